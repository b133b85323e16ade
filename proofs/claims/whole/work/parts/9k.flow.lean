/-! FLOWS, as such: sums; cables across a set; the fewest across -/
def sI (g : Nat → Int) : Nat → Int
  | 0 => 0
  | n + 1 => sI g n + g n
theorem sI_ext {g h : Nat → Int} : ∀ {n : Nat}, (∀ i, i < n → g i = h i) → sI g n = sI h n
  | 0, _ => rfl
  | n + 1, e => by rw [sI, sI, sI_ext (fun i hi => e i (by omega)), e n (by omega)]
theorem sI_us {g h : Nat → Int} {j : Nat} {d : Int} : ∀ {n : Nat}, j < n → (∀ i, i < n → h i = g i + (if i = j then d else 0)) → sI h n = sI g n + d
  | 0, hj, _ => absurd hj (by omega)
  | n + 1, hj, e => by
    rw [sI, sI, e n (by omega)]
    by_cases q : n = j
    · rw [if_pos q, sI_ext (g := h) (h := g) (n := n) (fun i hi => by rw [e i (by omega), if_neg (by omega), Int.add_zero])]
      omega
    · rw [if_neg q, sI_us (g := g) (h := h) (j := j) (d := d) (n := n) (by omega) (fun i hi => e i (by omega))]
      omega
theorem sI_nn {g : Nat → Int} : ∀ {n : Nat}, (∀ i, i < n → 0 ≤ g i) → 0 ≤ sI g n
  | 0, _ => by rw [sI]; omega
  | n + 1, e => by
    have := sI_nn (g := g) (n := n) (fun i hi => e i (by omega))
    have := e n (by omega)
    rw [sI]
    omega
theorem sI_le {g : Nat → Int} : ∀ {n : Nat}, (∀ i, i < n → g i ≤ 1) → sI g n ≤ (n : Int)
  | 0, _ => by rw [sI]; omega
  | n + 1, e => by
    have := sI_le (g := g) (n := n) (fun i hi => e i (by omega))
    have := e n (by omega)
    rw [sI]
    omega
theorem sI_0 {g : Nat → Int} : ∀ {n : Nat}, (∀ i, i < n → g i = 0) → sI g n = 0
  | 0, _ => rfl
  | n + 1, e => by rw [sI, sI_0 (fun i hi => e i (by omega)), e n (by omega)]; rfl
theorem cnt_us {p q : Nat → Bool} {n j : Nat} (hj : j < n) (hp : p j = false) (hq : ∀ i, q i = (p i || decide (i = j))) : cnt q n = cnt p n + 1 := by
  have e : cnt q n = cnt (fun i => p i || decide (i = j)) n := cnt_congr fun i _ => hq i
  have one : ∀ n, j < n → cnt (fun i => decide (i = j)) n = 1 := by
    intro n
    induction n with
    | zero => intro z; omega
    | succ n ih =>
      intro z
      rw [cnt_s]
      by_cases w : n = j
      · subst w
        have : cnt (fun i => decide (i = n)) n = 0 := by
          rw [cnt_congr (q := fun _ => false) (fun i hi => decide_eq_false (by omega))]
          simp [cnt]
        rw [this]
        simp
      · rw [ih (by omega)]
        simp [w]
  rw [e, cnt_or (fun i z => by
    have := of_decide_eq_true z.2
    subst this
    rw [hp] at z
    cases z.1), one n hj]
theorem cnt_all {p : Nat → Bool} {n : Nat} (h : n ≤ cnt p n) : ∀ i, i < n → p i = true := by
  intro i hi
  cases q : p i
  · have := cnt_lt (p := p) (q := fun _ => true) (n := n) (fun _ _ _ => rfl) hi q rfl
    have := cnt_le (fun _ => true) n
    omega
  · rfl
section FLW
variable {N : nt}
def crX (N : nt) (Q : Nat → Bool) (c : Nat) : Int := if thN N c = true then (if Q (cN N 0 c) = Q (cN N 1 c) then 0 else 1) else 0
def cutS (N : nt) (Q : Nat → Bool) : Int := sI (crX N Q) (ldN N)
def isCut (N : nt) (x y : Nat) (k : Nat) : Prop := (∃ Q : Nat → Bool, Q x = true ∧ Q y = false ∧ cutS N Q = (k : Int)) ∧ ∀ Q : Nat → Bool, Q x = true → Q y = false → (k : Int) ≤ cutS N Q
theorem isCut_un {x y k k' : Nat} (h : isCut N x y k) (h' : isCut N x y k') : k = k' := by
  obtain ⟨⟨Q, q1, q2, q3⟩, h2⟩ := h
  obtain ⟨⟨Q', q1', q2', q3'⟩, h2'⟩ := h'
  have a := h2 Q' q1' q2'
  have b := h2' Q q1 q2
  omega
theorem cutS_le (o : okB N) (Q : Nat → Bool) : cutS N Q ≤ 60 := by
  have := okl o
  have : cutS N Q ≤ (ldN N : Int) := sI_le fun i _ => by unfold crX; (repeat' split) <;> omega
  omega
/-- what is left across a set, cable by cable -/
def rsT (N : nt) (W : Nat → Int) (Q : Nat → Bool) (c : Nat) : Int := if thN N c = true then (if Q (cN N 0 c) = true then (if Q (cN N 1 c) = true then 0 else 1 - W c) else (if Q (cN N 1 c) = true then 1 + W c else 0)) else 0
def rsW (N : nt) (W : Nat → Int) (Q : Nat → Bool) : Int := sI (rsT N W Q) (ldN N)
def okW (N : nt) (W : Nat → Int) : Prop := ∀ c, c < ldN N → -1 ≤ W c ∧ W c ≤ 1
theorem rsW_0 {W : Nat → Int} (h : ∀ c, c < ldN N → W c = 0) (Q : Nat → Bool) : rsW N W Q = cutS N Q := sI_ext fun c hc => by
  unfold rsT crX
  rw [h c hc]
  cases Q (cN N 0 c) <;> cases Q (cN N 1 c) <;> simp
theorem rsW_nn {W : Nat → Int} (h : okW N W) (Q : Nat → Bool) : 0 ≤ rsW N W Q := sI_nn fun c hc => by
  have := h c hc
  unfold rsT
  (repeat' split) <;> omega
theorem rs_st {W : Nat → Int} {c : Nat} (hc : c < ldN N) (ht : thN N c = true) (d : Int) (Q : Nat → Bool) : rsW N (pm_us W c (W c + d)) Q = rsW N W Q + (if Q (cN N 0 c) = true then (if Q (cN N 1 c) = true then 0 else -d) else (if Q (cN N 1 c) = true then d else 0)) := by
  refine sI_us hc fun i hi => ?_
  by_cases e : i = c
  · subst e
    rw [if_pos rfl]
    unfold rsT
    rw [us_eq, if_pos ht, if_pos ht]
    (repeat' split) <;> omega
  · rw [if_neg e, Int.add_zero]
    unfold rsT
    rw [us_ne e]
/-- marks: each node has a cable to one that was there before -/
def mkC (B : Nat → Int) : Nat := cnt (fun v => decide (B v ≠ -1)) 16
theorem mkC_us {B : Nat → Int} {v : Nat} {z : Int} (hv : v < 16) (h : B v = -1) (hz : z ≠ -1) : mkC (pm_us B v z) = mkC B + 1 := by
  refine cnt_us hv (decide_eq_false (fun q => q h)) fun i => ?_
  by_cases e : i = v
  · subst e; rw [us_eq]; simp [hz]
  · rw [us_ne e]; simp [e]
def rkB (N : nt) (W B : Nat → Int) (x : Nat) (r : Nat → Nat) : Prop := B x ≠ -1 ∧ ∀ v, v < 16 → B v ≠ -1 → r v < mkC B ∧ (v ≠ x → ∃ c u : Nat, B v = (c : Int) ∧ c < ldN N ∧ caB N W c u = true ∧ ((cN N 0 c = u ∧ cN N 1 c = v) ∨ (cN N 1 c = u ∧ cN N 0 c = v)) ∧ B u ≠ -1 ∧ r u < r v)
theorem rk_add {W B : Nat → Int} {x : Nat} {r : Nat → Nat} {c u v : Nat} (h : rkB N W B x r) (o : okB N) (hc : c < ldN N) (he : (cN N 0 c = u ∧ cN N 1 c = v) ∨ (cN N 1 c = u ∧ cN N 0 c = v)) (q : cmB N W B c u v = true) : ∃ r', rkB N W (pm_us B v (c : Int)) x r' ∧ mkC (pm_us B v (c : Int)) = mkC B + 1 := by
  have o16 := ok16 o hc
  have oc := o.2.1 c hc
  unfold cmB at q
  rw [Bool.and_eq_true, Bool.and_eq_true, decide_eq_true_eq, decide_eq_true_eq] at q
  obtain ⟨q1, q2, q3⟩ := q
  have v16 : v < 16 := by omega
  have u16 : u < 16 := by omega
  have uv : u ≠ v := by omega
  have m1 := mkC_us (z := (c : Int)) v16 q2 (by omega)
  refine ⟨fun m => if m = v then mkC B else r m, ⟨?_, fun w w16 hw => ?_⟩, m1⟩
  · by_cases e : x = v
    · rw [e, us_eq]; omega
    · rw [us_ne e]; exact h.1
  · dsimp only
    by_cases e : w = v
    · subst e
      rw [if_pos rfl]
      refine ⟨by omega, fun _ => ⟨c, u, us_eq, hc, q3, he, by rw [us_ne uv]; exact q1, ?_⟩⟩
      rw [if_neg uv]
      exact (h.2 u u16 q1).1
    · rw [us_ne e] at hw
      rw [if_neg e]
      obtain ⟨z1, z2⟩ := h.2 w w16 hw
      refine ⟨by omega, fun wx => ?_⟩
      obtain ⟨c', u', p1, p2, p3, p4, p5, p6⟩ := z2 wx
      have u'v : u' ≠ v := fun z => by rw [z] at p5; exact p5 q2
      refine ⟨c', u', by rw [us_ne e]; exact p1, p2, p3, p4, by rw [us_ne u'v]; exact p5, ?_⟩
      rw [if_neg u'v]
      exact p6
theorem rk_0 {W : Nat → Int} {x : Nat} (hx : x < 16) {B : Nat → Int} (hb : ∀ m, m < 16 → B m = if m = x then 60 else -1) : rkB N W B x (fun _ => 0) := by
  have b0 : B x ≠ -1 := by rw [hb x hx, if_pos rfl]; omega
  have pos : 0 < mkC B := by
    have := cnt_lt (p := fun _ => false) (q := fun v => decide (B v ≠ -1)) (n := 16) (fun _ _ z => by cases z) hx rfl (decide_eq_true b0)
    show 0 < cnt (fun v => decide (B v ≠ -1)) 16
    omega
  refine ⟨b0, fun v hv hm => ⟨pos, fun vx => ?_⟩⟩
  rw [hb v hv, if_neg vx] at hm
  exact absurd rfl hm
/-- what is sent back along the marks -/
def paI (N : nt) (W B W' : Nat → Int) (r : Nat → Nat) (y v : Nat) : Prop := (v < 16 ∧ B v ≠ -1) ∧ okW N W' ∧ (∀ c, c < ldN N → r (cN N 0 c) ≤ r v → r (cN N 1 c) ≤ r v → W' c = W c) ∧ ∀ Q : Nat → Bool, rsW N W' Q = rsW N W Q + (b2 (Q y) - b2 (Q v))
theorem pa_st {W B W' : Nat → Int} {x y v : Nat} {r : Nat → Nat} (hk : rkB N W B x r) (o : okB N) (h : paI N W B W' r y v) (hv : v ≠ x) : ∃ c u : Nat, B v = (c : Int) ∧ c < ldN N ∧ ((cN N 0 c = u ∧ cN N 1 c = v) ∨ (cN N 1 c = u ∧ cN N 0 c = v)) ∧ r u < r v ∧ (-1 ≤ W' c ∧ W' c ≤ 1) ∧ paI N W B (pm_us W' c (W' c + (if cN N 1 c = v then 1 else -1))) r y u := by
  obtain ⟨⟨v16, hm⟩, h1, h2, h3⟩ := h
  obtain ⟨c, u, p1, p2, p3, p4, p5, p6⟩ := (hk.2 v v16 hm).2 hv
  have o16 := ok16 o p2
  have oc := o.2.1 c p2
  have wc := h1 c p2
  have same : W' c = W c := by
    rcases p4 with z | z
    · exact h2 c p2 (by rw [z.1]; exact Nat.le_of_lt p6) (Nat.le_of_eq (by rw [z.2]))
    · exact h2 c p2 (Nat.le_of_eq (by rw [z.2])) (by rw [z.1]; exact Nat.le_of_lt p6)
  unfold caB at p3
  rw [Bool.and_eq_true] at p3
  have bd : -1 ≤ W' c + (if cN N 1 c = v then 1 else -1) ∧ W' c + (if cN N 1 c = v then 1 else -1) ≤ 1 := by
    rcases p4 with z | z
    · have := p3.2
      rw [if_pos z.1, decide_eq_true_eq] at this
      rw [if_pos z.2]
      omega
    · have := p3.2
      rw [if_neg (by omega), decide_eq_true_eq] at this
      rw [if_neg (by omega)]
      omega
  refine ⟨c, u, p1, p2, p4, p6, wc, ⟨⟨by omega, p5⟩, fun d hd => ?_, fun d hd r0 r1 => ?_, fun Q => ?_⟩⟩
  · by_cases e : d = c
    · rw [e, us_eq]; exact bd
    · rw [us_ne e]; exact h1 d hd
  · by_cases e : d = c
    · subst e
      rcases p4 with z | z
      · rw [z.2] at r1; omega
      · rw [z.2] at r0; omega
    · rw [us_ne e]
      exact h2 d hd (by omega) (by omega)
  · rw [rs_st p2 p3.1, h3 Q]
    rcases p4 with z | z
    · rw [if_pos z.2, z.1, z.2]
      cases Q u <;> cases Q v <;> simp [b2] <;> omega
    · rw [if_neg (show ¬ cN N 1 c = v by omega), z.1, z.2]
      cases Q u <;> cases Q v <;> simp [b2] <;> omega
/-- nothing comes any more: all that leads out is used up -/
theorem rs_end {W B : Nat → Int} (hw : okW N W) (hn : ∀ c, c < ldN N → cmB N W B c (cN N 0 c) (cN N 1 c) = false ∧ cmB N W B c (cN N 1 c) (cN N 0 c) = false) (o : okB N) : rsW N W (fun v => decide (B v ≠ -1)) = 0 := sI_0 fun c hc => by
  have w := hw c hc
  have oc := o.2.1 c hc
  obtain ⟨n1, n2⟩ := hn c hc
  unfold cmB caB at n1 n2
  unfold rsT
  cases ht : thN N c
  · simp
  · rw [ht] at n1 n2
    rw [if_pos rfl] at n1
    rw [if_neg oc.2.2.1] at n2
    rw [if_pos rfl]
    by_cases q0 : B (cN N 0 c) = -1
    · by_cases q1 : B (cN N 1 c) = -1
      · simp [q0, q1]
      · simp [q0, q1] at n2 ⊢
        omega
    · by_cases q1 : B (cN N 1 c) = -1
      · simp [q0, q1] at n1 ⊢
        omega
      · simp [q0, q1]
/-- the same, by pairs of nodes -/
def rcW (R : Nat → Int) (Q : Nat → Bool) : Int := sI (fun j => if Q (j / 16) = true ∧ Q (j % 16) = false then R j else 0) 256
theorem rc_st (R : Nat → Int) {u v : Nat} (hu : u < 16) (hv : v < 16) (d : Int) (Q : Nat → Bool) : rcW (pm_us R (16 * u + v) (R (16 * u + v) + d)) Q = rcW R Q + (if Q u = true ∧ Q v = false then d else 0) := by
  refine sI_us (j := 16 * u + v) (by omega) fun i hi => ?_
  by_cases e : i = 16 * u + v
  · subst e
    rw [if_pos rfl, us_eq, show (16 * u + v) / 16 = u by omega, show (16 * u + v) % 16 = v by omega]
    split <;> omega
  · rw [if_neg e, us_ne e, Int.add_zero]
theorem rcW_nn {R : Nat → Int} (h : ∀ j, j < 256 → 0 ≤ R j) (Q : Nat → Bool) : 0 ≤ rcW R Q := sI_nn fun j hj => by
  have := h j hj
  show 0 ≤ (if Q (j / 16) = true ∧ Q (j % 16) = false then R j else 0)
  split <;> omega
theorem rc_end {R M : Nat → Int} (h : ∀ j, j < 256 → 0 ≤ R j) (hn : ∀ u v, u < 16 → v < 16 → M u ≠ -1 → M v ≠ -1 ∨ R (16 * u + v) ≤ 0) : rcW R (fun v => decide (M v ≠ -1)) = 0 := sI_0 fun j hj => by
  show (if decide (M (j / 16) ≠ -1) = true ∧ decide (M (j % 16) ≠ -1) = false then R j else 0) = 0
  split
  · rename_i q
    have a := hn (j / 16) (j % 16) (by omega) (by omega) (of_decide_eq_true q.1)
    rw [show 16 * (j / 16) + j % 16 = j by omega] at a
    have b := of_decide_eq_false q.2
    have := h j hj
    rcases a with z | z
    · exact absurd z b
    · omega
  · rfl
def rkM (R M : Nat → Int) (x : Nat) (r : Nat → Nat) : Prop := M x ≠ -1 ∧ ∀ v, v < 16 → M v ≠ -1 → r v < 16 ∧ (v ≠ x → ∃ u : Nat, u < 16 ∧ M v = (u : Int) ∧ 0 < R (16 * u + v) ∧ M u ≠ -1 ∧ r u < r v)
def pcI (R M R' : Nat → Int) (r : Nat → Nat) (y v : Nat) (t : Int) : Prop := (v < 16 ∧ M v ≠ -1) ∧ (∀ j, j < 256 → 0 ≤ R' j ∧ R' j ≤ t) ∧ (∀ a c, a < 16 → c < 16 → r a ≤ r v → r c ≤ r v → R' (16 * a + c) = R (16 * a + c)) ∧ ∀ Q : Nat → Bool, rcW R' Q = rcW R Q + (b2 (Q y) - b2 (Q v))
theorem pc_st {R M R' : Nat → Int} {x y v : Nat} {r : Nat → Nat} {t : Int} (hk : rkM R M x r) (h : pcI R M R' r y v t) (hv : v ≠ x) : ∃ u : Nat, u < 16 ∧ M v = (u : Int) ∧ r u < r v ∧ u ≠ v ∧ pcI R M (pm_us (pm_us R' (16 * u + v) (R' (16 * u + v) + -1)) (16 * v + u) (R' (16 * v + u) + 1)) r y u (t + 1) := by
  obtain ⟨⟨v16, hm⟩, h1, h2, h3⟩ := h
  obtain ⟨u, u16, p1, p2, p3, p4⟩ := (hk.2 v v16 hm).2 hv
  have uv : u ≠ v := fun z => by rw [z] at p4; omega
  have same : R' (16 * u + v) = R (16 * u + v) := h2 u v u16 v16 (by omega) (by omega)
  have ne : 16 * v + u ≠ 16 * u + v := by omega
  have eR : pm_us R' (16 * u + v) (R' (16 * u + v) + -1) (16 * v + u) = R' (16 * v + u) := us_ne ne
  refine ⟨u, u16, p1, p4, uv, ⟨⟨u16, p3⟩, fun j hj => ?_, fun a c a16 c16 ra rc => ?_, fun Q => ?_⟩⟩
  · have := h1 j hj
    by_cases e : j = 16 * v + u
    · rw [e, us_eq]
      rw [e] at this
      omega
    · rw [us_ne e]
      by_cases e2 : j = 16 * u + v
      · rw [e2, us_eq]
        rw [e2] at this
        omega
      · rw [us_ne e2]
        omega
  · rw [us_ne (fun z => by
      have : a = v := by omega
      rw [this] at ra
      omega), us_ne (fun z => by
      have : c = v := by omega
      rw [this] at rc
      omega)]
    exact h2 a c a16 c16 (by omega) (by omega)
  · have e1 := rc_st (pm_us R' (16 * u + v) (R' (16 * u + v) + -1)) v16 u16 1 Q
    rw [eR] at e1
    rw [e1, rc_st R' u16 v16 (-1) Q, h3 Q]
    cases Q u <;> cases Q v <;> simp [b2] <;> omega
end FLW
