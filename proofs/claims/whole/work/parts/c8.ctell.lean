section TLI
variable {G : Nat → Int} {e a q : Nat} {N : nt}
theorem r1_sp {v : Int × Int} {r : Nat} (qe : q ≤ e) (h : r1 G e a q = .inr (v, r)) : prK a v.1 v.2 ∧ r ≤ e := by
  rcases acE_le a with eA | eA | eA
  · rw [r1_e0 eA] at h
    cases h
    have : a = 5 := by unfold acE at eA; split at eA <;> first | assumption | (split at eA <;> cases eA)
    exact ⟨⟨fun z => by omega, fun z => by omega⟩, qe⟩
  · cases nb : nuB G e (acL a) (acH a 0) q with
    | false => rw [r1_no (by omega) nb] at h; cases h
    | true =>
      rw [r1_e1 eA nb] at h
      cases h
      have b1 := nu_bd nb
      refine ⟨⟨fun z => ?_, fun z => ?_⟩, (nu_pos qe nb).2.2.2.1⟩
      · rw [z] at b1; exact b1
      · rw [z] at eA; cases eA
  · cases nb : nuB G e (acL a) (acH a 0) q with
    | false => rw [r1_no (by omega) nb] at h; cases h
    | true =>
      have np := nu_pos qe nb
      cases nb2 : nuB G e (acL a) (acH a 1) (nuN G e q) with
      | false => rw [r1_n2 eA nb nb2] at h; cases h
      | true =>
        rw [r1_e2 eA nb nb2] at h
        cases h
        have b1 := nu_bd nb2
        refine ⟨⟨fun z => ?_, fun z => ?_⟩, (nu_pos np.2.2.2.1 nb2).2.2.2.1⟩
        · rw [z] at eA; cases eA
        · rw [z] at b1; exact b1
theorem rL_sp : ∀ (n q : Nat) (l : List (Int × Int)) (r : Nat), q ≤ e → rL G e a n q = .inr (l, r) → (∀ v ∈ l, prK a v.1 v.2) ∧ l.length ≤ n ∧ (¬ (a = 1 ∨ a = 2) → l.length ≤ 1) ∧ r ≤ e := by
  intro n
  induction n with
  | zero =>
    intro q l r qe h
    rw [rL] at h
    cases h
    exact ⟨fun v hv => absurd hv List.not_mem_nil, Nat.le_refl _, fun _ => Nat.zero_le _, qe⟩
  | succ n ih =>
    intro q l r qe h
    rw [rL] at h
    cases h1 : r1 G e a q with
    | inl z => rw [h1] at h; cases h
    | inr z =>
      obtain ⟨v, q2⟩ := z
      rw [h1] at h
      simp only at h
      have s1 := r1_sp qe h1
      cases hc : rLc G e a q2 with
      | false =>
        rw [if_neg (by rw [hc]; exact Bool.false_ne_true)] at h
        cases h
        exact ⟨fun w hw => by rw [List.mem_singleton.mp hw]; exact s1.1, by simp, fun _ => by simp, s1.2⟩
      | true =>
        rw [if_pos hc] at h
        have ra : a = 1 ∨ a = 2 := by
          unfold rLc at hc
          rw [Bool.and_eq_true, Bool.or_eq_true] at hc
          exact hc.1.elim (fun z => Or.inl (of_decide_eq_true z)) (fun z => Or.inr (of_decide_eq_true z))
        have q2e : q2 < e := by
          unfold rLc at hc
          rw [Bool.and_eq_true] at hc
          exact (of_decide_eq_true hc.2).1
        cases h2 : rL G e a n (wh qB G e (q2 + 1)) with
        | inl z => rw [h2] at h; cases h
        | inr z =>
          obtain ⟨l2, r2⟩ := z
          rw [h2] at h
          cases h
          have i2 := ih _ _ _ (wh_le (by omega)) h2
          refine ⟨fun w hw => ?_, ?_, fun z => absurd ra z, i2.2.2.2⟩
          · rcases List.mem_cons.mp hw with rfl | hw
            · exact s1.1
            · exact i2.1 w hw
          · rw [List.length_cons]; exact Nat.succ_le_succ i2.2.1
def wA (a : Nat) : Nat := if a = 4 then 36000 else 600
def bdM (N : nt) (m : Nat) : Prop := riN N + m ≤ 1000000000 ∧ loN N + m ≤ 1000000000
theorem doL_inv (ha : a < 7) : ∀ (l : List (Int × Int)) (N : nt), INV N → (∀ v ∈ l, prK a v.1 v.2) → bdM N (36000 + wA a * l.length) → INV (doL a N l).1 ∧ riN (doL a N l).1 ≤ riN N + wA a * l.length ∧ loN (doL a N l).1 ≤ loN N + wA a * l.length := by
  intro l
  induction l with
  | nil => intro N iv _ _; exact ⟨iv, Nat.le_add_right _ _, Nat.le_add_right _ _⟩
  | cons v l ih =>
    intro N iv hp bd
    rw [doL]
    rw [List.length_cons, Nat.mul_succ] at bd ⊢
    unfold bdM at bd
    by_cases c0 : cod N a v.1 v.2 = 0
    · rw [if_pos c0]
      have pi := prf_inv iv ha c0 (hp v List.mem_cons_self) ⟨by omega, by omega⟩
      have p1 : riN (prf N a v.1 v.2).1 ≤ riN N + wA a := pi.2.1
      have p2 : loN (prf N a v.1 v.2).1 ≤ loN N + wA a := pi.2.2
      have := ih (prf N a v.1 v.2).1 pi.1 (fun w hw => hp w (List.mem_cons_of_mem _ hw)) (by unfold bdM; omega)
      exact ⟨this.1, by have := this.2.1; omega, by have := this.2.2; omega⟩
    · rw [if_neg c0]
      exact ⟨iv, by dsimp only; omega, by dsimp only; omega⟩
theorem wA_l {l : List (Int × Int)} (h1 : l.length ≤ 201) (h2 : ¬ (a = 1 ∨ a = 2) → l.length ≤ 1) : wA a * l.length ≤ 120600 := by
  unfold wA
  by_cases a4 : a = 4
  · rw [if_pos a4]
    have := h2 (by omega)
    omega
  · rw [if_neg a4]; omega
theorem oneA_inv (iv : INV N) (qe : q ≤ e) (bd : bdM N 160000) : INV (oneA G e N q).1 ∧ riN (oneA G e N q).1 ≤ riN N + 120600 ∧ loN (oneA G e N q).1 ≤ loN N + 120600 ∧ ∀ r, (oneA G e N q).2.2 = .inr r → r ≤ e := by
  unfold oneA
  cases hk : kdO G q (wh qW G e q) with
  | none => exact ⟨iv, by simp, by simp, fun r hr => by cases hr⟩
  | some a =>
    simp only
    have ha := (kdO_sp hk).1
    cases hr : rL G e a 201 (wh qB G e (wh qW G e q)) with
    | inl r => exact ⟨iv, by simp, by simp, fun r hr => by cases hr⟩
    | inr z =>
      obtain ⟨l, r⟩ := z
      simp only
      have sp := rL_sp 201 _ l r (wh_le (wh_le qe)) hr
      have w := wA_l (a := a) sp.2.1 sp.2.2.1
      unfold bdM at bd
      have di := doL_inv ha l N iv sp.1 (by unfold bdM; omega)
      by_cases c0 : (doL a N l).2 = 0
      · rw [if_pos c0]
        refine ⟨di.1, by have := di.2.1; dsimp only; omega, by have := di.2.2; dsimp only; omega, fun r2 h2 => ?_⟩
        cases h2
        exact sp.2.2.2
      · rw [if_neg c0]
        exact ⟨di.1, by have := di.2.1; dsimp only; omega, by have := di.2.2; dsimp only; omega, fun r2 h2 => by cases h2⟩
end TLI
def addn (n : Nat) (R : nt × Nat × Option Nat × Nat) : nt × Nat × Option Nat × Nat := (R.1, R.2.1, R.2.2.1, R.2.2.2 + n)
def ftI (x : Option Nat) : Int := (x.map (fun d => (d : Int))).getD (-1)
section TLP
variable {G : Nat → Int} {e q n m : Nat} {N N' : nt}
theorem lp_0 : addn m (lpA G e 0 N q) = (N, 0, some q, m) := by rw [lpA]; unfold addn; simp
theorem lp_f {c r : Nat} (h : oneA G e N q = (N', c, .inl r)) : addn m (lpA G e (n + 1) N q) = (N', c, some r, m) := by rw [lpA, h]; unfold addn; simp
theorem lp_e {c r : Nat} (h : oneA G e N q = (N', c, .inr r)) (hr : ¬ r < e) : addn m (lpA G e (n + 1) N q) = (N', 0, none, m + 1) := by
  rw [lpA, h]; simp only; rw [if_neg hr]; unfold addn; simp [Nat.add_comm]
theorem lp_w {c r : Nat} (h : oneA G e N q = (N', c, .inr r)) (hr : r < e) (hg : G r ≠ 59) : addn m (lpA G e (n + 1) N q) = (N', 0, some r, m) := by
  rw [lpA, h]; simp only; rw [if_pos hr, if_neg hg]; unfold addn; simp
theorem lp_s {c r : Nat} (h : oneA G e N q = (N', c, .inr r)) (hr : r < e) (hg : G r = 59) : addn m (lpA G e (n + 1) N q) = addn (m + 1) (lpA G e n N' (wh qB G e (r + 1))) := by
  rw [lpA, h]; simp only; rw [if_pos hr, if_pos hg]; unfold addn; simp [Nat.add_assoc, Nat.add_comm]
theorem one_n (h : kdO G q (wh qW G e q) = none) : oneA G e N q = (N, 0, .inl q) := by unfold oneA; rw [h]
theorem one_l {a r : Nat} (h : kdO G q (wh qW G e q) = some a) (h2 : rL G e a 201 (wh qB G e (wh qW G e q)) = .inl r) : oneA G e N q = (N, 0, .inl r) := by unfold oneA; rw [h]; simp only; rw [h2]
theorem one_0 {a r : Nat} {l : List (Int × Int)} (h : kdO G q (wh qW G e q) = some a) (h2 : rL G e a 201 (wh qB G e (wh qW G e q)) = .inr (l, r)) (c0 : (doL a N l).2 = 0) : oneA G e N q = ((doL a N l).1, 0, .inr r) := by unfold oneA; rw [h]; simp only; rw [h2]; simp only; rw [if_pos c0]
theorem one_c {a r : Nat} {l : List (Int × Int)} (h : kdO G q (wh qW G e q) = some a) (h2 : rL G e a 201 (wh qB G e (wh qW G e q)) = .inr (l, r)) (c0 : (doL a N l).2 ≠ 0) : oneA G e N q = ((doL a N l).1, (doL a N l).2, .inl q) := by unfold oneA; rw [h]; simp only; rw [h2]; simp only; rw [if_neg c0]
end TLP
