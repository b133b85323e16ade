/-! ONE LEVEL: its tree cables K, its tours T -/
def ly1 (T : Nat → List Int) (w : List Int) : Nat → List Int := fun n => if (n : Int) ∈ w then w else T n
def nds (t : List Int) : Nat := cnt (fun m => decide ((m : Int) ∈ t)) 16
def FL (e0 e1 : Nat → Nat) (K : Nat → Prop) (T : Nat → List Int) : Prop :=
  (∀ n, n < 16 → okT (T n) ∧ gT e0 e1 (T n) ∧ (n : Int) ∈ T n ∧ (∀ m : Nat, m < 16 → (m : Int) ∈ T n → T m = T n) ∧ (T n).length + 2 = 3 * nds (T n)) ∧
  (∀ n c : Nat, n < 16 → (100 + (c : Int)) ∈ T n → K c) ∧
  (∀ c, K c → (e0 c < 16 ∧ e1 c < 16) ∧ (100 + (c : Int)) ∈ T (e0 c)) ∧
  (∀ n m : Nat, n < 16 → m < 16 → (m : Int) ∈ T n → ∀ Q : Nat → Prop, Q n → (∀ c, K c → (Q (e0 c) ↔ Q (e1 c))) → Q m)
theorem nds_le (t : List Int) : nds t ≤ 16 := cnt_le _ _
theorem cnt_or {p q : Nat → Bool} (h : ∀ i, ¬ (p i = true ∧ q i = true)) : ∀ n, cnt (fun i => p i || q i) n = cnt p n + cnt q n
  | 0 => rfl
  | n + 1 => by
    rw [cnt_s, cnt_s, cnt_s, cnt_or h n]
    have := h n
    cases hp : p n <;> cases hq : q n <;> simp_all <;> omega
theorem nds_or {a b t : List Int} (hd : ∀ n : Nat, n < 16 → ¬ ((n : Int) ∈ a ∧ (n : Int) ∈ b)) (h : ∀ n : Nat, n < 16 → ((n : Int) ∈ t ↔ (n : Int) ∈ a ∨ (n : Int) ∈ b)) : nds t = nds a + nds b := by
  unfold nds
  have e1 : cnt (fun m => decide ((m : Int) ∈ t)) 16 = cnt (fun m => (decide ((m : Int) ∈ a) && decide (m < 16)) || (decide ((m : Int) ∈ b) && decide (m < 16))) 16 := by
    apply cnt_congr
    intro i hi
    have := h i hi
    by_cases z1 : (i : Int) ∈ a <;> by_cases z2 : (i : Int) ∈ b <;> simp [this, z1, z2, hi]
  have e2 : cnt (fun m => decide ((m : Int) ∈ a)) 16 = cnt (fun m => decide ((m : Int) ∈ a) && decide (m < 16)) 16 := cnt_congr (fun i hi => by simp [hi])
  have e3 : cnt (fun m => decide ((m : Int) ∈ b)) 16 = cnt (fun m => decide ((m : Int) ∈ b) && decide (m < 16)) 16 := cnt_congr (fun i hi => by simp [hi])
  rw [e1, e2, e3]
  apply cnt_or
  rintro i ⟨z1, z2⟩
  simp only [Bool.and_eq_true, decide_eq_true_eq] at z1 z2
  exact hd i z1.2 ⟨z1.1, z2.1⟩
theorem nds_eq {a b : List Int} (h : ∀ n : Nat, n < 16 → ((n : Int) ∈ a ↔ (n : Int) ∈ b)) : nds a = nds b := cnt_congr (fun i hi => by simp [h i hi])
section FLS
variable {e0 e1 : Nat → Nat} {K K' : Nat → Prop} {T : Nat → List Int}
theorem FL_len (h : FL e0 e1 K T) {n : Nat} (hn : n < 16) : (T n).length ≤ 46 := by
  have := (h.1 n hn).2.2.2.2
  have := nds_le (T n)
  omega
theorem FL_one (h : FL e0 e1 K T) {n x m : Nat} (hn : n < 16) (hx : x < 16) (hm : m < 16) (h1 : (m : Int) ∈ T n) (h2 : (m : Int) ∈ T x) : T n = T x := by rw [← (h.1 n hn).2.2.2.1 m hm h1, (h.1 x hx).2.2.2.1 m hm h2]
theorem FL_sym (h : FL e0 e1 K T) {n m : Nat} (hn : n < 16) (hm : m < 16) (h1 : (m : Int) ∈ T n) : (n : Int) ∈ T m := by rw [(h.1 n hn).2.2.2.1 m hm h1]; exact (h.1 n hn).2.2.1
/-- a cable's ends are one tree's -/
theorem FL_ends (h : FL e0 e1 K T) {c : Nat} (hc : K c) : (e1 c : Int) ∈ T (e0 c) ∧ T (e1 c) = T (e0 c) := by
  have a := h.2.2.1 c hc
  have b := gT_ends (h.1 _ a.1.1).2.1 a.2
  exact ⟨b.2, (h.1 _ a.1.1).2.2.2.1 _ a.1.2 b.2⟩
theorem FL_K (h : FL e0 e1 K T) (hk : ∀ c, K' c ↔ K c) : FL e0 e1 K' T := by
  have : K' = K := funext fun c => propext (hk c)
  rw [this]; exact h
theorem gT_congr {a0 a1 : Nat → Nat} {t : List Int} (h : gT e0 e1 t) (hc : ∀ c : Nat, (100 + (c : Int)) ∈ t → a0 c = e0 c ∧ a1 c = e1 c) : gT a0 a1 t := by
  refine ⟨h.1, fun c hm => ?_, fun c d hne hm hd => ?_, h.2.2.2⟩
  · rw [(hc c hm).1, (hc c hm).2]; exact h.2.1 c hm
  · rw [(hc c hm).1, (hc c hm).2]; exact h.2.2.1 c d hne hm hd
theorem FL_E {a0 a1 : Nat → Nat} (h : FL e0 e1 K T) (hc : ∀ c, K c → a0 c = e0 c ∧ a1 c = e1 c) : FL a0 a1 K T := by
  refine ⟨fun n hn => ?_, h.2.1, fun c hk => ?_, fun n m hn hm hmn Q hQ hcl => ?_⟩
  · obtain ⟨z1, z2, z3⟩ := h.1 n hn
    exact ⟨z1, gT_congr z2 (fun c hm => hc c (h.2.1 n c hn hm)), z3⟩
  · rw [(hc c hk).1, (hc c hk).2]; exact h.2.2.1 c hk
  · refine h.2.2.2 n m hn hm hmn Q hQ (fun c hk => ?_)
    have := hcl c hk
    rwa [(hc c hk).1, (hc c hk).2] at this
theorem nds_one (n : Nat) (hn : n < 16) : nds [(n : Int)] = 1 := by
  have z : ∀ j : Nat, j ≤ n → cnt (fun m => decide ((m : Int) ∈ [(n : Int)])) j = 0 := by
    intro j
    induction j with
    | zero => intro _; rfl
    | succ j ij =>
      intro hj
      rw [cnt_s, ij (by omega), if_neg]
      simp
      omega
  have w : ∀ j : Nat, n < j → cnt (fun m => decide ((m : Int) ∈ [(n : Int)])) j = 1 := by
    intro j
    induction j with
    | zero => intro h; omega
    | succ j ij =>
      intro hj
      rw [cnt_s]
      by_cases e : n = j
      · subst e
        rw [z n (Nat.le_refl _), if_pos (by simp)]
      · rw [ij (by omega), if_neg]
        simp
        omega
  exact w 16 hn
theorem FL_start : FL e0 e1 (fun _ => False) (fun n => [(n : Int)]) := by
  refine ⟨fun n hn => ⟨?_, gT_one hn, by simp, fun m hm h => ?_, ?_⟩, fun n c hn h => ?_, fun c h => h.elim, fun n m hn hm h Q hQ _ => ?_⟩
  · intro v hv
    rw [List.mem_singleton.mp hv]
    left; omega
  · have := List.mem_singleton.mp h
    obtain rfl : m = n := by omega
    rfl
  · rw [nds_one n hn]
    rfl
  · have := List.mem_singleton.mp h; omega
  · have := List.mem_singleton.mp h
    obtain rfl : m = n := by omega
    exact hQ
/-- a good tour's length: nodes and, less one, brackets by twos -/
theorem gT_len : ∀ (n : Nat) (t : List Int), t.length ≤ n → okT t → gT e0 e1 t → ∀ x : Nat, x < 16 → (x : Int) ∈ t → t.length + 2 = 3 * nds t := by
  intro n
  induction n with
  | zero =>
    intro t ht _ _ x _ hx
    rw [List.length_eq_zero_iff.mp (Nat.le_zero.mp ht)] at hx
    cases hx
  | succ n ih =>
    intro t ht ok g x hx hxt
    by_cases hb : ∃ c : Nat, (100 + (c : Int)) ∈ t
    · obtain ⟨c, hc⟩ := hb
      have g2 := g.2.1 c hc
      have gio := gT_io g hc
      have sub := fun v => io_sub (v := v) g2.1
      have l4 := nds_or (t := t) (a := inL t (100 + (c : Int))) (b := outL t (100 + (c : Int))) (fun n hn z => gT_ex g hc hn z) (fun n hn => io_mem g2.1 (by omega))
      have lio : (inL t (100 + (c : Int))).length + (outL t (100 + (c : Int))).length + 2 = t.length := by
        obtain ⟨pp, mm, qq, et, hpp, hmm, hqq⟩ := spl2 g2.1
        rw [et, inL_eq hpp hmm, outL_eq hpp hmm]
        simp only [List.length_append, List.length_cons]
        omega
      obtain ⟨u, v, hu, hv, mu, mv⟩ : ∃ u v : Nat, u < 16 ∧ v < 16 ∧ (u : Int) ∈ inL t (100 + (c : Int)) ∧ (v : Int) ∈ outL t (100 + (c : Int)) := by
        rcases g2.2.2 with z | z
        · exact ⟨_, _, g2.2.1.1, g2.2.1.2, z.1, z.2⟩
        · exact ⟨_, _, g2.2.1.2, g2.2.1.1, z.2, z.1⟩
      have i1 := ih _ (by omega) (fun w hw => ok w ((sub w).1 hw)) gio.1 u hu mu
      have i2 := ih _ (by omega) (fun w hw => ok w ((sub w).2 hw)) gio.2 v hv mv
      omega
    · have all : ∀ v ∈ t, v = (x : Int) := by
        intro v hv
        rcases ok v hv with z | z
        · obtain ⟨m, hm, rfl⟩ := ip (n := 16) (x := v) (by omega)
          by_cases e : m = x
          · rw [e]
          · obtain ⟨d, hd, _⟩ := g.2.2.2 m x hm hx e hv hxt
            exact absurd ⟨d, hd⟩ hb
        · exact absurd ⟨(v - 100).toNat, by rw [show (100 : Int) + ((v - 100).toNat : Int) = v by omega]; exact hv⟩ hb
      obtain ⟨p, q, rfl, hp⟩ := spl1 hxt
      have ep : p = [] := by
        cases p with
        | nil => rfl
        | cons y p => exact absurd (all y (by simp)) (fun e => hp (by simp [e]))
      have eq : q = [] := by
        cases q with
        | nil => rfl
        | cons y q =>
          have := g.1 x hx
          rw [all y (by simp), List.count_append, List.count_cons_self, List.count_cons_self] at this
          omega
      subst ep eq
      show 1 + 2 = 3 * nds [(x : Int)]
      rw [nds_one x hx]
def jw1 (T : Nat → List Int) (c x y : Nat) : List Int := trn (T x) (x : Int) ++ [100 + (c : Int)] ++ trn (T y) (y : Int) ++ [100 + (c : Int)]
theorem jw1_mem (h : FL e0 e1 K T) {c x y : Nat} (hx : x < 16) (hy : y < 16) (v : Int) : v ∈ jw1 T c x y ↔ v ∈ T x ∨ v ∈ T y ∨ v = 100 + (c : Int) := by
  unfold jw1
  simp only [List.mem_append, List.mem_singleton, trn_mem (h.1 x hx).2.2.1, trn_mem (h.1 y hy).2.2.1]
  constructor
  · rintro (((h | h) | h) | h) <;> simp [h]
  · rintro (h | h | h) <;> simp [h]
theorem trn_head {t : List Int} {x : Int} (h : x ∈ t) : ∃ a, trn t x = x :: a := by
  obtain ⟨p, q, rfl, hp⟩ := spl1 h
  exact ⟨q ++ p, by rw [trn_eq hp]; rfl⟩
theorem FL_apart (h : FL e0 e1 K T) {x y : Nat} (hx : x < 16) (hy : y < 16) (hne : (y : Int) ∉ T x) : ∀ v : Int, v ∈ T x → v ∉ T y := by
  intro v h1 h2
  rcases (h.1 x hx).1 v h1 with z | z
  · obtain ⟨n, hn, rfl⟩ := ip (n := 16) (x := v) (by omega)
    have := FL_one h hx hy hn h1 h2
    rw [this] at hne
    exact hne (h.1 y hy).2.2.1
  · obtain ⟨c, hc⟩ : ∃ c : Nat, v = 100 + (c : Int) := ⟨(v - 100).toNat, by omega⟩
    subst hc
    have a := gT_ends (h.1 x hx).2.1 h1
    have b := gT_ends (h.1 y hy).2.1 h2
    have k := h.2.2.1 c (h.2.1 x c hx h1)
    have := FL_one h hx hy k.1.1 a.1 b.1
    rw [this] at hne
    exact hne (h.1 y hy).2.2.1
theorem FL_join (h : FL e0 e1 K T) {c x y : Nat} (ex : e0 c = x) (ey : e1 c = y) (hx : x < 16) (hy : y < 16) (hc : ¬ K c) (c60 : c < 60) (hne : (y : Int) ∉ T x) (hK : ∀ d, K' d ↔ K d ∨ d = c) : FL e0 e1 K' (ly1 T (jw1 T c x y)) := by
  have hap := FL_apart h hx hy hne
  have mem := jw1_mem (c := c) h hx hy
  have gx := h.1 x hx
  have gy := h.1 y hy
  have bx : (100 + (c : Int)) ∉ T x := fun z => hc (h.2.1 x c hx z)
  have by' : (100 + (c : Int)) ∉ T y := fun z => hc (h.2.1 y c hy z)
  have xT : ∀ n : Nat, n < 16 → (n : Int) ∉ jw1 T c x y → ∀ m : Nat, m < 16 → (m : Int) ∈ T n → (m : Int) ∉ jw1 T c x y := by
    intro n hn hnw m hm hmn hmw
    rcases (mem _).mp hmw with z | z | z
    · exact hnw ((mem _).mpr (Or.inl (by rw [← FL_one h hn hx hm hmn z]; exact (h.1 n hn).2.2.1)))
    · exact hnw ((mem _).mpr (Or.inr (Or.inl (by rw [← FL_one h hn hy hm hmn z]; exact (h.1 n hn).2.2.1))))
    · omega
  refine ⟨fun n hn => ?_, fun n d hn hd => ?_, fun d hd => ?_, fun n m hn hm hmn Q hQ hcl => ?_⟩
  · unfold ly1
    by_cases e : (n : Int) ∈ jw1 T c x y
    · rw [if_pos e]
      refine ⟨?_, ?_, e, fun m hm hmw => by rw [if_pos hmw], ?_⟩
      · intro v hv
        rcases (mem v).mp hv with z | z | z
        · exact gx.1 v z
        · exact gy.1 v z
        · right; omega
      · obtain ⟨a, ha⟩ := trn_head gx.2.2.1
        obtain ⟨b, hb⟩ := trn_head gy.2.2.1
        exact gT_join (gT_trn gx.2.1 gx.2.2.1) (gT_trn gy.2.1 gy.2.2.1) ex ey hx hy ha hb (fun v h1 h2 => hap v ((trn_mem gx.2.2.1).mp h1) ((trn_mem gy.2.2.1).mp h2)) (fun z => bx ((trn_mem gx.2.2.1).mp z)) (fun z => by' ((trn_mem gy.2.2.1).mp z))
      · have l1 := gx.2.2.2.2
        have l2 := gy.2.2.2.2
        have l3 : (jw1 T c x y).length = (T x).length + (T y).length + 2 := by
          unfold jw1
          simp only [List.length_append, List.length_singleton, trn_len gx.2.2.1, trn_len gy.2.2.1]
          omega
        have l4 := nds_or (t := jw1 T c x y) (a := T x) (b := T y) (fun n _ z => hap _ z.1 z.2) (fun n hn => by rw [mem]; constructor; (rintro (z | z | z); exact Or.inl z; exact Or.inr z; omega); (rintro (z | z); exact Or.inl z; exact Or.inr (Or.inl z)))
        omega
    · rw [if_neg e]
      obtain ⟨z1, z2, z3, z4, z5⟩ := h.1 n hn
      refine ⟨z1, z2, z3, fun m hm hmn => ?_, z5⟩
      rw [if_neg (xT n hn e m hm hmn)]
      exact z4 m hm hmn
  · unfold ly1 at hd
    rw [hK]
    by_cases e : (n : Int) ∈ jw1 T c x y
    · rw [if_pos e] at hd
      rcases (mem _).mp hd with z | z | z
      · exact Or.inl (h.2.1 x d hx z)
      · exact Or.inl (h.2.1 y d hy z)
      · right; omega
    · rw [if_neg e] at hd
      exact Or.inl (h.2.1 n d hn hd)
  · unfold ly1
    rcases (hK d).mp hd with z | rfl
    · obtain ⟨w1, w2⟩ := h.2.2.1 d z
      refine ⟨w1, ?_⟩
      by_cases e : (e0 d : Int) ∈ jw1 T c x y
      · rw [if_pos e, mem]
        rcases (mem _).mp e with q | q | q
        · rw [(h.1 x hx).2.2.2.1 _ w1.1 q] at w2; exact Or.inl w2
        · rw [(h.1 y hy).2.2.2.1 _ w1.1 q] at w2; exact Or.inr (Or.inl w2)
        · omega
      · rw [if_neg e]; exact w2
    · rw [ex, ey]
      refine ⟨⟨hx, hy⟩, ?_⟩
      rw [if_pos ((mem _).mpr (Or.inl gx.2.2.1))]
      exact (mem _).mpr (Or.inr (Or.inr rfl))
  · unfold ly1 at hmn
    have old : ∀ n m : Nat, n < 16 → m < 16 → (m : Int) ∈ T n → Q n → Q m := fun n m hn hm hmn hQ => h.2.2.2 n m hn hm hmn Q hQ (fun d hd => hcl d ((hK d).mpr (Or.inl hd)))
    have hxy : Q x ↔ Q y := by have := hcl c ((hK c).mpr (Or.inr rfl)); rwa [ex, ey] at this
    by_cases e : (n : Int) ∈ jw1 T c x y
    · rw [if_pos e] at hmn
      have qx : Q x := by
        rcases (mem _).mp e with z | z | z
        · exact old n x hn hx (FL_sym h hx hn z) hQ
        · exact hxy.mpr (old n y hn hy (FL_sym h hy hn z) hQ)
        · omega
      rcases (mem _).mp hmn with z | z | z
      · exact old x m hx hm z qx
      · exact old y m hy hm z (hxy.mp qx)
      · omega
    · rw [if_neg e] at hmn
      exact old n m hn hm hmn hQ
theorem FL_split (h : FL e0 e1 K T) {c x : Nat} (ex : e0 c = x) (hc : K c) (hK : ∀ d, K' d ↔ K d ∧ d ≠ c) : FL e0 e1 K' (ly1 (ly1 T (outL (T x) (100 + (c : Int)))) (inL (T x) (100 + (c : Int)))) := by
  obtain ⟨⟨hx, hy⟩, hb⟩ := h.2.2.1 c hc
  rw [ex] at hx hb
  have gx := h.1 x hx
  have g2 := gx.2.1.2.1 c hb
  have gio := gT_io gx.2.1 hb
  have hex : ∀ m : Nat, m < 16 → ¬ ((m : Int) ∈ inL (T x) (100 + (c : Int)) ∧ (m : Int) ∈ outL (T x) (100 + (c : Int))) := fun m hm => gT_ex gx.2.1 hb hm
  have mem : ∀ v : Int, v ≠ 100 + (c : Int) → (v ∈ T x ↔ v ∈ inL (T x) (100 + (c : Int)) ∨ v ∈ outL (T x) (100 + (c : Int))) := fun v hv => io_mem g2.1 hv
  have sub := fun v => io_sub (v := v) g2.1
  have hno := io_no g2.1
  have bd := fun d (hdc : d ≠ c) hd => gx.2.1.2.2.1 d c hdc hd hb
  have g3 := g2.2.2
  generalize hI : inL (T x) (100 + (c : Int)) = I at *
  generalize hO : outL (T x) (100 + (c : Int)) = O at *
  have val : ∀ n : Nat, n < 16 → (ly1 (ly1 T O) I n = I ∧ (n : Int) ∈ I) ∨ (ly1 (ly1 T O) I n = O ∧ (n : Int) ∈ O ∧ (n : Int) ∉ I) ∨ (ly1 (ly1 T O) I n = T n ∧ (n : Int) ∉ T x) := by
    intro n hn
    unfold ly1
    by_cases z1 : (n : Int) ∈ I
    · exact Or.inl ⟨if_pos z1, z1⟩
    · by_cases z2 : (n : Int) ∈ O
      · exact Or.inr (Or.inl ⟨by rw [if_neg z1, if_pos z2], z2, z1⟩)
      · refine Or.inr (Or.inr ⟨by rw [if_neg z1, if_neg z2], fun z => ?_⟩)
        rcases (mem _ (by omega)).mp z with q | q
        · exact z1 q
        · exact z2 q
  have vI : ∀ n : Nat, (n : Int) ∈ I → ly1 (ly1 T O) I n = I := fun n z => if_pos z
  have vO : ∀ n : Nat, n < 16 → (n : Int) ∈ O → ly1 (ly1 T O) I n = O := fun n hn z => by
    unfold ly1
    rw [if_neg (fun w => hex n hn ⟨w, z⟩), if_pos z]
  have vT : ∀ n : Nat, n < 16 → (n : Int) ∉ T x → ly1 (ly1 T O) I n = T n := fun n hn z => by
    unfold ly1
    rw [if_neg (fun w => z ((sub _).1 w)), if_neg (fun w => z ((sub _).2 w))]
  have ins : ∀ d, K d → ((e0 d : Int) ∈ T x ↔ (e1 d : Int) ∈ T x) := by
    intro d hd
    have k := h.2.2.1 d hd
    have e := FL_ends h hd
    constructor
    · intro z
      rw [← gx.2.2.2.1 _ k.1.1 z]; exact e.1
    · intro z
      have := gx.2.2.2.1 _ k.1.2 z
      rw [← this, e.2]; exact (h.1 _ k.1.1).2.2.1
  have Tin : ∀ d, K d → (e0 d : Int) ∈ T x → (100 + (d : Int)) ∈ T x := by
    intro d hd z
    have k := h.2.2.1 d hd
    rw [← gx.2.2.2.1 _ k.1.1 z]; exact k.2
  refine ⟨fun n hn => ?_, fun n d hn hd => ?_, fun d hd => ?_, fun n m hn hm hmn Q hQ hcl => ?_⟩
  · rcases val n hn with ⟨e, z⟩ | ⟨e, z, _⟩ | ⟨e, z⟩
    · have ok : okT I := fun v hv => gx.1 v ((sub v).1 hv)
      rw [e]
      exact ⟨ok, gio.1, z, fun m hm hmn => vI m hmn, gT_len _ _ (Nat.le_refl _) ok gio.1 n hn z⟩
    · have ok : okT O := fun v hv => gx.1 v ((sub v).2 hv)
      rw [e]
      exact ⟨ok, gio.2, z, fun m hm hmn => vO m hm hmn, gT_len _ _ (Nat.le_refl _) ok gio.2 n hn z⟩
    · rw [e]
      obtain ⟨z1, z2, z3, z4, z5⟩ := h.1 n hn
      refine ⟨z1, z2, z3, fun m hm hmn => ?_, z5⟩
      rw [vT m hm (fun w => z (by rw [← FL_one h hn hx hm hmn w]; exact z3))]
      exact z4 m hm hmn
  · rw [hK]
    rcases val n hn with ⟨e, z⟩ | ⟨e, z, _⟩ | ⟨e, z⟩
    · rw [e] at hd
      exact ⟨h.2.1 x d hx ((sub _).1 hd), fun q => hno.1 (q ▸ hd)⟩
    · rw [e] at hd
      exact ⟨h.2.1 x d hx ((sub _).2 hd), fun q => hno.2 (q ▸ hd)⟩
    · rw [e] at hd
      refine ⟨h.2.1 n d hn hd, fun q => ?_⟩
      subst q
      have a := gT_ends (h.1 n hn).2.1 hd
      rw [ex] at a
      exact z (FL_sym h hn hx a.1)
  · obtain ⟨k1, k2⟩ := (hK d).mp hd
    have k := h.2.2.1 d k1
    refine ⟨k.1, ?_⟩
    by_cases z : (e0 d : Int) ∈ T x
    · have w := Tin d k1 z
      rcases (mem _ (by omega)).mp w with q | q
      · rw [vI _ ((bd d k2 w).2.1 q).1]; exact q
      · rw [vO _ k.1.1 ((bd d k2 w).2.2 q).1]; exact q
    · rw [vT _ k.1.1 z]; exact k.2
  · have side : ∀ X : List Int, (∀ d, K d → d ≠ c → ((e0 d : Int) ∈ X ↔ (e1 d : Int) ∈ X)) → (((e0 c : Int) ∈ X ∧ (e1 c : Int) ∉ X) ∨ ((e0 c : Int) ∉ X ∧ (e1 c : Int) ∈ X)) → ∀ a b : Nat, a < 16 → b < 16 → (a : Int) ∈ X → (b : Int) ∈ X → (b : Int) ∈ T a → Q a → Q b := by
      intro X hX hz a b ha hb aX bX hab qa
      obtain ⟨z, hzz⟩ : ∃ z, (z = e0 c ∧ (e0 c : Int) ∈ X ∧ (e1 c : Int) ∉ X) ∨ (z = e1 c ∧ (e0 c : Int) ∉ X ∧ (e1 c : Int) ∈ X) := by
        rcases hz with q | q
        · exact ⟨_, Or.inl ⟨rfl, q⟩⟩
        · exact ⟨_, Or.inr ⟨rfl, q⟩⟩
      have r := h.2.2.2 a b ha hb hab (fun u => ((u : Int) ∈ X → Q u) ∧ ((u : Int) ∉ X → Q z)) ⟨fun _ => qa, fun w => absurd aX w⟩ (fun d hd => ?_)
      · exact r.1 bX
      · by_cases hdc : d = c
        · subst hdc
          rcases hzz with ⟨rfl, q1, q2⟩ | ⟨rfl, q1, q2⟩
          · exact ⟨fun w => ⟨fun y => absurd y q2, fun _ => w.1 q1⟩, fun w => ⟨fun _ => w.2 q2, fun y => absurd q1 y⟩⟩
          · exact ⟨fun w => ⟨fun _ => w.2 q1, fun y => absurd q2 y⟩, fun w => ⟨fun y => absurd y q1, fun _ => w.1 q2⟩⟩
        · have i1 := hX d hd hdc
          have i2 := hcl d ((hK d).mpr ⟨hd, hdc⟩)
          simp only [i1, i2]
    have s1 : ∀ d, K d → d ≠ c → ((e0 d : Int) ∈ I ↔ (e1 d : Int) ∈ I) ∧ ((e0 d : Int) ∈ O ↔ (e1 d : Int) ∈ O) := by
      intro d hd hdc
      have k := h.2.2.1 d hd
      by_cases z : (e0 d : Int) ∈ T x
      · have w := Tin d hd z
        rcases (mem _ (by omega)).mp w with q | q
        · have b := (bd d hdc w).2.1 q
          exact ⟨⟨fun _ => b.2, fun _ => b.1⟩, ⟨fun y => absurd ⟨b.1, y⟩ (hex _ k.1.1), fun y => absurd ⟨b.2, y⟩ (hex _ k.1.2)⟩⟩
        · have b := (bd d hdc w).2.2 q
          exact ⟨⟨fun y => absurd ⟨y, b.1⟩ (hex _ k.1.1), fun y => absurd ⟨y, b.2⟩ (hex _ k.1.2)⟩, ⟨fun _ => b.2, fun _ => b.1⟩⟩
      · have z' : (e1 d : Int) ∉ T x := fun w => z ((ins d hd).mpr w)
        exact ⟨⟨fun y => absurd ((sub _).1 y) z, fun y => absurd ((sub _).1 y) z'⟩, ⟨fun y => absurd ((sub _).2 y) z, fun y => absurd ((sub _).2 y) z'⟩⟩
    rcases val n hn with ⟨e, z⟩ | ⟨e, z, _⟩ | ⟨e, z⟩
    · rw [e] at hmn
      refine side I (fun d hd hdc => (s1 d hd hdc).1) ?_ n m hn hm z hmn ?_ hQ
      · rcases g3 with q | q
        · exact Or.inl ⟨q.1, fun y => hex _ g2.2.1.2 ⟨y, q.2⟩⟩
        · exact Or.inr ⟨fun y => hex _ g2.2.1.1 ⟨y, q.1⟩, q.2⟩
      · rw [gx.2.2.2.1 n hn ((sub _).1 z)]; exact (sub _).1 hmn
    · rw [e] at hmn
      refine side O (fun d hd hdc => (s1 d hd hdc).2) ?_ n m hn hm z hmn ?_ hQ
      · rcases g3 with q | q
        · exact Or.inr ⟨fun y => hex _ g2.2.1.1 ⟨q.1, y⟩, q.2⟩
        · exact Or.inl ⟨q.1, fun y => hex _ g2.2.1.2 ⟨q.2, y⟩⟩
      · rw [gx.2.2.2.1 n hn ((sub _).2 z)]; exact (sub _).2 hmn
    · rw [e] at hmn
      have r := h.2.2.2 n m hn hm hmn (fun u => (u : Int) ∉ T x ∧ Q u) ⟨z, hQ⟩ (fun d hd => ?_)
      · exact r.2
      · have i1 := ins d hd
        by_cases hdc : d = c
        · subst hdc
          have y1 : (e0 d : Int) ∈ T x := by rw [ex]; exact gx.2.2.1
          exact ⟨fun w => absurd y1 w.1, fun w => absurd (i1.mp y1) w.1⟩
        · have i2 := hcl d ((hK d).mpr ⟨hd, hdc⟩)
          simp only [i1, i2]
/-- behind a split the ends are of two trees -/
theorem FL_split_ne (h : FL e0 e1 K T) {c x : Nat} (ex : e0 c = x) (hc : K c) : (e1 c : Int) ∉ ly1 (ly1 T (outL (T x) (100 + (c : Int)))) (inL (T x) (100 + (c : Int))) x := by
  obtain ⟨⟨hx, hy⟩, hb⟩ := h.2.2.1 c hc
  rw [ex] at hx hb
  have gx := h.1 x hx
  have g2 := gx.2.1.2.1 c hb
  have hex := fun m hm => gT_ex (n := m) gx.2.1 hb hm
  unfold ly1
  rcases g2.2.2 with q | q
  · rw [ex] at q
    rw [if_pos q.1]
    exact fun y => hex _ g2.2.1.2 ⟨y, q.2⟩
  · rw [ex] at q
    rw [if_neg (fun y => hex _ hx ⟨y, q.1⟩), if_pos q.1]
    exact fun y => hex _ g2.2.1.2 ⟨q.2, y⟩
end FLS
