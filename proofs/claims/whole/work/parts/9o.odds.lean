/-! SETS THAT TIE, as such: those that agree with what is settled -/
noncomputable def tiB (a0 a1 : Nat → Nat) (n x y s : Nat) : Bool := @decide (clo a0 a1 (fun k => Nat.testBit s k) n x y) (Classical.propDecidable _)
theorem tiB_iff {a0 a1 : Nat → Nat} {n x y s : Nat} : tiB a0 a1 n x y s = true ↔ clo a0 a1 (fun k => Nat.testBit s k) n x y := by
  unfold tiB
  exact @decide_eq_true_iff _ (Classical.propDecidable _)
def agB (m : Nat) (O H : Nat → Bool) (s : Nat) : Bool := (List.range m).all (fun k => O k || (Nat.testBit s k == H k))
theorem agB_iff {m : Nat} {O H : Nat → Bool} {s : Nat} : agB m O H s = true ↔ ∀ k, k < m → O k = false → Nat.testBit s k = H k := by
  unfold agB
  rw [List.all_eq_true]
  constructor
  · intro h k hk ho
    have := h k (List.mem_range.mpr hk)
    rw [ho] at this
    simpa using this
  · intro h k hk
    have := h k (List.mem_range.mp hk)
    cases q : O k
    · simp [this q]
    · simp
def kO (m : Nat) (O H q : Nat → Bool) : Nat := cnt (fun s => agB m O H s && q s) (2 ^ m)
def oM (O : Nat → Bool) (i : Nat) : Nat → Bool := fun k => O k && !decide (k = i)
def hS (H : Nat → Bool) (i : Nat) (v : Bool) : Nat → Bool := fun k => if k = i then v else H k
theorem agB_s {m : Nat} {O H : Nat → Bool} {i s : Nat} {v : Bool} (hi : i < m) (ho : O i = true) : agB m (oM O i) (hS H i v) s = true ↔ agB m O H s = true ∧ Nat.testBit s i = v := by
  rw [agB_iff, agB_iff]
  constructor
  · intro h
    refine ⟨fun k hk hok => ?_, ?_⟩
    · have ne : k ≠ i := fun z => by rw [z, ho] at hok; cases hok
      have := h k hk (by unfold oM; rw [hok]; rfl)
      unfold hS at this
      rw [if_neg ne] at this
      exact this
    · have := h i hi (by unfold oM; simp)
      unfold hS at this
      rw [if_pos rfl] at this
      exact this
  · intro h k hk hok
    unfold hS
    by_cases e : k = i
    · rw [if_pos e, e]
      exact h.2
    · rw [if_neg e]
      refine h.1 k hk ?_
      unfold oM at hok
      simpa [e] using hok
theorem kO_s {m : Nat} {O H q : Nat → Bool} {i : Nat} (hi : i < m) (ho : O i = true) : kO m O H q = kO m (oM O i) (hS H i true) q + kO m (oM O i) (hS H i false) q := by
  unfold kO
  rw [← cnt_or]
  · refine cnt_congr fun s _ => ?_
    have a := agB_s (H := H) (s := s) (v := true) hi ho
    have c := agB_s (H := H) (s := s) (v := false) hi ho
    cases q1 : agB m O H s
    · rw [q1] at a c
      have a' : agB m (oM O i) (hS H i true) s = false := by
        cases z : agB m (oM O i) (hS H i true) s
        · rfl
        · exact absurd (a.mp z).1 (by decide)
      have c' : agB m (oM O i) (hS H i false) s = false := by
        cases z : agB m (oM O i) (hS H i false) s
        · rfl
        · exact absurd (c.mp z).1 (by decide)
      rw [a', c']
      rfl
    · cases q2 : Nat.testBit s i
      · have c' := c.mpr ⟨q1, q2⟩
        rw [c']
        cases q s <;> simp
      · have a' := a.mpr ⟨q1, q2⟩
        rw [a']
        cases q s <;> simp
  · intro s z
    rw [Bool.and_eq_true, Bool.and_eq_true] at z
    have a := (agB_s (H := H) (s := s) (v := true) hi ho).mp z.1.1
    have c := (agB_s (H := H) (s := s) (v := false) hi ho).mp z.2.1
    rw [a.2] at c
    cases c.2
theorem cnt_none {p : Nat → Bool} {n : Nat} (h : ∀ i, i < n → p i = false) : cnt p n = 0 := by
  rw [cnt_congr (q := fun _ => false) h]
  simp [cnt]
theorem cnt_1 {p : Nat → Bool} {n j : Nat} (hj : j < n) (h : ∀ i, i < n → p i = decide (i = j)) : cnt p n = 1 := by
  rw [cnt_congr h, cnt_us (p := fun _ => false) hj rfl (fun i => by simp), cnt_none (fun _ _ => rfl)]
theorem cnt_oM {O : Nat → Bool} {n i : Nat} (hi : i < n) (ho : O i = true) : cnt O n = cnt (oM O i) n + 1 := cnt_us hi (by unfold oM; simp) (fun k => by
  unfold oM
  by_cases e : k = i
  · simp [e, ho]
  · simp [e])
theorem kO_all {m : Nat} : ∀ (n : Nat) (O H : Nat → Bool), cnt O m = n → kO m O H (fun _ => true) = 2 ^ n
  | 0, O, H, h => by
    have no : ∀ k, k < m → O k = false := fun k hk => by
      cases q : O k
      · rfl
      · have := cnt_oM hk q
        omega
    refine cnt_1 (j := bs H m) (bs_lt H m) fun s hs => ?_
    rw [Bool.and_true]
    have e : agB m O H s = true ↔ s = bs H m := by
      rw [agB_iff]
      constructor
      · intro z
        rw [bs_eq hs]
        exact bs_ext fun k hk => z k hk (no k hk)
      · intro z k hk _
        rw [z, bs_bit, decide_eq_true hk, Bool.true_and]
    cases q : agB m O H s
    · exact (decide_eq_false fun z => by rw [e.mpr z] at q; cases q).symm
    · exact (decide_eq_true (e.mp q)).symm
  | n + 1, O, H, h => by
    obtain ⟨i, hi, ho⟩ : ∃ i, i < m ∧ O i = true := by
      apply Classical.byContradiction
      intro z
      have : cnt O m = 0 := cnt_none fun i hi => by
        cases q : O i
        · rfl
        · exact absurd ⟨i, hi, q⟩ z
      omega
    have := cnt_oM hi ho
    rw [kO_s hi ho, kO_all n _ _ (by omega), kO_all n _ _ (by omega), Nat.pow_succ]
    omega
section TIE
variable {a0 a1 : Nat → Nat} {m x y : Nat} {O H p : Nat → Bool}
/-- what is seen, with what is settled -/
def tyI (a0 a1 : Nat → Nat) (m x : Nat) (O H p : Nat → Bool) : Prop := p x = true ∧ (∀ v, p v = true → clo a0 a1 (fun k => H k && !O k) m x v) ∧ ∀ k, k < m → O k = false → H k = true → p (a0 k) = true ∧ p (a1 k) = true
theorem ty_yes (h : tyI a0 a1 m x O H p) (hy : p y = true) : kO m O H (tiB a0 a1 m x y) = 2 ^ cnt O m := by
  rw [← kO_all _ O H rfl]
  refine cnt_congr fun s _ => ?_
  cases q : agB m O H s
  · rfl
  · rw [show tiB a0 a1 m x y s = true from tiB_iff.mpr (clo_mono (fun c hc hg => ?_) (h.2.1 y hy))]
    rw [Bool.and_eq_true] at hg
    have ho : O c = false := by simpa using hg.2
    show Nat.testBit s c = true
    rw [agB_iff.mp q c hc ho]
    exact hg.1
theorem ty_no (h : tyI a0 a1 m x O H p) (hy : p y = false) (hl : ∀ k, k < m → O k = true → p (a0 k) = p (a1 k)) : kO m O H (tiB a0 a1 m x y) = 0 := cnt_none fun s _ => by
  cases q : agB m O H s
  · rfl
  · rw [Bool.true_and]
    cases w : tiB a0 a1 m x y s
    · rfl
    · have := clo_closed (p := p) h.1 (fun c hc hg => ?_) (tiB_iff.mp w)
      · rw [hy] at this; cases this
      · cases ho : O c
        · have hb : Nat.testBit s c = true := hg
          rw [agB_iff.mp q c hc ho] at hb
          have := h.2.2 c hc ho hb
          rw [this.1, this.2]
        · rw [hl c hc ho]
theorem ty_in (h : tyI a0 a1 m x O H p) {i : Nat} (hi : i < m) (ho : O i = true) (hp : p (a0 i) = true ∨ p (a1 i) = true) : tyI a0 a1 m x (oM O i) (hS H i true) (fun v => p v || (decide (v = a0 i) || decide (v = a1 i))) := by
  have mono : ∀ v, p v = true → clo a0 a1 (fun k => hS H i true k && !oM O i k) m x v := fun v hv => clo_mono (fun c hc hg => by
    rw [Bool.and_eq_true] at hg ⊢
    have oc : O c = false := by simpa using hg.2
    have ne : c ≠ i := fun z => by rw [z, ho] at oc; cases oc
    unfold hS oM
    rw [if_neg ne, oc]
    exact ⟨hg.1, rfl⟩) (h.2.1 v hv)
  have gi : (fun k => hS H i true k && !oM O i k) i = true := by
    show (hS H i true i && !oM O i i) = true
    unfold hS oM
    simp
  have st := clo_st (x := x) (a0 := a0) (a1 := a1) (g := fun k => hS H i true k && !oM O i k) hi gi
  have both : clo a0 a1 (fun k => hS H i true k && !oM O i k) m x (a0 i) ∧ clo a0 a1 (fun k => hS H i true k && !oM O i k) m x (a1 i) := by
    rcases hp with z | z
    · exact ⟨mono _ z, st.mp (mono _ z)⟩
    · exact ⟨st.mpr (mono _ z), mono _ z⟩
  refine ⟨by simp [h.1], fun v hv => ?_, fun k hk hok hh => ?_⟩
  · rw [Bool.or_eq_true, Bool.or_eq_true, decide_eq_true_eq, decide_eq_true_eq] at hv
    rcases hv with z | z | z
    · exact mono v z
    · rw [z]; exact both.1
    · rw [z]; exact both.2
  · by_cases e : k = i
    · rw [e]; simp
    · have oc : O k = false := by
        unfold oM at hok
        simpa [e] using hok
      unfold hS at hh
      rw [if_neg e] at hh
      have := h.2.2 k hk oc hh
      simp [this.1, this.2]
theorem ty_out (h : tyI a0 a1 m x O H p) {i : Nat} (ho : O i = true) : tyI a0 a1 m x (oM O i) (hS H i false) p := by
  refine ⟨h.1, fun v hv => clo_mono (fun c hc hg => ?_) (h.2.1 v hv), fun k hk hok hh => ?_⟩
  · rw [Bool.and_eq_true] at hg ⊢
    have oc : O c = false := by simpa using hg.2
    have ne : c ≠ i := fun z => by rw [z, ho] at oc; cases oc
    unfold hS oM
    rw [if_neg ne, oc]
    exact ⟨hg.1, rfl⟩
  · unfold hS at hh
    by_cases e : k = i
    · rw [if_pos e] at hh; cases hh
    · rw [if_neg e] at hh
      refine h.2.2 k hk ?_ hh
      unfold oM at hok
      simpa [e] using hok
end TIE
/-- the cables that are there, one after the other -/
def enE (N : nt) : Nat → Nat → Nat
  | 0 => fun _ => 0
  | c + 1 => if thN N c = true then (fun j => if j = cnt (thN N) c then c else enE N c j) else enE N c
theorem enE_lt (N : nt) : ∀ c j, j < cnt (thN N) c → enE N c j < c
  | 0, j, h => by rw [cnt_0] at h; omega
  | c + 1, j, h => by
    rw [cnt_s] at h
    unfold enE
    by_cases q : thN N c = true
    · rw [if_pos q] at h ⊢
      show (if j = cnt (thN N) c then c else enE N c j) < c + 1
      split
      · omega
      · have := enE_lt N c j (by omega)
        omega
    · rw [if_neg q] at h ⊢
      have := enE_lt N c j (by omega)
      omega
def odN0 (N : nt) : Nat → Nat := fun j => cN N 0 (enE N (ldN N) j)
def odN1 (N : nt) : Nat → Nat := fun j => cN N 1 (enE N (ldN N) j)
noncomputable def odI (N : nt) (x y : Nat) : Int := if 12 < cnt (thN N) (ldN N) then -1 else ((cnt (tiB (odN0 N) (odN1 N) (cnt (thN N) (ldN N)) x y) (2 ^ cnt (thN N) (ldN N)) : Nat) : Int)
