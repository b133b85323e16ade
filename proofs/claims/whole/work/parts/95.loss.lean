/-! WHAT IS LOST with a cable: both sides' numbers multiplied -/
theorem clo_mono {a0 a1 : Nat → Nat} {g g' : Nat → Bool} {n x m : Nat} (hg : ∀ c, c < n → g c = true → g' c = true) (h : clo a0 a1 g n x m) : clo a0 a1 g' n x m := fun Q q cl => h Q q fun c hc w => cl c hc (hg c hc w)
theorem clo_tr {a0 a1 : Nat → Nat} {g : Nat → Bool} {n x y m : Nat} (h : clo a0 a1 g n x y) (h2 : clo a0 a1 g n y m) : clo a0 a1 g n x m := fun Q q cl => h2 Q (h Q q cl) cl
theorem clo_sy {a0 a1 : Nat → Nat} {g : Nat → Bool} {n x y : Nat} (h : clo a0 a1 g n x y) : clo a0 a1 g n y x := by
  refine Classical.byContradiction fun hn => ?_
  exact h (fun u => ¬ clo a0 a1 g n y u) hn (fun c hc hg => not_congr (clo_st hc hg)) clo_rf
section LSS
variable {N : nt}
theorem th_clo (i : INV N) {x m : Nat} (hx : x < 16) (hm : m < 16) : clo (cN N 0) (cN N 1) (thN N) (ldN N) x m ↔ (m : Int) ∈ tN N 0 x := by
  have b0 : 2 ≤ nN N ∧ nN N ≤ 16 := i.1.1.1
  have f0 := i.2.1 0 (by omega)
  have key := clo_T (g := trN N) (n := ldN N) f0 (fun c => by unfold tcs trN; simp) hx hm
  rw [← key]
  constructor
  · intro h Q q cl
    refine h Q q fun c hc hg => ?_
    have oc := i.1.2.1 c hc
    have k2 : cN N 2 c ≠ 2 := by simpa [thN] using hg
    by_cases z : cN N 2 c = 0
    · exact cl c hc (by simp [trN, z])
    · have s1 : (cN N 1 c : Int) ∈ tN N (cN N 3 c) (cN N 0 c) := i.2.2.2 c hc (by omega)
      have s0 := nested' i.2.1 (i := cN N 3 c) (j := 0) (by omega) (by omega) (by omega) (by omega) s1
      have w := (clo_T (g := trN N) (n := ldN N) f0 (fun c => by unfold tcs trN; simp) (by omega : cN N 0 c < 16) (by omega : cN N 1 c < 16)).mpr s0
      exact ⟨fun y => w Q y cl, fun y => clo_sy w Q y cl⟩
  · exact clo_mono fun c _ h => by
      have : cN N 2 c = 0 := by simpa [trN] using h
      simp [thN, this]
theorem fdN_clo (o : okB N) {t : Bool} {but shut : Int} {x m : Nat} (hx : x < 16) (hm : m < 16) : fdN N t but shut x m ≠ -1 ↔ clo (cN N 0) (cN N 1) (spG N t but shut) (ldN N) x m := fd_clo (fun c hc => (ok16 o hc).1) (fun c hc => (ok16 o hc).2) hx hm
theorem fdN_nN (o : okB N) {t : Bool} {but shut : Int} {x m : Nat} (hx : x < nN N) (hm : m < 16) (h : fdN N t but shut x m ≠ -1) : m < nN N := by
  have b0 := okn o
  have := clo_closed (p := fun n => decide (n < nN N)) (by simp [hx]) (fun c hc _ => by have := o.2.1 c hc; simp; omega) ((fdN_clo o (by omega) hm).mp h)
  simpa using this
theorem cnt_wn (o : okB N) {wo : Int} {x : Nat} (hx : x < nN N) : cnt (wnB N wo x 16) 16 = cnt (fun m => decide (fdN N false wo (-1) x m ≠ -1)) (nN N) := by
  have b0 := okn o
  rw [← cnt_pad _ _ 16 b0.2]
  refine cnt_congr fun m hm => ?_
  have l := fdN_lo (N := N) (t := false) (but := wo) (shut := -1) (x := x) (m := m)
  unfold wnB
  by_cases q : fdN N false wo (-1) x m = -1
  · simp [q]
  · have := fdN_nN o hx hm q
    simp only [this, decide_true, Bool.true_and, ne_eq, q, not_false_eq_true, true_and]
    simp
    omega
/-- its loss as the class has it -/
def lsC (N : nt) (c : Nat) : Nat := if trN N c then (if fdN N false (c : Int) (-1) (cN N 0 c) (cN N 1 c) = -1 then cnt (wnB N (c : Int) (cN N 0 c) 16) 16 * cnt (wnB N (c : Int) (cN N 1 c) 16) 16 else 0) else 0
theorem ls_sum (i : INV N) {c : Nat} (hc : c < ldN N) (h : brg N c = true) : oneN N c + cnt (fun m => decide (fdN N false (c : Int) (-1) (cN N 1 c) m ≠ -1)) (nN N) = szN N 0 (cN N 0 c) := by
  have o := okB_in i.1 i.2.1
  have b0 := okn o
  have oc := o.2.1 c hc
  have h2 : trN N c = true ∧ fdN N false (c : Int) (-1) (cN N 0 c) (cN N 1 c) = -1 := by
    unfold brg at h
    simpa using h
  have tc : cN N 2 c = 0 := by simpa [trN] using h2.1
  have far : ¬ clo (cN N 0) (cN N 1) (spG N false (c : Int) (-1)) (ldN N) (cN N 0 c) (cN N 1 c) := fun z => ((fdN_clo o (by omega) (by omega)).mpr z) h2.2
  have sub : ∀ d, d < ldN N → spG N false (c : Int) (-1) d = true → thN N d = true := fun d _ z => by
    rw [← lkG_sp] at z
    unfold lkG at z
    simp at z
    exact z.1
  have dis : ∀ m, ¬ (clo (cN N 0) (cN N 1) (spG N false (c : Int) (-1)) (ldN N) (cN N 0 c) m ∧ clo (cN N 0) (cN N 1) (spG N false (c : Int) (-1)) (ldN N) (cN N 1 c) m) := fun m z => far (clo_tr z.1 (clo_sy z.2))
  have uni : ∀ m, clo (cN N 0) (cN N 1) (thN N) (ldN N) (cN N 0 c) m ↔ (clo (cN N 0) (cN N 1) (spG N false (c : Int) (-1)) (ldN N) (cN N 0 c) m ∨ clo (cN N 0) (cN N 1) (spG N false (c : Int) (-1)) (ldN N) (cN N 1 c) m) := by
    intro m
    constructor
    · intro z
      refine z (fun u => clo (cN N 0) (cN N 1) (spG N false (c : Int) (-1)) (ldN N) (cN N 0 c) u ∨ clo (cN N 0) (cN N 1) (spG N false (c : Int) (-1)) (ldN N) (cN N 1 c) u) (Or.inl clo_rf) fun d hd hg => ?_
      by_cases e : d = c
      · subst e
        exact ⟨fun _ => Or.inr clo_rf, fun _ => Or.inl clo_rf⟩
      · have g : spG N false (c : Int) (-1) d = true := by
          rw [← lkG_sp]
          unfold lkG
          simp [hg]
          omega
        exact or_congr (clo_st hd g) (clo_st hd g)
    · rintro (z | z)
      · exact clo_mono sub z
      · refine clo_tr ?_ (clo_mono sub z)
        exact (clo_st hc (by simp [thN, tc])).mp clo_rf
  unfold oneN szN
  rw [← cnt_pad _ (nN N) (nN N) (Nat.le_refl _), ← cnt_pad (fun m => decide (fdN N false (c : Int) (-1) (cN N 1 c) m ≠ -1)) (nN N) (nN N) (Nat.le_refl _), ← cnt_or]
  · refine cnt_congr fun m hm => ?_
    have u := uni m
    rw [th_clo i (by omega) (by omega), ← fdN_clo o (by omega) (by omega), ← fdN_clo o (by omega) (by omega)] at u
    unfold on1
    simp only [hm, decide_true, Bool.true_and]
    rw [Bool.eq_iff_iff]
    simp only [Bool.or_eq_true, decide_eq_true_eq]
    exact u.symm
  · intro m ⟨z1, z2⟩
    have y1 : m < nN N ∧ fdN N false (c : Int) (-1) (cN N 0 c) m ≠ -1 := by simpa using z1
    have y2 : m < nN N ∧ fdN N false (c : Int) (-1) (cN N 1 c) m ≠ -1 := by simpa using z2
    exact dis m ⟨(fdN_clo o (by omega) (by omega)).mp y1.2, (fdN_clo o (by omega) (by omega)).mp y2.2⟩
theorem lsC_eq (i : INV N) {c : Nat} (hc : c < ldN N) : (lsC N c : Int) = lsI N c := by
  have o := okB_in i.1 i.2.1
  have oc := o.2.1 c hc
  unfold lsC lsI
  cases q : trN N c
  · rw [show brg N c = false by unfold brg; rw [q]; rfl]
    rfl
  · by_cases w : fdN N false (c : Int) (-1) (cN N 0 c) (cN N 1 c) = -1
    · have e : brg N c = true := by unfold brg; rw [q, decide_eq_true w]; rfl
      have s := ls_sum i hc e
      rw [e, if_pos rfl, if_pos w, if_pos rfl, cnt_wn o oc.1, cnt_wn o oc.2.1, Int.natCast_mul]
      show (oneN N c : Int) * _ = (oneN N c : Int) * _
      congr 1
      omega
    · rw [show brg N c = false by unfold brg; rw [decide_eq_false w]; simp, if_pos rfl, if_neg w]
      rfl
theorem lsI_pos (i : INV N) {c : Nat} (hc : c < ldN N) : decide (0 < lsI N c) = brg N c := by
  have o := okB_in i.1 i.2.1
  have oc := o.2.1 c hc
  have b0 := okn o
  cases q : brg N c
  · unfold lsI
    rw [q]
    rfl
  · have s := ls_sum i hc q
    have p0 : ∀ x, x < nN N → 0 < cnt (fun m => decide (fdN N false (c : Int) (-1) x m ≠ -1)) (nN N) := fun x hx => by
      have := cnt_lt (p := no0) (q := fun m => decide (fdN N false (c : Int) (-1) x m ≠ -1)) (n := nN N) (fun _ _ z => by cases z) hx rfl (decide_eq_true ((fdN_clo o (by omega) (by omega)).mpr clo_rf))
      omega
    have p1 := p0 _ oc.1
    have p2 := p0 _ oc.2.1
    unfold lsI
    rw [q, if_pos rfl]
    have e : (szN N 0 (cN N 0 c) : Int) - (oneN N c : Int) = (cnt (fun m => decide (fdN N false (c : Int) (-1) (cN N 1 c) m ≠ -1)) (nN N) : Int) := by omega
    rw [e]
    have p1' : 0 < oneN N c := p1
    exact decide_eq_true (Int.mul_pos (by omega) (by omega))
end LSS
