section AD
variable {N : nt}
theorem FL_jmono {e0 e1 : Nat → Nat} {K : Nat → Prop} {T : Nat → List Int} (f : FL e0 e1 K T) {c x y n : Nat} {v : Int} (hx : x < 16) (hy : y < 16) (hn : n < 16) (hm : v ∈ T n) : v ∈ ly1 T (jw1 T c x y) n := by
  have mem := jw1_mem (c := c) f hx hy
  unfold ly1
  split
  · rename_i q
    rw [mem]
    rcases (mem _).mp q with z | z | z
    · rw [(f.1 _ hx).2.2.2.1 n hn z] at hm; exact Or.inl hm
    · rw [(f.1 _ hy).2.2.2.1 n hn z] at hm; exact Or.inr (Or.inl hm)
    · omega
  · exact hm
def layZ (N : nt) (x y : Nat) : Nat := if szN N 0 y < szN N 0 x then nmN N x else if szN N 0 x < szN N 0 y then nmN N y else if nmN N x < nmN N y then nmN N x else nmN N y
def layN (N : nt) (x y : Nat) : nt := if on1 N 0 x y then lgA (adC N x y 1) (ldN N) 1 else setNm (setT (lgA (adC N x y 0) (ldN N) 0) (jT (tN N) 0 (ldN N) x y)) (fun n => if n < nN N ∧ (n : Int) ∈ jW (tN N) 0 (ldN N) x y then layZ N x y else nmN N n)
theorem adC_c (N : nt) (x y s w d : Nat) : cN (adC N x y s) w d = if d = ldN N then (if w = 0 then x else if w = 1 then y else if w = 2 then s else if w = 5 then 1 else 0) else cN N w d := rfl
theorem ok0_adC {x y s : Nat} (h : ok0 N) (hx : x < nN N) (hy : y < nN N) (hxy : x ≠ y) (hl : ldN N < 60) (hs : s ≤ 2) : ok0 (adC N x y s) := by
  refine ⟨⟨h.1.1, by show ldN N + 1 ≤ 60; omega⟩, fun d hd => ?_, h.2.2⟩
  simp only [adC_c]
  by_cases e : d = ldN N
  · simp only [if_pos e, Nat.reduceEqDiff, if_true, if_false]
    exact ⟨hx, hy, hxy, hs, by omega, by omega, Nat.zero_le _⟩
  · simp only [if_neg e]
    have hd2 : d < ldN N + 1 := hd
    exact h.2.1 d (by omega)
theorem FL_adC {x y s i : Nat} (hf : FA N) (hi : i < 5) (hs : s ≠ 0 ∨ i ≠ 0) : FL (cN (adC N x y s) 0) (cN (adC N x y s) 1) (tcs (adC N x y s) i) (tN N i) := by
  refine FL_E (FL_K (hf i hi) (fun d => ?_)) (fun d hd => ?_)
  · unfold tcs
    rw [adC_c, adC_c]
    by_cases e : d = ldN N
    · simp only [if_pos e, Nat.reduceEqDiff, if_true, if_false]
      constructor
      · intro z; exfalso; omega
      · intro z; exfalso; omega
    · simp only [if_neg e]
      constructor
      · intro z; exact ⟨by have : d < ldN N + 1 := z.1; omega, z.2⟩
      · intro z; exact ⟨by show d < ldN N + 1; omega, z.2⟩
  · rw [adC_c, adC_c]
    have e : d ≠ ldN N := by
      intro e
      have z := hd
      unfold tcs at z
      rw [adC_c, adC_c] at z
      simp only [if_pos e, Nat.reduceEqDiff, if_true, if_false] at z
      omega
    rw [if_neg e, if_neg e]
    exact ⟨rfl, rfl⟩
theorem INV_lay (h : INV N) {x y : Nat} (hx : x < nN N) (hy : y < nN N) (hxy : x ≠ y) (hl : ldN N < 60) : INV (layN N x y) := by
  obtain ⟨o, hf, lv, sp⟩ := h
  have b := o.1
  have x16 : x < 16 := by omega
  have y16 : y < 16 := by omega
  have f0 := hf 0 (by omega)
  unfold layN
  by_cases q : on1 N 0 x y = true
  · rw [if_pos q]
    refine ⟨ok0_lg (ok0_adC o hx hy hxy hl (by omega)), fun i hi => FL_adC (s := 1) hf hi (Or.inl (by omega)), fun c hc => ?_, fun d hd h1 => ?_⟩
    · show (if c = ldN N then (if 3 = 0 then x else if 3 = 1 then y else if 3 = 2 then 1 else if 3 = 5 then 1 else 0) else cN N 3 c) ≤ hgt (nN N) 4
      split
      · exact Nat.zero_le _
      · have hc2 : c < ldN N + 1 := hc
        exact lv c (by omega)
    · unfold sp1
      show ((if d = ldN N then (if 1 = 0 then x else if 1 = 1 then y else if 1 = 2 then 1 else if 1 = 5 then 1 else 0) else cN N 1 d : Nat) : Int) ∈ tN N (if d = ldN N then (if 3 = 0 then x else if 3 = 1 then y else if 3 = 2 then 1 else if 3 = 5 then 1 else 0) else cN N 3 d) (if d = ldN N then (if 0 = 0 then x else if 0 = 1 then y else if 0 = 2 then 1 else if 0 = 5 then 1 else 0) else cN N 0 d)
      by_cases e : d = ldN N
      · rw [if_pos e, if_pos e, if_pos e]
        have z : (x : Int) ∈ tN N 0 y := by simpa [on1] using q
        exact FL_sym f0 y16 x16 z
      · rw [if_neg e, if_neg e, if_neg e]
        have hd2 : d < ldN N + 1 := hd
        have h1' : (if d = ldN N then (if 2 = 0 then x else if 2 = 1 then y else if 2 = 2 then 1 else if 2 = 5 then 1 else 0) else cN N 2 d) = 1 := h1
        rw [if_neg e] at h1'
        exact sp d (by omega) h1'
  · rw [if_neg q]
    have hne : (y : Int) ∉ tN N 0 x := fun z => q (by unfold on1; exact decide_eq_true (FL_sym f0 x16 y16 z))
    refine INV_nm (N := setT (lgA (adC N x y 0) (ldN N) 0) (jT (tN N) 0 (ldN N) x y)) ⟨ok0_lg (ok0_adC o hx hy hxy hl (by omega)), fun i hi => ?_, fun c hc => ?_, fun d hd h1 => ?_⟩ (fun n => ?_)
    · show FL (cN (adC N x y 0) 0) (cN (adC N x y 0) 1) (tcs (adC N x y 0) i) (jT (tN N) 0 (ldN N) x y i)
      by_cases e : i = 0
      · subst e
        rw [jT_eq]
        have K0 : ∀ d, tcs N 0 d → d ≠ ldN N := fun d hd e => by have := hd.1; omega
        have fE : FL (cN (adC N x y 0) 0) (cN (adC N x y 0) 1) (tcs N 0) (tN N 0) := FL_E f0 (fun d hd => by rw [adC_c, adC_c, if_neg (K0 d hd), if_neg (K0 d hd)]; exact ⟨rfl, rfl⟩)
        refine FL_join fE (by rw [adC_c, if_pos rfl]; rfl) (by rw [adC_c, if_pos rfl]; rfl) x16 y16 (fun z => K0 _ z rfl) hl hne (fun d => ?_)
        unfold tcs
        rw [adC_c, adC_c]
        by_cases e : d = ldN N
        · simp only [if_pos e, Nat.reduceEqDiff, if_true, if_false]
          exact ⟨fun _ => Or.inr e, fun _ => ⟨by show d < ldN N + 1; omega, trivial, Nat.zero_le _⟩⟩
        · simp only [if_neg e]
          constructor
          · intro z; exact Or.inl ⟨by have : d < ldN N + 1 := z.1; omega, z.2⟩
          · intro z
            rcases z with z | z
            · exact ⟨by show d < ldN N + 1; omega, z.2⟩
            · exact absurd z e
      · rw [jT_ne _ _ _ _ e]
        exact FL_adC hf hi (Or.inr e)
    · show (if c = ldN N then (if 3 = 0 then x else if 3 = 1 then y else if 3 = 2 then 0 else if 3 = 5 then 1 else 0) else cN N 3 c) ≤ hgt (nN N) 4
      split
      · exact Nat.zero_le _
      · have hc2 : c < ldN N + 1 := hc
        exact lv c (by omega)
    · have h1' : (if d = ldN N then (if 2 = 0 then x else if 2 = 1 then y else if 2 = 2 then 0 else if 2 = 5 then 1 else 0) else cN N 2 d) = 1 := h1
      have e : d ≠ ldN N := fun e => by rw [if_pos e] at h1'; simp at h1'
      rw [if_neg e] at h1'
      have hd2 : d < ldN N + 1 := hd
      have okd := o.2.1 d (by omega)
      have s := sp d (by omega) h1'
      unfold sp1 at s ⊢
      show ((if d = ldN N then (if 1 = 0 then x else if 1 = 1 then y else if 1 = 2 then 0 else if 1 = 5 then 1 else 0) else cN N 1 d : Nat) : Int) ∈ jT (tN N) 0 (ldN N) x y (if d = ldN N then (if 3 = 0 then x else if 3 = 1 then y else if 3 = 2 then 0 else if 3 = 5 then 1 else 0) else cN N 3 d) (if d = ldN N then (if 0 = 0 then x else if 0 = 1 then y else if 0 = 2 then 0 else if 0 = 5 then 1 else 0) else cN N 0 d)
      rw [if_neg e, if_neg e, if_neg e]
      by_cases e3 : cN N 3 d = 0
      · rw [e3] at s ⊢
        rw [jT_eq]
        exact FL_jmono f0 x16 y16 (by omega) s
      · rw [jT_ne _ _ _ _ e3]; exact s
    · split
      · unfold layZ
        have n1 := o.2.2.2.1 x
        have n2 := o.2.2.2.1 y
        split
        · exact n1
        · split
          · exact n2
          · split
            · exact n1
            · exact n2
      · exact o.2.2.2.1 n
/-- COST -/
theorem INV_cost (h : INV N) {c v : Nat} (hv : v ≤ 99) : INV (setC N 5 c v) := by
  obtain ⟨o, hf, lv, sp⟩ := h
  have E : ∀ w, w ≠ 5 → cN (setC N 5 c v) w = cN N w := fun w hw => by funext d; exact if_neg (fun q => hw q.1)
  refine ⟨⟨o.1, fun d hd => ?_, o.2.2⟩, fun i hi => ?_, fun d hd => by rw [E 3 (by omega)]; exact lv d hd, fun d hd h1 => ?_⟩
  · have a := o.2.1 d hd
    rw [E 0 (by omega), E 1 (by omega), E 2 (by omega), E 3 (by omega), E 4 (by omega)]
    refine ⟨a.1, a.2.1, a.2.2.1, a.2.2.2.1, a.2.2.2.2.1, ?_, a.2.2.2.2.2.2⟩
    show (if 5 = 5 ∧ d = c then v else cN N 5 d) ≤ 99
    split
    · exact hv
    · exact a.2.2.2.2.2.1
  · rw [E 0 (by omega), E 1 (by omega)]
    refine FL_K (hf i hi) (fun d => ?_)
    unfold tcs
    rw [E 2 (by omega), E 3 (by omega)]
    exact Iff.rfl
  · unfold sp1
    rw [E 0 (by omega), E 1 (by omega), E 3 (by omega)]
    rw [E 2 (by omega)] at h1
    exact sp d hd h1
/-- FAIL: the first k cables are through -/
def flN (N : nt) (v : Nat) : Nat → nt × Nat
  | 0 => (N, 0)
  | k + 1 => if thN (flN N v k).1 k && (decide (cN (flN N v k).1 0 k = v) || decide (cN (flN N v k).1 1 k = v)) then ((liftN (flN N v k).1 k).1, (flN N v k).2 + 1) else flN N v k
theorem INV_fl (h : INV N) (v : Nat) (hr : riN N + 36000 ≤ 1000000000) (hl : loN N + 18000 ≤ 1000000000) : ∀ k, k ≤ ldN N → INV (flN N v k).1 ∧ nN (flN N v k).1 = nN N ∧ ldN (flN N v k).1 = ldN N ∧ riN (flN N v k).1 ≤ riN N + 600 * k ∧ loN (flN N v k).1 ≤ loN N + 300 * k ∧ (flN N v k).2 ≤ k
  | 0, _ => ⟨h, rfl, rfl, Nat.le_refl _, Nat.le_refl _, Nat.le_refl _⟩
  | k + 1, hk => by
    have b := h.1.1
    obtain ⟨i1, i2, i3, i4, i5, i6⟩ := INV_fl h v hr hl k (by omega)
    have e : flN N v (k + 1) = if thN (flN N v k).1 k && (decide (cN (flN N v k).1 0 k = v) || decide (cN (flN N v k).1 1 k = v)) then ((liftN (flN N v k).1 k).1, (flN N v k).2 + 1) else flN N v k := rfl
    rw [e]
    split
    · obtain ⟨j1, j2, j3, j4, j5, j6⟩ := INV_lift i1 (c := k) (by omega) (by omega) (by omega)
      exact ⟨j1, j2.trans i2, j3.trans i3, Nat.le_trans j4 (by omega), Nat.le_trans j5 (by omega), Nat.succ_le_succ i6⟩
    · exact ⟨i1, i2, i3, by omega, by omega, by omega⟩
/-- NET -/
def netN (n : Nat) : nt := ((n, 0, 0, 0), (fun _ _ => 0), (fun n => if n < 16 then n else 0), (fun _ n => [(n : Int)]), [])
theorem INV_net {n : Nat} (h2 : 2 ≤ n) (h16 : n ≤ 16) : INV (netN n) := by
  refine ⟨⟨⟨⟨h2, h16⟩, by show 0 ≤ 60; omega⟩, fun c hc => ?_, ⟨by show 0 ≤ _; omega, by show 0 ≤ _; omega⟩, fun m => ?_, by show 0 ≤ 40; omega⟩, fun i hi => ?_, fun c hc => ?_, fun c hc => ?_⟩
  · exact absurd (show c < 0 from hc) (by omega)
  · show (if m < 16 then m else 0) < 16
    split <;> omega
  · refine FL_K FL_start (fun d => ⟨fun z => ?_, fun z => z.elim⟩)
    exact absurd (show d < 0 from z.1) (by omega)
  · exact absurd (show c < 0 from hc) (by omega)
  · exact absurd (show c < 0 from hc) (by omega)
end AD
