/-! THE CHEAPEST cables: cost by cost, or node by node: the same sum -/
section MSA
variable {a0 a1 : Nat → Nat} {n : Nat} {g g' : Nat → Bool}
theorem clo_add {e x m : Nat} (he : e < n) (hg : ∀ c, g' c = true ↔ g c = true ∨ c = e) : clo a0 a1 g' n x m ↔ clo a0 a1 g n x m ∨ (clo a0 a1 g n x (a0 e) ∧ clo a0 a1 g n (a1 e) m) ∨ (clo a0 a1 g n x (a1 e) ∧ clo a0 a1 g n (a0 e) m) := by
  have mono : ∀ {x m : Nat}, clo a0 a1 g n x m → clo a0 a1 g' n x m := fun h => clo_mono (fun c _ w => (hg c).mpr (Or.inl w)) h
  have st := fun x => clo_st (x := x) (a0 := a0) (a1 := a1) he ((hg e).mpr (Or.inr rfl))
  constructor
  · intro h
    refine h (fun m => clo a0 a1 g n x m ∨ (clo a0 a1 g n x (a0 e) ∧ clo a0 a1 g n (a1 e) m) ∨ (clo a0 a1 g n x (a1 e) ∧ clo a0 a1 g n (a0 e) m)) (Or.inl clo_rf) (fun c hc w => ?_)
    rcases (hg c).mp w with z | z
    · have s1 := clo_st (x := x) (a0 := a0) (a1 := a1) hc z
      have s2 := clo_st (x := a1 e) (a0 := a0) (a1 := a1) hc z
      have s3 := clo_st (x := a0 e) (a0 := a0) (a1 := a1) hc z
      constructor
      · rintro (z | z | z)
        · exact Or.inl (s1.mp z)
        · exact Or.inr (Or.inl ⟨z.1, s2.mp z.2⟩)
        · exact Or.inr (Or.inr ⟨z.1, s3.mp z.2⟩)
      · rintro (z | z | z)
        · exact Or.inl (s1.mpr z)
        · exact Or.inr (Or.inl ⟨z.1, s2.mpr z.2⟩)
        · exact Or.inr (Or.inr ⟨z.1, s3.mpr z.2⟩)
    · subst z
      constructor
      · rintro (z | z | z)
        · exact Or.inr (Or.inl ⟨z, clo_rf⟩)
        · exact Or.inr (Or.inl ⟨z.1, clo_rf⟩)
        · exact Or.inl z.1
      · rintro (z | z | z)
        · exact Or.inr (Or.inr ⟨z, clo_rf⟩)
        · exact Or.inl z.1
        · exact Or.inr (Or.inr ⟨z.1, clo_rf⟩)
  · rintro (h | h | h)
    · exact mono h
    · exact clo_tr ((st x).mp (mono h.1)) (mono h.2)
    · exact clo_tr ((st x).mpr (mono h.1)) (mono h.2)
noncomputable def repB (a0 a1 : Nat → Nat) (g : Nat → Bool) (n v : Nat) : Bool := @decide (∀ u, u < v → ¬ clo a0 a1 g n u v) (Classical.propDecidable _)
noncomputable def cps (a0 a1 : Nat → Nat) (g : Nat → Bool) (n : Nat) : Nat := cnt (repB a0 a1 g n) 16
theorem repB_iff {v : Nat} : repB a0 a1 g n v = true ↔ ∀ u, u < v → ¬ clo a0 a1 g n u v := by
  unfold repB
  exact @decide_eq_true_iff _ (Classical.propDecidable _)
theorem rep_ex (x : Nat) : ∃ u, u ≤ x ∧ repB a0 a1 g n u = true ∧ clo a0 a1 g n u x := by
  induction x using Nat.strongRecOn with
  | ind x ih =>
    by_cases h : repB a0 a1 g n x = true
    · exact ⟨x, Nat.le_refl _, h, clo_rf⟩
    · obtain ⟨u, hu, hc⟩ : ∃ u, u < x ∧ clo a0 a1 g n u x := Classical.byContradiction fun z => h (repB_iff.mpr fun u hu hc => z ⟨u, hu, hc⟩)
      obtain ⟨w, w1, w2, w3⟩ := ih u hu
      exact ⟨w, by omega, w2, clo_tr w3 hc⟩
theorem rep_le {r u : Nat} (hr : repB a0 a1 g n r = true) (h : clo a0 a1 g n r u) : r ≤ u := Classical.byContradiction fun z => repB_iff.mp hr u (by omega) (clo_sy h)
theorem cps_add {e : Nat} (he : e < n) (hg : ∀ c, g' c = true ↔ g c = true ∨ c = e) (hn : ¬ clo a0 a1 g n (a0 e) (a1 e)) (e0 : a0 e < 16) (e1 : a1 e < 16) : cps a0 a1 g n = cps a0 a1 g' n + 1 := by
  obtain ⟨r1, l1, b1, c1⟩ := rep_ex (a0 := a0) (a1 := a1) (g := g) (n := n) (a0 e)
  obtain ⟨r2, l2, b2, c2⟩ := rep_ex (a0 := a0) (a1 := a1) (g := g) (n := n) (a1 e)
  have main : ∀ m0 m1 : Nat, m1 < m0 → m0 < 16 → repB a0 a1 g n m0 = true → repB a0 a1 g n m1 = true → (clo a0 a1 g n m1 (a0 e) ∧ clo a0 a1 g n m0 (a1 e)) ∨ (clo a0 a1 g n m1 (a1 e) ∧ clo a0 a1 g n m0 (a0 e)) → cps a0 a1 g n = cps a0 a1 g' n + 1 := by
    intro m0 m1 lt m16 p0 p1 hc
    refine cnt_us m16 ?_ fun i => ?_
    · cases q : repB a0 a1 g' n m0
      · rfl
      · exfalso
        refine repB_iff.mp q m1 lt ((clo_add he hg).mpr ?_)
        rcases hc with z | z
        · exact Or.inr (Or.inl ⟨z.1, clo_sy z.2⟩)
        · exact Or.inr (Or.inr ⟨z.1, clo_sy z.2⟩)
    · by_cases im : i = m0
      · rw [im, p0]; simp
      · rw [decide_eq_false im, Bool.or_false]
        have up : repB a0 a1 g' n i = true → repB a0 a1 g n i = true := fun h => repB_iff.mpr fun u hu z => repB_iff.mp h u hu ((clo_add he hg).mpr (Or.inl z))
        have dn : repB a0 a1 g n i = true → repB a0 a1 g' n i = true := fun h => repB_iff.mpr fun u hu z => by
          have eq0 : clo a0 a1 g n i m0 → False := fun w => im (by
            have := rep_le h w
            have := rep_le p0 (clo_sy w)
            omega)
          have eq1 : clo a0 a1 g n i m1 → i = m1 := fun w => by
            have := rep_le h w
            have := rep_le p1 (clo_sy w)
            omega
          rcases (clo_add he hg).mp z with z | z | z
          · exact repB_iff.mp h u hu z
          · rcases hc with w | w
            · exact eq0 (clo_tr (clo_sy z.2) (clo_sy w.2))
            · have := eq1 (clo_tr (clo_sy z.2) (clo_sy w.1))
              have := rep_le p0 (clo_tr w.2 (clo_sy z.1))
              omega
          · rcases hc with w | w
            · have := eq1 (clo_tr (clo_sy z.2) (clo_sy w.1))
              have := rep_le p0 (clo_tr w.2 (clo_sy z.1))
              omega
            · exact eq0 (clo_tr (clo_sy z.2) (clo_sy w.2))
        cases q : repB a0 a1 g n i
        · cases w : repB a0 a1 g' n i
          · rfl
          · rw [up w] at q; cases q
        · exact (dn q).symm
  have ne : r1 ≠ r2 := fun z => hn (clo_tr (clo_sy c1) (by rw [z]; exact c2))
  by_cases lt : r1 < r2
  · exact main r2 r1 lt (by omega) b2 b1 (Or.inl ⟨c1, c2⟩)
  · exact main r1 r2 (by omega) (by omega) b1 b2 (Or.inr ⟨c2, c1⟩)
theorem cps_eq (h : ∀ x m, clo a0 a1 g n x m ↔ clo a0 a1 g' n x m) : cps a0 a1 g n = cps a0 a1 g' n := cnt_congr fun v _ => by
  have e : repB a0 a1 g n v = true ↔ repB a0 a1 g' n v = true := by
    rw [repB_iff, repB_iff]
    exact ⟨fun z u hu w => z u hu ((h u v).mpr w), fun z u hu w => z u hu ((h u v).mp w)⟩
  cases q : repB a0 a1 g n v
  · cases w : repB a0 a1 g' n v
    · rfl
    · rw [e.mpr w] at q; cases q
  · exact (e.mp q).symm
theorem clo_cg (h : ∀ c, c < n → g c = g' c) (x m : Nat) : clo a0 a1 g n x m ↔ clo a0 a1 g' n x m := ⟨clo_mono fun c hc w => by rw [← h c hc]; exact w, clo_mono fun c hc w => by rw [h c hc]; exact w⟩
theorem clo_ad1 {e : Nat} (he : e < n) (hg : ∀ c, g' c = true ↔ g c = true ∨ c = e) (hc : clo a0 a1 g n (a0 e) (a1 e)) (x m : Nat) : clo a0 a1 g n x m ↔ clo a0 a1 g' n x m := by
  rw [clo_add he hg]
  refine ⟨Or.inl, fun z => ?_⟩
  rcases z with z | z | z
  · exact z
  · exact clo_tr z.1 (clo_tr hc z.2)
  · exact clo_tr z.1 (clo_tr (clo_sy hc) z.2)
end MSA
section MSB
variable {N : nt}
noncomputable def cpN (N : nt) (g : Nat → Bool) : Int := ((cps (cN N 0) (cN N 1) g (ldN N) : Nat) : Int)
def glB (N : nt) (t c : Nat) : Bool := thN N c && decide (cN N 5 c < t)
def glc (N : nt) (t j c : Nat) : Bool := thN N c && (decide (cN N 5 c < t) || (decide (cN N 5 c = t) && decide (c < j)))
theorem krP_I (o : okB N) {d : Nat} {q : (Nat → Int) × Nat} (hq : ∀ u v, u < 16 → v < 16 → (q.1 u = q.1 v ↔ clo (cN N 0) (cN N 1) (glB N d) (ldN N) u v)) : ∀ j, j ≤ ldN N → (∀ u v, u < 16 → v < 16 → ((krP N d q j).1 u = (krP N d q j).1 v ↔ clo (cN N 0) (cN N 1) (glc N d j) (ldN N) u v)) ∧ ((krP N d q j).2 : Int) = (q.2 : Int) + (d : Int) * (cpN N (glB N d) - cpN N (glc N d j))
  | 0, _ => by
    have e : glc N d 0 = glB N d := by
      funext c
      unfold glc glB
      simp
    rw [e, Int.sub_self, Int.mul_zero, Int.add_zero]
    exact ⟨hq, rfl⟩
  | j + 1, hj => by
    obtain ⟨i1, i2⟩ := krP_I o hq j (by omega)
    have o16 := ok16 o (show j < ldN N by omega)
    have ee : krP N d q (j + 1) = krS N d (krP N d q j) j := rfl
    rw [ee]
    generalize krP N d q j = s at *
    have oth : thN N j = false ∨ cN N 5 j ≠ d → glc N d (j + 1) = glc N d j := fun z => by
      funext c
      unfold glc
      by_cases e : c = j
      · subst e
        rcases z with z | z
        · rw [z]; rfl
        · rw [decide_eq_false z]; rfl
      · rw [show decide (c < j + 1) = decide (c < j) from decide_eq_decide.mpr (by omega)]
    have add : thN N j = true → cN N 5 j = d → ∀ c, glc N d (j + 1) c = true ↔ glc N d j c = true ∨ c = j := fun z1 z2 c => by
      unfold glc
      by_cases e : c = j
      · subst e
        simp [z1, z2]
      · rw [show decide (c < j + 1) = decide (c < j) from decide_eq_decide.mpr (by omega)]
        simp [e]
    unfold krS
    cases hb : krB N d s j
    · rw [if_neg (by decide)]
      by_cases w : thN N j = true ∧ cN N 5 j = d
      · have sm : clo (cN N 0) (cN N 1) (glc N d j) (ldN N) (cN N 0 j) (cN N 1 j) := by
          refine (i1 _ _ o16.1 o16.2).mp ?_
          unfold krB at hb
          simpa [w.1, w.2] using hb
        have cl := clo_ad1 (show j < ldN N by omega) (add w.1 w.2) sm
        refine ⟨fun u v hu hv => by rw [i1 u v hu hv, cl], ?_⟩
        rw [i2]
        unfold cpN
        rw [cps_eq cl]
      · rw [oth (by
          cases q1 : thN N j
          · exact Or.inl rfl
          · exact Or.inr fun z => w ⟨q1, z⟩)]
        exact ⟨i1, i2⟩
    · rw [if_pos rfl]
      unfold krB at hb
      rw [Bool.and_eq_true, Bool.and_eq_true, decide_eq_true_eq, decide_eq_true_eq] at hb
      obtain ⟨w1, w2, w3⟩ := hb
      have nc : ¬ clo (cN N 0) (cN N 1) (glc N d j) (ldN N) (cN N 0 j) (cN N 1 j) := fun z => w3 ((i1 _ _ o16.1 o16.2).mpr z)
      have ad := cps_add (show j < ldN N by omega) (add w1 w2) nc o16.1 o16.2
      refine ⟨fun u v hu hv => ?_, ?_⟩
      · rw [clo_add (show j < ldN N by omega) (add w1 w2), ← i1 u v hu hv, ← i1 u _ hu o16.1, ← i1 _ v o16.2 hv, ← i1 u _ hu o16.2, ← i1 _ v o16.1 hv]
        show (if s.1 u = s.1 (cN N 1 j) then s.1 (cN N 0 j) else s.1 u) = (if s.1 v = s.1 (cN N 1 j) then s.1 (cN N 0 j) else s.1 v) ↔ _
        by_cases q1 : s.1 u = s.1 (cN N 1 j)
        · by_cases q2 : s.1 v = s.1 (cN N 1 j)
          · rw [if_pos q1, if_pos q2]
            exact ⟨fun _ => Or.inl (q1.trans q2.symm), fun _ => rfl⟩
          · rw [if_pos q1, if_neg q2]
            constructor
            · intro z; exact Or.inr (Or.inr ⟨q1, z⟩)
            · rintro (z | z | z)
              · exact absurd (z.symm.trans q1) q2
              · exact absurd z.2.symm q2
              · exact z.2
        · by_cases q2 : s.1 v = s.1 (cN N 1 j)
          · rw [if_neg q1, if_pos q2]
            constructor
            · intro z; exact Or.inr (Or.inl ⟨z, q2.symm⟩)
            · rintro (z | z | z)
              · exact absurd (z.trans q2) q1
              · exact z.1
              · exact absurd z.1 q1
          · rw [if_neg q1, if_neg q2]
            constructor
            · intro z; exact Or.inl z
            · rintro (z | z | z)
              · exact z
              · exact absurd z.2.symm q2
              · exact absurd z.1 q1
      · show ((s.2 + d : Nat) : Int) = _
        unfold cpN at *
        rw [show ((cps (cN N 0) (cN N 1) (glB N d) (ldN N) : Nat) : Int) - ((cps (cN N 0) (cN N 1) (glc N d (j + 1)) (ldN N) : Nat) : Int) = (((cps (cN N 0) (cN N 1) (glB N d) (ldN N) : Nat) : Int) - ((cps (cN N 0) (cN N 1) (glc N d j) (ldN N) : Nat) : Int)) + 1 by omega, Int.mul_add, Int.mul_one]
        omega
noncomputable def chS (N : nt) (X : Nat → Nat → Bool) (d : Nat) : Int := sI (fun t => (t : Int) * (cpN N (X t) - cpN N (X (t + 1)))) d
theorem krN_I (o : okB N) : ∀ d, (∀ u v, u < 16 → v < 16 → ((krN N d).1 u = (krN N d).1 v ↔ clo (cN N 0) (cN N 1) (glB N d) (ldN N) u v)) ∧ ((krN N d).2 : Int) = chS N (glB N) d
  | 0 => by
    refine ⟨fun u v hu hv => ?_, rfl⟩
    show ((u : Nat) : Int) = ((v : Nat) : Int) ↔ _
    constructor
    · intro z
      obtain rfl : u = v := by omega
      exact clo_rf
    · intro z
      refine z (fun w => (u : Int) = (w : Int)) rfl fun c _ w => ?_
      unfold glB at w
      simp at w
  | d + 1 => by
    obtain ⟨i1, i2⟩ := krN_I o d
    obtain ⟨j1, j2⟩ := krP_I o i1 (ldN N) (Nat.le_refl _)
    have cl := clo_cg (a0 := cN N 0) (a1 := cN N 1) (n := ldN N) (g := glc N d (ldN N)) (g' := glB N (d + 1)) (fun c hc => by
      unfold glc glB
      rw [decide_eq_true hc, Bool.and_true]
      congr 1
      rw [← Bool.decide_or]
      exact decide_eq_decide.mpr (by omega))
    refine ⟨fun u v hu hv => by rw [← cl]; exact j1 u v hu hv, ?_⟩
    show ((krP N d (krN N d) (ldN N)).2 : Int) = _
    unfold chS
    rw [sI, j2, i2]
    unfold chS cpN
    rw [cps_eq cl]
end MSB
