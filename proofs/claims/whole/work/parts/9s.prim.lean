/-! THE CHEAPEST cables, node by node: what is taken -/
section PRM
variable {N : nt}
theorem chL_min {p : Nat → Bool} : ∀ {j : Nat}, (chL N p j = none → ∀ c, c < j → lvB N p c = false) ∧ ∀ e, chL N p j = some e → ∀ c, c < j → lvB N p c = true → cN N 5 e ≤ cN N 5 c
  | 0 => ⟨fun _ c hc => absurd hc (by omega), fun e h => by cases h⟩
  | j + 1 => by
    obtain ⟨i1, i2⟩ := chL_min (p := p) (j := j)
    have step : chL N p (j + 1) = if lvB N p j && chB N j (chL N p j) then some j else chL N p j := rfl
    rw [step]
    cases q : lvB N p j
    · rw [Bool.false_and, if_neg (by decide)]
      refine ⟨fun h c hc => ?_, fun e h c hc w => ?_⟩
      · by_cases z : c = j
        · rw [z]; exact q
        · exact i1 h c (by omega)
      · by_cases z : c = j
        · rw [z, q] at w; cases w
        · exact i2 e h c (by omega) w
    · rw [Bool.true_and]
      cases r : chL N p j with
      | none =>
        have bt : chB N j none = true := rfl
        rw [bt, if_pos rfl]
        refine ⟨fun h => (by cases h), fun e h c hc w => ?_⟩
        cases h
        by_cases z : c = j
        · rw [z]; exact Nat.le_refl _
        · rw [i1 r c (by omega)] at w; cases w
      | some e0 =>
        have bt : chB N j (some e0) = decide (cN N 5 j < cN N 5 e0) := rfl
        rw [bt]
        by_cases lt : cN N 5 j < cN N 5 e0
        · rw [decide_eq_true lt, if_pos rfl]
          refine ⟨fun h => (by cases h), fun e h c hc w => ?_⟩
          cases h
          by_cases z : c = j
          · rw [z]; exact Nat.le_refl _
          · have := i2 e0 r c (by omega) w
            omega
        · rw [decide_eq_false lt, if_neg (by decide)]
          refine ⟨fun h => (by cases h), fun e h c hc w => ?_⟩
          cases h
          by_cases z : c = j
          · rw [z]; omega
          · exact i2 e0 r c (by omega) w
def acT (N : nt) (Z : Nat → Bool) (t c : Nat) : Bool := Z c && decide (cN N 5 c < t)
def prI (N : nt) (p Z : Nat → Bool) (w : Nat) : Prop :=
  (∀ c, Z c = true → c < ldN N ∧ thN N c = true ∧ p (cN N 0 c) = true ∧ p (cN N 1 c) = true) ∧
  (w : Int) = chS N (acT N Z) 100 ∧
  (∀ t c c' u u' : Nat, c < ldN N → c' < ldN N → lvB N p c = true → lvB N p c' = true → cN N 5 c < t → cN N 5 c' < t → (u = cN N 0 c ∨ u = cN N 1 c) → (u' = cN N 0 c' ∨ u' = cN N 1 c') → p u = true → p u' = true → clo (cN N 0) (cN N 1) (acT N Z t) (ldN N) u u') ∧
  ∀ c, c < ldN N → thN N c = true → p (cN N 0 c) = true → p (cN N 1 c) = true → clo (cN N 0) (cN N 1) (acT N Z (cN N 5 c + 1)) (ldN N) (cN N 0 c) (cN N 1 c)
theorem lvB_iff {p : Nat → Bool} {c : Nat} : lvB N p c = true ↔ thN N c = true ∧ p (cN N 0 c) ≠ p (cN N 1 c) := by
  unfold lvB
  simp
theorem prI_none {p Z : Nat → Bool} {w l : Nat} (h : prI N p Z w) (o : okB N) (hl : p l = false) (no : ∀ c, c < ldN N → lvB N p c = false) : prI N (fun m => p m || it1 l m) Z w := by
  obtain ⟨h1, h2, h3, h4⟩ := h
  have same : ∀ c, c < ldN N → thN N c = true → p (cN N 0 c) = p (cN N 1 c) := fun c hc ht => Classical.byContradiction fun z => by
    have := no c hc
    rw [lvB_iff.mpr ⟨ht, z⟩] at this
    cases this
  have it : ∀ u, it1 l u = true → u = l := fun u hu => by simpa [it1] using hu
  have inner : ∀ c u, c < ldN N → lvB N (fun m => p m || it1 l m) c = true → (u = cN N 0 c ∨ u = cN N 1 c) → (p u || it1 l u) = true → u = l := fun c u hc lv hu pu => by
    obtain ⟨ht, z⟩ := lvB_iff.mp lv
    have sm := same c hc ht
    have z' : (p (cN N 0 c) || it1 l (cN N 0 c)) ≠ (p (cN N 1 c) || it1 l (cN N 1 c)) := z
    cases q : p (cN N 0 c)
    · rw [q] at sm
      have pu0 : p u = false := by
        rcases hu with e | e
        · rw [e]; exact q
        · rw [e]; exact sm.symm
      rw [pu0, Bool.false_or] at pu
      exact it u pu
    · rw [q] at sm
      rw [q, ← sm] at z'
      exact absurd rfl z'
  refine ⟨fun c hc => ?_, h2, fun t c c' u u' hc hc' lv lv' ct ct' hu hu' pu pu' => ?_, fun c hc ht p0 p1 => ?_⟩
  · obtain ⟨z1, z2, z3, z4⟩ := h1 c hc
    exact ⟨z1, z2, by show (p _ || _) = true; rw [z3]; rfl, by show (p _ || _) = true; rw [z4]; rfl⟩
  · rw [inner c u hc lv hu pu, inner c' u' hc' lv' hu' pu']
    exact clo_rf
  · have sm := same c hc ht
    have oc := o.2.1 c hc
    cases q : p (cN N 0 c)
    · rw [q] at sm
      have p0' : (p (cN N 0 c) || it1 l (cN N 0 c)) = true := p0
      have p1' : (p (cN N 1 c) || it1 l (cN N 1 c)) = true := p1
      rw [q, Bool.false_or] at p0'
      rw [← sm, Bool.false_or] at p1'
      exact absurd ((it _ p0').trans (it _ p1').symm) oc.2.2.1
    · rw [q] at sm
      exact h4 c hc ht q sm.symm
theorem prI_some {p Z : Nat → Bool} {w e : Nat} (h : prI N p Z w) (o : okB N) (he : e < ldN N) (hl : lvB N p e = true) (mn : ∀ c, c < ldN N → lvB N p c = true → cN N 5 e ≤ cN N 5 c) : prI N (fun m => p m || (decide (m = cN N 0 e) || decide (m = cN N 1 e))) (fun c => Z c || decide (c = e)) (w + cN N 5 e) := by
  obtain ⟨h1, h2, h3, h4⟩ := h
  obtain ⟨ht, hne⟩ := lvB_iff.mp hl
  have oe := o.2.1 e he
  have o16 := ok16 o he
  obtain ⟨u0, v0, hu0, pu0, pv0, hends, hp'⟩ : ∃ u0 v0, (u0 = cN N 0 e ∨ u0 = cN N 1 e) ∧ p u0 = true ∧ p v0 = false ∧ ((u0 = cN N 0 e ∧ v0 = cN N 1 e) ∨ (u0 = cN N 1 e ∧ v0 = cN N 0 e)) ∧ ∀ m, (p m || (decide (m = cN N 0 e) || decide (m = cN N 1 e))) = true ↔ p m = true ∨ m = v0 := by
    cases q0 : p (cN N 0 e)
    · have q1 : p (cN N 1 e) = true := by
        cases z : p (cN N 1 e)
        · rw [q0, z] at hne; exact absurd rfl hne
        · rfl
      refine ⟨cN N 1 e, cN N 0 e, Or.inr rfl, q1, q0, Or.inr ⟨rfl, rfl⟩, fun m => ?_⟩
      simp only [Bool.or_eq_true, decide_eq_true_eq]
      constructor
      · rintro (z | z | z)
        · exact Or.inl z
        · exact Or.inr z
        · rw [z]; exact Or.inl q1
      · rintro (z | z)
        · exact Or.inl z
        · exact Or.inr (Or.inl z)
    · have q1 : p (cN N 1 e) = false := by
        cases z : p (cN N 1 e)
        · rfl
        · rw [q0, z] at hne; exact absurd rfl hne
      refine ⟨cN N 0 e, cN N 1 e, Or.inl rfl, q0, q1, Or.inl ⟨rfl, rfl⟩, fun m => ?_⟩
      simp only [Bool.or_eq_true, decide_eq_true_eq]
      constructor
      · rintro (z | z | z)
        · exact Or.inl z
        · rw [z]; exact Or.inl q0
        · exact Or.inr z
      · rintro (z | z)
        · exact Or.inl z
        · exact Or.inr (Or.inr z)
  have mono : ∀ (t : Nat) {x m : Nat}, clo (cN N 0) (cN N 1) (acT N Z t) (ldN N) x m → clo (cN N 0) (cN N 1) (acT N (fun c => Z c || decide (c = e)) t) (ldN N) x m := fun t x m z => clo_mono (fun c _ w => by
    unfold acT at w ⊢
    rw [Bool.and_eq_true] at w ⊢
    exact ⟨by simp [w.1], w.2⟩) z
  have edge : ∀ t, cN N 5 e < t → clo (cN N 0) (cN N 1) (acT N (fun c => Z c || decide (c = e)) t) (ldN N) u0 v0 := fun t ht => by
    have ge : acT N (fun c => Z c || decide (c = e)) t e = true := by
      unfold acT
      simp [ht]
    rcases hends with z | z
    · rw [z.1, z.2]
      exact (clo_st he ge).mp clo_rf
    · rw [z.1, z.2]
      exact (clo_st he ge).mpr clo_rf
  have ins : ∀ (_ : Nat) (m : Nat), p m = true → (p m || (decide (m = cN N 0 e) || decide (m = cN N 1 e))) = true := fun _ m hm => by rw [hm]; rfl
  have old : ∀ c u z, c < ldN N → thN N c = true → ((u = cN N 0 c ∧ z = cN N 1 c) ∨ (u = cN N 1 c ∧ z = cN N 0 c)) → p u = true → p z = false → ∀ t, cN N 5 c < t → clo (cN N 0) (cN N 1) (acT N (fun c => Z c || decide (c = e)) t) (ldN N) u v0 := fun c u z hc htc hz pu pz t ct => by
    have lv : lvB N p c = true := lvB_iff.mpr ⟨htc, by
      rcases hz with y | y
      · rw [← y.1, ← y.2, pu, pz]; decide
      · rw [← y.1, ← y.2, pu, pz]; decide⟩
    have ce := mn c hc lv
    exact clo_tr (mono t (h3 t c e u u0 hc he lv hl ct (by omega) (by rcases hz with y | y; exact Or.inl y.1; exact Or.inr y.1) hu0 pu pu0)) (edge t (by omega))
  refine ⟨fun c hc => ?_, ?_, fun t c c' u u' hc hc' lv lv' ct ct' hu hu' pu pu' => ?_, fun c hc htc p0 p1 => ?_⟩
  · have hc' : Z c = true ∨ c = e := by simpa using hc
    rcases hc' with z | z
    · obtain ⟨z1, z2, z3, z4⟩ := h1 c z
      exact ⟨z1, z2, ins 0 _ z3, ins 0 _ z4⟩
    · subst z
      exact ⟨he, ht, by simp, by simp⟩
  · have comp : ∀ t, cpN N (acT N (fun c => Z c || decide (c = e)) t) = cpN N (acT N Z t) - (if cN N 5 e < t then 1 else 0) := fun t => by
      by_cases lt : cN N 5 e < t
      · have nc : ¬ clo (cN N 0) (cN N 1) (acT N Z t) (ldN N) (cN N 0 e) (cN N 1 e) := fun z => by
          have st : clo (cN N 0) (cN N 1) (acT N Z t) (ldN N) u0 v0 := by
            rcases hends with y | y
            · rw [y.1, y.2]; exact z
            · rw [y.1, y.2]; exact clo_sy z
          have := clo_closed (p := p) pu0 (fun c hc hg => by
            unfold acT at hg
            rw [Bool.and_eq_true] at hg
            have := h1 c hg.1
            rw [this.2.2.1, this.2.2.2]) st
          rw [pv0] at this
          cases this
        have := cps_add (g' := acT N (fun c => Z c || decide (c = e)) t) he (fun c => by
          unfold acT
          by_cases z : c = e
          · subst z; simp [lt]
          · simp [z]) nc o16.1 o16.2
        unfold cpN
        rw [if_pos lt]
        omega
      · have : acT N (fun c => Z c || decide (c = e)) t = acT N Z t := by
          funext c
          unfold acT
          by_cases z : c = e
          · subst z; simp [lt]
          · simp [z]
        rw [this, if_neg lt]
        omega
    have sm : chS N (acT N (fun c => Z c || decide (c = e))) 100 = chS N (acT N Z) 100 + (cN N 5 e : Int) := by
      unfold chS
      refine sI_us (j := cN N 5 e) (by omega) fun t ht => ?_
      show (t : Int) * (cpN N (acT N (fun c => Z c || decide (c = e)) t) - cpN N (acT N (fun c => Z c || decide (c = e)) (t + 1))) = (t : Int) * (cpN N (acT N Z t) - cpN N (acT N Z (t + 1))) + _
      rw [comp t, comp (t + 1)]
      by_cases q : t = cN N 5 e
      · rw [if_neg (by omega), if_pos (by omega), if_pos q]
        rw [show cpN N (acT N Z t) - 0 - (cpN N (acT N Z (t + 1)) - 1) = cpN N (acT N Z t) - cpN N (acT N Z (t + 1)) + 1 by omega, Int.mul_add, Int.mul_one, q]
      · rw [if_neg q]
        by_cases lt : cN N 5 e < t
        · rw [if_pos lt, if_pos (by omega), show cpN N (acT N Z t) - 1 - (cpN N (acT N Z (t + 1)) - 1) = cpN N (acT N Z t) - cpN N (acT N Z (t + 1)) by omega, Int.add_zero]
        · rw [if_neg lt, if_neg (by omega), show cpN N (acT N Z t) - 0 - (cpN N (acT N Z (t + 1)) - 0) = cpN N (acT N Z t) - cpN N (acT N Z (t + 1)) by omega, Int.add_zero]
    rw [sm, ← h2]
    omega
  · have one : ∀ c u, c < ldN N → lvB N (fun m => p m || (decide (m = cN N 0 e) || decide (m = cN N 1 e))) c = true → cN N 5 c < t → (u = cN N 0 c ∨ u = cN N 1 c) → (p u || (decide (u = cN N 0 e) || decide (u = cN N 1 e))) = true → clo (cN N 0) (cN N 1) (acT N (fun c => Z c || decide (c = e)) t) (ldN N) u v0 := fun c u hc lv ct hu pu => by
      obtain ⟨htc, hd⟩ := lvB_iff.mp lv
      rcases (hp' u).mp pu with z | z
      · have key : ∀ z, ((u = cN N 0 c ∧ z = cN N 1 c) ∨ (u = cN N 1 c ∧ z = cN N 0 c)) → p z = false := fun z' hz => by
          cases q : p z'
          · rfl
          · exfalso
            have a : (p u || (decide (u = cN N 0 e) || decide (u = cN N 1 e))) = true := pu
            have b : (p z' || (decide (z' = cN N 0 e) || decide (z' = cN N 1 e))) = true := ins 0 z' q
            rcases hz with y | y
            · rw [y.1] at a; rw [y.2] at b
              exact hd (a.trans b.symm)
            · rw [y.1] at a; rw [y.2] at b
              exact hd (b.trans a.symm)
        rcases hu with y | y
        · exact old c u _ hc htc (Or.inl ⟨y, rfl⟩) z (key _ (Or.inl ⟨y, rfl⟩)) t ct
        · exact old c u _ hc htc (Or.inr ⟨y, rfl⟩) z (key _ (Or.inr ⟨y, rfl⟩)) t ct
      · rw [z]; exact clo_rf
    exact clo_tr (one c u hc lv ct hu pu) (clo_sy (one c' u' hc' lv' ct' hu' pu'))
  · have oc := o.2.1 c hc
    rcases (hp' _).mp p0 with z0 | z0
    · rcases (hp' _).mp p1 with z1 | z1
      · exact mono _ (h4 c hc htc z0 z1)
      · have := old c (cN N 0 c) (cN N 1 c) hc htc (Or.inl ⟨rfl, rfl⟩) z0 (by rw [z1]; exact pv0) (cN N 5 c + 1) (by omega)
        rw [z1]; exact this
    · rcases (hp' _).mp p1 with z1 | z1
      · have := old c (cN N 1 c) (cN N 0 c) hc htc (Or.inr ⟨rfl, rfl⟩) z1 (by rw [z0]; exact pv0) (cN N 5 c + 1) (by omega)
        rw [z0]; exact clo_sy this
      · exact absurd (z0.trans z1.symm) oc.2.2.1
theorem cnt_fu : ∀ n, cnt (fun _ => true) n = n
  | 0 => rfl
  | n + 1 => by rw [cnt_s, cnt_fu n]; simp
theorem prN_I (o : okB N) : ∀ r, r < nN N → (∃ Z, prI N (prN N r).1 Z (prN N r).2) ∧ ∀ v, (prN N r).1 v = true → v < nN N
  | 0, _ => by
    have b0 := okn o
    have it : ∀ u, it1 0 u = true → u = 0 := fun u hu => by simpa [it1] using hu
    refine ⟨⟨fun _ => false, fun c hc => (by cases hc), ?_, fun t c c' u u' _ _ _ _ _ _ _ _ pu pu' => ?_, fun c hc _ p0 p1 => ?_⟩, fun v hv => by rw [it v hv]; omega⟩
    · show ((0 : Nat) : Int) = _
      refine (sI_0 fun t _ => ?_).symm
      have : ∀ t, acT N (fun _ => false) t = fun _ => false := fun t => by funext c; rfl
      show (t : Int) * (cpN N (acT N (fun _ => false) t) - cpN N (acT N (fun _ => false) (t + 1))) = 0
      rw [this, this, Int.sub_self, Int.mul_zero]
    · rw [it u pu, it u' pu']; exact clo_rf
    · exact absurd ((it _ p0).trans (it _ p1).symm) (o.2.1 c hc).2.2.1
  | r + 1, hr => by
    have b0 := okn o
    obtain ⟨⟨Z, i1⟩, i2⟩ := prN_I o r (by omega)
    have ct := (prN_cnt o r (by omega)).1
    have mn := chL_min (N := N) (p := (prN N r).1) (j := ldN N)
    rw [prN]
    cases e : chL N (prN N r).1 (ldN N) with
    | none =>
      have gp := gpN_sp (p := (prN N r).1) (by omega)
      refine ⟨⟨Z, prI_none i1 o gp.2.2 (mn.1 e)⟩, fun v hv => ?_⟩
      have hv' : (prN N r).1 v = true ∨ v = gpN (prN N r).1 := by
        have : ((prN N r).1 v || it1 (gpN (prN N r).1) v) = true := hv
        simpa [it1] using this
      rcases hv' with z | z
      · exact i2 v z
      · rw [z]
        apply Classical.byContradiction
        intro w
        have c1 : cnt (prN N r).1 (nN N) = nN N := by
          rw [cnt_congr (q := fun _ => true) (fun i hi => gp.2.1 i (by omega)), cnt_fu]
        have := cnt_mn (p := (prN N r).1) (m := nN N) 16 (by omega)
        omega
    | some c =>
      have cl := chL_lt e
      refine ⟨⟨_, prI_some i1 o cl.1 cl.2 (mn.2 c e)⟩, fun v hv => ?_⟩
      have oc := o.2.1 c cl.1
      have hv' : (prN N r).1 v = true ∨ v = cN N 0 c ∨ v = cN N 1 c := by
        have : ((prN N r).1 v || (decide (v = cN N 0 c) || decide (v = cN N 1 c))) = true := hv
        simpa using this
      rcases hv' with z | z | z
      · exact i2 v z
      · omega
      · omega
/-- Prim's sum is Kruskal's -/
theorem cheap_eq (o : okB N) : (prN N (nN N - 1)).2 = (krN N 100).2 := by
  have b0 := okn o
  obtain ⟨⟨Z, i1⟩, i2⟩ := prN_I o (nN N - 1) (by omega)
  have ct := (prN_cnt o (nN N - 1) (by omega)).1
  have all : ∀ v, v < nN N → (prN N (nN N - 1)).1 v = true := by
    refine cnt_all ?_
    have := cnt_up (p := (prN N (nN N - 1)).1) (m := nN N) (fun k hk => by
      cases q : (prN N (nN N - 1)).1 k
      · rfl
      · have := i2 k q; omega) 16 (by omega)
    omega
  have cl : ∀ t x m, clo (cN N 0) (cN N 1) (acT N Z t) (ldN N) x m ↔ clo (cN N 0) (cN N 1) (glB N t) (ldN N) x m := fun t x m => by
    constructor
    · refine clo_mono fun c hc w => ?_
      unfold acT at w
      rw [Bool.and_eq_true] at w
      unfold glB
      rw [(i1.1 c w.1).2.1, Bool.true_and]
      exact w.2
    · intro h
      refine h (fun m => clo (cN N 0) (cN N 1) (acT N Z t) (ldN N) x m) clo_rf fun c hc w => ?_
      have oc := o.2.1 c hc
      unfold glB at w
      rw [Bool.and_eq_true, decide_eq_true_eq] at w
      have c1 := i1.2.2.2 c hc w.1 (all _ oc.1) (all _ oc.2.1)
      have c2 : clo (cN N 0) (cN N 1) (acT N Z t) (ldN N) (cN N 0 c) (cN N 1 c) := clo_mono (fun d _ y => by
        unfold acT at y ⊢
        rw [Bool.and_eq_true, decide_eq_true_eq] at y ⊢
        exact ⟨y.1, by omega⟩) c1
      exact ⟨fun z => clo_tr z c2, fun z => clo_tr z (clo_sy c2)⟩
  have e1 := i1.2.1
  have e2 := (krN_I o 100).2
  have e3 : chS N (acT N Z) 100 = chS N (glB N) 100 := by
    unfold chS
    refine sI_ext fun t _ => ?_
    unfold cpN
    rw [cps_eq (cl t), cps_eq (cl (t + 1))]
  omega
end PRM
