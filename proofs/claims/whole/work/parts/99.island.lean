/-! ISLANDS -/
def nbG (N : nt) (c : Nat) : Bool := thN N c && !brg N c
/-- a cable less -/
theorem clo_less {a0 a1 : Nat → Nat} {g g' : Nat → Bool} {n x m c : Nat} (hc : c < n) (hg : ∀ d, d < n → d ≠ c → g d = true → g' d = true) (h : clo a0 a1 g n x m) : clo a0 a1 g' n x m ∨ (clo a0 a1 g' n x (a0 c) ∧ clo a0 a1 g' n (a1 c) m) ∨ (clo a0 a1 g' n x (a1 c) ∧ clo a0 a1 g' n (a0 c) m) := by
  refine h (fun u => clo a0 a1 g' n x u ∨ (clo a0 a1 g' n x (a0 c) ∧ clo a0 a1 g' n (a1 c) u) ∨ (clo a0 a1 g' n x (a1 c) ∧ clo a0 a1 g' n (a0 c) u)) (Or.inl clo_rf) fun d hd w => ?_
  by_cases e : d = c
  · subst e
    constructor
    · rintro (z | ⟨z, _⟩ | ⟨z, _⟩)
      · exact Or.inr (Or.inl ⟨z, clo_rf⟩)
      · exact Or.inr (Or.inl ⟨z, clo_rf⟩)
      · exact Or.inl z
    · rintro (z | ⟨z, _⟩ | ⟨z, _⟩)
      · exact Or.inr (Or.inr ⟨z, clo_rf⟩)
      · exact Or.inl z
      · exact Or.inr (Or.inr ⟨z, clo_rf⟩)
  · have s := fun (u : Nat) => clo_st (a0 := a0) (a1 := a1) (x := u) hd (hg d hd e w)
    exact or_congr (s _) (or_congr (and_congr Iff.rfl (s _)) (and_congr Iff.rfl (s _)))
section ISL
variable {N : nt}
def gJ (N : nt) (j c : Nat) : Bool := thN N c && !(decide (c < j) && brg N c)
theorem gJ_iff {j c : Nat} : gJ N j c = true ↔ (thN N c = true ∧ (c < j → brg N c = false)) := by
  unfold gJ
  by_cases q : c < j
  · simp [q]
  · simp [q]
theorem isl_iff (o : okB N) {x m : Nat} (hx : x < 16) (hm : m < 16) : clo (cN N 0) (cN N 1) (nbG N) (ldN N) x m ↔ (clo (cN N 0) (cN N 1) (thN N) (ldN N) x m ∧ ∀ c, c < ldN N → trN N c = true → clo (cN N 0) (cN N 1) (spG N false (c : Int) (-1)) (ldN N) x m) := by
  have gs : ∀ c d : Nat, spG N false (c : Int) (-1) d = true ↔ (thN N d = true ∧ d ≠ c) := fun c d => by
    rw [← lkG_sp]
    unfold lkG
    simp
    intro _
    omega
  have br : ∀ c, c < ldN N → (brg N c = true ↔ trN N c = true ∧ ¬ clo (cN N 0) (cN N 1) (spG N false (c : Int) (-1)) (ldN N) (cN N 0 c) (cN N 1 c)) := fun c hc => by
    have w := fdN_clo (t := false) (but := (c : Int)) (shut := -1) o (ok16 o hc).1 (ok16 o hc).2
    unfold brg
    rw [Bool.and_eq_true, decide_eq_true_eq, ← w]
    simp
  constructor
  · intro h
    refine ⟨clo_mono (fun c _ z => by unfold nbG at z; simp at z; exact z.1) h, fun c hc ht => ?_⟩
    refine h (fun u => clo (cN N 0) (cN N 1) (spG N false (c : Int) (-1)) (ldN N) x u) clo_rf fun d hd z => ?_
    have z2 : thN N d = true ∧ brg N d = false := by unfold nbG at z; simpa using z
    by_cases e : d = c
    · subst e
      have w : clo (cN N 0) (cN N 1) (spG N false (d : Int) (-1)) (ldN N) (cN N 0 d) (cN N 1 d) := by
        refine Classical.byContradiction fun y => ?_
        have := (br d hd).mpr ⟨ht, y⟩
        rw [z2.2] at this
        cases this
      exact ⟨fun y => clo_tr y w, fun y => clo_tr y (clo_sy w)⟩
    · exact clo_st hd ((gs c d).mpr ⟨z2.1, e⟩)
  · rintro ⟨h0, h1⟩
    have all : ∀ j, j ≤ ldN N → clo (cN N 0) (cN N 1) (gJ N j) (ldN N) x m := by
      intro j
      induction j with
      | zero => exact fun _ => clo_mono (fun c _ z => by unfold gJ; simp [z]) h0
      | succ j ih =>
        intro hj
        have p := ih (by omega)
        cases q : brg N j
        · refine clo_mono (fun c _ z => ?_) p
          have z2 : thN N c = true ∧ (c < j → brg N c = false) := gJ_iff.mp z
          have : c < j + 1 → brg N c = false := fun y => by
            by_cases e : c = j
            · rw [e]; exact q
            · exact z2.2 (by omega)
          exact gJ_iff.mpr ⟨z2.1, this⟩
        · have b := (br j (by omega)).mp q
          have sub : ∀ c, c < ldN N → gJ N (j + 1) c = true → spG N false (j : Int) (-1) c = true := fun c _ z => by
            have z2 : thN N c = true ∧ (c < j + 1 → brg N c = false) := gJ_iff.mp z
            refine (gs j c).mpr ⟨z2.1, fun e => ?_⟩
            have := z2.2 (by omega)
            rw [e, q] at this
            cases this
          have xm := h1 j (by omega) b.1
          rcases clo_less (g' := gJ N (j + 1)) (by omega : j < ldN N) (fun d _ hd z => by
            have z2 : thN N d = true ∧ (d < j → brg N d = false) := gJ_iff.mp z
            have : d < j + 1 → brg N d = false := fun y => z2.2 (by omega)
            exact gJ_iff.mpr ⟨z2.1, this⟩) p with w | ⟨w1, w2⟩ | ⟨w1, w2⟩
          · exact w
          · exact absurd (clo_tr (clo_tr (clo_sy (clo_mono sub w1)) xm) (clo_sy (clo_mono sub w2))) b.2
          · exact absurd (clo_tr (clo_tr (clo_mono sub w2) (clo_sy xm)) (clo_mono sub w1)) b.2
    exact clo_mono (fun c hc z => by
      have z2 : thN N c = true ∧ (c < ldN N → brg N c = false) := gJ_iff.mp z
      unfold nbG
      rw [z2.1, z2.2 hc]
      rfl) (all _ (Nat.le_refl _))
def isC (N : nt) (x : Nat) : Nat → (Nat → Bool)
  | 0 => wnB N (-1) x 16
  | j + 1 => if trN N j then (fun m => isC N x j m && wnB N (j : Int) x 16 m) else isC N x j
theorem wn_clo (o : okB N) {wo : Int} {x m : Nat} (hx : x < 16) (hm : m < 16) : wnB N wo x 16 m = true ↔ clo (cN N 0) (cN N 1) (spG N false wo (-1)) (ldN N) x m := by
  rw [← fdN_clo o hx hm]
  have l := fdN_lo (N := N) (t := false) (but := wo) (shut := -1) (x := x) (m := m)
  unfold wnB
  rw [decide_eq_true_eq]
  exact ⟨fun z => z.1, fun z => ⟨z, by omega⟩⟩
theorem spG_0 (N : nt) : spG N false (-1) (-1) = thN N := by
  rw [← lkG_sp]
  funext c
  unfold lkG
  have : ((c : Int) ≠ -1) := by omega
  simp [this]
theorem isC_iff (o : okB N) {x m : Nat} (hx : x < 16) (hm : m < 16) : ∀ j, isC N x j m = true ↔ (clo (cN N 0) (cN N 1) (thN N) (ldN N) x m ∧ ∀ c, c < j → trN N c = true → clo (cN N 0) (cN N 1) (spG N false (c : Int) (-1)) (ldN N) x m)
  | 0 => by
    show wnB N (-1) x 16 m = true ↔ _
    rw [wn_clo o hx hm, spG_0]
    simp
  | j + 1 => by
    have ih := isC_iff o hx hm j
    rw [isC]
    cases q : trN N j
    · show isC N x j m = true ↔ _
      rw [ih]
      refine and_congr Iff.rfl ⟨fun h c hc ht => ?_, fun h c hc ht => h c (by omega) ht⟩
      by_cases e : c = j
      · rw [e, q] at ht; cases ht
      · exact h c (by omega) ht
    · show (isC N x j m && wnB N (j : Int) x 16 m) = true ↔ _
      rw [Bool.and_eq_true, ih, wn_clo o hx hm]
      constructor
      · rintro ⟨⟨h1, h2⟩, h3⟩
        refine ⟨h1, fun c hc ht => ?_⟩
        by_cases e : c = j
        · rw [e]; exact h3
        · exact h2 c (by omega) ht
      · rintro ⟨h1, h2⟩
        exact ⟨⟨h1, fun c hc ht => h2 c (by omega) ht⟩, h2 j (by omega) q⟩
theorem pb_andb (p q : Nat → Bool) : pm_and ((bs p 16 : Nat) : Int) ((bs q 16 : Nat) : Int) = ((bs (fun i => p i && q i) 16 : Nat) : Int) := by
  rw [pb_and (bs_31 p (by omega)), bs_and]
theorem islandOf_c {f : pm_H} {s a : Nat} {L : Nat → Nat → Int} {k : pm_P} {A R : Nat → Nat → Int} {U : Nat → Nat} {S : Nat → Int} (h : sv_at f s L) (hc : cn_at f a A R U S) (hl : ckl N A S) (o : okB N) (hd : a + 21 ≤ s ∨ s + 6 ≤ a) {x : Nat} (hx : x < 16) (hk : ∀ (f' : pm_H) (L' : Nat → Nat → Int), sv_at f' s L' → sfr s f f' → k (some (.inl ((bs (isC N x (ldN N)) 16 : Nat) : Int))) f') : pm_ex T_X2_islandOf [.inr (.inl (some s)), .inr (.inl (some a)), .inl (x : Int)] f k := by
  have b1 := okl o
  have s2 : S 2 = (ldN N : Int) := hl.1.2.2.1
  refine in_X2_islandOf ?_
  refine pm_go_on [11] 60 ?_
  set_option maxRecDepth 100000 in simp (maxSteps := 2000000) only [pm_x_run, pm_x_rt, pm_x_rf, pm_z_S, pm_z_D, pm_z_cut0, pm_z_cut1, pm_z_cli, pm_z_clr, pm_z_cln, pm_z_cll, pm_z_up, pm_x_aload0, pm_x_aload1, pm_x_c, pm_x_c2, pm_x_cn0, pm_x_cn1, pm_x_getf, pm_x_gf, pm_x_goto, pm_x_gv, pm_x_ia, pm_x_iald, pm_x_icmp_ge, pm_x_if_ne, pm_x_iinc4, pm_x_iload2, pm_x_iload3, pm_x_iload4, pm_x_invv, pm_x_istore3, pm_x_istore4, pm_x_v0, pm_x_v1, pm_x_x2, pm_z_cat0, pm_z_cati, pm_z_catl, pm_z_catr, pm_z_iand, pm_z_iconst, pm_z_pop0, pm_z_pop1, zX2_islandOf_B, zX2_islandOf_F, zX2_islandOf_R, zX2_islandOf_X, zX2_islandOf_C55, pm_z_ireti (zX2_islandOf_R), fX2_59, fX2_62, dX2_islandOf_0, dX2_islandOf_1, dX2_islandOf_2, dX2_islandOf_3, dX2_islandOf_4, dX2_islandOf_7, dX2_islandOf_8, dX2_islandOf_9, dX2_islandOf_11, dX2_islandOf_13, dX2_islandOf_14, dX2_islandOf_17, dX2_islandOf_20, dX2_islandOf_21, dX2_islandOf_24, dX2_islandOf_26, dX2_islandOf_27, dX2_islandOf_30, dX2_islandOf_31, dX2_islandOf_32, dX2_islandOf_33, dX2_islandOf_34, dX2_islandOf_36, dX2_islandOf_39, dX2_islandOf_40, dX2_islandOf_41, dX2_islandOf_44, dX2_islandOf_47, dX2_islandOf_48, Bool.cond_true, Bool.cond_false, Bool.or_false, Bool.false_or, Bool.true_or, Bool.or_true, true_and, and_true, if_true, if_false, List.length_cons, List.length_nil, List.getElem?_cons_zero, List.getElem?_cons_succ, List.set_cons_zero, List.set_cons_succ, Option.toList_some, Option.toList_none, List.cons_append, List.nil_append, beq_self_eq_true, Option.isSome_some, Option.isSome_none, pm_tg_lit, ite_true, ite_false, Nat.reduceAdd, Nat.reduceBEq, Nat.reduceLT, Nat.reduceLeDiff, Nat.reduceEqDiff, Int.reduceAdd, Int.reduceSub, Int.reduceLE, Int.reduceLT, Int.reduceEq, Int.reduceToNat, Int.reduceNeg, Int.cast_ofNat_Int, Int.reduceNatCast, Int.reduceNatCast', Int.zero_add, Int.add_zero, Nat.zero_add, Nat.add_zero, and_self, decide_true, decide_false, true_or, or_true, or_false, false_or, eq_self, Int.toNat_natCast, b2_e0, b2_e1, b2_ok, b2_w, b2_v, b2_tt, b2_ff, Bool.true_eq_false, Bool.false_eq_true, Option.some.injEq, Int.one_mul, Int.mul_one, not_true_eq_false, not_false_eq_true, ite_not, decide_eq_false_iff_not, decide_eq_true_eq, Int.reduceMul, Int.reduceMod, sv0 h, sv1 h, sv2 h, sv3 h, sv4 h, sv5 h, pm_z_rcv1 (sv0 h)]
  refine reach_c h hc hl o hd hx fun f1 L1 h1 r1 => ?_
  set_option maxRecDepth 100000 in simp (maxSteps := 2000000) only [pm_x_run, pm_x_rt, pm_x_rf, pm_z_S, pm_z_D, pm_z_cut0, pm_z_cut1, pm_z_cli, pm_z_clr, pm_z_cln, pm_z_cll, pm_z_up, pm_x_aload0, pm_x_aload1, pm_x_c, pm_x_c2, pm_x_cn0, pm_x_cn1, pm_x_getf, pm_x_gf, pm_x_goto, pm_x_gv, pm_x_ia, pm_x_iald, pm_x_icmp_ge, pm_x_if_ne, pm_x_iinc4, pm_x_iload2, pm_x_iload3, pm_x_iload4, pm_x_invv, pm_x_istore3, pm_x_istore4, pm_x_v0, pm_x_v1, pm_x_x2, pm_z_cat0, pm_z_cati, pm_z_catl, pm_z_catr, pm_z_iand, pm_z_iconst, pm_z_pop0, pm_z_pop1, zX2_islandOf_B, zX2_islandOf_F, zX2_islandOf_R, zX2_islandOf_X, zX2_islandOf_C55, pm_z_ireti (zX2_islandOf_R), fX2_59, fX2_62, dX2_islandOf_0, dX2_islandOf_1, dX2_islandOf_2, dX2_islandOf_3, dX2_islandOf_4, dX2_islandOf_7, dX2_islandOf_8, dX2_islandOf_9, dX2_islandOf_11, dX2_islandOf_13, dX2_islandOf_14, dX2_islandOf_17, dX2_islandOf_20, dX2_islandOf_21, dX2_islandOf_24, dX2_islandOf_26, dX2_islandOf_27, dX2_islandOf_30, dX2_islandOf_31, dX2_islandOf_32, dX2_islandOf_33, dX2_islandOf_34, dX2_islandOf_36, dX2_islandOf_39, dX2_islandOf_40, dX2_islandOf_41, dX2_islandOf_44, dX2_islandOf_47, dX2_islandOf_48, Bool.cond_true, Bool.cond_false, Bool.or_false, Bool.false_or, Bool.true_or, Bool.or_true, true_and, and_true, if_true, if_false, List.length_cons, List.length_nil, List.getElem?_cons_zero, List.getElem?_cons_succ, List.set_cons_zero, List.set_cons_succ, Option.toList_some, Option.toList_none, List.cons_append, List.nil_append, beq_self_eq_true, Option.isSome_some, Option.isSome_none, pm_tg_lit, ite_true, ite_false, Nat.reduceAdd, Nat.reduceBEq, Nat.reduceLT, Nat.reduceLeDiff, Nat.reduceEqDiff, Int.reduceAdd, Int.reduceSub, Int.reduceLE, Int.reduceLT, Int.reduceEq, Int.reduceToNat, Int.reduceNeg, Int.cast_ofNat_Int, Int.reduceNatCast, Int.reduceNatCast', Int.zero_add, Int.add_zero, Nat.zero_add, Nat.add_zero, and_self, decide_true, decide_false, true_or, or_true, or_false, false_or, eq_self, Int.toNat_natCast, b2_e0, b2_e1, b2_ok, b2_w, b2_v, b2_tt, b2_ff, Bool.true_eq_false, Bool.false_eq_true, Option.some.injEq, Int.one_mul, Int.mul_one, not_true_eq_false, not_false_eq_true, ite_not, decide_eq_false_iff_not, decide_eq_true_eq, Int.reduceMul, Int.reduceMod, sv0 h1, sv1 h1, sv2 h1, sv3 h1, sv4 h1, sv5 h1, pm_z_rcv1 (sv0 h1)]
  refine pm_for (ldN N) (fun c lv F => lv = [some (.inr (.inl (some (s)))), some (.inr (.inl (some (a)))), some (.inl ((x : Int))), some (.inl (((bs (isC N x c) 16 : Nat) : Int))), some (.inl ((c : Int)))] ∧ ∃ L', sv_at F s L' ∧ sfr s f F) (fun c lv F hc' hJ ih => ?_) (fun lv F hJ => ?_) 0 _ _ (Nat.zero_le _) ⟨rfl, L1, h1, r1⟩
  · obtain ⟨rfl, L2, h2, r2⟩ := hJ
    have c2 := cn_keepS hc hd r2
    have cc := ckA hl hc'
    refine pm_go_on [11] 60 ?_
    set_option maxRecDepth 100000 in simp (maxSteps := 2000000) only [pm_x_run, pm_x_rt, pm_x_rf, pm_z_S, pm_z_D, pm_z_cut0, pm_z_cut1, pm_z_cli, pm_z_clr, pm_z_cln, pm_z_cll, pm_z_up, pm_x_aload0, pm_x_aload1, pm_x_c, pm_x_c2, pm_x_cn0, pm_x_cn1, pm_x_getf, pm_x_gf, pm_x_goto, pm_x_gv, pm_x_ia, pm_x_iald, pm_x_icmp_ge, pm_x_if_ne, pm_x_iinc4, pm_x_iload2, pm_x_iload3, pm_x_iload4, pm_x_invv, pm_x_istore3, pm_x_istore4, pm_x_v0, pm_x_v1, pm_x_x2, pm_z_cat0, pm_z_cati, pm_z_catl, pm_z_catr, pm_z_iand, pm_z_iconst, pm_z_pop0, pm_z_pop1, zX2_islandOf_B, zX2_islandOf_F, zX2_islandOf_R, zX2_islandOf_X, zX2_islandOf_C55, pm_z_ireti (zX2_islandOf_R), fX2_59, fX2_62, dX2_islandOf_0, dX2_islandOf_1, dX2_islandOf_2, dX2_islandOf_3, dX2_islandOf_4, dX2_islandOf_7, dX2_islandOf_8, dX2_islandOf_9, dX2_islandOf_11, dX2_islandOf_13, dX2_islandOf_14, dX2_islandOf_17, dX2_islandOf_20, dX2_islandOf_21, dX2_islandOf_24, dX2_islandOf_26, dX2_islandOf_27, dX2_islandOf_30, dX2_islandOf_31, dX2_islandOf_32, dX2_islandOf_33, dX2_islandOf_34, dX2_islandOf_36, dX2_islandOf_39, dX2_islandOf_40, dX2_islandOf_41, dX2_islandOf_44, dX2_islandOf_47, dX2_islandOf_48, Bool.cond_true, Bool.cond_false, Bool.or_false, Bool.false_or, Bool.true_or, Bool.or_true, true_and, and_true, if_true, if_false, List.length_cons, List.length_nil, List.getElem?_cons_zero, List.getElem?_cons_succ, List.set_cons_zero, List.set_cons_succ, Option.toList_some, Option.toList_none, List.cons_append, List.nil_append, beq_self_eq_true, Option.isSome_some, Option.isSome_none, pm_tg_lit, ite_true, ite_false, Nat.reduceAdd, Nat.reduceBEq, Nat.reduceLT, Nat.reduceLeDiff, Nat.reduceEqDiff, Int.reduceAdd, Int.reduceSub, Int.reduceLE, Int.reduceLT, Int.reduceEq, Int.reduceToNat, Int.reduceNeg, Int.cast_ofNat_Int, Int.reduceNatCast, Int.reduceNatCast', Int.zero_add, Int.add_zero, Nat.zero_add, Nat.add_zero, and_self, decide_true, decide_false, true_or, or_true, or_false, false_or, eq_self, Int.toNat_natCast, b2_e0, b2_e1, b2_ok, b2_w, b2_v, b2_tt, b2_ff, Bool.true_eq_false, Bool.false_eq_true, Option.some.injEq, Int.one_mul, Int.mul_one, not_true_eq_false, not_false_eq_true, ite_not, decide_eq_false_iff_not, decide_eq_true_eq, Int.reduceMul, Int.reduceMod, sv0 h2, sv1 h2, sv2 h2, sv3 h2, sv4 h2, sv5 h2, pm_z_rcv1 (sv0 h2), cn0 c2, cn1 c2, cn2 c2, cn3 c2, cn4 c2, cn5 c2, cn6 c2, cn7 c2, cn8 c2, cn9 c2, cn10 c2, pm_z_rcv1 (cn0 c2), s2, cc.2.2.2.2.1]
    rw [if_pos (by omega)]
    refine ⟨by omega, ?_⟩
    by_cases q : cN N 2 c = 0
    · have e : isC N x (c + 1) = fun m => isC N x c m && wnB N (c : Int) x 16 m := by rw [isC, show trN N c = true by simp [trN, q]]; rfl
      rw [e] at ih
      rw [if_pos (by omega)]
      refine reach_c h2 c2 hl o hd hx fun f3 L3 h3 r3 => ?_
      set_option maxRecDepth 100000 in simp (maxSteps := 2000000) only [pm_x_run, pm_x_rt, pm_x_rf, pm_z_S, pm_z_D, pm_z_cut0, pm_z_cut1, pm_z_cli, pm_z_clr, pm_z_cln, pm_z_cll, pm_z_up, pm_x_aload0, pm_x_aload1, pm_x_c, pm_x_c2, pm_x_cn0, pm_x_cn1, pm_x_getf, pm_x_gf, pm_x_goto, pm_x_gv, pm_x_ia, pm_x_iald, pm_x_icmp_ge, pm_x_if_ne, pm_x_iinc4, pm_x_iload2, pm_x_iload3, pm_x_iload4, pm_x_invv, pm_x_istore3, pm_x_istore4, pm_x_v0, pm_x_v1, pm_x_x2, pm_z_cat0, pm_z_cati, pm_z_catl, pm_z_catr, pm_z_iand, pm_z_iconst, pm_z_pop0, pm_z_pop1, zX2_islandOf_B, zX2_islandOf_F, zX2_islandOf_R, zX2_islandOf_X, zX2_islandOf_C55, pm_z_ireti (zX2_islandOf_R), fX2_59, fX2_62, dX2_islandOf_0, dX2_islandOf_1, dX2_islandOf_2, dX2_islandOf_3, dX2_islandOf_4, dX2_islandOf_7, dX2_islandOf_8, dX2_islandOf_9, dX2_islandOf_11, dX2_islandOf_13, dX2_islandOf_14, dX2_islandOf_17, dX2_islandOf_20, dX2_islandOf_21, dX2_islandOf_24, dX2_islandOf_26, dX2_islandOf_27, dX2_islandOf_30, dX2_islandOf_31, dX2_islandOf_32, dX2_islandOf_33, dX2_islandOf_34, dX2_islandOf_36, dX2_islandOf_39, dX2_islandOf_40, dX2_islandOf_41, dX2_islandOf_44, dX2_islandOf_47, dX2_islandOf_48, Bool.cond_true, Bool.cond_false, Bool.or_false, Bool.false_or, Bool.true_or, Bool.or_true, true_and, and_true, if_true, if_false, List.length_cons, List.length_nil, List.getElem?_cons_zero, List.getElem?_cons_succ, List.set_cons_zero, List.set_cons_succ, Option.toList_some, Option.toList_none, List.cons_append, List.nil_append, beq_self_eq_true, Option.isSome_some, Option.isSome_none, pm_tg_lit, ite_true, ite_false, Nat.reduceAdd, Nat.reduceBEq, Nat.reduceLT, Nat.reduceLeDiff, Nat.reduceEqDiff, Int.reduceAdd, Int.reduceSub, Int.reduceLE, Int.reduceLT, Int.reduceEq, Int.reduceToNat, Int.reduceNeg, Int.cast_ofNat_Int, Int.reduceNatCast, Int.reduceNatCast', Int.zero_add, Int.add_zero, Nat.zero_add, Nat.add_zero, and_self, decide_true, decide_false, true_or, or_true, or_false, false_or, eq_self, Int.toNat_natCast, b2_e0, b2_e1, b2_ok, b2_w, b2_v, b2_tt, b2_ff, Bool.true_eq_false, Bool.false_eq_true, Option.some.injEq, Int.one_mul, Int.mul_one, not_true_eq_false, not_false_eq_true, ite_not, decide_eq_false_iff_not, decide_eq_true_eq, Int.reduceMul, Int.reduceMod]
      rw [pb_andb]
      exact ⟨by omega, ih _ _ ⟨rfl, L3, h3, sfr_tr r2 r3⟩⟩
    · have e : isC N x (c + 1) = isC N x c := by rw [isC, show trN N c = false by simp [trN, q]]; rfl
      rw [e] at ih
      rw [if_neg (by omega)]
      exact ⟨by omega, ih _ _ ⟨rfl, L2, h2, r2⟩⟩
  · obtain ⟨rfl, L2, h2, r2⟩ := hJ
    have c2 := cn_keepS hc hd r2
    refine pm_go_on [11] 60 ?_
    set_option maxRecDepth 100000 in simp (maxSteps := 2000000) only [pm_x_run, pm_x_rt, pm_x_rf, pm_z_S, pm_z_D, pm_z_cut0, pm_z_cut1, pm_z_cli, pm_z_clr, pm_z_cln, pm_z_cll, pm_z_up, pm_x_aload0, pm_x_aload1, pm_x_c, pm_x_c2, pm_x_cn0, pm_x_cn1, pm_x_getf, pm_x_gf, pm_x_goto, pm_x_gv, pm_x_ia, pm_x_iald, pm_x_icmp_ge, pm_x_if_ne, pm_x_iinc4, pm_x_iload2, pm_x_iload3, pm_x_iload4, pm_x_invv, pm_x_istore3, pm_x_istore4, pm_x_v0, pm_x_v1, pm_x_x2, pm_z_cat0, pm_z_cati, pm_z_catl, pm_z_catr, pm_z_iand, pm_z_iconst, pm_z_pop0, pm_z_pop1, zX2_islandOf_B, zX2_islandOf_F, zX2_islandOf_R, zX2_islandOf_X, zX2_islandOf_C55, pm_z_ireti (zX2_islandOf_R), fX2_59, fX2_62, dX2_islandOf_0, dX2_islandOf_1, dX2_islandOf_2, dX2_islandOf_3, dX2_islandOf_4, dX2_islandOf_7, dX2_islandOf_8, dX2_islandOf_9, dX2_islandOf_11, dX2_islandOf_13, dX2_islandOf_14, dX2_islandOf_17, dX2_islandOf_20, dX2_islandOf_21, dX2_islandOf_24, dX2_islandOf_26, dX2_islandOf_27, dX2_islandOf_30, dX2_islandOf_31, dX2_islandOf_32, dX2_islandOf_33, dX2_islandOf_34, dX2_islandOf_36, dX2_islandOf_39, dX2_islandOf_40, dX2_islandOf_41, dX2_islandOf_44, dX2_islandOf_47, dX2_islandOf_48, Bool.cond_true, Bool.cond_false, Bool.or_false, Bool.false_or, Bool.true_or, Bool.or_true, true_and, and_true, if_true, if_false, List.length_cons, List.length_nil, List.getElem?_cons_zero, List.getElem?_cons_succ, List.set_cons_zero, List.set_cons_succ, Option.toList_some, Option.toList_none, List.cons_append, List.nil_append, beq_self_eq_true, Option.isSome_some, Option.isSome_none, pm_tg_lit, ite_true, ite_false, Nat.reduceAdd, Nat.reduceBEq, Nat.reduceLT, Nat.reduceLeDiff, Nat.reduceEqDiff, Int.reduceAdd, Int.reduceSub, Int.reduceLE, Int.reduceLT, Int.reduceEq, Int.reduceToNat, Int.reduceNeg, Int.cast_ofNat_Int, Int.reduceNatCast, Int.reduceNatCast', Int.zero_add, Int.add_zero, Nat.zero_add, Nat.add_zero, and_self, decide_true, decide_false, true_or, or_true, or_false, false_or, eq_self, Int.toNat_natCast, b2_e0, b2_e1, b2_ok, b2_w, b2_v, b2_tt, b2_ff, Bool.true_eq_false, Bool.false_eq_true, Option.some.injEq, Int.one_mul, Int.mul_one, not_true_eq_false, not_false_eq_true, ite_not, decide_eq_false_iff_not, decide_eq_true_eq, Int.reduceMul, Int.reduceMod, sv0 h2, sv1 h2, sv2 h2, sv3 h2, sv4 h2, sv5 h2, pm_z_rcv1 (sv0 h2), cn0 c2, cn1 c2, cn2 c2, cn3 c2, cn4 c2, cn5 c2, cn6 c2, cn7 c2, cn8 c2, cn9 c2, cn10 c2, pm_z_rcv1 (cn0 c2), s2]
    rw [if_neg (by omega)]
    exact hk F L2 h2 r2
end ISL
