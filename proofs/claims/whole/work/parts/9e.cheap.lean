/-! THE CHEAPEST cables, in the class: the part that grows -/
def lvB (N : nt) (p : Nat → Bool) (c : Nat) : Bool := thN N c && (p (cN N 0 c) != p (cN N 1 c))
def chB (N : nt) (c : Nat) : Option Nat → Bool
  | none => true
  | some e => decide (cN N 5 c < cN N 5 e)
def chL (N : nt) (p : Nat → Bool) : Nat → Option Nat
  | 0 => none
  | j + 1 => if lvB N p j && chB N j (chL N p j) then some j else chL N p j
theorem chL_lt {N : nt} {p : Nat → Bool} : ∀ {j c : Nat}, chL N p j = some c → c < j ∧ lvB N p c = true
  | 0, c, h => by cases h
  | j + 1, c, h => by
    rw [chL] at h
    split at h
    · rename_i q
      rw [Bool.and_eq_true] at q
      cases h
      exact ⟨by omega, q.1⟩
    · have := chL_lt h
      exact ⟨by omega, this.2⟩
section CHP
variable {f : pm_H} {s a : Nat} {L : Nat → Nat → Int} {N : nt} {k : pm_P} {A R : Nat → Nat → Int} {U : Nat → Nat} {S : Nat → Int}
set_option maxRecDepth 20000 in
theorem leaving_c (h : sv_at f s L) (hc : cn_at f a A R U S) (hl : ckl N A S) (o : okB N) {p : Nat → Bool} (hk : k (some (.inl (optI (chL N p (ldN N))))) f) : pm_ex T_X2_cheapestLeaving [.inr (.inl (some s)), .inr (.inl (some a)), .inl ((bs p 16 : Nat) : Int)] f k := by
  have b1 := okl o
  have s2 : S 2 = (ldN N : Int) := hl.1.2.2.1
  have B31 := bs_31 p (n := 16) (by omega)
  refine in_X2_cheapestLeaving ?_
  refine pm_go_on [5] 60 ?_
  set_option maxRecDepth 100000 in simp (maxSteps := 2000000) only [pm_x_run, pm_x_rt, pm_x_rf, pm_z_S, pm_z_D, pm_z_cut0, pm_z_cut1, pm_z_cli, pm_z_clr, pm_z_cln, pm_z_cll, pm_z_up, pm_x_aload1, pm_x_c, pm_x_c2, pm_x_cn0, pm_x_cn1, pm_x_getf, pm_x_gf, pm_x_goto, pm_x_gv, pm_x_ia, pm_x_iald, pm_x_icmp_eq, pm_x_icmp_ge, pm_x_if_eq, pm_x_iinc4, pm_x_iload2, pm_x_iload3, pm_x_iload4, pm_x_iload5, pm_x_invs, pm_x_istore3, pm_x_istore4, pm_x_istore5, pm_z_cat0, pm_z_cati, pm_z_catl, pm_z_catr, pm_z_iconst, pm_z_pop0, pm_z_pop1, pm_z_rcv0, zX2_cheapestLeaving_B, zX2_cheapestLeaving_F, zX2_cheapestLeaving_R, zX2_cheapestLeaving_X, zX2_cheapestLeaving_C51, pm_z_ireti (zX2_cheapestLeaving_R), fX2_59, fX2_62, fX2_65, fX2_68, fX2_92, dX2_cheapestLeaving_0, dX2_cheapestLeaving_1, dX2_cheapestLeaving_2, dX2_cheapestLeaving_3, dX2_cheapestLeaving_5, dX2_cheapestLeaving_7, dX2_cheapestLeaving_8, dX2_cheapestLeaving_11, dX2_cheapestLeaving_14, dX2_cheapestLeaving_15, dX2_cheapestLeaving_18, dX2_cheapestLeaving_20, dX2_cheapestLeaving_21, dX2_cheapestLeaving_22, dX2_cheapestLeaving_25, dX2_cheapestLeaving_26, dX2_cheapestLeaving_27, dX2_cheapestLeaving_30, dX2_cheapestLeaving_32, dX2_cheapestLeaving_33, dX2_cheapestLeaving_36, dX2_cheapestLeaving_37, dX2_cheapestLeaving_38, dX2_cheapestLeaving_41, dX2_cheapestLeaving_43, dX2_cheapestLeaving_44, dX2_cheapestLeaving_47, dX2_cheapestLeaving_50, dX2_cheapestLeaving_51, dX2_cheapestLeaving_54, dX2_cheapestLeaving_55, dX2_cheapestLeaving_57, dX2_cheapestLeaving_59, dX2_cheapestLeaving_62, dX2_cheapestLeaving_63, dX2_cheapestLeaving_64, dX2_cheapestLeaving_67, dX2_cheapestLeaving_68, dX2_cheapestLeaving_71, dX2_cheapestLeaving_73, dX2_cheapestLeaving_74, dX2_cheapestLeaving_75, dX2_cheapestLeaving_78, dX2_cheapestLeaving_79, dX2_cheapestLeaving_80, dX2_cheapestLeaving_83, dX2_cheapestLeaving_85, dX2_cheapestLeaving_86, dX2_cheapestLeaving_89, dX2_cheapestLeaving_92, dX2_cheapestLeaving_93, Bool.cond_true, Bool.cond_false, Bool.or_false, Bool.false_or, Bool.true_or, Bool.or_true, true_and, and_true, if_true, if_false, List.length_cons, List.length_nil, List.getElem?_cons_zero, List.getElem?_cons_succ, List.set_cons_zero, List.set_cons_succ, Option.toList_some, Option.toList_none, List.cons_append, List.nil_append, beq_self_eq_true, Option.isSome_some, Option.isSome_none, pm_tg_lit, ite_true, ite_false, Nat.reduceAdd, Nat.reduceBEq, Nat.reduceLT, Nat.reduceLeDiff, Nat.reduceEqDiff, Int.reduceAdd, Int.reduceSub, Int.reduceLE, Int.reduceLT, Int.reduceEq, Int.reduceToNat, Int.reduceNeg, Int.cast_ofNat_Int, Int.reduceNatCast, Int.reduceNatCast', Int.zero_add, Int.add_zero, Nat.zero_add, Nat.add_zero, and_self, decide_true, decide_false, true_or, or_true, or_false, false_or, eq_self, Int.toNat_natCast, b2_e0, b2_e1, b2_ok, b2_w, b2_v, b2_tt, b2_ff, Bool.true_eq_false, Bool.false_eq_true, Option.some.injEq, Int.one_mul, Int.mul_one, not_true_eq_false, not_false_eq_true, ite_not, decide_eq_false_iff_not, decide_eq_true_eq, Int.reduceMul, Int.reduceMod, sv0 h, sv1 h, sv2 h, sv3 h, sv4 h, sv5 h, pm_z_rcv1 (sv0 h)]
  refine pm_for (ldN N) (fun c lv F => ∃ w5 : Option pm_V, F = f ∧ lv = [some (.inr (.inl (some (s)))), some (.inr (.inl (some (a)))), some (.inl (((bs p 16 : Nat) : Int))), some (.inl ((optI (chL N p c)))), some (.inl ((c : Int))), w5]) (fun c lv F hc' hJ ih => ?_) (fun lv F hJ => ?_) 0 _ _ (Nat.zero_le _) ⟨none, rfl, rfl⟩
  · obtain ⟨w5, rfl, rfl⟩ := hJ
    have cc := ckA hl hc'
    have oc := o.2.1 c hc'
    have o16 := ok16 o hc'
    refine pm_go_on [5] 60 ?_
    set_option maxRecDepth 100000 in simp (maxSteps := 2000000) only [pm_x_run, pm_x_rt, pm_x_rf, pm_z_S, pm_z_D, pm_z_cut0, pm_z_cut1, pm_z_cli, pm_z_clr, pm_z_cln, pm_z_cll, pm_z_up, pm_x_aload1, pm_x_c, pm_x_c2, pm_x_cn0, pm_x_cn1, pm_x_getf, pm_x_gf, pm_x_goto, pm_x_gv, pm_x_ia, pm_x_iald, pm_x_icmp_eq, pm_x_icmp_ge, pm_x_if_eq, pm_x_iinc4, pm_x_iload2, pm_x_iload3, pm_x_iload4, pm_x_iload5, pm_x_invs, pm_x_istore3, pm_x_istore4, pm_x_istore5, pm_z_cat0, pm_z_cati, pm_z_catl, pm_z_catr, pm_z_iconst, pm_z_pop0, pm_z_pop1, pm_z_rcv0, zX2_cheapestLeaving_B, zX2_cheapestLeaving_F, zX2_cheapestLeaving_R, zX2_cheapestLeaving_X, zX2_cheapestLeaving_C51, pm_z_ireti (zX2_cheapestLeaving_R), fX2_59, fX2_62, fX2_65, fX2_68, fX2_92, dX2_cheapestLeaving_0, dX2_cheapestLeaving_1, dX2_cheapestLeaving_2, dX2_cheapestLeaving_3, dX2_cheapestLeaving_5, dX2_cheapestLeaving_7, dX2_cheapestLeaving_8, dX2_cheapestLeaving_11, dX2_cheapestLeaving_14, dX2_cheapestLeaving_15, dX2_cheapestLeaving_18, dX2_cheapestLeaving_20, dX2_cheapestLeaving_21, dX2_cheapestLeaving_22, dX2_cheapestLeaving_25, dX2_cheapestLeaving_26, dX2_cheapestLeaving_27, dX2_cheapestLeaving_30, dX2_cheapestLeaving_32, dX2_cheapestLeaving_33, dX2_cheapestLeaving_36, dX2_cheapestLeaving_37, dX2_cheapestLeaving_38, dX2_cheapestLeaving_41, dX2_cheapestLeaving_43, dX2_cheapestLeaving_44, dX2_cheapestLeaving_47, dX2_cheapestLeaving_50, dX2_cheapestLeaving_51, dX2_cheapestLeaving_54, dX2_cheapestLeaving_55, dX2_cheapestLeaving_57, dX2_cheapestLeaving_59, dX2_cheapestLeaving_62, dX2_cheapestLeaving_63, dX2_cheapestLeaving_64, dX2_cheapestLeaving_67, dX2_cheapestLeaving_68, dX2_cheapestLeaving_71, dX2_cheapestLeaving_73, dX2_cheapestLeaving_74, dX2_cheapestLeaving_75, dX2_cheapestLeaving_78, dX2_cheapestLeaving_79, dX2_cheapestLeaving_80, dX2_cheapestLeaving_83, dX2_cheapestLeaving_85, dX2_cheapestLeaving_86, dX2_cheapestLeaving_89, dX2_cheapestLeaving_92, dX2_cheapestLeaving_93, Bool.cond_true, Bool.cond_false, Bool.or_false, Bool.false_or, Bool.true_or, Bool.or_true, true_and, and_true, if_true, if_false, List.length_cons, List.length_nil, List.getElem?_cons_zero, List.getElem?_cons_succ, List.set_cons_zero, List.set_cons_succ, Option.toList_some, Option.toList_none, List.cons_append, List.nil_append, beq_self_eq_true, Option.isSome_some, Option.isSome_none, pm_tg_lit, ite_true, ite_false, Nat.reduceAdd, Nat.reduceBEq, Nat.reduceLT, Nat.reduceLeDiff, Nat.reduceEqDiff, Int.reduceAdd, Int.reduceSub, Int.reduceLE, Int.reduceLT, Int.reduceEq, Int.reduceToNat, Int.reduceNeg, Int.cast_ofNat_Int, Int.reduceNatCast, Int.reduceNatCast', Int.zero_add, Int.add_zero, Nat.zero_add, Nat.add_zero, and_self, decide_true, decide_false, true_or, or_true, or_false, false_or, eq_self, Int.toNat_natCast, b2_e0, b2_e1, b2_ok, b2_w, b2_v, b2_tt, b2_ff, Bool.true_eq_false, Bool.false_eq_true, Option.some.injEq, Int.one_mul, Int.mul_one, not_true_eq_false, not_false_eq_true, ite_not, decide_eq_false_iff_not, decide_eq_true_eq, Int.reduceMul, Int.reduceMod, sv0 h, sv1 h, sv2 h, sv3 h, sv4 h, sv5 h, pm_z_rcv1 (sv0 h), cn0 hc, cn1 hc, cn2 hc, cn3 hc, cn4 hc, cn5 hc, cn6 hc, cn7 hc, cn8 hc, cn9 hc, cn10 hc, pm_z_rcv1 (cn0 hc), s2, cc.1, cc.2.1, cc.2.2.2.2.1]
    rw [if_pos (by omega)]
    refine ⟨by omega, ?_⟩
    by_cases q : cN N 2 c = 2
    · rw [if_pos (by omega)]
      have e : chL N p (c + 1) = chL N p c := by rw [chL, show lvB N p c = false by simp [lvB, thN, q]]; rfl
      rw [e] at ih
      exact ⟨by omega, ih _ _ ⟨_, rfl, rfl⟩⟩
    · rw [if_neg (by omega)]
      refine ⟨by omega, ?_⟩
      refine holds_sp (by omega) B31 ?_
      rw [bs_bit, decide_eq_true o16.1, Bool.true_and]
      set_option maxRecDepth 100000 in simp (maxSteps := 2000000) only [pm_x_run, pm_x_rt, pm_x_rf, pm_z_S, pm_z_D, pm_z_cut0, pm_z_cut1, pm_z_cli, pm_z_clr, pm_z_cln, pm_z_cll, pm_z_up, pm_x_aload1, pm_x_c, pm_x_c2, pm_x_cn0, pm_x_cn1, pm_x_getf, pm_x_gf, pm_x_goto, pm_x_gv, pm_x_ia, pm_x_iald, pm_x_icmp_eq, pm_x_icmp_ge, pm_x_if_eq, pm_x_iinc4, pm_x_iload2, pm_x_iload3, pm_x_iload4, pm_x_iload5, pm_x_invs, pm_x_istore3, pm_x_istore4, pm_x_istore5, pm_z_cat0, pm_z_cati, pm_z_catl, pm_z_catr, pm_z_iconst, pm_z_pop0, pm_z_pop1, pm_z_rcv0, zX2_cheapestLeaving_B, zX2_cheapestLeaving_F, zX2_cheapestLeaving_R, zX2_cheapestLeaving_X, zX2_cheapestLeaving_C51, pm_z_ireti (zX2_cheapestLeaving_R), fX2_59, fX2_62, fX2_65, fX2_68, fX2_92, dX2_cheapestLeaving_0, dX2_cheapestLeaving_1, dX2_cheapestLeaving_2, dX2_cheapestLeaving_3, dX2_cheapestLeaving_5, dX2_cheapestLeaving_7, dX2_cheapestLeaving_8, dX2_cheapestLeaving_11, dX2_cheapestLeaving_14, dX2_cheapestLeaving_15, dX2_cheapestLeaving_18, dX2_cheapestLeaving_20, dX2_cheapestLeaving_21, dX2_cheapestLeaving_22, dX2_cheapestLeaving_25, dX2_cheapestLeaving_26, dX2_cheapestLeaving_27, dX2_cheapestLeaving_30, dX2_cheapestLeaving_32, dX2_cheapestLeaving_33, dX2_cheapestLeaving_36, dX2_cheapestLeaving_37, dX2_cheapestLeaving_38, dX2_cheapestLeaving_41, dX2_cheapestLeaving_43, dX2_cheapestLeaving_44, dX2_cheapestLeaving_47, dX2_cheapestLeaving_50, dX2_cheapestLeaving_51, dX2_cheapestLeaving_54, dX2_cheapestLeaving_55, dX2_cheapestLeaving_57, dX2_cheapestLeaving_59, dX2_cheapestLeaving_62, dX2_cheapestLeaving_63, dX2_cheapestLeaving_64, dX2_cheapestLeaving_67, dX2_cheapestLeaving_68, dX2_cheapestLeaving_71, dX2_cheapestLeaving_73, dX2_cheapestLeaving_74, dX2_cheapestLeaving_75, dX2_cheapestLeaving_78, dX2_cheapestLeaving_79, dX2_cheapestLeaving_80, dX2_cheapestLeaving_83, dX2_cheapestLeaving_85, dX2_cheapestLeaving_86, dX2_cheapestLeaving_89, dX2_cheapestLeaving_92, dX2_cheapestLeaving_93, Bool.cond_true, Bool.cond_false, Bool.or_false, Bool.false_or, Bool.true_or, Bool.or_true, true_and, and_true, if_true, if_false, List.length_cons, List.length_nil, List.getElem?_cons_zero, List.getElem?_cons_succ, List.set_cons_zero, List.set_cons_succ, Option.toList_some, Option.toList_none, List.cons_append, List.nil_append, beq_self_eq_true, Option.isSome_some, Option.isSome_none, pm_tg_lit, ite_true, ite_false, Nat.reduceAdd, Nat.reduceBEq, Nat.reduceLT, Nat.reduceLeDiff, Nat.reduceEqDiff, Int.reduceAdd, Int.reduceSub, Int.reduceLE, Int.reduceLT, Int.reduceEq, Int.reduceToNat, Int.reduceNeg, Int.cast_ofNat_Int, Int.reduceNatCast, Int.reduceNatCast', Int.zero_add, Int.add_zero, Nat.zero_add, Nat.add_zero, and_self, decide_true, decide_false, true_or, or_true, or_false, false_or, eq_self, Int.toNat_natCast, b2_e0, b2_e1, b2_ok, b2_w, b2_v, b2_tt, b2_ff, Bool.true_eq_false, Bool.false_eq_true, Option.some.injEq, Int.one_mul, Int.mul_one, not_true_eq_false, not_false_eq_true, ite_not, decide_eq_false_iff_not, decide_eq_true_eq, Int.reduceMul, Int.reduceMod, sv0 h, sv1 h, sv2 h, sv3 h, sv4 h, sv5 h, pm_z_rcv1 (sv0 h), cn0 hc, cn1 hc, cn2 hc, cn3 hc, cn4 hc, cn5 hc, cn6 hc, cn7 hc, cn8 hc, cn9 hc, cn10 hc, pm_z_rcv1 (cn0 hc), s2, cc.1, cc.2.1, cc.2.2.2.2.1]
      refine ⟨by omega, ?_⟩
      refine holds_sp (by omega) B31 ?_
      rw [bs_bit, decide_eq_true o16.2, Bool.true_and]
      set_option maxRecDepth 100000 in simp (maxSteps := 2000000) only [pm_x_run, pm_x_rt, pm_x_rf, pm_z_S, pm_z_D, pm_z_cut0, pm_z_cut1, pm_z_cli, pm_z_clr, pm_z_cln, pm_z_cll, pm_z_up, pm_x_aload1, pm_x_c, pm_x_c2, pm_x_cn0, pm_x_cn1, pm_x_getf, pm_x_gf, pm_x_goto, pm_x_gv, pm_x_ia, pm_x_iald, pm_x_icmp_eq, pm_x_icmp_ge, pm_x_if_eq, pm_x_iinc4, pm_x_iload2, pm_x_iload3, pm_x_iload4, pm_x_iload5, pm_x_invs, pm_x_istore3, pm_x_istore4, pm_x_istore5, pm_z_cat0, pm_z_cati, pm_z_catl, pm_z_catr, pm_z_iconst, pm_z_pop0, pm_z_pop1, pm_z_rcv0, zX2_cheapestLeaving_B, zX2_cheapestLeaving_F, zX2_cheapestLeaving_R, zX2_cheapestLeaving_X, zX2_cheapestLeaving_C51, pm_z_ireti (zX2_cheapestLeaving_R), fX2_59, fX2_62, fX2_65, fX2_68, fX2_92, dX2_cheapestLeaving_0, dX2_cheapestLeaving_1, dX2_cheapestLeaving_2, dX2_cheapestLeaving_3, dX2_cheapestLeaving_5, dX2_cheapestLeaving_7, dX2_cheapestLeaving_8, dX2_cheapestLeaving_11, dX2_cheapestLeaving_14, dX2_cheapestLeaving_15, dX2_cheapestLeaving_18, dX2_cheapestLeaving_20, dX2_cheapestLeaving_21, dX2_cheapestLeaving_22, dX2_cheapestLeaving_25, dX2_cheapestLeaving_26, dX2_cheapestLeaving_27, dX2_cheapestLeaving_30, dX2_cheapestLeaving_32, dX2_cheapestLeaving_33, dX2_cheapestLeaving_36, dX2_cheapestLeaving_37, dX2_cheapestLeaving_38, dX2_cheapestLeaving_41, dX2_cheapestLeaving_43, dX2_cheapestLeaving_44, dX2_cheapestLeaving_47, dX2_cheapestLeaving_50, dX2_cheapestLeaving_51, dX2_cheapestLeaving_54, dX2_cheapestLeaving_55, dX2_cheapestLeaving_57, dX2_cheapestLeaving_59, dX2_cheapestLeaving_62, dX2_cheapestLeaving_63, dX2_cheapestLeaving_64, dX2_cheapestLeaving_67, dX2_cheapestLeaving_68, dX2_cheapestLeaving_71, dX2_cheapestLeaving_73, dX2_cheapestLeaving_74, dX2_cheapestLeaving_75, dX2_cheapestLeaving_78, dX2_cheapestLeaving_79, dX2_cheapestLeaving_80, dX2_cheapestLeaving_83, dX2_cheapestLeaving_85, dX2_cheapestLeaving_86, dX2_cheapestLeaving_89, dX2_cheapestLeaving_92, dX2_cheapestLeaving_93, Bool.cond_true, Bool.cond_false, Bool.or_false, Bool.false_or, Bool.true_or, Bool.or_true, true_and, and_true, if_true, if_false, List.length_cons, List.length_nil, List.getElem?_cons_zero, List.getElem?_cons_succ, List.set_cons_zero, List.set_cons_succ, Option.toList_some, Option.toList_none, List.cons_append, List.nil_append, beq_self_eq_true, Option.isSome_some, Option.isSome_none, pm_tg_lit, ite_true, ite_false, Nat.reduceAdd, Nat.reduceBEq, Nat.reduceLT, Nat.reduceLeDiff, Nat.reduceEqDiff, Int.reduceAdd, Int.reduceSub, Int.reduceLE, Int.reduceLT, Int.reduceEq, Int.reduceToNat, Int.reduceNeg, Int.cast_ofNat_Int, Int.reduceNatCast, Int.reduceNatCast', Int.zero_add, Int.add_zero, Nat.zero_add, Nat.add_zero, and_self, decide_true, decide_false, true_or, or_true, or_false, false_or, eq_self, Int.toNat_natCast, b2_e0, b2_e1, b2_ok, b2_w, b2_v, b2_tt, b2_ff, Bool.true_eq_false, Bool.false_eq_true, Option.some.injEq, Int.one_mul, Int.mul_one, not_true_eq_false, not_false_eq_true, ite_not, decide_eq_false_iff_not, decide_eq_true_eq, Int.reduceMul, Int.reduceMod, sv0 h, sv1 h, sv2 h, sv3 h, sv4 h, sv5 h, pm_z_rcv1 (sv0 h), cn0 hc, cn1 hc, cn2 hc, cn3 hc, cn4 hc, cn5 hc, cn6 hc, cn7 hc, cn8 hc, cn9 hc, cn10 hc, pm_z_rcv1 (cn0 hc), s2, cc.1, cc.2.1, cc.2.2.2.2.1, cc.2.2.1]
      have th : thN N c = true := by simp [thN, q]
      rw [chL] at ih
      unfold lvB at ih
      rw [th] at ih
      by_cases q1 : p (cN N 0 c) = p (cN N 1 c)
      · rw [q1] at ih ⊢
        rw [if_pos rfl]
        rw [show (p (cN N 1 c) != p (cN N 1 c)) = false by simp] at ih
        exact ⟨by omega, ih _ _ ⟨_, rfl, rfl⟩⟩
      · rw [show (p (cN N 0 c) != p (cN N 1 c)) = true by simp [q1]] at ih
        have q2 : ¬ b2 (p (cN N 0 c)) = b2 (p (cN N 1 c)) := by
          intro z
          revert z q1
          cases p (cN N 0 c) <;> cases p (cN N 1 c) <;> simp [b2]
        rw [if_neg q2]
        cases e : chL N p c with
        | none =>
          rw [e] at ih
          rw [if_pos (show optI none = -1 from rfl)]
          exact ⟨by omega, ih _ _ ⟨_, rfl, rfl⟩⟩
        | some d =>
          have dl := chL_lt e
          have cd := ckA hl (show d < ldN N by omega)
          have eo : optI (some d) = (d : Int) := rfl
          rw [e] at ih
          rw [eo, if_neg (by omega), Int.toNat_natCast, cd.2.2.1]
          refine ⟨by omega, by omega, ?_⟩
          by_cases q3 : cN N 5 c < cN N 5 d
          · rw [if_pos (by omega)]
            rw [show chB N c (some d) = true from decide_eq_true q3] at ih
            exact ⟨by omega, ih _ _ ⟨_, rfl, rfl⟩⟩
          · rw [if_neg (by omega)]
            rw [show chB N c (some d) = false from decide_eq_false q3] at ih
            exact ⟨by omega, ih _ _ ⟨_, rfl, rfl⟩⟩
  · obtain ⟨w5, rfl, rfl⟩ := hJ
    refine pm_go_on [5] 60 ?_
    set_option maxRecDepth 100000 in simp (maxSteps := 2000000) only [pm_x_run, pm_x_rt, pm_x_rf, pm_z_S, pm_z_D, pm_z_cut0, pm_z_cut1, pm_z_cli, pm_z_clr, pm_z_cln, pm_z_cll, pm_z_up, pm_x_aload1, pm_x_c, pm_x_c2, pm_x_cn0, pm_x_cn1, pm_x_getf, pm_x_gf, pm_x_goto, pm_x_gv, pm_x_ia, pm_x_iald, pm_x_icmp_eq, pm_x_icmp_ge, pm_x_if_eq, pm_x_iinc4, pm_x_iload2, pm_x_iload3, pm_x_iload4, pm_x_iload5, pm_x_invs, pm_x_istore3, pm_x_istore4, pm_x_istore5, pm_z_cat0, pm_z_cati, pm_z_catl, pm_z_catr, pm_z_iconst, pm_z_pop0, pm_z_pop1, pm_z_rcv0, zX2_cheapestLeaving_B, zX2_cheapestLeaving_F, zX2_cheapestLeaving_R, zX2_cheapestLeaving_X, zX2_cheapestLeaving_C51, pm_z_ireti (zX2_cheapestLeaving_R), fX2_59, fX2_62, fX2_65, fX2_68, fX2_92, dX2_cheapestLeaving_0, dX2_cheapestLeaving_1, dX2_cheapestLeaving_2, dX2_cheapestLeaving_3, dX2_cheapestLeaving_5, dX2_cheapestLeaving_7, dX2_cheapestLeaving_8, dX2_cheapestLeaving_11, dX2_cheapestLeaving_14, dX2_cheapestLeaving_15, dX2_cheapestLeaving_18, dX2_cheapestLeaving_20, dX2_cheapestLeaving_21, dX2_cheapestLeaving_22, dX2_cheapestLeaving_25, dX2_cheapestLeaving_26, dX2_cheapestLeaving_27, dX2_cheapestLeaving_30, dX2_cheapestLeaving_32, dX2_cheapestLeaving_33, dX2_cheapestLeaving_36, dX2_cheapestLeaving_37, dX2_cheapestLeaving_38, dX2_cheapestLeaving_41, dX2_cheapestLeaving_43, dX2_cheapestLeaving_44, dX2_cheapestLeaving_47, dX2_cheapestLeaving_50, dX2_cheapestLeaving_51, dX2_cheapestLeaving_54, dX2_cheapestLeaving_55, dX2_cheapestLeaving_57, dX2_cheapestLeaving_59, dX2_cheapestLeaving_62, dX2_cheapestLeaving_63, dX2_cheapestLeaving_64, dX2_cheapestLeaving_67, dX2_cheapestLeaving_68, dX2_cheapestLeaving_71, dX2_cheapestLeaving_73, dX2_cheapestLeaving_74, dX2_cheapestLeaving_75, dX2_cheapestLeaving_78, dX2_cheapestLeaving_79, dX2_cheapestLeaving_80, dX2_cheapestLeaving_83, dX2_cheapestLeaving_85, dX2_cheapestLeaving_86, dX2_cheapestLeaving_89, dX2_cheapestLeaving_92, dX2_cheapestLeaving_93, Bool.cond_true, Bool.cond_false, Bool.or_false, Bool.false_or, Bool.true_or, Bool.or_true, true_and, and_true, if_true, if_false, List.length_cons, List.length_nil, List.getElem?_cons_zero, List.getElem?_cons_succ, List.set_cons_zero, List.set_cons_succ, Option.toList_some, Option.toList_none, List.cons_append, List.nil_append, beq_self_eq_true, Option.isSome_some, Option.isSome_none, pm_tg_lit, ite_true, ite_false, Nat.reduceAdd, Nat.reduceBEq, Nat.reduceLT, Nat.reduceLeDiff, Nat.reduceEqDiff, Int.reduceAdd, Int.reduceSub, Int.reduceLE, Int.reduceLT, Int.reduceEq, Int.reduceToNat, Int.reduceNeg, Int.cast_ofNat_Int, Int.reduceNatCast, Int.reduceNatCast', Int.zero_add, Int.add_zero, Nat.zero_add, Nat.add_zero, and_self, decide_true, decide_false, true_or, or_true, or_false, false_or, eq_self, Int.toNat_natCast, b2_e0, b2_e1, b2_ok, b2_w, b2_v, b2_tt, b2_ff, Bool.true_eq_false, Bool.false_eq_true, Option.some.injEq, Int.one_mul, Int.mul_one, not_true_eq_false, not_false_eq_true, ite_not, decide_eq_false_iff_not, decide_eq_true_eq, Int.reduceMul, Int.reduceMod, sv0 h, sv1 h, sv2 h, sv3 h, sv4 h, sv5 h, pm_z_rcv1 (sv0 h), cn0 hc, cn1 hc, cn2 hc, cn3 hc, cn4 hc, cn5 hc, cn6 hc, cn7 hc, cn8 hc, cn9 hc, cn10 hc, pm_z_rcv1 (cn0 hc), s2]
    rw [if_neg (by omega)]
    exact hk
/-- the least node not seen -/
theorem pb_gap {p : Nat → Bool} {l : Nat} (hl : l < 16) (h1 : ∀ i, i < l → p i = true) (h2 : p l = false) : pm_and (-1 - ((bs p 16 : Nat) : Int)) (-(-1 - ((bs p 16 : Nat) : Int))) = ((bs (it1 l) 16 : Nat) : Int) := by
  have hp : bs p 16 < 65536 := bs_lt p 16
  have hr : bs (it1 l) 16 < 65536 := bs_lt _ 16
  have b1 : ∀ i, i < 16 → (bs p 16).testBit i = p i := fun i hi => by rw [bs_bit, decide_eq_true hi, Bool.true_and]
  have e := pb_ofNeg (x := bs p 16) 1 (by omega)
  rw [show (-((1 : Nat) : Int) - ((bs p 16 : Nat) : Int)) = -1 - ((bs p 16 : Nat) : Int) from rfl] at e
  have tb : ∀ i, i < 32 → (2 ^ 32 - (bs p 16 + 1)).testBit i = !(bs p 16).testBit i := fun i hi => by
    rw [Nat.testBit_two_pow_sub_succ (by omega), decide_eq_true hi, Bool.true_and]
  have lw := lowx_and (x := 2 ^ 32 - (bs p 16 + 1)) (n := l) (by omega) (fun i hi => by rw [tb i (by omega), b1 i (by omega), h1 i hi]; rfl) (by rw [tb l (by omega), b1 l hl, h2]; rfl)
  rw [show 2 ^ 32 - (2 ^ 32 - (bs p 16 + 1)) = bs p 16 + 1 by omega] at lw
  unfold pm_and
  rw [e, show -(-1 - ((bs p 16 : Nat) : Int)) = ((bs p 16 + 1 : Nat) : Int) by omega, pb_ofN, pb_and', lw, bs_one hl]
  exact nI_toInt (by
    have : bs (fun i => decide (i = l)) 16 < 65536 := bs_lt _ 16
    omega)
theorem gap_ex {p : Nat → Bool} (h : cnt p 16 < 16) : ∃ l, l < 16 ∧ (∀ i, i < l → p i = true) ∧ p l = false := by
  rcases fsI_sp (fun i => !p i) 16 with ⟨_, e2⟩ | ⟨l, _, e2, e3, e4⟩
  · exfalso
    have : cnt p 16 = cnt (fun _ => true) 16 := cnt_congr fun i hi => by simpa using e2 i hi
    have e : cnt (fun _ => true) 16 = 16 := by decide
    omega
  · exact ⟨l, e2, fun i hi => by simpa using e4 i hi, by simpa using e3⟩
def gpN (p : Nat → Bool) : Nat := (fsI (fun i => !p i) 16).toNat
theorem gpN_sp {p : Nat → Bool} (h : cnt p 16 < 16) : gpN p < 16 ∧ (∀ i, i < gpN p → p i = true) ∧ p (gpN p) = false := by
  rcases fsI_sp (fun i => !p i) 16 with ⟨_, e2⟩ | ⟨l, e1, e2, e3, e4⟩
  · exfalso
    have : cnt p 16 = cnt (fun _ => true) 16 := cnt_congr fun i hi => by simpa using e2 i hi
    have e : cnt (fun _ => true) 16 = 16 := by decide
    omega
  · unfold gpN
    rw [e1, Int.toNat_natCast]
    exact ⟨e2, fun i hi => by simpa using e4 i hi, by simpa using e3⟩
/-- the set that grows, and what its cables cost -/
def prS (N : nt) (q : (Nat → Bool) × Nat) : Option Nat → (Nat → Bool) × Nat
  | none => (fun m => q.1 m || it1 (gpN q.1) m, q.2)
  | some c => (fun m => q.1 m || (decide (m = cN N 0 c) || decide (m = cN N 1 c)), q.2 + cN N 5 c)
def prN (N : nt) : Nat → (Nat → Bool) × Nat
  | 0 => (it1 0, 0)
  | r + 1 => prS N (prN N r) (chL N (prN N r).1 (ldN N))
theorem cnt_it1 : ∀ l, l < 16 → cnt (it1 l) 16 = 1 := by decide
theorem cnt_ins {p : Nat → Bool} {l : Nat} (hl : l < 16) (h : p l = false) : cnt (fun m => p m || it1 l m) 16 = cnt p 16 + 1 := by
  rw [cnt_or, cnt_it1 l hl]
  intro i ⟨z1, z2⟩
  have : i = l := by simpa [it1] using z2
  rw [this, h] at z1
  cases z1
theorem lv_one {p : Nat → Bool} {c : Nat} (h : lvB N p c = true) : ∃ l, (l = cN N 0 c ∨ l = cN N 1 c) ∧ p l = false ∧ (fun m => p m || (decide (m = cN N 0 c) || decide (m = cN N 1 c))) = fun m => p m || it1 l m := by
  have h2 : p (cN N 0 c) ≠ p (cN N 1 c) := by
    unfold lvB at h
    simp at h
    exact h.2
  cases q0 : p (cN N 0 c)
  · have q1 : p (cN N 1 c) = true := by
      cases z : p (cN N 1 c)
      · rw [q0, z] at h2; exact absurd rfl h2
      · rfl
    refine ⟨_, Or.inl rfl, q0, ?_⟩
    funext m
    unfold it1
    by_cases e : m = cN N 1 c
    · rw [e, q1]; simp
    · simp [e]
  · have q1 : p (cN N 1 c) = false := by
      cases z : p (cN N 1 c)
      · rfl
      · rw [q0, z] at h2; exact absurd rfl h2
    refine ⟨_, Or.inr rfl, q1, ?_⟩
    funext m
    unfold it1
    by_cases e : m = cN N 0 c
    · rw [e, q0]; simp
    · simp [e]
theorem prN_cnt (o : okB N) : ∀ r, r < 16 → cnt (prN N r).1 16 = r + 1 ∧ (prN N r).2 ≤ 99 * r
  | 0, _ => ⟨cnt_it1 0 (by omega), Nat.le_refl _⟩
  | r + 1, hr => by
    obtain ⟨i1, i2⟩ := prN_cnt o r (by omega)
    rw [prN]
    cases e : chL N (prN N r).1 (ldN N) with
    | none =>
      have g := gpN_sp (p := (prN N r).1) (by omega)
      refine ⟨?_, by show (prN N r).2 ≤ _; omega⟩
      show cnt (fun m => (prN N r).1 m || it1 (gpN (prN N r).1) m) 16 = _
      rw [cnt_ins g.1 g.2.2, i1]
    | some c =>
      have cl := chL_lt e
      obtain ⟨l, l1, l2, l3⟩ := lv_one cl.2
      have oc := o.2.1 c cl.1
      have o16 := ok16 o cl.1
      refine ⟨?_, by show (prN N r).2 + cN N 5 c ≤ _; omega⟩
      show cnt (fun m => (prN N r).1 m || (decide (m = cN N 0 c) || decide (m = cN N 1 c))) 16 = _
      rw [l3, cnt_ins (by omega) l2, i1]
set_option maxRecDepth 20000 in
theorem cheapestOf_c (h : sv_at f s L) (hc : cn_at f a A R U S) (hl : ckl N A S) (o : okB N) (hk : k (some (.inl ((prN N (nN N - 1)).2 : Int))) f) : pm_ex T_X2_cheapestOf [.inr (.inl (some s)), .inr (.inl (some a))] f k := by
  have b0 := okn o
  have b1 := okl o
  have s0 : S 0 = (nN N : Int) := hl.1.1
  have one : (1 : Int) = ((bs (it1 0) 16 : Nat) : Int) := by decide
  refine in_X2_cheapestOf ?_
  refine pm_go_on [7] 60 ?_
  set_option maxRecDepth 100000 in simp (maxSteps := 2000000) only [pm_x_run, pm_x_rt, pm_x_rf, pm_z_S, pm_z_D, pm_z_cut0, pm_z_cut1, pm_z_cli, pm_z_clr, pm_z_cln, pm_z_cll, pm_z_up, pm_x_aload0, pm_x_aload1, pm_x_c, pm_x_c2, pm_x_cn0, pm_x_cn1, pm_x_getf, pm_x_gf, pm_x_goto, pm_x_gv, pm_x_ia, pm_x_iald, pm_x_icmp_ge, pm_x_icmp_ne, pm_x_iinc4, pm_x_iload2, pm_x_iload3, pm_x_iload4, pm_x_iload5, pm_x_invv, pm_x_istore2, pm_x_istore3, pm_x_istore4, pm_x_istore5, pm_x_v0, pm_x_v1, pm_x_x2, pm_z_cat0, pm_z_cati, pm_z_catl, pm_z_catr, pm_z_iadd, pm_z_iand, pm_z_iconst, pm_z_ineg, pm_z_ior, pm_z_ishl, pm_z_ixor, pm_z_pop0, pm_z_pop1, zX2_cheapestOf_B, zX2_cheapestOf_F, zX2_cheapestOf_R, zX2_cheapestOf_X, zX2_cheapestOf_C99, pm_z_ireti (zX2_cheapestOf_R), fX2_35, fX2_65, fX2_68, fX2_92, dX2_cheapestOf_0, dX2_cheapestOf_1, dX2_cheapestOf_2, dX2_cheapestOf_3, dX2_cheapestOf_4, dX2_cheapestOf_5, dX2_cheapestOf_7, dX2_cheapestOf_9, dX2_cheapestOf_10, dX2_cheapestOf_13, dX2_cheapestOf_16, dX2_cheapestOf_17, dX2_cheapestOf_18, dX2_cheapestOf_19, dX2_cheapestOf_22, dX2_cheapestOf_24, dX2_cheapestOf_26, dX2_cheapestOf_27, dX2_cheapestOf_30, dX2_cheapestOf_31, dX2_cheapestOf_32, dX2_cheapestOf_33, dX2_cheapestOf_34, dX2_cheapestOf_35, dX2_cheapestOf_36, dX2_cheapestOf_37, dX2_cheapestOf_38, dX2_cheapestOf_39, dX2_cheapestOf_40, dX2_cheapestOf_41, dX2_cheapestOf_44, dX2_cheapestOf_45, dX2_cheapestOf_46, dX2_cheapestOf_47, dX2_cheapestOf_50, dX2_cheapestOf_52, dX2_cheapestOf_53, dX2_cheapestOf_54, dX2_cheapestOf_55, dX2_cheapestOf_56, dX2_cheapestOf_59, dX2_cheapestOf_61, dX2_cheapestOf_62, dX2_cheapestOf_63, dX2_cheapestOf_64, dX2_cheapestOf_65, dX2_cheapestOf_66, dX2_cheapestOf_67, dX2_cheapestOf_68, dX2_cheapestOf_71, dX2_cheapestOf_73, dX2_cheapestOf_74, dX2_cheapestOf_75, dX2_cheapestOf_76, dX2_cheapestOf_79, dX2_cheapestOf_82, dX2_cheapestOf_83, Bool.cond_true, Bool.cond_false, Bool.or_false, Bool.false_or, Bool.true_or, Bool.or_true, true_and, and_true, if_true, if_false, List.length_cons, List.length_nil, List.getElem?_cons_zero, List.getElem?_cons_succ, List.set_cons_zero, List.set_cons_succ, Option.toList_some, Option.toList_none, List.cons_append, List.nil_append, beq_self_eq_true, Option.isSome_some, Option.isSome_none, pm_tg_lit, ite_true, ite_false, Nat.reduceAdd, Nat.reduceBEq, Nat.reduceLT, Nat.reduceLeDiff, Nat.reduceEqDiff, Int.reduceAdd, Int.reduceSub, Int.reduceLE, Int.reduceLT, Int.reduceEq, Int.reduceToNat, Int.reduceNeg, Int.cast_ofNat_Int, Int.reduceNatCast, Int.reduceNatCast', Int.zero_add, Int.add_zero, Nat.zero_add, Nat.add_zero, and_self, decide_true, decide_false, true_or, or_true, or_false, false_or, eq_self, Int.toNat_natCast, b2_e0, b2_e1, b2_ok, b2_w, b2_v, b2_tt, b2_ff, Bool.true_eq_false, Bool.false_eq_true, Option.some.injEq, Int.one_mul, Int.mul_one, not_true_eq_false, not_false_eq_true, ite_not, decide_eq_false_iff_not, decide_eq_true_eq, Int.reduceMul, Int.reduceMod, sv0 h, sv1 h, sv2 h, sv3 h, sv4 h, sv5 h, pm_z_rcv1 (sv0 h)]
  have start : pm_W eX2_cheapestOf k (fun _ _ => False) 7 [some (.inr (.inl (some (s)))), some (.inr (.inl (some (a)))), some (.inl (((bs (prN N (1 - 1)).1 16 : Nat) : Int))), some (.inl (((prN N (1 - 1)).2 : Int))), some (.inl (((1 : Nat) : Int))), none] [] f := by
    refine pm_for (nN N) (fun r lv F => ∃ w5 : Option pm_V, F = f ∧ 1 ≤ r ∧ lv = [some (.inr (.inl (some (s)))), some (.inr (.inl (some (a)))), some (.inl (((bs (prN N (r - 1)).1 16 : Nat) : Int))), some (.inl (((prN N (r - 1)).2 : Int))), some (.inl ((r : Int))), w5]) (fun r lv F hr hJ ih => ?_) (fun lv F hJ => ?_) 1 _ _ (by omega) ⟨none, rfl, by omega, rfl⟩
    · obtain ⟨w5, rfl, r1, rfl⟩ := hJ
      have pc := prN_cnt o (r - 1) (by omega)
      have e : prN N (r + 1 - 1) = prS N (prN N (r - 1)) (chL N (prN N (r - 1)).1 (ldN N)) := by
        rw [show r + 1 - 1 = r - 1 + 1 by omega]
        rfl
      rw [e] at ih
      generalize prN N (r - 1) = q at *
      have B31 := bs_31 q.1 (n := 16) (by omega)
      have B16 : bs q.1 16 < 65536 := bs_lt q.1 16
      refine pm_go_on [7] 60 ?_
      set_option maxRecDepth 100000 in simp (maxSteps := 2000000) only [pm_x_run, pm_x_rt, pm_x_rf, pm_z_S, pm_z_D, pm_z_cut0, pm_z_cut1, pm_z_cli, pm_z_clr, pm_z_cln, pm_z_cll, pm_z_up, pm_x_aload0, pm_x_aload1, pm_x_c, pm_x_c2, pm_x_cn0, pm_x_cn1, pm_x_getf, pm_x_gf, pm_x_goto, pm_x_gv, pm_x_ia, pm_x_iald, pm_x_icmp_ge, pm_x_icmp_ne, pm_x_iinc4, pm_x_iload2, pm_x_iload3, pm_x_iload4, pm_x_iload5, pm_x_invv, pm_x_istore2, pm_x_istore3, pm_x_istore4, pm_x_istore5, pm_x_v0, pm_x_v1, pm_x_x2, pm_z_cat0, pm_z_cati, pm_z_catl, pm_z_catr, pm_z_iadd, pm_z_iand, pm_z_iconst, pm_z_ineg, pm_z_ior, pm_z_ishl, pm_z_ixor, pm_z_pop0, pm_z_pop1, zX2_cheapestOf_B, zX2_cheapestOf_F, zX2_cheapestOf_R, zX2_cheapestOf_X, zX2_cheapestOf_C99, pm_z_ireti (zX2_cheapestOf_R), fX2_35, fX2_65, fX2_68, fX2_92, dX2_cheapestOf_0, dX2_cheapestOf_1, dX2_cheapestOf_2, dX2_cheapestOf_3, dX2_cheapestOf_4, dX2_cheapestOf_5, dX2_cheapestOf_7, dX2_cheapestOf_9, dX2_cheapestOf_10, dX2_cheapestOf_13, dX2_cheapestOf_16, dX2_cheapestOf_17, dX2_cheapestOf_18, dX2_cheapestOf_19, dX2_cheapestOf_22, dX2_cheapestOf_24, dX2_cheapestOf_26, dX2_cheapestOf_27, dX2_cheapestOf_30, dX2_cheapestOf_31, dX2_cheapestOf_32, dX2_cheapestOf_33, dX2_cheapestOf_34, dX2_cheapestOf_35, dX2_cheapestOf_36, dX2_cheapestOf_37, dX2_cheapestOf_38, dX2_cheapestOf_39, dX2_cheapestOf_40, dX2_cheapestOf_41, dX2_cheapestOf_44, dX2_cheapestOf_45, dX2_cheapestOf_46, dX2_cheapestOf_47, dX2_cheapestOf_50, dX2_cheapestOf_52, dX2_cheapestOf_53, dX2_cheapestOf_54, dX2_cheapestOf_55, dX2_cheapestOf_56, dX2_cheapestOf_59, dX2_cheapestOf_61, dX2_cheapestOf_62, dX2_cheapestOf_63, dX2_cheapestOf_64, dX2_cheapestOf_65, dX2_cheapestOf_66, dX2_cheapestOf_67, dX2_cheapestOf_68, dX2_cheapestOf_71, dX2_cheapestOf_73, dX2_cheapestOf_74, dX2_cheapestOf_75, dX2_cheapestOf_76, dX2_cheapestOf_79, dX2_cheapestOf_82, dX2_cheapestOf_83, Bool.cond_true, Bool.cond_false, Bool.or_false, Bool.false_or, Bool.true_or, Bool.or_true, true_and, and_true, if_true, if_false, List.length_cons, List.length_nil, List.getElem?_cons_zero, List.getElem?_cons_succ, List.set_cons_zero, List.set_cons_succ, Option.toList_some, Option.toList_none, List.cons_append, List.nil_append, beq_self_eq_true, Option.isSome_some, Option.isSome_none, pm_tg_lit, ite_true, ite_false, Nat.reduceAdd, Nat.reduceBEq, Nat.reduceLT, Nat.reduceLeDiff, Nat.reduceEqDiff, Int.reduceAdd, Int.reduceSub, Int.reduceLE, Int.reduceLT, Int.reduceEq, Int.reduceToNat, Int.reduceNeg, Int.cast_ofNat_Int, Int.reduceNatCast, Int.reduceNatCast', Int.zero_add, Int.add_zero, Nat.zero_add, Nat.add_zero, and_self, decide_true, decide_false, true_or, or_true, or_false, false_or, eq_self, Int.toNat_natCast, b2_e0, b2_e1, b2_ok, b2_w, b2_v, b2_tt, b2_ff, Bool.true_eq_false, Bool.false_eq_true, Option.some.injEq, Int.one_mul, Int.mul_one, not_true_eq_false, not_false_eq_true, ite_not, decide_eq_false_iff_not, decide_eq_true_eq, Int.reduceMul, Int.reduceMod, sv0 h, sv1 h, sv2 h, sv3 h, sv4 h, sv5 h, pm_z_rcv1 (sv0 h), cn0 hc, cn1 hc, cn2 hc, cn3 hc, cn4 hc, cn5 hc, cn6 hc, cn7 hc, cn8 hc, cn9 hc, cn10 hc, pm_z_rcv1 (cn0 hc), s0]
      rw [if_pos (by omega)]
      refine leaving_c h hc hl o ?_
      cases ec : chL N q.1 (ldN N) with
      | none =>
        rw [ec] at ih
        have g := gpN_sp (p := q.1) (by omega)
        have en : optI none = -1 := rfl
        set_option maxRecDepth 100000 in simp (maxSteps := 2000000) only [pm_x_run, pm_x_rt, pm_x_rf, pm_z_S, pm_z_D, pm_z_cut0, pm_z_cut1, pm_z_cli, pm_z_clr, pm_z_cln, pm_z_cll, pm_z_up, pm_x_aload0, pm_x_aload1, pm_x_c, pm_x_c2, pm_x_cn0, pm_x_cn1, pm_x_getf, pm_x_gf, pm_x_goto, pm_x_gv, pm_x_ia, pm_x_iald, pm_x_icmp_ge, pm_x_icmp_ne, pm_x_iinc4, pm_x_iload2, pm_x_iload3, pm_x_iload4, pm_x_iload5, pm_x_invv, pm_x_istore2, pm_x_istore3, pm_x_istore4, pm_x_istore5, pm_x_v0, pm_x_v1, pm_x_x2, pm_z_cat0, pm_z_cati, pm_z_catl, pm_z_catr, pm_z_iadd, pm_z_iand, pm_z_iconst, pm_z_ineg, pm_z_ior, pm_z_ishl, pm_z_ixor, pm_z_pop0, pm_z_pop1, zX2_cheapestOf_B, zX2_cheapestOf_F, zX2_cheapestOf_R, zX2_cheapestOf_X, zX2_cheapestOf_C99, pm_z_ireti (zX2_cheapestOf_R), fX2_35, fX2_65, fX2_68, fX2_92, dX2_cheapestOf_0, dX2_cheapestOf_1, dX2_cheapestOf_2, dX2_cheapestOf_3, dX2_cheapestOf_4, dX2_cheapestOf_5, dX2_cheapestOf_7, dX2_cheapestOf_9, dX2_cheapestOf_10, dX2_cheapestOf_13, dX2_cheapestOf_16, dX2_cheapestOf_17, dX2_cheapestOf_18, dX2_cheapestOf_19, dX2_cheapestOf_22, dX2_cheapestOf_24, dX2_cheapestOf_26, dX2_cheapestOf_27, dX2_cheapestOf_30, dX2_cheapestOf_31, dX2_cheapestOf_32, dX2_cheapestOf_33, dX2_cheapestOf_34, dX2_cheapestOf_35, dX2_cheapestOf_36, dX2_cheapestOf_37, dX2_cheapestOf_38, dX2_cheapestOf_39, dX2_cheapestOf_40, dX2_cheapestOf_41, dX2_cheapestOf_44, dX2_cheapestOf_45, dX2_cheapestOf_46, dX2_cheapestOf_47, dX2_cheapestOf_50, dX2_cheapestOf_52, dX2_cheapestOf_53, dX2_cheapestOf_54, dX2_cheapestOf_55, dX2_cheapestOf_56, dX2_cheapestOf_59, dX2_cheapestOf_61, dX2_cheapestOf_62, dX2_cheapestOf_63, dX2_cheapestOf_64, dX2_cheapestOf_65, dX2_cheapestOf_66, dX2_cheapestOf_67, dX2_cheapestOf_68, dX2_cheapestOf_71, dX2_cheapestOf_73, dX2_cheapestOf_74, dX2_cheapestOf_75, dX2_cheapestOf_76, dX2_cheapestOf_79, dX2_cheapestOf_82, dX2_cheapestOf_83, Bool.cond_true, Bool.cond_false, Bool.or_false, Bool.false_or, Bool.true_or, Bool.or_true, true_and, and_true, if_true, if_false, List.length_cons, List.length_nil, List.getElem?_cons_zero, List.getElem?_cons_succ, List.set_cons_zero, List.set_cons_succ, Option.toList_some, Option.toList_none, List.cons_append, List.nil_append, beq_self_eq_true, Option.isSome_some, Option.isSome_none, pm_tg_lit, ite_true, ite_false, Nat.reduceAdd, Nat.reduceBEq, Nat.reduceLT, Nat.reduceLeDiff, Nat.reduceEqDiff, Int.reduceAdd, Int.reduceSub, Int.reduceLE, Int.reduceLT, Int.reduceEq, Int.reduceToNat, Int.reduceNeg, Int.cast_ofNat_Int, Int.reduceNatCast, Int.reduceNatCast', Int.zero_add, Int.add_zero, Nat.zero_add, Nat.add_zero, and_self, decide_true, decide_false, true_or, or_true, or_false, false_or, eq_self, Int.toNat_natCast, b2_e0, b2_e1, b2_ok, b2_w, b2_v, b2_tt, b2_ff, Bool.true_eq_false, Bool.false_eq_true, Option.some.injEq, Int.one_mul, Int.mul_one, not_true_eq_false, not_false_eq_true, ite_not, decide_eq_false_iff_not, decide_eq_true_eq, Int.reduceMul, Int.reduceMod, sv0 h, sv1 h, sv2 h, sv3 h, sv4 h, sv5 h, pm_z_rcv1 (sv0 h), cn0 hc, cn1 hc, cn2 hc, cn3 hc, cn4 hc, cn5 hc, cn6 hc, cn7 hc, cn8 hc, cn9 hc, cn10 hc, pm_z_rcv1 (cn0 hc), s0, en]
        rw [pb_not B31, pb_gap g.1 g.2.1 g.2.2, pb_orb]
        exact ⟨by omega, by omega, ih _ _ ⟨_, rfl, by omega, rfl⟩⟩
      | some c =>
        rw [ec] at ih
        have cl := chL_lt ec
        have cc := ckA hl cl.1
        have oc := o.2.1 c cl.1
        have o16 := ok16 o cl.1
        have es : optI (some c) = (c : Int) := rfl
        have ne : ¬ ((c : Int) = -1) := by omega
        set_option maxRecDepth 100000 in simp (maxSteps := 2000000) only [pm_x_run, pm_x_rt, pm_x_rf, pm_z_S, pm_z_D, pm_z_cut0, pm_z_cut1, pm_z_cli, pm_z_clr, pm_z_cln, pm_z_cll, pm_z_up, pm_x_aload0, pm_x_aload1, pm_x_c, pm_x_c2, pm_x_cn0, pm_x_cn1, pm_x_getf, pm_x_gf, pm_x_goto, pm_x_gv, pm_x_ia, pm_x_iald, pm_x_icmp_ge, pm_x_icmp_ne, pm_x_iinc4, pm_x_iload2, pm_x_iload3, pm_x_iload4, pm_x_iload5, pm_x_invv, pm_x_istore2, pm_x_istore3, pm_x_istore4, pm_x_istore5, pm_x_v0, pm_x_v1, pm_x_x2, pm_z_cat0, pm_z_cati, pm_z_catl, pm_z_catr, pm_z_iadd, pm_z_iand, pm_z_iconst, pm_z_ineg, pm_z_ior, pm_z_ishl, pm_z_ixor, pm_z_pop0, pm_z_pop1, zX2_cheapestOf_B, zX2_cheapestOf_F, zX2_cheapestOf_R, zX2_cheapestOf_X, zX2_cheapestOf_C99, pm_z_ireti (zX2_cheapestOf_R), fX2_35, fX2_65, fX2_68, fX2_92, dX2_cheapestOf_0, dX2_cheapestOf_1, dX2_cheapestOf_2, dX2_cheapestOf_3, dX2_cheapestOf_4, dX2_cheapestOf_5, dX2_cheapestOf_7, dX2_cheapestOf_9, dX2_cheapestOf_10, dX2_cheapestOf_13, dX2_cheapestOf_16, dX2_cheapestOf_17, dX2_cheapestOf_18, dX2_cheapestOf_19, dX2_cheapestOf_22, dX2_cheapestOf_24, dX2_cheapestOf_26, dX2_cheapestOf_27, dX2_cheapestOf_30, dX2_cheapestOf_31, dX2_cheapestOf_32, dX2_cheapestOf_33, dX2_cheapestOf_34, dX2_cheapestOf_35, dX2_cheapestOf_36, dX2_cheapestOf_37, dX2_cheapestOf_38, dX2_cheapestOf_39, dX2_cheapestOf_40, dX2_cheapestOf_41, dX2_cheapestOf_44, dX2_cheapestOf_45, dX2_cheapestOf_46, dX2_cheapestOf_47, dX2_cheapestOf_50, dX2_cheapestOf_52, dX2_cheapestOf_53, dX2_cheapestOf_54, dX2_cheapestOf_55, dX2_cheapestOf_56, dX2_cheapestOf_59, dX2_cheapestOf_61, dX2_cheapestOf_62, dX2_cheapestOf_63, dX2_cheapestOf_64, dX2_cheapestOf_65, dX2_cheapestOf_66, dX2_cheapestOf_67, dX2_cheapestOf_68, dX2_cheapestOf_71, dX2_cheapestOf_73, dX2_cheapestOf_74, dX2_cheapestOf_75, dX2_cheapestOf_76, dX2_cheapestOf_79, dX2_cheapestOf_82, dX2_cheapestOf_83, Bool.cond_true, Bool.cond_false, Bool.or_false, Bool.false_or, Bool.true_or, Bool.or_true, true_and, and_true, if_true, if_false, List.length_cons, List.length_nil, List.getElem?_cons_zero, List.getElem?_cons_succ, List.set_cons_zero, List.set_cons_succ, Option.toList_some, Option.toList_none, List.cons_append, List.nil_append, beq_self_eq_true, Option.isSome_some, Option.isSome_none, pm_tg_lit, ite_true, ite_false, Nat.reduceAdd, Nat.reduceBEq, Nat.reduceLT, Nat.reduceLeDiff, Nat.reduceEqDiff, Int.reduceAdd, Int.reduceSub, Int.reduceLE, Int.reduceLT, Int.reduceEq, Int.reduceToNat, Int.reduceNeg, Int.cast_ofNat_Int, Int.reduceNatCast, Int.reduceNatCast', Int.zero_add, Int.add_zero, Nat.zero_add, Nat.add_zero, and_self, decide_true, decide_false, true_or, or_true, or_false, false_or, eq_self, Int.toNat_natCast, b2_e0, b2_e1, b2_ok, b2_w, b2_v, b2_tt, b2_ff, Bool.true_eq_false, Bool.false_eq_true, Option.some.injEq, Int.one_mul, Int.mul_one, not_true_eq_false, not_false_eq_true, ite_not, decide_eq_false_iff_not, decide_eq_true_eq, Int.reduceMul, Int.reduceMod, sv0 h, sv1 h, sv2 h, sv3 h, sv4 h, sv5 h, pm_z_rcv1 (sv0 h), cn0 hc, cn1 hc, cn2 hc, cn3 hc, cn4 hc, cn5 hc, cn6 hc, cn7 hc, cn8 hc, cn9 hc, cn10 hc, pm_z_rcv1 (cn0 hc), s0, es, ne, cc.1, cc.2.1, cc.2.2.1]
        rw [pb_ins2 q.1 o16.1 o16.2]
        exact ⟨by omega, by omega, by omega, by omega, by omega, ih _ _ ⟨_, rfl, by omega, rfl⟩⟩
    · obtain ⟨w5, rfl, r1, rfl⟩ := hJ
      refine pm_go_on [7] 60 ?_
      set_option maxRecDepth 100000 in simp (maxSteps := 2000000) only [pm_x_run, pm_x_rt, pm_x_rf, pm_z_S, pm_z_D, pm_z_cut0, pm_z_cut1, pm_z_cli, pm_z_clr, pm_z_cln, pm_z_cll, pm_z_up, pm_x_aload0, pm_x_aload1, pm_x_c, pm_x_c2, pm_x_cn0, pm_x_cn1, pm_x_getf, pm_x_gf, pm_x_goto, pm_x_gv, pm_x_ia, pm_x_iald, pm_x_icmp_ge, pm_x_icmp_ne, pm_x_iinc4, pm_x_iload2, pm_x_iload3, pm_x_iload4, pm_x_iload5, pm_x_invv, pm_x_istore2, pm_x_istore3, pm_x_istore4, pm_x_istore5, pm_x_v0, pm_x_v1, pm_x_x2, pm_z_cat0, pm_z_cati, pm_z_catl, pm_z_catr, pm_z_iadd, pm_z_iand, pm_z_iconst, pm_z_ineg, pm_z_ior, pm_z_ishl, pm_z_ixor, pm_z_pop0, pm_z_pop1, zX2_cheapestOf_B, zX2_cheapestOf_F, zX2_cheapestOf_R, zX2_cheapestOf_X, zX2_cheapestOf_C99, pm_z_ireti (zX2_cheapestOf_R), fX2_35, fX2_65, fX2_68, fX2_92, dX2_cheapestOf_0, dX2_cheapestOf_1, dX2_cheapestOf_2, dX2_cheapestOf_3, dX2_cheapestOf_4, dX2_cheapestOf_5, dX2_cheapestOf_7, dX2_cheapestOf_9, dX2_cheapestOf_10, dX2_cheapestOf_13, dX2_cheapestOf_16, dX2_cheapestOf_17, dX2_cheapestOf_18, dX2_cheapestOf_19, dX2_cheapestOf_22, dX2_cheapestOf_24, dX2_cheapestOf_26, dX2_cheapestOf_27, dX2_cheapestOf_30, dX2_cheapestOf_31, dX2_cheapestOf_32, dX2_cheapestOf_33, dX2_cheapestOf_34, dX2_cheapestOf_35, dX2_cheapestOf_36, dX2_cheapestOf_37, dX2_cheapestOf_38, dX2_cheapestOf_39, dX2_cheapestOf_40, dX2_cheapestOf_41, dX2_cheapestOf_44, dX2_cheapestOf_45, dX2_cheapestOf_46, dX2_cheapestOf_47, dX2_cheapestOf_50, dX2_cheapestOf_52, dX2_cheapestOf_53, dX2_cheapestOf_54, dX2_cheapestOf_55, dX2_cheapestOf_56, dX2_cheapestOf_59, dX2_cheapestOf_61, dX2_cheapestOf_62, dX2_cheapestOf_63, dX2_cheapestOf_64, dX2_cheapestOf_65, dX2_cheapestOf_66, dX2_cheapestOf_67, dX2_cheapestOf_68, dX2_cheapestOf_71, dX2_cheapestOf_73, dX2_cheapestOf_74, dX2_cheapestOf_75, dX2_cheapestOf_76, dX2_cheapestOf_79, dX2_cheapestOf_82, dX2_cheapestOf_83, Bool.cond_true, Bool.cond_false, Bool.or_false, Bool.false_or, Bool.true_or, Bool.or_true, true_and, and_true, if_true, if_false, List.length_cons, List.length_nil, List.getElem?_cons_zero, List.getElem?_cons_succ, List.set_cons_zero, List.set_cons_succ, Option.toList_some, Option.toList_none, List.cons_append, List.nil_append, beq_self_eq_true, Option.isSome_some, Option.isSome_none, pm_tg_lit, ite_true, ite_false, Nat.reduceAdd, Nat.reduceBEq, Nat.reduceLT, Nat.reduceLeDiff, Nat.reduceEqDiff, Int.reduceAdd, Int.reduceSub, Int.reduceLE, Int.reduceLT, Int.reduceEq, Int.reduceToNat, Int.reduceNeg, Int.cast_ofNat_Int, Int.reduceNatCast, Int.reduceNatCast', Int.zero_add, Int.add_zero, Nat.zero_add, Nat.add_zero, and_self, decide_true, decide_false, true_or, or_true, or_false, false_or, eq_self, Int.toNat_natCast, b2_e0, b2_e1, b2_ok, b2_w, b2_v, b2_tt, b2_ff, Bool.true_eq_false, Bool.false_eq_true, Option.some.injEq, Int.one_mul, Int.mul_one, not_true_eq_false, not_false_eq_true, ite_not, decide_eq_false_iff_not, decide_eq_true_eq, Int.reduceMul, Int.reduceMod, sv0 h, sv1 h, sv2 h, sv3 h, sv4 h, sv5 h, pm_z_rcv1 (sv0 h), cn0 hc, cn1 hc, cn2 hc, cn3 hc, cn4 hc, cn5 hc, cn6 hc, cn7 hc, cn8 hc, cn9 hc, cn10 hc, pm_z_rcv1 (cn0 hc), s0]
      rw [if_neg (by omega)]
      exact hk
  rw [show prN N (1 - 1) = (it1 0, 0) from rfl] at start
  show pm_W eX2_cheapestOf k (fun _ _ => False) 7 [some (.inr (.inl (some (s)))), some (.inr (.inl (some (a)))), some (.inl (1)), some (.inl (0)), some (.inl (1)), none] [] f
  rw [one]
  exact start
end CHP
