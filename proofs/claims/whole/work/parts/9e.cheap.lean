/-! THE CHEAPEST cables, in the class: the part that grows -/
def lvB (N : nt) (p : Nat → Bool) (c : Nat) : Bool := thN N c && (p (cN N 0 c) != p (cN N 1 c))
def chB (N : nt) (c : Nat) : Option Nat → Bool
  | none => true
  | some e => decide (cN N 5 c < cN N 5 e)
def chL (N : nt) (p : Nat → Bool) : Nat → Option Nat
  | 0 => none
  | j + 1 => if lvB N p j && chB N j (chL N p j) then some j else chL N p j
theorem chL_lt {N : nt} {p : Nat → Bool} : ∀ {j c : Nat}, chL N p j = some c → c < j ∧ lvB N p c = true
  | 0, c, h => by cases h
  | j + 1, c, h => by
    rw [chL] at h
    split at h
    · rename_i q
      rw [Bool.and_eq_true] at q
      cases h
      exact ⟨by omega, q.1⟩
    · have := chL_lt h
      exact ⟨by omega, this.2⟩
section CHP
variable {f : pm_H} {s a : Nat} {L : Nat → Nat → Int} {N : nt} {k : pm_P} {A R : Nat → Nat → Int} {U : Nat → Nat} {S : Nat → Int}
set_option maxRecDepth 20000 in
theorem leaving_c (h : sv_at f s L) (hc : cn_at f a A R U S) (hl : ckl N A S) (o : okB N) {p : Nat → Bool} (hk : k (some (.inl (optI (chL N p (ldN N))))) f) : pm_ex T_X2_cheapestLeaving [.inr (.inl (some s)), .inr (.inl (some a)), .inl ((bs p 16 : Nat) : Int)] f k := by
  have b1 := okl o
  have s2 : S 2 = (ldN N : Int) := hl.1.2.2.1
  have B31 := bs_31 p (n := 16) (by omega)
  refine in_X2_cheapestLeaving ?_
  refine pm_go_on [5] 60 ?_
  set_option maxRecDepth 100000 in simp (maxSteps := 2000000) only [pm_x_run, pm_x_rt, pm_x_rf, pm_z_S, pm_z_D, pm_z_cut0, pm_z_cut1, pm_z_cli, pm_z_clr, pm_z_cln, pm_z_cll, pm_z_up, pm_x_aload1, pm_x_c, pm_x_c2, pm_x_cn0, pm_x_cn1, pm_x_getf, pm_x_gf, pm_x_goto, pm_x_gv, pm_x_ia, pm_x_iald, pm_x_icmp_eq, pm_x_icmp_ge, pm_x_if_eq, pm_x_iinc4, pm_x_iload2, pm_x_iload3, pm_x_iload4, pm_x_iload5, pm_x_invs, pm_x_istore3, pm_x_istore4, pm_x_istore5, pm_z_cat0, pm_z_cati, pm_z_catl, pm_z_catr, pm_z_iconst, pm_z_pop0, pm_z_pop1, pm_z_rcv0, zX2_cheapestLeaving_B, zX2_cheapestLeaving_F, zX2_cheapestLeaving_R, zX2_cheapestLeaving_X, zX2_cheapestLeaving_C51, pm_z_ireti (zX2_cheapestLeaving_R), fX2_59, fX2_62, fX2_65, fX2_68, fX2_92, dX2_cheapestLeaving_0, dX2_cheapestLeaving_1, dX2_cheapestLeaving_2, dX2_cheapestLeaving_3, dX2_cheapestLeaving_5, dX2_cheapestLeaving_7, dX2_cheapestLeaving_8, dX2_cheapestLeaving_11, dX2_cheapestLeaving_14, dX2_cheapestLeaving_15, dX2_cheapestLeaving_18, dX2_cheapestLeaving_20, dX2_cheapestLeaving_21, dX2_cheapestLeaving_22, dX2_cheapestLeaving_25, dX2_cheapestLeaving_26, dX2_cheapestLeaving_27, dX2_cheapestLeaving_30, dX2_cheapestLeaving_32, dX2_cheapestLeaving_33, dX2_cheapestLeaving_36, dX2_cheapestLeaving_37, dX2_cheapestLeaving_38, dX2_cheapestLeaving_41, dX2_cheapestLeaving_43, dX2_cheapestLeaving_44, dX2_cheapestLeaving_47, dX2_cheapestLeaving_50, dX2_cheapestLeaving_51, dX2_cheapestLeaving_54, dX2_cheapestLeaving_55, dX2_cheapestLeaving_57, dX2_cheapestLeaving_59, dX2_cheapestLeaving_62, dX2_cheapestLeaving_63, dX2_cheapestLeaving_64, dX2_cheapestLeaving_67, dX2_cheapestLeaving_68, dX2_cheapestLeaving_71, dX2_cheapestLeaving_73, dX2_cheapestLeaving_74, dX2_cheapestLeaving_75, dX2_cheapestLeaving_78, dX2_cheapestLeaving_79, dX2_cheapestLeaving_80, dX2_cheapestLeaving_83, dX2_cheapestLeaving_85, dX2_cheapestLeaving_86, dX2_cheapestLeaving_89, dX2_cheapestLeaving_92, dX2_cheapestLeaving_93, Bool.cond_true, Bool.cond_false, Bool.or_false, Bool.false_or, Bool.true_or, Bool.or_true, true_and, and_true, if_true, if_false, List.length_cons, List.length_nil, List.getElem?_cons_zero, List.getElem?_cons_succ, List.set_cons_zero, List.set_cons_succ, Option.toList_some, Option.toList_none, List.cons_append, List.nil_append, beq_self_eq_true, Option.isSome_some, Option.isSome_none, pm_tg_lit, ite_true, ite_false, Nat.reduceAdd, Nat.reduceBEq, Nat.reduceLT, Nat.reduceLeDiff, Nat.reduceEqDiff, Int.reduceAdd, Int.reduceSub, Int.reduceLE, Int.reduceLT, Int.reduceEq, Int.reduceToNat, Int.reduceNeg, Int.cast_ofNat_Int, Int.reduceNatCast, Int.reduceNatCast', Int.zero_add, Int.add_zero, Nat.zero_add, Nat.add_zero, and_self, decide_true, decide_false, true_or, or_true, or_false, false_or, eq_self, Int.toNat_natCast, b2_e0, b2_e1, b2_ok, b2_w, b2_v, b2_tt, b2_ff, Bool.true_eq_false, Bool.false_eq_true, Option.some.injEq, Int.one_mul, Int.mul_one, not_true_eq_false, not_false_eq_true, ite_not, decide_eq_false_iff_not, decide_eq_true_eq, Int.reduceMul, Int.reduceMod, sv0 h, sv1 h, sv2 h, sv3 h, sv4 h, sv5 h, pm_z_rcv1 (sv0 h)]
  refine pm_for (ldN N) (fun c lv F => ∃ w5 : Option pm_V, F = f ∧ lv = [some (.inr (.inl (some (s)))), some (.inr (.inl (some (a)))), some (.inl (((bs p 16 : Nat) : Int))), some (.inl ((optI (chL N p c)))), some (.inl ((c : Int))), w5]) (fun c lv F hc' hJ ih => ?_) (fun lv F hJ => ?_) 0 _ _ (Nat.zero_le _) ⟨none, rfl, rfl⟩
  · obtain ⟨w5, rfl, rfl⟩ := hJ
    have cc := ckA hl hc'
    have oc := o.2.1 c hc'
    have o16 := ok16 o hc'
    refine pm_go_on [5] 60 ?_
    set_option maxRecDepth 100000 in simp (maxSteps := 2000000) only [pm_x_run, pm_x_rt, pm_x_rf, pm_z_S, pm_z_D, pm_z_cut0, pm_z_cut1, pm_z_cli, pm_z_clr, pm_z_cln, pm_z_cll, pm_z_up, pm_x_aload1, pm_x_c, pm_x_c2, pm_x_cn0, pm_x_cn1, pm_x_getf, pm_x_gf, pm_x_goto, pm_x_gv, pm_x_ia, pm_x_iald, pm_x_icmp_eq, pm_x_icmp_ge, pm_x_if_eq, pm_x_iinc4, pm_x_iload2, pm_x_iload3, pm_x_iload4, pm_x_iload5, pm_x_invs, pm_x_istore3, pm_x_istore4, pm_x_istore5, pm_z_cat0, pm_z_cati, pm_z_catl, pm_z_catr, pm_z_iconst, pm_z_pop0, pm_z_pop1, pm_z_rcv0, zX2_cheapestLeaving_B, zX2_cheapestLeaving_F, zX2_cheapestLeaving_R, zX2_cheapestLeaving_X, zX2_cheapestLeaving_C51, pm_z_ireti (zX2_cheapestLeaving_R), fX2_59, fX2_62, fX2_65, fX2_68, fX2_92, dX2_cheapestLeaving_0, dX2_cheapestLeaving_1, dX2_cheapestLeaving_2, dX2_cheapestLeaving_3, dX2_cheapestLeaving_5, dX2_cheapestLeaving_7, dX2_cheapestLeaving_8, dX2_cheapestLeaving_11, dX2_cheapestLeaving_14, dX2_cheapestLeaving_15, dX2_cheapestLeaving_18, dX2_cheapestLeaving_20, dX2_cheapestLeaving_21, dX2_cheapestLeaving_22, dX2_cheapestLeaving_25, dX2_cheapestLeaving_26, dX2_cheapestLeaving_27, dX2_cheapestLeaving_30, dX2_cheapestLeaving_32, dX2_cheapestLeaving_33, dX2_cheapestLeaving_36, dX2_cheapestLeaving_37, dX2_cheapestLeaving_38, dX2_cheapestLeaving_41, dX2_cheapestLeaving_43, dX2_cheapestLeaving_44, dX2_cheapestLeaving_47, dX2_cheapestLeaving_50, dX2_cheapestLeaving_51, dX2_cheapestLeaving_54, dX2_cheapestLeaving_55, dX2_cheapestLeaving_57, dX2_cheapestLeaving_59, dX2_cheapestLeaving_62, dX2_cheapestLeaving_63, dX2_cheapestLeaving_64, dX2_cheapestLeaving_67, dX2_cheapestLeaving_68, dX2_cheapestLeaving_71, dX2_cheapestLeaving_73, dX2_cheapestLeaving_74, dX2_cheapestLeaving_75, dX2_cheapestLeaving_78, dX2_cheapestLeaving_79, dX2_cheapestLeaving_80, dX2_cheapestLeaving_83, dX2_cheapestLeaving_85, dX2_cheapestLeaving_86, dX2_cheapestLeaving_89, dX2_cheapestLeaving_92, dX2_cheapestLeaving_93, Bool.cond_true, Bool.cond_false, Bool.or_false, Bool.false_or, Bool.true_or, Bool.or_true, true_and, and_true, if_true, if_false, List.length_cons, List.length_nil, List.getElem?_cons_zero, List.getElem?_cons_succ, List.set_cons_zero, List.set_cons_succ, Option.toList_some, Option.toList_none, List.cons_append, List.nil_append, beq_self_eq_true, Option.isSome_some, Option.isSome_none, pm_tg_lit, ite_true, ite_false, Nat.reduceAdd, Nat.reduceBEq, Nat.reduceLT, Nat.reduceLeDiff, Nat.reduceEqDiff, Int.reduceAdd, Int.reduceSub, Int.reduceLE, Int.reduceLT, Int.reduceEq, Int.reduceToNat, Int.reduceNeg, Int.cast_ofNat_Int, Int.reduceNatCast, Int.reduceNatCast', Int.zero_add, Int.add_zero, Nat.zero_add, Nat.add_zero, and_self, decide_true, decide_false, true_or, or_true, or_false, false_or, eq_self, Int.toNat_natCast, b2_e0, b2_e1, b2_ok, b2_w, b2_v, b2_tt, b2_ff, Bool.true_eq_false, Bool.false_eq_true, Option.some.injEq, Int.one_mul, Int.mul_one, not_true_eq_false, not_false_eq_true, ite_not, decide_eq_false_iff_not, decide_eq_true_eq, Int.reduceMul, Int.reduceMod, sv0 h, sv1 h, sv2 h, sv3 h, sv4 h, sv5 h, pm_z_rcv1 (sv0 h), cn0 hc, cn1 hc, cn2 hc, cn3 hc, cn4 hc, cn5 hc, cn6 hc, cn7 hc, cn8 hc, cn9 hc, cn10 hc, pm_z_rcv1 (cn0 hc), s2, cc.1, cc.2.1, cc.2.2.2.2.1]
    rw [if_pos (by omega)]
    refine ⟨by omega, ?_⟩
    by_cases q : cN N 2 c = 2
    · rw [if_pos (by omega)]
      have e : chL N p (c + 1) = chL N p c := by rw [chL, show lvB N p c = false by simp [lvB, thN, q]]; rfl
      rw [e] at ih
      exact ⟨by omega, ih _ _ ⟨_, rfl, rfl⟩⟩
    · rw [if_neg (by omega)]
      refine ⟨by omega, ?_⟩
      refine holds_sp (by omega) B31 ?_
      rw [bs_bit, decide_eq_true o16.1, Bool.true_and]
      set_option maxRecDepth 100000 in simp (maxSteps := 2000000) only [pm_x_run, pm_x_rt, pm_x_rf, pm_z_S, pm_z_D, pm_z_cut0, pm_z_cut1, pm_z_cli, pm_z_clr, pm_z_cln, pm_z_cll, pm_z_up, pm_x_aload1, pm_x_c, pm_x_c2, pm_x_cn0, pm_x_cn1, pm_x_getf, pm_x_gf, pm_x_goto, pm_x_gv, pm_x_ia, pm_x_iald, pm_x_icmp_eq, pm_x_icmp_ge, pm_x_if_eq, pm_x_iinc4, pm_x_iload2, pm_x_iload3, pm_x_iload4, pm_x_iload5, pm_x_invs, pm_x_istore3, pm_x_istore4, pm_x_istore5, pm_z_cat0, pm_z_cati, pm_z_catl, pm_z_catr, pm_z_iconst, pm_z_pop0, pm_z_pop1, pm_z_rcv0, zX2_cheapestLeaving_B, zX2_cheapestLeaving_F, zX2_cheapestLeaving_R, zX2_cheapestLeaving_X, zX2_cheapestLeaving_C51, pm_z_ireti (zX2_cheapestLeaving_R), fX2_59, fX2_62, fX2_65, fX2_68, fX2_92, dX2_cheapestLeaving_0, dX2_cheapestLeaving_1, dX2_cheapestLeaving_2, dX2_cheapestLeaving_3, dX2_cheapestLeaving_5, dX2_cheapestLeaving_7, dX2_cheapestLeaving_8, dX2_cheapestLeaving_11, dX2_cheapestLeaving_14, dX2_cheapestLeaving_15, dX2_cheapestLeaving_18, dX2_cheapestLeaving_20, dX2_cheapestLeaving_21, dX2_cheapestLeaving_22, dX2_cheapestLeaving_25, dX2_cheapestLeaving_26, dX2_cheapestLeaving_27, dX2_cheapestLeaving_30, dX2_cheapestLeaving_32, dX2_cheapestLeaving_33, dX2_cheapestLeaving_36, dX2_cheapestLeaving_37, dX2_cheapestLeaving_38, dX2_cheapestLeaving_41, dX2_cheapestLeaving_43, dX2_cheapestLeaving_44, dX2_cheapestLeaving_47, dX2_cheapestLeaving_50, dX2_cheapestLeaving_51, dX2_cheapestLeaving_54, dX2_cheapestLeaving_55, dX2_cheapestLeaving_57, dX2_cheapestLeaving_59, dX2_cheapestLeaving_62, dX2_cheapestLeaving_63, dX2_cheapestLeaving_64, dX2_cheapestLeaving_67, dX2_cheapestLeaving_68, dX2_cheapestLeaving_71, dX2_cheapestLeaving_73, dX2_cheapestLeaving_74, dX2_cheapestLeaving_75, dX2_cheapestLeaving_78, dX2_cheapestLeaving_79, dX2_cheapestLeaving_80, dX2_cheapestLeaving_83, dX2_cheapestLeaving_85, dX2_cheapestLeaving_86, dX2_cheapestLeaving_89, dX2_cheapestLeaving_92, dX2_cheapestLeaving_93, Bool.cond_true, Bool.cond_false, Bool.or_false, Bool.false_or, Bool.true_or, Bool.or_true, true_and, and_true, if_true, if_false, List.length_cons, List.length_nil, List.getElem?_cons_zero, List.getElem?_cons_succ, List.set_cons_zero, List.set_cons_succ, Option.toList_some, Option.toList_none, List.cons_append, List.nil_append, beq_self_eq_true, Option.isSome_some, Option.isSome_none, pm_tg_lit, ite_true, ite_false, Nat.reduceAdd, Nat.reduceBEq, Nat.reduceLT, Nat.reduceLeDiff, Nat.reduceEqDiff, Int.reduceAdd, Int.reduceSub, Int.reduceLE, Int.reduceLT, Int.reduceEq, Int.reduceToNat, Int.reduceNeg, Int.cast_ofNat_Int, Int.reduceNatCast, Int.reduceNatCast', Int.zero_add, Int.add_zero, Nat.zero_add, Nat.add_zero, and_self, decide_true, decide_false, true_or, or_true, or_false, false_or, eq_self, Int.toNat_natCast, b2_e0, b2_e1, b2_ok, b2_w, b2_v, b2_tt, b2_ff, Bool.true_eq_false, Bool.false_eq_true, Option.some.injEq, Int.one_mul, Int.mul_one, not_true_eq_false, not_false_eq_true, ite_not, decide_eq_false_iff_not, decide_eq_true_eq, Int.reduceMul, Int.reduceMod, sv0 h, sv1 h, sv2 h, sv3 h, sv4 h, sv5 h, pm_z_rcv1 (sv0 h), cn0 hc, cn1 hc, cn2 hc, cn3 hc, cn4 hc, cn5 hc, cn6 hc, cn7 hc, cn8 hc, cn9 hc, cn10 hc, pm_z_rcv1 (cn0 hc), s2, cc.1, cc.2.1, cc.2.2.2.2.1]
      refine ⟨by omega, ?_⟩
      refine holds_sp (by omega) B31 ?_
      rw [bs_bit, decide_eq_true o16.2, Bool.true_and]
      set_option maxRecDepth 100000 in simp (maxSteps := 2000000) only [pm_x_run, pm_x_rt, pm_x_rf, pm_z_S, pm_z_D, pm_z_cut0, pm_z_cut1, pm_z_cli, pm_z_clr, pm_z_cln, pm_z_cll, pm_z_up, pm_x_aload1, pm_x_c, pm_x_c2, pm_x_cn0, pm_x_cn1, pm_x_getf, pm_x_gf, pm_x_goto, pm_x_gv, pm_x_ia, pm_x_iald, pm_x_icmp_eq, pm_x_icmp_ge, pm_x_if_eq, pm_x_iinc4, pm_x_iload2, pm_x_iload3, pm_x_iload4, pm_x_iload5, pm_x_invs, pm_x_istore3, pm_x_istore4, pm_x_istore5, pm_z_cat0, pm_z_cati, pm_z_catl, pm_z_catr, pm_z_iconst, pm_z_pop0, pm_z_pop1, pm_z_rcv0, zX2_cheapestLeaving_B, zX2_cheapestLeaving_F, zX2_cheapestLeaving_R, zX2_cheapestLeaving_X, zX2_cheapestLeaving_C51, pm_z_ireti (zX2_cheapestLeaving_R), fX2_59, fX2_62, fX2_65, fX2_68, fX2_92, dX2_cheapestLeaving_0, dX2_cheapestLeaving_1, dX2_cheapestLeaving_2, dX2_cheapestLeaving_3, dX2_cheapestLeaving_5, dX2_cheapestLeaving_7, dX2_cheapestLeaving_8, dX2_cheapestLeaving_11, dX2_cheapestLeaving_14, dX2_cheapestLeaving_15, dX2_cheapestLeaving_18, dX2_cheapestLeaving_20, dX2_cheapestLeaving_21, dX2_cheapestLeaving_22, dX2_cheapestLeaving_25, dX2_cheapestLeaving_26, dX2_cheapestLeaving_27, dX2_cheapestLeaving_30, dX2_cheapestLeaving_32, dX2_cheapestLeaving_33, dX2_cheapestLeaving_36, dX2_cheapestLeaving_37, dX2_cheapestLeaving_38, dX2_cheapestLeaving_41, dX2_cheapestLeaving_43, dX2_cheapestLeaving_44, dX2_cheapestLeaving_47, dX2_cheapestLeaving_50, dX2_cheapestLeaving_51, dX2_cheapestLeaving_54, dX2_cheapestLeaving_55, dX2_cheapestLeaving_57, dX2_cheapestLeaving_59, dX2_cheapestLeaving_62, dX2_cheapestLeaving_63, dX2_cheapestLeaving_64, dX2_cheapestLeaving_67, dX2_cheapestLeaving_68, dX2_cheapestLeaving_71, dX2_cheapestLeaving_73, dX2_cheapestLeaving_74, dX2_cheapestLeaving_75, dX2_cheapestLeaving_78, dX2_cheapestLeaving_79, dX2_cheapestLeaving_80, dX2_cheapestLeaving_83, dX2_cheapestLeaving_85, dX2_cheapestLeaving_86, dX2_cheapestLeaving_89, dX2_cheapestLeaving_92, dX2_cheapestLeaving_93, Bool.cond_true, Bool.cond_false, Bool.or_false, Bool.false_or, Bool.true_or, Bool.or_true, true_and, and_true, if_true, if_false, List.length_cons, List.length_nil, List.getElem?_cons_zero, List.getElem?_cons_succ, List.set_cons_zero, List.set_cons_succ, Option.toList_some, Option.toList_none, List.cons_append, List.nil_append, beq_self_eq_true, Option.isSome_some, Option.isSome_none, pm_tg_lit, ite_true, ite_false, Nat.reduceAdd, Nat.reduceBEq, Nat.reduceLT, Nat.reduceLeDiff, Nat.reduceEqDiff, Int.reduceAdd, Int.reduceSub, Int.reduceLE, Int.reduceLT, Int.reduceEq, Int.reduceToNat, Int.reduceNeg, Int.cast_ofNat_Int, Int.reduceNatCast, Int.reduceNatCast', Int.zero_add, Int.add_zero, Nat.zero_add, Nat.add_zero, and_self, decide_true, decide_false, true_or, or_true, or_false, false_or, eq_self, Int.toNat_natCast, b2_e0, b2_e1, b2_ok, b2_w, b2_v, b2_tt, b2_ff, Bool.true_eq_false, Bool.false_eq_true, Option.some.injEq, Int.one_mul, Int.mul_one, not_true_eq_false, not_false_eq_true, ite_not, decide_eq_false_iff_not, decide_eq_true_eq, Int.reduceMul, Int.reduceMod, sv0 h, sv1 h, sv2 h, sv3 h, sv4 h, sv5 h, pm_z_rcv1 (sv0 h), cn0 hc, cn1 hc, cn2 hc, cn3 hc, cn4 hc, cn5 hc, cn6 hc, cn7 hc, cn8 hc, cn9 hc, cn10 hc, pm_z_rcv1 (cn0 hc), s2, cc.1, cc.2.1, cc.2.2.2.2.1, cc.2.2.1]
      have th : thN N c = true := by simp [thN, q]
      rw [chL] at ih
      unfold lvB at ih
      rw [th] at ih
      by_cases q1 : p (cN N 0 c) = p (cN N 1 c)
      · rw [q1] at ih ⊢
        rw [if_pos rfl]
        rw [show (p (cN N 1 c) != p (cN N 1 c)) = false by simp] at ih
        exact ⟨by omega, ih _ _ ⟨_, rfl, rfl⟩⟩
      · rw [show (p (cN N 0 c) != p (cN N 1 c)) = true by simp [q1]] at ih
        have q2 : ¬ b2 (p (cN N 0 c)) = b2 (p (cN N 1 c)) := by
          intro z
          revert z q1
          cases p (cN N 0 c) <;> cases p (cN N 1 c) <;> simp [b2]
        rw [if_neg q2]
        cases e : chL N p c with
        | none =>
          rw [e] at ih
          rw [if_pos (show optI none = -1 from rfl)]
          exact ⟨by omega, ih _ _ ⟨_, rfl, rfl⟩⟩
        | some d =>
          have dl := chL_lt e
          have cd := ckA hl (show d < ldN N by omega)
          have eo : optI (some d) = (d : Int) := rfl
          rw [e] at ih
          rw [eo, if_neg (by omega), Int.toNat_natCast, cd.2.2.1]
          refine ⟨by omega, by omega, ?_⟩
          by_cases q3 : cN N 5 c < cN N 5 d
          · rw [if_pos (by omega)]
            rw [show chB N c (some d) = true from decide_eq_true q3] at ih
            exact ⟨by omega, ih _ _ ⟨_, rfl, rfl⟩⟩
          · rw [if_neg (by omega)]
            rw [show chB N c (some d) = false from decide_eq_false q3] at ih
            exact ⟨by omega, ih _ _ ⟨_, rfl, rfl⟩⟩
  · obtain ⟨w5, rfl, rfl⟩ := hJ
    refine pm_go_on [5] 60 ?_
    set_option maxRecDepth 100000 in simp (maxSteps := 2000000) only [pm_x_run, pm_x_rt, pm_x_rf, pm_z_S, pm_z_D, pm_z_cut0, pm_z_cut1, pm_z_cli, pm_z_clr, pm_z_cln, pm_z_cll, pm_z_up, pm_x_aload1, pm_x_c, pm_x_c2, pm_x_cn0, pm_x_cn1, pm_x_getf, pm_x_gf, pm_x_goto, pm_x_gv, pm_x_ia, pm_x_iald, pm_x_icmp_eq, pm_x_icmp_ge, pm_x_if_eq, pm_x_iinc4, pm_x_iload2, pm_x_iload3, pm_x_iload4, pm_x_iload5, pm_x_invs, pm_x_istore3, pm_x_istore4, pm_x_istore5, pm_z_cat0, pm_z_cati, pm_z_catl, pm_z_catr, pm_z_iconst, pm_z_pop0, pm_z_pop1, pm_z_rcv0, zX2_cheapestLeaving_B, zX2_cheapestLeaving_F, zX2_cheapestLeaving_R, zX2_cheapestLeaving_X, zX2_cheapestLeaving_C51, pm_z_ireti (zX2_cheapestLeaving_R), fX2_59, fX2_62, fX2_65, fX2_68, fX2_92, dX2_cheapestLeaving_0, dX2_cheapestLeaving_1, dX2_cheapestLeaving_2, dX2_cheapestLeaving_3, dX2_cheapestLeaving_5, dX2_cheapestLeaving_7, dX2_cheapestLeaving_8, dX2_cheapestLeaving_11, dX2_cheapestLeaving_14, dX2_cheapestLeaving_15, dX2_cheapestLeaving_18, dX2_cheapestLeaving_20, dX2_cheapestLeaving_21, dX2_cheapestLeaving_22, dX2_cheapestLeaving_25, dX2_cheapestLeaving_26, dX2_cheapestLeaving_27, dX2_cheapestLeaving_30, dX2_cheapestLeaving_32, dX2_cheapestLeaving_33, dX2_cheapestLeaving_36, dX2_cheapestLeaving_37, dX2_cheapestLeaving_38, dX2_cheapestLeaving_41, dX2_cheapestLeaving_43, dX2_cheapestLeaving_44, dX2_cheapestLeaving_47, dX2_cheapestLeaving_50, dX2_cheapestLeaving_51, dX2_cheapestLeaving_54, dX2_cheapestLeaving_55, dX2_cheapestLeaving_57, dX2_cheapestLeaving_59, dX2_cheapestLeaving_62, dX2_cheapestLeaving_63, dX2_cheapestLeaving_64, dX2_cheapestLeaving_67, dX2_cheapestLeaving_68, dX2_cheapestLeaving_71, dX2_cheapestLeaving_73, dX2_cheapestLeaving_74, dX2_cheapestLeaving_75, dX2_cheapestLeaving_78, dX2_cheapestLeaving_79, dX2_cheapestLeaving_80, dX2_cheapestLeaving_83, dX2_cheapestLeaving_85, dX2_cheapestLeaving_86, dX2_cheapestLeaving_89, dX2_cheapestLeaving_92, dX2_cheapestLeaving_93, Bool.cond_true, Bool.cond_false, Bool.or_false, Bool.false_or, Bool.true_or, Bool.or_true, true_and, and_true, if_true, if_false, List.length_cons, List.length_nil, List.getElem?_cons_zero, List.getElem?_cons_succ, List.set_cons_zero, List.set_cons_succ, Option.toList_some, Option.toList_none, List.cons_append, List.nil_append, beq_self_eq_true, Option.isSome_some, Option.isSome_none, pm_tg_lit, ite_true, ite_false, Nat.reduceAdd, Nat.reduceBEq, Nat.reduceLT, Nat.reduceLeDiff, Nat.reduceEqDiff, Int.reduceAdd, Int.reduceSub, Int.reduceLE, Int.reduceLT, Int.reduceEq, Int.reduceToNat, Int.reduceNeg, Int.cast_ofNat_Int, Int.reduceNatCast, Int.reduceNatCast', Int.zero_add, Int.add_zero, Nat.zero_add, Nat.add_zero, and_self, decide_true, decide_false, true_or, or_true, or_false, false_or, eq_self, Int.toNat_natCast, b2_e0, b2_e1, b2_ok, b2_w, b2_v, b2_tt, b2_ff, Bool.true_eq_false, Bool.false_eq_true, Option.some.injEq, Int.one_mul, Int.mul_one, not_true_eq_false, not_false_eq_true, ite_not, decide_eq_false_iff_not, decide_eq_true_eq, Int.reduceMul, Int.reduceMod, sv0 h, sv1 h, sv2 h, sv3 h, sv4 h, sv5 h, pm_z_rcv1 (sv0 h), cn0 hc, cn1 hc, cn2 hc, cn3 hc, cn4 hc, cn5 hc, cn6 hc, cn7 hc, cn8 hc, cn9 hc, cn10 hc, pm_z_rcv1 (cn0 hc), s2]
    rw [if_neg (by omega)]
    exact hk
/-- the least node not seen -/
theorem pb_gap {p : Nat → Bool} {l : Nat} (hl : l < 16) (h1 : ∀ i, i < l → p i = true) (h2 : p l = false) : pm_and (-1 - ((bs p 16 : Nat) : Int)) (-(-1 - ((bs p 16 : Nat) : Int))) = ((bs (it1 l) 16 : Nat) : Int) := by
  have hp : bs p 16 < 65536 := bs_lt p 16
  have hr : bs (it1 l) 16 < 65536 := bs_lt _ 16
  have b1 : ∀ i, i < 16 → (bs p 16).testBit i = p i := fun i hi => by rw [bs_bit, decide_eq_true hi, Bool.true_and]
  have e := pb_ofNeg (x := bs p 16) 1 (by omega)
  rw [show (-((1 : Nat) : Int) - ((bs p 16 : Nat) : Int)) = -1 - ((bs p 16 : Nat) : Int) from rfl] at e
  have tb : ∀ i, i < 32 → (2 ^ 32 - (bs p 16 + 1)).testBit i = !(bs p 16).testBit i := fun i hi => by
    rw [Nat.testBit_two_pow_sub_succ (by omega), decide_eq_true hi, Bool.true_and]
  have lw := lowx_and (x := 2 ^ 32 - (bs p 16 + 1)) (n := l) (by omega) (fun i hi => by rw [tb i (by omega), b1 i (by omega), h1 i hi]; rfl) (by rw [tb l (by omega), b1 l hl, h2]; rfl)
  rw [show 2 ^ 32 - (2 ^ 32 - (bs p 16 + 1)) = bs p 16 + 1 by omega] at lw
  unfold pm_and
  rw [e, show -(-1 - ((bs p 16 : Nat) : Int)) = ((bs p 16 + 1 : Nat) : Int) by omega, pb_ofN, pb_and', lw, bs_one hl]
  exact nI_toInt (by
    have : bs (fun i => decide (i = l)) 16 < 65536 := bs_lt _ 16
    omega)
/-- a set, and what its cables cost -/
def fsN (p : Nat → Bool) : Nat → Nat → Nat
  | 0, _ => 0
  | n + 1, j => if p j then fsN p n (j + 1) else j
theorem gap_ex {p : Nat → Bool} (h : cnt p 16 < 16) : ∃ l, l < 16 ∧ (∀ i, i < l → p i = true) ∧ p l = false := by
  rcases fsI_sp (fun i => !p i) 16 with ⟨_, e2⟩ | ⟨l, _, e2, e3, e4⟩
  · exfalso
    have : cnt p 16 = cnt (fun _ => true) 16 := cnt_congr fun i hi => by simpa using e2 i hi
    have e : cnt (fun _ => true) 16 = 16 := by decide
    omega
  · exact ⟨l, e2, fun i hi => by simpa using e4 i hi, by simpa using e3⟩
end CHP
