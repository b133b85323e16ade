/-! FLOWS, in the reference -/
section RFL
variable {f : pm_H} {b : Nat} {A : Nat → Nat → Int} {S : Nat → Int} {N : nt} {sl : Nat → Nat → Nat} {k : pm_P}
/-- a cable can carry one more from its end u on -/
def caB (N : nt) (W : Nat → Int) (c u : Nat) : Bool := thN N c && (if cN N 0 c = u then decide (W c < 1) else decide (-1 < W c))
theorem carries_r (h : rm_at f b A S) (hr : rr (A 0) N sl) (o : okB N) {c u : Nat} (hc : c < ldN N) (hu : u = cN N 0 c ∨ u = cN N 1 c) (hk : k (some (.inl (b2 (caB N (A 10) c u)))) f) : pm_ex T_X5_carries [.inr (.inl (some b)), .inl (c : Int), .inl (u : Int)] f k := by
  have b1 := okl o
  refine in_X5_carries ?_
  refine pm_go_on [] 60 ?_
  set_option maxRecDepth 100000 in simp (maxSteps := 2000000) only [pm_x_run, pm_x_rt, pm_x_rf, pm_z_S, pm_z_D, pm_z_cut0, pm_z_cut1, pm_z_cli, pm_z_clr, pm_z_cln, pm_z_cll, pm_z_up, pm_x_aload0, pm_x_c, pm_x_c2, pm_x_cn0, pm_x_cn1, pm_x_getf, pm_x_gf, pm_x_goto, pm_x_gv, pm_x_ia, pm_x_iald, pm_x_icmp_ge, pm_x_icmp_le, pm_x_icmp_ne, pm_x_if_eq, pm_x_if_ne, pm_x_iload1, pm_x_iload2, pm_x_invv, pm_x_v0, pm_x_v1, pm_x_x2, pm_z_cat0, pm_z_cati, pm_z_catl, pm_z_catr, pm_z_iconst, pm_z_pop0, pm_z_pop1, zX5_carries_B, zX5_carries_F, zX5_carries_R, zX5_carries_X, zX5_carries_C142, zX5_carries_C273, zX5_carries_C69, pm_z_iretz (zX5_carries_R), fX5_45, dX5_carries_0, dX5_carries_1, dX5_carries_2, dX5_carries_5, dX5_carries_8, dX5_carries_9, dX5_carries_10, dX5_carries_11, dX5_carries_14, dX5_carries_17, dX5_carries_18, dX5_carries_19, dX5_carries_20, dX5_carries_21, dX5_carries_22, dX5_carries_25, dX5_carries_26, dX5_carries_29, dX5_carries_30, dX5_carries_33, dX5_carries_34, dX5_carries_35, dX5_carries_36, dX5_carries_39, dX5_carries_40, dX5_carries_43, dX5_carries_44, dX5_carries_47, dX5_carries_48, dX5_carries_51, dX5_carries_52, dX5_carries_53, dX5_carries_54, dX5_carries_57, dX5_carries_58, dX5_carries_61, dX5_carries_62, Bool.cond_true, Bool.cond_false, Bool.or_false, Bool.false_or, Bool.true_or, Bool.or_true, true_and, and_true, if_true, if_false, List.length_cons, List.length_nil, List.getElem?_cons_zero, List.getElem?_cons_succ, List.set_cons_zero, List.set_cons_succ, Option.toList_some, Option.toList_none, List.cons_append, List.nil_append, beq_self_eq_true, Option.isSome_some, Option.isSome_none, pm_tg_lit, ite_true, ite_false, Nat.reduceAdd, Nat.reduceBEq, Nat.reduceLT, Nat.reduceLeDiff, Nat.reduceEqDiff, Int.reduceAdd, Int.reduceSub, Int.reduceLE, Int.reduceLT, Int.reduceEq, Int.reduceToNat, Int.reduceNeg, Int.cast_ofNat_Int, Int.reduceNatCast, Int.reduceNatCast', Int.zero_add, Int.add_zero, Nat.zero_add, Nat.add_zero, and_self, decide_true, decide_false, true_or, or_true, or_false, false_or, eq_self, Int.toNat_natCast, b2_e0, b2_e1, b2_ok, b2_w, b2_v, b2_tt, b2_ff, Bool.true_eq_false, Bool.false_eq_true, Option.some.injEq, Int.one_mul, Int.mul_one, not_true_eq_false, not_false_eq_true, ite_not, decide_eq_false_iff_not, decide_eq_true_eq, Int.reduceMul, Int.reduceMod, pm_x_icmp_eq, zX5_hasEnd_B, zX5_hasEnd_F, zX5_hasEnd_R, zX5_hasEnd_X, zX5_hasEnd_C69, pm_z_iretz (zX5_hasEnd_R), dX5_hasEnd_0, dX5_hasEnd_1, dX5_hasEnd_2, dX5_hasEnd_3, dX5_hasEnd_6, dX5_hasEnd_7, dX5_hasEnd_10, dX5_hasEnd_11, dX5_hasEnd_12, dX5_hasEnd_13, dX5_hasEnd_16, dX5_hasEnd_17, dX5_hasEnd_20, dX5_hasEnd_21, dX5_hasEnd_24, dX5_hasEnd_25, iq_X5_hasEnd, mq0 h, mq1 h, mq2 h, mq3 h, mq4 h, mq5 h, mq6 h, mq7 h, mq8 h, mq9 h, mq10 h, mq11 h, mq12 h, mq13 h, pm_z_rcv1 (mq0 h), q_isThereN h hr o hc, q_of0 h hr o hc, q_of1 h hr o hc]
  unfold caB at hk
  cases q : thN N c
  · rw [q] at hk
    rw [if_pos rfl]
    exact hk
  · rw [q, Bool.true_and] at hk
    rw [if_neg (by decide)]
    by_cases q0 : cN N 0 c = u
    · rw [if_pos q0] at hk
      rw [if_pos (by omega), if_pos (by omega)]
      refine ⟨by omega, ?_⟩
      by_cases w : A 10 c < 1
      · rw [decide_eq_true w] at hk
        rw [if_pos w]
        exact hk
      · rw [decide_eq_false w] at hk
        rw [if_neg w]
        exact hk
    · rw [if_neg q0] at hk
      rw [if_neg (by omega), if_pos (by omega), if_neg (by omega)]
      refine ⟨by omega, ?_⟩
      by_cases w : -1 < A 10 c
      · rw [decide_eq_true w] at hk
        rw [if_pos w]
        exact hk
      · rw [decide_eq_false w] at hk
        rw [if_neg w]
        exact hk
def cmB (N : nt) (W B : Nat → Int) (c u v : Nat) : Bool := decide (B u ≠ -1) && (decide (B v = -1) && caB N W c u)
theorem comes_r (h : rm_at f b A S) (hr : rr (A 0) N sl) (o : okB N) {c u v : Nat} (hc : c < ldN N) (hu : u = cN N 0 c ∨ u = cN N 1 c) (hv : v < 16) (hk : ∀ f', rm_at f' b (stA A 9 (if cmB N (A 10) (A 9) c u v then pm_us (A 9) v (c : Int) else A 9)) S → rfr b f f' → k (some (.inl (b2 (cmB N (A 10) (A 9) c u v)))) f') : pm_ex T_X5_comes [.inr (.inl (some b)), .inl (c : Int), .inl (u : Int), .inl (v : Int)] f k := by
  have o16 := ok16 o hc
  have no : cmB N (A 10) (A 9) c u v = false → k (some (.inl 0)) f := fun z => by
    have := hk f
    rw [z] at this
    simp only [Bool.false_eq_true, if_false, stA_id] at this
    exact this h rfr_rf
  have yes : cmB N (A 10) (A 9) c u v = true → k (some (.inl 1)) (pm_up f (b + 10) (.inl (16, pm_us (A 9) v (c : Int)))) := fun z => by
    have := hk (pm_up f (b + 10) (.inl (16, pm_us (A 9) v (c : Int))))
    rw [z, if_pos rfl] at this
    exact this (rm_arr h (j := 9) (by omega) (pm_us (A 9) v (c : Int)) rfl) (rfr_up (by omega) (by omega))
  refine in_X5_comes ?_
  refine pm_go_on [] 60 ?_
  set_option maxRecDepth 100000 in simp (maxSteps := 2000000) only [pm_x_run, pm_x_rt, pm_x_rf, pm_z_S, pm_z_D, pm_z_cut0, pm_z_cut1, pm_z_cli, pm_z_clr, pm_z_cln, pm_z_cll, pm_z_up, pm_x_aload0, pm_x_c, pm_x_c2, pm_x_cn0, pm_x_cn1, pm_x_getf, pm_x_gf, pm_x_gv, pm_x_ia, pm_x_iald, pm_x_iast, pm_x_icmp_eq, pm_x_icmp_ne, pm_x_if_ne, pm_x_iload1, pm_x_iload2, pm_x_iload3, pm_x_invv, pm_x_is, pm_x_v0, pm_x_v1, pm_x_x2, pm_z_cat0, pm_z_cati, pm_z_catl, pm_z_catr, pm_z_iconst, pm_z_pop0, pm_z_pop1, zX5_comes_B, zX5_comes_F, zX5_comes_R, zX5_comes_X, zX5_comes_C326, pm_z_iretz (zX5_comes_R), fX5_42, dX5_comes_0, dX5_comes_1, dX5_comes_4, dX5_comes_5, dX5_comes_6, dX5_comes_7, dX5_comes_10, dX5_comes_11, dX5_comes_14, dX5_comes_15, dX5_comes_16, dX5_comes_17, dX5_comes_20, dX5_comes_21, dX5_comes_22, dX5_comes_23, dX5_comes_26, dX5_comes_29, dX5_comes_30, dX5_comes_31, dX5_comes_32, dX5_comes_35, dX5_comes_36, dX5_comes_37, dX5_comes_38, dX5_comes_39, Bool.cond_true, Bool.cond_false, Bool.or_false, Bool.false_or, Bool.true_or, Bool.or_true, true_and, and_true, if_true, if_false, List.length_cons, List.length_nil, List.getElem?_cons_zero, List.getElem?_cons_succ, List.set_cons_zero, List.set_cons_succ, Option.toList_some, Option.toList_none, List.cons_append, List.nil_append, beq_self_eq_true, Option.isSome_some, Option.isSome_none, pm_tg_lit, ite_true, ite_false, Nat.reduceAdd, Nat.reduceBEq, Nat.reduceLT, Nat.reduceLeDiff, Nat.reduceEqDiff, Int.reduceAdd, Int.reduceSub, Int.reduceLE, Int.reduceLT, Int.reduceEq, Int.reduceToNat, Int.reduceNeg, Int.cast_ofNat_Int, Int.reduceNatCast, Int.reduceNatCast', Int.zero_add, Int.add_zero, Nat.zero_add, Nat.add_zero, and_self, decide_true, decide_false, true_or, or_true, or_false, false_or, eq_self, Int.toNat_natCast, b2_e0, b2_e1, b2_ok, b2_w, b2_v, b2_tt, b2_ff, Bool.true_eq_false, Bool.false_eq_true, Option.some.injEq, Int.one_mul, Int.mul_one, not_true_eq_false, not_false_eq_true, ite_not, decide_eq_false_iff_not, decide_eq_true_eq, Int.reduceMul, Int.reduceMod, mq0 h, mq1 h, mq2 h, mq3 h, mq4 h, mq5 h, mq6 h, mq7 h, mq8 h, mq9 h, mq10 h, mq11 h, mq12 h, mq13 h, pm_z_rcv1 (mq0 h)]
  refine ⟨by omega, ?_⟩
  by_cases q1 : A 9 u = -1
  · rw [if_pos q1]
    exact no (by simp [cmB, q1])
  · rw [if_neg q1]
    refine ⟨by omega, ?_⟩
    by_cases q2 : A 9 v = -1
    · rw [if_pos q2]
      refine carries_r h hr o hc hu ?_
      set_option maxRecDepth 100000 in simp (maxSteps := 2000000) only [pm_x_run, pm_x_rt, pm_x_rf, pm_z_S, pm_z_D, pm_z_cut0, pm_z_cut1, pm_z_cli, pm_z_clr, pm_z_cln, pm_z_cll, pm_z_up, pm_x_aload0, pm_x_c, pm_x_c2, pm_x_cn0, pm_x_cn1, pm_x_getf, pm_x_gf, pm_x_gv, pm_x_ia, pm_x_iald, pm_x_iast, pm_x_icmp_eq, pm_x_icmp_ne, pm_x_if_ne, pm_x_iload1, pm_x_iload2, pm_x_iload3, pm_x_invv, pm_x_is, pm_x_v0, pm_x_v1, pm_x_x2, pm_z_cat0, pm_z_cati, pm_z_catl, pm_z_catr, pm_z_iconst, pm_z_pop0, pm_z_pop1, zX5_comes_B, zX5_comes_F, zX5_comes_R, zX5_comes_X, zX5_comes_C326, pm_z_iretz (zX5_comes_R), fX5_42, dX5_comes_0, dX5_comes_1, dX5_comes_4, dX5_comes_5, dX5_comes_6, dX5_comes_7, dX5_comes_10, dX5_comes_11, dX5_comes_14, dX5_comes_15, dX5_comes_16, dX5_comes_17, dX5_comes_20, dX5_comes_21, dX5_comes_22, dX5_comes_23, dX5_comes_26, dX5_comes_29, dX5_comes_30, dX5_comes_31, dX5_comes_32, dX5_comes_35, dX5_comes_36, dX5_comes_37, dX5_comes_38, dX5_comes_39, Bool.cond_true, Bool.cond_false, Bool.or_false, Bool.false_or, Bool.true_or, Bool.or_true, true_and, and_true, if_true, if_false, List.length_cons, List.length_nil, List.getElem?_cons_zero, List.getElem?_cons_succ, List.set_cons_zero, List.set_cons_succ, Option.toList_some, Option.toList_none, List.cons_append, List.nil_append, beq_self_eq_true, Option.isSome_some, Option.isSome_none, pm_tg_lit, ite_true, ite_false, Nat.reduceAdd, Nat.reduceBEq, Nat.reduceLT, Nat.reduceLeDiff, Nat.reduceEqDiff, Int.reduceAdd, Int.reduceSub, Int.reduceLE, Int.reduceLT, Int.reduceEq, Int.reduceToNat, Int.reduceNeg, Int.cast_ofNat_Int, Int.reduceNatCast, Int.reduceNatCast', Int.zero_add, Int.add_zero, Nat.zero_add, Nat.add_zero, and_self, decide_true, decide_false, true_or, or_true, or_false, false_or, eq_self, Int.toNat_natCast, b2_e0, b2_e1, b2_ok, b2_w, b2_v, b2_tt, b2_ff, Bool.true_eq_false, Bool.false_eq_true, Option.some.injEq, Int.one_mul, Int.mul_one, not_true_eq_false, not_false_eq_true, ite_not, decide_eq_false_iff_not, decide_eq_true_eq, Int.reduceMul, Int.reduceMod, mq0 h, mq1 h, mq2 h, mq3 h, mq4 h, mq5 h, mq6 h, mq7 h, mq8 h, mq9 h, mq10 h, mq11 h, mq12 h, mq13 h, pm_z_rcv1 (mq0 h)]
      cases q3 : caB N (A 10) c u
      · rw [if_pos rfl]
        exact no (by simp [cmB, q3])
      · rw [if_neg (by decide)]
        exact ⟨by omega, yes (by simp [cmB, q1, q2, q3])⟩
    · rw [if_neg q2]
      exact no (by simp [cmB, q2])
end RFL
