section RTS
variable {f : pm_H} {b : Nat} {A : Nat → Nat → Int} {S : Nat → Int} {k : pm_P} {G : Nat → Int} {e p : Nat} {sk : Nat → Nat} {N : nt}
theorem prf0 {x : Nat} {y : Int} : (prf N 0 (x : Int) y).1 = netN x := by
  unfold prf
  rw [if_pos rfl, Int.toNat_natCast]
theorem prf1 {x y : Nat} : (prf N 1 (x : Int) (y : Int)).1 = layN N x y := by
  unfold prf
  rw [if_neg (by omega), if_pos rfl, Int.toNat_natCast, Int.toNat_natCast]
theorem prf2 {x : Nat} {y : Int} : (prf N 2 (x : Int) y).1 = (liftN N x).1 := by
  unfold prf
  rw [if_neg (by omega), if_neg (by omega), if_pos rfl, Int.toNat_natCast]
theorem prf3 {x y : Int} : (prf N 3 x y).1 = swpN N x.toNat y.toNat := by
  unfold prf
  rw [if_neg (by omega), if_neg (by omega), if_neg (by omega), if_pos rfl]
theorem prf4 {x : Nat} {y : Int} : (prf N 4 (x : Int) y).1 = (flN N x (ldN N)).1 := by
  unfold prf
  rw [if_neg (by omega), if_neg (by omega), if_neg (by omega), if_neg (by omega), if_pos rfl, Int.toNat_natCast]
theorem prf5 {x y : Int} : (prf N 5 x y).1 = tdN N (ldN N) := by
  unfold prf
  rw [if_neg (by omega), if_neg (by omega), if_neg (by omega), if_neg (by omega), if_neg (by omega), if_pos rfl]
theorem prf6 {x y : Nat} : (prf N 6 (x : Int) (y : Int)).1 = setC N 5 x y := by
  unfold prf
  rw [if_neg (by omega), if_neg (by omega), if_neg (by omega), if_neg (by omega), if_neg (by omega), if_neg (by omega), Int.toNat_natCast, Int.toNat_natCast]
theorem reads1_r (h : rt f b A S G e p) (h7 : S 7 = -1) (p3 : 3 ≤ p)
    (hk1 : ∀ f' A' S' l q, rL G e 1 201 p = .inr (l, q) → rt f' b A' S' G e q → S' 7 = -1 → S' 10 = (l.length : Int) → tldR A' l → l.length ≤ 199 → (∀ j, j ≠ 11 → j ≠ 12 → A' j = A j) → rtx b f A S f' A' S' → k none f')
    (hk0 : ∀ f' A' S' q r, rL G e 1 201 p = .inl r → rt f' b A' S' G e q → S' 7 = ((r : Nat) : Int) → (∀ j, j ≠ 11 → j ≠ 12 → A' j = A j) → rtx b f A S f' A' S' → k none f') : pm_ex T_X5_reads [.inr (.inl (some b)), .inl 1] f k := by
  have g := h.1
  have h2 := rm_put g (stS S 10 0)
  have fr2 : rfr b f (pm_up f b (rm_obj b (stS S 10 0))) := rfr_up (by omega) (by omega)
  have t2 : rt (pm_up f b (rm_obj b (stS S 10 0))) b A (stS S 10 0) G e p := rt_S h h2 rfl rfl
  refine in_X5_reads ?_
  refine pm_go_on [7] 60 ?_
  set_option maxRecDepth 100000 in simp (maxSteps := 2000000) only [pm_x_run, pm_x_rt, pm_x_rf, pm_z_S, pm_z_D, pm_z_cut0, pm_z_cut1, pm_z_cli, pm_z_clr, pm_z_cln, pm_z_cll, pm_z_up, pm_x_aload0, pm_x_c, pm_x_c2, pm_x_cn0, pm_x_cn1, pm_x_fit1, pm_x_fit2, pm_x_getf, pm_x_gf, pm_x_goto, pm_x_gv, pm_x_iast, pm_x_if_eq, pm_x_iload1, pm_x_iload2, pm_x_invv, pm_x_is, pm_x_istore2, pm_x_pf, pm_x_putf, pm_x_pv, pm_x_v0, pm_x_v1, pm_x_x2, pm_z_bipush, pm_z_cat0, pm_z_cati, pm_z_catl, pm_z_catr, pm_z_dup_i, pm_z_dup_r, pm_z_iadd, pm_z_iconst, pm_z_pop0, pm_z_pop1, pm_z_vret, zX5_reads_B, zX5_reads_F, zX5_reads_R, zX5_reads_X, zX5_reads_C202, zX5_reads_C205, fX5_199, fX5_48, fX5_51, dX5_reads_0, dX5_reads_1, dX5_reads_2, dX5_reads_5, dX5_reads_6, dX5_reads_7, dX5_reads_8, dX5_reads_11, dX5_reads_12, dX5_reads_15, dX5_reads_16, dX5_reads_19, dX5_reads_20, dX5_reads_21, dX5_reads_22, dX5_reads_25, dX5_reads_27, dX5_reads_30, dX5_reads_32, dX5_reads_35, dX5_reads_36, dX5_reads_37, dX5_reads_40, dX5_reads_41, dX5_reads_44, dX5_reads_45, dX5_reads_48, dX5_reads_49, dX5_reads_50, dX5_reads_52, dX5_reads_55, dX5_reads_56, dX5_reads_57, dX5_reads_58, dX5_reads_61, dX5_reads_62, dX5_reads_63, dX5_reads_66, dX5_reads_67, dX5_reads_70, dX5_reads_71, dX5_reads_74, Bool.cond_true, Bool.cond_false, Bool.or_false, Bool.false_or, Bool.true_or, Bool.or_true, true_and, and_true, if_true, if_false, List.length_cons, List.length_nil, List.getElem?_cons_zero, List.getElem?_cons_succ, List.set_cons_zero, List.set_cons_succ, Option.toList_some, Option.toList_none, List.cons_append, List.nil_append, beq_self_eq_true, Option.isSome_some, Option.isSome_none, pm_tg_lit, ite_true, ite_false, Nat.reduceAdd, Nat.reduceBEq, Nat.reduceLT, Nat.reduceLeDiff, Nat.reduceEqDiff, Int.reduceAdd, Int.reduceSub, Int.reduceLE, Int.reduceLT, Int.reduceEq, Int.reduceToNat, Int.reduceNeg, Int.cast_ofNat_Int, Int.reduceNatCast, Int.reduceNatCast', Int.zero_add, Int.add_zero, Nat.zero_add, Nat.add_zero, and_self, decide_true, decide_false, true_or, or_true, or_false, false_or, eq_self, Int.toNat_natCast, b2_e0, b2_e1, b2_ok, b2_w, b2_v, b2_tt, b2_ff, Bool.true_eq_false, Bool.false_eq_true, Option.some.injEq, Int.one_mul, Int.mul_one, not_true_eq_false, not_false_eq_true, ite_not, decide_eq_false_iff_not, decide_eq_true_eq, Int.reduceMul, Int.reduceMod, mq0 g, mq1 g, mq2 g, mq3 g, mq4 g, mq5 g, mq6 g, mq7 g, mq8 g, mq9 g, mq10 g, mq11 g, mq12 g, mq13 g, pm_z_rcv1 (mq0 g)]
  refine reads1_l (f0 := f) (A0 := A) (S0 := S) (R0 := rL G e 1 201 p) (fun f' A' S' l q e1 e2 e3 e4 e5 e6 e7 e8 e9 => hk1 f' A' S' l q e1 e2 e3 e4 e5 e6 e7 ⟨e9, fun j _ _ _ j11 j12 => e7 j j11 j12, fun j j6 j7 _ _ j10 => e8 j j6 j7 j10⟩) (fun f' A' S' q r e1 e2 e3 e7 e8 e9 => hk0 f' A' S' q r e1 e2 e3 e7 ⟨e9, fun j _ _ _ j11 j12 => e7 j j11 j12, fun j j6 j7 _ _ j10 => e8 j j6 j7 j10⟩) 201 [] p _ A (stS S 10 0) rfl (by simpa using p3) t2 h7 rfl (fun j hj => by cases hj) (fun _ _ _ => rfl) (fun j _ _ j10 => by unfold stS; rw [if_neg j10]) fr2 (rap_nil _).symm
theorem reads2_r (h : rt f b A S G e p) (h7 : S 7 = -1) (p3 : 3 ≤ p)
    (hk1 : ∀ f' A' S' l q, rL G e 2 201 p = .inr (l, q) → rt f' b A' S' G e q → S' 7 = -1 → S' 10 = (l.length : Int) → tld1 A' l → l.length ≤ 199 → (∀ j, j ≠ 11 → j ≠ 12 → A' j = A j) → rtx b f A S f' A' S' → k none f')
    (hk0 : ∀ f' A' S' q r, rL G e 2 201 p = .inl r → rt f' b A' S' G e q → S' 7 = ((r : Nat) : Int) → (∀ j, j ≠ 11 → j ≠ 12 → A' j = A j) → rtx b f A S f' A' S' → k none f') : pm_ex T_X5_reads [.inr (.inl (some b)), .inl 0] f k := by
  have g := h.1
  have h2 := rm_put g (stS S 10 0)
  have fr2 : rfr b f (pm_up f b (rm_obj b (stS S 10 0))) := rfr_up (by omega) (by omega)
  have t2 : rt (pm_up f b (rm_obj b (stS S 10 0))) b A (stS S 10 0) G e p := rt_S h h2 rfl rfl
  refine in_X5_reads ?_
  refine pm_go_on [7] 60 ?_
  set_option maxRecDepth 100000 in simp (maxSteps := 2000000) only [pm_x_run, pm_x_rt, pm_x_rf, pm_z_S, pm_z_D, pm_z_cut0, pm_z_cut1, pm_z_cli, pm_z_clr, pm_z_cln, pm_z_cll, pm_z_up, pm_x_aload0, pm_x_c, pm_x_c2, pm_x_cn0, pm_x_cn1, pm_x_fit1, pm_x_fit2, pm_x_getf, pm_x_gf, pm_x_goto, pm_x_gv, pm_x_iast, pm_x_if_eq, pm_x_iload1, pm_x_iload2, pm_x_invv, pm_x_is, pm_x_istore2, pm_x_pf, pm_x_putf, pm_x_pv, pm_x_v0, pm_x_v1, pm_x_x2, pm_z_bipush, pm_z_cat0, pm_z_cati, pm_z_catl, pm_z_catr, pm_z_dup_i, pm_z_dup_r, pm_z_iadd, pm_z_iconst, pm_z_pop0, pm_z_pop1, pm_z_vret, zX5_reads_B, zX5_reads_F, zX5_reads_R, zX5_reads_X, zX5_reads_C202, zX5_reads_C205, fX5_199, fX5_48, fX5_51, dX5_reads_0, dX5_reads_1, dX5_reads_2, dX5_reads_5, dX5_reads_6, dX5_reads_7, dX5_reads_8, dX5_reads_11, dX5_reads_12, dX5_reads_15, dX5_reads_16, dX5_reads_19, dX5_reads_20, dX5_reads_21, dX5_reads_22, dX5_reads_25, dX5_reads_27, dX5_reads_30, dX5_reads_32, dX5_reads_35, dX5_reads_36, dX5_reads_37, dX5_reads_40, dX5_reads_41, dX5_reads_44, dX5_reads_45, dX5_reads_48, dX5_reads_49, dX5_reads_50, dX5_reads_52, dX5_reads_55, dX5_reads_56, dX5_reads_57, dX5_reads_58, dX5_reads_61, dX5_reads_62, dX5_reads_63, dX5_reads_66, dX5_reads_67, dX5_reads_70, dX5_reads_71, dX5_reads_74, Bool.cond_true, Bool.cond_false, Bool.or_false, Bool.false_or, Bool.true_or, Bool.or_true, true_and, and_true, if_true, if_false, List.length_cons, List.length_nil, List.getElem?_cons_zero, List.getElem?_cons_succ, List.set_cons_zero, List.set_cons_succ, Option.toList_some, Option.toList_none, List.cons_append, List.nil_append, beq_self_eq_true, Option.isSome_some, Option.isSome_none, pm_tg_lit, ite_true, ite_false, Nat.reduceAdd, Nat.reduceBEq, Nat.reduceLT, Nat.reduceLeDiff, Nat.reduceEqDiff, Int.reduceAdd, Int.reduceSub, Int.reduceLE, Int.reduceLT, Int.reduceEq, Int.reduceToNat, Int.reduceNeg, Int.cast_ofNat_Int, Int.reduceNatCast, Int.reduceNatCast', Int.zero_add, Int.add_zero, Nat.zero_add, Nat.add_zero, and_self, decide_true, decide_false, true_or, or_true, or_false, false_or, eq_self, Int.toNat_natCast, b2_e0, b2_e1, b2_ok, b2_w, b2_v, b2_tt, b2_ff, Bool.true_eq_false, Bool.false_eq_true, Option.some.injEq, Int.one_mul, Int.mul_one, not_true_eq_false, not_false_eq_true, ite_not, decide_eq_false_iff_not, decide_eq_true_eq, Int.reduceMul, Int.reduceMod, mq0 g, mq1 g, mq2 g, mq3 g, mq4 g, mq5 g, mq6 g, mq7 g, mq8 g, mq9 g, mq10 g, mq11 g, mq12 g, mq13 g, pm_z_rcv1 (mq0 g)]
  refine reads2_l (f0 := f) (A0 := A) (S0 := S) (R0 := rL G e 2 201 p) (fun f' A' S' l q e1 e2 e3 e4 e5 e6 e7 e8 e9 => hk1 f' A' S' l q e1 e2 e3 e4 e5 e6 e7 ⟨e9, fun j _ _ _ j11 j12 => e7 j j11 j12, fun j j6 j7 _ _ j10 => e8 j j6 j7 j10⟩) (fun f' A' S' q r e1 e2 e3 e7 e8 e9 => hk0 f' A' S' q r e1 e2 e3 e7 ⟨e9, fun j _ _ _ j11 j12 => e7 j j11 j12, fun j j6 j7 _ _ j10 => e8 j j6 j7 j10⟩) 201 [] p _ A (stS S 10 0) rfl (by simpa using p3) t2 h7 rfl (fun j hj => by cases hj) (fun _ _ _ => rfl) (fun j _ _ j10 => by unfold stS; rw [if_neg j10]) fr2 (rap_nil _).symm
end RTS
