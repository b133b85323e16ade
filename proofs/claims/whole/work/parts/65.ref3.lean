theorem us_ne {g : Nat → Int} {k j : Nat} {x : Int} (h : j ≠ k) : pm_us g k x j = g j := if_neg h
theorem us_eq {g : Nat → Int} {k : Nat} {x : Int} : pm_us g k x k = x := if_pos rfl
theorem rrt_ext {M M' : Nat → Int} {T : Nat → Nat → List Int} {sl : Nat → Nat → Nat} (hl : ∀ i n, i < 5 → n < 16 → (T i n).length ≤ 46) (h : rrt M T sl) (he : ∀ q, 380 ≤ q → q < 4220 → M' q = M q) : rrt M' T sl := by
  intro i n hi hn
  obtain ⟨a1, a2, a3, a4, a5, a6⟩ := h i n hi hn
  have := hl i n hi hn
  refine ⟨a1, ?_, ?_, fun j hj => ?_, a5, a6⟩
  · rw [he _ (by omega) (by omega)]; exact a2
  · rw [he _ (by omega) (by omega)]; exact a3
  · rw [he _ (by omega) (by omega)]; exact a4 j hj
theorem rr_mk {M M' : Nat → Int} {N N' : nt} {sl : Nat → Nat → Nat} (o : okB N) (hr : rr M N sl) (hT : tN N' = tN N) (h0 : M' 0 = (nN N' : Int) ∧ M' 1 = (ldN N' : Int) ∧ M' 2 = (riN N' : Int) ∧ M' 3 = (loN N' : Int)) (hn : ∀ n, n < 16 → M' (4 + n) = (nmN N' n : Int)) (hc : ∀ c w, c < ldN N' → w < 6 → M' (20 + 6 * c + w) = (cN N' w c : Int)) (ht : ∀ q, 380 ≤ q → q < 4220 → M' q = M q) (hg : rrl M' (lgN N')) : rr M' N' sl :=
  ⟨h0, hn, hc, by rw [hT]; exact rrt_ext (fun i n hi hn => (o.2.2.2.2.2 i n hi hn).2.1) hr.2.2.2.1 ht, hg⟩
theorem rrl_ext {M M' : Nat → Int} {l : List (Int × Int × Int)} (h : rrl M l) (he : ∀ q, 4220 ≤ q → M' q = M q) : rrl M' l := by
  refine ⟨by rw [he _ (by omega)]; exact h.1, fun j hj => ?_⟩
  rw [he _ (by omega), he _ (by omega), he _ (by omega)]
  exact h.2 j hj
section R3
variable {f : pm_H} {b : Nat} {A : Nat → Nat → Int} {S : Nat → Int} {N : nt} {k : pm_P} {sl : Nat → Nat → Nat} {M : Nat → Int}
theorem rr_c (o : okB N) (hr : rr M N sl) {c w v : Nat} (hc : c < ldN N) (hw : w < 6) : rr (pm_us M (20 + 6 * c + w) (v : Int)) (setC N w c v) sl := by
  have b1 := okl o
  refine rr_mk o hr rfl ⟨?_, ?_, ?_, ?_⟩ (fun n hn => ?_) (fun d w' hd hw' => ?_) (fun q h1 h2 => us_ne (by omega)) (rrl_ext hr.2.2.2.2 (fun q hq => us_ne (by omega)))
  · rw [us_ne (by omega)]; exact hr.1.1
  · rw [us_ne (by omega)]; exact hr.1.2.1
  · rw [us_ne (by omega)]; exact hr.1.2.2.1
  · rw [us_ne (by omega)]; exact hr.1.2.2.2
  · rw [us_ne (by omega)]; exact hr.2.1 n hn
  · show _ = ((if w' = w ∧ d = c then v else cN N w' d : Nat) : Int)
    by_cases e : w' = w ∧ d = c
    · rw [if_pos e, e.1, e.2, us_eq]
    · rw [if_neg e, us_ne (by omega)]; exact hr.2.2.1 d w' hd hw'
theorem rr_ri (o : okB N) (hr : rr M N sl) : rr (pm_us M 2 ((riN N : Int) + 1)) (adR N) sl := by
  refine rr_mk o hr rfl ⟨?_, ?_, ?_, ?_⟩ (fun n hn => ?_) (fun d w' hd hw' => ?_) (fun q h1 h2 => us_ne (by omega)) (rrl_ext hr.2.2.2.2 (fun q hq => us_ne (by omega)))
  · rw [us_ne (by omega)]; exact hr.1.1
  · rw [us_ne (by omega)]; exact hr.1.2.1
  · rw [us_eq]; rfl
  · rw [us_ne (by omega)]; exact hr.1.2.2.2
  · rw [us_ne (by omega)]; exact hr.2.1 n hn
  · rw [us_ne (by omega)]; exact hr.2.2.1 d w' hd hw'
theorem rr_lo (o : okB N) (hr : rr M N sl) : rr (pm_us M 3 ((loN N : Int) + 1)) (adL N) sl := by
  refine rr_mk o hr rfl ⟨?_, ?_, ?_, ?_⟩ (fun n hn => ?_) (fun d w' hd hw' => ?_) (fun q h1 h2 => us_ne (by omega)) (rrl_ext hr.2.2.2.2 (fun q hq => us_ne (by omega)))
  · rw [us_ne (by omega)]; exact hr.1.1
  · rw [us_ne (by omega)]; exact hr.1.2.1
  · rw [us_ne (by omega)]; exact hr.1.2.2.1
  · rw [us_eq]; rfl
  · rw [us_ne (by omega)]; exact hr.2.1 n hn
  · rw [us_ne (by omega)]; exact hr.2.2.1 d w' hd hw'
theorem rs_0 {F : pm_H} {g : Nat → Int} (h : rfr b f F) : rs b f A S F (stA A 0 g) S := rs_A h (fun j j0 _ _ => stA_ne A g j0)
theorem sets_r (h : rk f b A S N) (o : okB N) {c w v : Nat} (hc : c < ldN N) (hw : w < 6) (hk : ∀ (f' : pm_H) (A' : Nat → Nat → Int), rk f' b A' S (setC N w c v) → rs b f A S f' A' S → k none f') : pm_ex T_X5_sets [.inr (.inl (some b)), .inl (c : Int), .inl (w : Int), .inl (v : Int)] f k := by
  obtain ⟨h, sl, hr⟩ := h
  have b1 := okl o
  rw [iq_X5_sets]
  set_option maxRecDepth 100000 in simp (maxSteps := 2000000) only [pm_x_run, pm_x_rt, pm_x_rf, pm_z_S, pm_z_D, pm_z_cut0, pm_z_cut1, pm_z_cli, pm_z_clr, pm_z_cln, pm_z_cll, pm_z_up, pm_x_aload0, pm_x_getf, pm_x_gf, pm_x_gv, pm_x_iast, pm_x_iload1, pm_x_iload2, pm_x_iload3, pm_x_is, pm_z_bipush, pm_z_iadd, pm_z_imul, pm_z_vret, zX5_sets_B, zX5_sets_F, zX5_sets_R, zX5_sets_X, fX5_7, dX5_sets_0, dX5_sets_1, dX5_sets_4, dX5_sets_6, dX5_sets_8, dX5_sets_9, dX5_sets_10, dX5_sets_11, dX5_sets_12, dX5_sets_13, dX5_sets_14, dX5_sets_15, Bool.cond_true, Bool.cond_false, Bool.or_false, Bool.false_or, Bool.true_or, Bool.or_true, true_and, and_true, if_true, if_false, List.length_cons, List.length_nil, List.getElem?_cons_zero, List.getElem?_cons_succ, List.set_cons_zero, List.set_cons_succ, Option.toList_some, Option.toList_none, List.cons_append, List.nil_append, beq_self_eq_true, Option.isSome_some, Option.isSome_none, pm_tg_lit, ite_true, ite_false, Nat.reduceAdd, Nat.reduceBEq, Nat.reduceLT, Nat.reduceLeDiff, Nat.reduceEqDiff, Int.reduceAdd, Int.reduceSub, Int.reduceLE, Int.reduceLT, Int.reduceEq, Int.reduceToNat, Int.reduceNeg, Int.cast_ofNat_Int, Int.reduceNatCast, Int.reduceNatCast', Int.zero_add, Int.add_zero, Nat.zero_add, Nat.add_zero, and_self, decide_true, decide_false, true_or, or_true, or_false, false_or, eq_self, Int.toNat_natCast, b2_e0, b2_e1, b2_ok, b2_w, b2_v, b2_tt, b2_ff, Bool.true_eq_false, Bool.false_eq_true, Option.some.injEq, Int.one_mul, Int.mul_one, not_true_eq_false, not_false_eq_true, ite_not, decide_eq_false_iff_not, decide_eq_true_eq, Int.reduceMul, Int.reduceMod, mq0 h, mq1 h, mq2 h, mq3 h, mq4 h, mq5 h, mq6 h, mq7 h, mq8 h, mq9 h, mq10 h, mq11 h, mq12 h, mq13 h, pm_z_rcv1 (mq0 h)]
  rw [show ((20 : Int) + 6 * (c : Int) + (w : Int)).toNat = 20 + 6 * c + w by omega]
  exact ⟨by omega, by omega, by omega, by omega, hk _ _ ⟨rm_arr h (j := 0) (by omega) _ rfl, sl, rr_c o hr hc hw⟩ (rs_0 (rfr_up (by omega) (by omega)))⟩
theorem q_ofR (h : rm_at f b A S) {c : Nat} (w : Nat) (hc : c < 60) (hw : w < 6) : pm_ex T_X5_of [.inr (.inl (some b)), .inl (c : Int), .inl (w : Int)] f k = k (some (.inl (A 0 (20 + 6 * c + w)))) f := by
  rw [iq_X5_of]
  set_option maxRecDepth 100000 in simp (maxSteps := 2000000) only [pm_x_run, pm_x_rt, pm_x_rf, pm_z_S, pm_z_D, pm_z_cut0, pm_z_cut1, pm_z_cli, pm_z_clr, pm_z_cln, pm_z_cll, pm_z_up, pm_x_aload0, pm_x_getf, pm_x_gf, pm_x_gv, pm_x_ia, pm_x_iald, pm_x_iload1, pm_x_iload2, pm_z_bipush, pm_z_iadd, pm_z_imul, zX5_of_B, zX5_of_F, zX5_of_R, zX5_of_X, pm_z_ireti (zX5_of_R), fX5_7, dX5_of_0, dX5_of_1, dX5_of_4, dX5_of_6, dX5_of_8, dX5_of_9, dX5_of_10, dX5_of_11, dX5_of_12, dX5_of_13, dX5_of_14, Bool.cond_true, Bool.cond_false, Bool.or_false, Bool.false_or, Bool.true_or, Bool.or_true, true_and, and_true, if_true, if_false, List.length_cons, List.length_nil, List.getElem?_cons_zero, List.getElem?_cons_succ, List.set_cons_zero, List.set_cons_succ, Option.toList_some, Option.toList_none, List.cons_append, List.nil_append, beq_self_eq_true, Option.isSome_some, Option.isSome_none, pm_tg_lit, ite_true, ite_false, Nat.reduceAdd, Nat.reduceBEq, Nat.reduceLT, Nat.reduceLeDiff, Nat.reduceEqDiff, Int.reduceAdd, Int.reduceSub, Int.reduceLE, Int.reduceLT, Int.reduceEq, Int.reduceToNat, Int.reduceNeg, Int.cast_ofNat_Int, Int.reduceNatCast, Int.reduceNatCast', Int.zero_add, Int.add_zero, Nat.zero_add, Nat.add_zero, and_self, decide_true, decide_false, true_or, or_true, or_false, false_or, eq_self, Int.toNat_natCast, b2_e0, b2_e1, b2_ok, b2_w, b2_v, b2_tt, b2_ff, Bool.true_eq_false, Bool.false_eq_true, Option.some.injEq, Int.one_mul, Int.mul_one, not_true_eq_false, not_false_eq_true, ite_not, decide_eq_false_iff_not, decide_eq_true_eq, Int.reduceMul, Int.reduceMod, mq0 h, mq1 h, mq2 h, mq3 h, mq4 h, mq5 h, mq6 h, mq7 h, mq8 h, mq9 h, mq10 h, mq11 h, mq12 h, mq13 h, pm_z_rcv1 (mq0 h)]
  rw [show ((20 : Int) + 6 * (c : Int) + (w : Int)).toNat = 20 + 6 * c + w by omega]
  exact propext ⟨fun q => (by first | exact q.2.2.2.2.2.2 | exact q.2.2.2.2.2 | exact q.2.2.2.2 | exact q.2.2.2 | exact q.2.2 | exact q.2 | exact q), fun q => (by repeat (first | exact q | refine ⟨by omega, ?_⟩))⟩
theorem q_ofR3 (h : rm_at f b A S) {c : Nat} (hc : c < 60) : pm_ex T_X5_of [.inr (.inl (some b)), .inl (c : Int), .inl 3] f k = k (some (.inl (A 0 (20 + 6 * c + 3)))) f := q_ofR h 3 hc (by omega)
/-- the log's row shifted up to q -/
def shM (M : Nat → Int) (e : Nat) : Nat → Int := fun q => if 4220 ≤ q ∧ q < e then M (q + 3) else M q
theorem shM_s (M : Nat → Int) {e : Nat} (he : 4220 ≤ e) : pm_us (shM M e) e (shM M e (e + 3)) = shM M (e + 1) := by
  funext q
  unfold pm_us shM
  by_cases h : q = e
  · subst h
    rw [if_pos rfl, if_neg (by omega), if_pos (by omega)]
  · rw [if_neg h]
    by_cases h2 : 4220 ≤ q ∧ q < e
    · rw [if_pos h2, if_pos (by omega)]
    · rw [if_neg h2, if_neg (by omega)]
/-- a row of the log put at its place -/
theorem rr_row (o : okB N) (hr : rr M N sl) {c w n : Nat} {M1 M' : Nat → Int} (hn : n < 40) (hl : lgN (lgA N c w) = (lgN (lgA N c w)).take n ++ [((c : Int), (w : Int), (cN N 3 c : Int))]) (hln : (lgN (lgA N c w)).length = n + 1) (h1 : ∀ q, q < 4220 → M1 q = M q) (h2 : ∀ j, j < n → (lgN (lgA N c w))[j]? = some (M1 (4220 + 3 * j), M1 (4220 + 3 * j + 1), M1 (4220 + 3 * j + 2))) (he : M' = pm_us (pm_us (pm_us (pm_us M1 (4220 + 3 * n) (c : Int)) (4220 + 3 * n + 1) (w : Int)) (4220 + 3 * n + 2) (cN N 3 c : Int)) 4340 ((n : Int) + 1)) : rr M' (lgA N c w) sl := by
  have b1 := okl o
  subst he
  have lo : ∀ q, q < 4220 → pm_us (pm_us (pm_us (pm_us M1 (4220 + 3 * n) (c : Int)) (4220 + 3 * n + 1) (w : Int)) (4220 + 3 * n + 2) (cN N 3 c : Int)) 4340 ((n : Int) + 1) q = M q := fun q hq => by
    rw [us_ne (by omega), us_ne (by omega), us_ne (by omega), us_ne (by omega)]; exact h1 q hq
  refine rr_mk o hr rfl ⟨?_, ?_, ?_, ?_⟩ (fun m hm => ?_) (fun d w' hd hw' => ?_) (fun q _ hq => lo q hq) ⟨?_, fun j hj => ?_⟩
  · rw [lo _ (by omega)]; exact hr.1.1
  · rw [lo _ (by omega)]; exact hr.1.2.1
  · rw [lo _ (by omega)]; exact hr.1.2.2.1
  · rw [lo _ (by omega)]; exact hr.1.2.2.2
  · rw [lo _ (by omega)]; exact hr.2.1 m hm
  · have hd2 : d < ldN N := hd
    rw [lo _ (by omega)]; exact hr.2.2.1 d w' hd hw'
  · rw [us_eq, hln]; rfl
  · rw [hln] at hj
    by_cases e : j < n
    · rw [us_ne (by omega), us_ne (by omega), us_ne (by omega), us_ne (by omega), us_ne (by omega), us_ne (by omega), us_ne (by omega), us_ne (by omega), us_ne (by omega), us_ne (by omega), us_ne (by omega), us_ne (by omega)]
      exact h2 j e
    · obtain rfl : j = n := by omega
      rw [us_ne (by omega), us_ne (by omega), us_ne (by omega), us_eq]
      rw [us_ne (by omega), us_ne (by omega), us_eq]
      rw [us_ne (by omega), us_eq]
      rw [hl, List.getElem?_append_right (by rw [List.length_take, hln]; omega), List.length_take, hln, show j - min j (j + 1) = 0 by omega]
      rfl
set_option maxRecDepth 20000 in
theorem logs_r (h : rk f b A S N) (o : okB N) {c w : Nat} (hc : c < ldN N) (hk : ∀ (f' : pm_H) (A' : Nat → Nat → Int), rk f' b A' S (lgA N c w) → rs b f A S f' A' S → k none f') : pm_ex T_X5_logs [.inr (.inl (some b)), .inl (c : Int), .inl (w : Int)] f k := by
  obtain ⟨h, sl, hr⟩ := h
  have b1 := okl o
  have l40 := o.2.2.2.2.1
  have e40 := hr.2.2.2.2.1
  -- from pc 56 on: n rows stand in M1
  have tail : ∀ (F : pm_H) (M1 : Nat → Int) (n : Nat) (x : Option pm_V), n < 40 → rm_at F b (stA A 0 M1) S → rfr b f F → M1 4340 = (n : Int) → lgN (lgA N c w) = (lgN (lgA N c w)).take n ++ [((c : Int), (w : Int), (cN N 3 c : Int))] → (lgN (lgA N c w)).length = n + 1 → (∀ q, q < 4220 → M1 q = A 0 q) → (∀ j, j < n → (lgN (lgA N c w))[j]? = some (M1 (4220 + 3 * j), M1 (4220 + 3 * j + 1), M1 (4220 + 3 * j + 2))) → pm_W eX5_logs k (fun _ _ => False) 56 [some (.inr (.inl (some (b)))), some (.inl ((c : Int))), some (.inl ((w : Int))), x] [] F := by
    intro F M1 n x hn h1 fr m1 hl hln lo hrow
    have g1 : ∀ g : Nat → Int, rm_at (pm_up F (b + 1) (.inl (4341, g))) b (stA A 0 g) S := fun g => by have := rm_arr h1 (j := 0) (by omega) g rfl; rwa [stA_st] at this
    have e0 : stA A 0 M1 0 = M1 := rfl
    refine pm_go_on [] 80 ?_
    set_option maxRecDepth 100000 in simp (maxSteps := 2000000) only [pm_x_run, pm_x_rt, pm_x_rf, pm_z_S, pm_z_D, pm_z_cut0, pm_z_cut1, pm_z_cli, pm_z_clr, pm_z_cln, pm_z_cll, pm_x_aload0, pm_x_c, pm_x_c2, pm_x_cn0, pm_x_cn1, pm_x_getf, pm_x_gf, pm_x_goto, pm_x_gv, pm_x_ia, pm_x_iald, pm_x_iast, pm_x_icmp_ge, pm_x_icmp_ne, pm_x_iinc3, pm_x_iload1, pm_x_iload2, pm_x_iload3, pm_x_invv, pm_x_is, pm_x_istore3, pm_x_v0, pm_x_v1, pm_x_x2, pm_z_bipush, pm_z_cat0, pm_z_cati, pm_z_catl, pm_z_catr, pm_z_dup2_i, pm_z_dup2_r, pm_z_iadd, pm_z_iconst, pm_z_imul, pm_z_isub, pm_z_pop0, pm_z_pop1, pm_z_sipush, pm_z_vret, zX5_logs_B, zX5_logs_F, zX5_logs_R, zX5_logs_X, zX5_logs_C69, fX5_7, dX5_logs_0, dX5_logs_1, dX5_logs_4, dX5_logs_7, dX5_logs_8, dX5_logs_10, dX5_logs_13, dX5_logs_16, dX5_logs_17, dX5_logs_18, dX5_logs_21, dX5_logs_24, dX5_logs_25, dX5_logs_28, dX5_logs_29, dX5_logs_30, dX5_logs_33, dX5_logs_34, dX5_logs_35, dX5_logs_36, dX5_logs_37, dX5_logs_38, dX5_logs_41, dX5_logs_44, dX5_logs_45, dX5_logs_48, dX5_logs_51, dX5_logs_52, dX5_logs_53, dX5_logs_54, dX5_logs_55, dX5_logs_56, dX5_logs_59, dX5_logs_60, dX5_logs_61, dX5_logs_64, dX5_logs_67, dX5_logs_68, dX5_logs_69, dX5_logs_70, dX5_logs_71, dX5_logs_72, dX5_logs_75, dX5_logs_76, dX5_logs_77, dX5_logs_78, dX5_logs_79, dX5_logs_82, dX5_logs_83, dX5_logs_84, dX5_logs_85, dX5_logs_86, dX5_logs_87, dX5_logs_88, dX5_logs_91, dX5_logs_92, dX5_logs_93, dX5_logs_94, dX5_logs_95, dX5_logs_96, dX5_logs_97, dX5_logs_100, dX5_logs_101, dX5_logs_102, dX5_logs_105, dX5_logs_108, dX5_logs_109, dX5_logs_110, dX5_logs_111, dX5_logs_112, dX5_logs_113, Bool.cond_true, Bool.cond_false, Bool.or_false, Bool.false_or, Bool.true_or, Bool.or_true, true_and, and_true, if_true, if_false, List.length_cons, List.length_nil, List.getElem?_cons_zero, List.getElem?_cons_succ, List.set_cons_zero, List.set_cons_succ, Option.toList_some, Option.toList_none, List.cons_append, List.nil_append, beq_self_eq_true, Option.isSome_some, Option.isSome_none, pm_tg_lit, ite_true, ite_false, Nat.reduceAdd, Nat.reduceBEq, Nat.reduceLT, Nat.reduceLeDiff, Nat.reduceEqDiff, Int.reduceAdd, Int.reduceSub, Int.reduceLE, Int.reduceLT, Int.reduceEq, Int.reduceToNat, Int.reduceNeg, Int.cast_ofNat_Int, Int.reduceNatCast, Int.reduceNatCast', Int.zero_add, Int.add_zero, Nat.zero_add, Nat.add_zero, and_self, decide_true, decide_false, true_or, or_true, or_false, false_or, eq_self, Int.toNat_natCast, b2_e0, b2_e1, b2_ok, b2_w, b2_v, b2_tt, b2_ff, Bool.true_eq_false, Bool.false_eq_true, Option.some.injEq, Int.one_mul, Int.mul_one, not_true_eq_false, not_false_eq_true, ite_not, decide_eq_false_iff_not, decide_eq_true_eq, Int.reduceMul, Int.reduceMod, pm_rcvu, pm_rcve, ne_eq, pm_upi, Nat.left_eq_add, Nat.add_eq_left, Nat.succ_ne_self, reduceCtorEq, Nat.add_left_cancel_iff, Nat.one_ne_zero, mq0 h1, mq1 h1, mq2 h1, mq3 h1, mq4 h1, mq5 h1, mq6 h1, mq7 h1, mq8 h1, mq9 h1, mq10 h1, mq11 h1, mq12 h1, mq13 h1, pm_z_rcv1 (mq0 h1), e0, m1, up_up]
    refine ⟨by omega, by omega, by omega, by omega, by omega, ?_⟩
    rw [show ((4220 : Int) + 3 * (n : Int)).toNat = 4220 + 3 * n by omega, show ((4220 : Int) + 3 * (n : Int) + 1).toNat = 4220 + 3 * n + 1 by omega]
    refine ⟨by omega, ?_⟩
    rw [q_ofR3 (g1 _) (by omega)]
    have ev : stA A 0 (pm_us (pm_us M1 (4220 + 3 * n) (c : Int)) (4220 + 3 * n + 1) (w : Int)) 0 (20 + 6 * c + 3) = (cN N 3 c : Int) := by
      show pm_us (pm_us M1 (4220 + 3 * n) (c : Int)) (4220 + 3 * n + 1) (w : Int) (20 + 6 * c + 3) = _
      rw [us_ne (by omega), us_ne (by omega), lo _ (by omega)]
      exact hr.2.2.1 c 3 hc (by omega)
    rw [ev]
    set_option maxRecDepth 100000 in simp (maxSteps := 2000000) only [pm_x_run, pm_x_rt, pm_x_rf, pm_z_S, pm_z_D, pm_z_cut0, pm_z_cut1, pm_z_cli, pm_z_clr, pm_z_cln, pm_z_cll, pm_x_aload0, pm_x_c, pm_x_c2, pm_x_cn0, pm_x_cn1, pm_x_getf, pm_x_gf, pm_x_goto, pm_x_gv, pm_x_ia, pm_x_iald, pm_x_iast, pm_x_icmp_ge, pm_x_icmp_ne, pm_x_iinc3, pm_x_iload1, pm_x_iload2, pm_x_iload3, pm_x_invv, pm_x_is, pm_x_istore3, pm_x_v0, pm_x_v1, pm_x_x2, pm_z_bipush, pm_z_cat0, pm_z_cati, pm_z_catl, pm_z_catr, pm_z_dup2_i, pm_z_dup2_r, pm_z_iadd, pm_z_iconst, pm_z_imul, pm_z_isub, pm_z_pop0, pm_z_pop1, pm_z_sipush, pm_z_vret, zX5_logs_B, zX5_logs_F, zX5_logs_R, zX5_logs_X, zX5_logs_C69, fX5_7, dX5_logs_0, dX5_logs_1, dX5_logs_4, dX5_logs_7, dX5_logs_8, dX5_logs_10, dX5_logs_13, dX5_logs_16, dX5_logs_17, dX5_logs_18, dX5_logs_21, dX5_logs_24, dX5_logs_25, dX5_logs_28, dX5_logs_29, dX5_logs_30, dX5_logs_33, dX5_logs_34, dX5_logs_35, dX5_logs_36, dX5_logs_37, dX5_logs_38, dX5_logs_41, dX5_logs_44, dX5_logs_45, dX5_logs_48, dX5_logs_51, dX5_logs_52, dX5_logs_53, dX5_logs_54, dX5_logs_55, dX5_logs_56, dX5_logs_59, dX5_logs_60, dX5_logs_61, dX5_logs_64, dX5_logs_67, dX5_logs_68, dX5_logs_69, dX5_logs_70, dX5_logs_71, dX5_logs_72, dX5_logs_75, dX5_logs_76, dX5_logs_77, dX5_logs_78, dX5_logs_79, dX5_logs_82, dX5_logs_83, dX5_logs_84, dX5_logs_85, dX5_logs_86, dX5_logs_87, dX5_logs_88, dX5_logs_91, dX5_logs_92, dX5_logs_93, dX5_logs_94, dX5_logs_95, dX5_logs_96, dX5_logs_97, dX5_logs_100, dX5_logs_101, dX5_logs_102, dX5_logs_105, dX5_logs_108, dX5_logs_109, dX5_logs_110, dX5_logs_111, dX5_logs_112, dX5_logs_113, Bool.cond_true, Bool.cond_false, Bool.or_false, Bool.false_or, Bool.true_or, Bool.or_true, true_and, and_true, if_true, if_false, List.length_cons, List.length_nil, List.getElem?_cons_zero, List.getElem?_cons_succ, List.set_cons_zero, List.set_cons_succ, Option.toList_some, Option.toList_none, List.cons_append, List.nil_append, beq_self_eq_true, Option.isSome_some, Option.isSome_none, pm_tg_lit, ite_true, ite_false, Nat.reduceAdd, Nat.reduceBEq, Nat.reduceLT, Nat.reduceLeDiff, Nat.reduceEqDiff, Int.reduceAdd, Int.reduceSub, Int.reduceLE, Int.reduceLT, Int.reduceEq, Int.reduceToNat, Int.reduceNeg, Int.cast_ofNat_Int, Int.reduceNatCast, Int.reduceNatCast', Int.zero_add, Int.add_zero, Nat.zero_add, Nat.add_zero, and_self, decide_true, decide_false, true_or, or_true, or_false, false_or, eq_self, Int.toNat_natCast, b2_e0, b2_e1, b2_ok, b2_w, b2_v, b2_tt, b2_ff, Bool.true_eq_false, Bool.false_eq_true, Option.some.injEq, Int.one_mul, Int.mul_one, not_true_eq_false, not_false_eq_true, ite_not, decide_eq_false_iff_not, decide_eq_true_eq, Int.reduceMul, Int.reduceMod, pm_rcvu, pm_rcve, ne_eq, pm_upi, Nat.left_eq_add, Nat.add_eq_left, Nat.succ_ne_self, reduceCtorEq, Nat.add_left_cancel_iff, Nat.one_ne_zero, mq0 h1, mq1 h1, mq2 h1, mq3 h1, mq4 h1, mq5 h1, mq6 h1, mq7 h1, mq8 h1, mq9 h1, mq10 h1, mq11 h1, mq12 h1, mq13 h1, pm_z_rcv1 (mq0 h1), e0, up_up]
    rw [show ((4220 : Int) + 3 * (n : Int) + 2).toNat = 4220 + 3 * n + 2 by omega]
    have ev2 : pm_us (pm_us (pm_us M1 (4220 + 3 * n) (c : Int)) (4220 + 3 * n + 1) (w : Int)) (4220 + 3 * n + 2) (cN N 3 c : Int) 4340 = (n : Int) := by rw [us_ne (by omega), us_ne (by omega), us_ne (by omega)]; exact m1
    rw [ev2]
    exact ⟨by omega, by omega, hk _ _ ⟨g1 _, sl, rr_row o hr hn hl hln lo hrow rfl⟩ (rs_0 (rfr_tr fr (rfr_up (by omega) (by omega))))⟩
  refine in_X5_logs ?_
  by_cases hlt : (lgN N).length < 40
  · have el : lgN (lgA N c w) = lgN N ++ [((c : Int), (w : Int), (cN N 3 c : Int))] := by
      show lgput (lgN N) _ = _
      unfold lgput
      rw [if_pos hlt]
    refine pm_go_on [17, 56] 60 ?_
    set_option maxRecDepth 100000 in simp (maxSteps := 2000000) only [pm_x_run, pm_x_rt, pm_x_rf, pm_z_S, pm_z_D, pm_z_cut0, pm_z_cut1, pm_z_cli, pm_z_clr, pm_z_cln, pm_z_cll, pm_z_up, pm_x_aload0, pm_x_c, pm_x_c2, pm_x_cn0, pm_x_cn1, pm_x_getf, pm_x_gf, pm_x_goto, pm_x_gv, pm_x_ia, pm_x_iald, pm_x_iast, pm_x_icmp_ge, pm_x_icmp_ne, pm_x_iinc3, pm_x_iload1, pm_x_iload2, pm_x_iload3, pm_x_invv, pm_x_is, pm_x_istore3, pm_x_v0, pm_x_v1, pm_x_x2, pm_z_bipush, pm_z_cat0, pm_z_cati, pm_z_catl, pm_z_catr, pm_z_dup2_i, pm_z_dup2_r, pm_z_iadd, pm_z_iconst, pm_z_imul, pm_z_isub, pm_z_pop0, pm_z_pop1, pm_z_sipush, pm_z_vret, zX5_logs_B, zX5_logs_F, zX5_logs_R, zX5_logs_X, zX5_logs_C69, fX5_7, dX5_logs_0, dX5_logs_1, dX5_logs_4, dX5_logs_7, dX5_logs_8, dX5_logs_10, dX5_logs_13, dX5_logs_16, dX5_logs_17, dX5_logs_18, dX5_logs_21, dX5_logs_24, dX5_logs_25, dX5_logs_28, dX5_logs_29, dX5_logs_30, dX5_logs_33, dX5_logs_34, dX5_logs_35, dX5_logs_36, dX5_logs_37, dX5_logs_38, dX5_logs_41, dX5_logs_44, dX5_logs_45, dX5_logs_48, dX5_logs_51, dX5_logs_52, dX5_logs_53, dX5_logs_54, dX5_logs_55, dX5_logs_56, dX5_logs_59, dX5_logs_60, dX5_logs_61, dX5_logs_64, dX5_logs_67, dX5_logs_68, dX5_logs_69, dX5_logs_70, dX5_logs_71, dX5_logs_72, dX5_logs_75, dX5_logs_76, dX5_logs_77, dX5_logs_78, dX5_logs_79, dX5_logs_82, dX5_logs_83, dX5_logs_84, dX5_logs_85, dX5_logs_86, dX5_logs_87, dX5_logs_88, dX5_logs_91, dX5_logs_92, dX5_logs_93, dX5_logs_94, dX5_logs_95, dX5_logs_96, dX5_logs_97, dX5_logs_100, dX5_logs_101, dX5_logs_102, dX5_logs_105, dX5_logs_108, dX5_logs_109, dX5_logs_110, dX5_logs_111, dX5_logs_112, dX5_logs_113, Bool.cond_true, Bool.cond_false, Bool.or_false, Bool.false_or, Bool.true_or, Bool.or_true, true_and, and_true, if_true, if_false, List.length_cons, List.length_nil, List.getElem?_cons_zero, List.getElem?_cons_succ, List.set_cons_zero, List.set_cons_succ, Option.toList_some, Option.toList_none, List.cons_append, List.nil_append, beq_self_eq_true, Option.isSome_some, Option.isSome_none, pm_tg_lit, ite_true, ite_false, Nat.reduceAdd, Nat.reduceBEq, Nat.reduceLT, Nat.reduceLeDiff, Nat.reduceEqDiff, Int.reduceAdd, Int.reduceSub, Int.reduceLE, Int.reduceLT, Int.reduceEq, Int.reduceToNat, Int.reduceNeg, Int.cast_ofNat_Int, Int.reduceNatCast, Int.reduceNatCast', Int.zero_add, Int.add_zero, Nat.zero_add, Nat.add_zero, and_self, decide_true, decide_false, true_or, or_true, or_false, false_or, eq_self, Int.toNat_natCast, b2_e0, b2_e1, b2_ok, b2_w, b2_v, b2_tt, b2_ff, Bool.true_eq_false, Bool.false_eq_true, Option.some.injEq, Int.one_mul, Int.mul_one, not_true_eq_false, not_false_eq_true, ite_not, decide_eq_false_iff_not, decide_eq_true_eq, Int.reduceMul, Int.reduceMod, mq0 h, mq1 h, mq2 h, mq3 h, mq4 h, mq5 h, mq6 h, mq7 h, mq8 h, mq9 h, mq10 h, mq11 h, mq12 h, mq13 h, pm_z_rcv1 (mq0 h), e40]
    rw [if_neg (by omega)]
    refine tail f (A 0) (lgN N).length none hlt (by rw [stA_same]; exact h) rfr_rf e40 (by rw [el]; simp) (by rw [el]; simp) (fun _ _ => rfl) (fun j hj => ?_)
    rw [el, List.getElem?_append_left hj]
    exact hr.2.2.2.2.2 j hj
  · have e4 : (lgN N).length = 40 := by omega
    have el : lgN (lgA N c w) = (lgN N).drop 1 ++ [((c : Int), (w : Int), (cN N 3 c : Int))] := by
      show lgput (lgN N) _ = _
      unfold lgput
      rw [if_neg hlt]
    rw [e4] at e40
    refine pm_go_on [17, 56] 60 ?_
    set_option maxRecDepth 100000 in simp (maxSteps := 2000000) only [pm_x_run, pm_x_rt, pm_x_rf, pm_z_S, pm_z_D, pm_z_cut0, pm_z_cut1, pm_z_cli, pm_z_clr, pm_z_cln, pm_z_cll, pm_z_up, pm_x_aload0, pm_x_c, pm_x_c2, pm_x_cn0, pm_x_cn1, pm_x_getf, pm_x_gf, pm_x_goto, pm_x_gv, pm_x_ia, pm_x_iald, pm_x_iast, pm_x_icmp_ge, pm_x_icmp_ne, pm_x_iinc3, pm_x_iload1, pm_x_iload2, pm_x_iload3, pm_x_invv, pm_x_is, pm_x_istore3, pm_x_v0, pm_x_v1, pm_x_x2, pm_z_bipush, pm_z_cat0, pm_z_cati, pm_z_catl, pm_z_catr, pm_z_dup2_i, pm_z_dup2_r, pm_z_iadd, pm_z_iconst, pm_z_imul, pm_z_isub, pm_z_pop0, pm_z_pop1, pm_z_sipush, pm_z_vret, zX5_logs_B, zX5_logs_F, zX5_logs_R, zX5_logs_X, zX5_logs_C69, fX5_7, dX5_logs_0, dX5_logs_1, dX5_logs_4, dX5_logs_7, dX5_logs_8, dX5_logs_10, dX5_logs_13, dX5_logs_16, dX5_logs_17, dX5_logs_18, dX5_logs_21, dX5_logs_24, dX5_logs_25, dX5_logs_28, dX5_logs_29, dX5_logs_30, dX5_logs_33, dX5_logs_34, dX5_logs_35, dX5_logs_36, dX5_logs_37, dX5_logs_38, dX5_logs_41, dX5_logs_44, dX5_logs_45, dX5_logs_48, dX5_logs_51, dX5_logs_52, dX5_logs_53, dX5_logs_54, dX5_logs_55, dX5_logs_56, dX5_logs_59, dX5_logs_60, dX5_logs_61, dX5_logs_64, dX5_logs_67, dX5_logs_68, dX5_logs_69, dX5_logs_70, dX5_logs_71, dX5_logs_72, dX5_logs_75, dX5_logs_76, dX5_logs_77, dX5_logs_78, dX5_logs_79, dX5_logs_82, dX5_logs_83, dX5_logs_84, dX5_logs_85, dX5_logs_86, dX5_logs_87, dX5_logs_88, dX5_logs_91, dX5_logs_92, dX5_logs_93, dX5_logs_94, dX5_logs_95, dX5_logs_96, dX5_logs_97, dX5_logs_100, dX5_logs_101, dX5_logs_102, dX5_logs_105, dX5_logs_108, dX5_logs_109, dX5_logs_110, dX5_logs_111, dX5_logs_112, dX5_logs_113, Bool.cond_true, Bool.cond_false, Bool.or_false, Bool.false_or, Bool.true_or, Bool.or_true, true_and, and_true, if_true, if_false, List.length_cons, List.length_nil, List.getElem?_cons_zero, List.getElem?_cons_succ, List.set_cons_zero, List.set_cons_succ, Option.toList_some, Option.toList_none, List.cons_append, List.nil_append, beq_self_eq_true, Option.isSome_some, Option.isSome_none, pm_tg_lit, ite_true, ite_false, Nat.reduceAdd, Nat.reduceBEq, Nat.reduceLT, Nat.reduceLeDiff, Nat.reduceEqDiff, Int.reduceAdd, Int.reduceSub, Int.reduceLE, Int.reduceLT, Int.reduceEq, Int.reduceToNat, Int.reduceNeg, Int.cast_ofNat_Int, Int.reduceNatCast, Int.reduceNatCast', Int.zero_add, Int.add_zero, Nat.zero_add, Nat.add_zero, and_self, decide_true, decide_false, true_or, or_true, or_false, false_or, eq_self, Int.toNat_natCast, b2_e0, b2_e1, b2_ok, b2_w, b2_v, b2_tt, b2_ff, Bool.true_eq_false, Bool.false_eq_true, Option.some.injEq, Int.one_mul, Int.mul_one, not_true_eq_false, not_false_eq_true, ite_not, decide_eq_false_iff_not, decide_eq_true_eq, Int.reduceMul, Int.reduceMod, mq0 h, mq1 h, mq2 h, mq3 h, mq4 h, mq5 h, mq6 h, mq7 h, mq8 h, mq9 h, mq10 h, mq11 h, mq12 h, mq13 h, pm_z_rcv1 (mq0 h), e40]
    refine pm_for 117 (fun m lv f' => lv = [some (.inr (.inl (some (b)))), some (.inl ((c : Int))), some (.inl ((w : Int))), some (.inl (((4220 + m : Nat) : Int)))] ∧ rm_at f' b (stA A 0 (shM (A 0) (4220 + m))) S ∧ rfr b f f') (fun m lv f' hm hJ ih => ?_) (fun lv f' hJ => ?_) 0 _ _ (Nat.zero_le _) ⟨rfl, ?_, rfr_rf⟩
    · obtain ⟨rfl, h', fr⟩ := hJ
      have e0 : stA A 0 (shM (A 0) (4220 + m)) 0 = shM (A 0) (4220 + m) := rfl
      refine pm_go_on [17, 56] 60 ?_
      set_option maxRecDepth 100000 in simp (maxSteps := 2000000) only [pm_x_run, pm_x_rt, pm_x_rf, pm_z_S, pm_z_D, pm_z_cut0, pm_z_cut1, pm_z_cli, pm_z_clr, pm_z_cln, pm_z_cll, pm_z_up, pm_x_aload0, pm_x_c, pm_x_c2, pm_x_cn0, pm_x_cn1, pm_x_getf, pm_x_gf, pm_x_goto, pm_x_gv, pm_x_ia, pm_x_iald, pm_x_iast, pm_x_icmp_ge, pm_x_icmp_ne, pm_x_iinc3, pm_x_iload1, pm_x_iload2, pm_x_iload3, pm_x_invv, pm_x_is, pm_x_istore3, pm_x_v0, pm_x_v1, pm_x_x2, pm_z_bipush, pm_z_cat0, pm_z_cati, pm_z_catl, pm_z_catr, pm_z_dup2_i, pm_z_dup2_r, pm_z_iadd, pm_z_iconst, pm_z_imul, pm_z_isub, pm_z_pop0, pm_z_pop1, pm_z_sipush, pm_z_vret, zX5_logs_B, zX5_logs_F, zX5_logs_R, zX5_logs_X, zX5_logs_C69, fX5_7, dX5_logs_0, dX5_logs_1, dX5_logs_4, dX5_logs_7, dX5_logs_8, dX5_logs_10, dX5_logs_13, dX5_logs_16, dX5_logs_17, dX5_logs_18, dX5_logs_21, dX5_logs_24, dX5_logs_25, dX5_logs_28, dX5_logs_29, dX5_logs_30, dX5_logs_33, dX5_logs_34, dX5_logs_35, dX5_logs_36, dX5_logs_37, dX5_logs_38, dX5_logs_41, dX5_logs_44, dX5_logs_45, dX5_logs_48, dX5_logs_51, dX5_logs_52, dX5_logs_53, dX5_logs_54, dX5_logs_55, dX5_logs_56, dX5_logs_59, dX5_logs_60, dX5_logs_61, dX5_logs_64, dX5_logs_67, dX5_logs_68, dX5_logs_69, dX5_logs_70, dX5_logs_71, dX5_logs_72, dX5_logs_75, dX5_logs_76, dX5_logs_77, dX5_logs_78, dX5_logs_79, dX5_logs_82, dX5_logs_83, dX5_logs_84, dX5_logs_85, dX5_logs_86, dX5_logs_87, dX5_logs_88, dX5_logs_91, dX5_logs_92, dX5_logs_93, dX5_logs_94, dX5_logs_95, dX5_logs_96, dX5_logs_97, dX5_logs_100, dX5_logs_101, dX5_logs_102, dX5_logs_105, dX5_logs_108, dX5_logs_109, dX5_logs_110, dX5_logs_111, dX5_logs_112, dX5_logs_113, Bool.cond_true, Bool.cond_false, Bool.or_false, Bool.false_or, Bool.true_or, Bool.or_true, true_and, and_true, if_true, if_false, List.length_cons, List.length_nil, List.getElem?_cons_zero, List.getElem?_cons_succ, List.set_cons_zero, List.set_cons_succ, Option.toList_some, Option.toList_none, List.cons_append, List.nil_append, beq_self_eq_true, Option.isSome_some, Option.isSome_none, pm_tg_lit, ite_true, ite_false, Nat.reduceAdd, Nat.reduceBEq, Nat.reduceLT, Nat.reduceLeDiff, Nat.reduceEqDiff, Int.reduceAdd, Int.reduceSub, Int.reduceLE, Int.reduceLT, Int.reduceEq, Int.reduceToNat, Int.reduceNeg, Int.cast_ofNat_Int, Int.reduceNatCast, Int.reduceNatCast', Int.zero_add, Int.add_zero, Nat.zero_add, Nat.add_zero, and_self, decide_true, decide_false, true_or, or_true, or_false, false_or, eq_self, Int.toNat_natCast, b2_e0, b2_e1, b2_ok, b2_w, b2_v, b2_tt, b2_ff, Bool.true_eq_false, Bool.false_eq_true, Option.some.injEq, Int.one_mul, Int.mul_one, not_true_eq_false, not_false_eq_true, ite_not, decide_eq_false_iff_not, decide_eq_true_eq, Int.reduceMul, Int.reduceMod, mq0 h', mq1 h', mq2 h', mq3 h', mq4 h', mq5 h', mq6 h', mq7 h', mq8 h', mq9 h', mq10 h', mq11 h', mq12 h', mq13 h', pm_z_rcv1 (mq0 h'), e0]
      rw [if_pos (by omega), show (((4220 + m : Nat) : Int) + 3).toNat = 4220 + m + 3 by omega, shM_s _ (by omega)]
      refine ⟨by omega, by omega, by omega, by omega, ih _ _ ⟨rfl, ?_, rfr_tr fr (rfr_up (by omega) (by omega))⟩⟩
      have h2 := rm_arr h' (j := 0) (by omega) (shM (A 0) (4220 + m + 1)) rfl
      rw [stA_st] at h2
      exact h2
    · obtain ⟨rfl, h', fr⟩ := hJ
      have e0 : stA A 0 (shM (A 0) (4220 + 117)) 0 = shM (A 0) (4220 + 117) := rfl
      have e1 : shM (A 0) (4220 + 117) 4340 = 40 := by unfold shM; rw [if_neg (by omega)]; exact e40
      refine pm_go_on [17, 56] 60 ?_
      set_option maxRecDepth 100000 in simp (maxSteps := 2000000) only [pm_x_run, pm_x_rt, pm_x_rf, pm_z_S, pm_z_D, pm_z_cut0, pm_z_cut1, pm_z_cli, pm_z_clr, pm_z_cln, pm_z_cll, pm_z_up, pm_x_aload0, pm_x_c, pm_x_c2, pm_x_cn0, pm_x_cn1, pm_x_getf, pm_x_gf, pm_x_goto, pm_x_gv, pm_x_ia, pm_x_iald, pm_x_iast, pm_x_icmp_ge, pm_x_icmp_ne, pm_x_iinc3, pm_x_iload1, pm_x_iload2, pm_x_iload3, pm_x_invv, pm_x_is, pm_x_istore3, pm_x_v0, pm_x_v1, pm_x_x2, pm_z_bipush, pm_z_cat0, pm_z_cati, pm_z_catl, pm_z_catr, pm_z_dup2_i, pm_z_dup2_r, pm_z_iadd, pm_z_iconst, pm_z_imul, pm_z_isub, pm_z_pop0, pm_z_pop1, pm_z_sipush, pm_z_vret, zX5_logs_B, zX5_logs_F, zX5_logs_R, zX5_logs_X, zX5_logs_C69, fX5_7, dX5_logs_0, dX5_logs_1, dX5_logs_4, dX5_logs_7, dX5_logs_8, dX5_logs_10, dX5_logs_13, dX5_logs_16, dX5_logs_17, dX5_logs_18, dX5_logs_21, dX5_logs_24, dX5_logs_25, dX5_logs_28, dX5_logs_29, dX5_logs_30, dX5_logs_33, dX5_logs_34, dX5_logs_35, dX5_logs_36, dX5_logs_37, dX5_logs_38, dX5_logs_41, dX5_logs_44, dX5_logs_45, dX5_logs_48, dX5_logs_51, dX5_logs_52, dX5_logs_53, dX5_logs_54, dX5_logs_55, dX5_logs_56, dX5_logs_59, dX5_logs_60, dX5_logs_61, dX5_logs_64, dX5_logs_67, dX5_logs_68, dX5_logs_69, dX5_logs_70, dX5_logs_71, dX5_logs_72, dX5_logs_75, dX5_logs_76, dX5_logs_77, dX5_logs_78, dX5_logs_79, dX5_logs_82, dX5_logs_83, dX5_logs_84, dX5_logs_85, dX5_logs_86, dX5_logs_87, dX5_logs_88, dX5_logs_91, dX5_logs_92, dX5_logs_93, dX5_logs_94, dX5_logs_95, dX5_logs_96, dX5_logs_97, dX5_logs_100, dX5_logs_101, dX5_logs_102, dX5_logs_105, dX5_logs_108, dX5_logs_109, dX5_logs_110, dX5_logs_111, dX5_logs_112, dX5_logs_113, Bool.cond_true, Bool.cond_false, Bool.or_false, Bool.false_or, Bool.true_or, Bool.or_true, true_and, and_true, if_true, if_false, List.length_cons, List.length_nil, List.getElem?_cons_zero, List.getElem?_cons_succ, List.set_cons_zero, List.set_cons_succ, Option.toList_some, Option.toList_none, List.cons_append, List.nil_append, beq_self_eq_true, Option.isSome_some, Option.isSome_none, pm_tg_lit, ite_true, ite_false, Nat.reduceAdd, Nat.reduceBEq, Nat.reduceLT, Nat.reduceLeDiff, Nat.reduceEqDiff, Int.reduceAdd, Int.reduceSub, Int.reduceLE, Int.reduceLT, Int.reduceEq, Int.reduceToNat, Int.reduceNeg, Int.cast_ofNat_Int, Int.reduceNatCast, Int.reduceNatCast', Int.zero_add, Int.add_zero, Nat.zero_add, Nat.add_zero, and_self, decide_true, decide_false, true_or, or_true, or_false, false_or, eq_self, Int.toNat_natCast, b2_e0, b2_e1, b2_ok, b2_w, b2_v, b2_tt, b2_ff, Bool.true_eq_false, Bool.false_eq_true, Option.some.injEq, Int.one_mul, Int.mul_one, not_true_eq_false, not_false_eq_true, ite_not, decide_eq_false_iff_not, decide_eq_true_eq, Int.reduceMul, Int.reduceMod, mq0 h', mq1 h', mq2 h', mq3 h', mq4 h', mq5 h', mq6 h', mq7 h', mq8 h', mq9 h', mq10 h', mq11 h', mq12 h', mq13 h', pm_z_rcv1 (mq0 h'), e0, e1]
      have h2 := rm_arr h' (j := 0) (by omega) (pm_us (shM (A 0) (4220 + 117)) 4340 39) rfl
      rw [stA_st] at h2
      have ed : ((lgN N).drop 1).length = 39 := by rw [List.length_drop, e4]
      refine tail _ (pm_us (shM (A 0) (4220 + 117)) 4340 39) 39 _ (by omega) h2 (rfr_tr fr (rfr_up (by omega) (by omega))) us_eq (by rw [el, List.take_append_of_le_length (by omega), List.take_of_length_le (by omega)]) (by rw [el, List.length_append, ed]; rfl) (fun q hq => ?_) (fun j hj => ?_)
      · rw [us_ne (by omega)]
        unfold shM
        rw [if_neg (by omega)]
      · rw [el, List.getElem?_append_left (by omega), List.getElem?_drop, us_ne (by omega), us_ne (by omega), us_ne (by omega)]
        unfold shM
        rw [if_pos (by omega), if_pos (by omega), if_pos (by omega), hr.2.2.2.2.2 (1 + j) (by omega)]
        rw [show 4220 + 3 * (1 + j) = 4220 + 3 * j + 3 by omega, show 4220 + 3 * j + 3 + 1 = 4220 + 3 * j + 1 + 3 by omega, show 4220 + 3 * j + 3 + 2 = 4220 + 3 * j + 2 + 3 by omega]
    · have : shM (A 0) (4220 + 0) = A 0 := by
        funext q
        unfold shM
        rw [if_neg (by omega)]
      rw [this, stA_same]
      exact h
theorem rr_nm (o : okB N) (hr : rr M N sl) {g : Nat → Nat} {M' : Nat → Int} (h1 : ∀ q, (q < 4 ∨ 20 ≤ q) → M' q = M q) (h2 : ∀ n, n < 16 → M' (4 + n) = (g n : Int)) : rr M' (setNm N g) sl := by
  refine rr_mk o hr rfl ⟨?_, ?_, ?_, ?_⟩ h2 (fun d w' hd hw' => ?_) (fun q a1 a2 => h1 q (by omega)) (rrl_ext hr.2.2.2.2 (fun q hq => h1 q (by omega)))
  · rw [h1 _ (by omega)]; exact hr.1.1
  · rw [h1 _ (by omega)]; exact hr.1.2.1
  · rw [h1 _ (by omega)]; exact hr.1.2.2.1
  · rw [h1 _ (by omega)]; exact hr.1.2.2.2
  · rw [h1 _ (by omega)]; exact hr.2.2.1 d w' hd hw'
theorem names_r (h : rk f b A S N) (o : okB N) {X z : Nat} (hX : X < 2 ^ 31) (hk : ∀ (f' : pm_H) (A' : Nat → Nat → Int), rk f' b A' S (setNm N (fun n => if n < nN N ∧ X.testBit n = true then z else nmN N n)) → rs b f A S f' A' S → k none f') : pm_ex T_X5_names [.inr (.inl (some b)), .inl (X : Int), .inl (z : Int)] f k := by
  obtain ⟨h, sl, hr⟩ := h
  have b0 := okn o
  refine in_X5_names ?_
  refine pm_go_on [2] 60 ?_
  set_option maxRecDepth 100000 in simp (maxSteps := 2000000) only [pm_x_run, pm_x_rt, pm_x_rf, pm_z_S, pm_z_D, pm_z_cut0, pm_z_cut1, pm_z_cli, pm_z_clr, pm_z_cln, pm_z_cll, pm_z_up, pm_x_aload0, pm_x_c, pm_x_c2, pm_x_cn0, pm_x_cn1, pm_x_getf, pm_x_gf, pm_x_goto, pm_x_gv, pm_x_ia, pm_x_iald, pm_x_iast, pm_x_icmp_ge, pm_x_if_eq, pm_x_iinc3, pm_x_iload1, pm_x_iload2, pm_x_iload3, pm_x_invs, pm_x_is, pm_x_istore3, pm_z_cat0, pm_z_cati, pm_z_catl, pm_z_catr, pm_z_iadd, pm_z_iconst, pm_z_pop0, pm_z_pop1, pm_z_rcv0, pm_z_vret, zX5_names_B, zX5_names_F, zX5_names_R, zX5_names_X, zX5_names_C101, fX5_7, dX5_names_0, dX5_names_1, dX5_names_2, dX5_names_3, dX5_names_4, dX5_names_7, dX5_names_8, dX5_names_9, dX5_names_12, dX5_names_13, dX5_names_14, dX5_names_17, dX5_names_20, dX5_names_21, dX5_names_24, dX5_names_25, dX5_names_26, dX5_names_27, dX5_names_28, dX5_names_29, dX5_names_32, dX5_names_35, Bool.cond_true, Bool.cond_false, Bool.or_false, Bool.false_or, Bool.true_or, Bool.or_true, true_and, and_true, if_true, if_false, List.length_cons, List.length_nil, List.getElem?_cons_zero, List.getElem?_cons_succ, List.set_cons_zero, List.set_cons_succ, Option.toList_some, Option.toList_none, List.cons_append, List.nil_append, beq_self_eq_true, Option.isSome_some, Option.isSome_none, pm_tg_lit, ite_true, ite_false, Nat.reduceAdd, Nat.reduceBEq, Nat.reduceLT, Nat.reduceLeDiff, Nat.reduceEqDiff, Int.reduceAdd, Int.reduceSub, Int.reduceLE, Int.reduceLT, Int.reduceEq, Int.reduceToNat, Int.reduceNeg, Int.cast_ofNat_Int, Int.reduceNatCast, Int.reduceNatCast', Int.zero_add, Int.add_zero, Nat.zero_add, Nat.add_zero, and_self, decide_true, decide_false, true_or, or_true, or_false, false_or, eq_self, Int.toNat_natCast, b2_e0, b2_e1, b2_ok, b2_w, b2_v, b2_tt, b2_ff, Bool.true_eq_false, Bool.false_eq_true, Option.some.injEq, Int.one_mul, Int.mul_one, not_true_eq_false, not_false_eq_true, ite_not, decide_eq_false_iff_not, decide_eq_true_eq, Int.reduceMul, Int.reduceMod, mq0 h, mq1 h, mq2 h, mq3 h, mq4 h, mq5 h, mq6 h, mq7 h, mq8 h, mq9 h, mq10 h, mq11 h, mq12 h, mq13 h, pm_z_rcv1 (mq0 h)]
  refine pm_for (nN N) (fun m lv f' => lv = [some (.inr (.inl (some (b)))), some (.inl ((X : Int))), some (.inl ((z : Int))), some (.inl ((m : Int)))] ∧ ∃ M' : Nat → Int, rm_at f' b (stA A 0 M') S ∧ rfr b f f' ∧ ∀ q, M' q = if 4 ≤ q ∧ q < 4 + m ∧ X.testBit (q - 4) = true then (z : Int) else A 0 q) (fun m lv f' hm hJ ih => ?_) (fun lv f' hJ => ?_) 0 _ _ (Nat.zero_le _) ⟨rfl, A 0, by rw [stA_same]; exact h, rfr_rf, fun q => by rw [if_neg (by omega)]⟩
  · obtain ⟨rfl, M', h', fr, hM⟩ := hJ
    have m0 : stA A 0 M' 0 0 = (nN N : Int) := by show M' 0 = _; rw [hM, if_neg (by omega)]; exact hr.1.1
    refine pm_go_on [2] 60 ?_
    set_option maxRecDepth 100000 in simp (maxSteps := 2000000) only [pm_x_run, pm_x_rt, pm_x_rf, pm_z_S, pm_z_D, pm_z_cut0, pm_z_cut1, pm_z_cli, pm_z_clr, pm_z_cln, pm_z_cll, pm_z_up, pm_x_aload0, pm_x_c, pm_x_c2, pm_x_cn0, pm_x_cn1, pm_x_getf, pm_x_gf, pm_x_goto, pm_x_gv, pm_x_ia, pm_x_iald, pm_x_iast, pm_x_icmp_ge, pm_x_if_eq, pm_x_iinc3, pm_x_iload1, pm_x_iload2, pm_x_iload3, pm_x_invs, pm_x_is, pm_x_istore3, pm_z_cat0, pm_z_cati, pm_z_catl, pm_z_catr, pm_z_iadd, pm_z_iconst, pm_z_pop0, pm_z_pop1, pm_z_rcv0, pm_z_vret, zX5_names_B, zX5_names_F, zX5_names_R, zX5_names_X, zX5_names_C101, fX5_7, dX5_names_0, dX5_names_1, dX5_names_2, dX5_names_3, dX5_names_4, dX5_names_7, dX5_names_8, dX5_names_9, dX5_names_12, dX5_names_13, dX5_names_14, dX5_names_17, dX5_names_20, dX5_names_21, dX5_names_24, dX5_names_25, dX5_names_26, dX5_names_27, dX5_names_28, dX5_names_29, dX5_names_32, dX5_names_35, Bool.cond_true, Bool.cond_false, Bool.or_false, Bool.false_or, Bool.true_or, Bool.or_true, true_and, and_true, if_true, if_false, List.length_cons, List.length_nil, List.getElem?_cons_zero, List.getElem?_cons_succ, List.set_cons_zero, List.set_cons_succ, Option.toList_some, Option.toList_none, List.cons_append, List.nil_append, beq_self_eq_true, Option.isSome_some, Option.isSome_none, pm_tg_lit, ite_true, ite_false, Nat.reduceAdd, Nat.reduceBEq, Nat.reduceLT, Nat.reduceLeDiff, Nat.reduceEqDiff, Int.reduceAdd, Int.reduceSub, Int.reduceLE, Int.reduceLT, Int.reduceEq, Int.reduceToNat, Int.reduceNeg, Int.cast_ofNat_Int, Int.reduceNatCast, Int.reduceNatCast', Int.zero_add, Int.add_zero, Nat.zero_add, Nat.add_zero, and_self, decide_true, decide_false, true_or, or_true, or_false, false_or, eq_self, Int.toNat_natCast, b2_e0, b2_e1, b2_ok, b2_w, b2_v, b2_tt, b2_ff, Bool.true_eq_false, Bool.false_eq_true, Option.some.injEq, Int.one_mul, Int.mul_one, not_true_eq_false, not_false_eq_true, ite_not, decide_eq_false_iff_not, decide_eq_true_eq, Int.reduceMul, Int.reduceMod, mq0 h', mq1 h', mq2 h', mq3 h', mq4 h', mq5 h', mq6 h', mq7 h', mq8 h', mq9 h', mq10 h', mq11 h', mq12 h', mq13 h', pm_z_rcv1 (mq0 h'), m0, q_isOf hX (show m < 31 by omega)]
    rw [if_pos (by omega)]
    cases hb : X.testBit m
    · rw [if_pos rfl]
      refine ⟨by omega, ih _ _ ⟨rfl, M', h', fr, fun q => ?_⟩⟩
      rw [hM q]
      by_cases e : 4 ≤ q ∧ q < 4 + m ∧ X.testBit (q - 4) = true
      · rw [if_pos e, if_pos ⟨e.1, by omega, e.2.2⟩]
      · rw [if_neg e, if_neg]
        rintro ⟨z1, z2, z3⟩
        by_cases e2 : q = 4 + m
        · subst e2
          rw [show 4 + m - 4 = m by omega, hb] at z3
          cases z3
        · exact e ⟨z1, by omega, z3⟩
    · rw [if_neg (by decide)]
      rw [show ((4 : Int) + (m : Int)).toNat = 4 + m by omega]
      refine ⟨by omega, by omega, by omega, ih _ _ ⟨rfl, pm_us M' (4 + m) (z : Int), ?_, rfr_tr fr (rfr_up (by omega) (by omega)), fun q => ?_⟩⟩
      · have h2 := rm_arr h' (j := 0) (by omega) (pm_us M' (4 + m) (z : Int)) rfl
        rw [stA_st] at h2
        exact h2
      · by_cases e2 : q = 4 + m
        · subst e2
          rw [us_eq, if_pos ⟨by omega, by omega, by rw [show 4 + m - 4 = m by omega]; exact hb⟩]
        · rw [us_ne e2, hM q]
          by_cases e : 4 ≤ q ∧ q < 4 + m ∧ X.testBit (q - 4) = true
          · rw [if_pos e, if_pos ⟨e.1, by omega, e.2.2⟩]
          · rw [if_neg e, if_neg (fun w => e ⟨w.1, by omega, w.2.2⟩)]
  · obtain ⟨rfl, M', h', fr, hM⟩ := hJ
    have m0 : stA A 0 M' 0 0 = (nN N : Int) := by show M' 0 = _; rw [hM, if_neg (by omega)]; exact hr.1.1
    refine pm_go_on [2] 60 ?_
    set_option maxRecDepth 100000 in simp (maxSteps := 2000000) only [pm_x_run, pm_x_rt, pm_x_rf, pm_z_S, pm_z_D, pm_z_cut0, pm_z_cut1, pm_z_cli, pm_z_clr, pm_z_cln, pm_z_cll, pm_z_up, pm_x_aload0, pm_x_c, pm_x_c2, pm_x_cn0, pm_x_cn1, pm_x_getf, pm_x_gf, pm_x_goto, pm_x_gv, pm_x_ia, pm_x_iald, pm_x_iast, pm_x_icmp_ge, pm_x_if_eq, pm_x_iinc3, pm_x_iload1, pm_x_iload2, pm_x_iload3, pm_x_invs, pm_x_is, pm_x_istore3, pm_z_cat0, pm_z_cati, pm_z_catl, pm_z_catr, pm_z_iadd, pm_z_iconst, pm_z_pop0, pm_z_pop1, pm_z_rcv0, pm_z_vret, zX5_names_B, zX5_names_F, zX5_names_R, zX5_names_X, zX5_names_C101, fX5_7, dX5_names_0, dX5_names_1, dX5_names_2, dX5_names_3, dX5_names_4, dX5_names_7, dX5_names_8, dX5_names_9, dX5_names_12, dX5_names_13, dX5_names_14, dX5_names_17, dX5_names_20, dX5_names_21, dX5_names_24, dX5_names_25, dX5_names_26, dX5_names_27, dX5_names_28, dX5_names_29, dX5_names_32, dX5_names_35, Bool.cond_true, Bool.cond_false, Bool.or_false, Bool.false_or, Bool.true_or, Bool.or_true, true_and, and_true, if_true, if_false, List.length_cons, List.length_nil, List.getElem?_cons_zero, List.getElem?_cons_succ, List.set_cons_zero, List.set_cons_succ, Option.toList_some, Option.toList_none, List.cons_append, List.nil_append, beq_self_eq_true, Option.isSome_some, Option.isSome_none, pm_tg_lit, ite_true, ite_false, Nat.reduceAdd, Nat.reduceBEq, Nat.reduceLT, Nat.reduceLeDiff, Nat.reduceEqDiff, Int.reduceAdd, Int.reduceSub, Int.reduceLE, Int.reduceLT, Int.reduceEq, Int.reduceToNat, Int.reduceNeg, Int.cast_ofNat_Int, Int.reduceNatCast, Int.reduceNatCast', Int.zero_add, Int.add_zero, Nat.zero_add, Nat.add_zero, and_self, decide_true, decide_false, true_or, or_true, or_false, false_or, eq_self, Int.toNat_natCast, b2_e0, b2_e1, b2_ok, b2_w, b2_v, b2_tt, b2_ff, Bool.true_eq_false, Bool.false_eq_true, Option.some.injEq, Int.one_mul, Int.mul_one, not_true_eq_false, not_false_eq_true, ite_not, decide_eq_false_iff_not, decide_eq_true_eq, Int.reduceMul, Int.reduceMod, mq0 h', mq1 h', mq2 h', mq3 h', mq4 h', mq5 h', mq6 h', mq7 h', mq8 h', mq9 h', mq10 h', mq11 h', mq12 h', mq13 h', pm_z_rcv1 (mq0 h'), m0]
    rw [if_neg (by omega)]
    refine hk f' _ ⟨h', sl, rr_nm o hr (fun q hq => ?_) (fun n hn => ?_)⟩ (rs_0 fr)
    · show M' q = _
      rw [hM, if_neg (by omega)]
    · show M' (4 + n) = _
      rw [hM, show 4 + n - 4 = n by omega]
      by_cases e : n < nN N ∧ X.testBit n = true
      · rw [if_pos ⟨by omega, by omega, e.2⟩, if_pos e]
      · rw [if_neg (fun w => e ⟨by omega, w.2.2⟩), if_neg e]
        exact hr.2.1 n hn
end R3
