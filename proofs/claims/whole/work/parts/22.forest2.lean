theorem up_up (f : pm_H) (b : Nat) (c d : pm_C) : pm_up (pm_up f b c) b d = pm_up f b d := by
  funext q
  unfold pm_up
  split <;> rfl
theorem up_id {f : pm_H} {b : Nat} {c : pm_C} (h : f b = some c) : pm_up f b c = f := by
  funext q
  unfold pm_up
  split
  · rename_i e
    rw [e, h]
  · rfl
theorem up_ne {f : pm_H} {a b : Nat} {c : pm_C} (h : a ≠ b) : pm_up f b c a = f a := by simp [pm_up, h]
theorem up_eq {f : pm_H} {b : Nat} {c : pm_C} : pm_up f b c b = some c := by simp [pm_up]
theorem fo_up {f : pm_H} {a r u b : Nat} {row : Nat → Int} {c : pm_C} (h : fo_at f a r row u) (h1 : a ≠ b) (h2 : r ≠ b) : fo_at (pm_up f b c) a r row u := ⟨by rw [up_ne h1]; exact h.1, by rw [up_ne h2]; exact h.2⟩
theorem cpy_0 (f g : Nat → Int) (a b : Nat) : va_cpy f g a b 0 = g := by
  funext j
  unfold va_cpy
  rw [if_neg (by omega)]
theorem cpy_s (f g : Nat → Int) (a b n : Nat) : va_cpy f (pm_us g b (f a)) (a + 1) (b + 1) n = va_cpy f g a b (n + 1) := by
  funext j
  unfold va_cpy pm_us
  by_cases h1 : j = b
  · subst h1
    rw [if_neg (by omega), if_pos rfl, if_pos (by omega), Nat.sub_self, Nat.add_zero]
  · by_cases h2 : b ≤ j ∧ j < b + (n + 1)
    · rw [if_pos (by omega), if_pos h2]
      congr 1
      omega
    · rw [if_neg (by omega), if_neg h1, if_neg h2]
theorem copyTo_loop {a r u b rm : Nat} {row : Nat → Int} {x y z : Int} {P : pm_P} (hab : a ≠ b) (hrb : r ≠ b) (hu : u ≤ 48) (hrm : rm = 48) : ∀ (n : Nat) (f : pm_H) (g : Nat → Int) (w v : Nat), fo_at f a r row u → f b = some (.inl (rm, g)) → z = ((v + n : Nat) : Int) → v + n ≤ 48 → w + n ≤ 48 → P (some (.inl ((w + n : Nat) : Int))) (pm_up f b (.inl (rm, va_cpy row g v w n))) → pm_W eX0_copyTo P (fun _ _ => False) 6 [some (.inr (.inl (some a))), some (.inr (.inl (some b))), some (.inl x), some (.inl y), some (.inl z), some (.inl (w : Int)), some (.inl (v : Int))] [] f := by
  intro n
  induction n with
  | zero =>
    intro f g w v h hb hz h1 h2 hP
    refine pm_go_on [6] 60 ?_
    set_option maxRecDepth 100000 in simp (maxSteps := 2000000) only [pm_x_run, pm_x_rt, pm_x_rf, pm_z_S, pm_z_D, pm_z_cut0, pm_z_cut1, pm_z_cli, pm_z_clr, pm_z_cln, pm_z_cll, pm_z_up, pm_x_aload0, pm_x_aload1, pm_x_getf, pm_x_gf, pm_x_goto, pm_x_gv, pm_x_ia, pm_x_iald, pm_x_iast, pm_x_icmp_ge, pm_x_iinc5, pm_x_iinc6, pm_x_iload2, pm_x_iload3, pm_x_iload4, pm_x_iload5, pm_x_iload6, pm_x_is, pm_x_istore5, pm_x_istore6, pm_z_bipush, Bool.cond_true, Bool.cond_false, Bool.or_false, Bool.false_or, Bool.true_or, Bool.or_true, true_and, and_true, if_true, if_false, List.length_cons, List.length_nil, List.getElem?_cons_zero, List.getElem?_cons_succ, List.set_cons_zero, List.set_cons_succ, Option.toList_some, Option.toList_none, List.cons_append, List.nil_append, beq_self_eq_true, Option.isSome_some, Option.isSome_none, pm_tg_lit, ite_true, ite_false, Nat.reduceAdd, Nat.reduceBEq, Nat.reduceLT, Nat.reduceLeDiff, Nat.reduceEqDiff, Int.reduceAdd, Int.reduceSub, Int.reduceLE, Int.reduceLT, Int.reduceEq, Int.reduceToNat, Int.reduceNeg, Int.cast_ofNat_Int, Int.reduceNatCast, Int.reduceNatCast', Int.zero_add, Int.add_zero, Nat.zero_add, Nat.add_zero, and_self, decide_true, decide_false, zX0_copyTo_B, zX0_copyTo_F, zX0_copyTo_R, zX0_copyTo_X, pm_z_ireti (zX0_copyTo_R), fX0_11, dX0_copyTo_0, dX0_copyTo_1, dX0_copyTo_3, dX0_copyTo_4, dX0_copyTo_6, dX0_copyTo_8, dX0_copyTo_10, dX0_copyTo_13, dX0_copyTo_15, dX0_copyTo_17, dX0_copyTo_20, dX0_copyTo_21, dX0_copyTo_23, dX0_copyTo_24, dX0_copyTo_27, dX0_copyTo_29, dX0_copyTo_30, dX0_copyTo_31, dX0_copyTo_34, dX0_copyTo_37, dX0_copyTo_40, dX0_copyTo_42, h.1, h.2, hb]
    rw [if_neg (by omega)]
    rw [cpy_0, up_id hb] at hP
    exact hP
  | succ n ih =>
    intro f g w v h hb hz h1 h2 hP
    refine pm_go_on [6] 60 ?_
    set_option maxRecDepth 100000 in simp (maxSteps := 2000000) only [pm_x_run, pm_x_rt, pm_x_rf, pm_z_S, pm_z_D, pm_z_cut0, pm_z_cut1, pm_z_cli, pm_z_clr, pm_z_cln, pm_z_cll, pm_z_up, pm_x_aload0, pm_x_aload1, pm_x_getf, pm_x_gf, pm_x_goto, pm_x_gv, pm_x_ia, pm_x_iald, pm_x_iast, pm_x_icmp_ge, pm_x_iinc5, pm_x_iinc6, pm_x_iload2, pm_x_iload3, pm_x_iload4, pm_x_iload5, pm_x_iload6, pm_x_is, pm_x_istore5, pm_x_istore6, pm_z_bipush, Bool.cond_true, Bool.cond_false, Bool.or_false, Bool.false_or, Bool.true_or, Bool.or_true, true_and, and_true, if_true, if_false, List.length_cons, List.length_nil, List.getElem?_cons_zero, List.getElem?_cons_succ, List.set_cons_zero, List.set_cons_succ, Option.toList_some, Option.toList_none, List.cons_append, List.nil_append, beq_self_eq_true, Option.isSome_some, Option.isSome_none, pm_tg_lit, ite_true, ite_false, Nat.reduceAdd, Nat.reduceBEq, Nat.reduceLT, Nat.reduceLeDiff, Nat.reduceEqDiff, Int.reduceAdd, Int.reduceSub, Int.reduceLE, Int.reduceLT, Int.reduceEq, Int.reduceToNat, Int.reduceNeg, Int.cast_ofNat_Int, Int.reduceNatCast, Int.reduceNatCast', Int.zero_add, Int.add_zero, Nat.zero_add, Nat.add_zero, and_self, decide_true, decide_false, zX0_copyTo_B, zX0_copyTo_F, zX0_copyTo_R, zX0_copyTo_X, pm_z_ireti (zX0_copyTo_R), fX0_11, dX0_copyTo_0, dX0_copyTo_1, dX0_copyTo_3, dX0_copyTo_4, dX0_copyTo_6, dX0_copyTo_8, dX0_copyTo_10, dX0_copyTo_13, dX0_copyTo_15, dX0_copyTo_17, dX0_copyTo_20, dX0_copyTo_21, dX0_copyTo_23, dX0_copyTo_24, dX0_copyTo_27, dX0_copyTo_29, dX0_copyTo_30, dX0_copyTo_31, dX0_copyTo_34, dX0_copyTo_37, dX0_copyTo_40, dX0_copyTo_42, h.1, h.2, hb]
    rw [if_pos (by omega), if_pos (by omega)]
    refine ⟨by omega, by omega, by omega, by omega, ?_⟩
    rw [Int.toNat_natCast, Int.toNat_natCast]
    refine ih _ (pm_us g w (row v)) (w + 1) (v + 1) (fo_up h hab hrb) up_eq (by omega) (by omega) (by omega) ?_
    rw [up_up, cpy_s, show w + 1 + n = w + (n + 1) by omega]
    exact hP
theorem copyTo_at {f : pm_H} {a r u b : Nat} {row g : Nat → Int} {k : pm_P} (h : fo_at f a r row u) (hb : f b = some (.inl (48, g))) (hab : a ≠ b) (hrb : r ≠ b) (hu : u ≤ 48) (to fr en : Nat) (h0 : fr ≤ en) (h1 : en ≤ 48) (h2 : to + (en - fr) ≤ 48) (hk : k (some (.inl ((to + (en - fr) : Nat) : Int))) (pm_up f b (.inl (48, va_cpy row g fr to (en - fr))))) : pm_ex T_X0_copyTo [.inr (.inl (some a)), .inr (.inl (some b)), .inl (to : Int), .inl (fr : Int), .inl (en : Int)] f k := by
  refine in_X0_copyTo ?_
  refine pm_go_on [6] 60 ?_
  set_option maxRecDepth 100000 in simp (maxSteps := 2000000) only [pm_x_run, pm_x_rt, pm_x_rf, pm_z_S, pm_z_D, pm_z_cut0, pm_z_cut1, pm_z_cli, pm_z_clr, pm_z_cln, pm_z_cll, pm_z_up, pm_x_aload0, pm_x_aload1, pm_x_getf, pm_x_gf, pm_x_goto, pm_x_gv, pm_x_ia, pm_x_iald, pm_x_iast, pm_x_icmp_ge, pm_x_iinc5, pm_x_iinc6, pm_x_iload2, pm_x_iload3, pm_x_iload4, pm_x_iload5, pm_x_iload6, pm_x_is, pm_x_istore5, pm_x_istore6, pm_z_bipush, Bool.cond_true, Bool.cond_false, Bool.or_false, Bool.false_or, Bool.true_or, Bool.or_true, true_and, and_true, if_true, if_false, List.length_cons, List.length_nil, List.getElem?_cons_zero, List.getElem?_cons_succ, List.set_cons_zero, List.set_cons_succ, Option.toList_some, Option.toList_none, List.cons_append, List.nil_append, beq_self_eq_true, Option.isSome_some, Option.isSome_none, pm_tg_lit, ite_true, ite_false, Nat.reduceAdd, Nat.reduceBEq, Nat.reduceLT, Nat.reduceLeDiff, Nat.reduceEqDiff, Int.reduceAdd, Int.reduceSub, Int.reduceLE, Int.reduceLT, Int.reduceEq, Int.reduceToNat, Int.reduceNeg, Int.cast_ofNat_Int, Int.reduceNatCast, Int.reduceNatCast', Int.zero_add, Int.add_zero, Nat.zero_add, Nat.add_zero, and_self, decide_true, decide_false, zX0_copyTo_B, zX0_copyTo_F, zX0_copyTo_R, zX0_copyTo_X, pm_z_ireti (zX0_copyTo_R), fX0_11, dX0_copyTo_0, dX0_copyTo_1, dX0_copyTo_3, dX0_copyTo_4, dX0_copyTo_6, dX0_copyTo_8, dX0_copyTo_10, dX0_copyTo_13, dX0_copyTo_15, dX0_copyTo_17, dX0_copyTo_20, dX0_copyTo_21, dX0_copyTo_23, dX0_copyTo_24, dX0_copyTo_27, dX0_copyTo_29, dX0_copyTo_30, dX0_copyTo_31, dX0_copyTo_34, dX0_copyTo_37, dX0_copyTo_40, dX0_copyTo_42, h.1, h.2, hb]
  exact copyTo_loop hab hrb hu rfl (en - fr) f g to fr h hb (by omega) (by omega) (by omega) hk
theorem putTo_at {f : pm_H} {a b : Nat} {g : Nat → Int} {k : pm_P} {item : Int} (hb : f b = some (.inl (48, g))) (to : Nat) (h : to < 48) (hk : k (some (.inl ((to + 1 : Nat) : Int))) (pm_up f b (.inl (48, pm_us g to item)))) : pm_ex T_X0_putTo [.inr (.inl (some a)), .inr (.inl (some b)), .inl (to : Int), .inl item] f k := by
  refine in_X0_putTo ?_
  refine pm_go_on [] 60 ?_
  set_option maxRecDepth 100000 in simp (maxSteps := 2000000) only [pm_x_run, pm_x_rt, pm_x_rf, pm_z_S, pm_z_D, pm_z_cut0, pm_z_cut1, pm_z_cli, pm_z_clr, pm_z_cln, pm_z_cll, pm_z_up, pm_x_aload1, pm_x_iast, pm_x_icmp_lt, pm_x_iload2, pm_x_iload3, pm_x_is, pm_z_bipush, pm_z_iadd, pm_z_iconst, Bool.cond_true, Bool.cond_false, Bool.or_false, Bool.false_or, Bool.true_or, Bool.or_true, true_and, and_true, if_true, if_false, List.length_cons, List.length_nil, List.getElem?_cons_zero, List.getElem?_cons_succ, List.set_cons_zero, List.set_cons_succ, Option.toList_some, Option.toList_none, List.cons_append, List.nil_append, beq_self_eq_true, Option.isSome_some, Option.isSome_none, pm_tg_lit, ite_true, ite_false, Nat.reduceAdd, Nat.reduceBEq, Nat.reduceLT, Nat.reduceLeDiff, Nat.reduceEqDiff, Int.reduceAdd, Int.reduceSub, Int.reduceLE, Int.reduceLT, Int.reduceEq, Int.reduceToNat, Int.reduceNeg, Int.cast_ofNat_Int, Int.reduceNatCast, Int.reduceNatCast', Int.zero_add, Int.add_zero, Nat.zero_add, Nat.add_zero, and_self, decide_true, decide_false, zX0_putTo_B, zX0_putTo_F, zX0_putTo_R, zX0_putTo_X, pm_z_ireti (zX0_putTo_R), dX0_putTo_0, dX0_putTo_1, dX0_putTo_3, dX0_putTo_6, dX0_putTo_7, dX0_putTo_8, dX0_putTo_9, dX0_putTo_10, dX0_putTo_11, dX0_putTo_12, dX0_putTo_13, dX0_putTo_14, dX0_putTo_15, hb]
  rw [if_pos (by omega)]
  refine ⟨by omega, by omega, ?_⟩
  rw [Int.toNat_natCast]
  exact hk
theorem takeFrom_loop {a r u b : Nat} {g : Nat → Int} {P : pm_P} (hab : a ≠ b) (hrb : r ≠ b) (har : a ≠ r) (many : Nat) (hm : many ≤ 48) : ∀ (n : Nat) (f : pm_H) (row : Nat → Int) (i : Nat), i + n = many → fo_at f a r row u → f b = some (.inl (48, g)) → P none (pm_up (pm_up f r (.inl (48, va_cpy g row i i n))) a (.inr (.inr (.inr (0, [.inr (.inl (some r)), .inl (many : Int)]))))) → pm_W eX0_takeFrom P (fun _ _ => False) 2 [some (.inr (.inl (some a))), some (.inr (.inl (some b))), some (.inl (many : Int)), some (.inl (i : Int))] [] f := by
  intro n
  induction n with
  | zero =>
    intro f row i hi h hb hP
    refine pm_go_on [2] 60 ?_
    set_option maxRecDepth 100000 in simp (maxSteps := 2000000) only [pm_x_run, pm_x_rt, pm_x_rf, pm_z_S, pm_z_D, pm_z_cut0, pm_z_cut1, pm_z_cli, pm_z_clr, pm_z_cln, pm_z_cll, pm_z_up, pm_x_aload0, pm_x_aload1, pm_x_fit1, pm_x_fit2, pm_x_getf, pm_x_gf, pm_x_goto, pm_x_gv, pm_x_ia, pm_x_iald, pm_x_iast, pm_x_icmp_ge, pm_x_iinc3, pm_x_iload2, pm_x_iload3, pm_x_is, pm_x_istore3, pm_x_pf, pm_x_putf, pm_x_pv, pm_z_bipush, pm_z_iconst, pm_z_vret, Bool.cond_true, Bool.cond_false, Bool.or_false, Bool.false_or, Bool.true_or, Bool.or_true, true_and, and_true, if_true, if_false, List.length_cons, List.length_nil, List.getElem?_cons_zero, List.getElem?_cons_succ, List.set_cons_zero, List.set_cons_succ, Option.toList_some, Option.toList_none, List.cons_append, List.nil_append, beq_self_eq_true, Option.isSome_some, Option.isSome_none, pm_tg_lit, ite_true, ite_false, Nat.reduceAdd, Nat.reduceBEq, Nat.reduceLT, Nat.reduceLeDiff, Nat.reduceEqDiff, Int.reduceAdd, Int.reduceSub, Int.reduceLE, Int.reduceLT, Int.reduceEq, Int.reduceToNat, Int.reduceNeg, Int.cast_ofNat_Int, Int.reduceNatCast, Int.reduceNatCast', Int.zero_add, Int.add_zero, Nat.zero_add, Nat.add_zero, and_self, decide_true, decide_false, zX0_takeFrom_B, zX0_takeFrom_F, zX0_takeFrom_R, zX0_takeFrom_X, fX0_11, fX0_15, dX0_takeFrom_0, dX0_takeFrom_1, dX0_takeFrom_2, dX0_takeFrom_3, dX0_takeFrom_4, dX0_takeFrom_7, dX0_takeFrom_8, dX0_takeFrom_10, dX0_takeFrom_13, dX0_takeFrom_14, dX0_takeFrom_17, dX0_takeFrom_18, dX0_takeFrom_19, dX0_takeFrom_20, dX0_takeFrom_21, dX0_takeFrom_22, dX0_takeFrom_25, dX0_takeFrom_28, dX0_takeFrom_29, dX0_takeFrom_30, dX0_takeFrom_33, h.1, h.2, hb]
    rw [if_neg (by omega)]
    rw [cpy_0, up_id h.2] at hP
    exact hP
  | succ n ih =>
    intro f row i hi h hb hP
    refine pm_go_on [2] 60 ?_
    set_option maxRecDepth 100000 in simp (maxSteps := 2000000) only [pm_x_run, pm_x_rt, pm_x_rf, pm_z_S, pm_z_D, pm_z_cut0, pm_z_cut1, pm_z_cli, pm_z_clr, pm_z_cln, pm_z_cll, pm_z_up, pm_x_aload0, pm_x_aload1, pm_x_fit1, pm_x_fit2, pm_x_getf, pm_x_gf, pm_x_goto, pm_x_gv, pm_x_ia, pm_x_iald, pm_x_iast, pm_x_icmp_ge, pm_x_iinc3, pm_x_iload2, pm_x_iload3, pm_x_is, pm_x_istore3, pm_x_pf, pm_x_putf, pm_x_pv, pm_z_bipush, pm_z_iconst, pm_z_vret, Bool.cond_true, Bool.cond_false, Bool.or_false, Bool.false_or, Bool.true_or, Bool.or_true, true_and, and_true, if_true, if_false, List.length_cons, List.length_nil, List.getElem?_cons_zero, List.getElem?_cons_succ, List.set_cons_zero, List.set_cons_succ, Option.toList_some, Option.toList_none, List.cons_append, List.nil_append, beq_self_eq_true, Option.isSome_some, Option.isSome_none, pm_tg_lit, ite_true, ite_false, Nat.reduceAdd, Nat.reduceBEq, Nat.reduceLT, Nat.reduceLeDiff, Nat.reduceEqDiff, Int.reduceAdd, Int.reduceSub, Int.reduceLE, Int.reduceLT, Int.reduceEq, Int.reduceToNat, Int.reduceNeg, Int.cast_ofNat_Int, Int.reduceNatCast, Int.reduceNatCast', Int.zero_add, Int.add_zero, Nat.zero_add, Nat.add_zero, and_self, decide_true, decide_false, zX0_takeFrom_B, zX0_takeFrom_F, zX0_takeFrom_R, zX0_takeFrom_X, fX0_11, fX0_15, dX0_takeFrom_0, dX0_takeFrom_1, dX0_takeFrom_2, dX0_takeFrom_3, dX0_takeFrom_4, dX0_takeFrom_7, dX0_takeFrom_8, dX0_takeFrom_10, dX0_takeFrom_13, dX0_takeFrom_14, dX0_takeFrom_17, dX0_takeFrom_18, dX0_takeFrom_19, dX0_takeFrom_20, dX0_takeFrom_21, dX0_takeFrom_22, dX0_takeFrom_25, dX0_takeFrom_28, dX0_takeFrom_29, dX0_takeFrom_30, dX0_takeFrom_33, h.1, h.2, hb]
    rw [if_pos (by omega), if_pos (by omega)]
    refine ⟨by omega, by omega, by omega, ?_⟩
    rw [Int.toNat_natCast]
    refine ih _ (pm_us row i (g i)) (i + 1) (by omega) ⟨by rw [up_ne har]; exact h.1, up_eq⟩ (by rw [up_ne (Ne.symm hrb)]; exact hb) ?_
    rw [up_up, cpy_s]
    exact hP
theorem takeFrom_at {f : pm_H} {a r u b : Nat} {row g : Nat → Int} {k : pm_P} (h : fo_at f a r row u) (hb : f b = some (.inl (48, g))) (hab : a ≠ b) (hrb : r ≠ b) (har : a ≠ r) (many : Nat) (hm : many ≤ 48) (hk : k none (pm_up (pm_up f r (.inl (48, va_cpy g row 0 0 many))) a (.inr (.inr (.inr (0, [.inr (.inl (some r)), .inl (many : Int)])))))) : pm_ex T_X0_takeFrom [.inr (.inl (some a)), .inr (.inl (some b)), .inl (many : Int)] f k := by
  refine in_X0_takeFrom ?_
  refine pm_go_on [2] 60 ?_
  set_option maxRecDepth 100000 in simp (maxSteps := 2000000) only [pm_x_run, pm_x_rt, pm_x_rf, pm_z_S, pm_z_D, pm_z_cut0, pm_z_cut1, pm_z_cli, pm_z_clr, pm_z_cln, pm_z_cll, pm_z_up, pm_x_aload0, pm_x_aload1, pm_x_fit1, pm_x_fit2, pm_x_getf, pm_x_gf, pm_x_goto, pm_x_gv, pm_x_ia, pm_x_iald, pm_x_iast, pm_x_icmp_ge, pm_x_iinc3, pm_x_iload2, pm_x_iload3, pm_x_is, pm_x_istore3, pm_x_pf, pm_x_putf, pm_x_pv, pm_z_bipush, pm_z_iconst, pm_z_vret, Bool.cond_true, Bool.cond_false, Bool.or_false, Bool.false_or, Bool.true_or, Bool.or_true, true_and, and_true, if_true, if_false, List.length_cons, List.length_nil, List.getElem?_cons_zero, List.getElem?_cons_succ, List.set_cons_zero, List.set_cons_succ, Option.toList_some, Option.toList_none, List.cons_append, List.nil_append, beq_self_eq_true, Option.isSome_some, Option.isSome_none, pm_tg_lit, ite_true, ite_false, Nat.reduceAdd, Nat.reduceBEq, Nat.reduceLT, Nat.reduceLeDiff, Nat.reduceEqDiff, Int.reduceAdd, Int.reduceSub, Int.reduceLE, Int.reduceLT, Int.reduceEq, Int.reduceToNat, Int.reduceNeg, Int.cast_ofNat_Int, Int.reduceNatCast, Int.reduceNatCast', Int.zero_add, Int.add_zero, Nat.zero_add, Nat.add_zero, and_self, decide_true, decide_false, zX0_takeFrom_B, zX0_takeFrom_F, zX0_takeFrom_R, zX0_takeFrom_X, fX0_11, fX0_15, dX0_takeFrom_0, dX0_takeFrom_1, dX0_takeFrom_2, dX0_takeFrom_3, dX0_takeFrom_4, dX0_takeFrom_7, dX0_takeFrom_8, dX0_takeFrom_10, dX0_takeFrom_13, dX0_takeFrom_14, dX0_takeFrom_17, dX0_takeFrom_18, dX0_takeFrom_19, dX0_takeFrom_20, dX0_takeFrom_21, dX0_takeFrom_22, dX0_takeFrom_25, dX0_takeFrom_28, dX0_takeFrom_29, dX0_takeFrom_30, dX0_takeFrom_33, h.1, h.2, hb]
  exact takeFrom_loop hab hrb har many hm many f row 0 (by omega) h hb hk
/-- a row's first u places, as a list -/
def fl (row : Nat → Int) (u : Nat) : List Int := (List.range u).map row
/-- n places from s on -/
def sl (row : Nat → Int) (s n : Nat) : List Int := (List.range n).map (fun i => row (s + i))
theorem fl_len (row : Nat → Int) (u : Nat) : (fl row u).length = u := by simp [fl]
theorem sl_len (row : Nat → Int) (s u : Nat) : (sl row s u).length = u := by simp [sl]
theorem fl_s (row : Nat → Int) (u : Nat) : fl row (u + 1) = fl row u ++ [row u] := by simp [fl, List.range_succ]
theorem sl_s (row : Nat → Int) (s u : Nat) : sl row s (u + 1) = sl row s u ++ [row (s + u)] := by simp [sl, List.range_succ]
theorem fl_add (row : Nat → Int) (u : Nat) : ∀ n, fl row (u + n) = fl row u ++ sl row u n
  | 0 => by simp [sl]
  | n + 1 => by rw [← Nat.add_assoc, fl_s, fl_add row u n, sl_s, List.append_assoc]
theorem fl_congr {f g : Nat → Int} : ∀ {n : Nat}, (∀ j, j < n → f j = g j) → fl f n = fl g n
  | 0, _ => rfl
  | n + 1, h => by rw [fl_s, fl_s, fl_congr (fun j hj => h j (by omega)), h n (by omega)]
theorem sl_congr {f g : Nat → Int} {s t : Nat} : ∀ {n : Nat}, (∀ j, j < n → f (s + j) = g (t + j)) → sl f s n = sl g t n
  | 0, _ => rfl
  | n + 1, h => by rw [sl_s, sl_s, sl_congr (fun j hj => h j (by omega)), h n (by omega)]
theorem fl_cpy (f g : Nat → Int) (s d n : Nat) : fl (va_cpy f g s d n) (d + n) = fl g d ++ sl f s n := by
  rw [fl_add]
  congr 1
  · apply fl_congr
    intro j hj
    unfold va_cpy
    rw [if_neg (by omega)]
  · apply sl_congr
    intro j hj
    unfold va_cpy
    rw [if_pos (by omega)]
    congr 1
    omega
theorem fl_us (g : Nat → Int) (k : Nat) (x : Int) : fl (pm_us g k x) (k + 1) = fl g k ++ [x] := by
  rw [fl_s]
  congr 1
  · apply fl_congr
    intro j hj
    unfold pm_us
    rw [if_neg (by omega)]
  · unfold pm_us
    rw [if_pos rfl]
theorem fl_cpy0 (f g : Nat → Int) (n : Nat) : fl (va_cpy f g 0 0 n) n = fl f n := by
  apply fl_congr
  intro j hj
  unfold va_cpy
  rw [if_pos (by omega)]
  congr 1
  omega
/-- a row that is a list: what lies where -/
theorem fl_get {row : Nat → Int} {u : Nat} {A : List Int} {x : Int} {B : List Int} (h : fl row u = A ++ x :: B) : row A.length = x := by
  have h1 : (fl row u)[A.length]? = some x := by rw [h]; simp
  unfold fl at h1
  rw [List.getElem?_map] at h1
  obtain ⟨i, h2, h3⟩ := Option.map_eq_some_iff.mp h1
  have h4 := List.getElem?_eq_some_iff.mp h2
  obtain ⟨h5, h6⟩ := h4
  rw [List.getElem_range] at h6
  rw [h6]
  exact h3
theorem fl_u {row : Nat → Int} {u : Nat} {L : List Int} (h : fl row u = L) : u = L.length := by rw [← h, fl_len]
theorem fl_mem {row : Nat → Int} {u : Nat} {A B C : List Int} (h : fl row u = A ++ B ++ C) {j : Nat} (h1 : A.length ≤ j) (h2 : j < A.length + B.length) : row j ∈ B := by
  have h3 : (fl row u)[j]? = B[j - A.length]? := by
    rw [h, List.append_assoc, List.getElem?_append_right h1, List.getElem?_append_left (by omega)]
  have h4 : (fl row u)[j]? = some (row j) := by
    have := fl_u h
    simp only [List.length_append] at this
    unfold fl
    rw [List.getElem?_map, List.getElem?_range (by omega)]
    rfl
  rw [h4] at h3
  exact List.mem_of_getElem? h3.symm
theorem fl_sl {row : Nat → Int} {u : Nat} {A B C : List Int} (h : fl row u = A ++ B ++ C) : sl row A.length B.length = B := by
  have hu := fl_u h
  simp only [List.length_append] at hu
  have h1 : fl row (A.length + B.length + C.length) = A ++ B ++ C := by rw [← hu]; exact h
  rw [fl_add, fl_add] at h1
  have h2 := List.append_inj h1 (by simp [fl_len, sl_len])
  exact (List.append_inj h2.1 (by simp [fl_len])).2
