/-- a Forest object: its row, how much of it is used -/
def fo_at (f : pm_H) (a r : Nat) (row : Nat → Int) (u : Nat) : Prop := f a = some (.inr (.inr (.inr (0, [.inr (.inl (some r)), .inl (u : Int)])))) ∧ f r = some (.inl (48, row))
theorem placeOf_loop {f : pm_H} {a r u : Nat} {row : Nat → Int} {item fr : Int} {P : pm_P} (h : fo_at f a r row u) (hu : u ≤ 48) : ∀ (n i p : Nat), i + n = p → p < u → row p = item → (∀ j, i ≤ j → j < p → row j ≠ item) → P (some (.inl (p : Int))) f → pm_W eX0_placeOf P (fun _ _ => False) 2 [some (.inr (.inl (some a))), some (.inl item), some (.inl fr), some (.inl (i : Int))] [] f := by
  intro n
  induction n with
  | zero =>
    intro i p hp hu' hr hn hP
    obtain rfl : i = p := by omega
    refine pm_go_on [2] 60 ?_
    set_option maxRecDepth 100000 in simp (maxSteps := 2000000) only [pm_x_run, pm_x_rt, pm_x_rf, pm_z_S, pm_z_D, pm_z_cut0, pm_z_cut1, pm_z_cli, pm_z_clr, pm_z_cln, pm_z_cll, pm_z_up, pm_x_aload0, pm_x_getf, pm_x_gf, pm_x_goto, pm_x_gv, pm_x_ia, pm_x_iald, pm_x_icmp_ge, pm_x_icmp_ne, pm_x_iinc3, pm_x_iload1, pm_x_iload2, pm_x_iload3, pm_x_istore3, pm_z_iconst, Bool.cond_true, Bool.cond_false, Bool.or_false, Bool.false_or, Bool.true_or, Bool.or_true, true_and, and_true, if_true, if_false, List.length_cons, List.length_nil, List.getElem?_cons_zero, List.getElem?_cons_succ, List.set_cons_zero, List.set_cons_succ, Option.toList_some, Option.toList_none, List.cons_append, List.nil_append, beq_self_eq_true, Option.isSome_some, Option.isSome_none, pm_tg_lit, ite_true, ite_false, Nat.reduceAdd, Nat.reduceBEq, Nat.reduceLT, Nat.reduceLeDiff, Nat.reduceEqDiff, Int.reduceAdd, Int.reduceSub, Int.reduceLE, Int.reduceLT, Int.reduceEq, Int.reduceToNat, Int.reduceNeg, Int.cast_ofNat_Int, Int.reduceNatCast, Int.reduceNatCast', Int.zero_add, Int.add_zero, Nat.zero_add, Nat.add_zero, and_self, decide_true, decide_false, zX0_placeOf_B, zX0_placeOf_F, zX0_placeOf_R, zX0_placeOf_X, pm_z_ireti (zX0_placeOf_R), fX0_15, fX0_11, dX0_placeOf_0, dX0_placeOf_1, dX0_placeOf_2, dX0_placeOf_3, dX0_placeOf_4, dX0_placeOf_7, dX0_placeOf_10, dX0_placeOf_11, dX0_placeOf_14, dX0_placeOf_15, dX0_placeOf_16, dX0_placeOf_17, dX0_placeOf_20, dX0_placeOf_21, dX0_placeOf_22, dX0_placeOf_25, dX0_placeOf_28, dX0_placeOf_29, h.1, h.2]
    rw [if_pos (by omega)]
    refine ⟨by omega, ?_⟩
    rw [if_pos (by rw [Int.toNat_natCast]; exact hr)]
    exact hP
  | succ n ih =>
    intro i p hp hu' hr hn hP
    refine pm_go_on [2] 60 ?_
    set_option maxRecDepth 100000 in simp (maxSteps := 2000000) only [pm_x_run, pm_x_rt, pm_x_rf, pm_z_S, pm_z_D, pm_z_cut0, pm_z_cut1, pm_z_cli, pm_z_clr, pm_z_cln, pm_z_cll, pm_z_up, pm_x_aload0, pm_x_getf, pm_x_gf, pm_x_goto, pm_x_gv, pm_x_ia, pm_x_iald, pm_x_icmp_ge, pm_x_icmp_ne, pm_x_iinc3, pm_x_iload1, pm_x_iload2, pm_x_iload3, pm_x_istore3, pm_z_iconst, Bool.cond_true, Bool.cond_false, Bool.or_false, Bool.false_or, Bool.true_or, Bool.or_true, true_and, and_true, if_true, if_false, List.length_cons, List.length_nil, List.getElem?_cons_zero, List.getElem?_cons_succ, List.set_cons_zero, List.set_cons_succ, Option.toList_some, Option.toList_none, List.cons_append, List.nil_append, beq_self_eq_true, Option.isSome_some, Option.isSome_none, pm_tg_lit, ite_true, ite_false, Nat.reduceAdd, Nat.reduceBEq, Nat.reduceLT, Nat.reduceLeDiff, Nat.reduceEqDiff, Int.reduceAdd, Int.reduceSub, Int.reduceLE, Int.reduceLT, Int.reduceEq, Int.reduceToNat, Int.reduceNeg, Int.cast_ofNat_Int, Int.reduceNatCast, Int.reduceNatCast', Int.zero_add, Int.add_zero, Nat.zero_add, Nat.add_zero, and_self, decide_true, decide_false, zX0_placeOf_B, zX0_placeOf_F, zX0_placeOf_R, zX0_placeOf_X, pm_z_ireti (zX0_placeOf_R), fX0_15, fX0_11, dX0_placeOf_0, dX0_placeOf_1, dX0_placeOf_2, dX0_placeOf_3, dX0_placeOf_4, dX0_placeOf_7, dX0_placeOf_10, dX0_placeOf_11, dX0_placeOf_14, dX0_placeOf_15, dX0_placeOf_16, dX0_placeOf_17, dX0_placeOf_20, dX0_placeOf_21, dX0_placeOf_22, dX0_placeOf_25, dX0_placeOf_28, dX0_placeOf_29, h.1, h.2]
    rw [if_pos (by omega)]
    refine ⟨by omega, ?_⟩
    rw [if_neg (by rw [Int.toNat_natCast]; exact hn i (Nat.le_refl _) (by omega))]
    refine ⟨by omega, ?_⟩
    exact ih (i + 1) p (by omega) hu' hr (fun j h1 h2 => hn j (by omega) h2) hP
/-- placeOf finds -/
theorem placeOf_at {f : pm_H} {a r u : Nat} {row : Nat → Int} {item : Int} {fr : Nat} {k : pm_P} (h : fo_at f a r row u) (hu : u ≤ 48) (p : Nat) (h0 : fr ≤ p) (h1 : p < u) (h2 : row p = item) (h3 : ∀ j, fr ≤ j → j < p → row j ≠ item) (hk : k (some (.inl (p : Int))) f) : pm_ex T_X0_placeOf [.inr (.inl (some a)), .inl item, .inl (fr : Int)] f k := by
  refine in_X0_placeOf ?_
  refine pm_go_on [2] 60 ?_
  set_option maxRecDepth 100000 in simp (maxSteps := 2000000) only [pm_x_run, pm_x_rt, pm_x_rf, pm_z_S, pm_z_D, pm_z_cut0, pm_z_cut1, pm_z_cli, pm_z_clr, pm_z_cln, pm_z_cll, pm_z_up, pm_x_aload0, pm_x_getf, pm_x_gf, pm_x_goto, pm_x_gv, pm_x_ia, pm_x_iald, pm_x_icmp_ge, pm_x_icmp_ne, pm_x_iinc3, pm_x_iload1, pm_x_iload2, pm_x_iload3, pm_x_istore3, pm_z_iconst, Bool.cond_true, Bool.cond_false, Bool.or_false, Bool.false_or, Bool.true_or, Bool.or_true, true_and, and_true, if_true, if_false, List.length_cons, List.length_nil, List.getElem?_cons_zero, List.getElem?_cons_succ, List.set_cons_zero, List.set_cons_succ, Option.toList_some, Option.toList_none, List.cons_append, List.nil_append, beq_self_eq_true, Option.isSome_some, Option.isSome_none, pm_tg_lit, ite_true, ite_false, Nat.reduceAdd, Nat.reduceBEq, Nat.reduceLT, Nat.reduceLeDiff, Nat.reduceEqDiff, Int.reduceAdd, Int.reduceSub, Int.reduceLE, Int.reduceLT, Int.reduceEq, Int.reduceToNat, Int.reduceNeg, Int.cast_ofNat_Int, Int.reduceNatCast, Int.reduceNatCast', Int.zero_add, Int.add_zero, Nat.zero_add, Nat.add_zero, and_self, decide_true, decide_false, zX0_placeOf_B, zX0_placeOf_F, zX0_placeOf_R, zX0_placeOf_X, pm_z_ireti (zX0_placeOf_R), fX0_15, fX0_11, dX0_placeOf_0, dX0_placeOf_1, dX0_placeOf_2, dX0_placeOf_3, dX0_placeOf_4, dX0_placeOf_7, dX0_placeOf_10, dX0_placeOf_11, dX0_placeOf_14, dX0_placeOf_15, dX0_placeOf_16, dX0_placeOf_17, dX0_placeOf_20, dX0_placeOf_21, dX0_placeOf_22, dX0_placeOf_25, dX0_placeOf_28, dX0_placeOf_29, h.1, h.2]
  exact placeOf_loop h hu (p - fr) fr p (by omega) h1 h2 h3 hk
theorem placeOf_loopN {f : pm_H} {a r u : Nat} {row : Nat → Int} {item fr : Int} {P : pm_P} (h : fo_at f a r row u) (hu : u ≤ 48) : ∀ (n i : Nat), u - i = n → (∀ j, i ≤ j → j < u → row j ≠ item) → P (some (.inl (-1))) f → pm_W eX0_placeOf P (fun _ _ => False) 2 [some (.inr (.inl (some a))), some (.inl item), some (.inl fr), some (.inl (i : Int))] [] f := by
  intro n
  induction n with
  | zero =>
    intro i hp hn hP
    refine pm_go_on [2] 60 ?_
    set_option maxRecDepth 100000 in simp (maxSteps := 2000000) only [pm_x_run, pm_x_rt, pm_x_rf, pm_z_S, pm_z_D, pm_z_cut0, pm_z_cut1, pm_z_cli, pm_z_clr, pm_z_cln, pm_z_cll, pm_z_up, pm_x_aload0, pm_x_getf, pm_x_gf, pm_x_goto, pm_x_gv, pm_x_ia, pm_x_iald, pm_x_icmp_ge, pm_x_icmp_ne, pm_x_iinc3, pm_x_iload1, pm_x_iload2, pm_x_iload3, pm_x_istore3, pm_z_iconst, Bool.cond_true, Bool.cond_false, Bool.or_false, Bool.false_or, Bool.true_or, Bool.or_true, true_and, and_true, if_true, if_false, List.length_cons, List.length_nil, List.getElem?_cons_zero, List.getElem?_cons_succ, List.set_cons_zero, List.set_cons_succ, Option.toList_some, Option.toList_none, List.cons_append, List.nil_append, beq_self_eq_true, Option.isSome_some, Option.isSome_none, pm_tg_lit, ite_true, ite_false, Nat.reduceAdd, Nat.reduceBEq, Nat.reduceLT, Nat.reduceLeDiff, Nat.reduceEqDiff, Int.reduceAdd, Int.reduceSub, Int.reduceLE, Int.reduceLT, Int.reduceEq, Int.reduceToNat, Int.reduceNeg, Int.cast_ofNat_Int, Int.reduceNatCast, Int.reduceNatCast', Int.zero_add, Int.add_zero, Nat.zero_add, Nat.add_zero, and_self, decide_true, decide_false, zX0_placeOf_B, zX0_placeOf_F, zX0_placeOf_R, zX0_placeOf_X, pm_z_ireti (zX0_placeOf_R), fX0_15, fX0_11, dX0_placeOf_0, dX0_placeOf_1, dX0_placeOf_2, dX0_placeOf_3, dX0_placeOf_4, dX0_placeOf_7, dX0_placeOf_10, dX0_placeOf_11, dX0_placeOf_14, dX0_placeOf_15, dX0_placeOf_16, dX0_placeOf_17, dX0_placeOf_20, dX0_placeOf_21, dX0_placeOf_22, dX0_placeOf_25, dX0_placeOf_28, dX0_placeOf_29, h.1, h.2]
    rw [if_neg (by omega)]
    exact hP
  | succ n ih =>
    intro i hp hn hP
    refine pm_go_on [2] 60 ?_
    set_option maxRecDepth 100000 in simp (maxSteps := 2000000) only [pm_x_run, pm_x_rt, pm_x_rf, pm_z_S, pm_z_D, pm_z_cut0, pm_z_cut1, pm_z_cli, pm_z_clr, pm_z_cln, pm_z_cll, pm_z_up, pm_x_aload0, pm_x_getf, pm_x_gf, pm_x_goto, pm_x_gv, pm_x_ia, pm_x_iald, pm_x_icmp_ge, pm_x_icmp_ne, pm_x_iinc3, pm_x_iload1, pm_x_iload2, pm_x_iload3, pm_x_istore3, pm_z_iconst, Bool.cond_true, Bool.cond_false, Bool.or_false, Bool.false_or, Bool.true_or, Bool.or_true, true_and, and_true, if_true, if_false, List.length_cons, List.length_nil, List.getElem?_cons_zero, List.getElem?_cons_succ, List.set_cons_zero, List.set_cons_succ, Option.toList_some, Option.toList_none, List.cons_append, List.nil_append, beq_self_eq_true, Option.isSome_some, Option.isSome_none, pm_tg_lit, ite_true, ite_false, Nat.reduceAdd, Nat.reduceBEq, Nat.reduceLT, Nat.reduceLeDiff, Nat.reduceEqDiff, Int.reduceAdd, Int.reduceSub, Int.reduceLE, Int.reduceLT, Int.reduceEq, Int.reduceToNat, Int.reduceNeg, Int.cast_ofNat_Int, Int.reduceNatCast, Int.reduceNatCast', Int.zero_add, Int.add_zero, Nat.zero_add, Nat.add_zero, and_self, decide_true, decide_false, zX0_placeOf_B, zX0_placeOf_F, zX0_placeOf_R, zX0_placeOf_X, pm_z_ireti (zX0_placeOf_R), fX0_15, fX0_11, dX0_placeOf_0, dX0_placeOf_1, dX0_placeOf_2, dX0_placeOf_3, dX0_placeOf_4, dX0_placeOf_7, dX0_placeOf_10, dX0_placeOf_11, dX0_placeOf_14, dX0_placeOf_15, dX0_placeOf_16, dX0_placeOf_17, dX0_placeOf_20, dX0_placeOf_21, dX0_placeOf_22, dX0_placeOf_25, dX0_placeOf_28, dX0_placeOf_29, h.1, h.2]
    rw [if_pos (by omega)]
    refine ⟨by omega, ?_⟩
    rw [if_neg (by rw [Int.toNat_natCast]; exact hn i (Nat.le_refl _) (by omega))]
    refine ⟨by omega, ?_⟩
    exact ih (i + 1) (by omega) (fun j h1 h2 => hn j (by omega) h2) hP
/-- placeOf doesn't find -/
theorem placeOf_no {f : pm_H} {a r u : Nat} {row : Nat → Int} {item : Int} {fr : Nat} {k : pm_P} (h : fo_at f a r row u) (hu : u ≤ 48) (h3 : ∀ j, fr ≤ j → j < u → row j ≠ item) (hk : k (some (.inl (-1))) f) : pm_ex T_X0_placeOf [.inr (.inl (some a)), .inl item, .inl (fr : Int)] f k := by
  refine in_X0_placeOf ?_
  refine pm_go_on [2] 60 ?_
  set_option maxRecDepth 100000 in simp (maxSteps := 2000000) only [pm_x_run, pm_x_rt, pm_x_rf, pm_z_S, pm_z_D, pm_z_cut0, pm_z_cut1, pm_z_cli, pm_z_clr, pm_z_cln, pm_z_cll, pm_z_up, pm_x_aload0, pm_x_getf, pm_x_gf, pm_x_goto, pm_x_gv, pm_x_ia, pm_x_iald, pm_x_icmp_ge, pm_x_icmp_ne, pm_x_iinc3, pm_x_iload1, pm_x_iload2, pm_x_iload3, pm_x_istore3, pm_z_iconst, Bool.cond_true, Bool.cond_false, Bool.or_false, Bool.false_or, Bool.true_or, Bool.or_true, true_and, and_true, if_true, if_false, List.length_cons, List.length_nil, List.getElem?_cons_zero, List.getElem?_cons_succ, List.set_cons_zero, List.set_cons_succ, Option.toList_some, Option.toList_none, List.cons_append, List.nil_append, beq_self_eq_true, Option.isSome_some, Option.isSome_none, pm_tg_lit, ite_true, ite_false, Nat.reduceAdd, Nat.reduceBEq, Nat.reduceLT, Nat.reduceLeDiff, Nat.reduceEqDiff, Int.reduceAdd, Int.reduceSub, Int.reduceLE, Int.reduceLT, Int.reduceEq, Int.reduceToNat, Int.reduceNeg, Int.cast_ofNat_Int, Int.reduceNatCast, Int.reduceNatCast', Int.zero_add, Int.add_zero, Nat.zero_add, Nat.add_zero, and_self, decide_true, decide_false, zX0_placeOf_B, zX0_placeOf_F, zX0_placeOf_R, zX0_placeOf_X, pm_z_ireti (zX0_placeOf_R), fX0_15, fX0_11, dX0_placeOf_0, dX0_placeOf_1, dX0_placeOf_2, dX0_placeOf_3, dX0_placeOf_4, dX0_placeOf_7, dX0_placeOf_10, dX0_placeOf_11, dX0_placeOf_14, dX0_placeOf_15, dX0_placeOf_16, dX0_placeOf_17, dX0_placeOf_20, dX0_placeOf_21, dX0_placeOf_22, dX0_placeOf_25, dX0_placeOf_28, dX0_placeOf_29, h.1, h.2]
  exact placeOf_loopN h hu (u - fr) fr rfl h3 hk
theorem beginOf_loop {f : pm_H} {a r u : Nat} {row : Nat → Int} {x : Int} {P : pm_P} (h : fo_at f a r row u) : ∀ (n b : Nat), b + n ≤ 48 → (∀ j, b ≤ j → j < b + n → row j ≠ -1) → (b = 0 ∨ row (b - 1) = -1) → P (some (.inl (b : Int))) f → pm_W eX0_beginOf P (fun _ _ => False) 2 [some (.inr (.inl (some a))), some (.inl x), some (.inl ((b + n : Nat) : Int))] [] f := by
  intro n
  induction n with
  | zero =>
    intro b hb hn h0 hP
    refine pm_go_on [2] 60 ?_
    set_option maxRecDepth 100000 in simp (maxSteps := 2000000) only [pm_x_run, pm_x_rt, pm_x_rf, pm_z_S, pm_z_D, pm_z_cut0, pm_z_cut1, pm_z_cli, pm_z_clr, pm_z_cln, pm_z_cll, pm_z_up, pm_x_aload0, pm_x_getf, pm_x_gf, pm_x_goto, pm_x_gv, pm_x_ia, pm_x_iald, pm_x_icmp_eq, pm_x_if_le, pm_x_iinc2, pm_x_iload1, pm_x_iload2, pm_x_istore2, pm_z_iconst, pm_z_isub, Bool.cond_true, Bool.cond_false, Bool.or_false, Bool.false_or, Bool.true_or, Bool.or_true, true_and, and_true, if_true, if_false, List.length_cons, List.length_nil, List.getElem?_cons_zero, List.getElem?_cons_succ, List.set_cons_zero, List.set_cons_succ, Option.toList_some, Option.toList_none, List.cons_append, List.nil_append, beq_self_eq_true, Option.isSome_some, Option.isSome_none, pm_tg_lit, ite_true, ite_false, Nat.reduceAdd, Nat.reduceBEq, Nat.reduceLT, Nat.reduceLeDiff, Nat.reduceEqDiff, Int.reduceAdd, Int.reduceSub, Int.reduceLE, Int.reduceLT, Int.reduceEq, Int.reduceToNat, Int.reduceNeg, Int.cast_ofNat_Int, Int.reduceNatCast, Int.reduceNatCast', Int.zero_add, Int.add_zero, Nat.zero_add, Nat.add_zero, and_self, decide_true, decide_false, zX0_beginOf_B, zX0_beginOf_F, zX0_beginOf_R, zX0_beginOf_X, pm_z_ireti (zX0_beginOf_R), fX0_11, dX0_beginOf_0, dX0_beginOf_1, dX0_beginOf_2, dX0_beginOf_3, dX0_beginOf_6, dX0_beginOf_7, dX0_beginOf_10, dX0_beginOf_11, dX0_beginOf_12, dX0_beginOf_13, dX0_beginOf_14, dX0_beginOf_15, dX0_beginOf_18, dX0_beginOf_21, dX0_beginOf_24, dX0_beginOf_25, h.1, h.2]
    by_cases hz : b = 0
    · subst hz
      rw [if_neg (by omega)]
      exact hP
    · rw [if_pos (by omega)]
      refine ⟨by omega, by omega, ?_⟩
      have e : (((b : Nat) : Int) - 1).toNat = b - 1 := by omega
      rw [e, if_pos (h0.resolve_left hz)]
      exact hP
  | succ n ih =>
    intro b hb hn h0 hP
    refine pm_go_on [2] 60 ?_
    set_option maxRecDepth 100000 in simp (maxSteps := 2000000) only [pm_x_run, pm_x_rt, pm_x_rf, pm_z_S, pm_z_D, pm_z_cut0, pm_z_cut1, pm_z_cli, pm_z_clr, pm_z_cln, pm_z_cll, pm_z_up, pm_x_aload0, pm_x_getf, pm_x_gf, pm_x_goto, pm_x_gv, pm_x_ia, pm_x_iald, pm_x_icmp_eq, pm_x_if_le, pm_x_iinc2, pm_x_iload1, pm_x_iload2, pm_x_istore2, pm_z_iconst, pm_z_isub, Bool.cond_true, Bool.cond_false, Bool.or_false, Bool.false_or, Bool.true_or, Bool.or_true, true_and, and_true, if_true, if_false, List.length_cons, List.length_nil, List.getElem?_cons_zero, List.getElem?_cons_succ, List.set_cons_zero, List.set_cons_succ, Option.toList_some, Option.toList_none, List.cons_append, List.nil_append, beq_self_eq_true, Option.isSome_some, Option.isSome_none, pm_tg_lit, ite_true, ite_false, Nat.reduceAdd, Nat.reduceBEq, Nat.reduceLT, Nat.reduceLeDiff, Nat.reduceEqDiff, Int.reduceAdd, Int.reduceSub, Int.reduceLE, Int.reduceLT, Int.reduceEq, Int.reduceToNat, Int.reduceNeg, Int.cast_ofNat_Int, Int.reduceNatCast, Int.reduceNatCast', Int.zero_add, Int.add_zero, Nat.zero_add, Nat.add_zero, and_self, decide_true, decide_false, zX0_beginOf_B, zX0_beginOf_F, zX0_beginOf_R, zX0_beginOf_X, pm_z_ireti (zX0_beginOf_R), fX0_11, dX0_beginOf_0, dX0_beginOf_1, dX0_beginOf_2, dX0_beginOf_3, dX0_beginOf_6, dX0_beginOf_7, dX0_beginOf_10, dX0_beginOf_11, dX0_beginOf_12, dX0_beginOf_13, dX0_beginOf_14, dX0_beginOf_15, dX0_beginOf_18, dX0_beginOf_21, dX0_beginOf_24, dX0_beginOf_25, h.1, h.2]
    rw [if_pos (by omega)]
    refine ⟨by omega, by omega, ?_⟩
    have e : (((b + (n + 1) : Nat) : Int) - 1).toNat = b + n := by omega
    rw [e, if_neg (hn (b + n) (by omega) (by omega))]
    refine ⟨by omega, ?_⟩
    have e2 : ((b + (n + 1) : Nat) : Int) + -1 = ((b + n : Nat) : Int) := by omega
    rw [e2]
    exact ih b (by omega) (fun j h1 h2 => hn j h1 (by omega)) h0 hP
theorem beginOf_at {f : pm_H} {a r u : Nat} {row : Nat → Int} {k : pm_P} (h : fo_at f a r row u) (place b : Nat) (hb : b ≤ place) (hp : place ≤ 48) (hn : ∀ j, b ≤ j → j < place → row j ≠ -1) (h0 : b = 0 ∨ row (b - 1) = -1) (hk : k (some (.inl (b : Int))) f) : pm_ex T_X0_beginOf [.inr (.inl (some a)), .inl (place : Int)] f k := by
  refine in_X0_beginOf ?_
  refine pm_go_on [2] 60 ?_
  set_option maxRecDepth 100000 in simp (maxSteps := 2000000) only [pm_x_run, pm_x_rt, pm_x_rf, pm_z_S, pm_z_D, pm_z_cut0, pm_z_cut1, pm_z_cli, pm_z_clr, pm_z_cln, pm_z_cll, pm_z_up, pm_x_aload0, pm_x_getf, pm_x_gf, pm_x_goto, pm_x_gv, pm_x_ia, pm_x_iald, pm_x_icmp_eq, pm_x_if_le, pm_x_iinc2, pm_x_iload1, pm_x_iload2, pm_x_istore2, pm_z_iconst, pm_z_isub, Bool.cond_true, Bool.cond_false, Bool.or_false, Bool.false_or, Bool.true_or, Bool.or_true, true_and, and_true, if_true, if_false, List.length_cons, List.length_nil, List.getElem?_cons_zero, List.getElem?_cons_succ, List.set_cons_zero, List.set_cons_succ, Option.toList_some, Option.toList_none, List.cons_append, List.nil_append, beq_self_eq_true, Option.isSome_some, Option.isSome_none, pm_tg_lit, ite_true, ite_false, Nat.reduceAdd, Nat.reduceBEq, Nat.reduceLT, Nat.reduceLeDiff, Nat.reduceEqDiff, Int.reduceAdd, Int.reduceSub, Int.reduceLE, Int.reduceLT, Int.reduceEq, Int.reduceToNat, Int.reduceNeg, Int.cast_ofNat_Int, Int.reduceNatCast, Int.reduceNatCast', Int.zero_add, Int.add_zero, Nat.zero_add, Nat.add_zero, and_self, decide_true, decide_false, zX0_beginOf_B, zX0_beginOf_F, zX0_beginOf_R, zX0_beginOf_X, pm_z_ireti (zX0_beginOf_R), fX0_11, dX0_beginOf_0, dX0_beginOf_1, dX0_beginOf_2, dX0_beginOf_3, dX0_beginOf_6, dX0_beginOf_7, dX0_beginOf_10, dX0_beginOf_11, dX0_beginOf_12, dX0_beginOf_13, dX0_beginOf_14, dX0_beginOf_15, dX0_beginOf_18, dX0_beginOf_21, dX0_beginOf_24, dX0_beginOf_25, h.1, h.2]
  have e : place = b + (place - b) := by omega
  have := beginOf_loop (x := (place : Int)) h (place - b) b (by omega) (fun j h1 h2 => hn j h1 (by omega)) h0 hk
  rw [← e] at this
  exact this
theorem endOf_loop {f : pm_H} {a r u : Nat} {row : Nat → Int} {x : Int} {P : pm_P} (h : fo_at f a r row u) (hu : u ≤ 48) : ∀ (n i e : Nat), i + n = e → e ≤ u → (∀ j, i ≤ j → j < e → row j ≠ -1) → (e = u ∨ row e = -1) → P (some (.inl (e : Int))) f → pm_W eX0_endOf P (fun _ _ => False) 2 [some (.inr (.inl (some a))), some (.inl x), some (.inl (i : Int))] [] f := by
  intro n
  induction n with
  | zero =>
    intro i e he hu' hn h0 hP
    obtain rfl : i = e := by omega
    refine pm_go_on [2] 60 ?_
    set_option maxRecDepth 100000 in simp (maxSteps := 2000000) only [pm_x_run, pm_x_rt, pm_x_rf, pm_z_S, pm_z_D, pm_z_cut0, pm_z_cut1, pm_z_cli, pm_z_clr, pm_z_cln, pm_z_cll, pm_z_up, pm_x_aload0, pm_x_getf, pm_x_gf, pm_x_goto, pm_x_gv, pm_x_ia, pm_x_iald, pm_x_icmp_eq, pm_x_icmp_ge, pm_x_iinc2, pm_x_iload1, pm_x_iload2, pm_x_istore2, pm_z_iconst, Bool.cond_true, Bool.cond_false, Bool.or_false, Bool.false_or, Bool.true_or, Bool.or_true, true_and, and_true, if_true, if_false, List.length_cons, List.length_nil, List.getElem?_cons_zero, List.getElem?_cons_succ, List.set_cons_zero, List.set_cons_succ, Option.toList_some, Option.toList_none, List.cons_append, List.nil_append, beq_self_eq_true, Option.isSome_some, Option.isSome_none, pm_tg_lit, ite_true, ite_false, Nat.reduceAdd, Nat.reduceBEq, Nat.reduceLT, Nat.reduceLeDiff, Nat.reduceEqDiff, Int.reduceAdd, Int.reduceSub, Int.reduceLE, Int.reduceLT, Int.reduceEq, Int.reduceToNat, Int.reduceNeg, Int.cast_ofNat_Int, Int.reduceNatCast, Int.reduceNatCast', Int.zero_add, Int.add_zero, Nat.zero_add, Nat.add_zero, and_self, decide_true, decide_false, zX0_endOf_B, zX0_endOf_F, zX0_endOf_R, zX0_endOf_X, pm_z_ireti (zX0_endOf_R), fX0_15, fX0_11, dX0_endOf_0, dX0_endOf_1, dX0_endOf_2, dX0_endOf_3, dX0_endOf_4, dX0_endOf_7, dX0_endOf_10, dX0_endOf_11, dX0_endOf_14, dX0_endOf_15, dX0_endOf_16, dX0_endOf_17, dX0_endOf_20, dX0_endOf_23, dX0_endOf_26, dX0_endOf_27, h.1, h.2]
    by_cases hz : i = u
    · rw [if_neg (by omega)]
      exact hP
    · rw [if_pos (by omega)]
      refine ⟨by omega, ?_⟩
      rw [Int.toNat_natCast, if_pos (h0.resolve_left hz)]
      exact hP
  | succ n ih =>
    intro i e he hu' hn h0 hP
    refine pm_go_on [2] 60 ?_
    set_option maxRecDepth 100000 in simp (maxSteps := 2000000) only [pm_x_run, pm_x_rt, pm_x_rf, pm_z_S, pm_z_D, pm_z_cut0, pm_z_cut1, pm_z_cli, pm_z_clr, pm_z_cln, pm_z_cll, pm_z_up, pm_x_aload0, pm_x_getf, pm_x_gf, pm_x_goto, pm_x_gv, pm_x_ia, pm_x_iald, pm_x_icmp_eq, pm_x_icmp_ge, pm_x_iinc2, pm_x_iload1, pm_x_iload2, pm_x_istore2, pm_z_iconst, Bool.cond_true, Bool.cond_false, Bool.or_false, Bool.false_or, Bool.true_or, Bool.or_true, true_and, and_true, if_true, if_false, List.length_cons, List.length_nil, List.getElem?_cons_zero, List.getElem?_cons_succ, List.set_cons_zero, List.set_cons_succ, Option.toList_some, Option.toList_none, List.cons_append, List.nil_append, beq_self_eq_true, Option.isSome_some, Option.isSome_none, pm_tg_lit, ite_true, ite_false, Nat.reduceAdd, Nat.reduceBEq, Nat.reduceLT, Nat.reduceLeDiff, Nat.reduceEqDiff, Int.reduceAdd, Int.reduceSub, Int.reduceLE, Int.reduceLT, Int.reduceEq, Int.reduceToNat, Int.reduceNeg, Int.cast_ofNat_Int, Int.reduceNatCast, Int.reduceNatCast', Int.zero_add, Int.add_zero, Nat.zero_add, Nat.add_zero, and_self, decide_true, decide_false, zX0_endOf_B, zX0_endOf_F, zX0_endOf_R, zX0_endOf_X, pm_z_ireti (zX0_endOf_R), fX0_15, fX0_11, dX0_endOf_0, dX0_endOf_1, dX0_endOf_2, dX0_endOf_3, dX0_endOf_4, dX0_endOf_7, dX0_endOf_10, dX0_endOf_11, dX0_endOf_14, dX0_endOf_15, dX0_endOf_16, dX0_endOf_17, dX0_endOf_20, dX0_endOf_23, dX0_endOf_26, dX0_endOf_27, h.1, h.2]
    rw [if_pos (by omega)]
    refine ⟨by omega, ?_⟩
    rw [Int.toNat_natCast, if_neg (hn i (by omega) (by omega))]
    refine ⟨by omega, ?_⟩
    exact ih (i + 1) e (by omega) hu' (fun j h1 h2 => hn j (by omega) h2) h0 hP
theorem endOf_at {f : pm_H} {a r u : Nat} {row : Nat → Int} {k : pm_P} (h : fo_at f a r row u) (hu : u ≤ 48) (place e : Nat) (hb : place ≤ e) (hp : e ≤ u) (hn : ∀ j, place ≤ j → j < e → row j ≠ -1) (h0 : e = u ∨ row e = -1) (hk : k (some (.inl (e : Int))) f) : pm_ex T_X0_endOf [.inr (.inl (some a)), .inl (place : Int)] f k := by
  refine in_X0_endOf ?_
  refine pm_go_on [2] 60 ?_
  set_option maxRecDepth 100000 in simp (maxSteps := 2000000) only [pm_x_run, pm_x_rt, pm_x_rf, pm_z_S, pm_z_D, pm_z_cut0, pm_z_cut1, pm_z_cli, pm_z_clr, pm_z_cln, pm_z_cll, pm_z_up, pm_x_aload0, pm_x_getf, pm_x_gf, pm_x_goto, pm_x_gv, pm_x_ia, pm_x_iald, pm_x_icmp_eq, pm_x_icmp_ge, pm_x_iinc2, pm_x_iload1, pm_x_iload2, pm_x_istore2, pm_z_iconst, Bool.cond_true, Bool.cond_false, Bool.or_false, Bool.false_or, Bool.true_or, Bool.or_true, true_and, and_true, if_true, if_false, List.length_cons, List.length_nil, List.getElem?_cons_zero, List.getElem?_cons_succ, List.set_cons_zero, List.set_cons_succ, Option.toList_some, Option.toList_none, List.cons_append, List.nil_append, beq_self_eq_true, Option.isSome_some, Option.isSome_none, pm_tg_lit, ite_true, ite_false, Nat.reduceAdd, Nat.reduceBEq, Nat.reduceLT, Nat.reduceLeDiff, Nat.reduceEqDiff, Int.reduceAdd, Int.reduceSub, Int.reduceLE, Int.reduceLT, Int.reduceEq, Int.reduceToNat, Int.reduceNeg, Int.cast_ofNat_Int, Int.reduceNatCast, Int.reduceNatCast', Int.zero_add, Int.add_zero, Nat.zero_add, Nat.add_zero, and_self, decide_true, decide_false, zX0_endOf_B, zX0_endOf_F, zX0_endOf_R, zX0_endOf_X, pm_z_ireti (zX0_endOf_R), fX0_15, fX0_11, dX0_endOf_0, dX0_endOf_1, dX0_endOf_2, dX0_endOf_3, dX0_endOf_4, dX0_endOf_7, dX0_endOf_10, dX0_endOf_11, dX0_endOf_14, dX0_endOf_15, dX0_endOf_16, dX0_endOf_17, dX0_endOf_20, dX0_endOf_23, dX0_endOf_26, dX0_endOf_27, h.1, h.2]
  exact endOf_loop h hu (e - place) place e (by omega) hp hn h0 hk
/-- the nodes in places lo on, c of them -/
def nd (row : Nat → Int) (lo : Nat) : Nat → Nat → Bool
  | 0, _ => false
  | c + 1, n => nd row lo c n || decide (row (lo + c) = (n : Int))
theorem nodesIn_loop {f : pm_H} {a r u : Nat} {row : Nat → Int} {x y : Int} {P : pm_P} (h : fo_at f a r row u) (hu : u ≤ 48) (lo hi : Nat) (hy : y = (hi : Int)) (hh : hi ≤ u) (hr : ∀ j, lo ≤ j → j < hi → (0 ≤ row j ∧ row j < 16) ∨ 100 ≤ row j) (hP : P (some (.inl ((bs (nd row lo (hi - lo)) 16 : Nat) : Int))) f) : ∀ (n c : Nat), c + n = hi - lo → lo + c ≤ hi → pm_W eX0_nodesIn P (fun _ _ => False) 5 [some (.inr (.inl (some a))), some (.inl x), some (.inl y), some (.inl ((bs (nd row lo c) 16 : Nat) : Int)), some (.inl ((lo + c : Nat) : Int))] [] f := by
  intro n
  induction n with
  | zero =>
    intro c hc hl
    obtain rfl : c = hi - lo := by omega
    refine pm_go_on [5] 60 ?_
    set_option maxRecDepth 100000 in simp (maxSteps := 2000000) only [pm_x_run, pm_x_rt, pm_x_rf, pm_z_S, pm_z_D, pm_z_cut0, pm_z_cut1, pm_z_cli, pm_z_clr, pm_z_cln, pm_z_cll, pm_z_up, pm_x_aload0, pm_x_getf, pm_x_gf, pm_x_goto, pm_x_gv, pm_x_ia, pm_x_iald, pm_x_icmp_ge, pm_x_iinc4, pm_x_iload1, pm_x_iload2, pm_x_iload3, pm_x_iload4, pm_x_istore3, pm_x_istore4, pm_z_bipush, pm_z_iconst, pm_z_ior, pm_z_ishl, Bool.cond_true, Bool.cond_false, Bool.or_false, Bool.false_or, Bool.true_or, Bool.or_true, true_and, and_true, if_true, if_false, List.length_cons, List.length_nil, List.getElem?_cons_zero, List.getElem?_cons_succ, List.set_cons_zero, List.set_cons_succ, Option.toList_some, Option.toList_none, List.cons_append, List.nil_append, beq_self_eq_true, Option.isSome_some, Option.isSome_none, pm_tg_lit, ite_true, ite_false, Nat.reduceAdd, Nat.reduceBEq, Nat.reduceLT, Nat.reduceLeDiff, Nat.reduceEqDiff, Int.reduceAdd, Int.reduceSub, Int.reduceLE, Int.reduceLT, Int.reduceEq, Int.reduceToNat, Int.reduceNeg, Int.cast_ofNat_Int, Int.reduceNatCast, Int.reduceNatCast', Int.zero_add, Int.add_zero, Nat.zero_add, Nat.add_zero, and_self, decide_true, decide_false, zX0_nodesIn_B, zX0_nodesIn_F, zX0_nodesIn_R, zX0_nodesIn_X, pm_z_ireti (zX0_nodesIn_R), fX0_15, fX0_11, dX0_nodesIn_0, dX0_nodesIn_1, dX0_nodesIn_2, dX0_nodesIn_3, dX0_nodesIn_5, dX0_nodesIn_7, dX0_nodesIn_8, dX0_nodesIn_11, dX0_nodesIn_13, dX0_nodesIn_14, dX0_nodesIn_17, dX0_nodesIn_20, dX0_nodesIn_21, dX0_nodesIn_24, dX0_nodesIn_26, dX0_nodesIn_27, dX0_nodesIn_29, dX0_nodesIn_32, dX0_nodesIn_33, dX0_nodesIn_34, dX0_nodesIn_35, dX0_nodesIn_38, dX0_nodesIn_40, dX0_nodesIn_41, dX0_nodesIn_42, dX0_nodesIn_43, dX0_nodesIn_44, dX0_nodesIn_47, dX0_nodesIn_50, dX0_nodesIn_51, h.1, h.2]
    rw [if_neg (by omega)]
    exact hP
  | succ n ih =>
    intro c hc hl
    refine pm_go_on [5] 60 ?_
    set_option maxRecDepth 100000 in simp (maxSteps := 2000000) only [pm_x_run, pm_x_rt, pm_x_rf, pm_z_S, pm_z_D, pm_z_cut0, pm_z_cut1, pm_z_cli, pm_z_clr, pm_z_cln, pm_z_cll, pm_z_up, pm_x_aload0, pm_x_getf, pm_x_gf, pm_x_goto, pm_x_gv, pm_x_ia, pm_x_iald, pm_x_icmp_ge, pm_x_iinc4, pm_x_iload1, pm_x_iload2, pm_x_iload3, pm_x_iload4, pm_x_istore3, pm_x_istore4, pm_z_bipush, pm_z_iconst, pm_z_ior, pm_z_ishl, Bool.cond_true, Bool.cond_false, Bool.or_false, Bool.false_or, Bool.true_or, Bool.or_true, true_and, and_true, if_true, if_false, List.length_cons, List.length_nil, List.getElem?_cons_zero, List.getElem?_cons_succ, List.set_cons_zero, List.set_cons_succ, Option.toList_some, Option.toList_none, List.cons_append, List.nil_append, beq_self_eq_true, Option.isSome_some, Option.isSome_none, pm_tg_lit, ite_true, ite_false, Nat.reduceAdd, Nat.reduceBEq, Nat.reduceLT, Nat.reduceLeDiff, Nat.reduceEqDiff, Int.reduceAdd, Int.reduceSub, Int.reduceLE, Int.reduceLT, Int.reduceEq, Int.reduceToNat, Int.reduceNeg, Int.cast_ofNat_Int, Int.reduceNatCast, Int.reduceNatCast', Int.zero_add, Int.add_zero, Nat.zero_add, Nat.add_zero, and_self, decide_true, decide_false, zX0_nodesIn_B, zX0_nodesIn_F, zX0_nodesIn_R, zX0_nodesIn_X, pm_z_ireti (zX0_nodesIn_R), fX0_15, fX0_11, dX0_nodesIn_0, dX0_nodesIn_1, dX0_nodesIn_2, dX0_nodesIn_3, dX0_nodesIn_5, dX0_nodesIn_7, dX0_nodesIn_8, dX0_nodesIn_11, dX0_nodesIn_13, dX0_nodesIn_14, dX0_nodesIn_17, dX0_nodesIn_20, dX0_nodesIn_21, dX0_nodesIn_24, dX0_nodesIn_26, dX0_nodesIn_27, dX0_nodesIn_29, dX0_nodesIn_32, dX0_nodesIn_33, dX0_nodesIn_34, dX0_nodesIn_35, dX0_nodesIn_38, dX0_nodesIn_40, dX0_nodesIn_41, dX0_nodesIn_42, dX0_nodesIn_43, dX0_nodesIn_44, dX0_nodesIn_47, dX0_nodesIn_50, dX0_nodesIn_51, h.1, h.2]
    rw [if_pos (by omega), if_pos (by omega)]
    refine ⟨by omega, ?_⟩
    rw [Int.toNat_natCast]
    have ih2 := ih (c + 1) (by omega) (by omega)
    rcases hr (lo + c) (by omega) (by omega) with hq | hq
    · rw [if_pos (by omega)]
      refine ⟨by omega, by omega, ?_⟩
      obtain ⟨k, hk⟩ := Int.eq_ofNat_of_zero_le hq.1
      have e1 : pm_or ((bs (nd row lo c) 16 : Nat) : Int) (pm_shl 1 (row (lo + c))) = ((bs (nd row lo (c + 1)) 16 : Nat) : Int) := by
        rw [hk, pb_ins _ (by omega)]
        congr 1
        apply bs_ext
        intro i _
        rw [show nd row lo (c + 1) i = (nd row lo c i || decide (row (lo + c) = (i : Int))) from rfl, show decide (k = i) = decide (row (lo + c) = (i : Int)) from decide_eq_decide.mpr (by omega)]
      rw [e1]
      exact ih2
    · rw [if_neg (by omega)]
      refine ⟨by omega, ?_⟩
      have e1 : bs (nd row lo c) 16 = bs (nd row lo (c + 1)) 16 := by
        apply bs_ext
        intro i hi16
        rw [show nd row lo (c + 1) i = (nd row lo c i || decide (row (lo + c) = (i : Int))) from rfl, decide_eq_false (by omega), Bool.or_false]
      rw [e1]
      exact ih2
theorem nodesIn_at {f : pm_H} {a r u : Nat} {row : Nat → Int} {k : pm_P} (h : fo_at f a r row u) (hu : u ≤ 48) (lo hi : Nat) (hlh : lo ≤ hi) (hh : hi ≤ u) (hr : ∀ j, lo ≤ j → j < hi → (0 ≤ row j ∧ row j < 16) ∨ 100 ≤ row j) (hk : k (some (.inl ((bs (nd row lo (hi - lo)) 16 : Nat) : Int))) f) : pm_ex T_X0_nodesIn [.inr (.inl (some a)), .inl (lo : Int), .inl (hi : Int)] f k := by
  refine in_X0_nodesIn ?_
  refine pm_go_on [5] 60 ?_
  set_option maxRecDepth 100000 in simp (maxSteps := 2000000) only [pm_x_run, pm_x_rt, pm_x_rf, pm_z_S, pm_z_D, pm_z_cut0, pm_z_cut1, pm_z_cli, pm_z_clr, pm_z_cln, pm_z_cll, pm_z_up, pm_x_aload0, pm_x_getf, pm_x_gf, pm_x_goto, pm_x_gv, pm_x_ia, pm_x_iald, pm_x_icmp_ge, pm_x_iinc4, pm_x_iload1, pm_x_iload2, pm_x_iload3, pm_x_iload4, pm_x_istore3, pm_x_istore4, pm_z_bipush, pm_z_iconst, pm_z_ior, pm_z_ishl, Bool.cond_true, Bool.cond_false, Bool.or_false, Bool.false_or, Bool.true_or, Bool.or_true, true_and, and_true, if_true, if_false, List.length_cons, List.length_nil, List.getElem?_cons_zero, List.getElem?_cons_succ, List.set_cons_zero, List.set_cons_succ, Option.toList_some, Option.toList_none, List.cons_append, List.nil_append, beq_self_eq_true, Option.isSome_some, Option.isSome_none, pm_tg_lit, ite_true, ite_false, Nat.reduceAdd, Nat.reduceBEq, Nat.reduceLT, Nat.reduceLeDiff, Nat.reduceEqDiff, Int.reduceAdd, Int.reduceSub, Int.reduceLE, Int.reduceLT, Int.reduceEq, Int.reduceToNat, Int.reduceNeg, Int.cast_ofNat_Int, Int.reduceNatCast, Int.reduceNatCast', Int.zero_add, Int.add_zero, Nat.zero_add, Nat.add_zero, and_self, decide_true, decide_false, zX0_nodesIn_B, zX0_nodesIn_F, zX0_nodesIn_R, zX0_nodesIn_X, pm_z_ireti (zX0_nodesIn_R), fX0_15, fX0_11, dX0_nodesIn_0, dX0_nodesIn_1, dX0_nodesIn_2, dX0_nodesIn_3, dX0_nodesIn_5, dX0_nodesIn_7, dX0_nodesIn_8, dX0_nodesIn_11, dX0_nodesIn_13, dX0_nodesIn_14, dX0_nodesIn_17, dX0_nodesIn_20, dX0_nodesIn_21, dX0_nodesIn_24, dX0_nodesIn_26, dX0_nodesIn_27, dX0_nodesIn_29, dX0_nodesIn_32, dX0_nodesIn_33, dX0_nodesIn_34, dX0_nodesIn_35, dX0_nodesIn_38, dX0_nodesIn_40, dX0_nodesIn_41, dX0_nodesIn_42, dX0_nodesIn_43, dX0_nodesIn_44, dX0_nodesIn_47, dX0_nodesIn_50, dX0_nodesIn_51, h.1, h.2]
  exact nodesIn_loop (x := (lo : Int)) (y := (hi : Int)) h hu lo hi rfl hh hr hk (hi - lo) 0 (by omega) (by omega)
