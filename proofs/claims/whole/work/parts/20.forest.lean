theorem pm_tg_lit {pc : Nat} {o : Int} : pm_tg pc o = if 0 ≤ (pc : Int) + o then some ((pc : Int) + o).toNat else none := rfl
def fo_at (f : pm_H) (a r : Nat) (row : Nat → Int) (used : Int) : Prop := f a = some (.inr (.inr (.inr (0, [.inr (.inl (some r)), .inl used])))) ∧ f r = some (.inl (48, row))
theorem placeOf_loop {f : pm_H} {a r : Nat} {row : Nat → Int} {used item fr : Int} {P : pm_P} (h : fo_at f a r row used) (hu : 0 ≤ used ∧ used ≤ 48) (hP : ∀ z, P (some (.inl z)) f) : ∀ (n : Nat) (i : Int), 0 ≤ i → used - i ≤ (n : Int) → pm_W eX0_placeOf P (fun _ _ => False) 2 [some (.inr (.inl (some a))), some (.inl item), some (.inl fr), some (.inl i)] [] f := by
  intro n
  induction n with
  | zero =>
    intro i h0 h1
    refine pm_go_on [2] 60 ?_
    simp only [pm_z_run, pm_z_S, pm_z_D, pm_z_cut0, pm_z_cut1, pm_z_lg0, pm_z_lg1, pm_z_ls0, pm_z_ls1, pm_z_ls2, pm_z_cli, pm_z_clr, pm_z_cln, pm_z_cll, pm_z_up, pm_z_tn, pm_z_t0, pm_z_ai, pm_z_aload_0, pm_z_fe, pm_z_getf, pm_z_goto, pm_z_iald, pm_z_icmp_ge, pm_z_icmp_ne, pm_z_iconst, pm_z_iinc, pm_z_iload_1, pm_z_iload_2, pm_z_iload_3, pm_z_istore_3, pm_z_kI, pm_z_kR, pm_z_kt, pm_z_ob, pm_z_vv, Bool.cond_true, Bool.cond_false, Bool.or_false, Bool.false_or, Bool.true_or, Bool.or_true, true_and, and_true, if_true, if_false, List.length_cons, List.length_nil, List.getElem?_cons_zero, List.getElem?_cons_succ, List.set_cons_zero, List.set_cons_succ, Option.toList_some, Option.toList_none, List.cons_append, List.nil_append, beq_self_eq_true, Option.isSome_some, Option.isSome_none, pm_tg_lit, ite_true, ite_false, Nat.reduceAdd, Nat.reduceBEq, Nat.reduceLT, Nat.reduceLeDiff, Nat.reduceEqDiff, Int.reduceAdd, Int.reduceSub, Int.reduceLE, Int.reduceLT, Int.reduceEq, Int.reduceToNat, Int.reduceNeg, Int.cast_ofNat_Int, Int.reduceNatCast, Int.reduceNatCast', Int.zero_add, Int.add_zero, Nat.zero_add, Nat.add_zero, and_self, decide_true, decide_false, zX0_placeOf_B, zX0_placeOf_F, zX0_placeOf_R, zX0_placeOf_X, pm_z_ireti (zX0_placeOf_R), fX0_15, fX0_11, dX0_placeOf_0, dX0_placeOf_1, dX0_placeOf_2, dX0_placeOf_3, dX0_placeOf_4, dX0_placeOf_7, dX0_placeOf_10, dX0_placeOf_11, dX0_placeOf_14, dX0_placeOf_15, dX0_placeOf_16, dX0_placeOf_17, dX0_placeOf_20, dX0_placeOf_21, dX0_placeOf_22, dX0_placeOf_25, dX0_placeOf_28, dX0_placeOf_29, h.1, h.2]
    trace_state
    sorry
  | succ n ih => sorry
