def fo_set (f : pm_H) (a r : Nat) (row : Nat → Int) (m : Nat) : pm_H := pm_up (pm_up f r (.inl (48, row))) a (.inr (.inr (.inr (0, [.inr (.inl (some r)), .inl (m : Int)]))))
theorem fo_set_at {f : pm_H} {a r m : Nat} {row : Nat → Int} (har : a ≠ r) : fo_at (fo_set f a r row m) a r row m := ⟨up_eq, by unfold fo_set; rw [up_ne (Ne.symm har)]; exact up_eq⟩
theorem fo_set_q {f : pm_H} {a r m q : Nat} {row : Nat → Int} (h1 : q ≠ a) (h2 : q ≠ r) : fo_set f a r row m q = f q := by unfold fo_set; rw [up_ne h1, up_ne h2]
theorem fo_set_ext {f f' : pm_H} {a r m : Nat} {row : Nat → Int} (h : fo_at f' a r row m) (hq : ∀ q, q ≠ a → q ≠ r → f' q = f q) : f' = fo_set f a r row m := by
  funext q
  unfold fo_set pm_up
  by_cases h1 : q = a
  · rw [if_pos h1, h1]; exact h.1
  · rw [if_neg h1]
    by_cases h2 : q = r
    · rw [if_pos h2, h2]; exact h.2
    · rw [if_neg h2]; exact hq q h1 h2
/-- each node alone -/
def sng (n : Nat) : List (List Int) := (List.range n).map (fun i : Nat => [(i : Int)])
theorem sng_s (n : Nat) : sng (n + 1) = sng n ++ [[(n : Int)]] := by simp [sng, List.range_succ]
theorem plant_loop {a r nn : Nat} {k : pm_P} (har : a ≠ r) (hn : nn ≤ 16) (f0 : pm_H) (hk : ∀ row' : Nat → Int, fo_ts row' (2 * nn) (sng nn) → k none (fo_set f0 a r row' (2 * nn))) : ∀ (n : Nat) (f : pm_H) (row : Nat → Int) (i u : Nat), i + n = nn → u = 2 * i → fo_at f a r row u → (∀ q, q ≠ a → q ≠ r → f q = f0 q) → fo_ts row u (sng i) → pm_W eX0_plant k (fun _ _ => False) 7 [some (.inr (.inl (some a))), some (.inl (nn : Int)), some (.inl (i : Int))] [] f := by
  intro n
  induction n with
  | zero =>
    intro f row i u hi hu h hq ht
    obtain rfl : i = nn := by omega
    subst hu
    refine pm_go_on [7] 60 ?_
    set_option maxRecDepth 100000 in simp (maxSteps := 2000000) only [pm_x_run, pm_x_rt, pm_x_rf, pm_z_S, pm_z_D, pm_z_cut0, pm_z_cut1, pm_z_cli, pm_z_clr, pm_z_cln, pm_z_cll, pm_z_up, pm_x_aload0, pm_x_fit1, pm_x_fit2, pm_x_getf, pm_x_gf, pm_x_goto, pm_x_gv, pm_x_iast, pm_x_icmp_ge, pm_x_iinc2, pm_x_iload1, pm_x_iload2, pm_x_is, pm_x_istore2, pm_x_pf, pm_x_putf, pm_x_pv, pm_z_bipush, pm_z_dup_i, pm_z_dup_r, pm_z_iadd, pm_z_iconst, pm_z_vret, Bool.cond_true, Bool.cond_false, Bool.or_false, Bool.false_or, Bool.true_or, Bool.or_true, true_and, and_true, if_true, if_false, List.length_cons, List.length_nil, List.getElem?_cons_zero, List.getElem?_cons_succ, List.set_cons_zero, List.set_cons_succ, Option.toList_some, Option.toList_none, List.cons_append, List.nil_append, beq_self_eq_true, Option.isSome_some, Option.isSome_none, pm_tg_lit, ite_true, ite_false, Nat.reduceAdd, Nat.reduceBEq, Nat.reduceLT, Nat.reduceLeDiff, Nat.reduceEqDiff, Int.reduceAdd, Int.reduceSub, Int.reduceLE, Int.reduceLT, Int.reduceEq, Int.reduceToNat, Int.reduceNeg, Int.cast_ofNat_Int, Int.reduceNatCast, Int.reduceNatCast', Int.zero_add, Int.add_zero, Nat.zero_add, Nat.add_zero, and_self, decide_true, decide_false, zX0_plant_B, zX0_plant_F, zX0_plant_R, zX0_plant_X, fX0_15, fX0_11, dX0_plant_0, dX0_plant_1, dX0_plant_2, dX0_plant_5, dX0_plant_6, dX0_plant_7, dX0_plant_8, dX0_plant_9, dX0_plant_12, dX0_plant_13, dX0_plant_16, dX0_plant_17, dX0_plant_18, dX0_plant_20, dX0_plant_23, dX0_plant_24, dX0_plant_27, dX0_plant_28, dX0_plant_31, dX0_plant_32, dX0_plant_33, dX0_plant_34, dX0_plant_37, dX0_plant_38, dX0_plant_41, dX0_plant_42, dX0_plant_43, dX0_plant_44, dX0_plant_45, dX0_plant_46, dX0_plant_47, dX0_plant_50, dX0_plant_51, dX0_plant_52, dX0_plant_55, dX0_plant_58, dX0_plant_61, h.1, h.2, pm_z_un har, pm_z_un (Ne.symm har)]
    rw [if_neg (by omega), fo_set_ext h hq]
    exact hk row ht
  | succ n ih =>
    intro f row i u hi hu h hq ht
    refine pm_go_on [7] 60 ?_
    set_option maxRecDepth 100000 in simp (maxSteps := 2000000) only [pm_x_run, pm_x_rt, pm_x_rf, pm_z_S, pm_z_D, pm_z_cut0, pm_z_cut1, pm_z_cli, pm_z_clr, pm_z_cln, pm_z_cll, pm_z_up, pm_x_aload0, pm_x_fit1, pm_x_fit2, pm_x_getf, pm_x_gf, pm_x_goto, pm_x_gv, pm_x_iast, pm_x_icmp_ge, pm_x_iinc2, pm_x_iload1, pm_x_iload2, pm_x_is, pm_x_istore2, pm_x_pf, pm_x_putf, pm_x_pv, pm_z_bipush, pm_z_dup_i, pm_z_dup_r, pm_z_iadd, pm_z_iconst, pm_z_vret, Bool.cond_true, Bool.cond_false, Bool.or_false, Bool.false_or, Bool.true_or, Bool.or_true, true_and, and_true, if_true, if_false, List.length_cons, List.length_nil, List.getElem?_cons_zero, List.getElem?_cons_succ, List.set_cons_zero, List.set_cons_succ, Option.toList_some, Option.toList_none, List.cons_append, List.nil_append, beq_self_eq_true, Option.isSome_some, Option.isSome_none, pm_tg_lit, ite_true, ite_false, Nat.reduceAdd, Nat.reduceBEq, Nat.reduceLT, Nat.reduceLeDiff, Nat.reduceEqDiff, Int.reduceAdd, Int.reduceSub, Int.reduceLE, Int.reduceLT, Int.reduceEq, Int.reduceToNat, Int.reduceNeg, Int.cast_ofNat_Int, Int.reduceNatCast, Int.reduceNatCast', Int.zero_add, Int.add_zero, Nat.zero_add, Nat.add_zero, and_self, decide_true, decide_false, zX0_plant_B, zX0_plant_F, zX0_plant_R, zX0_plant_X, fX0_15, fX0_11, dX0_plant_0, dX0_plant_1, dX0_plant_2, dX0_plant_5, dX0_plant_6, dX0_plant_7, dX0_plant_8, dX0_plant_9, dX0_plant_12, dX0_plant_13, dX0_plant_16, dX0_plant_17, dX0_plant_18, dX0_plant_20, dX0_plant_23, dX0_plant_24, dX0_plant_27, dX0_plant_28, dX0_plant_31, dX0_plant_32, dX0_plant_33, dX0_plant_34, dX0_plant_37, dX0_plant_38, dX0_plant_41, dX0_plant_42, dX0_plant_43, dX0_plant_44, dX0_plant_45, dX0_plant_46, dX0_plant_47, dX0_plant_50, dX0_plant_51, dX0_plant_52, dX0_plant_55, dX0_plant_58, dX0_plant_61, h.1, h.2, pm_z_un har, pm_z_un (Ne.symm har)]
    rw [if_pos (by omega)]
    refine ⟨by omega, ?_⟩
    rw [if_pos (by omega)]
    refine ⟨by omega, by omega, by omega, by omega, by omega, ?_⟩
    rw [up_up]
    have e1 : ((u : Int)).toNat = u := by omega
    have e2 : ((u : Int) + 1).toNat = u + 1 := by omega
    rw [e1, e2]
    refine ih _ (pm_us (pm_us row u (i : Int)) (u + 1) (-1)) (i + 1) (u + 2) (by omega) (by omega) ⟨up_eq, by rw [up_ne (Ne.symm har)]; exact up_eq⟩ (fun q h1 h2 => by rw [up_ne h1, up_ne h2]; exact hq q h1 h2) ⟨?_, ?_⟩
    · rw [fl_us, fl_us, ht.1, sng_s, fla_app, fla_cons, fla_nil]
      simp
    · rw [sng_s]
      intro t h1
      rcases List.mem_append.mp h1 with h1 | h1
      · exact ht.2 t h1
      · rw [List.mem_singleton.mp h1]
        intro v hv
        rw [List.mem_singleton.mp hv]
        left; omega
theorem plant_at {f : pm_H} {a r u nn : Nat} {row : Nat → Int} {k : pm_P} (h : fo_at f a r row u) (har : a ≠ r) (hn : nn ≤ 16) (hk : ∀ row' : Nat → Int, fo_ts row' (2 * nn) (sng nn) → k none (fo_set f a r row' (2 * nn))) : pm_ex T_X0_plant [.inr (.inl (some a)), .inl (nn : Int)] f k := by
  refine in_X0_plant ?_
  refine pm_go_on [7] 60 ?_
  set_option maxRecDepth 100000 in simp (maxSteps := 2000000) only [pm_x_run, pm_x_rt, pm_x_rf, pm_z_S, pm_z_D, pm_z_cut0, pm_z_cut1, pm_z_cli, pm_z_clr, pm_z_cln, pm_z_cll, pm_z_up, pm_x_aload0, pm_x_fit1, pm_x_fit2, pm_x_getf, pm_x_gf, pm_x_goto, pm_x_gv, pm_x_iast, pm_x_icmp_ge, pm_x_iinc2, pm_x_iload1, pm_x_iload2, pm_x_is, pm_x_istore2, pm_x_pf, pm_x_putf, pm_x_pv, pm_z_bipush, pm_z_dup_i, pm_z_dup_r, pm_z_iadd, pm_z_iconst, pm_z_vret, Bool.cond_true, Bool.cond_false, Bool.or_false, Bool.false_or, Bool.true_or, Bool.or_true, true_and, and_true, if_true, if_false, List.length_cons, List.length_nil, List.getElem?_cons_zero, List.getElem?_cons_succ, List.set_cons_zero, List.set_cons_succ, Option.toList_some, Option.toList_none, List.cons_append, List.nil_append, beq_self_eq_true, Option.isSome_some, Option.isSome_none, pm_tg_lit, ite_true, ite_false, Nat.reduceAdd, Nat.reduceBEq, Nat.reduceLT, Nat.reduceLeDiff, Nat.reduceEqDiff, Int.reduceAdd, Int.reduceSub, Int.reduceLE, Int.reduceLT, Int.reduceEq, Int.reduceToNat, Int.reduceNeg, Int.cast_ofNat_Int, Int.reduceNatCast, Int.reduceNatCast', Int.zero_add, Int.add_zero, Nat.zero_add, Nat.add_zero, and_self, decide_true, decide_false, zX0_plant_B, zX0_plant_F, zX0_plant_R, zX0_plant_X, fX0_15, fX0_11, dX0_plant_0, dX0_plant_1, dX0_plant_2, dX0_plant_5, dX0_plant_6, dX0_plant_7, dX0_plant_8, dX0_plant_9, dX0_plant_12, dX0_plant_13, dX0_plant_16, dX0_plant_17, dX0_plant_18, dX0_plant_20, dX0_plant_23, dX0_plant_24, dX0_plant_27, dX0_plant_28, dX0_plant_31, dX0_plant_32, dX0_plant_33, dX0_plant_34, dX0_plant_37, dX0_plant_38, dX0_plant_41, dX0_plant_42, dX0_plant_43, dX0_plant_44, dX0_plant_45, dX0_plant_46, dX0_plant_47, dX0_plant_50, dX0_plant_51, dX0_plant_52, dX0_plant_55, dX0_plant_58, dX0_plant_61, h.1, h.2, pm_z_un har, pm_z_un (Ne.symm har)]
  exact plant_loop har hn f hk nn _ row 0 0 (by omega) rfl ⟨up_eq, by rw [up_ne (Ne.symm har)]; exact h.2⟩ (fun q h1 _ => up_ne h1) ⟨rfl, fun t ht => by simp [sng] at ht⟩
theorem acp_at {f : pm_H} {a0 a1 n0 n1 : Nat} {g0 g1 : Nat → Int} {k : pm_P} {sp dp n : Int} (h0 : f a0 = some (.inl (n0, g0))) (h1 : f a1 = some (.inl (n1, g1))) (hc : 0 ≤ sp ∧ 0 ≤ dp ∧ 0 ≤ n ∧ sp + n ≤ (n0 : Int) ∧ dp + n ≤ (n1 : Int)) (hk : k none (pm_up f a1 (.inl (n1, va_cpy g0 g1 sp.toNat dp.toNat n.toNat)))) : pm_ex pm_acp [.inr (.inl (some a0)), .inl sp, .inr (.inl (some a1)), .inl dp, .inl n] f k :=
  ⟨k, ⟨a0, a1, sp, dp, n, n0, g0, n1, g1, rfl, h0, h1, hc, hk⟩, fun _ _ h => h⟩
theorem fcopy_at {f : pm_H} {a r u b s v : Nat} {row row2 : Nat → Int} {k : pm_P} (h : fo_at f a r row u) (hb : fo_at f b s row2 v) (har : a ≠ r) (hbr : b ≠ r) (hk : k none (fo_set f a r (va_cpy row2 row 0 0 48) v)) : pm_ex T_X0_copyFrom [.inr (.inl (some a)), .inr (.inl (some b))] f k := by
  refine in_X0_copyFrom ?_
  refine pm_go_on [] 60 ?_
  set_option maxRecDepth 100000 in simp (maxSteps := 2000000) only [pm_x_run, pm_x_rt, pm_x_rf, pm_z_S, pm_z_D, pm_z_cut0, pm_z_cut1, pm_z_cli, pm_z_clr, pm_z_cln, pm_z_cll, pm_z_up, pm_x_aload0, pm_x_aload1, pm_x_c, pm_x_c2, pm_x_cn0, pm_x_cn1, pm_x_fit1, pm_x_fit2, pm_x_getf, pm_x_gf, pm_x_gv, pm_x_invs, pm_x_pf, pm_x_putf, pm_x_pv, pm_z_bipush, pm_z_cat0, pm_z_cati, pm_z_catl, pm_z_catr, pm_z_iconst, pm_z_pop0, pm_z_pop1, pm_z_rcv0, pm_z_vret, Bool.cond_true, Bool.cond_false, Bool.or_false, Bool.false_or, Bool.true_or, Bool.or_true, true_and, and_true, if_true, if_false, List.length_cons, List.length_nil, List.getElem?_cons_zero, List.getElem?_cons_succ, List.set_cons_zero, List.set_cons_succ, Option.toList_some, Option.toList_none, List.cons_append, List.nil_append, beq_self_eq_true, Option.isSome_some, Option.isSome_none, pm_tg_lit, ite_true, ite_false, Nat.reduceAdd, Nat.reduceBEq, Nat.reduceLT, Nat.reduceLeDiff, Nat.reduceEqDiff, Int.reduceAdd, Int.reduceSub, Int.reduceLE, Int.reduceLT, Int.reduceEq, Int.reduceToNat, Int.reduceNeg, Int.cast_ofNat_Int, Int.reduceNatCast, Int.reduceNatCast', Int.zero_add, Int.add_zero, Nat.zero_add, Nat.add_zero, and_self, decide_true, decide_false, zX0_copyFrom_B, zX0_copyFrom_F, zX0_copyFrom_R, zX0_copyFrom_X, zX0_copyFrom_C19, fX0_11, fX0_15, dX0_copyFrom_0, dX0_copyFrom_1, dX0_copyFrom_4, dX0_copyFrom_5, dX0_copyFrom_6, dX0_copyFrom_9, dX0_copyFrom_10, dX0_copyFrom_12, dX0_copyFrom_15, dX0_copyFrom_16, dX0_copyFrom_17, dX0_copyFrom_20, dX0_copyFrom_23, h.1, h.2, hb.1, hb.2, pm_z_un har, pm_z_un hbr]
  refine acp_at hb.2 h.2 (by omega) ?_
  set_option maxRecDepth 100000 in simp (maxSteps := 2000000) only [pm_x_run, pm_x_rt, pm_x_rf, pm_z_S, pm_z_D, pm_z_cut0, pm_z_cut1, pm_z_cli, pm_z_clr, pm_z_cln, pm_z_cll, pm_z_up, pm_x_aload0, pm_x_aload1, pm_x_c, pm_x_c2, pm_x_cn0, pm_x_cn1, pm_x_fit1, pm_x_fit2, pm_x_getf, pm_x_gf, pm_x_gv, pm_x_invs, pm_x_pf, pm_x_putf, pm_x_pv, pm_z_bipush, pm_z_cat0, pm_z_cati, pm_z_catl, pm_z_catr, pm_z_iconst, pm_z_pop0, pm_z_pop1, pm_z_rcv0, pm_z_vret, Bool.cond_true, Bool.cond_false, Bool.or_false, Bool.false_or, Bool.true_or, Bool.or_true, true_and, and_true, if_true, if_false, List.length_cons, List.length_nil, List.getElem?_cons_zero, List.getElem?_cons_succ, List.set_cons_zero, List.set_cons_succ, Option.toList_some, Option.toList_none, List.cons_append, List.nil_append, beq_self_eq_true, Option.isSome_some, Option.isSome_none, pm_tg_lit, ite_true, ite_false, Nat.reduceAdd, Nat.reduceBEq, Nat.reduceLT, Nat.reduceLeDiff, Nat.reduceEqDiff, Int.reduceAdd, Int.reduceSub, Int.reduceLE, Int.reduceLT, Int.reduceEq, Int.reduceToNat, Int.reduceNeg, Int.cast_ofNat_Int, Int.reduceNatCast, Int.reduceNatCast', Int.zero_add, Int.add_zero, Nat.zero_add, Nat.add_zero, and_self, decide_true, decide_false, zX0_copyFrom_B, zX0_copyFrom_F, zX0_copyFrom_R, zX0_copyFrom_X, zX0_copyFrom_C19, fX0_11, fX0_15, dX0_copyFrom_0, dX0_copyFrom_1, dX0_copyFrom_4, dX0_copyFrom_5, dX0_copyFrom_6, dX0_copyFrom_9, dX0_copyFrom_10, dX0_copyFrom_12, dX0_copyFrom_15, dX0_copyFrom_16, dX0_copyFrom_17, dX0_copyFrom_20, dX0_copyFrom_23, h.1, h.2, hb.1, hb.2, pm_z_un har, pm_z_un hbr]
  exact hk
theorem trees_loop {f : pm_H} {a r u : Nat} {row : Nat → Int} {P : pm_P} (h : fo_at f a r row u) (hu : u ≤ 48) (hP : P (some (.inl (((fl row u).count (-1) : Nat) : Int))) f) : ∀ (n i : Nat), i + n = u → pm_W eX0_trees P (fun _ _ => False) 4 [some (.inr (.inl (some a))), some (.inl (((fl row i).count (-1) : Nat) : Int)), some (.inl (i : Int))] [] f := by
  intro n
  induction n with
  | zero =>
    intro i hi
    obtain rfl : i = u := by omega
    refine pm_go_on [4] 60 ?_
    set_option maxRecDepth 100000 in simp (maxSteps := 2000000) only [pm_x_run, pm_x_rt, pm_x_rf, pm_z_S, pm_z_D, pm_z_cut0, pm_z_cut1, pm_z_cli, pm_z_clr, pm_z_cln, pm_z_cll, pm_z_up, pm_x_aload0, pm_x_getf, pm_x_gf, pm_x_goto, pm_x_gv, pm_x_ia, pm_x_iald, pm_x_icmp_ge, pm_x_icmp_ne, pm_x_iinc1, pm_x_iinc2, pm_x_iload1, pm_x_iload2, pm_x_istore1, pm_x_istore2, pm_z_iconst, Bool.cond_true, Bool.cond_false, Bool.or_false, Bool.false_or, Bool.true_or, Bool.or_true, true_and, and_true, if_true, if_false, List.length_cons, List.length_nil, List.getElem?_cons_zero, List.getElem?_cons_succ, List.set_cons_zero, List.set_cons_succ, Option.toList_some, Option.toList_none, List.cons_append, List.nil_append, beq_self_eq_true, Option.isSome_some, Option.isSome_none, pm_tg_lit, ite_true, ite_false, Nat.reduceAdd, Nat.reduceBEq, Nat.reduceLT, Nat.reduceLeDiff, Nat.reduceEqDiff, Int.reduceAdd, Int.reduceSub, Int.reduceLE, Int.reduceLT, Int.reduceEq, Int.reduceToNat, Int.reduceNeg, Int.cast_ofNat_Int, Int.reduceNatCast, Int.reduceNatCast', Int.zero_add, Int.add_zero, Nat.zero_add, Nat.add_zero, and_self, decide_true, decide_false, zX0_trees_B, zX0_trees_F, zX0_trees_R, zX0_trees_X, pm_z_ireti (zX0_trees_R), fX0_15, fX0_11, dX0_trees_0, dX0_trees_1, dX0_trees_2, dX0_trees_3, dX0_trees_4, dX0_trees_5, dX0_trees_6, dX0_trees_9, dX0_trees_12, dX0_trees_13, dX0_trees_16, dX0_trees_17, dX0_trees_18, dX0_trees_19, dX0_trees_22, dX0_trees_25, dX0_trees_28, dX0_trees_31, dX0_trees_32, h.1, h.2]
    rw [if_neg (by omega)]
    exact hP
  | succ n ih =>
    intro i hi
    have hc : (fl row i).count (-1) ≤ 48 := by
      have := List.count_le_length (a := (-1 : Int)) (l := fl row i)
      rw [fl_len] at this
      omega
    have ih2 := ih (i + 1) (by omega)
    rw [fl_s, List.count_append] at ih2
    refine pm_go_on [4] 60 ?_
    set_option maxRecDepth 100000 in simp (maxSteps := 2000000) only [pm_x_run, pm_x_rt, pm_x_rf, pm_z_S, pm_z_D, pm_z_cut0, pm_z_cut1, pm_z_cli, pm_z_clr, pm_z_cln, pm_z_cll, pm_z_up, pm_x_aload0, pm_x_getf, pm_x_gf, pm_x_goto, pm_x_gv, pm_x_ia, pm_x_iald, pm_x_icmp_ge, pm_x_icmp_ne, pm_x_iinc1, pm_x_iinc2, pm_x_iload1, pm_x_iload2, pm_x_istore1, pm_x_istore2, pm_z_iconst, Bool.cond_true, Bool.cond_false, Bool.or_false, Bool.false_or, Bool.true_or, Bool.or_true, true_and, and_true, if_true, if_false, List.length_cons, List.length_nil, List.getElem?_cons_zero, List.getElem?_cons_succ, List.set_cons_zero, List.set_cons_succ, Option.toList_some, Option.toList_none, List.cons_append, List.nil_append, beq_self_eq_true, Option.isSome_some, Option.isSome_none, pm_tg_lit, ite_true, ite_false, Nat.reduceAdd, Nat.reduceBEq, Nat.reduceLT, Nat.reduceLeDiff, Nat.reduceEqDiff, Int.reduceAdd, Int.reduceSub, Int.reduceLE, Int.reduceLT, Int.reduceEq, Int.reduceToNat, Int.reduceNeg, Int.cast_ofNat_Int, Int.reduceNatCast, Int.reduceNatCast', Int.zero_add, Int.add_zero, Nat.zero_add, Nat.add_zero, and_self, decide_true, decide_false, zX0_trees_B, zX0_trees_F, zX0_trees_R, zX0_trees_X, pm_z_ireti (zX0_trees_R), fX0_15, fX0_11, dX0_trees_0, dX0_trees_1, dX0_trees_2, dX0_trees_3, dX0_trees_4, dX0_trees_5, dX0_trees_6, dX0_trees_9, dX0_trees_12, dX0_trees_13, dX0_trees_16, dX0_trees_17, dX0_trees_18, dX0_trees_19, dX0_trees_22, dX0_trees_25, dX0_trees_28, dX0_trees_31, dX0_trees_32, h.1, h.2]
    rw [if_pos (by omega)]
    refine ⟨by omega, ?_⟩
    rw [Int.toNat_natCast]
    by_cases hr : row i = -1
    · rw [if_pos hr]
      refine ⟨by omega, by omega, ?_⟩
      rw [hr, List.count_singleton_self] at ih2
      exact ih2
    · rw [if_neg hr]
      refine ⟨by omega, ?_⟩
      rw [List.count_singleton, if_neg (by simpa using hr)] at ih2
      exact ih2
theorem fla_count : ∀ {ts : List (List Int)}, (∀ t ∈ ts, okT t) → (fla ts).count (-1) = ts.length
  | [], _ => rfl
  | t :: ts, h => by
    rw [fla_cons, List.count_append, List.count_append, fla_count (fun t ht => h t (List.mem_cons_of_mem _ ht)), List.count_singleton_self, List.count_eq_zero.mpr (okT_stop (h t List.mem_cons_self)), List.length_cons]
    omega
theorem trees_at {f : pm_H} {a r u : Nat} {row : Nat → Int} {ts : List (List Int)} {k : pm_P} (h : fo_at f a r row u) (hu : u ≤ 48) (ht : fo_ts row u ts) (hk : k (some (.inl (ts.length : Int))) f) : pm_ex T_X0_trees [.inr (.inl (some a))] f k := by
  refine in_X0_trees ?_
  refine pm_go_on [4] 60 ?_
  set_option maxRecDepth 100000 in simp (maxSteps := 2000000) only [pm_x_run, pm_x_rt, pm_x_rf, pm_z_S, pm_z_D, pm_z_cut0, pm_z_cut1, pm_z_cli, pm_z_clr, pm_z_cln, pm_z_cll, pm_z_up, pm_x_aload0, pm_x_getf, pm_x_gf, pm_x_goto, pm_x_gv, pm_x_ia, pm_x_iald, pm_x_icmp_ge, pm_x_icmp_ne, pm_x_iinc1, pm_x_iinc2, pm_x_iload1, pm_x_iload2, pm_x_istore1, pm_x_istore2, pm_z_iconst, Bool.cond_true, Bool.cond_false, Bool.or_false, Bool.false_or, Bool.true_or, Bool.or_true, true_and, and_true, if_true, if_false, List.length_cons, List.length_nil, List.getElem?_cons_zero, List.getElem?_cons_succ, List.set_cons_zero, List.set_cons_succ, Option.toList_some, Option.toList_none, List.cons_append, List.nil_append, beq_self_eq_true, Option.isSome_some, Option.isSome_none, pm_tg_lit, ite_true, ite_false, Nat.reduceAdd, Nat.reduceBEq, Nat.reduceLT, Nat.reduceLeDiff, Nat.reduceEqDiff, Int.reduceAdd, Int.reduceSub, Int.reduceLE, Int.reduceLT, Int.reduceEq, Int.reduceToNat, Int.reduceNeg, Int.cast_ofNat_Int, Int.reduceNatCast, Int.reduceNatCast', Int.zero_add, Int.add_zero, Nat.zero_add, Nat.add_zero, and_self, decide_true, decide_false, zX0_trees_B, zX0_trees_F, zX0_trees_R, zX0_trees_X, pm_z_ireti (zX0_trees_R), fX0_15, fX0_11, dX0_trees_0, dX0_trees_1, dX0_trees_2, dX0_trees_3, dX0_trees_4, dX0_trees_5, dX0_trees_6, dX0_trees_9, dX0_trees_12, dX0_trees_13, dX0_trees_16, dX0_trees_17, dX0_trees_18, dX0_trees_19, dX0_trees_22, dX0_trees_25, dX0_trees_28, dX0_trees_31, dX0_trees_32, h.1, h.2]
  refine trees_loop h hu ?_ u 0 (by omega)
  rw [ht.1, fla_count ht.2]
  exact hk
/-- what a tour shows at a place: a bracket that closes is 100 more -/
def itm (t : List Int) (i : Nat) : Int := if 100 ≤ t.getD i 0 ∧ t.getD i 0 ∈ t.take i then t.getD i 0 + 100 else t.getD i 0
theorem itemOf_seg {f : pm_H} {a r u : Nat} {row : Nat → Int} {A t1 t2 B : List Int} {x kk : Int} {k : pm_P} (h : fo_at f a r row u) (hu : u ≤ 48) (hs : fo_seg row u A (t1 ++ x :: t2) B) (h1 : x ∉ A) (h2 : x ∉ t1) (hb : ∀ v ∈ t1 ++ x :: t2, 100 ≤ v → v ∉ A) (ht : okT (t1 ++ x :: t2)) (hk : k (some (.inl (if 0 ≤ kk ∧ kk < ((t1 ++ x :: t2).length : Int) then itm (t1 ++ x :: t2) kk.toNat else -1))) f) : pm_ex T_X0_itemOf [.inr (.inl (some a)), .inl x, .inl kk] f k := by
  have hl := seg_len hs
  refine in_X0_itemOf ?_
  refine pm_go_on [] 100 ?_
  set_option maxRecDepth 100000 in simp (maxSteps := 2000000) only [pm_x_run, pm_x_rt, pm_x_rf, pm_z_S, pm_z_D, pm_z_cut0, pm_z_cut1, pm_z_cli, pm_z_clr, pm_z_cln, pm_z_cll, pm_z_up, pm_x_aload0, pm_x_c, pm_x_c2, pm_x_cn0, pm_x_cn1, pm_x_getf, pm_x_gf, pm_x_goto, pm_x_gv, pm_x_ia, pm_x_iald, pm_x_icmp_ge, pm_x_icmp_lt, pm_x_icmp_ne, pm_x_if_eq, pm_x_if_lt, pm_x_iload1, pm_x_iload2, pm_x_iload3, pm_x_iload4, pm_x_iload5, pm_x_iload6, pm_x_invv, pm_x_istore3, pm_x_istore4, pm_x_istore5, pm_x_istore6, pm_x_v0, pm_x_v1, pm_x_x2, pm_z_bipush, pm_z_cat0, pm_z_cati, pm_z_catl, pm_z_catr, pm_z_iadd, pm_z_iconst, pm_z_isub, pm_z_pop0, pm_z_pop1, Bool.cond_true, Bool.cond_false, Bool.or_false, Bool.false_or, Bool.true_or, Bool.or_true, true_and, and_true, if_true, if_false, List.length_cons, List.length_nil, List.getElem?_cons_zero, List.getElem?_cons_succ, List.set_cons_zero, List.set_cons_succ, Option.toList_some, Option.toList_none, List.cons_append, List.nil_append, beq_self_eq_true, Option.isSome_some, Option.isSome_none, pm_tg_lit, ite_true, ite_false, Nat.reduceAdd, Nat.reduceBEq, Nat.reduceLT, Nat.reduceLeDiff, Nat.reduceEqDiff, Int.reduceAdd, Int.reduceSub, Int.reduceLE, Int.reduceLT, Int.reduceEq, Int.reduceToNat, Int.reduceNeg, Int.cast_ofNat_Int, Int.reduceNatCast, Int.reduceNatCast', Int.zero_add, Int.add_zero, Nat.zero_add, Nat.add_zero, and_self, decide_true, decide_false, zX0_itemOf_B, zX0_itemOf_F, zX0_itemOf_R, zX0_itemOf_X, zX0_itemOf_C25, zX0_itemOf_C29, zX0_itemOf_C33, pm_z_ireti (zX0_itemOf_R), fX0_11, dX0_itemOf_0, dX0_itemOf_1, dX0_itemOf_2, dX0_itemOf_3, dX0_itemOf_6, dX0_itemOf_7, dX0_itemOf_8, dX0_itemOf_9, dX0_itemOf_12, dX0_itemOf_13, dX0_itemOf_14, dX0_itemOf_15, dX0_itemOf_16, dX0_itemOf_19, dX0_itemOf_21, dX0_itemOf_22, dX0_itemOf_25, dX0_itemOf_26, dX0_itemOf_27, dX0_itemOf_28, dX0_itemOf_31, dX0_itemOf_33, dX0_itemOf_34, dX0_itemOf_37, dX0_itemOf_38, dX0_itemOf_39, dX0_itemOf_40, dX0_itemOf_43, dX0_itemOf_45, dX0_itemOf_46, dX0_itemOf_47, dX0_itemOf_48, dX0_itemOf_50, dX0_itemOf_52, dX0_itemOf_54, dX0_itemOf_57, dX0_itemOf_58, dX0_itemOf_60, dX0_itemOf_61, dX0_itemOf_64, dX0_itemOf_66, dX0_itemOf_67, dX0_itemOf_68, dX0_itemOf_71, dX0_itemOf_72, dX0_itemOf_75, dX0_itemOf_76, dX0_itemOf_78, dX0_itemOf_80, dX0_itemOf_83, dX0_itemOf_85, dX0_itemOf_87, dX0_itemOf_88, dX0_itemOf_91, dX0_itemOf_93, h.1, h.2, pm_z_rcv1 h.1]
  refine placeOf_seg h hu hs h1 h2 ?_
  set_option maxRecDepth 100000 in simp (maxSteps := 2000000) only [pm_x_run, pm_x_rt, pm_x_rf, pm_z_S, pm_z_D, pm_z_cut0, pm_z_cut1, pm_z_cli, pm_z_clr, pm_z_cln, pm_z_cll, pm_z_up, pm_x_aload0, pm_x_c, pm_x_c2, pm_x_cn0, pm_x_cn1, pm_x_getf, pm_x_gf, pm_x_goto, pm_x_gv, pm_x_ia, pm_x_iald, pm_x_icmp_ge, pm_x_icmp_lt, pm_x_icmp_ne, pm_x_if_eq, pm_x_if_lt, pm_x_iload1, pm_x_iload2, pm_x_iload3, pm_x_iload4, pm_x_iload5, pm_x_iload6, pm_x_invv, pm_x_istore3, pm_x_istore4, pm_x_istore5, pm_x_istore6, pm_x_v0, pm_x_v1, pm_x_x2, pm_z_bipush, pm_z_cat0, pm_z_cati, pm_z_catl, pm_z_catr, pm_z_iadd, pm_z_iconst, pm_z_isub, pm_z_pop0, pm_z_pop1, Bool.cond_true, Bool.cond_false, Bool.or_false, Bool.false_or, Bool.true_or, Bool.or_true, true_and, and_true, if_true, if_false, List.length_cons, List.length_nil, List.getElem?_cons_zero, List.getElem?_cons_succ, List.set_cons_zero, List.set_cons_succ, Option.toList_some, Option.toList_none, List.cons_append, List.nil_append, beq_self_eq_true, Option.isSome_some, Option.isSome_none, pm_tg_lit, ite_true, ite_false, Nat.reduceAdd, Nat.reduceBEq, Nat.reduceLT, Nat.reduceLeDiff, Nat.reduceEqDiff, Int.reduceAdd, Int.reduceSub, Int.reduceLE, Int.reduceLT, Int.reduceEq, Int.reduceToNat, Int.reduceNeg, Int.cast_ofNat_Int, Int.reduceNatCast, Int.reduceNatCast', Int.zero_add, Int.add_zero, Nat.zero_add, Nat.add_zero, and_self, decide_true, decide_false, zX0_itemOf_B, zX0_itemOf_F, zX0_itemOf_R, zX0_itemOf_X, zX0_itemOf_C25, zX0_itemOf_C29, zX0_itemOf_C33, pm_z_ireti (zX0_itemOf_R), fX0_11, dX0_itemOf_0, dX0_itemOf_1, dX0_itemOf_2, dX0_itemOf_3, dX0_itemOf_6, dX0_itemOf_7, dX0_itemOf_8, dX0_itemOf_9, dX0_itemOf_12, dX0_itemOf_13, dX0_itemOf_14, dX0_itemOf_15, dX0_itemOf_16, dX0_itemOf_19, dX0_itemOf_21, dX0_itemOf_22, dX0_itemOf_25, dX0_itemOf_26, dX0_itemOf_27, dX0_itemOf_28, dX0_itemOf_31, dX0_itemOf_33, dX0_itemOf_34, dX0_itemOf_37, dX0_itemOf_38, dX0_itemOf_39, dX0_itemOf_40, dX0_itemOf_43, dX0_itemOf_45, dX0_itemOf_46, dX0_itemOf_47, dX0_itemOf_48, dX0_itemOf_50, dX0_itemOf_52, dX0_itemOf_54, dX0_itemOf_57, dX0_itemOf_58, dX0_itemOf_60, dX0_itemOf_61, dX0_itemOf_64, dX0_itemOf_66, dX0_itemOf_67, dX0_itemOf_68, dX0_itemOf_71, dX0_itemOf_72, dX0_itemOf_75, dX0_itemOf_76, dX0_itemOf_78, dX0_itemOf_80, dX0_itemOf_83, dX0_itemOf_85, dX0_itemOf_87, dX0_itemOf_88, dX0_itemOf_91, dX0_itemOf_93, h.1, h.2, pm_z_rcv1 h.1]
  rw [if_neg (by omega)]
  refine beginOf_seg h hu hs t1.length (by simp) ?_
  set_option maxRecDepth 100000 in simp (maxSteps := 2000000) only [pm_x_run, pm_x_rt, pm_x_rf, pm_z_S, pm_z_D, pm_z_cut0, pm_z_cut1, pm_z_cli, pm_z_clr, pm_z_cln, pm_z_cll, pm_z_up, pm_x_aload0, pm_x_c, pm_x_c2, pm_x_cn0, pm_x_cn1, pm_x_getf, pm_x_gf, pm_x_goto, pm_x_gv, pm_x_ia, pm_x_iald, pm_x_icmp_ge, pm_x_icmp_lt, pm_x_icmp_ne, pm_x_if_eq, pm_x_if_lt, pm_x_iload1, pm_x_iload2, pm_x_iload3, pm_x_iload4, pm_x_iload5, pm_x_iload6, pm_x_invv, pm_x_istore3, pm_x_istore4, pm_x_istore5, pm_x_istore6, pm_x_v0, pm_x_v1, pm_x_x2, pm_z_bipush, pm_z_cat0, pm_z_cati, pm_z_catl, pm_z_catr, pm_z_iadd, pm_z_iconst, pm_z_isub, pm_z_pop0, pm_z_pop1, Bool.cond_true, Bool.cond_false, Bool.or_false, Bool.false_or, Bool.true_or, Bool.or_true, true_and, and_true, if_true, if_false, List.length_cons, List.length_nil, List.getElem?_cons_zero, List.getElem?_cons_succ, List.set_cons_zero, List.set_cons_succ, Option.toList_some, Option.toList_none, List.cons_append, List.nil_append, beq_self_eq_true, Option.isSome_some, Option.isSome_none, pm_tg_lit, ite_true, ite_false, Nat.reduceAdd, Nat.reduceBEq, Nat.reduceLT, Nat.reduceLeDiff, Nat.reduceEqDiff, Int.reduceAdd, Int.reduceSub, Int.reduceLE, Int.reduceLT, Int.reduceEq, Int.reduceToNat, Int.reduceNeg, Int.cast_ofNat_Int, Int.reduceNatCast, Int.reduceNatCast', Int.zero_add, Int.add_zero, Nat.zero_add, Nat.add_zero, and_self, decide_true, decide_false, zX0_itemOf_B, zX0_itemOf_F, zX0_itemOf_R, zX0_itemOf_X, zX0_itemOf_C25, zX0_itemOf_C29, zX0_itemOf_C33, pm_z_ireti (zX0_itemOf_R), fX0_11, dX0_itemOf_0, dX0_itemOf_1, dX0_itemOf_2, dX0_itemOf_3, dX0_itemOf_6, dX0_itemOf_7, dX0_itemOf_8, dX0_itemOf_9, dX0_itemOf_12, dX0_itemOf_13, dX0_itemOf_14, dX0_itemOf_15, dX0_itemOf_16, dX0_itemOf_19, dX0_itemOf_21, dX0_itemOf_22, dX0_itemOf_25, dX0_itemOf_26, dX0_itemOf_27, dX0_itemOf_28, dX0_itemOf_31, dX0_itemOf_33, dX0_itemOf_34, dX0_itemOf_37, dX0_itemOf_38, dX0_itemOf_39, dX0_itemOf_40, dX0_itemOf_43, dX0_itemOf_45, dX0_itemOf_46, dX0_itemOf_47, dX0_itemOf_48, dX0_itemOf_50, dX0_itemOf_52, dX0_itemOf_54, dX0_itemOf_57, dX0_itemOf_58, dX0_itemOf_60, dX0_itemOf_61, dX0_itemOf_64, dX0_itemOf_66, dX0_itemOf_67, dX0_itemOf_68, dX0_itemOf_71, dX0_itemOf_72, dX0_itemOf_75, dX0_itemOf_76, dX0_itemOf_78, dX0_itemOf_80, dX0_itemOf_83, dX0_itemOf_85, dX0_itemOf_87, dX0_itemOf_88, dX0_itemOf_91, dX0_itemOf_93, h.1, h.2, pm_z_rcv1 h.1]
  by_cases k0 : kk < 0
  · rw [if_pos k0]
    rw [if_neg (by omega)] at hk
    exact hk
  · rw [if_neg k0]
    refine endOf_seg h hu hs t1.length (by simp) ?_
    set_option maxRecDepth 100000 in simp (maxSteps := 2000000) only [pm_x_run, pm_x_rt, pm_x_rf, pm_z_S, pm_z_D, pm_z_cut0, pm_z_cut1, pm_z_cli, pm_z_clr, pm_z_cln, pm_z_cll, pm_z_up, pm_x_aload0, pm_x_c, pm_x_c2, pm_x_cn0, pm_x_cn1, pm_x_getf, pm_x_gf, pm_x_goto, pm_x_gv, pm_x_ia, pm_x_iald, pm_x_icmp_ge, pm_x_icmp_lt, pm_x_icmp_ne, pm_x_if_eq, pm_x_if_lt, pm_x_iload1, pm_x_iload2, pm_x_iload3, pm_x_iload4, pm_x_iload5, pm_x_iload6, pm_x_invv, pm_x_istore3, pm_x_istore4, pm_x_istore5, pm_x_istore6, pm_x_v0, pm_x_v1, pm_x_x2, pm_z_bipush, pm_z_cat0, pm_z_cati, pm_z_catl, pm_z_catr, pm_z_iadd, pm_z_iconst, pm_z_isub, pm_z_pop0, pm_z_pop1, Bool.cond_true, Bool.cond_false, Bool.or_false, Bool.false_or, Bool.true_or, Bool.or_true, true_and, and_true, if_true, if_false, List.length_cons, List.length_nil, List.getElem?_cons_zero, List.getElem?_cons_succ, List.set_cons_zero, List.set_cons_succ, Option.toList_some, Option.toList_none, List.cons_append, List.nil_append, beq_self_eq_true, Option.isSome_some, Option.isSome_none, pm_tg_lit, ite_true, ite_false, Nat.reduceAdd, Nat.reduceBEq, Nat.reduceLT, Nat.reduceLeDiff, Nat.reduceEqDiff, Int.reduceAdd, Int.reduceSub, Int.reduceLE, Int.reduceLT, Int.reduceEq, Int.reduceToNat, Int.reduceNeg, Int.cast_ofNat_Int, Int.reduceNatCast, Int.reduceNatCast', Int.zero_add, Int.add_zero, Nat.zero_add, Nat.add_zero, and_self, decide_true, decide_false, zX0_itemOf_B, zX0_itemOf_F, zX0_itemOf_R, zX0_itemOf_X, zX0_itemOf_C25, zX0_itemOf_C29, zX0_itemOf_C33, pm_z_ireti (zX0_itemOf_R), fX0_11, dX0_itemOf_0, dX0_itemOf_1, dX0_itemOf_2, dX0_itemOf_3, dX0_itemOf_6, dX0_itemOf_7, dX0_itemOf_8, dX0_itemOf_9, dX0_itemOf_12, dX0_itemOf_13, dX0_itemOf_14, dX0_itemOf_15, dX0_itemOf_16, dX0_itemOf_19, dX0_itemOf_21, dX0_itemOf_22, dX0_itemOf_25, dX0_itemOf_26, dX0_itemOf_27, dX0_itemOf_28, dX0_itemOf_31, dX0_itemOf_33, dX0_itemOf_34, dX0_itemOf_37, dX0_itemOf_38, dX0_itemOf_39, dX0_itemOf_40, dX0_itemOf_43, dX0_itemOf_45, dX0_itemOf_46, dX0_itemOf_47, dX0_itemOf_48, dX0_itemOf_50, dX0_itemOf_52, dX0_itemOf_54, dX0_itemOf_57, dX0_itemOf_58, dX0_itemOf_60, dX0_itemOf_61, dX0_itemOf_64, dX0_itemOf_66, dX0_itemOf_67, dX0_itemOf_68, dX0_itemOf_71, dX0_itemOf_72, dX0_itemOf_75, dX0_itemOf_76, dX0_itemOf_78, dX0_itemOf_80, dX0_itemOf_83, dX0_itemOf_85, dX0_itemOf_87, dX0_itemOf_88, dX0_itemOf_91, dX0_itemOf_93, h.1, h.2, pm_z_rcv1 h.1]
    refine ⟨by omega, ?_⟩
    generalize hT : t1 ++ x :: t2 = T at hs hb ht hk hl ⊢
    by_cases k1 : kk < (T.length : Int)
    · rw [if_pos (by omega)]
      rw [if_pos (by omega)] at hk
      obtain ⟨i, rfl⟩ := Int.eq_ofNat_of_zero_le (show 0 ≤ kk by omega)
      have hi : i < T.length := by omega
      refine ⟨by omega, by omega, ?_⟩
      have e1 : ((A.length : Int) + (i : Int)).toNat = A.length + i := by omega
      rw [e1]
      have hsp : T = T.take i ++ T.getD i 0 :: T.drop (i + 1) := by
        rw [List.getD_eq_getElem?_getD, List.getElem?_eq_getElem hi]
        simp
      have hrow : row (A.length + i) = T.getD i 0 := by
        have hs2 := hs
        rw [hsp] at hs2
        have := seg_get hs2
        rw [List.length_take, Nat.min_eq_left (by omega)] at this
        exact this
      rw [hrow]
      have hmem : T.getD i 0 ∈ T := by
        rw [List.getD_eq_getElem?_getD, List.getElem?_eq_getElem hi]
        exact List.getElem_mem hi
      by_cases k2 : T.getD i 0 < 100
      · rw [if_pos k2]
        rw [Int.toNat_natCast] at hk
        unfold itm at hk
        rw [if_neg (by omega)] at hk
        exact hk
      · rw [if_neg k2]
        have hA := hb _ hmem (by omega)
        rw [Int.toNat_natCast] at hk
        unfold itm at hk
        by_cases k3 : T.getD i 0 ∈ T.take i
        · rw [if_pos ⟨by omega, k3⟩] at hk
          obtain ⟨c1, c2, hc⟩ := List.append_of_mem k3
          obtain ⟨s1, s2, hs1, hs2⟩ : ∃ s1 s2, T.take i = s1 ++ T.getD i 0 :: s2 ∧ T.getD i 0 ∉ s1 := by
            obtain ⟨s1, s2, e1, e2⟩ := List.eq_append_cons_of_mem k3
            exact ⟨s1, s2, e1, e2⟩
          have hlt : s1.length < i := by
            have := congrArg List.length hs1
            rw [List.length_take, List.length_append, List.length_cons] at this
            omega
          have hs3 : fo_seg row u A (s1 ++ T.getD i 0 :: (s2 ++ T.getD i 0 :: T.drop (i + 1))) B := by
            have e : T = s1 ++ T.getD i 0 :: (s2 ++ T.getD i 0 :: T.drop (i + 1)) := by
              have e0 := hsp
              rw [hs1] at e0
              simpa using e0
            rw [← e]
            exact hs
          refine placeOf_seg h hu hs3 hA hs2 ?_
          set_option maxRecDepth 100000 in simp (maxSteps := 2000000) only [pm_x_run, pm_x_rt, pm_x_rf, pm_z_S, pm_z_D, pm_z_cut0, pm_z_cut1, pm_z_cli, pm_z_clr, pm_z_cln, pm_z_cll, pm_z_up, pm_x_aload0, pm_x_c, pm_x_c2, pm_x_cn0, pm_x_cn1, pm_x_getf, pm_x_gf, pm_x_goto, pm_x_gv, pm_x_ia, pm_x_iald, pm_x_icmp_ge, pm_x_icmp_lt, pm_x_icmp_ne, pm_x_if_eq, pm_x_if_lt, pm_x_iload1, pm_x_iload2, pm_x_iload3, pm_x_iload4, pm_x_iload5, pm_x_iload6, pm_x_invv, pm_x_istore3, pm_x_istore4, pm_x_istore5, pm_x_istore6, pm_x_v0, pm_x_v1, pm_x_x2, pm_z_bipush, pm_z_cat0, pm_z_cati, pm_z_catl, pm_z_catr, pm_z_iadd, pm_z_iconst, pm_z_isub, pm_z_pop0, pm_z_pop1, Bool.cond_true, Bool.cond_false, Bool.or_false, Bool.false_or, Bool.true_or, Bool.or_true, true_and, and_true, if_true, if_false, List.length_cons, List.length_nil, List.getElem?_cons_zero, List.getElem?_cons_succ, List.set_cons_zero, List.set_cons_succ, Option.toList_some, Option.toList_none, List.cons_append, List.nil_append, beq_self_eq_true, Option.isSome_some, Option.isSome_none, pm_tg_lit, ite_true, ite_false, Nat.reduceAdd, Nat.reduceBEq, Nat.reduceLT, Nat.reduceLeDiff, Nat.reduceEqDiff, Int.reduceAdd, Int.reduceSub, Int.reduceLE, Int.reduceLT, Int.reduceEq, Int.reduceToNat, Int.reduceNeg, Int.cast_ofNat_Int, Int.reduceNatCast, Int.reduceNatCast', Int.zero_add, Int.add_zero, Nat.zero_add, Nat.add_zero, and_self, decide_true, decide_false, zX0_itemOf_B, zX0_itemOf_F, zX0_itemOf_R, zX0_itemOf_X, zX0_itemOf_C25, zX0_itemOf_C29, zX0_itemOf_C33, pm_z_ireti (zX0_itemOf_R), fX0_11, dX0_itemOf_0, dX0_itemOf_1, dX0_itemOf_2, dX0_itemOf_3, dX0_itemOf_6, dX0_itemOf_7, dX0_itemOf_8, dX0_itemOf_9, dX0_itemOf_12, dX0_itemOf_13, dX0_itemOf_14, dX0_itemOf_15, dX0_itemOf_16, dX0_itemOf_19, dX0_itemOf_21, dX0_itemOf_22, dX0_itemOf_25, dX0_itemOf_26, dX0_itemOf_27, dX0_itemOf_28, dX0_itemOf_31, dX0_itemOf_33, dX0_itemOf_34, dX0_itemOf_37, dX0_itemOf_38, dX0_itemOf_39, dX0_itemOf_40, dX0_itemOf_43, dX0_itemOf_45, dX0_itemOf_46, dX0_itemOf_47, dX0_itemOf_48, dX0_itemOf_50, dX0_itemOf_52, dX0_itemOf_54, dX0_itemOf_57, dX0_itemOf_58, dX0_itemOf_60, dX0_itemOf_61, dX0_itemOf_64, dX0_itemOf_66, dX0_itemOf_67, dX0_itemOf_68, dX0_itemOf_71, dX0_itemOf_72, dX0_itemOf_75, dX0_itemOf_76, dX0_itemOf_78, dX0_itemOf_80, dX0_itemOf_83, dX0_itemOf_85, dX0_itemOf_87, dX0_itemOf_88, dX0_itemOf_91, dX0_itemOf_93, h.1, h.2, pm_z_rcv1 h.1]
          refine ⟨by omega, ?_⟩
          rw [if_pos (by omega)]
          have := ht _ hmem
          refine ⟨by omega, hk⟩
        · rw [if_neg (by intro q; exact k3 q.2)] at hk
          have hs3 := hs
          rw [hsp] at hs3
          refine placeOf_seg h hu hs3 hA k3 ?_
          set_option maxRecDepth 100000 in simp (maxSteps := 2000000) only [pm_x_run, pm_x_rt, pm_x_rf, pm_z_S, pm_z_D, pm_z_cut0, pm_z_cut1, pm_z_cli, pm_z_clr, pm_z_cln, pm_z_cll, pm_z_up, pm_x_aload0, pm_x_c, pm_x_c2, pm_x_cn0, pm_x_cn1, pm_x_getf, pm_x_gf, pm_x_goto, pm_x_gv, pm_x_ia, pm_x_iald, pm_x_icmp_ge, pm_x_icmp_lt, pm_x_icmp_ne, pm_x_if_eq, pm_x_if_lt, pm_x_iload1, pm_x_iload2, pm_x_iload3, pm_x_iload4, pm_x_iload5, pm_x_iload6, pm_x_invv, pm_x_istore3, pm_x_istore4, pm_x_istore5, pm_x_istore6, pm_x_v0, pm_x_v1, pm_x_x2, pm_z_bipush, pm_z_cat0, pm_z_cati, pm_z_catl, pm_z_catr, pm_z_iadd, pm_z_iconst, pm_z_isub, pm_z_pop0, pm_z_pop1, Bool.cond_true, Bool.cond_false, Bool.or_false, Bool.false_or, Bool.true_or, Bool.or_true, true_and, and_true, if_true, if_false, List.length_cons, List.length_nil, List.getElem?_cons_zero, List.getElem?_cons_succ, List.set_cons_zero, List.set_cons_succ, Option.toList_some, Option.toList_none, List.cons_append, List.nil_append, beq_self_eq_true, Option.isSome_some, Option.isSome_none, pm_tg_lit, ite_true, ite_false, Nat.reduceAdd, Nat.reduceBEq, Nat.reduceLT, Nat.reduceLeDiff, Nat.reduceEqDiff, Int.reduceAdd, Int.reduceSub, Int.reduceLE, Int.reduceLT, Int.reduceEq, Int.reduceToNat, Int.reduceNeg, Int.cast_ofNat_Int, Int.reduceNatCast, Int.reduceNatCast', Int.zero_add, Int.add_zero, Nat.zero_add, Nat.add_zero, and_self, decide_true, decide_false, zX0_itemOf_B, zX0_itemOf_F, zX0_itemOf_R, zX0_itemOf_X, zX0_itemOf_C25, zX0_itemOf_C29, zX0_itemOf_C33, pm_z_ireti (zX0_itemOf_R), fX0_11, dX0_itemOf_0, dX0_itemOf_1, dX0_itemOf_2, dX0_itemOf_3, dX0_itemOf_6, dX0_itemOf_7, dX0_itemOf_8, dX0_itemOf_9, dX0_itemOf_12, dX0_itemOf_13, dX0_itemOf_14, dX0_itemOf_15, dX0_itemOf_16, dX0_itemOf_19, dX0_itemOf_21, dX0_itemOf_22, dX0_itemOf_25, dX0_itemOf_26, dX0_itemOf_27, dX0_itemOf_28, dX0_itemOf_31, dX0_itemOf_33, dX0_itemOf_34, dX0_itemOf_37, dX0_itemOf_38, dX0_itemOf_39, dX0_itemOf_40, dX0_itemOf_43, dX0_itemOf_45, dX0_itemOf_46, dX0_itemOf_47, dX0_itemOf_48, dX0_itemOf_50, dX0_itemOf_52, dX0_itemOf_54, dX0_itemOf_57, dX0_itemOf_58, dX0_itemOf_60, dX0_itemOf_61, dX0_itemOf_64, dX0_itemOf_66, dX0_itemOf_67, dX0_itemOf_68, dX0_itemOf_71, dX0_itemOf_72, dX0_itemOf_75, dX0_itemOf_76, dX0_itemOf_78, dX0_itemOf_80, dX0_itemOf_83, dX0_itemOf_85, dX0_itemOf_87, dX0_itemOf_88, dX0_itemOf_91, dX0_itemOf_93, h.1, h.2, pm_z_rcv1 h.1]
          refine ⟨by omega, ?_⟩
          rw [if_neg (by rw [List.length_take, Nat.min_eq_left (by omega)]; omega)]
          exact hk
    · rw [if_neg (by omega)]
      rw [if_neg (by omega)] at hk
      exact hk
