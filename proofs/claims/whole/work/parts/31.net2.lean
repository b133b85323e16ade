section CN2
variable {f : pm_H} {a : Nat} {A R : Nat → Nat → Int} {U : Nat → Nat} {S : Nat → Int}
theorem isThere_sp {k : pm_P} {x : Int} (h : cn_at f a A R U S) (hl : S 2 ≤ 60) (hk : k (some (.inl (b2 (decide (0 ≤ x ∧ x < S 2 ∧ A 4 x.toNat ≠ 2))))) f) : pm_ex T_X1_isThere [.inr (.inl (some a)), .inl x] f k := by
  refine in_X1_isThere ?_
  refine pm_go_on [] 60 ?_
  set_option maxRecDepth 100000 in simp (maxSteps := 2000000) only [pm_x_run, pm_x_rt, pm_x_rf, pm_z_S, pm_z_D, pm_z_cut0, pm_z_cut1, pm_z_cli, pm_z_clr, pm_z_cln, pm_z_cll, pm_z_up, pm_x_aload0, pm_x_getf, pm_x_gf, pm_x_goto, pm_x_gv, pm_x_ia, pm_x_iald, pm_x_icmp_eq, pm_x_icmp_ge, pm_x_if_lt, pm_x_iload1, pm_z_iconst, Bool.cond_true, Bool.cond_false, Bool.or_false, Bool.false_or, Bool.true_or, Bool.or_true, true_and, and_true, if_true, if_false, List.length_cons, List.length_nil, List.getElem?_cons_zero, List.getElem?_cons_succ, List.set_cons_zero, List.set_cons_succ, Option.toList_some, Option.toList_none, List.cons_append, List.nil_append, beq_self_eq_true, Option.isSome_some, Option.isSome_none, pm_tg_lit, ite_true, ite_false, Nat.reduceAdd, Nat.reduceBEq, Nat.reduceLT, Nat.reduceLeDiff, Nat.reduceEqDiff, Int.reduceAdd, Int.reduceSub, Int.reduceLE, Int.reduceLT, Int.reduceEq, Int.reduceToNat, Int.reduceNeg, Int.cast_ofNat_Int, Int.reduceNatCast, Int.reduceNatCast', Int.zero_add, Int.add_zero, Nat.zero_add, Nat.add_zero, and_self, decide_true, decide_false, zX1_isThere_B, zX1_isThere_F, zX1_isThere_R, zX1_isThere_X, pm_z_iretz (zX1_isThere_R), fX1_52, fX1_24, dX1_isThere_0, dX1_isThere_1, dX1_isThere_4, dX1_isThere_5, dX1_isThere_6, dX1_isThere_9, dX1_isThere_12, dX1_isThere_13, dX1_isThere_16, dX1_isThere_17, dX1_isThere_18, dX1_isThere_19, dX1_isThere_22, dX1_isThere_23, dX1_isThere_26, dX1_isThere_27, cn0 h, cn5 h]
  by_cases h1 : x < 0
  · rw [if_pos h1]
    rw [b2F (by omega)] at hk
    exact ⟨by decide, hk⟩
  · rw [if_neg h1]
    by_cases h2 : x < S 2
    · rw [if_pos h2]
      refine ⟨by omega, ?_⟩
      by_cases h3 : A 4 x.toNat = 2
      · rw [if_pos h3]
        rw [b2F (fun q => q.2.2 h3)] at hk
        exact ⟨by decide, hk⟩
      · rw [if_neg h3]
        rw [b2T ⟨by omega, h2, h3⟩] at hk
        exact ⟨by decide, hk⟩
    · rw [if_neg h2]
      rw [b2F (by omega)] at hk
      exact ⟨by decide, hk⟩
theorem touches_sp {k : pm_P} {x : Int} {c : Nat} (h : cn_at f a A R U S) (hc : c < 60) (hk : k (some (.inl (b2 (decide (A 0 c = x ∨ A 1 c = x))))) f) : pm_ex T_X1_touches [.inr (.inl (some a)), .inl (c : Int), .inl x] f k := by
  refine in_X1_touches ?_
  refine pm_go_on [] 60 ?_
  set_option maxRecDepth 100000 in simp (maxSteps := 2000000) only [pm_x_run, pm_x_rt, pm_x_rf, pm_z_S, pm_z_D, pm_z_cut0, pm_z_cut1, pm_z_cli, pm_z_clr, pm_z_cln, pm_z_cll, pm_z_up, pm_x_aload0, pm_x_getf, pm_x_gf, pm_x_goto, pm_x_gv, pm_x_ia, pm_x_iald, pm_x_icmp_eq, pm_x_icmp_ne, pm_x_iload1, pm_x_iload2, pm_z_iconst, Bool.cond_true, Bool.cond_false, Bool.or_false, Bool.false_or, Bool.true_or, Bool.or_true, true_and, and_true, if_true, if_false, List.length_cons, List.length_nil, List.getElem?_cons_zero, List.getElem?_cons_succ, List.set_cons_zero, List.set_cons_succ, Option.toList_some, Option.toList_none, List.cons_append, List.nil_append, beq_self_eq_true, Option.isSome_some, Option.isSome_none, pm_tg_lit, ite_true, ite_false, Nat.reduceAdd, Nat.reduceBEq, Nat.reduceLT, Nat.reduceLeDiff, Nat.reduceEqDiff, Int.reduceAdd, Int.reduceSub, Int.reduceLE, Int.reduceLT, Int.reduceEq, Int.reduceToNat, Int.reduceNeg, Int.cast_ofNat_Int, Int.reduceNatCast, Int.reduceNatCast', Int.zero_add, Int.add_zero, Nat.zero_add, Nat.add_zero, and_self, decide_true, decide_false, zX1_touches_B, zX1_touches_F, zX1_touches_R, zX1_touches_X, pm_z_iretz (zX1_touches_R), fX1_9, fX1_15, dX1_touches_0, dX1_touches_1, dX1_touches_4, dX1_touches_5, dX1_touches_6, dX1_touches_7, dX1_touches_10, dX1_touches_11, dX1_touches_14, dX1_touches_15, dX1_touches_16, dX1_touches_17, dX1_touches_20, dX1_touches_21, dX1_touches_24, dX1_touches_25, cn0 h, cn1 h, cn2 h]
  refine ⟨by omega, ?_⟩
  rw [Int.toNat_natCast]
  by_cases h1 : A 0 c = x
  · rw [if_pos h1]
    rw [b2T (Or.inl h1)] at hk
    exact ⟨by decide, hk⟩
  · rw [if_neg h1]
    refine ⟨by omega, ?_⟩
    by_cases h2 : A 1 c = x
    · rw [if_pos h2]
      rw [b2T (Or.inr h2)] at hk
      exact ⟨by decide, hk⟩
    · rw [if_neg h2]
      rw [b2F (by rintro (q | q); exact h1 q; exact h2 q)] at hk
      exact ⟨by decide, hk⟩
/-- how many of the first n -/
def cnt (p : Nat → Bool) (n : Nat) : Nat := (List.range n).countP p
theorem cnt_s (p : Nat → Bool) (n : Nat) : cnt p (n + 1) = cnt p n + (if p n then 1 else 0) := by simp [cnt, List.range_succ, List.countP_append, List.countP_cons]
theorem cnt_le (p : Nat → Bool) (n : Nat) : cnt p n ≤ n := by
  have := List.countP_le_length (p := p) (l := List.range n)
  simpa [cnt] using this
theorem cnt_0 (p : Nat → Bool) : cnt p 0 = 0 := rfl
theorem cnt_congr {p q : Nat → Bool} : ∀ {n : Nat}, (∀ i, i < n → p i = q i) → cnt p n = cnt q n
  | 0, _ => rfl
  | n + 1, h => by rw [cnt_s, cnt_s, cnt_congr (fun i hi => h i (by omega)), h n (by omega)]
theorem cablesOf_loop {P : pm_P} {x : Int} (h : cn_at f a A R U S) (n : Nat) (hn : S 2 = (n : Int)) (hl : n ≤ 60) (hP : P (some (.inl ((cnt (fun c => decide (A 4 c = x)) n : Nat) : Int))) f) : ∀ (m i : Nat), i + m = n → pm_W eX1_cablesOf P (fun _ _ => False) 4 [some (.inr (.inl (some a))), some (.inl x), some (.inl ((cnt (fun c => decide (A 4 c = x)) i : Nat) : Int)), some (.inl (i : Int))] [] f := by
  intro m
  induction m with
  | zero =>
    intro i hi
    obtain rfl : i = n := by omega
    refine pm_go_on [4] 60 ?_
    set_option maxRecDepth 100000 in simp (maxSteps := 2000000) only [pm_x_run, pm_x_rt, pm_x_rf, pm_z_S, pm_z_D, pm_z_cut0, pm_z_cut1, pm_z_cli, pm_z_clr, pm_z_cln, pm_z_cll, pm_z_up, pm_x_aload0, pm_x_getf, pm_x_gf, pm_x_goto, pm_x_gv, pm_x_ia, pm_x_iald, pm_x_icmp_ge, pm_x_icmp_ne, pm_x_iinc2, pm_x_iinc3, pm_x_iload1, pm_x_iload2, pm_x_iload3, pm_x_istore2, pm_x_istore3, pm_z_iconst, Bool.cond_true, Bool.cond_false, Bool.or_false, Bool.false_or, Bool.true_or, Bool.or_true, true_and, and_true, if_true, if_false, List.length_cons, List.length_nil, List.getElem?_cons_zero, List.getElem?_cons_succ, List.set_cons_zero, List.set_cons_succ, Option.toList_some, Option.toList_none, List.cons_append, List.nil_append, beq_self_eq_true, Option.isSome_some, Option.isSome_none, pm_tg_lit, ite_true, ite_false, Nat.reduceAdd, Nat.reduceBEq, Nat.reduceLT, Nat.reduceLeDiff, Nat.reduceEqDiff, Int.reduceAdd, Int.reduceSub, Int.reduceLE, Int.reduceLT, Int.reduceEq, Int.reduceToNat, Int.reduceNeg, Int.cast_ofNat_Int, Int.reduceNatCast, Int.reduceNatCast', Int.zero_add, Int.add_zero, Nat.zero_add, Nat.add_zero, and_self, decide_true, decide_false, zX1_cablesOf_B, zX1_cablesOf_F, zX1_cablesOf_R, zX1_cablesOf_X, pm_z_ireti (zX1_cablesOf_R), fX1_52, fX1_24, dX1_cablesOf_0, dX1_cablesOf_1, dX1_cablesOf_2, dX1_cablesOf_3, dX1_cablesOf_4, dX1_cablesOf_5, dX1_cablesOf_6, dX1_cablesOf_9, dX1_cablesOf_12, dX1_cablesOf_13, dX1_cablesOf_16, dX1_cablesOf_17, dX1_cablesOf_18, dX1_cablesOf_19, dX1_cablesOf_22, dX1_cablesOf_25, dX1_cablesOf_28, dX1_cablesOf_31, dX1_cablesOf_32, cn0 h, cn5 h]
    rw [if_neg (by omega)]
    exact hP
  | succ m ih =>
    intro i hi
    have ih2 := ih (i + 1) (by omega)
    rw [cnt_s] at ih2
    have hc := cnt_le (fun c => decide (A 4 c = x)) i
    refine pm_go_on [4] 60 ?_
    set_option maxRecDepth 100000 in simp (maxSteps := 2000000) only [pm_x_run, pm_x_rt, pm_x_rf, pm_z_S, pm_z_D, pm_z_cut0, pm_z_cut1, pm_z_cli, pm_z_clr, pm_z_cln, pm_z_cll, pm_z_up, pm_x_aload0, pm_x_getf, pm_x_gf, pm_x_goto, pm_x_gv, pm_x_ia, pm_x_iald, pm_x_icmp_ge, pm_x_icmp_ne, pm_x_iinc2, pm_x_iinc3, pm_x_iload1, pm_x_iload2, pm_x_iload3, pm_x_istore2, pm_x_istore3, pm_z_iconst, Bool.cond_true, Bool.cond_false, Bool.or_false, Bool.false_or, Bool.true_or, Bool.or_true, true_and, and_true, if_true, if_false, List.length_cons, List.length_nil, List.getElem?_cons_zero, List.getElem?_cons_succ, List.set_cons_zero, List.set_cons_succ, Option.toList_some, Option.toList_none, List.cons_append, List.nil_append, beq_self_eq_true, Option.isSome_some, Option.isSome_none, pm_tg_lit, ite_true, ite_false, Nat.reduceAdd, Nat.reduceBEq, Nat.reduceLT, Nat.reduceLeDiff, Nat.reduceEqDiff, Int.reduceAdd, Int.reduceSub, Int.reduceLE, Int.reduceLT, Int.reduceEq, Int.reduceToNat, Int.reduceNeg, Int.cast_ofNat_Int, Int.reduceNatCast, Int.reduceNatCast', Int.zero_add, Int.add_zero, Nat.zero_add, Nat.add_zero, and_self, decide_true, decide_false, zX1_cablesOf_B, zX1_cablesOf_F, zX1_cablesOf_R, zX1_cablesOf_X, pm_z_ireti (zX1_cablesOf_R), fX1_52, fX1_24, dX1_cablesOf_0, dX1_cablesOf_1, dX1_cablesOf_2, dX1_cablesOf_3, dX1_cablesOf_4, dX1_cablesOf_5, dX1_cablesOf_6, dX1_cablesOf_9, dX1_cablesOf_12, dX1_cablesOf_13, dX1_cablesOf_16, dX1_cablesOf_17, dX1_cablesOf_18, dX1_cablesOf_19, dX1_cablesOf_22, dX1_cablesOf_25, dX1_cablesOf_28, dX1_cablesOf_31, dX1_cablesOf_32, cn0 h, cn5 h]
    rw [if_pos (by omega)]
    refine ⟨by omega, ?_⟩
    rw [Int.toNat_natCast]
    by_cases hq : A 4 i = x
    · rw [if_pos hq]
      rw [decide_eq_true hq, if_pos rfl] at ih2
      exact ⟨by omega, by omega, ih2⟩
    · rw [if_neg hq]
      rw [decide_eq_false hq] at ih2
      exact ⟨by omega, ih2⟩
theorem cablesOf_sp {k : pm_P} {x : Int} (h : cn_at f a A R U S) (n : Nat) (hn : S 2 = (n : Int)) (hl : n ≤ 60) (hk : k (some (.inl ((cnt (fun c => decide (A 4 c = x)) n : Nat) : Int))) f) : pm_ex T_X1_cablesOf [.inr (.inl (some a)), .inl x] f k := by
  refine in_X1_cablesOf ?_
  refine pm_go_on [4] 60 ?_
  set_option maxRecDepth 100000 in simp (maxSteps := 2000000) only [pm_x_run, pm_x_rt, pm_x_rf, pm_z_S, pm_z_D, pm_z_cut0, pm_z_cut1, pm_z_cli, pm_z_clr, pm_z_cln, pm_z_cll, pm_z_up, pm_x_aload0, pm_x_getf, pm_x_gf, pm_x_goto, pm_x_gv, pm_x_ia, pm_x_iald, pm_x_icmp_ge, pm_x_icmp_ne, pm_x_iinc2, pm_x_iinc3, pm_x_iload1, pm_x_iload2, pm_x_iload3, pm_x_istore2, pm_x_istore3, pm_z_iconst, Bool.cond_true, Bool.cond_false, Bool.or_false, Bool.false_or, Bool.true_or, Bool.or_true, true_and, and_true, if_true, if_false, List.length_cons, List.length_nil, List.getElem?_cons_zero, List.getElem?_cons_succ, List.set_cons_zero, List.set_cons_succ, Option.toList_some, Option.toList_none, List.cons_append, List.nil_append, beq_self_eq_true, Option.isSome_some, Option.isSome_none, pm_tg_lit, ite_true, ite_false, Nat.reduceAdd, Nat.reduceBEq, Nat.reduceLT, Nat.reduceLeDiff, Nat.reduceEqDiff, Int.reduceAdd, Int.reduceSub, Int.reduceLE, Int.reduceLT, Int.reduceEq, Int.reduceToNat, Int.reduceNeg, Int.cast_ofNat_Int, Int.reduceNatCast, Int.reduceNatCast', Int.zero_add, Int.add_zero, Nat.zero_add, Nat.add_zero, and_self, decide_true, decide_false, zX1_cablesOf_B, zX1_cablesOf_F, zX1_cablesOf_R, zX1_cablesOf_X, pm_z_ireti (zX1_cablesOf_R), fX1_52, fX1_24, dX1_cablesOf_0, dX1_cablesOf_1, dX1_cablesOf_2, dX1_cablesOf_3, dX1_cablesOf_4, dX1_cablesOf_5, dX1_cablesOf_6, dX1_cablesOf_9, dX1_cablesOf_12, dX1_cablesOf_13, dX1_cablesOf_16, dX1_cablesOf_17, dX1_cablesOf_18, dX1_cablesOf_19, dX1_cablesOf_22, dX1_cablesOf_25, dX1_cablesOf_28, dX1_cablesOf_31, dX1_cablesOf_32, cn0 h, cn5 h]
  exact cablesOf_loop h n hn hl hk n 0 (by omega)
theorem cablesOn_loop {P : pm_P} {x y : Int} (h : cn_at f a A R U S) (n : Nat) (hn : S 2 = (n : Int)) (hl : n ≤ 60) (hP : P (some (.inl ((cnt (fun c => decide (A 4 c = y ∧ A 3 c = x)) n : Nat) : Int))) f) : ∀ (m i : Nat), i + m = n → pm_W eX1_cablesOn P (fun _ _ => False) 5 [some (.inr (.inl (some a))), some (.inl x), some (.inl y), some (.inl ((cnt (fun c => decide (A 4 c = y ∧ A 3 c = x)) i : Nat) : Int)), some (.inl (i : Int))] [] f := by
  intro m
  induction m with
  | zero =>
    intro i hi
    obtain rfl : i = n := by omega
    refine pm_go_on [5] 60 ?_
    set_option maxRecDepth 100000 in simp (maxSteps := 2000000) only [pm_x_run, pm_x_rt, pm_x_rf, pm_z_S, pm_z_D, pm_z_cut0, pm_z_cut1, pm_z_cli, pm_z_clr, pm_z_cln, pm_z_cll, pm_z_up, pm_x_aload0, pm_x_getf, pm_x_gf, pm_x_goto, pm_x_gv, pm_x_ia, pm_x_iald, pm_x_icmp_ge, pm_x_icmp_ne, pm_x_iinc3, pm_x_iinc4, pm_x_iload1, pm_x_iload2, pm_x_iload3, pm_x_iload4, pm_x_istore3, pm_x_istore4, pm_z_iconst, Bool.cond_true, Bool.cond_false, Bool.or_false, Bool.false_or, Bool.true_or, Bool.or_true, true_and, and_true, if_true, if_false, List.length_cons, List.length_nil, List.getElem?_cons_zero, List.getElem?_cons_succ, List.set_cons_zero, List.set_cons_succ, Option.toList_some, Option.toList_none, List.cons_append, List.nil_append, beq_self_eq_true, Option.isSome_some, Option.isSome_none, pm_tg_lit, ite_true, ite_false, Nat.reduceAdd, Nat.reduceBEq, Nat.reduceLT, Nat.reduceLeDiff, Nat.reduceEqDiff, Int.reduceAdd, Int.reduceSub, Int.reduceLE, Int.reduceLT, Int.reduceEq, Int.reduceToNat, Int.reduceNeg, Int.cast_ofNat_Int, Int.reduceNatCast, Int.reduceNatCast', Int.zero_add, Int.add_zero, Nat.zero_add, Nat.add_zero, and_self, decide_true, decide_false, zX1_cablesOn_B, zX1_cablesOn_F, zX1_cablesOn_R, zX1_cablesOn_X, pm_z_ireti (zX1_cablesOn_R), fX1_52, fX1_24, fX1_21, dX1_cablesOn_0, dX1_cablesOn_1, dX1_cablesOn_2, dX1_cablesOn_3, dX1_cablesOn_5, dX1_cablesOn_7, dX1_cablesOn_8, dX1_cablesOn_11, dX1_cablesOn_14, dX1_cablesOn_15, dX1_cablesOn_18, dX1_cablesOn_20, dX1_cablesOn_21, dX1_cablesOn_22, dX1_cablesOn_25, dX1_cablesOn_26, dX1_cablesOn_29, dX1_cablesOn_31, dX1_cablesOn_32, dX1_cablesOn_33, dX1_cablesOn_36, dX1_cablesOn_39, dX1_cablesOn_42, dX1_cablesOn_45, dX1_cablesOn_46, cn0 h, cn5 h, cn4 h]
    rw [if_neg (by omega)]
    exact hP
  | succ m ih =>
    intro i hi
    have ih2 := ih (i + 1) (by omega)
    rw [cnt_s] at ih2
    have hc := cnt_le (fun c => decide (A 4 c = y ∧ A 3 c = x)) i
    refine pm_go_on [5] 60 ?_
    set_option maxRecDepth 100000 in simp (maxSteps := 2000000) only [pm_x_run, pm_x_rt, pm_x_rf, pm_z_S, pm_z_D, pm_z_cut0, pm_z_cut1, pm_z_cli, pm_z_clr, pm_z_cln, pm_z_cll, pm_z_up, pm_x_aload0, pm_x_getf, pm_x_gf, pm_x_goto, pm_x_gv, pm_x_ia, pm_x_iald, pm_x_icmp_ge, pm_x_icmp_ne, pm_x_iinc3, pm_x_iinc4, pm_x_iload1, pm_x_iload2, pm_x_iload3, pm_x_iload4, pm_x_istore3, pm_x_istore4, pm_z_iconst, Bool.cond_true, Bool.cond_false, Bool.or_false, Bool.false_or, Bool.true_or, Bool.or_true, true_and, and_true, if_true, if_false, List.length_cons, List.length_nil, List.getElem?_cons_zero, List.getElem?_cons_succ, List.set_cons_zero, List.set_cons_succ, Option.toList_some, Option.toList_none, List.cons_append, List.nil_append, beq_self_eq_true, Option.isSome_some, Option.isSome_none, pm_tg_lit, ite_true, ite_false, Nat.reduceAdd, Nat.reduceBEq, Nat.reduceLT, Nat.reduceLeDiff, Nat.reduceEqDiff, Int.reduceAdd, Int.reduceSub, Int.reduceLE, Int.reduceLT, Int.reduceEq, Int.reduceToNat, Int.reduceNeg, Int.cast_ofNat_Int, Int.reduceNatCast, Int.reduceNatCast', Int.zero_add, Int.add_zero, Nat.zero_add, Nat.add_zero, and_self, decide_true, decide_false, zX1_cablesOn_B, zX1_cablesOn_F, zX1_cablesOn_R, zX1_cablesOn_X, pm_z_ireti (zX1_cablesOn_R), fX1_52, fX1_24, fX1_21, dX1_cablesOn_0, dX1_cablesOn_1, dX1_cablesOn_2, dX1_cablesOn_3, dX1_cablesOn_5, dX1_cablesOn_7, dX1_cablesOn_8, dX1_cablesOn_11, dX1_cablesOn_14, dX1_cablesOn_15, dX1_cablesOn_18, dX1_cablesOn_20, dX1_cablesOn_21, dX1_cablesOn_22, dX1_cablesOn_25, dX1_cablesOn_26, dX1_cablesOn_29, dX1_cablesOn_31, dX1_cablesOn_32, dX1_cablesOn_33, dX1_cablesOn_36, dX1_cablesOn_39, dX1_cablesOn_42, dX1_cablesOn_45, dX1_cablesOn_46, cn0 h, cn5 h, cn4 h]
    rw [if_pos (by omega)]
    refine ⟨by omega, ?_⟩
    rw [Int.toNat_natCast]
    by_cases hq : A 4 i = y
    · rw [if_pos hq]
      refine ⟨by omega, ?_⟩
      by_cases hq2 : A 3 i = x
      · rw [if_pos hq2]
        rw [decide_eq_true ⟨hq, hq2⟩, if_pos rfl] at ih2
        exact ⟨by omega, by omega, ih2⟩
      · rw [if_neg hq2]
        rw [decide_eq_false (fun z => hq2 z.2)] at ih2
        exact ⟨by omega, ih2⟩
    · rw [if_neg hq]
      rw [decide_eq_false (fun z => hq z.1)] at ih2
      exact ⟨by omega, ih2⟩
theorem cablesOn_sp {k : pm_P} {x y : Int} (h : cn_at f a A R U S) (n : Nat) (hn : S 2 = (n : Int)) (hl : n ≤ 60) (hk : k (some (.inl ((cnt (fun c => decide (A 4 c = y ∧ A 3 c = x)) n : Nat) : Int))) f) : pm_ex T_X1_cablesOn [.inr (.inl (some a)), .inl x, .inl y] f k := by
  refine in_X1_cablesOn ?_
  refine pm_go_on [5] 60 ?_
  set_option maxRecDepth 100000 in simp (maxSteps := 2000000) only [pm_x_run, pm_x_rt, pm_x_rf, pm_z_S, pm_z_D, pm_z_cut0, pm_z_cut1, pm_z_cli, pm_z_clr, pm_z_cln, pm_z_cll, pm_z_up, pm_x_aload0, pm_x_getf, pm_x_gf, pm_x_goto, pm_x_gv, pm_x_ia, pm_x_iald, pm_x_icmp_ge, pm_x_icmp_ne, pm_x_iinc3, pm_x_iinc4, pm_x_iload1, pm_x_iload2, pm_x_iload3, pm_x_iload4, pm_x_istore3, pm_x_istore4, pm_z_iconst, Bool.cond_true, Bool.cond_false, Bool.or_false, Bool.false_or, Bool.true_or, Bool.or_true, true_and, and_true, if_true, if_false, List.length_cons, List.length_nil, List.getElem?_cons_zero, List.getElem?_cons_succ, List.set_cons_zero, List.set_cons_succ, Option.toList_some, Option.toList_none, List.cons_append, List.nil_append, beq_self_eq_true, Option.isSome_some, Option.isSome_none, pm_tg_lit, ite_true, ite_false, Nat.reduceAdd, Nat.reduceBEq, Nat.reduceLT, Nat.reduceLeDiff, Nat.reduceEqDiff, Int.reduceAdd, Int.reduceSub, Int.reduceLE, Int.reduceLT, Int.reduceEq, Int.reduceToNat, Int.reduceNeg, Int.cast_ofNat_Int, Int.reduceNatCast, Int.reduceNatCast', Int.zero_add, Int.add_zero, Nat.zero_add, Nat.add_zero, and_self, decide_true, decide_false, zX1_cablesOn_B, zX1_cablesOn_F, zX1_cablesOn_R, zX1_cablesOn_X, pm_z_ireti (zX1_cablesOn_R), fX1_52, fX1_24, fX1_21, dX1_cablesOn_0, dX1_cablesOn_1, dX1_cablesOn_2, dX1_cablesOn_3, dX1_cablesOn_5, dX1_cablesOn_7, dX1_cablesOn_8, dX1_cablesOn_11, dX1_cablesOn_14, dX1_cablesOn_15, dX1_cablesOn_18, dX1_cablesOn_20, dX1_cablesOn_21, dX1_cablesOn_22, dX1_cablesOn_25, dX1_cablesOn_26, dX1_cablesOn_29, dX1_cablesOn_31, dX1_cablesOn_32, dX1_cablesOn_33, dX1_cablesOn_36, dX1_cablesOn_39, dX1_cablesOn_42, dX1_cablesOn_45, dX1_cablesOn_46, cn0 h, cn5 h, cn4 h]
  exact cablesOn_loop h n hn hl hk n 0 (by omega)
theorem cablesAt_loop {P : pm_P} {x y : Int} (h : cn_at f a A R U S) (n : Nat) (hn : S 2 = (n : Int)) (hl : n ≤ 60) (hP : P (some (.inl ((cnt (fun c => decide (A 4 c = y ∧ (A 0 c = x ∨ A 1 c = x))) n : Nat) : Int))) f) : ∀ (m i : Nat), i + m = n → pm_W eX1_cablesAt P (fun _ _ => False) 5 [some (.inr (.inl (some a))), some (.inl x), some (.inl y), some (.inl ((cnt (fun c => decide (A 4 c = y ∧ (A 0 c = x ∨ A 1 c = x))) i : Nat) : Int)), some (.inl (i : Int))] [] f := by
  intro m
  induction m with
  | zero =>
    intro i hi
    obtain rfl : i = n := by omega
    refine pm_go_on [5] 60 ?_
    set_option maxRecDepth 100000 in simp (maxSteps := 2000000) only [pm_x_run, pm_x_rt, pm_x_rf, pm_z_S, pm_z_D, pm_z_cut0, pm_z_cut1, pm_z_cli, pm_z_clr, pm_z_cln, pm_z_cll, pm_z_up, pm_x_aload0, pm_x_c, pm_x_c2, pm_x_cn0, pm_x_cn1, pm_x_getf, pm_x_gf, pm_x_goto, pm_x_gv, pm_x_ia, pm_x_iald, pm_x_icmp_ge, pm_x_icmp_ne, pm_x_if_eq, pm_x_iinc3, pm_x_iinc4, pm_x_iload1, pm_x_iload2, pm_x_iload3, pm_x_iload4, pm_x_invv, pm_x_istore3, pm_x_istore4, pm_x_v0, pm_x_v1, pm_x_x2, pm_z_cat0, pm_z_cati, pm_z_catl, pm_z_catr, pm_z_iconst, pm_z_pop0, pm_z_pop1, Bool.cond_true, Bool.cond_false, Bool.or_false, Bool.false_or, Bool.true_or, Bool.or_true, true_and, and_true, if_true, if_false, List.length_cons, List.length_nil, List.getElem?_cons_zero, List.getElem?_cons_succ, List.set_cons_zero, List.set_cons_succ, Option.toList_some, Option.toList_none, List.cons_append, List.nil_append, beq_self_eq_true, Option.isSome_some, Option.isSome_none, pm_tg_lit, ite_true, ite_false, Nat.reduceAdd, Nat.reduceBEq, Nat.reduceLT, Nat.reduceLeDiff, Nat.reduceEqDiff, Int.reduceAdd, Int.reduceSub, Int.reduceLE, Int.reduceLT, Int.reduceEq, Int.reduceToNat, Int.reduceNeg, Int.cast_ofNat_Int, Int.reduceNatCast, Int.reduceNatCast', Int.zero_add, Int.add_zero, Nat.zero_add, Nat.add_zero, and_self, decide_true, decide_false, zX1_cablesAt_B, zX1_cablesAt_F, zX1_cablesAt_R, zX1_cablesAt_X, zX1_cablesAt_C149, pm_z_ireti (zX1_cablesAt_R), fX1_52, fX1_24, dX1_cablesAt_0, dX1_cablesAt_1, dX1_cablesAt_2, dX1_cablesAt_3, dX1_cablesAt_5, dX1_cablesAt_7, dX1_cablesAt_8, dX1_cablesAt_11, dX1_cablesAt_14, dX1_cablesAt_15, dX1_cablesAt_18, dX1_cablesAt_20, dX1_cablesAt_21, dX1_cablesAt_22, dX1_cablesAt_25, dX1_cablesAt_26, dX1_cablesAt_28, dX1_cablesAt_29, dX1_cablesAt_32, dX1_cablesAt_35, dX1_cablesAt_38, dX1_cablesAt_41, dX1_cablesAt_44, dX1_cablesAt_45, cn0 h, cn5 h, pm_z_rcv1 (cn0 h)]
    rw [if_neg (by omega)]
    exact hP
  | succ m ih =>
    intro i hi
    have ih2 := ih (i + 1) (by omega)
    rw [cnt_s] at ih2
    have hc := cnt_le (fun c => decide (A 4 c = y ∧ (A 0 c = x ∨ A 1 c = x))) i
    refine pm_go_on [5] 60 ?_
    set_option maxRecDepth 100000 in simp (maxSteps := 2000000) only [pm_x_run, pm_x_rt, pm_x_rf, pm_z_S, pm_z_D, pm_z_cut0, pm_z_cut1, pm_z_cli, pm_z_clr, pm_z_cln, pm_z_cll, pm_z_up, pm_x_aload0, pm_x_c, pm_x_c2, pm_x_cn0, pm_x_cn1, pm_x_getf, pm_x_gf, pm_x_goto, pm_x_gv, pm_x_ia, pm_x_iald, pm_x_icmp_ge, pm_x_icmp_ne, pm_x_if_eq, pm_x_iinc3, pm_x_iinc4, pm_x_iload1, pm_x_iload2, pm_x_iload3, pm_x_iload4, pm_x_invv, pm_x_istore3, pm_x_istore4, pm_x_v0, pm_x_v1, pm_x_x2, pm_z_cat0, pm_z_cati, pm_z_catl, pm_z_catr, pm_z_iconst, pm_z_pop0, pm_z_pop1, Bool.cond_true, Bool.cond_false, Bool.or_false, Bool.false_or, Bool.true_or, Bool.or_true, true_and, and_true, if_true, if_false, List.length_cons, List.length_nil, List.getElem?_cons_zero, List.getElem?_cons_succ, List.set_cons_zero, List.set_cons_succ, Option.toList_some, Option.toList_none, List.cons_append, List.nil_append, beq_self_eq_true, Option.isSome_some, Option.isSome_none, pm_tg_lit, ite_true, ite_false, Nat.reduceAdd, Nat.reduceBEq, Nat.reduceLT, Nat.reduceLeDiff, Nat.reduceEqDiff, Int.reduceAdd, Int.reduceSub, Int.reduceLE, Int.reduceLT, Int.reduceEq, Int.reduceToNat, Int.reduceNeg, Int.cast_ofNat_Int, Int.reduceNatCast, Int.reduceNatCast', Int.zero_add, Int.add_zero, Nat.zero_add, Nat.add_zero, and_self, decide_true, decide_false, zX1_cablesAt_B, zX1_cablesAt_F, zX1_cablesAt_R, zX1_cablesAt_X, zX1_cablesAt_C149, pm_z_ireti (zX1_cablesAt_R), fX1_52, fX1_24, dX1_cablesAt_0, dX1_cablesAt_1, dX1_cablesAt_2, dX1_cablesAt_3, dX1_cablesAt_5, dX1_cablesAt_7, dX1_cablesAt_8, dX1_cablesAt_11, dX1_cablesAt_14, dX1_cablesAt_15, dX1_cablesAt_18, dX1_cablesAt_20, dX1_cablesAt_21, dX1_cablesAt_22, dX1_cablesAt_25, dX1_cablesAt_26, dX1_cablesAt_28, dX1_cablesAt_29, dX1_cablesAt_32, dX1_cablesAt_35, dX1_cablesAt_38, dX1_cablesAt_41, dX1_cablesAt_44, dX1_cablesAt_45, cn0 h, cn5 h, pm_z_rcv1 (cn0 h)]
    rw [if_pos (by omega)]
    refine ⟨by omega, ?_⟩
    rw [Int.toNat_natCast]
    by_cases hq : A 4 i = y
    · rw [if_pos hq]
      refine touches_sp h (by omega) ?_
      set_option maxRecDepth 100000 in simp (maxSteps := 2000000) only [pm_x_run, pm_x_rt, pm_x_rf, pm_z_S, pm_z_D, pm_z_cut0, pm_z_cut1, pm_z_cli, pm_z_clr, pm_z_cln, pm_z_cll, pm_z_up, pm_x_aload0, pm_x_c, pm_x_c2, pm_x_cn0, pm_x_cn1, pm_x_getf, pm_x_gf, pm_x_goto, pm_x_gv, pm_x_ia, pm_x_iald, pm_x_icmp_ge, pm_x_icmp_ne, pm_x_if_eq, pm_x_iinc3, pm_x_iinc4, pm_x_iload1, pm_x_iload2, pm_x_iload3, pm_x_iload4, pm_x_invv, pm_x_istore3, pm_x_istore4, pm_x_v0, pm_x_v1, pm_x_x2, pm_z_cat0, pm_z_cati, pm_z_catl, pm_z_catr, pm_z_iconst, pm_z_pop0, pm_z_pop1, Bool.cond_true, Bool.cond_false, Bool.or_false, Bool.false_or, Bool.true_or, Bool.or_true, true_and, and_true, if_true, if_false, List.length_cons, List.length_nil, List.getElem?_cons_zero, List.getElem?_cons_succ, List.set_cons_zero, List.set_cons_succ, Option.toList_some, Option.toList_none, List.cons_append, List.nil_append, beq_self_eq_true, Option.isSome_some, Option.isSome_none, pm_tg_lit, ite_true, ite_false, Nat.reduceAdd, Nat.reduceBEq, Nat.reduceLT, Nat.reduceLeDiff, Nat.reduceEqDiff, Int.reduceAdd, Int.reduceSub, Int.reduceLE, Int.reduceLT, Int.reduceEq, Int.reduceToNat, Int.reduceNeg, Int.cast_ofNat_Int, Int.reduceNatCast, Int.reduceNatCast', Int.zero_add, Int.add_zero, Nat.zero_add, Nat.add_zero, and_self, decide_true, decide_false, zX1_cablesAt_B, zX1_cablesAt_F, zX1_cablesAt_R, zX1_cablesAt_X, zX1_cablesAt_C149, pm_z_ireti (zX1_cablesAt_R), fX1_52, fX1_24, dX1_cablesAt_0, dX1_cablesAt_1, dX1_cablesAt_2, dX1_cablesAt_3, dX1_cablesAt_5, dX1_cablesAt_7, dX1_cablesAt_8, dX1_cablesAt_11, dX1_cablesAt_14, dX1_cablesAt_15, dX1_cablesAt_18, dX1_cablesAt_20, dX1_cablesAt_21, dX1_cablesAt_22, dX1_cablesAt_25, dX1_cablesAt_26, dX1_cablesAt_28, dX1_cablesAt_29, dX1_cablesAt_32, dX1_cablesAt_35, dX1_cablesAt_38, dX1_cablesAt_41, dX1_cablesAt_44, dX1_cablesAt_45, cn0 h, cn5 h, pm_z_rcv1 (cn0 h)]
      by_cases hq2 : A 0 i = x ∨ A 1 i = x
      · rw [b2T hq2, if_neg (by omega)]
        rw [decide_eq_true ⟨hq, hq2⟩, if_pos rfl] at ih2
        exact ⟨by omega, by omega, ih2⟩
      · rw [b2F hq2, if_pos rfl]
        rw [decide_eq_false (fun z => hq2 z.2)] at ih2
        exact ⟨by omega, ih2⟩
    · rw [if_neg hq]
      rw [decide_eq_false (fun z => hq z.1)] at ih2
      exact ⟨by omega, ih2⟩
theorem cablesAt_sp {k : pm_P} {x y : Int} (h : cn_at f a A R U S) (n : Nat) (hn : S 2 = (n : Int)) (hl : n ≤ 60) (hk : k (some (.inl ((cnt (fun c => decide (A 4 c = y ∧ (A 0 c = x ∨ A 1 c = x))) n : Nat) : Int))) f) : pm_ex T_X1_cablesAt [.inr (.inl (some a)), .inl x, .inl y] f k := by
  refine in_X1_cablesAt ?_
  refine pm_go_on [5] 60 ?_
  set_option maxRecDepth 100000 in simp (maxSteps := 2000000) only [pm_x_run, pm_x_rt, pm_x_rf, pm_z_S, pm_z_D, pm_z_cut0, pm_z_cut1, pm_z_cli, pm_z_clr, pm_z_cln, pm_z_cll, pm_z_up, pm_x_aload0, pm_x_c, pm_x_c2, pm_x_cn0, pm_x_cn1, pm_x_getf, pm_x_gf, pm_x_goto, pm_x_gv, pm_x_ia, pm_x_iald, pm_x_icmp_ge, pm_x_icmp_ne, pm_x_if_eq, pm_x_iinc3, pm_x_iinc4, pm_x_iload1, pm_x_iload2, pm_x_iload3, pm_x_iload4, pm_x_invv, pm_x_istore3, pm_x_istore4, pm_x_v0, pm_x_v1, pm_x_x2, pm_z_cat0, pm_z_cati, pm_z_catl, pm_z_catr, pm_z_iconst, pm_z_pop0, pm_z_pop1, Bool.cond_true, Bool.cond_false, Bool.or_false, Bool.false_or, Bool.true_or, Bool.or_true, true_and, and_true, if_true, if_false, List.length_cons, List.length_nil, List.getElem?_cons_zero, List.getElem?_cons_succ, List.set_cons_zero, List.set_cons_succ, Option.toList_some, Option.toList_none, List.cons_append, List.nil_append, beq_self_eq_true, Option.isSome_some, Option.isSome_none, pm_tg_lit, ite_true, ite_false, Nat.reduceAdd, Nat.reduceBEq, Nat.reduceLT, Nat.reduceLeDiff, Nat.reduceEqDiff, Int.reduceAdd, Int.reduceSub, Int.reduceLE, Int.reduceLT, Int.reduceEq, Int.reduceToNat, Int.reduceNeg, Int.cast_ofNat_Int, Int.reduceNatCast, Int.reduceNatCast', Int.zero_add, Int.add_zero, Nat.zero_add, Nat.add_zero, and_self, decide_true, decide_false, zX1_cablesAt_B, zX1_cablesAt_F, zX1_cablesAt_R, zX1_cablesAt_X, zX1_cablesAt_C149, pm_z_ireti (zX1_cablesAt_R), fX1_52, fX1_24, dX1_cablesAt_0, dX1_cablesAt_1, dX1_cablesAt_2, dX1_cablesAt_3, dX1_cablesAt_5, dX1_cablesAt_7, dX1_cablesAt_8, dX1_cablesAt_11, dX1_cablesAt_14, dX1_cablesAt_15, dX1_cablesAt_18, dX1_cablesAt_20, dX1_cablesAt_21, dX1_cablesAt_22, dX1_cablesAt_25, dX1_cablesAt_26, dX1_cablesAt_28, dX1_cablesAt_29, dX1_cablesAt_32, dX1_cablesAt_35, dX1_cablesAt_38, dX1_cablesAt_41, dX1_cablesAt_44, dX1_cablesAt_45, cn0 h, cn5 h, pm_z_rcv1 (cn0 h)]
  exact cablesAt_loop h n hn hl hk n 0 (by omega)
theorem giveName_loop {k : pm_P} {z : Int} (a n M : Nat) (hn : n ≤ 16) (hM : M < 2 ^ 31) (f0 : pm_H) : ∀ (m i : Nat) (f : pm_H) (A R : Nat → Nat → Int) (U : Nat → Nat) (S : Nat → Int), i + m = n → cn_at f a A R U S → S 0 = (n : Int) → (∀ (f' : pm_H) (g : Nat → Int), cn_at f' a (stA A 6 g) R U S → cfr a f f' → (∀ j, g j = if i ≤ j ∧ j < n ∧ M.testBit j = true then z else A 6 j) → k none f') → pm_W eX1_giveName k (fun _ _ => False) 2 [some (.inr (.inl (some a))), some (.inl (M : Int)), some (.inl z), some (.inl (i : Int))] [] f := by
  intro m
  induction m with
  | zero =>
    intro i f A R U S hi h h0 hk
    obtain rfl : i = n := by omega
    refine pm_go_on [2] 60 ?_
    set_option maxRecDepth 100000 in simp (maxSteps := 2000000) only [pm_x_run, pm_x_rt, pm_x_rf, pm_z_S, pm_z_D, pm_z_cut0, pm_z_cut1, pm_z_cli, pm_z_clr, pm_z_cln, pm_z_cll, pm_z_up, pm_x_aload0, pm_x_c, pm_x_c2, pm_x_cn0, pm_x_cn1, pm_x_getf, pm_x_gf, pm_x_goto, pm_x_gv, pm_x_iast, pm_x_icmp_ge, pm_x_if_eq, pm_x_iinc3, pm_x_iload1, pm_x_iload2, pm_x_iload3, pm_x_invs, pm_x_is, pm_x_istore3, pm_z_cat0, pm_z_cati, pm_z_catl, pm_z_catr, pm_z_iconst, pm_z_pop0, pm_z_pop1, pm_z_rcv0, pm_z_vret, Bool.cond_true, Bool.cond_false, Bool.or_false, Bool.false_or, Bool.true_or, Bool.or_true, true_and, and_true, if_true, if_false, List.length_cons, List.length_nil, List.getElem?_cons_zero, List.getElem?_cons_succ, List.set_cons_zero, List.set_cons_succ, Option.toList_some, Option.toList_none, List.cons_append, List.nil_append, beq_self_eq_true, Option.isSome_some, Option.isSome_none, pm_tg_lit, ite_true, ite_false, Nat.reduceAdd, Nat.reduceBEq, Nat.reduceLT, Nat.reduceLeDiff, Nat.reduceEqDiff, Int.reduceAdd, Int.reduceSub, Int.reduceLE, Int.reduceLT, Int.reduceEq, Int.reduceToNat, Int.reduceNeg, Int.cast_ofNat_Int, Int.reduceNatCast, Int.reduceNatCast', Int.zero_add, Int.add_zero, Nat.zero_add, Nat.add_zero, and_self, decide_true, decide_false, zX1_giveName_B, zX1_giveName_F, zX1_giveName_R, zX1_giveName_X, zX1_giveName_C140, fX1_45, fX1_30, dX1_giveName_0, dX1_giveName_1, dX1_giveName_2, dX1_giveName_3, dX1_giveName_4, dX1_giveName_7, dX1_giveName_10, dX1_giveName_11, dX1_giveName_12, dX1_giveName_15, dX1_giveName_18, dX1_giveName_19, dX1_giveName_22, dX1_giveName_23, dX1_giveName_24, dX1_giveName_25, dX1_giveName_28, dX1_giveName_31, cn0 h]
    rw [if_neg (by omega)]
    have e : stA A 6 (A 6) = A := by
      funext j
      unfold stA
      split
      · rename_i e; rw [e]
      · rfl
    exact hk f (A 6) (by rw [e]; exact h) cfr_rf (fun j => by rw [if_neg (by omega)])
  | succ m ih =>
    intro i f A R U S hi h h0 hk
    refine pm_go_on [2] 60 ?_
    set_option maxRecDepth 100000 in simp (maxSteps := 2000000) only [pm_x_run, pm_x_rt, pm_x_rf, pm_z_S, pm_z_D, pm_z_cut0, pm_z_cut1, pm_z_cli, pm_z_clr, pm_z_cln, pm_z_cll, pm_z_up, pm_x_aload0, pm_x_c, pm_x_c2, pm_x_cn0, pm_x_cn1, pm_x_getf, pm_x_gf, pm_x_goto, pm_x_gv, pm_x_iast, pm_x_icmp_ge, pm_x_if_eq, pm_x_iinc3, pm_x_iload1, pm_x_iload2, pm_x_iload3, pm_x_invs, pm_x_is, pm_x_istore3, pm_z_cat0, pm_z_cati, pm_z_catl, pm_z_catr, pm_z_iconst, pm_z_pop0, pm_z_pop1, pm_z_rcv0, pm_z_vret, Bool.cond_true, Bool.cond_false, Bool.or_false, Bool.false_or, Bool.true_or, Bool.or_true, true_and, and_true, if_true, if_false, List.length_cons, List.length_nil, List.getElem?_cons_zero, List.getElem?_cons_succ, List.set_cons_zero, List.set_cons_succ, Option.toList_some, Option.toList_none, List.cons_append, List.nil_append, beq_self_eq_true, Option.isSome_some, Option.isSome_none, pm_tg_lit, ite_true, ite_false, Nat.reduceAdd, Nat.reduceBEq, Nat.reduceLT, Nat.reduceLeDiff, Nat.reduceEqDiff, Int.reduceAdd, Int.reduceSub, Int.reduceLE, Int.reduceLT, Int.reduceEq, Int.reduceToNat, Int.reduceNeg, Int.cast_ofNat_Int, Int.reduceNatCast, Int.reduceNatCast', Int.zero_add, Int.add_zero, Nat.zero_add, Nat.add_zero, and_self, decide_true, decide_false, zX1_giveName_B, zX1_giveName_F, zX1_giveName_R, zX1_giveName_X, zX1_giveName_C140, fX1_45, fX1_30, dX1_giveName_0, dX1_giveName_1, dX1_giveName_2, dX1_giveName_3, dX1_giveName_4, dX1_giveName_7, dX1_giveName_10, dX1_giveName_11, dX1_giveName_12, dX1_giveName_15, dX1_giveName_18, dX1_giveName_19, dX1_giveName_22, dX1_giveName_23, dX1_giveName_24, dX1_giveName_25, dX1_giveName_28, dX1_giveName_31, cn0 h, cn7 h, pm_z_rcv0]
    rw [if_pos (by omega)]
    refine holds_sp (by omega) hM ?_
    set_option maxRecDepth 100000 in simp (maxSteps := 2000000) only [pm_x_run, pm_x_rt, pm_x_rf, pm_z_S, pm_z_D, pm_z_cut0, pm_z_cut1, pm_z_cli, pm_z_clr, pm_z_cln, pm_z_cll, pm_x_aload0, pm_x_c, pm_x_c2, pm_x_cn0, pm_x_cn1, pm_x_getf, pm_x_gf, pm_x_goto, pm_x_gv, pm_x_iast, pm_x_icmp_ge, pm_x_if_eq, pm_x_iinc3, pm_x_iload1, pm_x_iload2, pm_x_iload3, pm_x_invs, pm_x_is, pm_x_istore3, pm_z_cat0, pm_z_cati, pm_z_catl, pm_z_catr, pm_z_iconst, pm_z_pop0, pm_z_pop1, pm_z_rcv0, pm_z_vret, Bool.cond_true, Bool.cond_false, Bool.or_false, Bool.false_or, Bool.true_or, Bool.or_true, true_and, and_true, if_true, if_false, List.length_cons, List.length_nil, List.getElem?_cons_zero, List.getElem?_cons_succ, List.set_cons_zero, List.set_cons_succ, Option.toList_some, Option.toList_none, List.cons_append, List.nil_append, beq_self_eq_true, Option.isSome_some, Option.isSome_none, pm_tg_lit, ite_true, ite_false, Nat.reduceAdd, Nat.reduceBEq, Nat.reduceLT, Nat.reduceLeDiff, Nat.reduceEqDiff, Int.reduceAdd, Int.reduceSub, Int.reduceLE, Int.reduceLT, Int.reduceEq, Int.reduceToNat, Int.reduceNeg, Int.cast_ofNat_Int, Int.reduceNatCast, Int.reduceNatCast', Int.zero_add, Int.add_zero, Nat.zero_add, Nat.add_zero, and_self, decide_true, decide_false, pm_upi, Nat.left_eq_add, Nat.add_eq_left, Nat.succ_ne_self, reduceCtorEq, Nat.add_left_cancel_iff, Nat.one_ne_zero, Nat.add_assoc, zX1_giveName_B, zX1_giveName_F, zX1_giveName_R, zX1_giveName_X, zX1_giveName_C140, fX1_45, fX1_30, dX1_giveName_0, dX1_giveName_1, dX1_giveName_2, dX1_giveName_3, dX1_giveName_4, dX1_giveName_7, dX1_giveName_10, dX1_giveName_11, dX1_giveName_12, dX1_giveName_15, dX1_giveName_18, dX1_giveName_19, dX1_giveName_22, dX1_giveName_23, dX1_giveName_24, dX1_giveName_25, dX1_giveName_28, dX1_giveName_31, cn0 h, cn7 h]
    cases hb : M.testBit i with
    | true =>
      rw [if_neg (by simp [b2])]
      refine ⟨by omega, by omega, ?_⟩
      rw [Int.toNat_natCast]
      have h2 := cn_arr h (j := 6) (by omega) (pm_us (A 6) i z) (n := 16) rfl
      refine ih (i + 1) _ _ R U S (by omega) h2 h0 (fun f' g hg hf hj => hk f' g ?_ (cfr_tr (cfr_up (by omega) (by omega)) hf) (fun j => ?_))
      · have e : stA (stA A 6 (pm_us (A 6) i z)) 6 g = stA A 6 g := by
          funext j
          unfold stA
          split <;> rfl
        rw [e] at hg
        exact hg
      · rw [hj j]
        have e7 : stA A 6 (pm_us (A 6) i z) 6 j = if j = i then z else A 6 j := rfl
        rw [e7]
        by_cases hji : j = i
        · subst hji
          rw [if_neg (by omega), if_pos rfl, if_pos ⟨by omega, by omega, hb⟩]
        · rw [if_neg hji]
          by_cases hq : i + 1 ≤ j ∧ j < n ∧ M.testBit j = true
          · rw [if_pos hq, if_pos ⟨by omega, hq.2⟩]
          · rw [if_neg hq, if_neg (fun z => hq ⟨by omega, z.2⟩)]
    | false =>
      rw [if_pos (by simp [b2])]
      refine ⟨by omega, ?_⟩
      refine ih (i + 1) f A R U S (by omega) h h0 (fun f' g hg hf hj => hk f' g hg hf (fun j => ?_))
      rw [hj j]
      by_cases hji : j = i
      · subst hji
        rw [if_neg (by omega), if_neg (by rw [hb]; simp)]
      · by_cases hq : i + 1 ≤ j ∧ j < n ∧ M.testBit j = true
        · rw [if_pos hq, if_pos ⟨by omega, hq.2⟩]
        · rw [if_neg hq, if_neg (fun z => hq ⟨by omega, z.2⟩)]
theorem giveName_sp {k : pm_P} {z : Int} {n M : Nat} (h : cn_at f a A R U S) (h0 : S 0 = (n : Int)) (hn : n ≤ 16) (hM : M < 2 ^ 31) (hk : ∀ (f' : pm_H) (g : Nat → Int), cn_at f' a (stA A 6 g) R U S → cfr a f f' → (∀ j, g j = if j < n ∧ M.testBit j = true then z else A 6 j) → k none f') : pm_ex T_X1_giveName [.inr (.inl (some a)), .inl (M : Int), .inl z] f k := by
  refine in_X1_giveName ?_
  refine pm_go_on [2] 60 ?_
  set_option maxRecDepth 100000 in simp (maxSteps := 2000000) only [pm_x_run, pm_x_rt, pm_x_rf, pm_z_S, pm_z_D, pm_z_cut0, pm_z_cut1, pm_z_cli, pm_z_clr, pm_z_cln, pm_z_cll, pm_z_up, pm_x_aload0, pm_x_c, pm_x_c2, pm_x_cn0, pm_x_cn1, pm_x_getf, pm_x_gf, pm_x_goto, pm_x_gv, pm_x_iast, pm_x_icmp_ge, pm_x_if_eq, pm_x_iinc3, pm_x_iload1, pm_x_iload2, pm_x_iload3, pm_x_invs, pm_x_is, pm_x_istore3, pm_z_cat0, pm_z_cati, pm_z_catl, pm_z_catr, pm_z_iconst, pm_z_pop0, pm_z_pop1, pm_z_rcv0, pm_z_vret, Bool.cond_true, Bool.cond_false, Bool.or_false, Bool.false_or, Bool.true_or, Bool.or_true, true_and, and_true, if_true, if_false, List.length_cons, List.length_nil, List.getElem?_cons_zero, List.getElem?_cons_succ, List.set_cons_zero, List.set_cons_succ, Option.toList_some, Option.toList_none, List.cons_append, List.nil_append, beq_self_eq_true, Option.isSome_some, Option.isSome_none, pm_tg_lit, ite_true, ite_false, Nat.reduceAdd, Nat.reduceBEq, Nat.reduceLT, Nat.reduceLeDiff, Nat.reduceEqDiff, Int.reduceAdd, Int.reduceSub, Int.reduceLE, Int.reduceLT, Int.reduceEq, Int.reduceToNat, Int.reduceNeg, Int.cast_ofNat_Int, Int.reduceNatCast, Int.reduceNatCast', Int.zero_add, Int.add_zero, Nat.zero_add, Nat.add_zero, and_self, decide_true, decide_false, zX1_giveName_B, zX1_giveName_F, zX1_giveName_R, zX1_giveName_X, zX1_giveName_C140, fX1_45, fX1_30, dX1_giveName_0, dX1_giveName_1, dX1_giveName_2, dX1_giveName_3, dX1_giveName_4, dX1_giveName_7, dX1_giveName_10, dX1_giveName_11, dX1_giveName_12, dX1_giveName_15, dX1_giveName_18, dX1_giveName_19, dX1_giveName_22, dX1_giveName_23, dX1_giveName_24, dX1_giveName_25, dX1_giveName_28, dX1_giveName_31, cn0 h]
  refine giveName_loop a n M hn hM f n 0 f A R U S (by omega) h h0 (fun f' g h1 h2 h3 => hk f' g h1 h2 (fun j => ?_))
  rw [h3 j]
  by_cases hq : j < n ∧ M.testBit j = true
  · rw [if_pos hq, if_pos ⟨by omega, hq⟩]
  · rw [if_neg hq, if_neg (fun z => hq z.2)]
end CN2
