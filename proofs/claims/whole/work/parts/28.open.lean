theorem insideOf_seg {f : pm_H} {a r u c : Nat} {row : Nat → Int} {A p m q B : List Int} {k : pm_P} (h : fo_at f a r row u) (hu : u ≤ 48) (hc : c < 60) (hs : fo_seg row u A (p ++ (100 + (c : Int)) :: (m ++ (100 + (c : Int)) :: q)) B) (h1 : (100 + (c : Int)) ∉ A) (h2 : (100 + (c : Int)) ∉ p) (h3 : (100 + (c : Int)) ∉ m) (ht : okT m) (hk : k (some (.inl ((bs (tn m) 16 : Nat) : Int))) f) : pm_ex T_X0_insideOf [.inr (.inl (some a)), .inl (c : Int)] f k := by
  have hl := seg_len hs
  simp only [List.length_append, List.length_cons] at hl
  refine in_X0_insideOf ?_
  refine pm_go_on [] 100 ?_
  set_option maxRecDepth 100000 in simp (maxSteps := 2000000) only [pm_x_run, pm_x_rt, pm_x_rf, pm_z_S, pm_z_D, pm_z_cut0, pm_z_cut1, pm_z_cli, pm_z_clr, pm_z_cln, pm_z_cll, pm_z_up, pm_x_aload0, pm_x_c, pm_x_c2, pm_x_cn0, pm_x_cn1, pm_x_goto, pm_x_icmp_ne, pm_x_iload1, pm_x_iload2, pm_x_iload3, pm_x_invv, pm_x_istore2, pm_x_istore3, pm_x_v0, pm_x_v1, pm_x_x2, pm_z_bipush, pm_z_cat0, pm_z_cati, pm_z_catl, pm_z_catr, pm_z_iadd, pm_z_iconst, pm_z_pop0, pm_z_pop1, Bool.cond_true, Bool.cond_false, Bool.or_false, Bool.false_or, Bool.true_or, Bool.or_true, true_and, and_true, if_true, if_false, List.length_cons, List.length_nil, List.getElem?_cons_zero, List.getElem?_cons_succ, List.set_cons_zero, List.set_cons_succ, Option.toList_some, Option.toList_none, List.cons_append, List.nil_append, beq_self_eq_true, Option.isSome_some, Option.isSome_none, pm_tg_lit, ite_true, ite_false, Nat.reduceAdd, Nat.reduceBEq, Nat.reduceLT, Nat.reduceLeDiff, Nat.reduceEqDiff, Int.reduceAdd, Int.reduceSub, Int.reduceLE, Int.reduceLT, Int.reduceEq, Int.reduceToNat, Int.reduceNeg, Int.cast_ofNat_Int, Int.reduceNatCast, Int.reduceNatCast', Int.zero_add, Int.add_zero, Nat.zero_add, Nat.add_zero, and_self, decide_true, decide_false, zX0_insideOf_B, zX0_insideOf_F, zX0_insideOf_R, zX0_insideOf_X, zX0_insideOf_C25, zX0_insideOf_C36, pm_z_ireti (zX0_insideOf_R), dX0_insideOf_0, dX0_insideOf_1, dX0_insideOf_3, dX0_insideOf_4, dX0_insideOf_5, dX0_insideOf_6, dX0_insideOf_9, dX0_insideOf_10, dX0_insideOf_11, dX0_insideOf_12, dX0_insideOf_15, dX0_insideOf_16, dX0_insideOf_17, dX0_insideOf_18, dX0_insideOf_20, dX0_insideOf_21, dX0_insideOf_22, dX0_insideOf_23, dX0_insideOf_24, dX0_insideOf_25, dX0_insideOf_28, dX0_insideOf_29, dX0_insideOf_30, dX0_insideOf_31, dX0_insideOf_34, dX0_insideOf_35, dX0_insideOf_38, dX0_insideOf_39, dX0_insideOf_40, dX0_insideOf_41, dX0_insideOf_42, dX0_insideOf_43, dX0_insideOf_46, h.1, h.2, pm_z_rcv1 h.1]
  refine ⟨by omega, ?_⟩
  refine placeOf_seg h hu hs h1 h2 ?_
  set_option maxRecDepth 100000 in simp (maxSteps := 2000000) only [pm_x_run, pm_x_rt, pm_x_rf, pm_z_S, pm_z_D, pm_z_cut0, pm_z_cut1, pm_z_cli, pm_z_clr, pm_z_cln, pm_z_cll, pm_z_up, pm_x_aload0, pm_x_c, pm_x_c2, pm_x_cn0, pm_x_cn1, pm_x_goto, pm_x_icmp_ne, pm_x_iload1, pm_x_iload2, pm_x_iload3, pm_x_invv, pm_x_istore2, pm_x_istore3, pm_x_v0, pm_x_v1, pm_x_x2, pm_z_bipush, pm_z_cat0, pm_z_cati, pm_z_catl, pm_z_catr, pm_z_iadd, pm_z_iconst, pm_z_pop0, pm_z_pop1, Bool.cond_true, Bool.cond_false, Bool.or_false, Bool.false_or, Bool.true_or, Bool.or_true, true_and, and_true, if_true, if_false, List.length_cons, List.length_nil, List.getElem?_cons_zero, List.getElem?_cons_succ, List.set_cons_zero, List.set_cons_succ, Option.toList_some, Option.toList_none, List.cons_append, List.nil_append, beq_self_eq_true, Option.isSome_some, Option.isSome_none, pm_tg_lit, ite_true, ite_false, Nat.reduceAdd, Nat.reduceBEq, Nat.reduceLT, Nat.reduceLeDiff, Nat.reduceEqDiff, Int.reduceAdd, Int.reduceSub, Int.reduceLE, Int.reduceLT, Int.reduceEq, Int.reduceToNat, Int.reduceNeg, Int.cast_ofNat_Int, Int.reduceNatCast, Int.reduceNatCast', Int.zero_add, Int.add_zero, Nat.zero_add, Nat.add_zero, and_self, decide_true, decide_false, zX0_insideOf_B, zX0_insideOf_F, zX0_insideOf_R, zX0_insideOf_X, zX0_insideOf_C25, zX0_insideOf_C36, pm_z_ireti (zX0_insideOf_R), dX0_insideOf_0, dX0_insideOf_1, dX0_insideOf_3, dX0_insideOf_4, dX0_insideOf_5, dX0_insideOf_6, dX0_insideOf_9, dX0_insideOf_10, dX0_insideOf_11, dX0_insideOf_12, dX0_insideOf_15, dX0_insideOf_16, dX0_insideOf_17, dX0_insideOf_18, dX0_insideOf_20, dX0_insideOf_21, dX0_insideOf_22, dX0_insideOf_23, dX0_insideOf_24, dX0_insideOf_25, dX0_insideOf_28, dX0_insideOf_29, dX0_insideOf_30, dX0_insideOf_31, dX0_insideOf_34, dX0_insideOf_35, dX0_insideOf_38, dX0_insideOf_39, dX0_insideOf_40, dX0_insideOf_41, dX0_insideOf_42, dX0_insideOf_43, dX0_insideOf_46, h.1, h.2, pm_z_rcv1 h.1]
  rw [if_neg (by omega)]
  refine ⟨by omega, by omega, ?_⟩
  have eop : ((A.length + p.length : Nat) : Int) + 1 = (((A ++ p ++ [100 + (c : Int)]).length : Nat) : Int) := by simp only [List.length_append, List.length_cons, List.length_nil]; omega
  rw [eop]
  refine placeOf_seg2 (A := A ++ p ++ [100 + (c : Int)]) (M := m) (B := q ++ (-1) :: B) h hu (by rw [hs.1]; simp) h3 ?_
  set_option maxRecDepth 100000 in simp (maxSteps := 2000000) only [pm_x_run, pm_x_rt, pm_x_rf, pm_z_S, pm_z_D, pm_z_cut0, pm_z_cut1, pm_z_cli, pm_z_clr, pm_z_cln, pm_z_cll, pm_z_up, pm_x_aload0, pm_x_c, pm_x_c2, pm_x_cn0, pm_x_cn1, pm_x_goto, pm_x_icmp_ne, pm_x_iload1, pm_x_iload2, pm_x_iload3, pm_x_invv, pm_x_istore2, pm_x_istore3, pm_x_v0, pm_x_v1, pm_x_x2, pm_z_bipush, pm_z_cat0, pm_z_cati, pm_z_catl, pm_z_catr, pm_z_iadd, pm_z_iconst, pm_z_pop0, pm_z_pop1, Bool.cond_true, Bool.cond_false, Bool.or_false, Bool.false_or, Bool.true_or, Bool.or_true, true_and, and_true, if_true, if_false, List.length_cons, List.length_nil, List.getElem?_cons_zero, List.getElem?_cons_succ, List.set_cons_zero, List.set_cons_succ, Option.toList_some, Option.toList_none, List.cons_append, List.nil_append, beq_self_eq_true, Option.isSome_some, Option.isSome_none, pm_tg_lit, ite_true, ite_false, Nat.reduceAdd, Nat.reduceBEq, Nat.reduceLT, Nat.reduceLeDiff, Nat.reduceEqDiff, Int.reduceAdd, Int.reduceSub, Int.reduceLE, Int.reduceLT, Int.reduceEq, Int.reduceToNat, Int.reduceNeg, Int.cast_ofNat_Int, Int.reduceNatCast, Int.reduceNatCast', Int.zero_add, Int.add_zero, Nat.zero_add, Nat.add_zero, and_self, decide_true, decide_false, zX0_insideOf_B, zX0_insideOf_F, zX0_insideOf_R, zX0_insideOf_X, zX0_insideOf_C25, zX0_insideOf_C36, pm_z_ireti (zX0_insideOf_R), dX0_insideOf_0, dX0_insideOf_1, dX0_insideOf_3, dX0_insideOf_4, dX0_insideOf_5, dX0_insideOf_6, dX0_insideOf_9, dX0_insideOf_10, dX0_insideOf_11, dX0_insideOf_12, dX0_insideOf_15, dX0_insideOf_16, dX0_insideOf_17, dX0_insideOf_18, dX0_insideOf_20, dX0_insideOf_21, dX0_insideOf_22, dX0_insideOf_23, dX0_insideOf_24, dX0_insideOf_25, dX0_insideOf_28, dX0_insideOf_29, dX0_insideOf_30, dX0_insideOf_31, dX0_insideOf_34, dX0_insideOf_35, dX0_insideOf_38, dX0_insideOf_39, dX0_insideOf_40, dX0_insideOf_41, dX0_insideOf_42, dX0_insideOf_43, dX0_insideOf_46, h.1, h.2, pm_z_rcv1 h.1]
  rw [if_neg (by omega)]
  refine ⟨by omega, ?_⟩
  rw [eop]
  refine nodesIn_seg (A := A ++ p ++ [100 + (c : Int)]) (t := m) (B := (100 + (c : Int)) :: q ++ (-1) :: B) h hu (by rw [hs.1]; simp) ht _ _ rfl rfl ?_
  set_option maxRecDepth 100000 in simp (maxSteps := 2000000) only [pm_x_run, pm_x_rt, pm_x_rf, pm_z_S, pm_z_D, pm_z_cut0, pm_z_cut1, pm_z_cli, pm_z_clr, pm_z_cln, pm_z_cll, pm_z_up, pm_x_aload0, pm_x_c, pm_x_c2, pm_x_cn0, pm_x_cn1, pm_x_goto, pm_x_icmp_ne, pm_x_iload1, pm_x_iload2, pm_x_iload3, pm_x_invv, pm_x_istore2, pm_x_istore3, pm_x_v0, pm_x_v1, pm_x_x2, pm_z_bipush, pm_z_cat0, pm_z_cati, pm_z_catl, pm_z_catr, pm_z_iadd, pm_z_iconst, pm_z_pop0, pm_z_pop1, Bool.cond_true, Bool.cond_false, Bool.or_false, Bool.false_or, Bool.true_or, Bool.or_true, true_and, and_true, if_true, if_false, List.length_cons, List.length_nil, List.getElem?_cons_zero, List.getElem?_cons_succ, List.set_cons_zero, List.set_cons_succ, Option.toList_some, Option.toList_none, List.cons_append, List.nil_append, beq_self_eq_true, Option.isSome_some, Option.isSome_none, pm_tg_lit, ite_true, ite_false, Nat.reduceAdd, Nat.reduceBEq, Nat.reduceLT, Nat.reduceLeDiff, Nat.reduceEqDiff, Int.reduceAdd, Int.reduceSub, Int.reduceLE, Int.reduceLT, Int.reduceEq, Int.reduceToNat, Int.reduceNeg, Int.cast_ofNat_Int, Int.reduceNatCast, Int.reduceNatCast', Int.zero_add, Int.add_zero, Nat.zero_add, Nat.add_zero, and_self, decide_true, decide_false, zX0_insideOf_B, zX0_insideOf_F, zX0_insideOf_R, zX0_insideOf_X, zX0_insideOf_C25, zX0_insideOf_C36, pm_z_ireti (zX0_insideOf_R), dX0_insideOf_0, dX0_insideOf_1, dX0_insideOf_3, dX0_insideOf_4, dX0_insideOf_5, dX0_insideOf_6, dX0_insideOf_9, dX0_insideOf_10, dX0_insideOf_11, dX0_insideOf_12, dX0_insideOf_15, dX0_insideOf_16, dX0_insideOf_17, dX0_insideOf_18, dX0_insideOf_20, dX0_insideOf_21, dX0_insideOf_22, dX0_insideOf_23, dX0_insideOf_24, dX0_insideOf_25, dX0_insideOf_28, dX0_insideOf_29, dX0_insideOf_30, dX0_insideOf_31, dX0_insideOf_34, dX0_insideOf_35, dX0_insideOf_38, dX0_insideOf_39, dX0_insideOf_40, dX0_insideOf_41, dX0_insideOf_42, dX0_insideOf_43, dX0_insideOf_46, h.1, h.2, pm_z_rcv1 h.1]
  exact hk
theorem insideOf_no {f : pm_H} {a r u c : Nat} {row : Nat → Int} {k : pm_P} (h : fo_at f a r row u) (hu : u ≤ 48) (hc : c < 60) (hn : (100 + (c : Int)) ∉ fl row u) (hk : k (some (.inl 0)) f) : pm_ex T_X0_insideOf [.inr (.inl (some a)), .inl (c : Int)] f k := by
  refine in_X0_insideOf ?_
  refine pm_go_on [] 100 ?_
  set_option maxRecDepth 100000 in simp (maxSteps := 2000000) only [pm_x_run, pm_x_rt, pm_x_rf, pm_z_S, pm_z_D, pm_z_cut0, pm_z_cut1, pm_z_cli, pm_z_clr, pm_z_cln, pm_z_cll, pm_z_up, pm_x_aload0, pm_x_c, pm_x_c2, pm_x_cn0, pm_x_cn1, pm_x_goto, pm_x_icmp_ne, pm_x_iload1, pm_x_iload2, pm_x_iload3, pm_x_invv, pm_x_istore2, pm_x_istore3, pm_x_v0, pm_x_v1, pm_x_x2, pm_z_bipush, pm_z_cat0, pm_z_cati, pm_z_catl, pm_z_catr, pm_z_iadd, pm_z_iconst, pm_z_pop0, pm_z_pop1, Bool.cond_true, Bool.cond_false, Bool.or_false, Bool.false_or, Bool.true_or, Bool.or_true, true_and, and_true, if_true, if_false, List.length_cons, List.length_nil, List.getElem?_cons_zero, List.getElem?_cons_succ, List.set_cons_zero, List.set_cons_succ, Option.toList_some, Option.toList_none, List.cons_append, List.nil_append, beq_self_eq_true, Option.isSome_some, Option.isSome_none, pm_tg_lit, ite_true, ite_false, Nat.reduceAdd, Nat.reduceBEq, Nat.reduceLT, Nat.reduceLeDiff, Nat.reduceEqDiff, Int.reduceAdd, Int.reduceSub, Int.reduceLE, Int.reduceLT, Int.reduceEq, Int.reduceToNat, Int.reduceNeg, Int.cast_ofNat_Int, Int.reduceNatCast, Int.reduceNatCast', Int.zero_add, Int.add_zero, Nat.zero_add, Nat.add_zero, and_self, decide_true, decide_false, zX0_insideOf_B, zX0_insideOf_F, zX0_insideOf_R, zX0_insideOf_X, zX0_insideOf_C25, zX0_insideOf_C36, pm_z_ireti (zX0_insideOf_R), dX0_insideOf_0, dX0_insideOf_1, dX0_insideOf_3, dX0_insideOf_4, dX0_insideOf_5, dX0_insideOf_6, dX0_insideOf_9, dX0_insideOf_10, dX0_insideOf_11, dX0_insideOf_12, dX0_insideOf_15, dX0_insideOf_16, dX0_insideOf_17, dX0_insideOf_18, dX0_insideOf_20, dX0_insideOf_21, dX0_insideOf_22, dX0_insideOf_23, dX0_insideOf_24, dX0_insideOf_25, dX0_insideOf_28, dX0_insideOf_29, dX0_insideOf_30, dX0_insideOf_31, dX0_insideOf_34, dX0_insideOf_35, dX0_insideOf_38, dX0_insideOf_39, dX0_insideOf_40, dX0_insideOf_41, dX0_insideOf_42, dX0_insideOf_43, dX0_insideOf_46, h.1, h.2, pm_z_rcv1 h.1]
  refine ⟨by omega, ?_⟩
  refine placeOf_no (fr := 0) h hu (fun j _ hj e => hn ?_) ?_
  · rw [← e]
    exact fl_pre (row := row) (u := u) (A := fl row u) (B := []) (by simp) (by rw [fl_len]; exact hj)
  · set_option maxRecDepth 100000 in simp (maxSteps := 2000000) only [pm_x_run, pm_x_rt, pm_x_rf, pm_z_S, pm_z_D, pm_z_cut0, pm_z_cut1, pm_z_cli, pm_z_clr, pm_z_cln, pm_z_cll, pm_z_up, pm_x_aload0, pm_x_c, pm_x_c2, pm_x_cn0, pm_x_cn1, pm_x_goto, pm_x_icmp_ne, pm_x_iload1, pm_x_iload2, pm_x_iload3, pm_x_invv, pm_x_istore2, pm_x_istore3, pm_x_v0, pm_x_v1, pm_x_x2, pm_z_bipush, pm_z_cat0, pm_z_cati, pm_z_catl, pm_z_catr, pm_z_iadd, pm_z_iconst, pm_z_pop0, pm_z_pop1, Bool.cond_true, Bool.cond_false, Bool.or_false, Bool.false_or, Bool.true_or, Bool.or_true, true_and, and_true, if_true, if_false, List.length_cons, List.length_nil, List.getElem?_cons_zero, List.getElem?_cons_succ, List.set_cons_zero, List.set_cons_succ, Option.toList_some, Option.toList_none, List.cons_append, List.nil_append, beq_self_eq_true, Option.isSome_some, Option.isSome_none, pm_tg_lit, ite_true, ite_false, Nat.reduceAdd, Nat.reduceBEq, Nat.reduceLT, Nat.reduceLeDiff, Nat.reduceEqDiff, Int.reduceAdd, Int.reduceSub, Int.reduceLE, Int.reduceLT, Int.reduceEq, Int.reduceToNat, Int.reduceNeg, Int.cast_ofNat_Int, Int.reduceNatCast, Int.reduceNatCast', Int.zero_add, Int.add_zero, Nat.zero_add, Nat.add_zero, and_self, decide_true, decide_false, zX0_insideOf_B, zX0_insideOf_F, zX0_insideOf_R, zX0_insideOf_X, zX0_insideOf_C25, zX0_insideOf_C36, pm_z_ireti (zX0_insideOf_R), dX0_insideOf_0, dX0_insideOf_1, dX0_insideOf_3, dX0_insideOf_4, dX0_insideOf_5, dX0_insideOf_6, dX0_insideOf_9, dX0_insideOf_10, dX0_insideOf_11, dX0_insideOf_12, dX0_insideOf_15, dX0_insideOf_16, dX0_insideOf_17, dX0_insideOf_18, dX0_insideOf_20, dX0_insideOf_21, dX0_insideOf_22, dX0_insideOf_23, dX0_insideOf_24, dX0_insideOf_25, dX0_insideOf_28, dX0_insideOf_29, dX0_insideOf_30, dX0_insideOf_31, dX0_insideOf_34, dX0_insideOf_35, dX0_insideOf_38, dX0_insideOf_39, dX0_insideOf_40, dX0_insideOf_41, dX0_insideOf_42, dX0_insideOf_43, dX0_insideOf_46, h.1, h.2, pm_z_rcv1 h.1]
    exact hk
/-- the brackets that are open behind a stretch of a tour, as bits -/
def om : List Int → Nat
  | [] => 0
  | v :: l => if 100 ≤ v then om l ^^^ 2 ^ (v - 100).toNat else om l
theorem om_lt : ∀ {l : List Int}, okT l → om l < 2 ^ 60
  | [], _ => by decide
  | v :: l, h => by
    have ih := om_lt (l := l) (fun w hw => h w (List.mem_cons_of_mem _ hw))
    unfold om
    split
    · refine Nat.xor_lt_two_pow ih (Nat.pow_lt_pow_right (by omega) ?_)
      rcases h v List.mem_cons_self with h1 | h1 <;> omega
    · exact ih
theorem pl_sh : ∀ c : Nat, c < 60 → pm_lshl 1 (c : Int) = Int64.ofNat (2 ^ c) := by decide +kernel
theorem pl_xor (a b : Nat) : Int64.ofNat a ^^^ Int64.ofNat b = Int64.ofNat (a ^^^ b) := by
  apply Int64.toBitVec_inj.mp
  simp only [Int64.toBitVec_xor, Int64.toBitVec_ofNat']
  apply BitVec.eq_of_getLsbD_eq
  intro i hi
  simp [BitVec.getLsbD_xor, BitVec.getLsbD_ofNat, hi, Nat.testBit_xor]
theorem pl_and (a b : Nat) : Int64.ofNat a &&& Int64.ofNat b = Int64.ofNat (a &&& b) := by
  apply Int64.toBitVec_inj.mp
  simp only [Int64.toBitVec_and, Int64.toBitVec_ofNat']
  apply BitVec.eq_of_getLsbD_eq
  intro i hi
  simp [BitVec.getLsbD_and, BitVec.getLsbD_ofNat, hi, Nat.testBit_and]
theorem pl_cmp (x y : Int64) : pm_lcmp x y = 0 ↔ x = y := by
  unfold pm_lcmp lg_cmp
  by_cases h1 : x > y
  · rw [if_pos h1]
    constructor
    · intro h; exact absurd h (by decide)
    · rintro rfl
      have := Int64.lt_iff_toInt_lt.mp h1
      omega
  · rw [if_neg h1]
    by_cases h2 : x = y
    · rw [if_pos h2]; simp [h2]
    · rw [if_neg h2]
      constructor
      · intro h; exact absurd h (by decide)
      · intro h; exact absurd h h2
theorem pl_ofN0 {a : Nat} (h : a < 2 ^ 64) : Int64.ofNat a = 0 ↔ a = 0 := by
  constructor
  · intro e
    have h1 := congrArg Int64.toBitVec e
    rw [Int64.toBitVec_ofNat'] at h1
    have h2 := congrArg BitVec.toNat h1
    rw [BitVec.toNat_ofNat, Nat.mod_eq_of_lt h] at h2
    rw [h2]
    rfl
  · rintro rfl
    rfl
theorem pl_bit {m c : Nat} (hm : m < 2 ^ 60) (hc : c < 60) : pm_lcmp (Int64.ofNat m &&& pm_lshl 1 (c : Int)) 0 = 0 ↔ m.testBit c = false := by
  rw [pl_cmp, pl_sh c hc, pl_and, pl_ofN0 (Nat.lt_of_le_of_lt Nat.and_le_left (by omega))]
  constructor
  · intro h
    have h1 := congrArg (fun z => Nat.testBit z c) h
    simpa [Nat.testBit_and, Nat.testBit_two_pow] using h1
  · intro h
    apply Nat.eq_of_testBit_eq
    intro i
    rw [Nat.testBit_and, Nat.testBit_two_pow]
    by_cases hi : c = i
    · subst hi; simp [h]
    · simp [hi]
theorem drop_cons {l : List Int} {i : Nat} (h : i < l.length) : l.drop i = l.getD i 0 :: l.drop (i + 1) := by
  rw [List.getD_eq_getElem?_getD, List.getElem?_eq_getElem h]
  simp
theorem seg_at {row : Nat → Int} {u : Nat} {A t B : List Int} (h : fo_seg row u A t B) {i : Nat} (hi : i < t.length) : row (A.length + i) = t.getD i 0 := by
  have hsp : t = t.take i ++ t.getD i 0 :: t.drop (i + 1) := by
    rw [List.getD_eq_getElem?_getD, List.getElem?_eq_getElem hi]
    simp
  rw [hsp] at h
  have := seg_get h
  rw [List.length_take, Nat.min_eq_left (by omega)] at this
  rw [this]
theorem openAt_loop {f : pm_H} {a r u : Nat} {row : Nat → Int} {A t1 t2 B : List Int} {x : Int} {P : pm_P} (h : fo_at f a r row u) (hu : u ≤ 48) (hs : fo_seg row u A (t1 ++ t2) B) (ht : okT (t1 ++ t2)) (hP : P (some (.inr (.inr (Int64.ofNat (om t1))))) f) : ∀ (i : Nat), i ≤ t1.length → pm_W eX0_openAt P (fun _ _ => False) 7 [some (.inr (.inl (some a))), some (.inl x), some (.inr (.inr (Int64.ofNat (om (t1.drop i))))), none, some (.inl (((A.length + i : Nat) : Int) - 1))] [] f := by
  have hl := seg_len hs
  rw [List.length_append] at hl
  intro i
  induction i with
  | zero =>
    intro hi
    refine pm_go_on [7] 60 ?_
    set_option maxRecDepth 100000 in simp (maxSteps := 2000000) only [pm_x_run, pm_x_rt, pm_x_rf, pm_z_S, pm_z_D, pm_z_cut0, pm_z_cut1, pm_z_cli, pm_z_clr, pm_z_cln, pm_z_cll, pm_z_up, pm_x_aload0, pm_x_getf, pm_x_gf, pm_x_goto, pm_x_gv, pm_x_ia, pm_x_iald, pm_x_icmp_eq, pm_x_icmp_lt, pm_x_if_lt, pm_x_iinc4, pm_x_iload1, pm_x_iload4, pm_x_istore4, pm_x_lload2, pm_x_lstore2, pm_z_bipush, pm_z_iconst, pm_z_isub, pm_z_lconst0, pm_z_lconst1, pm_z_lret, pm_z_lshl, pm_z_lxor, Bool.cond_true, Bool.cond_false, Bool.or_false, Bool.false_or, Bool.true_or, Bool.or_true, true_and, and_true, if_true, if_false, List.length_cons, List.length_nil, List.getElem?_cons_zero, List.getElem?_cons_succ, List.set_cons_zero, List.set_cons_succ, Option.toList_some, Option.toList_none, List.cons_append, List.nil_append, beq_self_eq_true, Option.isSome_some, Option.isSome_none, pm_tg_lit, ite_true, ite_false, Nat.reduceAdd, Nat.reduceBEq, Nat.reduceLT, Nat.reduceLeDiff, Nat.reduceEqDiff, Int.reduceAdd, Int.reduceSub, Int.reduceLE, Int.reduceLT, Int.reduceEq, Int.reduceToNat, Int.reduceNeg, Int.cast_ofNat_Int, Int.reduceNatCast, Int.reduceNatCast', Int.zero_add, Int.add_zero, Nat.zero_add, Nat.add_zero, and_self, decide_true, decide_false, zX0_openAt_B, zX0_openAt_F, zX0_openAt_R, zX0_openAt_X, fX0_11, dX0_openAt_0, dX0_openAt_1, dX0_openAt_2, dX0_openAt_3, dX0_openAt_4, dX0_openAt_5, dX0_openAt_7, dX0_openAt_9, dX0_openAt_12, dX0_openAt_13, dX0_openAt_16, dX0_openAt_18, dX0_openAt_19, dX0_openAt_20, dX0_openAt_23, dX0_openAt_24, dX0_openAt_27, dX0_openAt_29, dX0_openAt_30, dX0_openAt_32, dX0_openAt_35, dX0_openAt_36, dX0_openAt_37, dX0_openAt_38, dX0_openAt_41, dX0_openAt_43, dX0_openAt_44, dX0_openAt_46, dX0_openAt_47, dX0_openAt_48, dX0_openAt_49, dX0_openAt_50, dX0_openAt_53, dX0_openAt_56, dX0_openAt_57, h.1, h.2]
    rw [List.drop_zero]
    by_cases hA : A.length = 0
    · rw [if_pos (by omega)]
      exact hP
    · rw [if_neg (by omega)]
      refine ⟨by omega, ?_⟩
      have e : (((A.length + 0 : Nat) : Int) - 1).toNat = A.length - 1 := by omega
      first
        | rw [e, if_pos ((seg_pre hs).resolve_left hA)]
        | rw [show ((A.length : Int) - 1).toNat = A.length - 1 by omega, if_pos ((seg_pre hs).resolve_left hA)]
      exact hP
  | succ i ih =>
    intro hi
    have ih2 := ih (by omega)
    refine pm_go_on [7] 60 ?_
    set_option maxRecDepth 100000 in simp (maxSteps := 2000000) only [pm_x_run, pm_x_rt, pm_x_rf, pm_z_S, pm_z_D, pm_z_cut0, pm_z_cut1, pm_z_cli, pm_z_clr, pm_z_cln, pm_z_cll, pm_z_up, pm_x_aload0, pm_x_getf, pm_x_gf, pm_x_goto, pm_x_gv, pm_x_ia, pm_x_iald, pm_x_icmp_eq, pm_x_icmp_lt, pm_x_if_lt, pm_x_iinc4, pm_x_iload1, pm_x_iload4, pm_x_istore4, pm_x_lload2, pm_x_lstore2, pm_z_bipush, pm_z_iconst, pm_z_isub, pm_z_lconst0, pm_z_lconst1, pm_z_lret, pm_z_lshl, pm_z_lxor, Bool.cond_true, Bool.cond_false, Bool.or_false, Bool.false_or, Bool.true_or, Bool.or_true, true_and, and_true, if_true, if_false, List.length_cons, List.length_nil, List.getElem?_cons_zero, List.getElem?_cons_succ, List.set_cons_zero, List.set_cons_succ, Option.toList_some, Option.toList_none, List.cons_append, List.nil_append, beq_self_eq_true, Option.isSome_some, Option.isSome_none, pm_tg_lit, ite_true, ite_false, Nat.reduceAdd, Nat.reduceBEq, Nat.reduceLT, Nat.reduceLeDiff, Nat.reduceEqDiff, Int.reduceAdd, Int.reduceSub, Int.reduceLE, Int.reduceLT, Int.reduceEq, Int.reduceToNat, Int.reduceNeg, Int.cast_ofNat_Int, Int.reduceNatCast, Int.reduceNatCast', Int.zero_add, Int.add_zero, Nat.zero_add, Nat.add_zero, and_self, decide_true, decide_false, zX0_openAt_B, zX0_openAt_F, zX0_openAt_R, zX0_openAt_X, fX0_11, dX0_openAt_0, dX0_openAt_1, dX0_openAt_2, dX0_openAt_3, dX0_openAt_4, dX0_openAt_5, dX0_openAt_7, dX0_openAt_9, dX0_openAt_12, dX0_openAt_13, dX0_openAt_16, dX0_openAt_18, dX0_openAt_19, dX0_openAt_20, dX0_openAt_23, dX0_openAt_24, dX0_openAt_27, dX0_openAt_29, dX0_openAt_30, dX0_openAt_32, dX0_openAt_35, dX0_openAt_36, dX0_openAt_37, dX0_openAt_38, dX0_openAt_41, dX0_openAt_43, dX0_openAt_44, dX0_openAt_46, dX0_openAt_47, dX0_openAt_48, dX0_openAt_49, dX0_openAt_50, dX0_openAt_53, dX0_openAt_56, dX0_openAt_57, h.1, h.2]
    have hi2 : i < (t1 ++ t2).length := by rw [List.length_append]; omega
    have hg : (t1 ++ t2).getD i 0 = t1.getD i 0 := by
      rw [List.getD_eq_getElem?_getD, List.getD_eq_getElem?_getD, List.getElem?_append_left (by omega)]
    have hrow : row (A.length + i) = t1.getD i 0 := by rw [seg_at hs hi2, hg]
    have hmem : t1.getD i 0 ∈ t1 ++ t2 := by
      rw [← hrow]
      exact seg_in hs (by omega) (by omega)
    have e : (((A.length + (i + 1) : Nat) : Int) - 1).toNat = A.length + i := by omega
    rw [if_neg (by omega)]
    refine ⟨by omega, ?_⟩
    rw [e, hrow]
    have hd : om (t1.drop i) = if 100 ≤ t1.getD i 0 then om (t1.drop (i + 1)) ^^^ 2 ^ (t1.getD i 0 - 100).toNat else om (t1.drop (i + 1)) := by
      rw [drop_cons (show i < t1.length by omega)]
      rfl
    have e2 : ((A.length + (i + 1) : Nat) : Int) - 1 + -1 = ((A.length + i : Nat) : Int) - 1 := by omega
    rcases ht _ hmem with h1 | h1
    · rw [if_neg (by omega)]
      refine ⟨by omega, ?_⟩
      rw [if_pos (by omega)]
      refine ⟨by omega, ?_⟩
      rw [if_neg (by omega)] at hd
      rw [← hd, e2]
      exact ih2
    · rw [if_neg (by omega)]
      refine ⟨by omega, ?_⟩
      rw [if_neg (by omega)]
      refine ⟨by omega, by omega, by omega, ?_⟩
      rw [if_pos (by omega)] at hd
      obtain ⟨c, hc⟩ := Int.eq_ofNat_of_zero_le (show 0 ≤ t1.getD i 0 - 100 by omega)
      rw [hc, pl_sh c (by omega), pl_xor]
      rw [hc, Int.toNat_natCast] at hd
      rw [← hd, e2]
      exact ih2
theorem openAt_seg {f : pm_H} {a r u : Nat} {row : Nat → Int} {A t1 t2 B : List Int} {k : pm_P} (h : fo_at f a r row u) (hu : u ≤ 48) (hs : fo_seg row u A (t1 ++ t2) B) (ht : okT (t1 ++ t2)) (hk : k (some (.inr (.inr (Int64.ofNat (om t1))))) f) : pm_ex T_X0_openAt [.inr (.inl (some a)), .inl ((A.length + t1.length : Nat) : Int)] f k := by
  have hl := seg_len hs
  rw [List.length_append] at hl
  refine in_X0_openAt ?_
  refine pm_go_on [7] 60 ?_
  set_option maxRecDepth 100000 in simp (maxSteps := 2000000) only [pm_x_run, pm_x_rt, pm_x_rf, pm_z_S, pm_z_D, pm_z_cut0, pm_z_cut1, pm_z_cli, pm_z_clr, pm_z_cln, pm_z_cll, pm_z_up, pm_x_aload0, pm_x_getf, pm_x_gf, pm_x_goto, pm_x_gv, pm_x_ia, pm_x_iald, pm_x_icmp_eq, pm_x_icmp_lt, pm_x_if_lt, pm_x_iinc4, pm_x_iload1, pm_x_iload4, pm_x_istore4, pm_x_lload2, pm_x_lstore2, pm_z_bipush, pm_z_iconst, pm_z_isub, pm_z_lconst0, pm_z_lconst1, pm_z_lret, pm_z_lshl, pm_z_lxor, Bool.cond_true, Bool.cond_false, Bool.or_false, Bool.false_or, Bool.true_or, Bool.or_true, true_and, and_true, if_true, if_false, List.length_cons, List.length_nil, List.getElem?_cons_zero, List.getElem?_cons_succ, List.set_cons_zero, List.set_cons_succ, Option.toList_some, Option.toList_none, List.cons_append, List.nil_append, beq_self_eq_true, Option.isSome_some, Option.isSome_none, pm_tg_lit, ite_true, ite_false, Nat.reduceAdd, Nat.reduceBEq, Nat.reduceLT, Nat.reduceLeDiff, Nat.reduceEqDiff, Int.reduceAdd, Int.reduceSub, Int.reduceLE, Int.reduceLT, Int.reduceEq, Int.reduceToNat, Int.reduceNeg, Int.cast_ofNat_Int, Int.reduceNatCast, Int.reduceNatCast', Int.zero_add, Int.add_zero, Nat.zero_add, Nat.add_zero, and_self, decide_true, decide_false, zX0_openAt_B, zX0_openAt_F, zX0_openAt_R, zX0_openAt_X, fX0_11, dX0_openAt_0, dX0_openAt_1, dX0_openAt_2, dX0_openAt_3, dX0_openAt_4, dX0_openAt_5, dX0_openAt_7, dX0_openAt_9, dX0_openAt_12, dX0_openAt_13, dX0_openAt_16, dX0_openAt_18, dX0_openAt_19, dX0_openAt_20, dX0_openAt_23, dX0_openAt_24, dX0_openAt_27, dX0_openAt_29, dX0_openAt_30, dX0_openAt_32, dX0_openAt_35, dX0_openAt_36, dX0_openAt_37, dX0_openAt_38, dX0_openAt_41, dX0_openAt_43, dX0_openAt_44, dX0_openAt_46, dX0_openAt_47, dX0_openAt_48, dX0_openAt_49, dX0_openAt_50, dX0_openAt_53, dX0_openAt_56, dX0_openAt_57, h.1, h.2]
  refine ⟨by omega, ?_⟩
  have := openAt_loop (x := ((A.length + t1.length : Nat) : Int)) h hu hs ht hk t1.length (Nat.le_refl _)
  rw [List.drop_length] at this
  exact this
/-- of brackets open behind a stretch the innermost one's cable; -1 without -/
def inn (M : Nat) : List Int → Int
  | [] => -1
  | v :: l => if 100 ≤ v ∧ M.testBit (v - 100).toNat = true then v - 100 else inn M l
theorem innermost_loop {f : pm_H} {a r u : Nat} {row : Nat → Int} {A t1 t2 B : List Int} {x y : Int} {P : pm_P} (h : fo_at f a r row u) (hu : u ≤ 48) (hs : fo_seg row u A (t1 ++ t2) B) (ht : okT (t1 ++ t2)) (M : Nat) (hM : M < 2 ^ 60) : ∀ (i : Nat), i ≤ t1.length → P (some (.inl (inn M (t1.take i).reverse))) f → pm_W eX0_innermostOf P (fun _ _ => False) 25 [some (.inr (.inl (some a))), some (.inl x), some (.inl y), some (.inr (.inr (Int64.ofNat M))), none, some (.inl (((A.length + i : Nat) : Int) - 1))] [] f := by
  have hl := seg_len hs
  rw [List.length_append] at hl
  intro i
  induction i with
  | zero =>
    intro hi hP
    rw [List.take_zero, List.reverse_nil] at hP
    refine pm_go_on [25] 60 ?_
    set_option maxRecDepth 100000 in simp (maxSteps := 2000000) only [pm_x_run, pm_x_rt, pm_x_rf, pm_z_S, pm_z_D, pm_z_cut0, pm_z_cut1, pm_z_cli, pm_z_clr, pm_z_cln, pm_z_cll, pm_z_up, pm_x_aload0, pm_x_c, pm_x_c2, pm_x_cn0, pm_x_cn1, pm_x_getf, pm_x_gf, pm_x_goto, pm_x_gv, pm_x_ia, pm_x_iald, pm_x_icmp_eq, pm_x_icmp_lt, pm_x_icmp_ne, pm_x_if_eq, pm_x_if_lt, pm_x_iinc5, pm_x_iload1, pm_x_iload2, pm_x_iload5, pm_x_invv, pm_x_istore2, pm_x_istore5, pm_x_lload3, pm_x_lstore3, pm_x_v0, pm_x_v1, pm_x_x2, pm_z_bipush, pm_z_cat0, pm_z_cati, pm_z_catl, pm_z_catr, pm_z_iconst, pm_z_isub, pm_z_land, pm_z_lcmp, pm_z_lconst0, pm_z_lconst1, pm_z_lshl, pm_z_pop0, pm_z_pop1, Bool.cond_true, Bool.cond_false, Bool.or_false, Bool.false_or, Bool.true_or, Bool.or_true, true_and, and_true, if_true, if_false, List.length_cons, List.length_nil, List.getElem?_cons_zero, List.getElem?_cons_succ, List.set_cons_zero, List.set_cons_succ, Option.toList_some, Option.toList_none, List.cons_append, List.nil_append, beq_self_eq_true, Option.isSome_some, Option.isSome_none, pm_tg_lit, ite_true, ite_false, Nat.reduceAdd, Nat.reduceBEq, Nat.reduceLT, Nat.reduceLeDiff, Nat.reduceEqDiff, Int.reduceAdd, Int.reduceSub, Int.reduceLE, Int.reduceLT, Int.reduceEq, Int.reduceToNat, Int.reduceNeg, Int.cast_ofNat_Int, Int.reduceNatCast, Int.reduceNatCast', Int.zero_add, Int.add_zero, Nat.zero_add, Nat.add_zero, and_self, decide_true, decide_false, zX0_innermostOf_B, zX0_innermostOf_F, zX0_innermostOf_R, zX0_innermostOf_X, zX0_innermostOf_C25, zX0_innermostOf_C44, pm_z_ireti (zX0_innermostOf_R), fX0_11, dX0_innermostOf_0, dX0_innermostOf_1, dX0_innermostOf_2, dX0_innermostOf_3, dX0_innermostOf_6, dX0_innermostOf_7, dX0_innermostOf_8, dX0_innermostOf_9, dX0_innermostOf_12, dX0_innermostOf_13, dX0_innermostOf_14, dX0_innermostOf_15, dX0_innermostOf_16, dX0_innermostOf_19, dX0_innermostOf_20, dX0_innermostOf_21, dX0_innermostOf_22, dX0_innermostOf_23, dX0_innermostOf_25, dX0_innermostOf_27, dX0_innermostOf_30, dX0_innermostOf_31, dX0_innermostOf_34, dX0_innermostOf_36, dX0_innermostOf_37, dX0_innermostOf_38, dX0_innermostOf_41, dX0_innermostOf_42, dX0_innermostOf_45, dX0_innermostOf_47, dX0_innermostOf_48, dX0_innermostOf_50, dX0_innermostOf_53, dX0_innermostOf_54, dX0_innermostOf_55, dX0_innermostOf_56, dX0_innermostOf_59, dX0_innermostOf_61, dX0_innermostOf_62, dX0_innermostOf_64, dX0_innermostOf_65, dX0_innermostOf_66, dX0_innermostOf_67, dX0_innermostOf_68, dX0_innermostOf_69, dX0_innermostOf_72, dX0_innermostOf_73, dX0_innermostOf_76, dX0_innermostOf_78, dX0_innermostOf_79, dX0_innermostOf_81, dX0_innermostOf_82, dX0_innermostOf_83, dX0_innermostOf_86, dX0_innermostOf_89, dX0_innermostOf_90, h.1, h.2]
    by_cases hA : A.length = 0
    · rw [if_pos (by omega)]
      exact hP
    · rw [if_neg (by omega)]
      refine ⟨by omega, ?_⟩
      rw [show ((A.length : Int) - 1).toNat = A.length - 1 by omega, if_pos ((seg_pre hs).resolve_left hA)]
      exact hP
  | succ i ih =>
    intro hi hP
    have hi2 : i < (t1 ++ t2).length := by rw [List.length_append]; omega
    have hg : (t1 ++ t2).getD i 0 = t1.getD i 0 := by
      rw [List.getD_eq_getElem?_getD, List.getD_eq_getElem?_getD, List.getElem?_append_left (by omega)]
    have hrow : row (A.length + i) = t1.getD i 0 := by rw [seg_at hs hi2, hg]
    have hmem : t1.getD i 0 ∈ t1 ++ t2 := by
      rw [← hrow]
      exact seg_in hs (by omega) (by omega)
    have htk : (t1.take (i + 1)).reverse = t1.getD i 0 :: (t1.take i).reverse := by
      rw [List.take_add_one, List.reverse_append, List.getD_eq_getElem?_getD, List.getElem?_eq_getElem (show i < t1.length by omega)]
      simp
    rw [htk] at hP
    unfold inn at hP
    have e : (((A.length + (i + 1) : Nat) : Int) - 1).toNat = A.length + i := by omega
    have e2 : ((A.length + (i + 1) : Nat) : Int) - 1 + -1 = ((A.length + i : Nat) : Int) - 1 := by omega
    refine pm_go_on [25] 60 ?_
    set_option maxRecDepth 100000 in simp (maxSteps := 2000000) only [pm_x_run, pm_x_rt, pm_x_rf, pm_z_S, pm_z_D, pm_z_cut0, pm_z_cut1, pm_z_cli, pm_z_clr, pm_z_cln, pm_z_cll, pm_z_up, pm_x_aload0, pm_x_c, pm_x_c2, pm_x_cn0, pm_x_cn1, pm_x_getf, pm_x_gf, pm_x_goto, pm_x_gv, pm_x_ia, pm_x_iald, pm_x_icmp_eq, pm_x_icmp_lt, pm_x_icmp_ne, pm_x_if_eq, pm_x_if_lt, pm_x_iinc5, pm_x_iload1, pm_x_iload2, pm_x_iload5, pm_x_invv, pm_x_istore2, pm_x_istore5, pm_x_lload3, pm_x_lstore3, pm_x_v0, pm_x_v1, pm_x_x2, pm_z_bipush, pm_z_cat0, pm_z_cati, pm_z_catl, pm_z_catr, pm_z_iconst, pm_z_isub, pm_z_land, pm_z_lcmp, pm_z_lconst0, pm_z_lconst1, pm_z_lshl, pm_z_pop0, pm_z_pop1, Bool.cond_true, Bool.cond_false, Bool.or_false, Bool.false_or, Bool.true_or, Bool.or_true, true_and, and_true, if_true, if_false, List.length_cons, List.length_nil, List.getElem?_cons_zero, List.getElem?_cons_succ, List.set_cons_zero, List.set_cons_succ, Option.toList_some, Option.toList_none, List.cons_append, List.nil_append, beq_self_eq_true, Option.isSome_some, Option.isSome_none, pm_tg_lit, ite_true, ite_false, Nat.reduceAdd, Nat.reduceBEq, Nat.reduceLT, Nat.reduceLeDiff, Nat.reduceEqDiff, Int.reduceAdd, Int.reduceSub, Int.reduceLE, Int.reduceLT, Int.reduceEq, Int.reduceToNat, Int.reduceNeg, Int.cast_ofNat_Int, Int.reduceNatCast, Int.reduceNatCast', Int.zero_add, Int.add_zero, Nat.zero_add, Nat.add_zero, and_self, decide_true, decide_false, zX0_innermostOf_B, zX0_innermostOf_F, zX0_innermostOf_R, zX0_innermostOf_X, zX0_innermostOf_C25, zX0_innermostOf_C44, pm_z_ireti (zX0_innermostOf_R), fX0_11, dX0_innermostOf_0, dX0_innermostOf_1, dX0_innermostOf_2, dX0_innermostOf_3, dX0_innermostOf_6, dX0_innermostOf_7, dX0_innermostOf_8, dX0_innermostOf_9, dX0_innermostOf_12, dX0_innermostOf_13, dX0_innermostOf_14, dX0_innermostOf_15, dX0_innermostOf_16, dX0_innermostOf_19, dX0_innermostOf_20, dX0_innermostOf_21, dX0_innermostOf_22, dX0_innermostOf_23, dX0_innermostOf_25, dX0_innermostOf_27, dX0_innermostOf_30, dX0_innermostOf_31, dX0_innermostOf_34, dX0_innermostOf_36, dX0_innermostOf_37, dX0_innermostOf_38, dX0_innermostOf_41, dX0_innermostOf_42, dX0_innermostOf_45, dX0_innermostOf_47, dX0_innermostOf_48, dX0_innermostOf_50, dX0_innermostOf_53, dX0_innermostOf_54, dX0_innermostOf_55, dX0_innermostOf_56, dX0_innermostOf_59, dX0_innermostOf_61, dX0_innermostOf_62, dX0_innermostOf_64, dX0_innermostOf_65, dX0_innermostOf_66, dX0_innermostOf_67, dX0_innermostOf_68, dX0_innermostOf_69, dX0_innermostOf_72, dX0_innermostOf_73, dX0_innermostOf_76, dX0_innermostOf_78, dX0_innermostOf_79, dX0_innermostOf_81, dX0_innermostOf_82, dX0_innermostOf_83, dX0_innermostOf_86, dX0_innermostOf_89, dX0_innermostOf_90, h.1, h.2]
    rw [if_neg (by omega)]
    refine ⟨by omega, ?_⟩
    rw [e, hrow]
    rcases ht _ hmem with h1 | h1
    · rw [if_neg (by omega)]
      refine ⟨by omega, ?_⟩
      rw [if_pos (by omega)]
      refine ⟨by omega, ?_⟩
      rw [if_neg (by omega)] at hP
      rw [e2]
      exact ih (by omega) hP
    · rw [if_neg (by omega)]
      refine ⟨by omega, ?_⟩
      rw [if_neg (by omega)]
      refine ⟨by omega, by omega, ?_⟩
      obtain ⟨c, hc⟩ := Int.eq_ofNat_of_zero_le (show 0 ≤ t1.getD i 0 - 100 by omega)
      rw [hc, Int.toNat_natCast] at hP
      rw [hc]
      cases hb : M.testBit c with
      | true =>
        rw [if_neg (by rw [pl_bit hM (by omega), hb]; simp)]
        rw [if_pos ⟨by omega, hb⟩] at hP
        exact ⟨by omega, by omega, hP⟩
      | false =>
        rw [if_pos (by rw [pl_bit hM (by omega)]; exact hb)]
        rw [if_neg (by rw [hb]; simp)] at hP
        refine ⟨by omega, ?_⟩
        rw [e2]
        exact ih (by omega) hP
theorem innermostOf_seg {f : pm_H} {a r u : Nat} {row : Nat → Int} {A t1 t2 B : List Int} {x : Int} {k : pm_P} (h : fo_at f a r row u) (hu : u ≤ 48) (hs : fo_seg row u A (t1 ++ x :: t2) B) (h1 : x ∉ A) (h2 : x ∉ t1) (ht : okT (t1 ++ x :: t2)) (hk : k (some (.inl (inn (om t1) t1.reverse))) f) : pm_ex T_X0_innermostOf [.inr (.inl (some a)), .inl x] f k := by
  have hl := seg_len hs
  rw [List.length_append] at hl
  refine in_X0_innermostOf ?_
  refine pm_go_on [25] 60 ?_
  set_option maxRecDepth 100000 in simp (maxSteps := 2000000) only [pm_x_run, pm_x_rt, pm_x_rf, pm_z_S, pm_z_D, pm_z_cut0, pm_z_cut1, pm_z_cli, pm_z_clr, pm_z_cln, pm_z_cll, pm_z_up, pm_x_aload0, pm_x_c, pm_x_c2, pm_x_cn0, pm_x_cn1, pm_x_getf, pm_x_gf, pm_x_goto, pm_x_gv, pm_x_ia, pm_x_iald, pm_x_icmp_eq, pm_x_icmp_lt, pm_x_icmp_ne, pm_x_if_eq, pm_x_if_lt, pm_x_iinc5, pm_x_iload1, pm_x_iload2, pm_x_iload5, pm_x_invv, pm_x_istore2, pm_x_istore5, pm_x_lload3, pm_x_lstore3, pm_x_v0, pm_x_v1, pm_x_x2, pm_z_bipush, pm_z_cat0, pm_z_cati, pm_z_catl, pm_z_catr, pm_z_iconst, pm_z_isub, pm_z_land, pm_z_lcmp, pm_z_lconst0, pm_z_lconst1, pm_z_lshl, pm_z_pop0, pm_z_pop1, Bool.cond_true, Bool.cond_false, Bool.or_false, Bool.false_or, Bool.true_or, Bool.or_true, true_and, and_true, if_true, if_false, List.length_cons, List.length_nil, List.getElem?_cons_zero, List.getElem?_cons_succ, List.set_cons_zero, List.set_cons_succ, Option.toList_some, Option.toList_none, List.cons_append, List.nil_append, beq_self_eq_true, Option.isSome_some, Option.isSome_none, pm_tg_lit, ite_true, ite_false, Nat.reduceAdd, Nat.reduceBEq, Nat.reduceLT, Nat.reduceLeDiff, Nat.reduceEqDiff, Int.reduceAdd, Int.reduceSub, Int.reduceLE, Int.reduceLT, Int.reduceEq, Int.reduceToNat, Int.reduceNeg, Int.cast_ofNat_Int, Int.reduceNatCast, Int.reduceNatCast', Int.zero_add, Int.add_zero, Nat.zero_add, Nat.add_zero, and_self, decide_true, decide_false, zX0_innermostOf_B, zX0_innermostOf_F, zX0_innermostOf_R, zX0_innermostOf_X, zX0_innermostOf_C25, zX0_innermostOf_C44, pm_z_ireti (zX0_innermostOf_R), fX0_11, dX0_innermostOf_0, dX0_innermostOf_1, dX0_innermostOf_2, dX0_innermostOf_3, dX0_innermostOf_6, dX0_innermostOf_7, dX0_innermostOf_8, dX0_innermostOf_9, dX0_innermostOf_12, dX0_innermostOf_13, dX0_innermostOf_14, dX0_innermostOf_15, dX0_innermostOf_16, dX0_innermostOf_19, dX0_innermostOf_20, dX0_innermostOf_21, dX0_innermostOf_22, dX0_innermostOf_23, dX0_innermostOf_25, dX0_innermostOf_27, dX0_innermostOf_30, dX0_innermostOf_31, dX0_innermostOf_34, dX0_innermostOf_36, dX0_innermostOf_37, dX0_innermostOf_38, dX0_innermostOf_41, dX0_innermostOf_42, dX0_innermostOf_45, dX0_innermostOf_47, dX0_innermostOf_48, dX0_innermostOf_50, dX0_innermostOf_53, dX0_innermostOf_54, dX0_innermostOf_55, dX0_innermostOf_56, dX0_innermostOf_59, dX0_innermostOf_61, dX0_innermostOf_62, dX0_innermostOf_64, dX0_innermostOf_65, dX0_innermostOf_66, dX0_innermostOf_67, dX0_innermostOf_68, dX0_innermostOf_69, dX0_innermostOf_72, dX0_innermostOf_73, dX0_innermostOf_76, dX0_innermostOf_78, dX0_innermostOf_79, dX0_innermostOf_81, dX0_innermostOf_82, dX0_innermostOf_83, dX0_innermostOf_86, dX0_innermostOf_89, dX0_innermostOf_90, h.1, h.2, pm_z_rcv1 h.1]
  refine placeOf_seg h hu hs h1 h2 ?_
  set_option maxRecDepth 100000 in simp (maxSteps := 2000000) only [pm_x_run, pm_x_rt, pm_x_rf, pm_z_S, pm_z_D, pm_z_cut0, pm_z_cut1, pm_z_cli, pm_z_clr, pm_z_cln, pm_z_cll, pm_z_up, pm_x_aload0, pm_x_c, pm_x_c2, pm_x_cn0, pm_x_cn1, pm_x_getf, pm_x_gf, pm_x_goto, pm_x_gv, pm_x_ia, pm_x_iald, pm_x_icmp_eq, pm_x_icmp_lt, pm_x_icmp_ne, pm_x_if_eq, pm_x_if_lt, pm_x_iinc5, pm_x_iload1, pm_x_iload2, pm_x_iload5, pm_x_invv, pm_x_istore2, pm_x_istore5, pm_x_lload3, pm_x_lstore3, pm_x_v0, pm_x_v1, pm_x_x2, pm_z_bipush, pm_z_cat0, pm_z_cati, pm_z_catl, pm_z_catr, pm_z_iconst, pm_z_isub, pm_z_land, pm_z_lcmp, pm_z_lconst0, pm_z_lconst1, pm_z_lshl, pm_z_pop0, pm_z_pop1, Bool.cond_true, Bool.cond_false, Bool.or_false, Bool.false_or, Bool.true_or, Bool.or_true, true_and, and_true, if_true, if_false, List.length_cons, List.length_nil, List.getElem?_cons_zero, List.getElem?_cons_succ, List.set_cons_zero, List.set_cons_succ, Option.toList_some, Option.toList_none, List.cons_append, List.nil_append, beq_self_eq_true, Option.isSome_some, Option.isSome_none, pm_tg_lit, ite_true, ite_false, Nat.reduceAdd, Nat.reduceBEq, Nat.reduceLT, Nat.reduceLeDiff, Nat.reduceEqDiff, Int.reduceAdd, Int.reduceSub, Int.reduceLE, Int.reduceLT, Int.reduceEq, Int.reduceToNat, Int.reduceNeg, Int.cast_ofNat_Int, Int.reduceNatCast, Int.reduceNatCast', Int.zero_add, Int.add_zero, Nat.zero_add, Nat.add_zero, and_self, decide_true, decide_false, zX0_innermostOf_B, zX0_innermostOf_F, zX0_innermostOf_R, zX0_innermostOf_X, zX0_innermostOf_C25, zX0_innermostOf_C44, pm_z_ireti (zX0_innermostOf_R), fX0_11, dX0_innermostOf_0, dX0_innermostOf_1, dX0_innermostOf_2, dX0_innermostOf_3, dX0_innermostOf_6, dX0_innermostOf_7, dX0_innermostOf_8, dX0_innermostOf_9, dX0_innermostOf_12, dX0_innermostOf_13, dX0_innermostOf_14, dX0_innermostOf_15, dX0_innermostOf_16, dX0_innermostOf_19, dX0_innermostOf_20, dX0_innermostOf_21, dX0_innermostOf_22, dX0_innermostOf_23, dX0_innermostOf_25, dX0_innermostOf_27, dX0_innermostOf_30, dX0_innermostOf_31, dX0_innermostOf_34, dX0_innermostOf_36, dX0_innermostOf_37, dX0_innermostOf_38, dX0_innermostOf_41, dX0_innermostOf_42, dX0_innermostOf_45, dX0_innermostOf_47, dX0_innermostOf_48, dX0_innermostOf_50, dX0_innermostOf_53, dX0_innermostOf_54, dX0_innermostOf_55, dX0_innermostOf_56, dX0_innermostOf_59, dX0_innermostOf_61, dX0_innermostOf_62, dX0_innermostOf_64, dX0_innermostOf_65, dX0_innermostOf_66, dX0_innermostOf_67, dX0_innermostOf_68, dX0_innermostOf_69, dX0_innermostOf_72, dX0_innermostOf_73, dX0_innermostOf_76, dX0_innermostOf_78, dX0_innermostOf_79, dX0_innermostOf_81, dX0_innermostOf_82, dX0_innermostOf_83, dX0_innermostOf_86, dX0_innermostOf_89, dX0_innermostOf_90, h.1, h.2, pm_z_rcv1 h.1]
  rw [if_neg (by omega)]
  refine openAt_seg h hu hs ht ?_
  set_option maxRecDepth 100000 in simp (maxSteps := 2000000) only [pm_x_run, pm_x_rt, pm_x_rf, pm_z_S, pm_z_D, pm_z_cut0, pm_z_cut1, pm_z_cli, pm_z_clr, pm_z_cln, pm_z_cll, pm_z_up, pm_x_aload0, pm_x_c, pm_x_c2, pm_x_cn0, pm_x_cn1, pm_x_getf, pm_x_gf, pm_x_goto, pm_x_gv, pm_x_ia, pm_x_iald, pm_x_icmp_eq, pm_x_icmp_lt, pm_x_icmp_ne, pm_x_if_eq, pm_x_if_lt, pm_x_iinc5, pm_x_iload1, pm_x_iload2, pm_x_iload5, pm_x_invv, pm_x_istore2, pm_x_istore5, pm_x_lload3, pm_x_lstore3, pm_x_v0, pm_x_v1, pm_x_x2, pm_z_bipush, pm_z_cat0, pm_z_cati, pm_z_catl, pm_z_catr, pm_z_iconst, pm_z_isub, pm_z_land, pm_z_lcmp, pm_z_lconst0, pm_z_lconst1, pm_z_lshl, pm_z_pop0, pm_z_pop1, Bool.cond_true, Bool.cond_false, Bool.or_false, Bool.false_or, Bool.true_or, Bool.or_true, true_and, and_true, if_true, if_false, List.length_cons, List.length_nil, List.getElem?_cons_zero, List.getElem?_cons_succ, List.set_cons_zero, List.set_cons_succ, Option.toList_some, Option.toList_none, List.cons_append, List.nil_append, beq_self_eq_true, Option.isSome_some, Option.isSome_none, pm_tg_lit, ite_true, ite_false, Nat.reduceAdd, Nat.reduceBEq, Nat.reduceLT, Nat.reduceLeDiff, Nat.reduceEqDiff, Int.reduceAdd, Int.reduceSub, Int.reduceLE, Int.reduceLT, Int.reduceEq, Int.reduceToNat, Int.reduceNeg, Int.cast_ofNat_Int, Int.reduceNatCast, Int.reduceNatCast', Int.zero_add, Int.add_zero, Nat.zero_add, Nat.add_zero, and_self, decide_true, decide_false, zX0_innermostOf_B, zX0_innermostOf_F, zX0_innermostOf_R, zX0_innermostOf_X, zX0_innermostOf_C25, zX0_innermostOf_C44, pm_z_ireti (zX0_innermostOf_R), fX0_11, dX0_innermostOf_0, dX0_innermostOf_1, dX0_innermostOf_2, dX0_innermostOf_3, dX0_innermostOf_6, dX0_innermostOf_7, dX0_innermostOf_8, dX0_innermostOf_9, dX0_innermostOf_12, dX0_innermostOf_13, dX0_innermostOf_14, dX0_innermostOf_15, dX0_innermostOf_16, dX0_innermostOf_19, dX0_innermostOf_20, dX0_innermostOf_21, dX0_innermostOf_22, dX0_innermostOf_23, dX0_innermostOf_25, dX0_innermostOf_27, dX0_innermostOf_30, dX0_innermostOf_31, dX0_innermostOf_34, dX0_innermostOf_36, dX0_innermostOf_37, dX0_innermostOf_38, dX0_innermostOf_41, dX0_innermostOf_42, dX0_innermostOf_45, dX0_innermostOf_47, dX0_innermostOf_48, dX0_innermostOf_50, dX0_innermostOf_53, dX0_innermostOf_54, dX0_innermostOf_55, dX0_innermostOf_56, dX0_innermostOf_59, dX0_innermostOf_61, dX0_innermostOf_62, dX0_innermostOf_64, dX0_innermostOf_65, dX0_innermostOf_66, dX0_innermostOf_67, dX0_innermostOf_68, dX0_innermostOf_69, dX0_innermostOf_72, dX0_innermostOf_73, dX0_innermostOf_76, dX0_innermostOf_78, dX0_innermostOf_79, dX0_innermostOf_81, dX0_innermostOf_82, dX0_innermostOf_83, dX0_innermostOf_86, dX0_innermostOf_89, dX0_innermostOf_90, h.1, h.2, pm_z_rcv1 h.1]
  refine ⟨by omega, ?_⟩
  exact innermost_loop h hu hs ht (om t1) (om_lt (fun v hv => ht v (List.mem_append_left _ hv))) t1.length (Nat.le_refl _) (by rw [List.take_length]; exact hk)
