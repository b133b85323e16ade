/-! what a Survey of a Net answers: reach, span, width, near, within -/
theorem spread_z {f : pm_H} {s : Nat} {L : Nat → Nat → Int} {k : pm_P} (h : sv_at f s L) {lk : Nat → Nat → Bool} (hL : ∀ n, n < 16 → L 0 n = ((bs (lk n) 16 : Nat) : Int)) {p : Nat → Bool} {d : Nat} {F D : Int} (hF : F = ((bs p 16 : Nat) : Int)) (hD : D = (d : Int)) (hd : d < 1000) (hk : k (some (.inl ((bs (itF lk no0 p d) 16 : Nat) : Int))) f) : pm_ex T_X2_spread [.inr (.inl (some s)), .inl F, .inl D, .inl 0] f k := by
  have := spread_c (bar := no0) (d := d) h hL hd hk
  rw [show bs no0 16 = 0 from bs_none 16] at this
  rw [hF, hD]
  exact this
theorem pb_one {x : Nat} (hx : x < 16) : pm_shl 1 (x : Int) = ((bs (it1 x) 16 : Nat) : Int) := by
  have : x ≤ 15 := by omega
  have h2 : 2 ^ x ≤ 2 ^ 15 := Nat.pow_le_pow_right (by omega) this
  have := pb_shl (a := 1) (k := x) (by omega) (by omega)
  rw [show ((1 : Nat) : Int) = 1 from rfl, Nat.one_mul, bs_one hx] at this
  exact this
def lkN (N : nt) (wo : Int) : Nat → Nat → Bool := lkF N (lkG N wo) (ldN N)
theorem lkG_sp (N : nt) (wo : Int) : lkG N wo = spG N false wo (-1) := by
  funext c
  unfold lkG spG
  have h1 : ¬ ((cN N 0 c : Int) = -1 ∨ (cN N 1 c : Int) = -1) := by omega
  rw [decide_eq_false h1]
  simp [Bool.and_comm]
theorem lkN_C (N : nt) (wo : Int) : lkN N wo = lkC (cN N 0) (cN N 1) (spG N false wo (-1)) (ldN N) := by
  unfold lkN
  rw [lkG_sp]
  rfl
/-- within d steps of x, cable wo aside -/
def wnB (N : nt) (wo : Int) (x d m : Nat) : Bool := decide (fdN N false wo (-1) x m ≠ -1 ∧ fdN N false wo (-1) x m ≤ (d : Int))
section RCH
variable {f : pm_H} {s a : Nat} {L : Nat → Nat → Int} {N : nt} {k : pm_P} {A R : Nat → Nat → Int} {U : Nat → Nat} {S : Nat → Int}
theorem ok16 (o : okB N) {c : Nat} (hc : c < ldN N) : cN N 0 c < 16 ∧ cN N 1 c < 16 := by
  have b0 := okn o
  have oc := o.2.1 c hc
  omega
theorem it_wn (o : okB N) {wo : Int} {x d m : Nat} (hx : x < 16) (hm : m < 16) : itF (lkN N wo) no0 (it1 x) d m = wnB N wo x d m := by
  rw [lkN_C]
  exact fd_le (fun c hc => (ok16 o hc).1) (fun c hc => (ok16 o hc).2) hx hm
theorem bs_wn (o : okB N) {wo : Int} {x d : Nat} (hx : x < 16) : bs (itF (lkN N wo) no0 (it1 x) d) 16 = bs (wnB N wo x d) 16 := bs_ext fun m hm => it_wn o hx hm
theorem reach_c (h : sv_at f s L) (hc : cn_at f a A R U S) (hl : ckl N A S) (o : okB N) (hd : a + 21 ≤ s ∨ s + 6 ≤ a) {wo : Int} {x : Nat} (hx : x < 16) (hk : ∀ (f' : pm_H) (L' : Nat → Nat → Int), sv_at f' s L' → sfr s f f' → k (some (.inl ((bs (wnB N wo x 16) 16 : Nat) : Int))) f') : pm_ex T_X2_reach [.inr (.inl (some s)), .inr (.inl (some a)), .inl (x : Int), .inl wo] f k := by
  refine in_X2_reach ?_
  refine pm_go_on [] 60 ?_
  set_option maxRecDepth 100000 in simp (maxSteps := 2000000) only [pm_x_run, pm_x_rt, pm_x_rf, pm_z_S, pm_z_D, pm_z_cut0, pm_z_cut1, pm_z_cli, pm_z_clr, pm_z_cln, pm_z_cll, pm_z_up, pm_x_aload0, pm_x_aload1, pm_x_c, pm_x_c2, pm_x_cn0, pm_x_cn1, pm_x_iload2, pm_x_iload3, pm_x_invv, pm_x_v0, pm_x_v1, pm_x_x2, pm_z_bipush, pm_z_cat0, pm_z_cati, pm_z_catl, pm_z_catr, pm_z_iconst, pm_z_ishl, pm_z_pop0, pm_z_pop1, zX2_reach_B, zX2_reach_F, zX2_reach_R, zX2_reach_X, zX2_reach_C27, zX2_reach_C47, pm_z_ireti (zX2_reach_R), dX2_reach_0, dX2_reach_1, dX2_reach_2, dX2_reach_3, dX2_reach_6, dX2_reach_7, dX2_reach_8, dX2_reach_9, dX2_reach_10, dX2_reach_12, dX2_reach_13, dX2_reach_16, Bool.cond_true, Bool.cond_false, Bool.or_false, Bool.false_or, Bool.true_or, Bool.or_true, true_and, and_true, if_true, if_false, List.length_cons, List.length_nil, List.getElem?_cons_zero, List.getElem?_cons_succ, List.set_cons_zero, List.set_cons_succ, Option.toList_some, Option.toList_none, List.cons_append, List.nil_append, beq_self_eq_true, Option.isSome_some, Option.isSome_none, pm_tg_lit, ite_true, ite_false, Nat.reduceAdd, Nat.reduceBEq, Nat.reduceLT, Nat.reduceLeDiff, Nat.reduceEqDiff, Int.reduceAdd, Int.reduceSub, Int.reduceLE, Int.reduceLT, Int.reduceEq, Int.reduceToNat, Int.reduceNeg, Int.cast_ofNat_Int, Int.reduceNatCast, Int.reduceNatCast', Int.zero_add, Int.add_zero, Nat.zero_add, Nat.add_zero, and_self, decide_true, decide_false, true_or, or_true, or_false, false_or, eq_self, Int.toNat_natCast, b2_e0, b2_e1, b2_ok, b2_w, b2_v, b2_tt, b2_ff, Bool.true_eq_false, Bool.false_eq_true, Option.some.injEq, Int.one_mul, Int.mul_one, not_true_eq_false, not_false_eq_true, ite_not, decide_eq_false_iff_not, decide_eq_true_eq, Int.reduceMul, Int.reduceMod, sv0 h, sv1 h, sv2 h, sv3 h, sv4 h, sv5 h, pm_z_rcv1 (sv0 h)]
  refine linkAll_c h hc hl o hd fun f1 g h1 r1 e1 => ?_
  set_option maxRecDepth 100000 in simp (maxSteps := 2000000) only [pm_x_run, pm_x_rt, pm_x_rf, pm_z_S, pm_z_D, pm_z_cut0, pm_z_cut1, pm_z_cli, pm_z_clr, pm_z_cln, pm_z_cll, pm_z_up, pm_x_aload0, pm_x_aload1, pm_x_c, pm_x_c2, pm_x_cn0, pm_x_cn1, pm_x_iload2, pm_x_iload3, pm_x_invv, pm_x_v0, pm_x_v1, pm_x_x2, pm_z_bipush, pm_z_cat0, pm_z_cati, pm_z_catl, pm_z_catr, pm_z_iconst, pm_z_ishl, pm_z_pop0, pm_z_pop1, zX2_reach_B, zX2_reach_F, zX2_reach_R, zX2_reach_X, zX2_reach_C27, zX2_reach_C47, pm_z_ireti (zX2_reach_R), dX2_reach_0, dX2_reach_1, dX2_reach_2, dX2_reach_3, dX2_reach_6, dX2_reach_7, dX2_reach_8, dX2_reach_9, dX2_reach_10, dX2_reach_12, dX2_reach_13, dX2_reach_16, Bool.cond_true, Bool.cond_false, Bool.or_false, Bool.false_or, Bool.true_or, Bool.or_true, true_and, and_true, if_true, if_false, List.length_cons, List.length_nil, List.getElem?_cons_zero, List.getElem?_cons_succ, List.set_cons_zero, List.set_cons_succ, Option.toList_some, Option.toList_none, List.cons_append, List.nil_append, beq_self_eq_true, Option.isSome_some, Option.isSome_none, pm_tg_lit, ite_true, ite_false, Nat.reduceAdd, Nat.reduceBEq, Nat.reduceLT, Nat.reduceLeDiff, Nat.reduceEqDiff, Int.reduceAdd, Int.reduceSub, Int.reduceLE, Int.reduceLT, Int.reduceEq, Int.reduceToNat, Int.reduceNeg, Int.cast_ofNat_Int, Int.reduceNatCast, Int.reduceNatCast', Int.zero_add, Int.add_zero, Nat.zero_add, Nat.add_zero, and_self, decide_true, decide_false, true_or, or_true, or_false, false_or, eq_self, Int.toNat_natCast, b2_e0, b2_e1, b2_ok, b2_w, b2_v, b2_tt, b2_ff, Bool.true_eq_false, Bool.false_eq_true, Option.some.injEq, Int.one_mul, Int.mul_one, not_true_eq_false, not_false_eq_true, ite_not, decide_eq_false_iff_not, decide_eq_true_eq, Int.reduceMul, Int.reduceMod, sv0 h1, sv1 h1, sv2 h1, sv3 h1, sv4 h1, sv5 h1, pm_z_rcv1 (sv0 h1)]
  refine spread_z h1 (lk := lkN N wo) e1 (p := it1 x) (d := 16) (pb_one hx) rfl (by omega) ?_
  set_option maxRecDepth 100000 in simp (maxSteps := 2000000) only [pm_x_run, pm_x_rt, pm_x_rf, pm_z_S, pm_z_D, pm_z_cut0, pm_z_cut1, pm_z_cli, pm_z_clr, pm_z_cln, pm_z_cll, pm_z_up, pm_x_aload0, pm_x_aload1, pm_x_c, pm_x_c2, pm_x_cn0, pm_x_cn1, pm_x_iload2, pm_x_iload3, pm_x_invv, pm_x_v0, pm_x_v1, pm_x_x2, pm_z_bipush, pm_z_cat0, pm_z_cati, pm_z_catl, pm_z_catr, pm_z_iconst, pm_z_ishl, pm_z_pop0, pm_z_pop1, zX2_reach_B, zX2_reach_F, zX2_reach_R, zX2_reach_X, zX2_reach_C27, zX2_reach_C47, pm_z_ireti (zX2_reach_R), dX2_reach_0, dX2_reach_1, dX2_reach_2, dX2_reach_3, dX2_reach_6, dX2_reach_7, dX2_reach_8, dX2_reach_9, dX2_reach_10, dX2_reach_12, dX2_reach_13, dX2_reach_16, Bool.cond_true, Bool.cond_false, Bool.or_false, Bool.false_or, Bool.true_or, Bool.or_true, true_and, and_true, if_true, if_false, List.length_cons, List.length_nil, List.getElem?_cons_zero, List.getElem?_cons_succ, List.set_cons_zero, List.set_cons_succ, Option.toList_some, Option.toList_none, List.cons_append, List.nil_append, beq_self_eq_true, Option.isSome_some, Option.isSome_none, pm_tg_lit, ite_true, ite_false, Nat.reduceAdd, Nat.reduceBEq, Nat.reduceLT, Nat.reduceLeDiff, Nat.reduceEqDiff, Int.reduceAdd, Int.reduceSub, Int.reduceLE, Int.reduceLT, Int.reduceEq, Int.reduceToNat, Int.reduceNeg, Int.cast_ofNat_Int, Int.reduceNatCast, Int.reduceNatCast', Int.zero_add, Int.add_zero, Nat.zero_add, Nat.add_zero, and_self, decide_true, decide_false, true_or, or_true, or_false, false_or, eq_self, Int.toNat_natCast, b2_e0, b2_e1, b2_ok, b2_w, b2_v, b2_tt, b2_ff, Bool.true_eq_false, Bool.false_eq_true, Option.some.injEq, Int.one_mul, Int.mul_one, not_true_eq_false, not_false_eq_true, ite_not, decide_eq_false_iff_not, decide_eq_true_eq, Int.reduceMul, Int.reduceMod]
  have := hk f1 _ h1 r1
  rw [← bs_wn o hx] at this
  exact this
theorem spanBy_c (h : sv_at f s L) {lk : Nat → Nat → Bool} (hL : ∀ n, n < 16 → L 0 n = ((bs (lk n) 16 : Nat) : Int)) {x : Nat} (hx : x < 16) (hk : ∀ r : Nat, r < 16 → bs (itF lk no0 (it1 x) (r + 1)) 16 = bs (itF lk no0 (it1 x) r) 16 → (∀ j, j < r → bs (itF lk no0 (it1 x) (j + 1)) 16 ≠ bs (itF lk no0 (it1 x) j) 16) → k (some (.inl (r : Int))) f) : pm_ex T_X2_spanByLinks [.inr (.inl (some s)), .inl (x : Int)] f k := by
  refine in_X2_spanByLinks ?_
  refine pm_go_on [6] 60 ?_
  set_option maxRecDepth 100000 in simp (maxSteps := 2000000) only [pm_x_run, pm_x_rt, pm_x_rf, pm_z_S, pm_z_D, pm_z_cut0, pm_z_cut1, pm_z_cli, pm_z_clr, pm_z_cln, pm_z_cll, pm_z_up, pm_x_aload0, pm_x_c, pm_x_c2, pm_x_cn0, pm_x_cn1, pm_x_goto, pm_x_icmp_ge, pm_x_icmp_ne, pm_x_iinc3, pm_x_iload1, pm_x_iload2, pm_x_iload3, pm_x_iload4, pm_x_invv, pm_x_istore2, pm_x_istore3, pm_x_istore4, pm_x_v0, pm_x_v1, pm_x_x2, pm_z_bipush, pm_z_cat0, pm_z_cati, pm_z_catl, pm_z_catr, pm_z_iconst, pm_z_ishl, pm_z_pop0, pm_z_pop1, zX2_spanByLinks_B, zX2_spanByLinks_F, zX2_spanByLinks_R, zX2_spanByLinks_X, zX2_spanByLinks_C47, pm_z_ireti (zX2_spanByLinks_R), dX2_spanByLinks_0, dX2_spanByLinks_1, dX2_spanByLinks_2, dX2_spanByLinks_3, dX2_spanByLinks_4, dX2_spanByLinks_5, dX2_spanByLinks_6, dX2_spanByLinks_7, dX2_spanByLinks_9, dX2_spanByLinks_12, dX2_spanByLinks_13, dX2_spanByLinks_14, dX2_spanByLinks_15, dX2_spanByLinks_16, dX2_spanByLinks_19, dX2_spanByLinks_21, dX2_spanByLinks_23, dX2_spanByLinks_24, dX2_spanByLinks_27, dX2_spanByLinks_28, dX2_spanByLinks_29, dX2_spanByLinks_31, dX2_spanByLinks_32, dX2_spanByLinks_35, dX2_spanByLinks_38, dX2_spanByLinks_40, Bool.cond_true, Bool.cond_false, Bool.or_false, Bool.false_or, Bool.true_or, Bool.or_true, true_and, and_true, if_true, if_false, List.length_cons, List.length_nil, List.getElem?_cons_zero, List.getElem?_cons_succ, List.set_cons_zero, List.set_cons_succ, Option.toList_some, Option.toList_none, List.cons_append, List.nil_append, beq_self_eq_true, Option.isSome_some, Option.isSome_none, pm_tg_lit, ite_true, ite_false, Nat.reduceAdd, Nat.reduceBEq, Nat.reduceLT, Nat.reduceLeDiff, Nat.reduceEqDiff, Int.reduceAdd, Int.reduceSub, Int.reduceLE, Int.reduceLT, Int.reduceEq, Int.reduceToNat, Int.reduceNeg, Int.cast_ofNat_Int, Int.reduceNatCast, Int.reduceNatCast', Int.zero_add, Int.add_zero, Nat.zero_add, Nat.add_zero, and_self, decide_true, decide_false, true_or, or_true, or_false, false_or, eq_self, Int.toNat_natCast, b2_e0, b2_e1, b2_ok, b2_w, b2_v, b2_tt, b2_ff, Bool.true_eq_false, Bool.false_eq_true, Option.some.injEq, Int.one_mul, Int.mul_one, not_true_eq_false, not_false_eq_true, ite_not, decide_eq_false_iff_not, decide_eq_true_eq, Int.reduceMul, Int.reduceMod]
  rw [pb_one hx]
  refine pm_for 16 (fun e lv F => ∃ w4 : Option pm_V, F = f ∧ lv = [some (.inr (.inl (some (s)))), some (.inl ((x : Int))), some (.inl (((bs (itF lk no0 (it1 x) e) 16 : Nat) : Int))), some (.inl ((e : Int))), w4] ∧ ∀ j, j < e → bs (itF lk no0 (it1 x) (j + 1)) 16 ≠ bs (itF lk no0 (it1 x) j) 16) (fun e lv F he hJ ih => ?_) (fun lv F hJ => ?_) 0 _ _ (Nat.zero_le _) ⟨none, rfl, rfl, fun j hj => absurd hj (by omega)⟩
  · obtain ⟨w4, rfl, rfl, hj⟩ := hJ
    refine pm_go_on [6] 60 ?_
    set_option maxRecDepth 100000 in simp (maxSteps := 2000000) only [pm_x_run, pm_x_rt, pm_x_rf, pm_z_S, pm_z_D, pm_z_cut0, pm_z_cut1, pm_z_cli, pm_z_clr, pm_z_cln, pm_z_cll, pm_z_up, pm_x_aload0, pm_x_c, pm_x_c2, pm_x_cn0, pm_x_cn1, pm_x_goto, pm_x_icmp_ge, pm_x_icmp_ne, pm_x_iinc3, pm_x_iload1, pm_x_iload2, pm_x_iload3, pm_x_iload4, pm_x_invv, pm_x_istore2, pm_x_istore3, pm_x_istore4, pm_x_v0, pm_x_v1, pm_x_x2, pm_z_bipush, pm_z_cat0, pm_z_cati, pm_z_catl, pm_z_catr, pm_z_iconst, pm_z_ishl, pm_z_pop0, pm_z_pop1, zX2_spanByLinks_B, zX2_spanByLinks_F, zX2_spanByLinks_R, zX2_spanByLinks_X, zX2_spanByLinks_C47, pm_z_ireti (zX2_spanByLinks_R), dX2_spanByLinks_0, dX2_spanByLinks_1, dX2_spanByLinks_2, dX2_spanByLinks_3, dX2_spanByLinks_4, dX2_spanByLinks_5, dX2_spanByLinks_6, dX2_spanByLinks_7, dX2_spanByLinks_9, dX2_spanByLinks_12, dX2_spanByLinks_13, dX2_spanByLinks_14, dX2_spanByLinks_15, dX2_spanByLinks_16, dX2_spanByLinks_19, dX2_spanByLinks_21, dX2_spanByLinks_23, dX2_spanByLinks_24, dX2_spanByLinks_27, dX2_spanByLinks_28, dX2_spanByLinks_29, dX2_spanByLinks_31, dX2_spanByLinks_32, dX2_spanByLinks_35, dX2_spanByLinks_38, dX2_spanByLinks_40, Bool.cond_true, Bool.cond_false, Bool.or_false, Bool.false_or, Bool.true_or, Bool.or_true, true_and, and_true, if_true, if_false, List.length_cons, List.length_nil, List.getElem?_cons_zero, List.getElem?_cons_succ, List.set_cons_zero, List.set_cons_succ, Option.toList_some, Option.toList_none, List.cons_append, List.nil_append, beq_self_eq_true, Option.isSome_some, Option.isSome_none, pm_tg_lit, ite_true, ite_false, Nat.reduceAdd, Nat.reduceBEq, Nat.reduceLT, Nat.reduceLeDiff, Nat.reduceEqDiff, Int.reduceAdd, Int.reduceSub, Int.reduceLE, Int.reduceLT, Int.reduceEq, Int.reduceToNat, Int.reduceNeg, Int.cast_ofNat_Int, Int.reduceNatCast, Int.reduceNatCast', Int.zero_add, Int.add_zero, Nat.zero_add, Nat.add_zero, and_self, decide_true, decide_false, true_or, or_true, or_false, false_or, eq_self, Int.toNat_natCast, b2_e0, b2_e1, b2_ok, b2_w, b2_v, b2_tt, b2_ff, Bool.true_eq_false, Bool.false_eq_true, Option.some.injEq, Int.one_mul, Int.mul_one, not_true_eq_false, not_false_eq_true, ite_not, decide_eq_false_iff_not, decide_eq_true_eq, Int.reduceMul, Int.reduceMod, sv0 h, sv1 h, sv2 h, sv3 h, sv4 h, sv5 h, pm_z_rcv1 (sv0 h)]
    rw [if_pos (by omega)]
    refine spread_z h hL (p := itF lk no0 (it1 x) e) (d := 1) rfl rfl (by omega) ?_
    rw [← itF_add]
    set_option maxRecDepth 100000 in simp (maxSteps := 2000000) only [pm_x_run, pm_x_rt, pm_x_rf, pm_z_S, pm_z_D, pm_z_cut0, pm_z_cut1, pm_z_cli, pm_z_clr, pm_z_cln, pm_z_cll, pm_z_up, pm_x_aload0, pm_x_c, pm_x_c2, pm_x_cn0, pm_x_cn1, pm_x_goto, pm_x_icmp_ge, pm_x_icmp_ne, pm_x_iinc3, pm_x_iload1, pm_x_iload2, pm_x_iload3, pm_x_iload4, pm_x_invv, pm_x_istore2, pm_x_istore3, pm_x_istore4, pm_x_v0, pm_x_v1, pm_x_x2, pm_z_bipush, pm_z_cat0, pm_z_cati, pm_z_catl, pm_z_catr, pm_z_iconst, pm_z_ishl, pm_z_pop0, pm_z_pop1, zX2_spanByLinks_B, zX2_spanByLinks_F, zX2_spanByLinks_R, zX2_spanByLinks_X, zX2_spanByLinks_C47, pm_z_ireti (zX2_spanByLinks_R), dX2_spanByLinks_0, dX2_spanByLinks_1, dX2_spanByLinks_2, dX2_spanByLinks_3, dX2_spanByLinks_4, dX2_spanByLinks_5, dX2_spanByLinks_6, dX2_spanByLinks_7, dX2_spanByLinks_9, dX2_spanByLinks_12, dX2_spanByLinks_13, dX2_spanByLinks_14, dX2_spanByLinks_15, dX2_spanByLinks_16, dX2_spanByLinks_19, dX2_spanByLinks_21, dX2_spanByLinks_23, dX2_spanByLinks_24, dX2_spanByLinks_27, dX2_spanByLinks_28, dX2_spanByLinks_29, dX2_spanByLinks_31, dX2_spanByLinks_32, dX2_spanByLinks_35, dX2_spanByLinks_38, dX2_spanByLinks_40, Bool.cond_true, Bool.cond_false, Bool.or_false, Bool.false_or, Bool.true_or, Bool.or_true, true_and, and_true, if_true, if_false, List.length_cons, List.length_nil, List.getElem?_cons_zero, List.getElem?_cons_succ, List.set_cons_zero, List.set_cons_succ, Option.toList_some, Option.toList_none, List.cons_append, List.nil_append, beq_self_eq_true, Option.isSome_some, Option.isSome_none, pm_tg_lit, ite_true, ite_false, Nat.reduceAdd, Nat.reduceBEq, Nat.reduceLT, Nat.reduceLeDiff, Nat.reduceEqDiff, Int.reduceAdd, Int.reduceSub, Int.reduceLE, Int.reduceLT, Int.reduceEq, Int.reduceToNat, Int.reduceNeg, Int.cast_ofNat_Int, Int.reduceNatCast, Int.reduceNatCast', Int.zero_add, Int.add_zero, Nat.zero_add, Nat.add_zero, and_self, decide_true, decide_false, true_or, or_true, or_false, false_or, eq_self, Int.toNat_natCast, b2_e0, b2_e1, b2_ok, b2_w, b2_v, b2_tt, b2_ff, Bool.true_eq_false, Bool.false_eq_true, Option.some.injEq, Int.one_mul, Int.mul_one, not_true_eq_false, not_false_eq_true, ite_not, decide_eq_false_iff_not, decide_eq_true_eq, Int.reduceMul, Int.reduceMod]
    by_cases q : bs (itF lk no0 (it1 x) (e + 1)) 16 = bs (itF lk no0 (it1 x) e) 16
    · rw [if_pos (by omega)]
      exact hk e he q hj
    · rw [if_neg (by omega)]
      refine ⟨by omega, ih _ _ ⟨_, rfl, rfl, fun j hj2 => ?_⟩⟩
      by_cases z : j = e
      · rw [z]; exact q
      · exact hj j (by omega)
  · obtain ⟨w4, rfl, rfl, hj⟩ := hJ
    obtain ⟨e, he, hf⟩ := it_16 (lk := lk) (it1_cnt hx)
    exact absurd hf (hj e he)
theorem mxI_ub {g : Nat → Int} {B : Int} (hB : 0 ≤ B) : ∀ {n : Nat}, (∀ m, m < n → g m ≤ B) → mxI g n ≤ B
  | 0, _ => hB
  | n + 1, h => by
    have := mxI_ub hB (n := n) fun m hm => h m (by omega)
    have := h n (by omega)
    rw [mxI]
    split <;> omega
theorem mxI_ge {g : Nat → Int} {m : Nat} : ∀ {n : Nat}, m < n → g m ≤ mxI g n
  | 0, h => absurd h (by omega)
  | n + 1, h => by
    rw [mxI]
    by_cases q : m = n
    · subst q
      split <;> omega
    · have := mxI_ge (g := g) (n := n) (by omega : m < n)
      split <;> omega
theorem mxI_0 (g : Nat → Int) : ∀ n, 0 ≤ mxI g n
  | 0 => Int.le_refl _
  | n + 1 => by
    have := mxI_0 g n
    rw [mxI]
    split <;> omega
theorem spn_eq (o : okB N) {x r : Nat} (hx : x < 16) (hr : r < 16) (h1 : bs (itF (lkN N (-1)) no0 (it1 x) (r + 1)) 16 = bs (itF (lkN N (-1)) no0 (it1 x) r) 16) (h2 : ∀ j, j < r → bs (itF (lkN N (-1)) no0 (it1 x) (j + 1)) 16 ≠ bs (itF (lkN N (-1)) no0 (it1 x) j) 16) : spnN N x = (r : Int) := by
  have b0 := okn o
  unfold spnN
  have up : mxI (fdN N false (-1) (-1) x) (nN N) ≤ (r : Int) := mxI_ub (by omega) fun m hm => by
    by_cases q : fdN N false (-1) (-1) x m = -1
    · omega
    · have l := fdN_lo (N := N) (t := false) (but := -1) (shut := -1) (x := x) (m := m)
      have w : itF (lkN N (-1)) no0 (it1 x) 16 m = true := by
        rw [it_wn o hx (by omega)]
        unfold wnB
        exact decide_eq_true ⟨q, by omega⟩
      rw [it_fix h1 (by omega) (by omega), it_wn o hx (by omega)] at w
      unfold wnB at w
      exact (of_decide_eq_true w).2
  by_cases r0 : r = 0
  · have := mxI_0 (fdN N false (-1) (-1) x) (nN N)
    omega
  · obtain ⟨m, hm, w⟩ := bs_ne (h2 (r - 1) (by omega))
    rw [show r - 1 + 1 = r by omega] at w
    have w1 : itF (lkN N (-1)) no0 (it1 x) (r - 1) m = false := by
      cases z : itF (lkN N (-1)) no0 (it1 x) (r - 1) m
      · rfl
      · rw [z, it_le z (by omega : r - 1 ≤ r)] at w
        exact absurd rfl w
    have w2 : itF (lkN N (-1)) no0 (it1 x) r m = true := by
      cases z : itF (lkN N (-1)) no0 (it1 x) r m
      · rw [z, w1] at w
        exact absurd rfl w
      · rfl
    have mn : m < nN N := by
      have w3 := w2
      rw [show r = r - 1 + 1 by omega, it_s, w1, Bool.false_or, anyE_iff] at w3
      obtain ⟨u, _, y⟩ := w3
      have y2 : lkN N (-1) u m = true := by
        cases q : lkN N (-1) u m
        · rw [q] at y; simp at y
        · rfl
      rw [lkN_C, lkC_iff] at y2
      obtain ⟨c, hc, _, y3⟩ := y2
      have oc := o.2.1 c hc
      omega
    rw [it_wn o hx hm] at w1 w2
    unfold wnB at w1 w2
    have v2 := of_decide_eq_true w2
    have v1 := of_decide_eq_false w1
    have := mxI_ge (g := fdN N false (-1) (-1) x) mn
    omega
theorem spanOf_c (h : sv_at f s L) (hc : cn_at f a A R U S) (hl : ckl N A S) (o : okB N) (hd : a + 21 ≤ s ∨ s + 6 ≤ a) {x : Nat} (hx : x < 16) (hk : ∀ (f' : pm_H) (L' : Nat → Nat → Int), sv_at f' s L' → sfr s f f' → k (some (.inl (spnN N x))) f') : pm_ex T_X2_spanOf [.inr (.inl (some s)), .inr (.inl (some a)), .inl (x : Int)] f k := by
  refine in_X2_spanOf ?_
  refine pm_go_on [] 60 ?_
  set_option maxRecDepth 100000 in simp (maxSteps := 2000000) only [pm_x_run, pm_x_rt, pm_x_rf, pm_z_S, pm_z_D, pm_z_cut0, pm_z_cut1, pm_z_cli, pm_z_clr, pm_z_cln, pm_z_cll, pm_z_up, pm_x_aload0, pm_x_aload1, pm_x_c, pm_x_c2, pm_x_cn0, pm_x_cn1, pm_x_iload2, pm_x_invv, pm_x_v0, pm_x_v1, pm_x_x2, pm_z_cat0, pm_z_cati, pm_z_catl, pm_z_catr, pm_z_iconst, pm_z_pop0, pm_z_pop1, zX2_spanOf_B, zX2_spanOf_F, zX2_spanOf_R, zX2_spanOf_X, zX2_spanOf_C27, zX2_spanOf_C31, pm_z_ireti (zX2_spanOf_R), dX2_spanOf_0, dX2_spanOf_1, dX2_spanOf_2, dX2_spanOf_3, dX2_spanOf_6, dX2_spanOf_7, dX2_spanOf_8, dX2_spanOf_11, Bool.cond_true, Bool.cond_false, Bool.or_false, Bool.false_or, Bool.true_or, Bool.or_true, true_and, and_true, if_true, if_false, List.length_cons, List.length_nil, List.getElem?_cons_zero, List.getElem?_cons_succ, List.set_cons_zero, List.set_cons_succ, Option.toList_some, Option.toList_none, List.cons_append, List.nil_append, beq_self_eq_true, Option.isSome_some, Option.isSome_none, pm_tg_lit, ite_true, ite_false, Nat.reduceAdd, Nat.reduceBEq, Nat.reduceLT, Nat.reduceLeDiff, Nat.reduceEqDiff, Int.reduceAdd, Int.reduceSub, Int.reduceLE, Int.reduceLT, Int.reduceEq, Int.reduceToNat, Int.reduceNeg, Int.cast_ofNat_Int, Int.reduceNatCast, Int.reduceNatCast', Int.zero_add, Int.add_zero, Nat.zero_add, Nat.add_zero, and_self, decide_true, decide_false, true_or, or_true, or_false, false_or, eq_self, Int.toNat_natCast, b2_e0, b2_e1, b2_ok, b2_w, b2_v, b2_tt, b2_ff, Bool.true_eq_false, Bool.false_eq_true, Option.some.injEq, Int.one_mul, Int.mul_one, not_true_eq_false, not_false_eq_true, ite_not, decide_eq_false_iff_not, decide_eq_true_eq, Int.reduceMul, Int.reduceMod, sv0 h, sv1 h, sv2 h, sv3 h, sv4 h, sv5 h, pm_z_rcv1 (sv0 h)]
  refine linkAll_c h hc hl o hd fun f1 g h1 r1 e1 => ?_
  set_option maxRecDepth 100000 in simp (maxSteps := 2000000) only [pm_x_run, pm_x_rt, pm_x_rf, pm_z_S, pm_z_D, pm_z_cut0, pm_z_cut1, pm_z_cli, pm_z_clr, pm_z_cln, pm_z_cll, pm_z_up, pm_x_aload0, pm_x_aload1, pm_x_c, pm_x_c2, pm_x_cn0, pm_x_cn1, pm_x_iload2, pm_x_invv, pm_x_v0, pm_x_v1, pm_x_x2, pm_z_cat0, pm_z_cati, pm_z_catl, pm_z_catr, pm_z_iconst, pm_z_pop0, pm_z_pop1, zX2_spanOf_B, zX2_spanOf_F, zX2_spanOf_R, zX2_spanOf_X, zX2_spanOf_C27, zX2_spanOf_C31, pm_z_ireti (zX2_spanOf_R), dX2_spanOf_0, dX2_spanOf_1, dX2_spanOf_2, dX2_spanOf_3, dX2_spanOf_6, dX2_spanOf_7, dX2_spanOf_8, dX2_spanOf_11, Bool.cond_true, Bool.cond_false, Bool.or_false, Bool.false_or, Bool.true_or, Bool.or_true, true_and, and_true, if_true, if_false, List.length_cons, List.length_nil, List.getElem?_cons_zero, List.getElem?_cons_succ, List.set_cons_zero, List.set_cons_succ, Option.toList_some, Option.toList_none, List.cons_append, List.nil_append, beq_self_eq_true, Option.isSome_some, Option.isSome_none, pm_tg_lit, ite_true, ite_false, Nat.reduceAdd, Nat.reduceBEq, Nat.reduceLT, Nat.reduceLeDiff, Nat.reduceEqDiff, Int.reduceAdd, Int.reduceSub, Int.reduceLE, Int.reduceLT, Int.reduceEq, Int.reduceToNat, Int.reduceNeg, Int.cast_ofNat_Int, Int.reduceNatCast, Int.reduceNatCast', Int.zero_add, Int.add_zero, Nat.zero_add, Nat.add_zero, and_self, decide_true, decide_false, true_or, or_true, or_false, false_or, eq_self, Int.toNat_natCast, b2_e0, b2_e1, b2_ok, b2_w, b2_v, b2_tt, b2_ff, Bool.true_eq_false, Bool.false_eq_true, Option.some.injEq, Int.one_mul, Int.mul_one, not_true_eq_false, not_false_eq_true, ite_not, decide_eq_false_iff_not, decide_eq_true_eq, Int.reduceMul, Int.reduceMod, sv0 h1, sv1 h1, sv2 h1, sv3 h1, sv4 h1, sv5 h1, pm_z_rcv1 (sv0 h1)]
  refine spanBy_c h1 (lk := lkN N (-1)) e1 hx fun r hr q1 q2 => ?_
  set_option maxRecDepth 100000 in simp (maxSteps := 2000000) only [pm_x_run, pm_x_rt, pm_x_rf, pm_z_S, pm_z_D, pm_z_cut0, pm_z_cut1, pm_z_cli, pm_z_clr, pm_z_cln, pm_z_cll, pm_z_up, pm_x_aload0, pm_x_aload1, pm_x_c, pm_x_c2, pm_x_cn0, pm_x_cn1, pm_x_iload2, pm_x_invv, pm_x_v0, pm_x_v1, pm_x_x2, pm_z_cat0, pm_z_cati, pm_z_catl, pm_z_catr, pm_z_iconst, pm_z_pop0, pm_z_pop1, zX2_spanOf_B, zX2_spanOf_F, zX2_spanOf_R, zX2_spanOf_X, zX2_spanOf_C27, zX2_spanOf_C31, pm_z_ireti (zX2_spanOf_R), dX2_spanOf_0, dX2_spanOf_1, dX2_spanOf_2, dX2_spanOf_3, dX2_spanOf_6, dX2_spanOf_7, dX2_spanOf_8, dX2_spanOf_11, Bool.cond_true, Bool.cond_false, Bool.or_false, Bool.false_or, Bool.true_or, Bool.or_true, true_and, and_true, if_true, if_false, List.length_cons, List.length_nil, List.getElem?_cons_zero, List.getElem?_cons_succ, List.set_cons_zero, List.set_cons_succ, Option.toList_some, Option.toList_none, List.cons_append, List.nil_append, beq_self_eq_true, Option.isSome_some, Option.isSome_none, pm_tg_lit, ite_true, ite_false, Nat.reduceAdd, Nat.reduceBEq, Nat.reduceLT, Nat.reduceLeDiff, Nat.reduceEqDiff, Int.reduceAdd, Int.reduceSub, Int.reduceLE, Int.reduceLT, Int.reduceEq, Int.reduceToNat, Int.reduceNeg, Int.cast_ofNat_Int, Int.reduceNatCast, Int.reduceNatCast', Int.zero_add, Int.add_zero, Nat.zero_add, Nat.add_zero, and_self, decide_true, decide_false, true_or, or_true, or_false, false_or, eq_self, Int.toNat_natCast, b2_e0, b2_e1, b2_ok, b2_w, b2_v, b2_tt, b2_ff, Bool.true_eq_false, Bool.false_eq_true, Option.some.injEq, Int.one_mul, Int.mul_one, not_true_eq_false, not_false_eq_true, ite_not, decide_eq_false_iff_not, decide_eq_true_eq, Int.reduceMul, Int.reduceMod]
  have := hk f1 _ h1 r1
  rw [spn_eq o hx hr q1 q2] at this
  exact this
end RCH
