/-! A Survey at s: rows links marks queue flow ends -/
def sv_len (j : Nat) : Nat := if j < 3 then 16 else if j = 3 then 256 else 12
def sv_at (f : pm_H) (s : Nat) (L : Nat → Nat → Int) : Prop := f s = some (.inr (.inr (.inr (2, [.inr (.inl (some (s + 1))), .inr (.inl (some (s + 2))), .inr (.inl (some (s + 3))), .inr (.inl (some (s + 4))), .inr (.inl (some (s + 5)))])))) ∧ ∀ j, j < 5 → f (s + 1 + j) = some (.inl (sv_len j, L j))
section SV
variable {f : pm_H} {s a : Nat} {L : Nat → Nat → Int} {N : nt} {k : pm_P} {A R : Nat → Nat → Int} {U : Nat → Nat} {S : Nat → Int}
theorem sv0 (h : sv_at f s L) : f s = some (.inr (.inr (.inr (2, [.inr (.inl (some (s + 1))), .inr (.inl (some (s + 2))), .inr (.inl (some (s + 3))), .inr (.inl (some (s + 4))), .inr (.inl (some (s + 5)))])))) := h.1
theorem sv1 (h : sv_at f s L) : f (s + 1) = some (.inl (16, L 0)) := h.2 0 (by omega)
theorem sv2 (h : sv_at f s L) : f (s + 2) = some (.inl (16, L 1)) := h.2 1 (by omega)
theorem sv3 (h : sv_at f s L) : f (s + 3) = some (.inl (16, L 2)) := h.2 2 (by omega)
theorem sv4 (h : sv_at f s L) : f (s + 4) = some (.inl (256, L 3)) := h.2 3 (by omega)
theorem sv5 (h : sv_at f s L) : f (s + 5) = some (.inl (12, L 4)) := h.2 4 (by omega)
def sfr (s : Nat) (f f' : pm_H) : Prop := ∀ q, (q < s ∨ s + 6 ≤ q) → f' q = f q
theorem sfr_rf : sfr s f f := fun _ _ => rfl
theorem sfr_tr {f' f'' : pm_H} (h : sfr s f f') (h2 : sfr s f' f'') : sfr s f f'' := fun q hq => (h2 q hq).trans (h q hq)
theorem sfr_up {b : Nat} {c : pm_C} (h1 : s ≤ b) (h2 : b < s + 6) : sfr s f (pm_up f b c) := fun q hq => up_ne (by omega)
theorem sv_arr (h : sv_at f s L) {j : Nat} (hj : j < 5) (g : Nat → Int) {n : Nat} (hn : n = sv_len j) : sv_at (pm_up f (s + 1 + j) (.inl (n, g))) s (stA L j g) := by
  subst hn
  refine ⟨?_, fun i hi => ?_⟩
  · rw [up_ne (by omega)]; exact h.1
  · by_cases e : i = j
    · subst e
      rw [up_eq]
      simp [stA]
    · rw [up_ne (by omega), h.2 i hi]
      simp [stA, e]
theorem cn_keepS {F' : pm_H} (h : cn_at f a A R U S) (hd : a + 21 ≤ s ∨ s + 6 ≤ a) (r : sfr s f F') : cn_at F' a A R U S :=
  ⟨(r a (by omega)).trans h.1, fun j hj => (r (a + 1 + j) (by omega)).trans (h.2.1 j hj), (r (a + 10) (by omega)).trans h.2.2.1, fun i hi => fo_keep (h.2.2.2 i hi) (r _ (by omega)) (r _ (by omega))⟩
/-- the cables that count; what they tie -/
def lkG (N : nt) (wo : Int) (c : Nat) : Bool := thN N c && decide ((c : Int) ≠ wo)
def lkF (N : nt) (g : Nat → Bool) (j n m : Nat) : Bool := anyE j (fun c => g c && ((decide (cN N 0 c = n) && decide (cN N 1 c = m)) || (decide (cN N 1 c = n) && decide (cN N 0 c = m))))
set_option maxRecDepth 20000 in
theorem linkAll_c (h : sv_at f s L) (hc : cn_at f a A R U S) (hl : ckl N A S) (o : okB N) (hd : a + 21 ≤ s ∨ s + 6 ≤ a) {wo : Int} (hk : ∀ (f' : pm_H) (g : Nat → Int), sv_at f' s (stA L 0 g) → sfr s f f' → (∀ n, n < 16 → g n = ((bs (lkF N (lkG N wo) (ldN N) n) 16 : Nat) : Int)) → k none f') : pm_ex T_X2_linkAll [.inr (.inl (some s)), .inr (.inl (some a)), .inl wo] f k := by
  have b0 := okn o
  have b1 := okl o
  have s2 : S 2 = (ldN N : Int) := hl.1.2.2.1
  refine in_X2_linkAll ?_
  refine pm_go_on [10] 60 ?_
  set_option maxRecDepth 100000 in simp (maxSteps := 2000000) only [pm_x_run, pm_x_rt, pm_x_rf, pm_z_S, pm_z_D, pm_z_cut0, pm_z_cut1, pm_z_cli, pm_z_clr, pm_z_cln, pm_z_cll, pm_z_up, pm_x_aload0, pm_x_aload1, pm_x_c, pm_x_c2, pm_x_cn0, pm_x_cn1, pm_x_getf, pm_x_gf, pm_x_goto, pm_x_gv, pm_x_ia, pm_x_iald, pm_x_iast, pm_x_icmp_eq, pm_x_icmp_ge, pm_x_iinc3, pm_x_iload2, pm_x_iload3, pm_x_invs, pm_x_is, pm_x_istore3, pm_z_cat0, pm_z_cati, pm_z_catl, pm_z_catr, pm_z_dup2_i, pm_z_dup2_r, pm_z_iconst, pm_z_ior, pm_z_ishl, pm_z_pop0, pm_z_pop1, pm_z_rcv0, pm_z_vret, zX2_linkAll_B, zX2_linkAll_F, zX2_linkAll_R, zX2_linkAll_X, zX2_linkAll_C86, fX2_9, fX2_59, fX2_62, fX2_65, fX2_68, dX2_linkAll_0, dX2_linkAll_1, dX2_linkAll_4, dX2_linkAll_5, dX2_linkAll_8, dX2_linkAll_9, dX2_linkAll_10, dX2_linkAll_11, dX2_linkAll_12, dX2_linkAll_15, dX2_linkAll_18, dX2_linkAll_19, dX2_linkAll_22, dX2_linkAll_23, dX2_linkAll_24, dX2_linkAll_25, dX2_linkAll_28, dX2_linkAll_29, dX2_linkAll_30, dX2_linkAll_33, dX2_linkAll_34, dX2_linkAll_37, dX2_linkAll_38, dX2_linkAll_41, dX2_linkAll_42, dX2_linkAll_43, dX2_linkAll_44, dX2_linkAll_45, dX2_linkAll_46, dX2_linkAll_47, dX2_linkAll_50, dX2_linkAll_51, dX2_linkAll_52, dX2_linkAll_53, dX2_linkAll_54, dX2_linkAll_55, dX2_linkAll_56, dX2_linkAll_59, dX2_linkAll_60, dX2_linkAll_63, dX2_linkAll_64, dX2_linkAll_65, dX2_linkAll_66, dX2_linkAll_67, dX2_linkAll_68, dX2_linkAll_69, dX2_linkAll_72, dX2_linkAll_73, dX2_linkAll_74, dX2_linkAll_75, dX2_linkAll_76, dX2_linkAll_77, dX2_linkAll_80, dX2_linkAll_83, Bool.cond_true, Bool.cond_false, Bool.or_false, Bool.false_or, Bool.true_or, Bool.or_true, true_and, and_true, if_true, if_false, List.length_cons, List.length_nil, List.getElem?_cons_zero, List.getElem?_cons_succ, List.set_cons_zero, List.set_cons_succ, Option.toList_some, Option.toList_none, List.cons_append, List.nil_append, beq_self_eq_true, Option.isSome_some, Option.isSome_none, pm_tg_lit, ite_true, ite_false, Nat.reduceAdd, Nat.reduceBEq, Nat.reduceLT, Nat.reduceLeDiff, Nat.reduceEqDiff, Int.reduceAdd, Int.reduceSub, Int.reduceLE, Int.reduceLT, Int.reduceEq, Int.reduceToNat, Int.reduceNeg, Int.cast_ofNat_Int, Int.reduceNatCast, Int.reduceNatCast', Int.zero_add, Int.add_zero, Nat.zero_add, Nat.add_zero, and_self, decide_true, decide_false, true_or, or_true, or_false, false_or, eq_self, Int.toNat_natCast, b2_e0, b2_e1, b2_ok, b2_w, b2_v, b2_tt, b2_ff, Bool.true_eq_false, Bool.false_eq_true, Option.some.injEq, Int.one_mul, Int.mul_one, not_true_eq_false, not_false_eq_true, ite_not, decide_eq_false_iff_not, decide_eq_true_eq, Int.reduceMul, Int.reduceMod, sv0 h, sv1 h, sv2 h, sv3 h, sv4 h, sv5 h, pm_z_rcv1 (sv0 h), pm_z_rcv0]
  refine fill_sp (sv1 h) (by omega) ?_
  have h0 := sv_arr h (j := 0) (by omega) (fil (L 0) 0 16) rfl
  have r0 : sfr s f (pm_up f (s + 1) (.inl (16, fil (L 0) 0 16))) := sfr_up (by omega) (by omega)
  set_option maxRecDepth 100000 in simp (maxSteps := 2000000) only [pm_x_run, pm_x_rt, pm_x_rf, pm_z_S, pm_z_D, pm_z_cut0, pm_z_cut1, pm_z_cli, pm_z_clr, pm_z_cln, pm_z_cll, pm_z_up, pm_x_aload0, pm_x_aload1, pm_x_c, pm_x_c2, pm_x_cn0, pm_x_cn1, pm_x_getf, pm_x_gf, pm_x_goto, pm_x_gv, pm_x_ia, pm_x_iald, pm_x_iast, pm_x_icmp_eq, pm_x_icmp_ge, pm_x_iinc3, pm_x_iload2, pm_x_iload3, pm_x_invs, pm_x_is, pm_x_istore3, pm_z_cat0, pm_z_cati, pm_z_catl, pm_z_catr, pm_z_dup2_i, pm_z_dup2_r, pm_z_iconst, pm_z_ior, pm_z_ishl, pm_z_pop0, pm_z_pop1, pm_z_rcv0, pm_z_vret, zX2_linkAll_B, zX2_linkAll_F, zX2_linkAll_R, zX2_linkAll_X, zX2_linkAll_C86, fX2_9, fX2_59, fX2_62, fX2_65, fX2_68, dX2_linkAll_0, dX2_linkAll_1, dX2_linkAll_4, dX2_linkAll_5, dX2_linkAll_8, dX2_linkAll_9, dX2_linkAll_10, dX2_linkAll_11, dX2_linkAll_12, dX2_linkAll_15, dX2_linkAll_18, dX2_linkAll_19, dX2_linkAll_22, dX2_linkAll_23, dX2_linkAll_24, dX2_linkAll_25, dX2_linkAll_28, dX2_linkAll_29, dX2_linkAll_30, dX2_linkAll_33, dX2_linkAll_34, dX2_linkAll_37, dX2_linkAll_38, dX2_linkAll_41, dX2_linkAll_42, dX2_linkAll_43, dX2_linkAll_44, dX2_linkAll_45, dX2_linkAll_46, dX2_linkAll_47, dX2_linkAll_50, dX2_linkAll_51, dX2_linkAll_52, dX2_linkAll_53, dX2_linkAll_54, dX2_linkAll_55, dX2_linkAll_56, dX2_linkAll_59, dX2_linkAll_60, dX2_linkAll_63, dX2_linkAll_64, dX2_linkAll_65, dX2_linkAll_66, dX2_linkAll_67, dX2_linkAll_68, dX2_linkAll_69, dX2_linkAll_72, dX2_linkAll_73, dX2_linkAll_74, dX2_linkAll_75, dX2_linkAll_76, dX2_linkAll_77, dX2_linkAll_80, dX2_linkAll_83, Bool.cond_true, Bool.cond_false, Bool.or_false, Bool.false_or, Bool.true_or, Bool.or_true, true_and, and_true, if_true, if_false, List.length_cons, List.length_nil, List.getElem?_cons_zero, List.getElem?_cons_succ, List.set_cons_zero, List.set_cons_succ, Option.toList_some, Option.toList_none, List.cons_append, List.nil_append, beq_self_eq_true, Option.isSome_some, Option.isSome_none, pm_tg_lit, ite_true, ite_false, Nat.reduceAdd, Nat.reduceBEq, Nat.reduceLT, Nat.reduceLeDiff, Nat.reduceEqDiff, Int.reduceAdd, Int.reduceSub, Int.reduceLE, Int.reduceLT, Int.reduceEq, Int.reduceToNat, Int.reduceNeg, Int.cast_ofNat_Int, Int.reduceNatCast, Int.reduceNatCast', Int.zero_add, Int.add_zero, Nat.zero_add, Nat.add_zero, and_self, decide_true, decide_false, true_or, or_true, or_false, false_or, eq_self, Int.toNat_natCast, b2_e0, b2_e1, b2_ok, b2_w, b2_v, b2_tt, b2_ff, Bool.true_eq_false, Bool.false_eq_true, Option.some.injEq, Int.one_mul, Int.mul_one, not_true_eq_false, not_false_eq_true, ite_not, decide_eq_false_iff_not, decide_eq_true_eq, Int.reduceMul, Int.reduceMod]
  refine pm_for (ldN N) (fun c lv F => lv = [some (.inr (.inl (some (s)))), some (.inr (.inl (some (a)))), some (.inl (wo)), some (.inl ((c : Int)))] ∧ ∃ g : Nat → Int, sv_at F s (stA L 0 g) ∧ sfr s f F ∧ ∀ n, n < 16 → g n = ((bs (lkF N (lkG N wo) c n) 16 : Nat) : Int)) (fun c lv F hc' hJ ih => ?_) (fun lv F hJ => ?_) 0 _ _ (Nat.zero_le _) ⟨rfl, _, h0, r0, fun n hn => by
    unfold fil
    rw [if_pos hn]
    have : lkF N (lkG N wo) 0 n = fun _ => false := by funext m; rfl
    rw [this, bs_none]
    rfl⟩
  · obtain ⟨rfl, g, h1, r1, e1⟩ := hJ
    have c1 := cn_keepS hc hd r1
    have cc := ckA hl hc'
    have oc := o.2.1 c hc'
    have x16 : cN N 0 c < 16 := by omega
    have y16 : cN N 1 c < 16 := by omega
    have eg : stA L 0 g 0 = g := rfl
    have stp : ∀ n m, lkF N (lkG N wo) (c + 1) n m = (lkF N (lkG N wo) c n m || (lkG N wo c && ((decide (cN N 0 c = n) && decide (cN N 1 c = m)) || (decide (cN N 1 c = n) && decide (cN N 0 c = m))))) := fun n m => anyE_s _ _
    have no : lkG N wo c = false → pm_W eX2_linkAll k (fun _ _ => False) 10 [some (.inr (.inl (some (s)))), some (.inr (.inl (some (a)))), some (.inl (wo)), some (.inl (((c : Int) + 1)))] [] F := fun e => by
      refine ih _ _ ⟨rfl, g, h1, r1, fun n hn => ?_⟩
      rw [e1 n hn]
      congr 2
      funext m
      rw [stp, e]
      simp
    refine pm_go_on [10, 33] 60 ?_
    set_option maxRecDepth 100000 in simp (maxSteps := 2000000) only [pm_x_run, pm_x_rt, pm_x_rf, pm_z_S, pm_z_D, pm_z_cut0, pm_z_cut1, pm_z_cli, pm_z_clr, pm_z_cln, pm_z_cll, pm_z_up, pm_x_aload0, pm_x_aload1, pm_x_c, pm_x_c2, pm_x_cn0, pm_x_cn1, pm_x_getf, pm_x_gf, pm_x_goto, pm_x_gv, pm_x_ia, pm_x_iald, pm_x_iast, pm_x_icmp_eq, pm_x_icmp_ge, pm_x_iinc3, pm_x_iload2, pm_x_iload3, pm_x_invs, pm_x_is, pm_x_istore3, pm_z_cat0, pm_z_cati, pm_z_catl, pm_z_catr, pm_z_dup2_i, pm_z_dup2_r, pm_z_iconst, pm_z_ior, pm_z_ishl, pm_z_pop0, pm_z_pop1, pm_z_rcv0, pm_z_vret, zX2_linkAll_B, zX2_linkAll_F, zX2_linkAll_R, zX2_linkAll_X, zX2_linkAll_C86, fX2_9, fX2_59, fX2_62, fX2_65, fX2_68, dX2_linkAll_0, dX2_linkAll_1, dX2_linkAll_4, dX2_linkAll_5, dX2_linkAll_8, dX2_linkAll_9, dX2_linkAll_10, dX2_linkAll_11, dX2_linkAll_12, dX2_linkAll_15, dX2_linkAll_18, dX2_linkAll_19, dX2_linkAll_22, dX2_linkAll_23, dX2_linkAll_24, dX2_linkAll_25, dX2_linkAll_28, dX2_linkAll_29, dX2_linkAll_30, dX2_linkAll_33, dX2_linkAll_34, dX2_linkAll_37, dX2_linkAll_38, dX2_linkAll_41, dX2_linkAll_42, dX2_linkAll_43, dX2_linkAll_44, dX2_linkAll_45, dX2_linkAll_46, dX2_linkAll_47, dX2_linkAll_50, dX2_linkAll_51, dX2_linkAll_52, dX2_linkAll_53, dX2_linkAll_54, dX2_linkAll_55, dX2_linkAll_56, dX2_linkAll_59, dX2_linkAll_60, dX2_linkAll_63, dX2_linkAll_64, dX2_linkAll_65, dX2_linkAll_66, dX2_linkAll_67, dX2_linkAll_68, dX2_linkAll_69, dX2_linkAll_72, dX2_linkAll_73, dX2_linkAll_74, dX2_linkAll_75, dX2_linkAll_76, dX2_linkAll_77, dX2_linkAll_80, dX2_linkAll_83, Bool.cond_true, Bool.cond_false, Bool.or_false, Bool.false_or, Bool.true_or, Bool.or_true, true_and, and_true, if_true, if_false, List.length_cons, List.length_nil, List.getElem?_cons_zero, List.getElem?_cons_succ, List.set_cons_zero, List.set_cons_succ, Option.toList_some, Option.toList_none, List.cons_append, List.nil_append, beq_self_eq_true, Option.isSome_some, Option.isSome_none, pm_tg_lit, ite_true, ite_false, Nat.reduceAdd, Nat.reduceBEq, Nat.reduceLT, Nat.reduceLeDiff, Nat.reduceEqDiff, Int.reduceAdd, Int.reduceSub, Int.reduceLE, Int.reduceLT, Int.reduceEq, Int.reduceToNat, Int.reduceNeg, Int.cast_ofNat_Int, Int.reduceNatCast, Int.reduceNatCast', Int.zero_add, Int.add_zero, Nat.zero_add, Nat.add_zero, and_self, decide_true, decide_false, true_or, or_true, or_false, false_or, eq_self, Int.toNat_natCast, b2_e0, b2_e1, b2_ok, b2_w, b2_v, b2_tt, b2_ff, Bool.true_eq_false, Bool.false_eq_true, Option.some.injEq, Int.one_mul, Int.mul_one, not_true_eq_false, not_false_eq_true, ite_not, decide_eq_false_iff_not, decide_eq_true_eq, Int.reduceMul, Int.reduceMod, sv0 h1, sv1 h1, sv2 h1, sv3 h1, sv4 h1, sv5 h1, pm_z_rcv1 (sv0 h1), cn0 c1, cn1 c1, cn2 c1, cn3 c1, cn4 c1, cn5 c1, cn6 c1, cn7 c1, cn8 c1, cn9 c1, cn10 c1, pm_z_rcv1 (cn0 c1), s2, cc.2.2.2.2.1]
    rw [if_pos (by omega)]
    refine ⟨by omega, ?_⟩
    by_cases q1 : cN N 2 c = 2
    · rw [if_pos (by omega)]
      exact ⟨by omega, no (by unfold lkG thN; simp [q1])⟩
    · rw [if_neg (by omega)]
      by_cases q2 : (c : Int) = wo
      · rw [if_pos q2]
        exact ⟨by omega, no (by unfold lkG; simp [q2])⟩
      · rw [if_neg q2]
        have yes : lkG N wo c = true := by unfold lkG thN; simp [q1, q2]
        have i1 := pb_ins (lkF N (lkG N wo) c (cN N 0 c)) y16
        have i2 := pb_ins (lkF N (lkG N wo) c (cN N 1 c)) x16
        have u1 : pm_us g (cN N 0 c) (pm_or (g (cN N 0 c)) (pm_shl 1 (cN N 1 c : Int))) (cN N 1 c) = g (cN N 1 c) := us_ne (Ne.symm oc.2.2.1)
        have h2 := sv_arr h1 (j := 0) (by omega) (pm_us (pm_us g (cN N 0 c) (pm_or (g (cN N 0 c)) (pm_shl 1 (cN N 1 c : Int)))) (cN N 1 c) (pm_or (g (cN N 1 c)) (pm_shl 1 (cN N 0 c : Int)))) rfl
        rw [stA_st] at h2
        have ua : ∀ (cl : pm_C) (q : Nat), a ≤ q → q < a + 21 → pm_up F (s + 1) cl q = F q := fun cl q z1 z2 => up_ne (by omega)
        have ua0 := fun cl => ua cl a (by omega) (by omega)
        have ua1 := fun cl => ua cl (a + 1) (by omega) (by omega)
        have ua2 := fun cl => ua cl (a + 2) (by omega) (by omega)
        have us0 : ∀ cl : pm_C, pm_up F (s + 1) cl s = F s := fun cl => up_ne (by omega)
        refine pm_go_on [10] 80 ?_
        set_option maxRecDepth 100000 in simp (maxSteps := 2000000) only [pm_x_run, pm_x_rt, pm_x_rf, pm_z_S, pm_z_D, pm_z_cut0, pm_z_cut1, pm_z_cli, pm_z_clr, pm_z_cln, pm_z_cll, pm_z_up, pm_x_aload0, pm_x_aload1, pm_x_c, pm_x_c2, pm_x_cn0, pm_x_cn1, pm_x_getf, pm_x_gf, pm_x_goto, pm_x_gv, pm_x_ia, pm_x_iald, pm_x_iast, pm_x_icmp_eq, pm_x_icmp_ge, pm_x_iinc3, pm_x_iload2, pm_x_iload3, pm_x_invs, pm_x_is, pm_x_istore3, pm_z_cat0, pm_z_cati, pm_z_catl, pm_z_catr, pm_z_dup2_i, pm_z_dup2_r, pm_z_iconst, pm_z_ior, pm_z_ishl, pm_z_pop0, pm_z_pop1, pm_z_rcv0, pm_z_vret, zX2_linkAll_B, zX2_linkAll_F, zX2_linkAll_R, zX2_linkAll_X, zX2_linkAll_C86, fX2_9, fX2_59, fX2_62, fX2_65, fX2_68, dX2_linkAll_0, dX2_linkAll_1, dX2_linkAll_4, dX2_linkAll_5, dX2_linkAll_8, dX2_linkAll_9, dX2_linkAll_10, dX2_linkAll_11, dX2_linkAll_12, dX2_linkAll_15, dX2_linkAll_18, dX2_linkAll_19, dX2_linkAll_22, dX2_linkAll_23, dX2_linkAll_24, dX2_linkAll_25, dX2_linkAll_28, dX2_linkAll_29, dX2_linkAll_30, dX2_linkAll_33, dX2_linkAll_34, dX2_linkAll_37, dX2_linkAll_38, dX2_linkAll_41, dX2_linkAll_42, dX2_linkAll_43, dX2_linkAll_44, dX2_linkAll_45, dX2_linkAll_46, dX2_linkAll_47, dX2_linkAll_50, dX2_linkAll_51, dX2_linkAll_52, dX2_linkAll_53, dX2_linkAll_54, dX2_linkAll_55, dX2_linkAll_56, dX2_linkAll_59, dX2_linkAll_60, dX2_linkAll_63, dX2_linkAll_64, dX2_linkAll_65, dX2_linkAll_66, dX2_linkAll_67, dX2_linkAll_68, dX2_linkAll_69, dX2_linkAll_72, dX2_linkAll_73, dX2_linkAll_74, dX2_linkAll_75, dX2_linkAll_76, dX2_linkAll_77, dX2_linkAll_80, dX2_linkAll_83, Bool.cond_true, Bool.cond_false, Bool.or_false, Bool.false_or, Bool.true_or, Bool.or_true, true_and, and_true, if_true, if_false, List.length_cons, List.length_nil, List.getElem?_cons_zero, List.getElem?_cons_succ, List.set_cons_zero, List.set_cons_succ, Option.toList_some, Option.toList_none, List.cons_append, List.nil_append, beq_self_eq_true, Option.isSome_some, Option.isSome_none, pm_tg_lit, ite_true, ite_false, Nat.reduceAdd, Nat.reduceBEq, Nat.reduceLT, Nat.reduceLeDiff, Nat.reduceEqDiff, Int.reduceAdd, Int.reduceSub, Int.reduceLE, Int.reduceLT, Int.reduceEq, Int.reduceToNat, Int.reduceNeg, Int.cast_ofNat_Int, Int.reduceNatCast, Int.reduceNatCast', Int.zero_add, Int.add_zero, Nat.zero_add, Nat.add_zero, and_self, decide_true, decide_false, true_or, or_true, or_false, false_or, eq_self, Int.toNat_natCast, b2_e0, b2_e1, b2_ok, b2_w, b2_v, b2_tt, b2_ff, Bool.true_eq_false, Bool.false_eq_true, Option.some.injEq, Int.one_mul, Int.mul_one, not_true_eq_false, not_false_eq_true, ite_not, decide_eq_false_iff_not, decide_eq_true_eq, Int.reduceMul, Int.reduceMod, sv0 h1, sv1 h1, sv2 h1, sv3 h1, sv4 h1, sv5 h1, pm_z_rcv1 (sv0 h1), cn0 c1, cn1 c1, cn2 c1, cn3 c1, cn4 c1, cn5 c1, cn6 c1, cn7 c1, cn8 c1, cn9 c1, cn10 c1, pm_z_rcv1 (cn0 c1), cc.1, cc.2.1, eg, ua0, ua1, ua2, us0, up_eq, up_up, u1]
        refine ⟨by omega, by omega, by omega, by omega, by omega, by omega, by omega, by omega, by omega, ih _ _ ⟨rfl, _, h2, sfr_tr r1 (sfr_up (by omega) (by omega)), fun n hn => ?_⟩⟩
        unfold pm_us
        by_cases z1 : n = cN N 1 c
        · rw [if_pos z1, e1 _ y16, i2, z1]
          congr 2
          funext m
          rw [stp, yes]
          have : decide (cN N 0 c = cN N 1 c) = false := decide_eq_false oc.2.2.1
          simp [this]
        · rw [if_neg z1]
          by_cases z2 : n = cN N 0 c
          · rw [if_pos z2, e1 _ x16, i1, z2]
            congr 2
            funext m
            rw [stp, yes]
            have : decide (cN N 1 c = cN N 0 c) = false := decide_eq_false (Ne.symm oc.2.2.1)
            simp [this]
          · rw [if_neg z2, e1 n hn]
            congr 2
            funext m
            rw [stp, decide_eq_false (Ne.symm z2), decide_eq_false (Ne.symm z1)]
            simp
  · obtain ⟨rfl, g, h1, r1, e1⟩ := hJ
    have c1 := cn_keepS hc hd r1
    refine pm_go_on [10, 33] 60 ?_
    set_option maxRecDepth 100000 in simp (maxSteps := 2000000) only [pm_x_run, pm_x_rt, pm_x_rf, pm_z_S, pm_z_D, pm_z_cut0, pm_z_cut1, pm_z_cli, pm_z_clr, pm_z_cln, pm_z_cll, pm_z_up, pm_x_aload0, pm_x_aload1, pm_x_c, pm_x_c2, pm_x_cn0, pm_x_cn1, pm_x_getf, pm_x_gf, pm_x_goto, pm_x_gv, pm_x_ia, pm_x_iald, pm_x_iast, pm_x_icmp_eq, pm_x_icmp_ge, pm_x_iinc3, pm_x_iload2, pm_x_iload3, pm_x_invs, pm_x_is, pm_x_istore3, pm_z_cat0, pm_z_cati, pm_z_catl, pm_z_catr, pm_z_dup2_i, pm_z_dup2_r, pm_z_iconst, pm_z_ior, pm_z_ishl, pm_z_pop0, pm_z_pop1, pm_z_rcv0, pm_z_vret, zX2_linkAll_B, zX2_linkAll_F, zX2_linkAll_R, zX2_linkAll_X, zX2_linkAll_C86, fX2_9, fX2_59, fX2_62, fX2_65, fX2_68, dX2_linkAll_0, dX2_linkAll_1, dX2_linkAll_4, dX2_linkAll_5, dX2_linkAll_8, dX2_linkAll_9, dX2_linkAll_10, dX2_linkAll_11, dX2_linkAll_12, dX2_linkAll_15, dX2_linkAll_18, dX2_linkAll_19, dX2_linkAll_22, dX2_linkAll_23, dX2_linkAll_24, dX2_linkAll_25, dX2_linkAll_28, dX2_linkAll_29, dX2_linkAll_30, dX2_linkAll_33, dX2_linkAll_34, dX2_linkAll_37, dX2_linkAll_38, dX2_linkAll_41, dX2_linkAll_42, dX2_linkAll_43, dX2_linkAll_44, dX2_linkAll_45, dX2_linkAll_46, dX2_linkAll_47, dX2_linkAll_50, dX2_linkAll_51, dX2_linkAll_52, dX2_linkAll_53, dX2_linkAll_54, dX2_linkAll_55, dX2_linkAll_56, dX2_linkAll_59, dX2_linkAll_60, dX2_linkAll_63, dX2_linkAll_64, dX2_linkAll_65, dX2_linkAll_66, dX2_linkAll_67, dX2_linkAll_68, dX2_linkAll_69, dX2_linkAll_72, dX2_linkAll_73, dX2_linkAll_74, dX2_linkAll_75, dX2_linkAll_76, dX2_linkAll_77, dX2_linkAll_80, dX2_linkAll_83, Bool.cond_true, Bool.cond_false, Bool.or_false, Bool.false_or, Bool.true_or, Bool.or_true, true_and, and_true, if_true, if_false, List.length_cons, List.length_nil, List.getElem?_cons_zero, List.getElem?_cons_succ, List.set_cons_zero, List.set_cons_succ, Option.toList_some, Option.toList_none, List.cons_append, List.nil_append, beq_self_eq_true, Option.isSome_some, Option.isSome_none, pm_tg_lit, ite_true, ite_false, Nat.reduceAdd, Nat.reduceBEq, Nat.reduceLT, Nat.reduceLeDiff, Nat.reduceEqDiff, Int.reduceAdd, Int.reduceSub, Int.reduceLE, Int.reduceLT, Int.reduceEq, Int.reduceToNat, Int.reduceNeg, Int.cast_ofNat_Int, Int.reduceNatCast, Int.reduceNatCast', Int.zero_add, Int.add_zero, Nat.zero_add, Nat.add_zero, and_self, decide_true, decide_false, true_or, or_true, or_false, false_or, eq_self, Int.toNat_natCast, b2_e0, b2_e1, b2_ok, b2_w, b2_v, b2_tt, b2_ff, Bool.true_eq_false, Bool.false_eq_true, Option.some.injEq, Int.one_mul, Int.mul_one, not_true_eq_false, not_false_eq_true, ite_not, decide_eq_false_iff_not, decide_eq_true_eq, Int.reduceMul, Int.reduceMod, sv0 h1, sv1 h1, sv2 h1, sv3 h1, sv4 h1, sv5 h1, pm_z_rcv1 (sv0 h1), cn0 c1, cn1 c1, cn2 c1, cn3 c1, cn4 c1, cn5 c1, cn6 c1, cn7 c1, cn8 c1, cn9 c1, cn10 c1, pm_z_rcv1 (cn0 c1), s2]
    rw [if_neg (by omega)]
    exact hk F g h1 r1 e1
end SV
