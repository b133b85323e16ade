/-! TOURS asked of the class -/
section CTO
variable {f : pm_H} {a : Nat} {A R : Nat → Nat → Int} {U : Nat → Nat} {S : Nat → Int} {N : nt} {k : pm_P}
theorem iv_K (iv : INV N) (i : Nat) : ∀ c, tcs N i c → cN N 0 c < nN N ∧ cN N 1 c < nN N := fun c hc => by
  have := (INV_ok iv).2.1 c hc.1
  exact ⟨this.1, this.2.1⟩
theorem seg_c (ht : ckt N R U) (iv : INV N) {i x : Nat} (hi : i < 5) (hx : x < nN N) : ∃ Xf t1 t2 Zf, tN N i x = t1 ++ (x : Int) :: t2 ∧ ((x : Int) ∉ t1 ∧ (x : Int) ∉ t2 ∧ (tN N i x).takeWhile (fun y => decide (y ≠ (x : Int))) = t1) ∧ fo_seg (R i) (U i) Xf (tN N i x) Zf ∧ (x : Int) ∉ Xf ∧ (∀ v, v ∈ tN N i x → 100 ≤ v → v ∉ Xf) ∧ U i ≤ 48 := by
  have b0 := okn (INV_ok iv)
  have fl := iv.2.1 i hi
  obtain ⟨ts, hts, tr⟩ := ht i hi
  have hu := ck_u b0.2 fl (iv_K iv i) hts tr
  have gx := fl.1 x (by omega)
  obtain ⟨X, Z, e, nX, nZ⟩ := ts_find fl b0.2 tr hx
  obtain ⟨t1, t2, et, n1, n2, tw⟩ := gT_spl gx.2.1 (by omega) gx.2.2.1
  have l1 := ts_pos tr (by omega)
  subst e
  refine ⟨fla X, t1, t2, fla Z, et, ⟨n1, n2, tw⟩, ts_seg hts, fun hm => ?_, fun v hv h1 hm => ?_, by omega⟩
  · obtain ⟨t, ht2, z | z⟩ := mem_fla.mp hm
    · exact nX t ht2 z
    · omega
  · obtain ⟨c, rfl⟩ : ∃ c : Nat, v = 100 + (c : Int) := ⟨(v - 100).toNat, by omega⟩
    obtain ⟨t, ht2, z | z⟩ := mem_fla.mp hm
    · obtain ⟨n', hn', rfl⟩ := (tr.2 t).mp (show t ∈ X ++ tN N i x :: Z by simp [ht2])
      have en := gT_ends (fl.1 n' (by omega)).2.1 z
      have ex := gT_ends gx.2.1 hv
      have kc := fl.2.2.1 c (fl.2.1 x c (by omega) hv)
      have sm := FL_one fl (show n' < 16 by omega) (show x < 16 by omega) kc.1.1 en.1 ex.1
      refine nX _ ht2 ?_
      rw [sm]
      exact gx.2.2.1
    · omega
theorem innermostOf_c (h : cn_at f a A R U S) (ht : ckt N R U) (iv : INV N) {i x : Nat} (hi : i < 5) (hx : x < nN N) (hk : k (some (.inl (inC (tN N i x) x))) f) : pm_ex T_X0_innermostOf [.inr (.inl (some (a + 11 + 2 * i))), .inl (x : Int)] f k := by
  have b0 := okn (INV_ok iv)
  have gx := (iv.2.1 i hi).1 x (by omega)
  obtain ⟨Xf, t1, t2, Zf, et, ⟨n1, n2, tw⟩, sg, nX, nB, u48⟩ := seg_c ht iv hi hx
  have ok := gx.1
  rw [et] at sg ok
  refine innermostOf_seg (h.2.2.2 i hi) u48 sg nX n1 ok ?_
  unfold inC at hk
  rw [tw, ← inn_opn (fun v hv => ?_)] at hk
  · exact hk
  · have := gT_2 gx.2.1 v hv
    rw [et, List.count_append] at this
    omega
theorem depthOf_c (h : cn_at f a A R U S) (ht : ckt N R U) (iv : INV N) {i x : Nat} (hi : i < 5) (hx : x < nN N) (hk : k (some (.inl ((opn ((tN N i x).takeWhile (fun y => decide (y ≠ (x : Int))))).length : Int))) f) : pm_ex T_X0_depthOf [.inr (.inl (some (a + 11 + 2 * i))), .inl (x : Int)] f k := by
  have b0 := okn (INV_ok iv)
  have gx := (iv.2.1 i hi).1 x (by omega)
  obtain ⟨Xf, t1, t2, Zf, et, ⟨n1, n2, tw⟩, sg, nX, nB, u48⟩ := seg_c ht iv hi hx
  have ok := gx.1
  have g := gx.2.1
  rw [tw] at hk
  rw [et] at sg ok g
  refine depthOf_seg (h.2.2.2 i hi) u48 sg nX n1 ok ?_
  rw [bc_cnt, ← opn_len (l := t1) (r := (x : Int) :: t2) _ t1 ((x : Int) :: t2) rfl g (fun v hv => ok v (by simp [hv]))]
  exact hk
theorem itemOf_c (h : cn_at f a A R U S) (ht : ckt N R U) (iv : INV N) {i x : Nat} {j : Int} (hi : i < 5) (hx : x < nN N) (hk : k (some (.inl (if 0 ≤ j ∧ j < ((tN N i x).length : Int) then itm (tN N i x) j.toNat else -1))) f) : pm_ex T_X0_itemOf [.inr (.inl (some (a + 11 + 2 * i))), .inl (x : Int), .inl j] f k := by
  have b0 := okn (INV_ok iv)
  have gx := (iv.2.1 i hi).1 x (by omega)
  obtain ⟨Xf, t1, t2, Zf, et, ⟨n1, n2, tw⟩, sg, nX, nB, u48⟩ := seg_c ht iv hi hx
  have ok := gx.1
  rw [et] at sg ok nB hk
  exact itemOf_seg (h.2.2.2 i hi) u48 sg nX n1 nB ok hk
theorem insideOf_c (h : cn_at f a A R U S) (ht : ckt N R U) (iv : INV N) {i x c : Nat} (hi : i < 5) (hx : x < nN N) (hc : (100 + (c : Int)) ∈ tN N i x) (hk : k (some (.inl ((bs (tn (inL (tN N i x) (100 + (c : Int)))) 16 : Nat) : Int))) f) : pm_ex T_X0_insideOf [.inr (.inl (some (a + 11 + 2 * i))), .inl (c : Int)] f k := by
  have b0 := okn (INV_ok iv)
  have gx := (iv.2.1 i hi).1 x (by omega)
  obtain ⟨Xf, t1, t2, Zf, et, ⟨n1, n2, tw⟩, sg, nX, nB, u48⟩ := seg_c ht iv hi hx
  have ok := gx.1
  obtain ⟨p, m, q, e, hp, hm, hq⟩ := spl2 (gx.2.1.2.1 c hc).1
  have nc := nB _ hc (by omega)
  have c60 : c < 60 := by have := ok _ hc; omega
  rw [e] at sg ok hk
  rw [inL_eq hp hm] at hk
  exact insideOf_seg (h.2.2.2 i hi) u48 c60 sg nc hp hm (fun v hv => ok v (by simp [hv])) hk
theorem belowOf_c (h : cn_at f a A R U S) (ht : ckt N R U) (iv : INV N) {i x : Nat} (hi : i < 5) (hx : x < nN N) (hk : k (some (.inl ((bs (fun n => on1 N i n x && blB N i n x) 16 : Nat) : Int))) f) : pm_ex T_X0_belowOf [.inr (.inl (some (a + 11 + 2 * i))), .inl (x : Int)] f k := by
  have b0 := okn (INV_ok iv)
  have fl := iv.2.1 i hi
  have gx := fl.1 x (by omega)
  obtain ⟨Xf, t1, t2, Zf, et, ⟨n1, n2, tw⟩, sg, nX, nB, u48⟩ := seg_c ht iv hi hx
  have ok := gx.1
  have inC_e : inC (tN N i x) x = inn (om t1) t1.reverse := by
    unfold inC
    rw [tw, inn_opn (fun v hv => ?_)]
    have := gT_2 gx.2.1 v hv
    rw [et, List.count_append] at this
    omega
  have blx : ∀ n, n < 16 → on1 N i n x = true → blB N i n x = suB (tN N i x) x n := fun n hn z => by
    have nt' := of_decide_eq_true z
    have sm := gx.2.2.2.1 n hn nt'
    unfold blB
    rw [sm, decide_eq_true gx.2.2.1, Bool.true_and]
  rcases inC_sp gx.2.1 gx.1 (show x < 16 by omega) gx.2.2.1 with z | ⟨c, c60, z, mn⟩
  · have e : bs (fun n => on1 N i n x && blB N i n x) 16 = bs (tn (tN N i x)) 16 := bs_ext fun n hn => by
      cases q : on1 N i n x
      · exact q.symm
      · rw [blx n hn q, su_all ok z.2]
        exact q.symm
    rw [e] at hk
    rw [et] at sg ok hk
    exact belowOf_root (h.2.2.2 i hi) u48 sg nX n1 ok (by rw [← inC_e]; exact z.1) hk
  · have hc := (inB_iff.mp mn.1).1
    obtain ⟨p, m, q, e, hp, hm, hq⟩ := spl2 (gx.2.1.2.1 c hc).1
    have nc := nB _ hc (by omega)
    have eb : bs (fun n => on1 N i n x && blB N i n x) 16 = bs (tn (inL (tN N i x) (100 + (c : Int)))) 16 := bs_ext fun n hn => by
      unfold tn
      by_cases w : (n : Int) ∈ inL (tN N i x) (100 + (c : Int))
      · have q : on1 N i n x = true := decide_eq_true ((io_sub (gx.2.1.2.1 c hc).1).1 w)
        rw [decide_eq_true w, blx n hn q, (su_in gx.2.1 ok (by omega) mn).mpr w, q]
        rfl
      · rw [decide_eq_false w]
        cases q : on1 N i n x
        · rfl
        · rw [blx n hn q]
          cases y : suB (tN N i x) x n
          · rfl
          · exact absurd ((su_in gx.2.1 ok (by omega) mn).mp y) w
    rw [eb] at hk
    have okm : okT m := fun v hv => ok v (by rw [e]; simp [hv])
    have sg1 := sg
    rw [e] at sg1 hk
    rw [inL_eq hp hm] at hk
    rw [et] at sg ok
    exact belowOf_in (h.2.2.2 i hi) u48 sg nX n1 ok (by rw [← inC_e]; exact z) c60 sg1 nc hp hm okm hk
theorem aboveOf_c (h : cn_at f a A R U S) (hl : ckl N A S) (ht : ckt N R U) (iv : INV N) {i x : Nat} (hi : i < 5) (hx : x < nN N) (hk : k (some (.inl (abI N i x))) f) : pm_ex T_X1_aboveOf [.inr (.inl (some a)), .inl (i : Int), .inl (x : Int)] f k := by
  have b0 := okn (INV_ok iv)
  have b1 := okl (INV_ok iv)
  have x16 : x < 16 := by omega
  have gx := (iv.2.1 i hi).1 x x16
  rcases ab_sp iv hi x16 with ⟨z, no⟩ | ⟨c, z, mn, y⟩
  · have ic : inC (tN N i x) x = -1 := by
      rcases inC_sp gx.2.1 gx.1 x16 gx.2.2.1 with w | ⟨c, _, _, mn⟩
      · exact w.1
      · exact absurd ((no c).symm.trans mn.1) (by decide)
    rw [z] at hk
    refine aboveOf_no h hi (fun q hq => innermostOf_c h ht iv hi hx (by rw [ic]; exact hq)) hk
  · have cl := kn_c iv hi x16 mn
    have cc := ckA hl cl
    have o16 := ok16 (INV_ok iv) cl
    obtain ⟨Ct, xC⟩ := inB_iff.mp mn.1
    have exx := gT_ex (n := x) gx.2.1 Ct x16
    have ex0 := gT_ex (n := cN N 0 c) gx.2.1 Ct o16.1
    rw [y] at hk
    unfold paC at hk
    refine aboveOf_sp (c := c) h hi (by omega) (bs_31 _ (by omega)) cc.1 o16.1 (fun q hq => innermostOf_c h ht iv hi hx (by rw [z]; exact hq)) (fun q hq => insideOf_c h ht iv hi hx Ct hq) ?_
    rw [bs_bit, decide_eq_true o16.1, Bool.true_and, cc.1, cc.2.1]
    rcases mn_end gx.2.1 x16 mn with w | w
    · rw [if_pos w.1] at hk
      rw [if_pos (show tn (inL (tN N i x) (100 + (c : Int))) (cN N 0 c) = true from decide_eq_true (by rw [w.1]; exact xC))]
      exact hk
    · have ne : ¬ cN N 0 c = x := fun e => by rw [e] at w; exact exx ⟨xC, w.2⟩
      rw [if_neg ne] at hk
      rw [if_neg (show ¬ tn (inL (tN N i x) (100 + (c : Int))) (cN N 0 c) = true from fun e => ex0 ⟨of_decide_eq_true e, w.2⟩)]
      exact hk
theorem bl_sub (iv : INV N) {i y a' : Nat} (hi : i < 5) (hy : y < 16) (ha : a' < 16) : (on1 N i y a' && blB N i y a') = blB N i y a' := by
  cases q : blB N i y a'
  · rw [Bool.and_false]
  · unfold blB at q
    rw [Bool.and_eq_true] at q
    rw [Bool.and_true]
    exact decide_eq_true (FL_sym (iv.2.1 i hi) hy ha (of_decide_eq_true q.1))
set_option maxRecDepth 20000 in
theorem meetingOf_c (h : cn_at f a A R U S) (hl : ckl N A S) (ht : ckt N R U) (iv : INV N) {i x y : Nat} (hi : i < 5) (hx : x < nN N) (hy : y < nN N) (hk : k (some (.inl (meI N i y 17 (x : Int)))) f) : pm_ex T_X1_meetingOf [.inr (.inl (some a)), .inl (i : Int), .inl (x : Int), .inl (y : Int)] f k := by
  have b0 := okn (INV_ok iv)
  have x16 : x < 16 := by omega
  have y16 : y < 16 := by omega
  have gx := (iv.2.1 i hi).1 x x16
  have i15 := isz_le gx.2.1 gx.1 x16 gx.2.2.1
  rw [me_un iv hi 17 16 x x16 (by omega) (by omega)] at hk
  have hf := cn_fr_lt (a := a) hi
  have hb := (h.2.2.2 i hi).1
  refine in_X1_meetingOf ?_
  refine pm_go_on [6] 60 ?_
  set_option maxRecDepth 100000 in simp (maxSteps := 2000000) only [pm_x_run, pm_x_rt, pm_x_rf, pm_z_S, pm_z_D, pm_z_cut0, pm_z_cut1, pm_z_cli, pm_z_clr, pm_z_cln, pm_z_cll, pm_z_up, pm_x_aa, pm_x_aald, pm_x_aload0, pm_x_c, pm_x_c2, pm_x_cn0, pm_x_cn1, pm_x_getf, pm_x_gf, pm_x_goto, pm_x_gv, pm_x_icmp_eq, pm_x_icmp_ge, pm_x_if_eq, pm_x_iinc5, pm_x_iload1, pm_x_iload2, pm_x_iload3, pm_x_iload4, pm_x_iload5, pm_x_invs, pm_x_invv, pm_x_istore4, pm_x_istore5, pm_x_v0, pm_x_v1, pm_x_x2, pm_z_bipush, pm_z_cat0, pm_z_cati, pm_z_catl, pm_z_catr, pm_z_iconst, pm_z_pop0, pm_z_pop1, pm_z_rcv0, zX1_meetingOf_B, zX1_meetingOf_F, zX1_meetingOf_R, zX1_meetingOf_X, zX1_meetingOf_C143, zX1_meetingOf_C140, zX1_meetingOf_C146, pm_z_ireti (zX1_meetingOf_R), fX1_41, dX1_meetingOf_0, dX1_meetingOf_1, dX1_meetingOf_3, dX1_meetingOf_4, dX1_meetingOf_6, dX1_meetingOf_8, dX1_meetingOf_10, dX1_meetingOf_13, dX1_meetingOf_15, dX1_meetingOf_16, dX1_meetingOf_19, dX1_meetingOf_20, dX1_meetingOf_23, dX1_meetingOf_24, dX1_meetingOf_25, dX1_meetingOf_27, dX1_meetingOf_30, dX1_meetingOf_31, dX1_meetingOf_34, dX1_meetingOf_37, dX1_meetingOf_39, dX1_meetingOf_40, dX1_meetingOf_41, dX1_meetingOf_42, dX1_meetingOf_44, dX1_meetingOf_47, dX1_meetingOf_49, dX1_meetingOf_52, dX1_meetingOf_55, dX1_meetingOf_56, Bool.cond_true, Bool.cond_false, Bool.or_false, Bool.false_or, Bool.true_or, Bool.or_true, true_and, and_true, if_true, if_false, List.length_cons, List.length_nil, List.getElem?_cons_zero, List.getElem?_cons_succ, List.set_cons_zero, List.set_cons_succ, Option.toList_some, Option.toList_none, List.cons_append, List.nil_append, beq_self_eq_true, Option.isSome_some, Option.isSome_none, pm_tg_lit, ite_true, ite_false, Nat.reduceAdd, Nat.reduceBEq, Nat.reduceLT, Nat.reduceLeDiff, Nat.reduceEqDiff, Int.reduceAdd, Int.reduceSub, Int.reduceLE, Int.reduceLT, Int.reduceEq, Int.reduceToNat, Int.reduceNeg, Int.cast_ofNat_Int, Int.reduceNatCast, Int.reduceNatCast', Int.zero_add, Int.add_zero, Nat.zero_add, Nat.add_zero, and_self, decide_true, decide_false, true_or, or_true, or_false, false_or, eq_self, Int.toNat_natCast, b2_e0, b2_e1, b2_ok, b2_w, b2_v, b2_tt, b2_ff, Bool.true_eq_false, Bool.false_eq_true, Option.some.injEq, Int.one_mul, Int.mul_one, not_true_eq_false, not_false_eq_true, ite_not, decide_eq_false_iff_not, decide_eq_true_eq, Int.reduceMul, Int.reduceMod, cn0 h, cn1 h, cn2 h, cn3 h, cn4 h, cn5 h, cn6 h, cn7 h, cn8 h, cn9 h, cn10 h, pm_z_rcv1 (cn0 h)]
  refine pm_for 16 (fun s lv F => F = f ∧ ∃ a' : Int, lv = [some (.inr (.inl (some (a)))), some (.inl ((i : Int))), some (.inl ((x : Int))), some (.inl ((y : Int))), some (.inl (a')), some (.inl ((s : Int)))] ∧ (a' = -1 ∨ ∃ m : Nat, m < nN N ∧ a' = (m : Int)) ∧ meI N i y (16 - s) a' = meI N i y 16 (x : Int)) (fun s lv F hs hJ ih => ?_) (fun lv F hJ => ?_) 0 _ _ (Nat.zero_le _) ⟨rfl, _, rfl, Or.inr ⟨x, hx, rfl⟩, rfl⟩
  · obtain ⟨rfl, a', rfl, ha, me⟩ := hJ
    rcases ha with ha | ⟨m, hm, rfl⟩
    · rw [ha, me_m1] at me
      rw [← me] at hk
      rw [ha]
      refine pm_go_on [6] 60 ?_
      set_option maxRecDepth 100000 in simp (maxSteps := 2000000) only [pm_x_run, pm_x_rt, pm_x_rf, pm_z_S, pm_z_D, pm_z_cut0, pm_z_cut1, pm_z_cli, pm_z_clr, pm_z_cln, pm_z_cll, pm_z_up, pm_x_aa, pm_x_aald, pm_x_aload0, pm_x_c, pm_x_c2, pm_x_cn0, pm_x_cn1, pm_x_getf, pm_x_gf, pm_x_goto, pm_x_gv, pm_x_icmp_eq, pm_x_icmp_ge, pm_x_if_eq, pm_x_iinc5, pm_x_iload1, pm_x_iload2, pm_x_iload3, pm_x_iload4, pm_x_iload5, pm_x_invs, pm_x_invv, pm_x_istore4, pm_x_istore5, pm_x_v0, pm_x_v1, pm_x_x2, pm_z_bipush, pm_z_cat0, pm_z_cati, pm_z_catl, pm_z_catr, pm_z_iconst, pm_z_pop0, pm_z_pop1, pm_z_rcv0, zX1_meetingOf_B, zX1_meetingOf_F, zX1_meetingOf_R, zX1_meetingOf_X, zX1_meetingOf_C143, zX1_meetingOf_C140, zX1_meetingOf_C146, pm_z_ireti (zX1_meetingOf_R), fX1_41, dX1_meetingOf_0, dX1_meetingOf_1, dX1_meetingOf_3, dX1_meetingOf_4, dX1_meetingOf_6, dX1_meetingOf_8, dX1_meetingOf_10, dX1_meetingOf_13, dX1_meetingOf_15, dX1_meetingOf_16, dX1_meetingOf_19, dX1_meetingOf_20, dX1_meetingOf_23, dX1_meetingOf_24, dX1_meetingOf_25, dX1_meetingOf_27, dX1_meetingOf_30, dX1_meetingOf_31, dX1_meetingOf_34, dX1_meetingOf_37, dX1_meetingOf_39, dX1_meetingOf_40, dX1_meetingOf_41, dX1_meetingOf_42, dX1_meetingOf_44, dX1_meetingOf_47, dX1_meetingOf_49, dX1_meetingOf_52, dX1_meetingOf_55, dX1_meetingOf_56, Bool.cond_true, Bool.cond_false, Bool.or_false, Bool.false_or, Bool.true_or, Bool.or_true, true_and, and_true, if_true, if_false, List.length_cons, List.length_nil, List.getElem?_cons_zero, List.getElem?_cons_succ, List.set_cons_zero, List.set_cons_succ, Option.toList_some, Option.toList_none, List.cons_append, List.nil_append, beq_self_eq_true, Option.isSome_some, Option.isSome_none, pm_tg_lit, ite_true, ite_false, Nat.reduceAdd, Nat.reduceBEq, Nat.reduceLT, Nat.reduceLeDiff, Nat.reduceEqDiff, Int.reduceAdd, Int.reduceSub, Int.reduceLE, Int.reduceLT, Int.reduceEq, Int.reduceToNat, Int.reduceNeg, Int.cast_ofNat_Int, Int.reduceNatCast, Int.reduceNatCast', Int.zero_add, Int.add_zero, Nat.zero_add, Nat.add_zero, and_self, decide_true, decide_false, true_or, or_true, or_false, false_or, eq_self, Int.toNat_natCast, b2_e0, b2_e1, b2_ok, b2_w, b2_v, b2_tt, b2_ff, Bool.true_eq_false, Bool.false_eq_true, Option.some.injEq, Int.one_mul, Int.mul_one, not_true_eq_false, not_false_eq_true, ite_not, decide_eq_false_iff_not, decide_eq_true_eq, Int.reduceMul, Int.reduceMod, cn0 h, cn1 h, cn2 h, cn3 h, cn4 h, cn5 h, cn6 h, cn7 h, cn8 h, cn9 h, cn10 h, pm_z_rcv1 (cn0 h)]
      rw [if_pos (by omega)]
      exact hk
    · have m16 : m < 16 := by omega
      obtain ⟨q, hq⟩ : ∃ q, 16 - s = q + 1 := ⟨15 - s, by omega⟩
      have na : ¬ (m : Int) = -1 := by omega
      rw [hq, meI, if_neg na, Int.toNat_natCast] at me
      refine pm_go_on [6] 60 ?_
      set_option maxRecDepth 100000 in simp (maxSteps := 2000000) only [pm_x_run, pm_x_rt, pm_x_rf, pm_z_S, pm_z_D, pm_z_cut0, pm_z_cut1, pm_z_cli, pm_z_clr, pm_z_cln, pm_z_cll, pm_z_up, pm_x_aa, pm_x_aald, pm_x_aload0, pm_x_c, pm_x_c2, pm_x_cn0, pm_x_cn1, pm_x_getf, pm_x_gf, pm_x_goto, pm_x_gv, pm_x_icmp_eq, pm_x_icmp_ge, pm_x_if_eq, pm_x_iinc5, pm_x_iload1, pm_x_iload2, pm_x_iload3, pm_x_iload4, pm_x_iload5, pm_x_invs, pm_x_invv, pm_x_istore4, pm_x_istore5, pm_x_v0, pm_x_v1, pm_x_x2, pm_z_bipush, pm_z_cat0, pm_z_cati, pm_z_catl, pm_z_catr, pm_z_iconst, pm_z_pop0, pm_z_pop1, pm_z_rcv0, zX1_meetingOf_B, zX1_meetingOf_F, zX1_meetingOf_R, zX1_meetingOf_X, zX1_meetingOf_C143, zX1_meetingOf_C140, zX1_meetingOf_C146, pm_z_ireti (zX1_meetingOf_R), fX1_41, dX1_meetingOf_0, dX1_meetingOf_1, dX1_meetingOf_3, dX1_meetingOf_4, dX1_meetingOf_6, dX1_meetingOf_8, dX1_meetingOf_10, dX1_meetingOf_13, dX1_meetingOf_15, dX1_meetingOf_16, dX1_meetingOf_19, dX1_meetingOf_20, dX1_meetingOf_23, dX1_meetingOf_24, dX1_meetingOf_25, dX1_meetingOf_27, dX1_meetingOf_30, dX1_meetingOf_31, dX1_meetingOf_34, dX1_meetingOf_37, dX1_meetingOf_39, dX1_meetingOf_40, dX1_meetingOf_41, dX1_meetingOf_42, dX1_meetingOf_44, dX1_meetingOf_47, dX1_meetingOf_49, dX1_meetingOf_52, dX1_meetingOf_55, dX1_meetingOf_56, Bool.cond_true, Bool.cond_false, Bool.or_false, Bool.false_or, Bool.true_or, Bool.or_true, true_and, and_true, if_true, if_false, List.length_cons, List.length_nil, List.getElem?_cons_zero, List.getElem?_cons_succ, List.set_cons_zero, List.set_cons_succ, Option.toList_some, Option.toList_none, List.cons_append, List.nil_append, beq_self_eq_true, Option.isSome_some, Option.isSome_none, pm_tg_lit, ite_true, ite_false, Nat.reduceAdd, Nat.reduceBEq, Nat.reduceLT, Nat.reduceLeDiff, Nat.reduceEqDiff, Int.reduceAdd, Int.reduceSub, Int.reduceLE, Int.reduceLT, Int.reduceEq, Int.reduceToNat, Int.reduceNeg, Int.cast_ofNat_Int, Int.reduceNatCast, Int.reduceNatCast', Int.zero_add, Int.add_zero, Nat.zero_add, Nat.add_zero, and_self, decide_true, decide_false, true_or, or_true, or_false, false_or, eq_self, Int.toNat_natCast, b2_e0, b2_e1, b2_ok, b2_w, b2_v, b2_tt, b2_ff, Bool.true_eq_false, Bool.false_eq_true, Option.some.injEq, Int.one_mul, Int.mul_one, not_true_eq_false, not_false_eq_true, ite_not, decide_eq_false_iff_not, decide_eq_true_eq, Int.reduceMul, Int.reduceMod, cn0 h, cn1 h, cn2 h, cn3 h, cn4 h, cn5 h, cn6 h, cn7 h, cn8 h, cn9 h, cn10 h, pm_z_rcv1 (cn0 h), hf, pm_z_rcv1 hb]
      rw [if_pos (by omega), if_neg na]
      refine ⟨by omega, ?_⟩
      refine belowOf_c h ht iv hi hm ?_
      set_option maxRecDepth 100000 in simp (maxSteps := 2000000) only [pm_x_run, pm_x_rt, pm_x_rf, pm_z_S, pm_z_D, pm_z_cut0, pm_z_cut1, pm_z_cli, pm_z_clr, pm_z_cln, pm_z_cll, pm_z_up, pm_x_aa, pm_x_aald, pm_x_aload0, pm_x_c, pm_x_c2, pm_x_cn0, pm_x_cn1, pm_x_getf, pm_x_gf, pm_x_goto, pm_x_gv, pm_x_icmp_eq, pm_x_icmp_ge, pm_x_if_eq, pm_x_iinc5, pm_x_iload1, pm_x_iload2, pm_x_iload3, pm_x_iload4, pm_x_iload5, pm_x_invs, pm_x_invv, pm_x_istore4, pm_x_istore5, pm_x_v0, pm_x_v1, pm_x_x2, pm_z_bipush, pm_z_cat0, pm_z_cati, pm_z_catl, pm_z_catr, pm_z_iconst, pm_z_pop0, pm_z_pop1, pm_z_rcv0, zX1_meetingOf_B, zX1_meetingOf_F, zX1_meetingOf_R, zX1_meetingOf_X, zX1_meetingOf_C143, zX1_meetingOf_C140, zX1_meetingOf_C146, pm_z_ireti (zX1_meetingOf_R), fX1_41, dX1_meetingOf_0, dX1_meetingOf_1, dX1_meetingOf_3, dX1_meetingOf_4, dX1_meetingOf_6, dX1_meetingOf_8, dX1_meetingOf_10, dX1_meetingOf_13, dX1_meetingOf_15, dX1_meetingOf_16, dX1_meetingOf_19, dX1_meetingOf_20, dX1_meetingOf_23, dX1_meetingOf_24, dX1_meetingOf_25, dX1_meetingOf_27, dX1_meetingOf_30, dX1_meetingOf_31, dX1_meetingOf_34, dX1_meetingOf_37, dX1_meetingOf_39, dX1_meetingOf_40, dX1_meetingOf_41, dX1_meetingOf_42, dX1_meetingOf_44, dX1_meetingOf_47, dX1_meetingOf_49, dX1_meetingOf_52, dX1_meetingOf_55, dX1_meetingOf_56, Bool.cond_true, Bool.cond_false, Bool.or_false, Bool.false_or, Bool.true_or, Bool.or_true, true_and, and_true, if_true, if_false, List.length_cons, List.length_nil, List.getElem?_cons_zero, List.getElem?_cons_succ, List.set_cons_zero, List.set_cons_succ, Option.toList_some, Option.toList_none, List.cons_append, List.nil_append, beq_self_eq_true, Option.isSome_some, Option.isSome_none, pm_tg_lit, ite_true, ite_false, Nat.reduceAdd, Nat.reduceBEq, Nat.reduceLT, Nat.reduceLeDiff, Nat.reduceEqDiff, Int.reduceAdd, Int.reduceSub, Int.reduceLE, Int.reduceLT, Int.reduceEq, Int.reduceToNat, Int.reduceNeg, Int.cast_ofNat_Int, Int.reduceNatCast, Int.reduceNatCast', Int.zero_add, Int.add_zero, Nat.zero_add, Nat.add_zero, and_self, decide_true, decide_false, true_or, or_true, or_false, false_or, eq_self, Int.toNat_natCast, b2_e0, b2_e1, b2_ok, b2_w, b2_v, b2_tt, b2_ff, Bool.true_eq_false, Bool.false_eq_true, Option.some.injEq, Int.one_mul, Int.mul_one, not_true_eq_false, not_false_eq_true, ite_not, decide_eq_false_iff_not, decide_eq_true_eq, Int.reduceMul, Int.reduceMod, cn0 h, cn1 h, cn2 h, cn3 h, cn4 h, cn5 h, cn6 h, cn7 h, cn8 h, cn9 h, cn10 h, pm_z_rcv1 (cn0 h)]
      refine holds_sp (by omega) (bs_31 _ (by omega)) ?_
      rw [bs_bit, decide_eq_true y16, Bool.true_and, bl_sub iv hi y16 m16]
      cases w : blB N i y m
      · rw [w, if_neg (by decide)] at me
        set_option maxRecDepth 100000 in simp (maxSteps := 2000000) only [pm_x_run, pm_x_rt, pm_x_rf, pm_z_S, pm_z_D, pm_z_cut0, pm_z_cut1, pm_z_cli, pm_z_clr, pm_z_cln, pm_z_cll, pm_z_up, pm_x_aa, pm_x_aald, pm_x_aload0, pm_x_c, pm_x_c2, pm_x_cn0, pm_x_cn1, pm_x_getf, pm_x_gf, pm_x_goto, pm_x_gv, pm_x_icmp_eq, pm_x_icmp_ge, pm_x_if_eq, pm_x_iinc5, pm_x_iload1, pm_x_iload2, pm_x_iload3, pm_x_iload4, pm_x_iload5, pm_x_invs, pm_x_invv, pm_x_istore4, pm_x_istore5, pm_x_v0, pm_x_v1, pm_x_x2, pm_z_bipush, pm_z_cat0, pm_z_cati, pm_z_catl, pm_z_catr, pm_z_iconst, pm_z_pop0, pm_z_pop1, pm_z_rcv0, zX1_meetingOf_B, zX1_meetingOf_F, zX1_meetingOf_R, zX1_meetingOf_X, zX1_meetingOf_C143, zX1_meetingOf_C140, zX1_meetingOf_C146, pm_z_ireti (zX1_meetingOf_R), fX1_41, dX1_meetingOf_0, dX1_meetingOf_1, dX1_meetingOf_3, dX1_meetingOf_4, dX1_meetingOf_6, dX1_meetingOf_8, dX1_meetingOf_10, dX1_meetingOf_13, dX1_meetingOf_15, dX1_meetingOf_16, dX1_meetingOf_19, dX1_meetingOf_20, dX1_meetingOf_23, dX1_meetingOf_24, dX1_meetingOf_25, dX1_meetingOf_27, dX1_meetingOf_30, dX1_meetingOf_31, dX1_meetingOf_34, dX1_meetingOf_37, dX1_meetingOf_39, dX1_meetingOf_40, dX1_meetingOf_41, dX1_meetingOf_42, dX1_meetingOf_44, dX1_meetingOf_47, dX1_meetingOf_49, dX1_meetingOf_52, dX1_meetingOf_55, dX1_meetingOf_56, Bool.cond_true, Bool.cond_false, Bool.or_false, Bool.false_or, Bool.true_or, Bool.or_true, true_and, and_true, if_true, if_false, List.length_cons, List.length_nil, List.getElem?_cons_zero, List.getElem?_cons_succ, List.set_cons_zero, List.set_cons_succ, Option.toList_some, Option.toList_none, List.cons_append, List.nil_append, beq_self_eq_true, Option.isSome_some, Option.isSome_none, pm_tg_lit, ite_true, ite_false, Nat.reduceAdd, Nat.reduceBEq, Nat.reduceLT, Nat.reduceLeDiff, Nat.reduceEqDiff, Int.reduceAdd, Int.reduceSub, Int.reduceLE, Int.reduceLT, Int.reduceEq, Int.reduceToNat, Int.reduceNeg, Int.cast_ofNat_Int, Int.reduceNatCast, Int.reduceNatCast', Int.zero_add, Int.add_zero, Nat.zero_add, Nat.add_zero, and_self, decide_true, decide_false, true_or, or_true, or_false, false_or, eq_self, Int.toNat_natCast, b2_e0, b2_e1, b2_ok, b2_w, b2_v, b2_tt, b2_ff, Bool.true_eq_false, Bool.false_eq_true, Option.some.injEq, Int.one_mul, Int.mul_one, not_true_eq_false, not_false_eq_true, ite_not, decide_eq_false_iff_not, decide_eq_true_eq, Int.reduceMul, Int.reduceMod, cn0 h, cn1 h, cn2 h, cn3 h, cn4 h, cn5 h, cn6 h, cn7 h, cn8 h, cn9 h, cn10 h, pm_z_rcv1 (cn0 h)]
        refine aboveOf_c h hl ht iv hi hm ?_
        set_option maxRecDepth 100000 in simp (maxSteps := 2000000) only [pm_x_run, pm_x_rt, pm_x_rf, pm_z_S, pm_z_D, pm_z_cut0, pm_z_cut1, pm_z_cli, pm_z_clr, pm_z_cln, pm_z_cll, pm_z_up, pm_x_aa, pm_x_aald, pm_x_aload0, pm_x_c, pm_x_c2, pm_x_cn0, pm_x_cn1, pm_x_getf, pm_x_gf, pm_x_goto, pm_x_gv, pm_x_icmp_eq, pm_x_icmp_ge, pm_x_if_eq, pm_x_iinc5, pm_x_iload1, pm_x_iload2, pm_x_iload3, pm_x_iload4, pm_x_iload5, pm_x_invs, pm_x_invv, pm_x_istore4, pm_x_istore5, pm_x_v0, pm_x_v1, pm_x_x2, pm_z_bipush, pm_z_cat0, pm_z_cati, pm_z_catl, pm_z_catr, pm_z_iconst, pm_z_pop0, pm_z_pop1, pm_z_rcv0, zX1_meetingOf_B, zX1_meetingOf_F, zX1_meetingOf_R, zX1_meetingOf_X, zX1_meetingOf_C143, zX1_meetingOf_C140, zX1_meetingOf_C146, pm_z_ireti (zX1_meetingOf_R), fX1_41, dX1_meetingOf_0, dX1_meetingOf_1, dX1_meetingOf_3, dX1_meetingOf_4, dX1_meetingOf_6, dX1_meetingOf_8, dX1_meetingOf_10, dX1_meetingOf_13, dX1_meetingOf_15, dX1_meetingOf_16, dX1_meetingOf_19, dX1_meetingOf_20, dX1_meetingOf_23, dX1_meetingOf_24, dX1_meetingOf_25, dX1_meetingOf_27, dX1_meetingOf_30, dX1_meetingOf_31, dX1_meetingOf_34, dX1_meetingOf_37, dX1_meetingOf_39, dX1_meetingOf_40, dX1_meetingOf_41, dX1_meetingOf_42, dX1_meetingOf_44, dX1_meetingOf_47, dX1_meetingOf_49, dX1_meetingOf_52, dX1_meetingOf_55, dX1_meetingOf_56, Bool.cond_true, Bool.cond_false, Bool.or_false, Bool.false_or, Bool.true_or, Bool.or_true, true_and, and_true, if_true, if_false, List.length_cons, List.length_nil, List.getElem?_cons_zero, List.getElem?_cons_succ, List.set_cons_zero, List.set_cons_succ, Option.toList_some, Option.toList_none, List.cons_append, List.nil_append, beq_self_eq_true, Option.isSome_some, Option.isSome_none, pm_tg_lit, ite_true, ite_false, Nat.reduceAdd, Nat.reduceBEq, Nat.reduceLT, Nat.reduceLeDiff, Nat.reduceEqDiff, Int.reduceAdd, Int.reduceSub, Int.reduceLE, Int.reduceLT, Int.reduceEq, Int.reduceToNat, Int.reduceNeg, Int.cast_ofNat_Int, Int.reduceNatCast, Int.reduceNatCast', Int.zero_add, Int.add_zero, Nat.zero_add, Nat.add_zero, and_self, decide_true, decide_false, true_or, or_true, or_false, false_or, eq_self, Int.toNat_natCast, b2_e0, b2_e1, b2_ok, b2_w, b2_v, b2_tt, b2_ff, Bool.true_eq_false, Bool.false_eq_true, Option.some.injEq, Int.one_mul, Int.mul_one, not_true_eq_false, not_false_eq_true, ite_not, decide_eq_false_iff_not, decide_eq_true_eq, Int.reduceMul, Int.reduceMod, cn0 h, cn1 h, cn2 h, cn3 h, cn4 h, cn5 h, cn6 h, cn7 h, cn8 h, cn9 h, cn10 h, pm_z_rcv1 (cn0 h)]
        refine ⟨by omega, ih _ _ ⟨rfl, _, rfl, ?_, by rw [show 16 - (s + 1) = q by omega]; exact me⟩⟩
        rcases ab_sp iv hi m16 with ⟨z, _⟩ | ⟨c, _, mn, yy⟩
        · exact Or.inl z
        · have cl := kn_c iv hi m16 mn
          have oc := (INV_ok iv).2.1 c cl
          refine Or.inr ⟨_, ?_, yy⟩
          unfold paC
          split <;> omega
      · rw [w, if_pos rfl] at me
        rw [← me] at hk
        set_option maxRecDepth 100000 in simp (maxSteps := 2000000) only [pm_x_run, pm_x_rt, pm_x_rf, pm_z_S, pm_z_D, pm_z_cut0, pm_z_cut1, pm_z_cli, pm_z_clr, pm_z_cln, pm_z_cll, pm_z_up, pm_x_aa, pm_x_aald, pm_x_aload0, pm_x_c, pm_x_c2, pm_x_cn0, pm_x_cn1, pm_x_getf, pm_x_gf, pm_x_goto, pm_x_gv, pm_x_icmp_eq, pm_x_icmp_ge, pm_x_if_eq, pm_x_iinc5, pm_x_iload1, pm_x_iload2, pm_x_iload3, pm_x_iload4, pm_x_iload5, pm_x_invs, pm_x_invv, pm_x_istore4, pm_x_istore5, pm_x_v0, pm_x_v1, pm_x_x2, pm_z_bipush, pm_z_cat0, pm_z_cati, pm_z_catl, pm_z_catr, pm_z_iconst, pm_z_pop0, pm_z_pop1, pm_z_rcv0, zX1_meetingOf_B, zX1_meetingOf_F, zX1_meetingOf_R, zX1_meetingOf_X, zX1_meetingOf_C143, zX1_meetingOf_C140, zX1_meetingOf_C146, pm_z_ireti (zX1_meetingOf_R), fX1_41, dX1_meetingOf_0, dX1_meetingOf_1, dX1_meetingOf_3, dX1_meetingOf_4, dX1_meetingOf_6, dX1_meetingOf_8, dX1_meetingOf_10, dX1_meetingOf_13, dX1_meetingOf_15, dX1_meetingOf_16, dX1_meetingOf_19, dX1_meetingOf_20, dX1_meetingOf_23, dX1_meetingOf_24, dX1_meetingOf_25, dX1_meetingOf_27, dX1_meetingOf_30, dX1_meetingOf_31, dX1_meetingOf_34, dX1_meetingOf_37, dX1_meetingOf_39, dX1_meetingOf_40, dX1_meetingOf_41, dX1_meetingOf_42, dX1_meetingOf_44, dX1_meetingOf_47, dX1_meetingOf_49, dX1_meetingOf_52, dX1_meetingOf_55, dX1_meetingOf_56, Bool.cond_true, Bool.cond_false, Bool.or_false, Bool.false_or, Bool.true_or, Bool.or_true, true_and, and_true, if_true, if_false, List.length_cons, List.length_nil, List.getElem?_cons_zero, List.getElem?_cons_succ, List.set_cons_zero, List.set_cons_succ, Option.toList_some, Option.toList_none, List.cons_append, List.nil_append, beq_self_eq_true, Option.isSome_some, Option.isSome_none, pm_tg_lit, ite_true, ite_false, Nat.reduceAdd, Nat.reduceBEq, Nat.reduceLT, Nat.reduceLeDiff, Nat.reduceEqDiff, Int.reduceAdd, Int.reduceSub, Int.reduceLE, Int.reduceLT, Int.reduceEq, Int.reduceToNat, Int.reduceNeg, Int.cast_ofNat_Int, Int.reduceNatCast, Int.reduceNatCast', Int.zero_add, Int.add_zero, Nat.zero_add, Nat.add_zero, and_self, decide_true, decide_false, true_or, or_true, or_false, false_or, eq_self, Int.toNat_natCast, b2_e0, b2_e1, b2_ok, b2_w, b2_v, b2_tt, b2_ff, Bool.true_eq_false, Bool.false_eq_true, Option.some.injEq, Int.one_mul, Int.mul_one, not_true_eq_false, not_false_eq_true, ite_not, decide_eq_false_iff_not, decide_eq_true_eq, Int.reduceMul, Int.reduceMod, cn0 h, cn1 h, cn2 h, cn3 h, cn4 h, cn5 h, cn6 h, cn7 h, cn8 h, cn9 h, cn10 h, pm_z_rcv1 (cn0 h)]
        exact hk
  · obtain ⟨rfl, a', rfl, ha, me⟩ := hJ
    rw [show 16 - 16 = 0 from rfl, meI] at me
    rw [← me] at hk
    refine pm_go_on [6] 60 ?_
    set_option maxRecDepth 100000 in simp (maxSteps := 2000000) only [pm_x_run, pm_x_rt, pm_x_rf, pm_z_S, pm_z_D, pm_z_cut0, pm_z_cut1, pm_z_cli, pm_z_clr, pm_z_cln, pm_z_cll, pm_z_up, pm_x_aa, pm_x_aald, pm_x_aload0, pm_x_c, pm_x_c2, pm_x_cn0, pm_x_cn1, pm_x_getf, pm_x_gf, pm_x_goto, pm_x_gv, pm_x_icmp_eq, pm_x_icmp_ge, pm_x_if_eq, pm_x_iinc5, pm_x_iload1, pm_x_iload2, pm_x_iload3, pm_x_iload4, pm_x_iload5, pm_x_invs, pm_x_invv, pm_x_istore4, pm_x_istore5, pm_x_v0, pm_x_v1, pm_x_x2, pm_z_bipush, pm_z_cat0, pm_z_cati, pm_z_catl, pm_z_catr, pm_z_iconst, pm_z_pop0, pm_z_pop1, pm_z_rcv0, zX1_meetingOf_B, zX1_meetingOf_F, zX1_meetingOf_R, zX1_meetingOf_X, zX1_meetingOf_C143, zX1_meetingOf_C140, zX1_meetingOf_C146, pm_z_ireti (zX1_meetingOf_R), fX1_41, dX1_meetingOf_0, dX1_meetingOf_1, dX1_meetingOf_3, dX1_meetingOf_4, dX1_meetingOf_6, dX1_meetingOf_8, dX1_meetingOf_10, dX1_meetingOf_13, dX1_meetingOf_15, dX1_meetingOf_16, dX1_meetingOf_19, dX1_meetingOf_20, dX1_meetingOf_23, dX1_meetingOf_24, dX1_meetingOf_25, dX1_meetingOf_27, dX1_meetingOf_30, dX1_meetingOf_31, dX1_meetingOf_34, dX1_meetingOf_37, dX1_meetingOf_39, dX1_meetingOf_40, dX1_meetingOf_41, dX1_meetingOf_42, dX1_meetingOf_44, dX1_meetingOf_47, dX1_meetingOf_49, dX1_meetingOf_52, dX1_meetingOf_55, dX1_meetingOf_56, Bool.cond_true, Bool.cond_false, Bool.or_false, Bool.false_or, Bool.true_or, Bool.or_true, true_and, and_true, if_true, if_false, List.length_cons, List.length_nil, List.getElem?_cons_zero, List.getElem?_cons_succ, List.set_cons_zero, List.set_cons_succ, Option.toList_some, Option.toList_none, List.cons_append, List.nil_append, beq_self_eq_true, Option.isSome_some, Option.isSome_none, pm_tg_lit, ite_true, ite_false, Nat.reduceAdd, Nat.reduceBEq, Nat.reduceLT, Nat.reduceLeDiff, Nat.reduceEqDiff, Int.reduceAdd, Int.reduceSub, Int.reduceLE, Int.reduceLT, Int.reduceEq, Int.reduceToNat, Int.reduceNeg, Int.cast_ofNat_Int, Int.reduceNatCast, Int.reduceNatCast', Int.zero_add, Int.add_zero, Nat.zero_add, Nat.add_zero, and_self, decide_true, decide_false, true_or, or_true, or_false, false_or, eq_self, Int.toNat_natCast, b2_e0, b2_e1, b2_ok, b2_w, b2_v, b2_tt, b2_ff, Bool.true_eq_false, Bool.false_eq_true, Option.some.injEq, Int.one_mul, Int.mul_one, not_true_eq_false, not_false_eq_true, ite_not, decide_eq_false_iff_not, decide_eq_true_eq, Int.reduceMul, Int.reduceMod, cn0 h, cn1 h, cn2 h, cn3 h, cn4 h, cn5 h, cn6 h, cn7 h, cn8 h, cn9 h, cn10 h, pm_z_rcv1 (cn0 h)]
    exact hk
theorem trees_c (h : cn_at f a A R U S) (ht : ckt N R U) (iv : INV N) {i : Nat} (hi : i < 5) (hk : k (some (.inl ((cnt (fun n => lsB N i n n) (nN N) : Nat) : Int))) f) : pm_ex T_X0_trees [.inr (.inl (some (a + 11 + 2 * i)))] f k := by
  have b0 := okn (INV_ok iv)
  have fl := iv.2.1 i hi
  obtain ⟨ts, hts, tr⟩ := ht i hi
  have hu := ck_u b0.2 fl (iv_K iv i) hts tr
  rw [← trees_eq fl b0.2 tr] at hk
  exact trees_at (h.2.2.2 i hi) (by omega) hts hk
theorem greatest_c (h : cn_at f a A R U S) (ht : ckt N R U) (iv : INV N) {i : Nat} (hi : i < 5) (hk : k (some (.inl ((mxF (szN N i) (nN N) : Nat) : Int))) f) : pm_ex T_X0_greatest [.inr (.inl (some (a + 11 + 2 * i)))] f k := by
  have b0 := okn (INV_ok iv)
  have fl := iv.2.1 i hi
  obtain ⟨ts, hts, tr⟩ := ht i hi
  have hu := ck_u b0.2 fl (iv_K iv i) hts tr
  rw [← grt_eq fl b0.2 (iv_K iv i) tr] at hk
  exact greatest_at (h.2.2.2 i hi) (by omega) hts hk
end CTO
