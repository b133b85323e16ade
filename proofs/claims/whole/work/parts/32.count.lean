theorem max_sp {f : pm_H} {x y : Int} {k : pm_P} (hk : k (some (.inl (if x < y then y else x))) f) : pm_ex pm_tmax [.inl x, .inl y] f k := ⟨k, ⟨x, y, rfl, hk⟩, fun _ _ h => h⟩
theorem min_sp {f : pm_H} {x y : Int} {k : pm_P} (hk : k (some (.inl (if y < x then y else x))) f) : pm_ex pm_tmin [.inl x, .inl y] f k := ⟨k, ⟨x, y, rfl, hk⟩, fun _ _ h => h⟩
def grt : List Int → Nat × Nat → Nat × Nat
  | [], p => p
  | v :: l, p => grt l (if v = -1 then (p.1, 0) else if v < 100 then (max p.1 (p.2 + 1), p.2 + 1) else p)
theorem grt_app : ∀ (l m : List Int) (p : Nat × Nat), grt (l ++ m) p = grt m (grt l p)
  | [], _, _ => rfl
  | v :: l, m, p => by rw [List.cons_append, grt, grt, grt_app l m]
theorem grt_le : ∀ (l : List Int) (p : Nat × Nat), (grt l p).2 ≤ p.2 + l.length ∧ (grt l p).1 ≤ max p.1 (p.2 + l.length) ∧ p.1 ≤ (grt l p).1
  | [], p => by simp only [grt, List.length_nil]; omega
  | v :: l, p => by
    rw [grt, List.length_cons]
    have ih := grt_le l (if v = -1 then (p.1, 0) else if v < 100 then (max p.1 (p.2 + 1), p.2 + 1) else p)
    by_cases h : v = -1
    · rw [if_pos h] at ih ⊢
      simp only at ih
      omega
    · rw [if_neg h] at ih ⊢
      by_cases h2 : v < 100
      · rw [if_pos h2] at ih ⊢
        simp only at ih
        omega
      · rw [if_neg h2] at ih ⊢
        omega
theorem greatest_loop {f : pm_H} {a r u : Nat} {row : Nat → Int} {P : pm_P} (h : fo_at f a r row u) (hu : u ≤ 48) (hP : P (some (.inl (((grt (fl row u) (0, 0)).1 : Nat) : Int))) f) : ∀ (n i : Nat), i + n = u → pm_W eX0_greatest P (fun _ _ => False) 6 [some (.inr (.inl (some a))), some (.inl (((grt (fl row i) (0, 0)).1 : Nat) : Int)), some (.inl (((grt (fl row i) (0, 0)).2 : Nat) : Int)), some (.inl (i : Int))] [] f := by
  intro n
  induction n with
  | zero =>
    intro i hi
    obtain rfl : i = u := by omega
    refine pm_go_on [6] 60 ?_
    set_option maxRecDepth 100000 in simp (maxSteps := 2000000) only [pm_x_run, pm_x_rt, pm_x_rf, pm_z_S, pm_z_D, pm_z_cut0, pm_z_cut1, pm_z_cli, pm_z_clr, pm_z_cln, pm_z_cll, pm_z_up, pm_x_aload0, pm_x_c, pm_x_c2, pm_x_cn0, pm_x_cn1, pm_x_getf, pm_x_gf, pm_x_goto, pm_x_gv, pm_x_ia, pm_x_iald, pm_x_icmp_ge, pm_x_icmp_ne, pm_x_iinc2, pm_x_iinc3, pm_x_iload1, pm_x_iload2, pm_x_iload3, pm_x_invs, pm_x_istore1, pm_x_istore2, pm_x_istore3, pm_z_bipush, pm_z_cat0, pm_z_cati, pm_z_catl, pm_z_catr, pm_z_iconst, pm_z_pop0, pm_z_pop1, pm_z_rcv0, Bool.cond_true, Bool.cond_false, Bool.or_false, Bool.false_or, Bool.true_or, Bool.or_true, true_and, and_true, if_true, if_false, List.length_cons, List.length_nil, List.getElem?_cons_zero, List.getElem?_cons_succ, List.set_cons_zero, List.set_cons_succ, Option.toList_some, Option.toList_none, List.cons_append, List.nil_append, beq_self_eq_true, Option.isSome_some, Option.isSome_none, pm_tg_lit, ite_true, ite_false, Nat.reduceAdd, Nat.reduceBEq, Nat.reduceLT, Nat.reduceLeDiff, Nat.reduceEqDiff, Int.reduceAdd, Int.reduceSub, Int.reduceLE, Int.reduceLT, Int.reduceEq, Int.reduceToNat, Int.reduceNeg, Int.cast_ofNat_Int, Int.reduceNatCast, Int.reduceNatCast', Int.zero_add, Int.add_zero, Nat.zero_add, Nat.add_zero, and_self, decide_true, decide_false, zX0_greatest_B, zX0_greatest_F, zX0_greatest_R, zX0_greatest_X, zX0_greatest_C39, pm_z_ireti (zX0_greatest_R), fX0_15, fX0_11, dX0_greatest_0, dX0_greatest_1, dX0_greatest_2, dX0_greatest_3, dX0_greatest_4, dX0_greatest_5, dX0_greatest_6, dX0_greatest_7, dX0_greatest_8, dX0_greatest_11, dX0_greatest_14, dX0_greatest_15, dX0_greatest_18, dX0_greatest_19, dX0_greatest_20, dX0_greatest_21, dX0_greatest_24, dX0_greatest_25, dX0_greatest_26, dX0_greatest_29, dX0_greatest_30, dX0_greatest_33, dX0_greatest_34, dX0_greatest_35, dX0_greatest_37, dX0_greatest_40, dX0_greatest_43, dX0_greatest_44, dX0_greatest_45, dX0_greatest_48, dX0_greatest_49, dX0_greatest_52, dX0_greatest_55, dX0_greatest_56, h.1, h.2]
    rw [if_neg (by omega)]
    exact hP
  | succ n ih =>
    intro i hi
    have hc := grt_le (fl row i) (0, 0)
    rw [fl_len] at hc
    have ih2 := ih (i + 1) (by omega)
    rw [fl_s, grt_app, grt, grt] at ih2
    refine pm_go_on [6] 60 ?_
    set_option maxRecDepth 100000 in simp (maxSteps := 2000000) only [pm_x_run, pm_x_rt, pm_x_rf, pm_z_S, pm_z_D, pm_z_cut0, pm_z_cut1, pm_z_cli, pm_z_clr, pm_z_cln, pm_z_cll, pm_z_up, pm_x_aload0, pm_x_c, pm_x_c2, pm_x_cn0, pm_x_cn1, pm_x_getf, pm_x_gf, pm_x_goto, pm_x_gv, pm_x_ia, pm_x_iald, pm_x_icmp_ge, pm_x_icmp_ne, pm_x_iinc2, pm_x_iinc3, pm_x_iload1, pm_x_iload2, pm_x_iload3, pm_x_invs, pm_x_istore1, pm_x_istore2, pm_x_istore3, pm_z_bipush, pm_z_cat0, pm_z_cati, pm_z_catl, pm_z_catr, pm_z_iconst, pm_z_pop0, pm_z_pop1, pm_z_rcv0, Bool.cond_true, Bool.cond_false, Bool.or_false, Bool.false_or, Bool.true_or, Bool.or_true, true_and, and_true, if_true, if_false, List.length_cons, List.length_nil, List.getElem?_cons_zero, List.getElem?_cons_succ, List.set_cons_zero, List.set_cons_succ, Option.toList_some, Option.toList_none, List.cons_append, List.nil_append, beq_self_eq_true, Option.isSome_some, Option.isSome_none, pm_tg_lit, ite_true, ite_false, Nat.reduceAdd, Nat.reduceBEq, Nat.reduceLT, Nat.reduceLeDiff, Nat.reduceEqDiff, Int.reduceAdd, Int.reduceSub, Int.reduceLE, Int.reduceLT, Int.reduceEq, Int.reduceToNat, Int.reduceNeg, Int.cast_ofNat_Int, Int.reduceNatCast, Int.reduceNatCast', Int.zero_add, Int.add_zero, Nat.zero_add, Nat.add_zero, and_self, decide_true, decide_false, zX0_greatest_B, zX0_greatest_F, zX0_greatest_R, zX0_greatest_X, zX0_greatest_C39, pm_z_ireti (zX0_greatest_R), fX0_15, fX0_11, dX0_greatest_0, dX0_greatest_1, dX0_greatest_2, dX0_greatest_3, dX0_greatest_4, dX0_greatest_5, dX0_greatest_6, dX0_greatest_7, dX0_greatest_8, dX0_greatest_11, dX0_greatest_14, dX0_greatest_15, dX0_greatest_18, dX0_greatest_19, dX0_greatest_20, dX0_greatest_21, dX0_greatest_24, dX0_greatest_25, dX0_greatest_26, dX0_greatest_29, dX0_greatest_30, dX0_greatest_33, dX0_greatest_34, dX0_greatest_35, dX0_greatest_37, dX0_greatest_40, dX0_greatest_43, dX0_greatest_44, dX0_greatest_45, dX0_greatest_48, dX0_greatest_49, dX0_greatest_52, dX0_greatest_55, dX0_greatest_56, h.1, h.2]
    rw [if_pos (by omega)]
    refine ⟨by omega, ?_⟩
    rw [Int.toNat_natCast]
    by_cases hr : row i = -1
    · rw [if_pos hr]
      rw [if_pos hr] at ih2
      exact ⟨by omega, ih2⟩
    · rw [if_neg hr]
      rw [if_neg hr] at ih2
      refine ⟨by omega, ?_⟩
      by_cases hr2 : row i < 100
      · rw [if_pos hr2]
        rw [if_pos hr2] at ih2
        simp only at hc
        refine ⟨by omega, ?_⟩
        refine max_sp ?_
        set_option maxRecDepth 100000 in simp (maxSteps := 2000000) only [pm_x_run, pm_x_rt, pm_x_rf, pm_z_S, pm_z_D, pm_z_cut0, pm_z_cut1, pm_z_cli, pm_z_clr, pm_z_cln, pm_z_cll, pm_z_up, pm_x_aload0, pm_x_c, pm_x_c2, pm_x_cn0, pm_x_cn1, pm_x_getf, pm_x_gf, pm_x_goto, pm_x_gv, pm_x_ia, pm_x_iald, pm_x_icmp_ge, pm_x_icmp_ne, pm_x_iinc2, pm_x_iinc3, pm_x_iload1, pm_x_iload2, pm_x_iload3, pm_x_invs, pm_x_istore1, pm_x_istore2, pm_x_istore3, pm_z_bipush, pm_z_cat0, pm_z_cati, pm_z_catl, pm_z_catr, pm_z_iconst, pm_z_pop0, pm_z_pop1, pm_z_rcv0, Bool.cond_true, Bool.cond_false, Bool.or_false, Bool.false_or, Bool.true_or, Bool.or_true, true_and, and_true, if_true, if_false, List.length_cons, List.length_nil, List.getElem?_cons_zero, List.getElem?_cons_succ, List.set_cons_zero, List.set_cons_succ, Option.toList_some, Option.toList_none, List.cons_append, List.nil_append, beq_self_eq_true, Option.isSome_some, Option.isSome_none, pm_tg_lit, ite_true, ite_false, Nat.reduceAdd, Nat.reduceBEq, Nat.reduceLT, Nat.reduceLeDiff, Nat.reduceEqDiff, Int.reduceAdd, Int.reduceSub, Int.reduceLE, Int.reduceLT, Int.reduceEq, Int.reduceToNat, Int.reduceNeg, Int.cast_ofNat_Int, Int.reduceNatCast, Int.reduceNatCast', Int.zero_add, Int.add_zero, Nat.zero_add, Nat.add_zero, and_self, decide_true, decide_false, zX0_greatest_B, zX0_greatest_F, zX0_greatest_R, zX0_greatest_X, zX0_greatest_C39, pm_z_ireti (zX0_greatest_R), fX0_15, fX0_11, dX0_greatest_0, dX0_greatest_1, dX0_greatest_2, dX0_greatest_3, dX0_greatest_4, dX0_greatest_5, dX0_greatest_6, dX0_greatest_7, dX0_greatest_8, dX0_greatest_11, dX0_greatest_14, dX0_greatest_15, dX0_greatest_18, dX0_greatest_19, dX0_greatest_20, dX0_greatest_21, dX0_greatest_24, dX0_greatest_25, dX0_greatest_26, dX0_greatest_29, dX0_greatest_30, dX0_greatest_33, dX0_greatest_34, dX0_greatest_35, dX0_greatest_37, dX0_greatest_40, dX0_greatest_43, dX0_greatest_44, dX0_greatest_45, dX0_greatest_48, dX0_greatest_49, dX0_greatest_52, dX0_greatest_55, dX0_greatest_56, h.1, h.2]
        refine ⟨by omega, ?_⟩
        have e : (if ((grt (fl row i) (0, 0)).1 : Int) < ((grt (fl row i) (0, 0)).2 : Int) + 1 then ((grt (fl row i) (0, 0)).2 : Int) + 1 else ((grt (fl row i) (0, 0)).1 : Int)) = ((max (grt (fl row i) (0, 0)).1 ((grt (fl row i) (0, 0)).2 + 1) : Nat) : Int) := by
          split <;> omega
        rw [e]
        exact ih2
      · rw [if_neg hr2]
        rw [if_neg hr2] at ih2
        exact ⟨by omega, ih2⟩
theorem grt_t : ∀ (t : List Int), okT t → ∀ (m s : Nat), grt t (m, s) = (if t.countP (fun v => decide (v < 100)) = 0 then m else max m (s + t.countP (fun v => decide (v < 100))), s + t.countP (fun v => decide (v < 100)))
  | [], _, m, s => by simp [grt]
  | v :: t, h, m, s => by
    have hv := h v List.mem_cons_self
    have ht : okT t := fun w hw => h w (List.mem_cons_of_mem _ hw)
    rw [grt, if_neg (by omega)]
    by_cases h2 : v < 100
    · rw [if_pos h2]
      simp only
      rw [grt_t t ht, List.countP_cons_of_pos (by simpa using h2)]
      refine Prod.ext ?_ ?_
      · simp only
        split <;> split <;> omega
      · simp only
        omega
    · rw [if_neg h2, grt_t t ht, List.countP_cons_of_neg (by simpa using h2)]
/-- the most nodes of a tour -/
def gmx : List (List Int) → Nat
  | [] => 0
  | t :: ts => max (t.countP (fun v => decide (v < 100))) (gmx ts)
theorem grt_fla : ∀ (ts : List (List Int)), (∀ t ∈ ts, okT t) → ∀ (m : Nat), grt (fla ts) (m, 0) = (max m (gmx ts), 0)
  | [], _, m => by simp [fla_nil, grt, gmx]
  | t :: ts, h, m => by
    rw [fla_cons, List.append_assoc, grt_app, grt_t t (h t List.mem_cons_self), grt_app, grt, grt, if_pos rfl]
    simp only
    rw [grt_fla ts (fun t ht => h t (List.mem_cons_of_mem _ ht)), gmx]
    refine Prod.ext ?_ rfl
    simp only
    split <;> omega
theorem greatest_at {f : pm_H} {a r u : Nat} {row : Nat → Int} {ts : List (List Int)} {k : pm_P} (h : fo_at f a r row u) (hu : u ≤ 48) (ht : fo_ts row u ts) (hk : k (some (.inl ((gmx ts : Nat) : Int))) f) : pm_ex T_X0_greatest [.inr (.inl (some a))] f k := by
  refine in_X0_greatest ?_
  refine pm_go_on [6] 60 ?_
  set_option maxRecDepth 100000 in simp (maxSteps := 2000000) only [pm_x_run, pm_x_rt, pm_x_rf, pm_z_S, pm_z_D, pm_z_cut0, pm_z_cut1, pm_z_cli, pm_z_clr, pm_z_cln, pm_z_cll, pm_z_up, pm_x_aload0, pm_x_c, pm_x_c2, pm_x_cn0, pm_x_cn1, pm_x_getf, pm_x_gf, pm_x_goto, pm_x_gv, pm_x_ia, pm_x_iald, pm_x_icmp_ge, pm_x_icmp_ne, pm_x_iinc2, pm_x_iinc3, pm_x_iload1, pm_x_iload2, pm_x_iload3, pm_x_invs, pm_x_istore1, pm_x_istore2, pm_x_istore3, pm_z_bipush, pm_z_cat0, pm_z_cati, pm_z_catl, pm_z_catr, pm_z_iconst, pm_z_pop0, pm_z_pop1, pm_z_rcv0, Bool.cond_true, Bool.cond_false, Bool.or_false, Bool.false_or, Bool.true_or, Bool.or_true, true_and, and_true, if_true, if_false, List.length_cons, List.length_nil, List.getElem?_cons_zero, List.getElem?_cons_succ, List.set_cons_zero, List.set_cons_succ, Option.toList_some, Option.toList_none, List.cons_append, List.nil_append, beq_self_eq_true, Option.isSome_some, Option.isSome_none, pm_tg_lit, ite_true, ite_false, Nat.reduceAdd, Nat.reduceBEq, Nat.reduceLT, Nat.reduceLeDiff, Nat.reduceEqDiff, Int.reduceAdd, Int.reduceSub, Int.reduceLE, Int.reduceLT, Int.reduceEq, Int.reduceToNat, Int.reduceNeg, Int.cast_ofNat_Int, Int.reduceNatCast, Int.reduceNatCast', Int.zero_add, Int.add_zero, Nat.zero_add, Nat.add_zero, and_self, decide_true, decide_false, zX0_greatest_B, zX0_greatest_F, zX0_greatest_R, zX0_greatest_X, zX0_greatest_C39, pm_z_ireti (zX0_greatest_R), fX0_15, fX0_11, dX0_greatest_0, dX0_greatest_1, dX0_greatest_2, dX0_greatest_3, dX0_greatest_4, dX0_greatest_5, dX0_greatest_6, dX0_greatest_7, dX0_greatest_8, dX0_greatest_11, dX0_greatest_14, dX0_greatest_15, dX0_greatest_18, dX0_greatest_19, dX0_greatest_20, dX0_greatest_21, dX0_greatest_24, dX0_greatest_25, dX0_greatest_26, dX0_greatest_29, dX0_greatest_30, dX0_greatest_33, dX0_greatest_34, dX0_greatest_35, dX0_greatest_37, dX0_greatest_40, dX0_greatest_43, dX0_greatest_44, dX0_greatest_45, dX0_greatest_48, dX0_greatest_49, dX0_greatest_52, dX0_greatest_55, dX0_greatest_56, h.1, h.2]
  refine greatest_loop h hu ?_ u 0 (by omega)
  rw [ht.1, grt_fla ts ht.2]
  simp only
  rw [Nat.zero_max]
  exact hk
