/-- t is one of the tours of a row: what is ahead ends with a stop, a stop follows -/
def fo_seg (row : Nat → Int) (u : Nat) (A t B : List Int) : Prop := fl row u = A ++ t ++ (-1) :: B ∧ (A = [] ∨ ∃ A', A = A' ++ [-1]) ∧ (-1 : Int) ∉ t
theorem seg_len {row : Nat → Int} {u : Nat} {A t B : List Int} (h : fo_seg row u A t B) : u = A.length + t.length + 1 + B.length := by
  have := fl_u h.1
  simp only [List.length_append, List.length_cons] at this
  omega
theorem seg_get {row : Nat → Int} {u : Nat} {A t1 t2 B : List Int} {x : Int} (h : fo_seg row u A (t1 ++ x :: t2) B) : row (A.length + t1.length) = x := by
  have h1 : fl row u = (A ++ t1) ++ x :: (t2 ++ (-1) :: B) := by rw [h.1]; simp
  have := fl_get h1
  simpa using this
theorem seg_in {row : Nat → Int} {u : Nat} {A t B : List Int} (h : fo_seg row u A t B) {j : Nat} (h1 : A.length ≤ j) (h2 : j < A.length + t.length) : row j ∈ t := fl_mem h.1 h1 h2
theorem seg_stop {row : Nat → Int} {u : Nat} {A t B : List Int} (h : fo_seg row u A t B) : row (A.length + t.length) = -1 := by
  have h1 : fl row u = (A ++ t) ++ (-1) :: B := h.1
  have := fl_get h1
  simpa using this
theorem seg_pre {row : Nat → Int} {u : Nat} {A t B : List Int} (h : fo_seg row u A t B) : A.length = 0 ∨ row (A.length - 1) = -1 := by
  rcases h.2.1 with rfl | ⟨A', rfl⟩
  · exact Or.inl rfl
  · right
    have h1 : fl row u = A' ++ (-1) :: (t ++ (-1) :: B) := by rw [h.1]; simp
    have := fl_get h1
    simpa using this
theorem beginOf_seg {f : pm_H} {a r u : Nat} {row : Nat → Int} {A t B : List Int} {k : pm_P} (h : fo_at f a r row u) (hu : u ≤ 48) (hs : fo_seg row u A t B) (i : Nat) (hi : i ≤ t.length) (hk : k (some (.inl (A.length : Int))) f) : pm_ex T_X0_beginOf [.inr (.inl (some a)), .inl ((A.length + i : Nat) : Int)] f k := by
  have := seg_len hs
  exact beginOf_at h (A.length + i) A.length (by omega) (by omega) (fun j h1 h2 e => hs.2.2 (e ▸ seg_in hs h1 (by omega))) (seg_pre hs) hk
theorem endOf_seg {f : pm_H} {a r u : Nat} {row : Nat → Int} {A t B : List Int} {k : pm_P} (h : fo_at f a r row u) (hu : u ≤ 48) (hs : fo_seg row u A t B) (i : Nat) (hi : i ≤ t.length) (hk : k (some (.inl ((A.length + t.length : Nat) : Int))) f) : pm_ex T_X0_endOf [.inr (.inl (some a)), .inl ((A.length + i : Nat) : Int)] f k := by
  have := seg_len hs
  exact endOf_at h hu (A.length + i) (A.length + t.length) (by omega) (by omega) (fun j h1 h2 e => hs.2.2 (e ▸ seg_in hs (by omega) h2)) (Or.inr (seg_stop hs)) hk
theorem fl_pre {row : Nat → Int} {u : Nat} {A B : List Int} (h : fl row u = A ++ B) {j : Nat} (hj : j < A.length) : row j ∈ A := by
  have h1 : fl row u = [] ++ A ++ B := by simpa using h
  exact fl_mem h1 (by simp) (by simpa using hj)
theorem placeOf_seg {f : pm_H} {a r u : Nat} {row : Nat → Int} {A t1 t2 B : List Int} {x : Int} {k : pm_P} (h : fo_at f a r row u) (hu : u ≤ 48) (hs : fo_seg row u A (t1 ++ x :: t2) B) (h1 : x ∉ A) (h2 : x ∉ t1) (hk : k (some (.inl ((A.length + t1.length : Nat) : Int))) f) : pm_ex T_X0_placeOf [.inr (.inl (some a)), .inl x, .inl 0] f k := by
  have hl := seg_len hs
  simp only [List.length_append, List.length_cons] at hl
  refine placeOf_at (fr := 0) h hu (A.length + t1.length) (by omega) (by omega) (seg_get hs) (fun j _ hj e => ?_) hk
  have h3 : fl row u = (A ++ t1) ++ (x :: t2 ++ (-1) :: B) := by rw [hs.1]; simp
  have h4 := fl_pre h3 (j := j) (by simpa using hj)
  rw [e] at h4
  rcases List.mem_append.mp h4 with h5 | h5
  · exact h1 h5
  · exact h2 h5
theorem nd_iff {row : Nat → Int} {lo : Nat} {n : Nat} : ∀ {c : Nat}, nd row lo c n = true ↔ (n : Int) ∈ sl row lo c
  | 0 => by simp [nd, sl]
  | c + 1 => by
    rw [sl_s, List.mem_append, ← nd_iff (c := c)]
    simp only [nd, Bool.or_eq_true, decide_eq_true_eq, List.mem_singleton]
    exact or_congr Iff.rfl eq_comm
/-- the nodes of a tour -/
def tn (t : List Int) (n : Nat) : Bool := decide ((n : Int) ∈ t)
theorem nd_tn {row : Nat → Int} {u : Nat} {A t B : List Int} (h : fl row u = A ++ t ++ B) : bs (nd row A.length t.length) 16 = bs (tn t) 16 := by
  apply bs_ext
  intro i _
  have := nd_iff (row := row) (lo := A.length) (n := i) (c := t.length)
  rw [fl_sl h] at this
  unfold tn
  cases hb : nd row A.length t.length i
  · rw [hb] at this
    exact (decide_eq_false (fun q => by have := this.mpr q; cases this)).symm
  · exact (decide_eq_true (this.mp hb)).symm
/-- what a tour holds: nodes and brackets -/
def okT (t : List Int) : Prop := ∀ v ∈ t, (0 ≤ v ∧ v < 16) ∨ (100 ≤ v ∧ v < 160)
theorem okT_stop {t : List Int} (h : okT t) : (-1 : Int) ∉ t := fun q => by rcases h _ q with h | h <;> omega
theorem nodesIn_seg {f : pm_H} {a r u : Nat} {row : Nat → Int} {A t B : List Int} {k : pm_P} (h : fo_at f a r row u) (hu : u ≤ 48) (hs : fl row u = A ++ t ++ B) (ht : okT t) (lo hi : Nat) (hlo : lo = A.length) (hhi : hi = A.length + t.length) (hk : k (some (.inl ((bs (tn t) 16 : Nat) : Int))) f) : pm_ex T_X0_nodesIn [.inr (.inl (some a)), .inl (lo : Int), .inl (hi : Int)] f k := by
  subst hlo
  subst hhi
  have hl := fl_u hs
  simp only [List.length_append] at hl
  refine nodesIn_at h hu A.length (A.length + t.length) (by omega) (by omega) (fun j h1 h2 => ?_) ?_
  · rcases ht _ (fl_mem hs h1 h2) with h | h
    · exact Or.inl h
    · exact Or.inr h.1
  · rw [show A.length + t.length - A.length = t.length by omega, nd_tn hs]
    exact hk
theorem partOf_seg {f : pm_H} {a r u : Nat} {row : Nat → Int} {A t1 t2 B : List Int} {x : Int} {k : pm_P} (h : fo_at f a r row u) (hu : u ≤ 48) (hs : fo_seg row u A (t1 ++ x :: t2) B) (h1 : x ∉ A) (h2 : x ∉ t1) (ht : okT (t1 ++ x :: t2)) (hk : k (some (.inl ((bs (tn (t1 ++ x :: t2)) 16 : Nat) : Int))) f) : pm_ex T_X0_partOf [.inr (.inl (some a)), .inl x] f k := by
  have hl := seg_len hs
  refine in_X0_partOf ?_
  refine pm_go_on [] 60 ?_
  set_option maxRecDepth 100000 in simp (maxSteps := 2000000) only [pm_x_run, pm_x_rt, pm_x_rf, pm_z_S, pm_z_D, pm_z_cut0, pm_z_cut1, pm_z_cli, pm_z_clr, pm_z_cln, pm_z_cll, pm_z_up, pm_x_aload0, pm_x_c, pm_x_c2, pm_x_cn0, pm_x_cn1, pm_x_goto, pm_x_icmp_ne, pm_x_iload1, pm_x_iload2, pm_x_invv, pm_x_istore2, pm_x_v0, pm_x_v1, pm_x_x2, pm_z_cat0, pm_z_cati, pm_z_catl, pm_z_catr, pm_z_iconst, pm_z_pop0, pm_z_pop1, Bool.cond_true, Bool.cond_false, Bool.or_false, Bool.false_or, Bool.true_or, Bool.or_true, true_and, and_true, if_true, if_false, List.length_cons, List.length_nil, List.getElem?_cons_zero, List.getElem?_cons_succ, List.set_cons_zero, List.set_cons_succ, Option.toList_some, Option.toList_none, List.cons_append, List.nil_append, beq_self_eq_true, Option.isSome_some, Option.isSome_none, pm_tg_lit, ite_true, ite_false, Nat.reduceAdd, Nat.reduceBEq, Nat.reduceLT, Nat.reduceLeDiff, Nat.reduceEqDiff, Int.reduceAdd, Int.reduceSub, Int.reduceLE, Int.reduceLT, Int.reduceEq, Int.reduceToNat, Int.reduceNeg, Int.cast_ofNat_Int, Int.reduceNatCast, Int.reduceNatCast', Int.zero_add, Int.add_zero, Nat.zero_add, Nat.add_zero, and_self, decide_true, decide_false, zX0_partOf_B, zX0_partOf_F, zX0_partOf_R, zX0_partOf_X, zX0_partOf_C25, zX0_partOf_C29, zX0_partOf_C33, zX0_partOf_C36, pm_z_ireti (zX0_partOf_R), dX0_partOf_0, dX0_partOf_1, dX0_partOf_2, dX0_partOf_3, dX0_partOf_6, dX0_partOf_7, dX0_partOf_8, dX0_partOf_9, dX0_partOf_12, dX0_partOf_13, dX0_partOf_16, dX0_partOf_17, dX0_partOf_18, dX0_partOf_19, dX0_partOf_22, dX0_partOf_23, dX0_partOf_24, dX0_partOf_27, dX0_partOf_30, h.1, h.2, pm_z_rcv1 h.1]
  refine placeOf_seg h hu hs h1 h2 ?_
  set_option maxRecDepth 100000 in simp (maxSteps := 2000000) only [pm_x_run, pm_x_rt, pm_x_rf, pm_z_S, pm_z_D, pm_z_cut0, pm_z_cut1, pm_z_cli, pm_z_clr, pm_z_cln, pm_z_cll, pm_z_up, pm_x_aload0, pm_x_c, pm_x_c2, pm_x_cn0, pm_x_cn1, pm_x_goto, pm_x_icmp_ne, pm_x_iload1, pm_x_iload2, pm_x_invv, pm_x_istore2, pm_x_v0, pm_x_v1, pm_x_x2, pm_z_cat0, pm_z_cati, pm_z_catl, pm_z_catr, pm_z_iconst, pm_z_pop0, pm_z_pop1, Bool.cond_true, Bool.cond_false, Bool.or_false, Bool.false_or, Bool.true_or, Bool.or_true, true_and, and_true, if_true, if_false, List.length_cons, List.length_nil, List.getElem?_cons_zero, List.getElem?_cons_succ, List.set_cons_zero, List.set_cons_succ, Option.toList_some, Option.toList_none, List.cons_append, List.nil_append, beq_self_eq_true, Option.isSome_some, Option.isSome_none, pm_tg_lit, ite_true, ite_false, Nat.reduceAdd, Nat.reduceBEq, Nat.reduceLT, Nat.reduceLeDiff, Nat.reduceEqDiff, Int.reduceAdd, Int.reduceSub, Int.reduceLE, Int.reduceLT, Int.reduceEq, Int.reduceToNat, Int.reduceNeg, Int.cast_ofNat_Int, Int.reduceNatCast, Int.reduceNatCast', Int.zero_add, Int.add_zero, Nat.zero_add, Nat.add_zero, and_self, decide_true, decide_false, zX0_partOf_B, zX0_partOf_F, zX0_partOf_R, zX0_partOf_X, zX0_partOf_C25, zX0_partOf_C29, zX0_partOf_C33, zX0_partOf_C36, pm_z_ireti (zX0_partOf_R), dX0_partOf_0, dX0_partOf_1, dX0_partOf_2, dX0_partOf_3, dX0_partOf_6, dX0_partOf_7, dX0_partOf_8, dX0_partOf_9, dX0_partOf_12, dX0_partOf_13, dX0_partOf_16, dX0_partOf_17, dX0_partOf_18, dX0_partOf_19, dX0_partOf_22, dX0_partOf_23, dX0_partOf_24, dX0_partOf_27, dX0_partOf_30, h.1, h.2, pm_z_rcv1 h.1]
  rw [if_neg (by omega)]
  refine beginOf_seg h hu hs t1.length (by simp) ?_
  set_option maxRecDepth 100000 in simp (maxSteps := 2000000) only [pm_x_run, pm_x_rt, pm_x_rf, pm_z_S, pm_z_D, pm_z_cut0, pm_z_cut1, pm_z_cli, pm_z_clr, pm_z_cln, pm_z_cll, pm_z_up, pm_x_aload0, pm_x_c, pm_x_c2, pm_x_cn0, pm_x_cn1, pm_x_goto, pm_x_icmp_ne, pm_x_iload1, pm_x_iload2, pm_x_invv, pm_x_istore2, pm_x_v0, pm_x_v1, pm_x_x2, pm_z_cat0, pm_z_cati, pm_z_catl, pm_z_catr, pm_z_iconst, pm_z_pop0, pm_z_pop1, Bool.cond_true, Bool.cond_false, Bool.or_false, Bool.false_or, Bool.true_or, Bool.or_true, true_and, and_true, if_true, if_false, List.length_cons, List.length_nil, List.getElem?_cons_zero, List.getElem?_cons_succ, List.set_cons_zero, List.set_cons_succ, Option.toList_some, Option.toList_none, List.cons_append, List.nil_append, beq_self_eq_true, Option.isSome_some, Option.isSome_none, pm_tg_lit, ite_true, ite_false, Nat.reduceAdd, Nat.reduceBEq, Nat.reduceLT, Nat.reduceLeDiff, Nat.reduceEqDiff, Int.reduceAdd, Int.reduceSub, Int.reduceLE, Int.reduceLT, Int.reduceEq, Int.reduceToNat, Int.reduceNeg, Int.cast_ofNat_Int, Int.reduceNatCast, Int.reduceNatCast', Int.zero_add, Int.add_zero, Nat.zero_add, Nat.add_zero, and_self, decide_true, decide_false, zX0_partOf_B, zX0_partOf_F, zX0_partOf_R, zX0_partOf_X, zX0_partOf_C25, zX0_partOf_C29, zX0_partOf_C33, zX0_partOf_C36, pm_z_ireti (zX0_partOf_R), dX0_partOf_0, dX0_partOf_1, dX0_partOf_2, dX0_partOf_3, dX0_partOf_6, dX0_partOf_7, dX0_partOf_8, dX0_partOf_9, dX0_partOf_12, dX0_partOf_13, dX0_partOf_16, dX0_partOf_17, dX0_partOf_18, dX0_partOf_19, dX0_partOf_22, dX0_partOf_23, dX0_partOf_24, dX0_partOf_27, dX0_partOf_30, h.1, h.2, pm_z_rcv1 h.1]
  refine endOf_seg h hu hs t1.length (by simp) ?_
  set_option maxRecDepth 100000 in simp (maxSteps := 2000000) only [pm_x_run, pm_x_rt, pm_x_rf, pm_z_S, pm_z_D, pm_z_cut0, pm_z_cut1, pm_z_cli, pm_z_clr, pm_z_cln, pm_z_cll, pm_z_up, pm_x_aload0, pm_x_c, pm_x_c2, pm_x_cn0, pm_x_cn1, pm_x_goto, pm_x_icmp_ne, pm_x_iload1, pm_x_iload2, pm_x_invv, pm_x_istore2, pm_x_v0, pm_x_v1, pm_x_x2, pm_z_cat0, pm_z_cati, pm_z_catl, pm_z_catr, pm_z_iconst, pm_z_pop0, pm_z_pop1, Bool.cond_true, Bool.cond_false, Bool.or_false, Bool.false_or, Bool.true_or, Bool.or_true, true_and, and_true, if_true, if_false, List.length_cons, List.length_nil, List.getElem?_cons_zero, List.getElem?_cons_succ, List.set_cons_zero, List.set_cons_succ, Option.toList_some, Option.toList_none, List.cons_append, List.nil_append, beq_self_eq_true, Option.isSome_some, Option.isSome_none, pm_tg_lit, ite_true, ite_false, Nat.reduceAdd, Nat.reduceBEq, Nat.reduceLT, Nat.reduceLeDiff, Nat.reduceEqDiff, Int.reduceAdd, Int.reduceSub, Int.reduceLE, Int.reduceLT, Int.reduceEq, Int.reduceToNat, Int.reduceNeg, Int.cast_ofNat_Int, Int.reduceNatCast, Int.reduceNatCast', Int.zero_add, Int.add_zero, Nat.zero_add, Nat.add_zero, and_self, decide_true, decide_false, zX0_partOf_B, zX0_partOf_F, zX0_partOf_R, zX0_partOf_X, zX0_partOf_C25, zX0_partOf_C29, zX0_partOf_C33, zX0_partOf_C36, pm_z_ireti (zX0_partOf_R), dX0_partOf_0, dX0_partOf_1, dX0_partOf_2, dX0_partOf_3, dX0_partOf_6, dX0_partOf_7, dX0_partOf_8, dX0_partOf_9, dX0_partOf_12, dX0_partOf_13, dX0_partOf_16, dX0_partOf_17, dX0_partOf_18, dX0_partOf_19, dX0_partOf_22, dX0_partOf_23, dX0_partOf_24, dX0_partOf_27, dX0_partOf_30, h.1, h.2, pm_z_rcv1 h.1]
  refine nodesIn_seg h hu hs.1 ht _ _ rfl rfl ?_
  set_option maxRecDepth 100000 in simp (maxSteps := 2000000) only [pm_x_run, pm_x_rt, pm_x_rf, pm_z_S, pm_z_D, pm_z_cut0, pm_z_cut1, pm_z_cli, pm_z_clr, pm_z_cln, pm_z_cll, pm_z_up, pm_x_aload0, pm_x_c, pm_x_c2, pm_x_cn0, pm_x_cn1, pm_x_goto, pm_x_icmp_ne, pm_x_iload1, pm_x_iload2, pm_x_invv, pm_x_istore2, pm_x_v0, pm_x_v1, pm_x_x2, pm_z_cat0, pm_z_cati, pm_z_catl, pm_z_catr, pm_z_iconst, pm_z_pop0, pm_z_pop1, Bool.cond_true, Bool.cond_false, Bool.or_false, Bool.false_or, Bool.true_or, Bool.or_true, true_and, and_true, if_true, if_false, List.length_cons, List.length_nil, List.getElem?_cons_zero, List.getElem?_cons_succ, List.set_cons_zero, List.set_cons_succ, Option.toList_some, Option.toList_none, List.cons_append, List.nil_append, beq_self_eq_true, Option.isSome_some, Option.isSome_none, pm_tg_lit, ite_true, ite_false, Nat.reduceAdd, Nat.reduceBEq, Nat.reduceLT, Nat.reduceLeDiff, Nat.reduceEqDiff, Int.reduceAdd, Int.reduceSub, Int.reduceLE, Int.reduceLT, Int.reduceEq, Int.reduceToNat, Int.reduceNeg, Int.cast_ofNat_Int, Int.reduceNatCast, Int.reduceNatCast', Int.zero_add, Int.add_zero, Nat.zero_add, Nat.add_zero, and_self, decide_true, decide_false, zX0_partOf_B, zX0_partOf_F, zX0_partOf_R, zX0_partOf_X, zX0_partOf_C25, zX0_partOf_C29, zX0_partOf_C33, zX0_partOf_C36, pm_z_ireti (zX0_partOf_R), dX0_partOf_0, dX0_partOf_1, dX0_partOf_2, dX0_partOf_3, dX0_partOf_6, dX0_partOf_7, dX0_partOf_8, dX0_partOf_9, dX0_partOf_12, dX0_partOf_13, dX0_partOf_16, dX0_partOf_17, dX0_partOf_18, dX0_partOf_19, dX0_partOf_22, dX0_partOf_23, dX0_partOf_24, dX0_partOf_27, dX0_partOf_30, h.1, h.2, pm_z_rcv1 h.1]
  exact hk
