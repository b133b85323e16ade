theorem pm_upi {f : pm_H} {a q : Nat} {c : pm_C} : pm_up f a c q = if q = a then some c else f q := rfl
/-- a Net at a: its object, nine int rows, the row of its five forests, and these; 21 cells side by side.
A 0..8: firsts seconds costs levels kinds rises names rows room; S 0..6: nodes height laid risen looked logged eldest -/
def cn_obj (a : Nat) (S : Nat → Int) : pm_C := .inr (.inr (.inr (1, [.inr (.inl (some (a + 1))), .inr (.inl (some (a + 2))), .inr (.inl (some (a + 3))), .inr (.inl (some (a + 4))), .inr (.inl (some (a + 5))), .inr (.inl (some (a + 6))), .inr (.inl (some (a + 7))), .inr (.inl (some (a + 8))), .inr (.inl (some (a + 9))), .inr (.inl (some (a + 10))), .inl (S 0), .inl (S 1), .inl (S 2), .inl (S 3), .inl (S 4), .inl (S 5), .inl (S 6)])))
def cn_len (j : Nat) : Nat := if j < 6 then 60 else if j = 6 then 16 else if j = 7 then 120 else 48
def cn_fr (a : Nat) : Nat → Option Nat := fun i => if i < 5 then some (a + 11 + 2 * i) else none
def cn_at (f : pm_H) (a : Nat) (A : Nat → Nat → Int) (R : Nat → Nat → Int) (U : Nat → Nat) (S : Nat → Int) : Prop :=
  f a = some (cn_obj a S) ∧ (∀ j, j < 9 → f (a + 1 + j) = some (.inl (cn_len j, A j))) ∧ f (a + 10) = some (.inr (.inl (0, 5, cn_fr a))) ∧ ∀ i, i < 5 → fo_at f (a + 11 + 2 * i) (a + 12 + 2 * i) (R i) (U i)
section CN
variable {f : pm_H} {a : Nat} {A R : Nat → Nat → Int} {U : Nat → Nat} {S : Nat → Int}
theorem cn0 (h : cn_at f a A R U S) : f a = some (.inr (.inr (.inr (1, [.inr (.inl (some (a + 1))), .inr (.inl (some (a + 2))), .inr (.inl (some (a + 3))), .inr (.inl (some (a + 4))), .inr (.inl (some (a + 5))), .inr (.inl (some (a + 6))), .inr (.inl (some (a + 7))), .inr (.inl (some (a + 8))), .inr (.inl (some (a + 9))), .inr (.inl (some (a + 10))), .inl (S 0), .inl (S 1), .inl (S 2), .inl (S 3), .inl (S 4), .inl (S 5), .inl (S 6)])))) := h.1
theorem cn1 (h : cn_at f a A R U S) : f (a + 1) = some (.inl (60, A 0)) := h.2.1 0 (by omega)
theorem cn2 (h : cn_at f a A R U S) : f (a + 2) = some (.inl (60, A 1)) := h.2.1 1 (by omega)
theorem cn3 (h : cn_at f a A R U S) : f (a + 3) = some (.inl (60, A 2)) := h.2.1 2 (by omega)
theorem cn4 (h : cn_at f a A R U S) : f (a + 4) = some (.inl (60, A 3)) := h.2.1 3 (by omega)
theorem cn5 (h : cn_at f a A R U S) : f (a + 5) = some (.inl (60, A 4)) := h.2.1 4 (by omega)
theorem cn6 (h : cn_at f a A R U S) : f (a + 6) = some (.inl (60, A 5)) := h.2.1 5 (by omega)
theorem cn7 (h : cn_at f a A R U S) : f (a + 7) = some (.inl (16, A 6)) := h.2.1 6 (by omega)
theorem cn8 (h : cn_at f a A R U S) : f (a + 8) = some (.inl (120, A 7)) := h.2.1 7 (by omega)
theorem cn9 (h : cn_at f a A R U S) : f (a + 9) = some (.inl (48, A 8)) := h.2.1 8 (by omega)
theorem cn10 (h : cn_at f a A R U S) : f (a + 10) = some (.inr (.inl (0, 5, cn_fr a))) := h.2.2.1
theorem cn_fr_lt {i : Nat} (h : i < 5) : cn_fr a i = some (a + 11 + 2 * i) := if_pos h
/-- nothing but this Net's cells has changed -/
def cfr (a : Nat) (f f' : pm_H) : Prop := ∀ q, (q < a ∨ a + 21 ≤ q) → f' q = f q
theorem cfr_rf : cfr a f f := fun _ _ => rfl
theorem cfr_tr {f' f'' : pm_H} (h : cfr a f f') (h2 : cfr a f' f'') : cfr a f f'' := fun q hq => (h2 q hq).trans (h q hq)
theorem cfr_up {b : Nat} {c : pm_C} (h1 : a ≤ b) (h2 : b < a + 21) : cfr a f (pm_up f b c) := fun q hq => up_ne (by omega)
def stA (A : Nat → Nat → Int) (j : Nat) (g : Nat → Int) : Nat → Nat → Int := fun i => if i = j then g else A i
def stS (S : Nat → Int) (j : Nat) (x : Int) : Nat → Int := fun i => if i = j then x else S i
def stU (U : Nat → Nat) (j : Nat) (x : Nat) : Nat → Nat := fun i => if i = j then x else U i
theorem fo_keep {f' : pm_H} {b r u : Nat} {row : Nat → Int} (h : fo_at f b r row u) (h1 : f' b = f b) (h2 : f' r = f r) : fo_at f' b r row u := ⟨h1.trans h.1, h2.trans h.2⟩
theorem cn_arr (h : cn_at f a A R U S) {j : Nat} (hj : j < 9) (g : Nat → Int) {n : Nat} (hn : n = cn_len j) : cn_at (pm_up f (a + 1 + j) (.inl (n, g))) a (stA A j g) R U S := by
  subst hn
  refine ⟨?_, fun i hi => ?_, ?_, fun i hi => ?_⟩
  · rw [up_ne (by omega)]; exact h.1
  · by_cases e : i = j
    · subst e
      rw [up_eq]
      simp [stA]
    · rw [up_ne (by omega), h.2.1 i hi]
      simp [stA, e]
  · rw [up_ne (by omega)]; exact h.2.2.1
  · exact fo_keep (h.2.2.2 i hi) (up_ne (by omega)) (up_ne (by omega))
theorem cn_put (h : cn_at f a A R U S) (S' : Nat → Int) : cn_at (pm_up f a (cn_obj a S')) a A R U S' := by
  refine ⟨up_eq, fun i hi => ?_, ?_, fun i hi => ?_⟩
  · rw [up_ne (by omega)]; exact h.2.1 i hi
  · rw [up_ne (by omega)]; exact h.2.2.1
  · exact fo_keep (h.2.2.2 i hi) (up_ne (by omega)) (up_ne (by omega))
/-- a forest changed by way of the room -/
theorem cn_new (h : cn_at f a A R U S) {i : Nat} (hi : i < 5) (g row : Nat → Int) (m : Nat) : cn_at (fo_new f (a + 11 + 2 * i) (a + 12 + 2 * i) (a + 9) g row m) a (stA A 8 g) (stA R i row) (stU U i m) S := by
  refine ⟨?_, fun j hj => ?_, ?_, fun j hj => ?_⟩
  · rw [fo_new_q (by omega) (by omega) (by omega)]; exact h.1
  · by_cases e : j = 8
    · subst e
      rw [show a + 1 + 8 = a + 9 by omega, fo_new_b (by omega) (by omega)]
      simp [stA, cn_len]
    · rw [fo_new_q (by omega) (by omega) (by omega), h.2.1 j hj]
      simp [stA, e]
  · rw [fo_new_q (by omega) (by omega) (by omega)]; exact h.2.2.1
  · by_cases e : j = i
    · subst e
      have := fo_new_at (f := f) (b := a + 9) (g := g) (row := row) (m := m) (show a + 11 + 2 * j ≠ a + 12 + 2 * j by omega)
      simpa [stA, stU] using this
    · have := fo_keep (h.2.2.2 j hj) (fo_new_q (f := f) (a := a + 11 + 2 * i) (r := a + 12 + 2 * i) (b := a + 9) (g := g) (row := row) (m := m) (show a + 11 + 2 * j ≠ a + 11 + 2 * i by omega) (by omega) (by omega)) (fo_new_q (f := f) (a := a + 11 + 2 * i) (r := a + 12 + 2 * i) (b := a + 9) (g := g) (row := row) (m := m) (show a + 12 + 2 * j ≠ a + 11 + 2 * i by omega) (by omega) (by omega))
      simpa [stA, stU, e] using this
theorem cn_set (h : cn_at f a A R U S) {i : Nat} (hi : i < 5) (row : Nat → Int) (m : Nat) : cn_at (fo_set f (a + 11 + 2 * i) (a + 12 + 2 * i) row m) a A (stA R i row) (stU U i m) S := by
  refine ⟨?_, fun j hj => ?_, ?_, fun j hj => ?_⟩
  · rw [fo_set_q (by omega) (by omega)]; exact h.1
  · rw [fo_set_q (by omega) (by omega)]; exact h.2.1 j hj
  · rw [fo_set_q (by omega) (by omega)]; exact h.2.2.1
  · by_cases e : j = i
    · subst e
      have := fo_set_at (f := f) (row := row) (m := m) (show a + 11 + 2 * j ≠ a + 12 + 2 * j by omega)
      simpa [stA, stU] using this
    · have := fo_keep (h.2.2.2 j hj) (fo_set_q (f := f) (a := a + 11 + 2 * i) (r := a + 12 + 2 * i) (row := row) (m := m) (show a + 11 + 2 * j ≠ a + 11 + 2 * i by omega) (by omega)) (fo_set_q (f := f) (a := a + 11 + 2 * i) (r := a + 12 + 2 * i) (row := row) (m := m) (show a + 12 + 2 * j ≠ a + 11 + 2 * i by omega) (by omega))
      simpa [stA, stU, e] using this
theorem cfr_new {i : Nat} (hi : i < 5) {g row : Nat → Int} {m : Nat} : cfr a f (fo_new f (a + 11 + 2 * i) (a + 12 + 2 * i) (a + 9) g row m) := fun q hq => fo_new_q (by omega) (by omega) (by omega)
theorem cfr_set {i : Nat} (hi : i < 5) {row : Nat → Int} {m : Nat} : cfr a f (fo_set f (a + 11 + 2 * i) (a + 12 + 2 * i) row m) := fun q hq => fo_set_q (by omega) (by omega)
theorem isNode_sp {k : pm_P} {x : Int} (h : cn_at f a A R U S) (hk : k (some (.inl (b2 (decide (0 ≤ x ∧ x < S 0))))) f) : pm_ex T_X1_isNode [.inr (.inl (some a)), .inl x] f k := by
  refine in_X1_isNode ?_
  refine pm_go_on [] 60 ?_
  set_option maxRecDepth 100000 in simp (maxSteps := 2000000) only [pm_x_run, pm_x_rt, pm_x_rf, pm_z_S, pm_z_D, pm_z_cut0, pm_z_cut1, pm_z_cli, pm_z_clr, pm_z_cln, pm_z_cll, pm_z_up, pm_x_aload0, pm_x_getf, pm_x_gf, pm_x_goto, pm_x_gv, pm_x_icmp_ge, pm_x_if_lt, pm_x_iload1, pm_z_iconst, Bool.cond_true, Bool.cond_false, Bool.or_false, Bool.false_or, Bool.true_or, Bool.or_true, true_and, and_true, if_true, if_false, List.length_cons, List.length_nil, List.getElem?_cons_zero, List.getElem?_cons_succ, List.set_cons_zero, List.set_cons_succ, Option.toList_some, Option.toList_none, List.cons_append, List.nil_append, beq_self_eq_true, Option.isSome_some, Option.isSome_none, pm_tg_lit, ite_true, ite_false, Nat.reduceAdd, Nat.reduceBEq, Nat.reduceLT, Nat.reduceLeDiff, Nat.reduceEqDiff, Int.reduceAdd, Int.reduceSub, Int.reduceLE, Int.reduceLT, Int.reduceEq, Int.reduceToNat, Int.reduceNeg, Int.cast_ofNat_Int, Int.reduceNatCast, Int.reduceNatCast', Int.zero_add, Int.add_zero, Nat.zero_add, Nat.add_zero, and_self, decide_true, decide_false, zX1_isNode_B, zX1_isNode_F, zX1_isNode_R, zX1_isNode_X, pm_z_iretz (zX1_isNode_R), fX1_45, dX1_isNode_0, dX1_isNode_1, dX1_isNode_4, dX1_isNode_5, dX1_isNode_6, dX1_isNode_9, dX1_isNode_12, dX1_isNode_13, dX1_isNode_16, dX1_isNode_17, cn0 h]
  by_cases h1 : x < 0
  · rw [if_pos h1]
    rw [decide_eq_false (by omega)] at hk
    exact ⟨by decide, hk⟩
  · rw [if_neg h1]
    by_cases h2 : x < S 0
    · rw [if_pos h2]
      rw [decide_eq_true (by omega)] at hk
      exact ⟨by decide, hk⟩
    · rw [if_neg h2]
      rw [decide_eq_false (by omega)] at hk
      exact ⟨by decide, hk⟩
theorem b2T {p : Prop} [Decidable p] (h : p) : b2 (decide p) = 1 := by simp [b2, h]
theorem b2F {p : Prop} [Decidable p] (h : ¬ p) : b2 (decide p) = 0 := by simp [b2, h]
theorem setCost_sp {k : pm_P} {x : Int} {c : Nat} (h : cn_at f a A R U S) (hc : c < 60) (hk : ∀ f', cn_at f' a (stA A 2 (pm_us (A 2) c x)) R U S → cfr a f f' → k (some (.inl (A 2 c))) f') : pm_ex T_X1_setCost [.inr (.inl (some a)), .inl (c : Int), .inl x] f k := by
  refine in_X1_setCost ?_
  refine pm_go_on [] 60 ?_
  set_option maxRecDepth 100000 in simp (maxSteps := 2000000) only [pm_x_run, pm_x_rt, pm_x_rf, pm_z_S, pm_z_D, pm_z_cut0, pm_z_cut1, pm_z_cli, pm_z_clr, pm_z_cln, pm_z_cll, pm_x_aload0, pm_x_getf, pm_x_gf, pm_x_gv, pm_x_ia, pm_x_iald, pm_x_iast, pm_x_iload1, pm_x_iload2, pm_x_iload3, pm_x_is, pm_x_istore3, Bool.cond_true, Bool.cond_false, Bool.or_false, Bool.false_or, Bool.true_or, Bool.or_true, true_and, and_true, if_true, if_false, List.length_cons, List.length_nil, List.getElem?_cons_zero, List.getElem?_cons_succ, List.set_cons_zero, List.set_cons_succ, Option.toList_some, Option.toList_none, List.cons_append, List.nil_append, beq_self_eq_true, Option.isSome_some, Option.isSome_none, pm_tg_lit, ite_true, ite_false, Nat.reduceAdd, Nat.reduceBEq, Nat.reduceLT, Nat.reduceLeDiff, Nat.reduceEqDiff, Int.reduceAdd, Int.reduceSub, Int.reduceLE, Int.reduceLT, Int.reduceEq, Int.reduceToNat, Int.reduceNeg, Int.cast_ofNat_Int, Int.reduceNatCast, Int.reduceNatCast', Int.zero_add, Int.add_zero, Nat.zero_add, Nat.add_zero, and_self, decide_true, decide_false, pm_upi, Nat.left_eq_add, Nat.add_eq_left, Nat.succ_ne_self, reduceCtorEq, Nat.add_left_cancel_iff, Nat.one_ne_zero, Nat.add_assoc, zX1_setCost_B, zX1_setCost_F, zX1_setCost_R, zX1_setCost_X, pm_z_ireti (zX1_setCost_R), fX1_18, dX1_setCost_0, dX1_setCost_1, dX1_setCost_4, dX1_setCost_5, dX1_setCost_6, dX1_setCost_7, dX1_setCost_8, dX1_setCost_11, dX1_setCost_12, dX1_setCost_13, dX1_setCost_14, dX1_setCost_15, cn0 h, cn3 h]
  refine ⟨by omega, by omega, ?_⟩
  rw [Int.toNat_natCast]
  exact hk _ (cn_arr h (j := 2) (by omega) _ rfl) (cfr_up (by omega) (by omega))
/-- the log out of its row that goes round -/
def lgl (g : Nat → Int) (e n : Nat) : List (Int × Int × Int) := (List.range n).map (fun k => (g ((e + k) % 40 * 3), g ((e + k) % 40 * 3 + 1), g ((e + k) % 40 * 3 + 2)))
def lgput (l : List (Int × Int × Int)) (x : Int × Int × Int) : List (Int × Int × Int) := if l.length < 40 then l ++ [x] else l.drop 1 ++ [x]
theorem lgl_len (g : Nat → Int) (e n : Nat) : (lgl g e n).length = n := by simp [lgl]
theorem note_sp {k : pm_P} {c w l : Int} (h : cn_at f a A R U S) (eld lg : Nat) (h6 : S 6 = (eld : Int)) (h5 : S 5 = (lg : Int)) (he : eld < 40) (hl : lg ≤ 40)
    (hk : ∀ (f' : pm_H) (g : Nat → Int) (eld' lg' : Nat), cn_at f' a (stA A 7 g) R U (stS (stS S 5 (lg' : Int)) 6 (eld' : Int)) → cfr a f f' → eld' < 40 → lg' ≤ 40 → lgl g eld' lg' = lgput (lgl (A 7) eld lg) (c, w, l) → k none f') : pm_ex T_X1_note [.inr (.inl (some a)), .inl c, .inl w, .inl l] f k := by
  refine in_X1_note ?_
  refine pm_go_on [] 100 ?_
  set_option maxRecDepth 100000 in simp (maxSteps := 2000000) only [pm_x_run, pm_x_rt, pm_x_rf, pm_z_S, pm_z_D, pm_z_cut0, pm_z_cut1, pm_z_cli, pm_z_clr, pm_z_cln, pm_z_cll, pm_x_aload0, pm_x_fit1, pm_x_fit2, pm_x_getf, pm_x_gf, pm_x_goto, pm_x_gv, pm_x_iast, pm_x_icmp_ge, pm_x_iload1, pm_x_iload2, pm_x_iload3, pm_x_iload4, pm_x_is, pm_x_istore4, pm_x_pf, pm_x_putf, pm_x_pv, pm_z_bipush, pm_z_dup_i, pm_z_dup_r, pm_z_iadd, pm_z_iconst, pm_z_imul, pm_z_irem, pm_z_vret, Bool.cond_true, Bool.cond_false, Bool.or_false, Bool.false_or, Bool.true_or, Bool.or_true, true_and, and_true, if_true, if_false, List.length_cons, List.length_nil, List.getElem?_cons_zero, List.getElem?_cons_succ, List.set_cons_zero, List.set_cons_succ, Option.toList_some, Option.toList_none, List.cons_append, List.nil_append, beq_self_eq_true, Option.isSome_some, Option.isSome_none, pm_tg_lit, ite_true, ite_false, Nat.reduceAdd, Nat.reduceBEq, Nat.reduceLT, Nat.reduceLeDiff, Nat.reduceEqDiff, Int.reduceAdd, Int.reduceSub, Int.reduceLE, Int.reduceLT, Int.reduceEq, Int.reduceToNat, Int.reduceNeg, Int.cast_ofNat_Int, Int.reduceNatCast, Int.reduceNatCast', Int.zero_add, Int.add_zero, Nat.zero_add, Nat.add_zero, and_self, decide_true, decide_false, pm_upi, Nat.left_eq_add, Nat.add_eq_left, Nat.succ_ne_self, reduceCtorEq, Nat.add_left_cancel_iff, Nat.one_ne_zero, Nat.add_assoc, zX1_note_B, zX1_note_F, zX1_note_R, zX1_note_X, fX1_64, fX1_61, fX1_33, dX1_note_0, dX1_note_1, dX1_note_4, dX1_note_5, dX1_note_8, dX1_note_9, dX1_note_11, dX1_note_12, dX1_note_13, dX1_note_14, dX1_note_16, dX1_note_17, dX1_note_20, dX1_note_22, dX1_note_23, dX1_note_24, dX1_note_25, dX1_note_28, dX1_note_30, dX1_note_31, dX1_note_32, dX1_note_33, dX1_note_34, dX1_note_35, dX1_note_38, dX1_note_40, dX1_note_41, dX1_note_42, dX1_note_43, dX1_note_44, dX1_note_45, dX1_note_48, dX1_note_50, dX1_note_53, dX1_note_54, dX1_note_55, dX1_note_58, dX1_note_59, dX1_note_60, dX1_note_63, dX1_note_66, dX1_note_67, dX1_note_68, dX1_note_71, dX1_note_72, dX1_note_73, dX1_note_75, dX1_note_76, dX1_note_79, cn0 h, cn8 h]
  rw [h5, h6]
  obtain ⟨p, hp⟩ : ∃ p : Nat, p = (eld + lg) % 40 := ⟨_, rfl⟩
  have hp40 : p < 40 := by rw [hp]; omega
  have e0 : ((eld : Int) + (lg : Int)) % 40 = (p : Int) := by rw [hp]; omega
  rw [e0]
  refine ⟨by omega, by omega, by omega, by omega, by omega, by omega, by omega, by omega, ?_⟩
  have e1 : ((p : Int) * 3).toNat = p * 3 := by omega
  have e2 : ((p : Int) * 3 + 1).toNat = p * 3 + 1 := by omega
  have e3 : ((p : Int) * 3 + 2).toNat = p * 3 + 2 := by omega
  rw [e1, e2, e3, up_up, up_up]
  have hg1 : ∀ j : Nat, j < 40 → pm_us (pm_us (pm_us (A 7) (p * 3) c) (p * 3 + 1) w) (p * 3 + 2) l (j * 3) = if j = p then c else A 7 (j * 3) := by
    intro j hj
    unfold pm_us
    by_cases e : j = p
    · subst e; rw [if_neg (by omega), if_neg (by omega), if_pos rfl, if_pos rfl]
    · rw [if_neg (by omega), if_neg (by omega), if_neg (by omega), if_neg e]
  have hg2 : ∀ j : Nat, j < 40 → pm_us (pm_us (pm_us (A 7) (p * 3) c) (p * 3 + 1) w) (p * 3 + 2) l (j * 3 + 1) = if j = p then w else A 7 (j * 3 + 1) := by
    intro j hj
    unfold pm_us
    by_cases e : j = p
    · subst e; rw [if_neg (by omega), if_pos rfl, if_pos rfl]
    · rw [if_neg (by omega), if_neg (by omega), if_neg (by omega), if_neg e]
  have hg3 : ∀ j : Nat, j < 40 → pm_us (pm_us (pm_us (A 7) (p * 3) c) (p * 3 + 1) w) (p * 3 + 2) l (j * 3 + 2) = if j = p then l else A 7 (j * 3 + 2) := by
    intro j hj
    unfold pm_us
    by_cases e : j = p
    · subst e; rw [if_pos rfl, if_pos rfl]
    · rw [if_neg (by omega), if_neg (by omega), if_neg (by omega), if_neg e]
  generalize hgg : pm_us (pm_us (pm_us (A 7) (p * 3) c) (p * 3 + 1) w) (p * 3 + 2) l = g at hg1 hg2 hg3 ⊢
  have hA := cn_arr h (j := 7) (by omega) g (n := 120) rfl
  by_cases hlt : lg < 40
  · rw [if_pos (by omega)]
    refine ⟨by omega, ?_⟩
    have hc2 := cn_put hA (stS (stS S 5 ((lg + 1 : Nat) : Int)) 6 (eld : Int))
    have eo : cn_obj a (stS (stS S 5 ((lg + 1 : Nat) : Int)) 6 (eld : Int)) = .inr (.inr (.inr (1, [.inr (.inl (some (a + 1))), .inr (.inl (some (a + 2))), .inr (.inl (some (a + 3))), .inr (.inl (some (a + 4))), .inr (.inl (some (a + 5))), .inr (.inl (some (a + 6))), .inr (.inl (some (a + 7))), .inr (.inl (some (a + 8))), .inr (.inl (some (a + 9))), .inr (.inl (some (a + 10))), .inl (S 0), .inl (S 1), .inl (S 2), .inl (S 3), .inl (S 4), .inl ((lg : Int) + 1), .inl (eld : Int)]))) := rfl
    rw [eo] at hc2
    refine hk _ g eld (lg + 1) hc2 (cfr_tr (cfr_up (by omega) (by omega)) (cfr_up (by omega) (by omega))) he (by omega) ?_
    unfold lgput
    rw [lgl_len, if_pos hlt]
    unfold lgl
    rw [List.range_succ, List.map_append]
    congr 1
    · apply List.map_congr_left
      intro j hj
      have hj' := List.mem_range.mp hj
      have hne : (eld + j) % 40 ≠ p := by rw [hp]; omega
      rw [hg1 _ (by omega), hg2 _ (by omega), hg3 _ (by omega), if_neg hne, if_neg hne, if_neg hne]
    · rw [List.map_singleton, ← hp, hg1 _ hp40, hg2 _ hp40, hg3 _ hp40, if_pos rfl, if_pos rfl, if_pos rfl]
  · rw [if_neg (by omega)]
    refine ⟨by omega, by omega, ?_⟩
    have hlg : lg = 40 := by omega
    have hc2 := cn_put hA (stS (stS S 5 (lg : Int)) 6 (((eld + 1) % 40 : Nat) : Int))
    have eo : cn_obj a (stS (stS S 5 (lg : Int)) 6 (((eld + 1) % 40 : Nat) : Int)) = .inr (.inr (.inr (1, [.inr (.inl (some (a + 1))), .inr (.inl (some (a + 2))), .inr (.inl (some (a + 3))), .inr (.inl (some (a + 4))), .inr (.inl (some (a + 5))), .inr (.inl (some (a + 6))), .inr (.inl (some (a + 7))), .inr (.inl (some (a + 8))), .inr (.inl (some (a + 9))), .inr (.inl (some (a + 10))), .inl (S 0), .inl (S 1), .inl (S 2), .inl (S 3), .inl (S 4), .inl (lg : Int), .inl (((eld : Int) + 1) % 40)]))) := rfl
    rw [eo] at hc2
    refine hk _ g ((eld + 1) % 40) lg hc2 (cfr_tr (cfr_up (by omega) (by omega)) (cfr_up (by omega) (by omega))) (by omega) hl ?_
    unfold lgput
    rw [lgl_len, if_neg hlt]
    subst hlg
    have hpe : p = eld := by rw [hp]; omega
    unfold lgl
    apply List.ext_getElem?
    intro j
    simp only [List.getElem?_map]
    by_cases hj : j < 39
    · rw [List.getElem?_range (by omega), List.getElem?_append_left (by simp; omega), List.getElem?_drop, List.getElem?_map, List.getElem?_range (by omega)]
      simp only [Option.map_some, Option.some.injEq]
      have e4 : ((eld + 1) % 40 + j) % 40 = (eld + (1 + j)) % 40 := by omega
      have hne : (eld + (1 + j)) % 40 ≠ p := by rw [hpe]; omega
      rw [e4, hg1 _ (by omega), hg2 _ (by omega), hg3 _ (by omega), if_neg hne, if_neg hne, if_neg hne]
    · by_cases hj2 : j = 39
      · subst hj2
        rw [List.getElem?_range (by omega), List.getElem?_append_right (by simp)]
        simp only [Option.map_some, List.length_drop, List.length_map, List.length_range]
        have e4 : ((eld + 1) % 40 + 39) % 40 = p := by rw [hpe]; omega
        rw [e4, hg1 _ hp40, hg2 _ hp40, hg3 _ hp40, if_pos rfl, if_pos rfl, if_pos rfl]
        rfl
      · rw [List.getElem?_eq_none (by simp; omega), List.getElem?_eq_none (by simp; omega)]
        rfl
end CN
