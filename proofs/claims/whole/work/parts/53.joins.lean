theorem spl1 {x : Int} : ∀ {t : List Int}, x ∈ t → ∃ p q, t = p ++ x :: q ∧ x ∉ p
  | [], h => by cases h
  | y :: t, h => by
    by_cases e : y = x
    · exact ⟨[], t, by rw [e]; rfl, by simp⟩
    · obtain ⟨p, q, h1, h2⟩ := spl1 (t := t) (by rcases List.mem_cons.mp h with h | h; exact absurd h.symm e; exact h)
      exact ⟨y :: p, q, by rw [h1]; rfl, by simp [h2, Ne.symm e]⟩
/-- a tour turned to a node -/
def trn (t : List Int) (x : Int) : List Int := t.dropWhile (fun y => decide (y ≠ x)) ++ t.takeWhile (fun y => decide (y ≠ x))
theorem tw_eq {x : Int} {q : List Int} : ∀ {p : List Int}, x ∉ p → (p ++ x :: q).takeWhile (fun y => decide (y ≠ x)) = p ∧ (p ++ x :: q).dropWhile (fun y => decide (y ≠ x)) = x :: q
  | [], _ => by simp
  | y :: p, h => by
    have h1 : y ≠ x := fun e => h (by simp [e])
    have h2 := tw_eq (x := x) (q := q) (p := p) (fun e => h (List.mem_cons_of_mem _ e))
    constructor
    · rw [List.cons_append, List.takeWhile_cons_of_pos (by simp [h1]), h2.1]
    · rw [List.cons_append, List.dropWhile_cons_of_pos (by simp [h1]), h2.2]
theorem trn_eq {x : Int} {p q : List Int} (h : x ∉ p) : trn (p ++ x :: q) x = x :: q ++ p := by
  unfold trn
  rw [(tw_eq h).1, (tw_eq h).2]
theorem trn_mem {t : List Int} {x v : Int} (h : x ∈ t) : v ∈ trn t x ↔ v ∈ t := by
  obtain ⟨p, q, rfl, h2⟩ := spl1 h
  rw [trn_eq h2]
  simp only [List.mem_append, List.mem_cons]
  exact or_comm
theorem trn_len {t : List Int} {x : Int} (h : x ∈ t) : (trn t x).length = t.length := by
  obtain ⟨p, q, rfl, h2⟩ := spl1 h
  rw [trn_eq h2]
  simp
  omega
theorem trn_ok {t : List Int} {x : Int} (h : x ∈ t) (ht : okT t) : okT (trn t x) := fun v hv => ht v ((trn_mem h).mp hv)
/-- two tours joined by a cable -/
def jW (T : Nat → Nat → List Int) (i c x y : Nat) : List Int := trn (T i x) (x : Int) ++ [100 + (c : Int)] ++ trn (T i y) (y : Int) ++ [100 + (c : Int)]
def jT (T : Nat → Nat → List Int) (i c x y : Nat) : Nat → Nat → List Int := lyT T i (jW T i c x y)
def setT (N : nt) (T : Nat → Nat → List Int) : nt := (N.1, N.2.1, N.2.2.1, T, N.2.2.2.2)
theorem jW_mem {T : Nat → Nat → List Int} {i c x y : Nat} {v : Int} (hx : (x : Int) ∈ T i x) (hy : (y : Int) ∈ T i y) : v ∈ jW T i c x y ↔ v ∈ T i x ∨ v ∈ T i y ∨ v = 100 + (c : Int) := by
  unfold jW
  simp only [List.mem_append, List.mem_singleton, trn_mem hx, trn_mem hy]
  constructor
  · rintro (((h | h) | h) | h) <;> simp [h]
  · rintro (h | h | h) <;> simp [h]
theorem jW_len {T : Nat → Nat → List Int} {i c x y : Nat} (hx : (x : Int) ∈ T i x) (hy : (y : Int) ∈ T i y) : (jW T i c x y).length = (T i x).length + (T i y).length + 2 := by
  unfold jW
  simp only [List.length_append, List.length_singleton, trn_len hx, trn_len hy]
  omega
/-- what the reference's acts may change beside m -/
def rs (b : Nat) (f : pm_H) (A : Nat → Nat → Int) (S : Nat → Int) (f' : pm_H) (A' : Nat → Nat → Int) (S' : Nat → Int) : Prop := rfr b f f' ∧ (∀ j, j ≠ 0 → j ≠ 6 → j ≠ 7 → A' j = A j) ∧ (∀ j, j ≠ 8 → j ≠ 9 → S' j = S j)
def rk (f : pm_H) (b : Nat) (A : Nat → Nat → Int) (S : Nat → Int) (N : nt) : Prop := rm_at f b A S ∧ ∃ sl, rr (A 0) N sl
theorem rs_rf {b : Nat} {f : pm_H} {A : Nat → Nat → Int} {S : Nat → Int} : rs b f A S f A S := ⟨rfr_rf, fun _ _ _ _ => rfl, fun _ _ _ => rfl⟩
theorem rs_tr {b : Nat} {f f' f'' : pm_H} {A A' A'' : Nat → Nat → Int} {S S' S'' : Nat → Int} (h : rs b f A S f' A' S') (h2 : rs b f' A' S' f'' A'' S'') : rs b f A S f'' A'' S'' := ⟨rfr_tr h.1 h2.1, fun j a b c => (h2.2.1 j a b c).trans (h.2.1 j a b c), fun j a b => (h2.2.2 j a b).trans (h.2.2 j a b)⟩
theorem rs_A {b : Nat} {f f' : pm_H} {A A' : Nat → Nat → Int} {S : Nat → Int} (h1 : rfr b f f') (h2 : ∀ j, j ≠ 0 → j ≠ 6 → j ≠ 7 → A' j = A j) : rs b f A S f' A' S := ⟨h1, h2, fun _ _ _ => rfl⟩
theorem rr_T {M M' : Nat → Int} {N : nt} {sl sl' : Nat → Nat → Nat} {T' : Nat → Nat → List Int} (hl : ldN N ≤ 60) (hr : rr M N sl) (h1 : ∀ q, q < 380 → M' q = M q) (h2 : ∀ q, 4220 ≤ q → M' q = M q) (ht : rrt M' T' sl') : rr M' (setT N T') sl' := by
  obtain ⟨⟨a1, a2, a3, a4⟩, b1, c1, d1, e1⟩ := hr
  refine ⟨⟨?_, ?_, ?_, ?_⟩, fun n hn => ?_, fun c w hc hw => ?_, ht, ?_, fun j hj => ?_⟩
  · rw [h1 _ (by omega)]; exact a1
  · rw [h1 _ (by omega)]; exact a2
  · rw [h1 _ (by omega)]; exact a3
  · rw [h1 _ (by omega)]; exact a4
  · rw [h1 _ (by omega)]; exact b1 n hn
  · have hl2 : ldN (setT N T') = ldN N := rfl
    rw [h1 _ (by omega)]; exact c1 c w hc hw
  · rw [h2 _ (by omega)]; exact e1.1
  · rw [h2 _ (by omega), h2 _ (by omega), h2 _ (by omega)]; exact e1.2 j hj
section JO
variable {f : pm_H} {b : Nat} {A : Nat → Nat → Int} {S : Nat → Int} {N : nt} {k : pm_P}
theorem in_one (o : okB N) {i n x m : Nat} (hi : i < 5) (hn : n < 16) (hx : x < 16) (hm : m < 16) (h1 : (m : Int) ∈ tN N i n) (h2 : (m : Int) ∈ tN N i x) : (n : Int) ∈ tN N i x := by
  have g1 := o.2.2.2.2.2 i n hi hn
  have g2 := o.2.2.2.2.2 i x hi hx
  rw [← g2.2.2.2 m hm h2, g1.2.2.2 m hm h1]
  exact g1.2.2.1
theorem jW_rr {sl : Nat → Nat → Nat} {M : Nat → Int} (hr : rr M N sl) (o : okB N) {i c x y : Nat} (hi : i < 5) (hx : x < 16) (hy : y < 16) (hl : (tN N i x).length + (tN N i y).length + 2 ≤ 46) : rr (lyM M i (sl i x) (jW (tN N) i c x y).length (jW (tN N) i c x y)) (setT N (jT (tN N) i c x y)) (lyS sl i (sl i x) (jW (tN N) i c x y)) := by
  have gx := o.2.2.2.2.2 i x hi hx
  have gy := o.2.2.2.2.2 i y hi hy
  have s1 := hr.2.2.2.1 i x hi hx
  have hw := jW_len (T := tN N) (i := i) (c := c) gx.2.2.1 gy.2.2.1
  have hmem : ∀ v : Int, v ∈ jW (tN N) i c x y ↔ v ∈ tN N i x ∨ v ∈ tN N i y ∨ v = 100 + (c : Int) := fun v => jW_mem gx.2.2.1 gy.2.2.1
  refine rr_T (okl o) hr (fun q hq => lyM_lo hq) (fun q hq => lyM_hi hi s1.1 (by omega) hq) ?_
  refine rrt_of (rrg_lay (G := fun j n => ¬ (j = i ∧ ((n : Int) ∈ tN N i x ∨ (n : Int) ∈ tN N i y))) (rrg_of hr.2.2.2.1) hi s1.1 (by omega) ((hmem _).mpr (Or.inl s1.2.2.2.2.1)) (fun j n hj hn _ => (o.2.2.2.2.2 j n hj hn).2.1) (fun n hn hG hnw m hm hmn hmw => ?_)) (fun j n hj hn => ?_)
  · rcases (hmem _).mp hmw with h | h | h
    · exact hG ⟨rfl, Or.inl (in_one o hi hn hx hm hmn h)⟩
    · exact hG ⟨rfl, Or.inr (in_one o hi hn hy hm hmn h)⟩
    · omega
  · by_cases e : j = i ∧ ((n : Int) ∈ tN N i x ∨ (n : Int) ∈ tN N i y)
    · refine Or.inl ⟨e.1, (hmem _).mpr ?_⟩
      rcases e.2 with h | h
      · exact Or.inl h
      · exact Or.inr (Or.inl h)
    · exact Or.inr e
set_option maxRecDepth 20000 in
theorem joins_r (h : rk f b A S N) (o : okB N) {i c x y : Nat} (hi : i < 5) (hc : c < ldN N) (hx : cN N 0 c = x) (hy : cN N 1 c = y) (hl : (tN N i x).length + (tN N i y).length + 2 ≤ 46)
    (hk : ∀ (f' : pm_H) (A' : Nat → Nat → Int), rk f' b A' S (setT N (jT (tN N) i c x y)) → rs b f A S f' A' S → k none f') : pm_ex T_X5_joins [.inr (.inl (some b)), .inl (i : Int), .inl (c : Int)] f k := by
  obtain ⟨h, sl, hr⟩ := h
  have b0 := okn o
  have b1 := okl o
  have cc := o.2.1 c hc
  have x16 : x < 16 := by omega
  have y16 : y < 16 := by omega
  have gx := o.2.2.2.2.2 i x hi x16
  have gy := o.2.2.2.2.2 i y hi y16
  obtain ⟨p, q, ht, hp⟩ := spl1 gx.2.2.1
  obtain ⟨p', q', ht', hp'⟩ := spl1 gy.2.2.1
  have etx : trn (tN N i x) (x : Int) = (x : Int) :: q ++ p := by rw [ht, trn_eq hp]
  have ety : trn (tN N i y) (y : Int) = (y : Int) :: q' ++ p' := by rw [ht', trn_eq hp']
  have lx := trn_len gx.2.2.1
  have ly := trn_len gy.2.2.1
  have okx := trn_ok gx.2.2.1 gx.1
  have oky := trn_ok gy.2.2.1 gy.1
  rw [← etx.symm] at lx
  have s1 := hr.2.2.2.1 i x hi x16
  refine in_X5_joins ?_
  refine pm_go_on [60] 90 ?_
  set_option maxRecDepth 100000 in simp (maxSteps := 2000000) only [pm_x_run, pm_x_rt, pm_x_rf, pm_z_S, pm_z_D, pm_z_cut0, pm_z_cut1, pm_z_cli, pm_z_clr, pm_z_cln, pm_z_cll, pm_z_up, pm_x_aload0, pm_x_c, pm_x_c2, pm_x_cn0, pm_x_cn1, pm_x_getf, pm_x_gf, pm_x_goto, pm_x_gv, pm_x_ia, pm_x_iald, pm_x_iast, pm_x_icmp_ge, pm_x_iinc6, pm_x_iload1, pm_x_iload2, pm_x_iload3, pm_x_iload4, pm_x_iload5, pm_x_iload6, pm_x_invv, pm_x_is, pm_x_istore3, pm_x_istore4, pm_x_istore5, pm_x_istore6, pm_x_v0, pm_x_v1, pm_x_x2, pm_z_bipush, pm_z_cat0, pm_z_cati, pm_z_catl, pm_z_catr, pm_z_iadd, pm_z_iconst, pm_z_pop0, pm_z_pop1, pm_z_vret, zX5_joins_B, zX5_joins_F, zX5_joins_R, zX5_joins_X, zX5_joins_C69, zX5_joins_C80, zX5_joins_C86, zX5_joins_C90, fX5_33, fX5_36, dX5_joins_0, dX5_joins_1, dX5_joins_2, dX5_joins_3, dX5_joins_4, dX5_joins_5, dX5_joins_8, dX5_joins_11, dX5_joins_12, dX5_joins_13, dX5_joins_14, dX5_joins_15, dX5_joins_16, dX5_joins_17, dX5_joins_20, dX5_joins_21, dX5_joins_24, dX5_joins_27, dX5_joins_29, dX5_joins_30, dX5_joins_31, dX5_joins_32, dX5_joins_33, dX5_joins_34, dX5_joins_37, dX5_joins_38, dX5_joins_41, dX5_joins_44, dX5_joins_46, dX5_joins_47, dX5_joins_50, dX5_joins_52, dX5_joins_54, dX5_joins_55, dX5_joins_56, dX5_joins_57, dX5_joins_58, dX5_joins_60, dX5_joins_62, dX5_joins_64, dX5_joins_67, dX5_joins_68, dX5_joins_71, dX5_joins_73, dX5_joins_74, dX5_joins_75, dX5_joins_77, dX5_joins_78, dX5_joins_79, dX5_joins_82, dX5_joins_84, dX5_joins_85, dX5_joins_86, dX5_joins_89, dX5_joins_92, dX5_joins_93, dX5_joins_96, dX5_joins_98, dX5_joins_99, dX5_joins_100, dX5_joins_102, dX5_joins_103, dX5_joins_105, dX5_joins_106, dX5_joins_107, dX5_joins_108, dX5_joins_109, dX5_joins_110, dX5_joins_111, dX5_joins_112, dX5_joins_115, dX5_joins_116, dX5_joins_118, dX5_joins_120, dX5_joins_121, dX5_joins_122, dX5_joins_123, dX5_joins_126, Bool.cond_true, Bool.cond_false, Bool.or_false, Bool.false_or, Bool.true_or, Bool.or_true, true_and, and_true, if_true, if_false, List.length_cons, List.length_nil, List.getElem?_cons_zero, List.getElem?_cons_succ, List.set_cons_zero, List.set_cons_succ, Option.toList_some, Option.toList_none, List.cons_append, List.nil_append, beq_self_eq_true, Option.isSome_some, Option.isSome_none, pm_tg_lit, ite_true, ite_false, Nat.reduceAdd, Nat.reduceBEq, Nat.reduceLT, Nat.reduceLeDiff, Nat.reduceEqDiff, Int.reduceAdd, Int.reduceSub, Int.reduceLE, Int.reduceLT, Int.reduceEq, Int.reduceToNat, Int.reduceNeg, Int.cast_ofNat_Int, Int.reduceNatCast, Int.reduceNatCast', Int.zero_add, Int.add_zero, Nat.zero_add, Nat.add_zero, and_self, decide_true, decide_false, true_or, or_true, or_false, false_or, eq_self, Int.toNat_natCast, b2_e0, b2_e1, b2_ok, b2_w, b2_v, b2_tt, b2_ff, Bool.true_eq_false, Bool.false_eq_true, Option.some.injEq, Int.one_mul, Int.mul_one, not_true_eq_false, not_false_eq_true, ite_not, decide_eq_false_iff_not, decide_eq_true_eq, Int.reduceMul, Int.reduceMod, mq0 h, mq1 h, mq2 h, mq3 h, mq4 h, mq5 h, mq6 h, mq7 h, mq8 h, mq9 h, mq10 h, mq11 h, mq12 h, mq13 h, pm_z_rcv1 (mq0 h), q_of0 h hr o hc, hx, q_slotOf h hr hi x16]
  refine turns_r h hr o (j := 6) hi x16 (by decide) (by decide) rfl ht hp fun f1 g1 h1 fr1 e1 => ?_
  have hr1 : rr (stA A 6 g1 0) N sl := hr
  set_option maxRecDepth 100000 in simp (maxSteps := 2000000) only [pm_x_run, pm_x_rt, pm_x_rf, pm_z_S, pm_z_D, pm_z_cut0, pm_z_cut1, pm_z_cli, pm_z_clr, pm_z_cln, pm_z_cll, pm_z_up, pm_x_aload0, pm_x_c, pm_x_c2, pm_x_cn0, pm_x_cn1, pm_x_getf, pm_x_gf, pm_x_goto, pm_x_gv, pm_x_ia, pm_x_iald, pm_x_iast, pm_x_icmp_ge, pm_x_iinc6, pm_x_iload1, pm_x_iload2, pm_x_iload3, pm_x_iload4, pm_x_iload5, pm_x_iload6, pm_x_invv, pm_x_is, pm_x_istore3, pm_x_istore4, pm_x_istore5, pm_x_istore6, pm_x_v0, pm_x_v1, pm_x_x2, pm_z_bipush, pm_z_cat0, pm_z_cati, pm_z_catl, pm_z_catr, pm_z_iadd, pm_z_iconst, pm_z_pop0, pm_z_pop1, pm_z_vret, zX5_joins_B, zX5_joins_F, zX5_joins_R, zX5_joins_X, zX5_joins_C69, zX5_joins_C80, zX5_joins_C86, zX5_joins_C90, fX5_33, fX5_36, dX5_joins_0, dX5_joins_1, dX5_joins_2, dX5_joins_3, dX5_joins_4, dX5_joins_5, dX5_joins_8, dX5_joins_11, dX5_joins_12, dX5_joins_13, dX5_joins_14, dX5_joins_15, dX5_joins_16, dX5_joins_17, dX5_joins_20, dX5_joins_21, dX5_joins_24, dX5_joins_27, dX5_joins_29, dX5_joins_30, dX5_joins_31, dX5_joins_32, dX5_joins_33, dX5_joins_34, dX5_joins_37, dX5_joins_38, dX5_joins_41, dX5_joins_44, dX5_joins_46, dX5_joins_47, dX5_joins_50, dX5_joins_52, dX5_joins_54, dX5_joins_55, dX5_joins_56, dX5_joins_57, dX5_joins_58, dX5_joins_60, dX5_joins_62, dX5_joins_64, dX5_joins_67, dX5_joins_68, dX5_joins_71, dX5_joins_73, dX5_joins_74, dX5_joins_75, dX5_joins_77, dX5_joins_78, dX5_joins_79, dX5_joins_82, dX5_joins_84, dX5_joins_85, dX5_joins_86, dX5_joins_89, dX5_joins_92, dX5_joins_93, dX5_joins_96, dX5_joins_98, dX5_joins_99, dX5_joins_100, dX5_joins_102, dX5_joins_103, dX5_joins_105, dX5_joins_106, dX5_joins_107, dX5_joins_108, dX5_joins_109, dX5_joins_110, dX5_joins_111, dX5_joins_112, dX5_joins_115, dX5_joins_116, dX5_joins_118, dX5_joins_120, dX5_joins_121, dX5_joins_122, dX5_joins_123, dX5_joins_126, Bool.cond_true, Bool.cond_false, Bool.or_false, Bool.false_or, Bool.true_or, Bool.or_true, true_and, and_true, if_true, if_false, List.length_cons, List.length_nil, List.getElem?_cons_zero, List.getElem?_cons_succ, List.set_cons_zero, List.set_cons_succ, Option.toList_some, Option.toList_none, List.cons_append, List.nil_append, beq_self_eq_true, Option.isSome_some, Option.isSome_none, pm_tg_lit, ite_true, ite_false, Nat.reduceAdd, Nat.reduceBEq, Nat.reduceLT, Nat.reduceLeDiff, Nat.reduceEqDiff, Int.reduceAdd, Int.reduceSub, Int.reduceLE, Int.reduceLT, Int.reduceEq, Int.reduceToNat, Int.reduceNeg, Int.cast_ofNat_Int, Int.reduceNatCast, Int.reduceNatCast', Int.zero_add, Int.add_zero, Nat.zero_add, Nat.add_zero, and_self, decide_true, decide_false, true_or, or_true, or_false, false_or, eq_self, Int.toNat_natCast, b2_e0, b2_e1, b2_ok, b2_w, b2_v, b2_tt, b2_ff, Bool.true_eq_false, Bool.false_eq_true, Option.some.injEq, Int.one_mul, Int.mul_one, not_true_eq_false, not_false_eq_true, ite_not, decide_eq_false_iff_not, decide_eq_true_eq, Int.reduceMul, Int.reduceMod, mq0 h1, mq1 h1, mq2 h1, mq3 h1, mq4 h1, mq5 h1, mq6 h1, mq7 h1, mq8 h1, mq9 h1, mq10 h1, mq11 h1, mq12 h1, mq13 h1, pm_z_rcv1 (mq0 h1), q_of1 h1 hr1 o hc, hy]
  refine turns_r h1 hr1 o (j := 7) hi y16 (by decide) (by decide) rfl ht' hp' fun f2 g2 h2 fr2 e2 => ?_
  set_option maxRecDepth 100000 in simp (maxSteps := 2000000) only [pm_x_run, pm_x_rt, pm_x_rf, pm_z_S, pm_z_D, pm_z_cut0, pm_z_cut1, pm_z_cli, pm_z_clr, pm_z_cln, pm_z_cll, pm_z_up, pm_x_aload0, pm_x_c, pm_x_c2, pm_x_cn0, pm_x_cn1, pm_x_getf, pm_x_gf, pm_x_goto, pm_x_gv, pm_x_ia, pm_x_iald, pm_x_iast, pm_x_icmp_ge, pm_x_iinc6, pm_x_iload1, pm_x_iload2, pm_x_iload3, pm_x_iload4, pm_x_iload5, pm_x_iload6, pm_x_invv, pm_x_is, pm_x_istore3, pm_x_istore4, pm_x_istore5, pm_x_istore6, pm_x_v0, pm_x_v1, pm_x_x2, pm_z_bipush, pm_z_cat0, pm_z_cati, pm_z_catl, pm_z_catr, pm_z_iadd, pm_z_iconst, pm_z_pop0, pm_z_pop1, pm_z_vret, zX5_joins_B, zX5_joins_F, zX5_joins_R, zX5_joins_X, zX5_joins_C69, zX5_joins_C80, zX5_joins_C86, zX5_joins_C90, fX5_33, fX5_36, dX5_joins_0, dX5_joins_1, dX5_joins_2, dX5_joins_3, dX5_joins_4, dX5_joins_5, dX5_joins_8, dX5_joins_11, dX5_joins_12, dX5_joins_13, dX5_joins_14, dX5_joins_15, dX5_joins_16, dX5_joins_17, dX5_joins_20, dX5_joins_21, dX5_joins_24, dX5_joins_27, dX5_joins_29, dX5_joins_30, dX5_joins_31, dX5_joins_32, dX5_joins_33, dX5_joins_34, dX5_joins_37, dX5_joins_38, dX5_joins_41, dX5_joins_44, dX5_joins_46, dX5_joins_47, dX5_joins_50, dX5_joins_52, dX5_joins_54, dX5_joins_55, dX5_joins_56, dX5_joins_57, dX5_joins_58, dX5_joins_60, dX5_joins_62, dX5_joins_64, dX5_joins_67, dX5_joins_68, dX5_joins_71, dX5_joins_73, dX5_joins_74, dX5_joins_75, dX5_joins_77, dX5_joins_78, dX5_joins_79, dX5_joins_82, dX5_joins_84, dX5_joins_85, dX5_joins_86, dX5_joins_89, dX5_joins_92, dX5_joins_93, dX5_joins_96, dX5_joins_98, dX5_joins_99, dX5_joins_100, dX5_joins_102, dX5_joins_103, dX5_joins_105, dX5_joins_106, dX5_joins_107, dX5_joins_108, dX5_joins_109, dX5_joins_110, dX5_joins_111, dX5_joins_112, dX5_joins_115, dX5_joins_116, dX5_joins_118, dX5_joins_120, dX5_joins_121, dX5_joins_122, dX5_joins_123, dX5_joins_126, Bool.cond_true, Bool.cond_false, Bool.or_false, Bool.false_or, Bool.true_or, Bool.or_true, true_and, and_true, if_true, if_false, List.length_cons, List.length_nil, List.getElem?_cons_zero, List.getElem?_cons_succ, List.set_cons_zero, List.set_cons_succ, Option.toList_some, Option.toList_none, List.cons_append, List.nil_append, beq_self_eq_true, Option.isSome_some, Option.isSome_none, pm_tg_lit, ite_true, ite_false, Nat.reduceAdd, Nat.reduceBEq, Nat.reduceLT, Nat.reduceLeDiff, Nat.reduceEqDiff, Int.reduceAdd, Int.reduceSub, Int.reduceLE, Int.reduceLT, Int.reduceEq, Int.reduceToNat, Int.reduceNeg, Int.cast_ofNat_Int, Int.reduceNatCast, Int.reduceNatCast', Int.zero_add, Int.add_zero, Nat.zero_add, Nat.add_zero, and_self, decide_true, decide_false, true_or, or_true, or_false, false_or, eq_self, Int.toNat_natCast, b2_e0, b2_e1, b2_ok, b2_w, b2_v, b2_tt, b2_ff, Bool.true_eq_false, Bool.false_eq_true, Option.some.injEq, Int.one_mul, Int.mul_one, not_true_eq_false, not_false_eq_true, ite_not, decide_eq_false_iff_not, decide_eq_true_eq, Int.reduceMul, Int.reduceMod, mq0 h2, mq1 h2, mq2 h2, mq3 h2, mq4 h2, mq5 h2, mq6 h2, mq7 h2, mq8 h2, mq9 h2, mq10 h2, mq11 h2, mq12 h2, mq13 h2, pm_z_rcv1 (mq0 h2)]
  obtain ⟨n, hn⟩ : ∃ n, n = (tN N i x).length := ⟨_, rfl⟩
  obtain ⟨m', hm'⟩ : ∃ n, n = (tN N i y).length := ⟨_, rfl⟩
  rw [← etx] at e1
  rw [← ety] at e2
  have eg1 : stA (stA A 6 g1) 7 g2 6 = g1 := rfl
  rw [← hn, eg1]
  rw [← hn] at e1 hl lx
  rw [← hm'] at e2 hl ly ⊢
  refine ⟨by omega, by omega, ?_⟩
  refine pm_for m' (fun m lv f' => lv = [some (.inr (.inl (some (b)))), some (.inl ((i : Int))), some (.inl ((c : Int))), some (.inl ((sl i x : Int))), some (.inl ((n : Int))), some (.inl ((m' : Int))), some (.inl ((m : Int)))] ∧ ∃ g : Nat → Int, rm_at f' b (stA (stA (stA A 6 g1) 7 g2) 6 g) S ∧ rfr b f f' ∧ fl g (n + 1 + m) = trn (tN N i x) (x : Int) ++ [100 + (c : Int)] ++ (trn (tN N i y) (y : Int)).take m) (fun m lv f' hm hJ ih => ?_) (fun lv f' hJ => ?_) 0 _ _ (Nat.zero_le _) ⟨rfl, _, rm_arr h2 (j := 6) (by omega) _ rfl, rfr_tr fr1 (rfr_tr fr2 (rfr_up (by omega) (by omega))), by rw [Nat.add_zero, fl_us, e1]; simp⟩
  · obtain ⟨rfl, g, h3, fr3, hg⟩ := hJ
    refine pm_go_on [60] 60 ?_
    set_option maxRecDepth 100000 in simp (maxSteps := 2000000) only [pm_x_run, pm_x_rt, pm_x_rf, pm_z_S, pm_z_D, pm_z_cut0, pm_z_cut1, pm_z_cli, pm_z_clr, pm_z_cln, pm_z_cll, pm_z_up, pm_x_aload0, pm_x_c, pm_x_c2, pm_x_cn0, pm_x_cn1, pm_x_getf, pm_x_gf, pm_x_goto, pm_x_gv, pm_x_ia, pm_x_iald, pm_x_iast, pm_x_icmp_ge, pm_x_iinc6, pm_x_iload1, pm_x_iload2, pm_x_iload3, pm_x_iload4, pm_x_iload5, pm_x_iload6, pm_x_invv, pm_x_is, pm_x_istore3, pm_x_istore4, pm_x_istore5, pm_x_istore6, pm_x_v0, pm_x_v1, pm_x_x2, pm_z_bipush, pm_z_cat0, pm_z_cati, pm_z_catl, pm_z_catr, pm_z_iadd, pm_z_iconst, pm_z_pop0, pm_z_pop1, pm_z_vret, zX5_joins_B, zX5_joins_F, zX5_joins_R, zX5_joins_X, zX5_joins_C69, zX5_joins_C80, zX5_joins_C86, zX5_joins_C90, fX5_33, fX5_36, dX5_joins_0, dX5_joins_1, dX5_joins_2, dX5_joins_3, dX5_joins_4, dX5_joins_5, dX5_joins_8, dX5_joins_11, dX5_joins_12, dX5_joins_13, dX5_joins_14, dX5_joins_15, dX5_joins_16, dX5_joins_17, dX5_joins_20, dX5_joins_21, dX5_joins_24, dX5_joins_27, dX5_joins_29, dX5_joins_30, dX5_joins_31, dX5_joins_32, dX5_joins_33, dX5_joins_34, dX5_joins_37, dX5_joins_38, dX5_joins_41, dX5_joins_44, dX5_joins_46, dX5_joins_47, dX5_joins_50, dX5_joins_52, dX5_joins_54, dX5_joins_55, dX5_joins_56, dX5_joins_57, dX5_joins_58, dX5_joins_60, dX5_joins_62, dX5_joins_64, dX5_joins_67, dX5_joins_68, dX5_joins_71, dX5_joins_73, dX5_joins_74, dX5_joins_75, dX5_joins_77, dX5_joins_78, dX5_joins_79, dX5_joins_82, dX5_joins_84, dX5_joins_85, dX5_joins_86, dX5_joins_89, dX5_joins_92, dX5_joins_93, dX5_joins_96, dX5_joins_98, dX5_joins_99, dX5_joins_100, dX5_joins_102, dX5_joins_103, dX5_joins_105, dX5_joins_106, dX5_joins_107, dX5_joins_108, dX5_joins_109, dX5_joins_110, dX5_joins_111, dX5_joins_112, dX5_joins_115, dX5_joins_116, dX5_joins_118, dX5_joins_120, dX5_joins_121, dX5_joins_122, dX5_joins_123, dX5_joins_126, Bool.cond_true, Bool.cond_false, Bool.or_false, Bool.false_or, Bool.true_or, Bool.or_true, true_and, and_true, if_true, if_false, List.length_cons, List.length_nil, List.getElem?_cons_zero, List.getElem?_cons_succ, List.set_cons_zero, List.set_cons_succ, Option.toList_some, Option.toList_none, List.cons_append, List.nil_append, beq_self_eq_true, Option.isSome_some, Option.isSome_none, pm_tg_lit, ite_true, ite_false, Nat.reduceAdd, Nat.reduceBEq, Nat.reduceLT, Nat.reduceLeDiff, Nat.reduceEqDiff, Int.reduceAdd, Int.reduceSub, Int.reduceLE, Int.reduceLT, Int.reduceEq, Int.reduceToNat, Int.reduceNeg, Int.cast_ofNat_Int, Int.reduceNatCast, Int.reduceNatCast', Int.zero_add, Int.add_zero, Nat.zero_add, Nat.add_zero, and_self, decide_true, decide_false, true_or, or_true, or_false, false_or, eq_self, Int.toNat_natCast, b2_e0, b2_e1, b2_ok, b2_w, b2_v, b2_tt, b2_ff, Bool.true_eq_false, Bool.false_eq_true, Option.some.injEq, Int.one_mul, Int.mul_one, not_true_eq_false, not_false_eq_true, ite_not, decide_eq_false_iff_not, decide_eq_true_eq, Int.reduceMul, Int.reduceMod, mq0 h3, mq1 h3, mq2 h3, mq3 h3, mq4 h3, mq5 h3, mq6 h3, mq7 h3, mq8 h3, mq9 h3, mq10 h3, mq11 h3, mq12 h3, mq13 h3, pm_z_rcv1 (mq0 h3)]
    have ea : stA (stA (stA A 6 g1) 7 g2) 6 g 6 = g := rfl
    have eb : stA (stA (stA A 6 g1) 7 g2) 6 g 7 = g2 := rfl
    rw [if_pos (by omega), ea, eb]
    refine ⟨by omega, by omega, by omega, by omega, by omega, ih _ _ ⟨rfl, pm_us g (n + 1 + m) (g2 m), ?_, rfr_tr fr3 (rfr_up (by omega) (by omega)), ?_⟩⟩
    · have h4 := rm_arr h3 (j := 6) (by omega) (pm_us g (n + 1 + m) (g2 m)) rfl
      rw [stA_st] at h4
      rw [show ((n : Int) + 1 + (m : Int)).toNat = n + 1 + m by omega]
      exact h4
    · have e3 : (trn (tN N i y) (y : Int))[m]? = some (g2 m) := by
        rw [← e2]
        unfold fl
        rw [List.getElem?_map, List.getElem?_range (by omega)]
        rfl
      rw [← Nat.add_assoc, fl_us, hg, List.take_add_one, e3]
      simp
  · obtain ⟨rfl, g, h3, fr3, hg⟩ := hJ
    rw [List.take_of_length_le (by omega)] at hg
    have ea : stA (stA (stA A 6 g1) 7 g2) 6 g 6 = g := rfl
    refine pm_go_on [60] 60 ?_
    set_option maxRecDepth 100000 in simp (maxSteps := 2000000) only [pm_x_run, pm_x_rt, pm_x_rf, pm_z_S, pm_z_D, pm_z_cut0, pm_z_cut1, pm_z_cli, pm_z_clr, pm_z_cln, pm_z_cll, pm_x_aload0, pm_x_c, pm_x_c2, pm_x_cn0, pm_x_cn1, pm_x_getf, pm_x_gf, pm_x_goto, pm_x_gv, pm_x_ia, pm_x_iald, pm_x_iast, pm_x_icmp_ge, pm_x_iinc6, pm_x_iload1, pm_x_iload2, pm_x_iload3, pm_x_iload4, pm_x_iload5, pm_x_iload6, pm_x_invv, pm_x_is, pm_x_istore3, pm_x_istore4, pm_x_istore5, pm_x_istore6, pm_x_v0, pm_x_v1, pm_x_x2, pm_z_bipush, pm_z_cat0, pm_z_cati, pm_z_catl, pm_z_catr, pm_z_iadd, pm_z_iconst, pm_z_pop0, pm_z_pop1, pm_z_vret, zX5_joins_B, zX5_joins_F, zX5_joins_R, zX5_joins_X, zX5_joins_C69, zX5_joins_C80, zX5_joins_C86, zX5_joins_C90, fX5_33, fX5_36, dX5_joins_0, dX5_joins_1, dX5_joins_2, dX5_joins_3, dX5_joins_4, dX5_joins_5, dX5_joins_8, dX5_joins_11, dX5_joins_12, dX5_joins_13, dX5_joins_14, dX5_joins_15, dX5_joins_16, dX5_joins_17, dX5_joins_20, dX5_joins_21, dX5_joins_24, dX5_joins_27, dX5_joins_29, dX5_joins_30, dX5_joins_31, dX5_joins_32, dX5_joins_33, dX5_joins_34, dX5_joins_37, dX5_joins_38, dX5_joins_41, dX5_joins_44, dX5_joins_46, dX5_joins_47, dX5_joins_50, dX5_joins_52, dX5_joins_54, dX5_joins_55, dX5_joins_56, dX5_joins_57, dX5_joins_58, dX5_joins_60, dX5_joins_62, dX5_joins_64, dX5_joins_67, dX5_joins_68, dX5_joins_71, dX5_joins_73, dX5_joins_74, dX5_joins_75, dX5_joins_77, dX5_joins_78, dX5_joins_79, dX5_joins_82, dX5_joins_84, dX5_joins_85, dX5_joins_86, dX5_joins_89, dX5_joins_92, dX5_joins_93, dX5_joins_96, dX5_joins_98, dX5_joins_99, dX5_joins_100, dX5_joins_102, dX5_joins_103, dX5_joins_105, dX5_joins_106, dX5_joins_107, dX5_joins_108, dX5_joins_109, dX5_joins_110, dX5_joins_111, dX5_joins_112, dX5_joins_115, dX5_joins_116, dX5_joins_118, dX5_joins_120, dX5_joins_121, dX5_joins_122, dX5_joins_123, dX5_joins_126, Bool.cond_true, Bool.cond_false, Bool.or_false, Bool.false_or, Bool.true_or, Bool.or_true, true_and, and_true, if_true, if_false, List.length_cons, List.length_nil, List.getElem?_cons_zero, List.getElem?_cons_succ, List.set_cons_zero, List.set_cons_succ, Option.toList_some, Option.toList_none, List.cons_append, List.nil_append, beq_self_eq_true, Option.isSome_some, Option.isSome_none, pm_tg_lit, ite_true, ite_false, Nat.reduceAdd, Nat.reduceBEq, Nat.reduceLT, Nat.reduceLeDiff, Nat.reduceEqDiff, Int.reduceAdd, Int.reduceSub, Int.reduceLE, Int.reduceLT, Int.reduceEq, Int.reduceToNat, Int.reduceNeg, Int.cast_ofNat_Int, Int.reduceNatCast, Int.reduceNatCast', Int.zero_add, Int.add_zero, Nat.zero_add, Nat.add_zero, and_self, decide_true, decide_false, true_or, or_true, or_false, false_or, eq_self, Int.toNat_natCast, b2_e0, b2_e1, b2_ok, b2_w, b2_v, b2_tt, b2_ff, Bool.true_eq_false, Bool.false_eq_true, Option.some.injEq, Int.one_mul, Int.mul_one, not_true_eq_false, not_false_eq_true, ite_not, decide_eq_false_iff_not, decide_eq_true_eq, Int.reduceMul, Int.reduceMod, pm_rcvu, pm_rcve, ne_eq, pm_upi, Nat.left_eq_add, Nat.add_eq_left, Nat.succ_ne_self, reduceCtorEq, Nat.add_left_cancel_iff, Nat.one_ne_zero, mq0 h3, mq1 h3, mq2 h3, mq3 h3, mq4 h3, mq5 h3, mq6 h3, mq7 h3, mq8 h3, mq9 h3, mq10 h3, mq11 h3, mq12 h3, mq13 h3, pm_z_rcv1 (mq0 h3)]
    rw [if_neg (by omega), ea]
    have h4 := rm_arr h3 (j := 6) (by omega) (pm_us g (n + 1 + m') (100 + (c : Int))) rfl
    rw [stA_st] at h4
    have fr4 : rfr b f (pm_up f' (b + 1 + 6) (.inl (46, pm_us g (n + 1 + m') (100 + (c : Int))))) := rfr_tr fr3 (rfr_up (by omega) (by omega))
    rw [show ((n : Int) + 1 + (m' : Int)).toNat = n + 1 + m' by omega]
    refine ⟨by omega, by omega, by omega, by omega, by omega, by omega, ?_⟩
    have eW : fl (pm_us g (n + 1 + m') (100 + (c : Int))) (n + m' + 2) = jW (tN N) i c x y := by
      rw [show n + m' + 2 = n + 1 + m' + 1 by omega, fl_us, hg]
      rfl
    have lW := jW_len (T := tN N) (i := i) (c := c) gx.2.2.1 gy.2.2.1
    have oW : okT (jW (tN N) i c x y) := by
      intro v hv
      rcases (jW_mem gx.2.2.1 gy.2.2.1).mp hv with z | z | z
      · exact gx.1 v z
      · exact gy.1 v z
      · right; omega
    rw [show (n : Int) + (m' : Int) + 2 = ((n + m' + 2 : Nat) : Int) by omega]
    refine lays_r (j := 6) h4 hi s1.1 (by decide) (by decide) rfl (by omega) (by show okT (fl (pm_us g (n + 1 + m') (100 + (c : Int))) (n + m' + 2)); rw [eW]; exact oW) fun f5 h5 fr5 => ?_
    set_option maxRecDepth 100000 in simp (maxSteps := 2000000) only [pm_x_run, pm_x_rt, pm_x_rf, pm_z_S, pm_z_D, pm_z_cut0, pm_z_cut1, pm_z_cli, pm_z_clr, pm_z_cln, pm_z_cll, pm_z_up, pm_x_aload0, pm_x_c, pm_x_c2, pm_x_cn0, pm_x_cn1, pm_x_getf, pm_x_gf, pm_x_goto, pm_x_gv, pm_x_ia, pm_x_iald, pm_x_iast, pm_x_icmp_ge, pm_x_iinc6, pm_x_iload1, pm_x_iload2, pm_x_iload3, pm_x_iload4, pm_x_iload5, pm_x_iload6, pm_x_invv, pm_x_is, pm_x_istore3, pm_x_istore4, pm_x_istore5, pm_x_istore6, pm_x_v0, pm_x_v1, pm_x_x2, pm_z_bipush, pm_z_cat0, pm_z_cati, pm_z_catl, pm_z_catr, pm_z_iadd, pm_z_iconst, pm_z_pop0, pm_z_pop1, pm_z_vret, zX5_joins_B, zX5_joins_F, zX5_joins_R, zX5_joins_X, zX5_joins_C69, zX5_joins_C80, zX5_joins_C86, zX5_joins_C90, fX5_33, fX5_36, dX5_joins_0, dX5_joins_1, dX5_joins_2, dX5_joins_3, dX5_joins_4, dX5_joins_5, dX5_joins_8, dX5_joins_11, dX5_joins_12, dX5_joins_13, dX5_joins_14, dX5_joins_15, dX5_joins_16, dX5_joins_17, dX5_joins_20, dX5_joins_21, dX5_joins_24, dX5_joins_27, dX5_joins_29, dX5_joins_30, dX5_joins_31, dX5_joins_32, dX5_joins_33, dX5_joins_34, dX5_joins_37, dX5_joins_38, dX5_joins_41, dX5_joins_44, dX5_joins_46, dX5_joins_47, dX5_joins_50, dX5_joins_52, dX5_joins_54, dX5_joins_55, dX5_joins_56, dX5_joins_57, dX5_joins_58, dX5_joins_60, dX5_joins_62, dX5_joins_64, dX5_joins_67, dX5_joins_68, dX5_joins_71, dX5_joins_73, dX5_joins_74, dX5_joins_75, dX5_joins_77, dX5_joins_78, dX5_joins_79, dX5_joins_82, dX5_joins_84, dX5_joins_85, dX5_joins_86, dX5_joins_89, dX5_joins_92, dX5_joins_93, dX5_joins_96, dX5_joins_98, dX5_joins_99, dX5_joins_100, dX5_joins_102, dX5_joins_103, dX5_joins_105, dX5_joins_106, dX5_joins_107, dX5_joins_108, dX5_joins_109, dX5_joins_110, dX5_joins_111, dX5_joins_112, dX5_joins_115, dX5_joins_116, dX5_joins_118, dX5_joins_120, dX5_joins_121, dX5_joins_122, dX5_joins_123, dX5_joins_126, Bool.cond_true, Bool.cond_false, Bool.or_false, Bool.false_or, Bool.true_or, Bool.or_true, true_and, and_true, if_true, if_false, List.length_cons, List.length_nil, List.getElem?_cons_zero, List.getElem?_cons_succ, List.set_cons_zero, List.set_cons_succ, Option.toList_some, Option.toList_none, List.cons_append, List.nil_append, beq_self_eq_true, Option.isSome_some, Option.isSome_none, pm_tg_lit, ite_true, ite_false, Nat.reduceAdd, Nat.reduceBEq, Nat.reduceLT, Nat.reduceLeDiff, Nat.reduceEqDiff, Int.reduceAdd, Int.reduceSub, Int.reduceLE, Int.reduceLT, Int.reduceEq, Int.reduceToNat, Int.reduceNeg, Int.cast_ofNat_Int, Int.reduceNatCast, Int.reduceNatCast', Int.zero_add, Int.add_zero, Nat.zero_add, Nat.add_zero, and_self, decide_true, decide_false, true_or, or_true, or_false, false_or, eq_self, Int.toNat_natCast, b2_e0, b2_e1, b2_ok, b2_w, b2_v, b2_tt, b2_ff, Bool.true_eq_false, Bool.false_eq_true, Option.some.injEq, Int.one_mul, Int.mul_one, not_true_eq_false, not_false_eq_true, ite_not, decide_eq_false_iff_not, decide_eq_true_eq, Int.reduceMul, Int.reduceMod]
    refine hk f5 _ ⟨h5, lyS sl i (sl i x) (jW (tN N) i c x y), ?_⟩ (rs_A (rfr_tr fr4 fr5) (fun j j0 j6 j7 => ?_))
    · have z := jW_rr (c := c) hr o hi x16 y16 (by omega)
      rw [lW, ← hn, ← hm', ← eW] at z
      rw [← eW]
      exact z
    · unfold stA
      rw [if_neg j0, if_neg j6, if_neg j7, if_neg j6]
end JO
