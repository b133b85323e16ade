/-! WHAT HANGS TOGETHER by cables c < n with g c -/
def clo (a0 a1 : Nat → Nat) (g : Nat → Bool) (n x m : Nat) : Prop := ∀ Q : Nat → Prop, Q x → (∀ c, c < n → g c = true → (Q (a0 c) ↔ Q (a1 c))) → Q m
/-- one pass over the cables -/
def pzs (a0 a1 : Nat → Nat) (g p : Nat → Bool) : Nat → (Nat → Bool)
  | 0 => p
  | c + 1 => if g c && (pzs a0 a1 g p c (a0 c) || pzs a0 a1 g p c (a1 c)) then (fun n => pzs a0 a1 g p c n || (decide (n = a0 c) || decide (n = a1 c))) else pzs a0 a1 g p c
theorem clo_rf {a0 a1 : Nat → Nat} {g : Nat → Bool} {n x : Nat} : clo a0 a1 g n x x := fun _ h _ => h
theorem clo_st {a0 a1 : Nat → Nat} {g : Nat → Bool} {n x c : Nat} (hc : c < n) (hg : g c = true) : clo a0 a1 g n x (a0 c) ↔ clo a0 a1 g n x (a1 c) := ⟨fun h Q q cl => (cl c hc hg).mp (h Q q cl), fun h Q q cl => (cl c hc hg).mpr (h Q q cl)⟩
theorem pzs_up {a0 a1 : Nat → Nat} {g p : Nat → Bool} {m : Nat} : ∀ c, p m = true → pzs a0 a1 g p c m = true
  | 0, h => h
  | c + 1, h => by
    rw [pzs]
    have := pzs_up (a0 := a0) (a1 := a1) (g := g) c h
    split
    · simp [this]
    · exact this
theorem pzs_mono {a0 a1 : Nat → Nat} {g p : Nat → Bool} {m : Nat} : ∀ (q c : Nat), pzs a0 a1 g p c m = true → pzs a0 a1 g p (c + q) m = true
  | 0, _, h => h
  | q + 1, c, h => by
    have := pzs_mono q c h
    rw [← Nat.add_assoc, pzs]
    split
    · simp [this]
    · exact this
theorem pzs_clo {a0 a1 : Nat → Nat} {g p : Nat → Bool} {n x : Nat} (h : ∀ m, p m = true → clo a0 a1 g n x m) : ∀ c, c ≤ n → ∀ m, pzs a0 a1 g p c m = true → clo a0 a1 g n x m
  | 0, _, m, hm => h m hm
  | c + 1, hc, m, hm => by
    have ih := pzs_clo h c (by omega)
    rw [pzs] at hm
    split at hm
    · rename_i q
      simp only [Bool.and_eq_true, Bool.or_eq_true] at q
      have e : clo a0 a1 g n x (a0 c) ∧ clo a0 a1 g n x (a1 c) := by
        have st := clo_st (a0 := a0) (a1 := a1) (x := x) (show c < n by omega) q.1
        rcases q.2 with w | w
        · exact ⟨ih _ w, st.mp (ih _ w)⟩
        · exact ⟨st.mpr (ih _ w), ih _ w⟩
      simp only [Bool.or_eq_true, decide_eq_true_eq] at hm
      rcases hm with w | w | w
      · exact ih m w
      · rw [w]; exact e.1
      · rw [w]; exact e.2
    · exact ih m hm
/-- a pass that changes nothing: closed -/
theorem pzs_fix {a0 a1 : Nat → Nat} {g p : Nat → Bool} {n : Nat} (ha : ∀ c, c < n → a0 c < 16 ∧ a1 c < 16) (h : ∀ m, m < 16 → pzs a0 a1 g p n m = p m) : ∀ c, c < n → g c = true → (p (a0 c) = true ↔ p (a1 c) = true) := by
  intro c hc hg
  have b := ha c hc
  have key : p (a0 c) = true ∨ p (a1 c) = true → p (a0 c) = true ∧ p (a1 c) = true := by
    intro w
    have hp : (g c && (pzs a0 a1 g p c (a0 c) || pzs a0 a1 g p c (a1 c))) = true := by
      rw [hg]
      rcases w with w | w
      · simp [pzs_up (a0 := a0) (a1 := a1) (g := g) c w]
      · simp [pzs_up (a0 := a0) (a1 := a1) (g := g) c w]
    have s : ∀ m, (m = a0 c ∨ m = a1 c) → pzs a0 a1 g p n m = true := by
      intro m hm
      have e : pzs a0 a1 g p (c + 1) m = true := by
        rw [pzs, if_pos hp]
        rcases hm with hm | hm <;> simp [hm]
      have := pzs_mono (n - (c + 1)) (c + 1) e
      rwa [show c + 1 + (n - (c + 1)) = n by omega] at this
    have s0 := s _ (Or.inl rfl)
    have s1 := s _ (Or.inr rfl)
    rw [h _ b.1] at s0
    rw [h _ b.2] at s1
    exact ⟨s0, s1⟩
  exact ⟨fun w => (key (Or.inl w)).2, fun w => (key (Or.inr w)).1⟩
theorem clo_closed {a0 a1 : Nat → Nat} {g p : Nat → Bool} {n x : Nat} (hx : p x = true) (hc : ∀ c, c < n → g c = true → (p (a0 c) = true ↔ p (a1 c) = true)) {m : Nat} (h : clo a0 a1 g n x m) : p m = true := h (fun u => p u = true) hx hc
theorem cnt_lt {p q : Nat → Bool} {n : Nat} (h : ∀ i, i < n → p i = true → q i = true) {j : Nat} (hj : j < n) (hp : p j = false) (hq : q j = true) : cnt p n < cnt q n := by
  induction n with
  | zero => omega
  | succ n ih =>
    rw [cnt_s, cnt_s]
    by_cases e : j = n
    · subst e
      have le : cnt p j ≤ cnt q j := by
        clear ih hj hp hq
        have : ∀ k, k ≤ j → cnt p k ≤ cnt q k := by
          intro k
          induction k with
          | zero => intro _; exact Nat.le_refl _
          | succ k ik =>
            intro hk
            rw [cnt_s, cnt_s]
            have a := ik (by omega)
            have b := h k (by omega)
            cases hp : p k
            · simp; omega
            · rw [b hp]; simp; omega
        exact this j (Nat.le_refl _)
      rw [hp, hq]
      simp
      omega
    · have a := ih (fun i hi => h i (by omega)) (by omega)
      have b := h n (by omega)
      cases hp2 : p n
      · simp; omega
      · rw [b hp2]; simp; omega
theorem bs_ne {p q : Nat → Bool} {n : Nat} (h : bs p n ≠ bs q n) : ∃ j, j < n ∧ p j ≠ q j := by
  apply Classical.byContradiction
  intro hc
  exact h (bs_ext (fun i hi => Classical.byContradiction (fun e => hc ⟨i, hi, e⟩)))
theorem pb_ins2 (p : Nat → Bool) {i j : Nat} (hi : i < 16) (hj : j < 16) : pm_or ((bs p 16 : Nat) : Int) (pm_or (pm_shl 1 (i : Int)) (pm_shl 1 (j : Int))) = ((bs (fun n => p n || (decide (n = i) || decide (n = j))) 16 : Nat) : Int) := by
  have h1 : (1 : Int) = ((1 : Nat) : Int) := rfl
  have i2 : (2 : Nat) ^ i < 2 ^ 16 := Nat.pow_lt_pow_right (by omega) hi
  have j2 : (2 : Nat) ^ j < 2 ^ 16 := Nat.pow_lt_pow_right (by omega) hj
  have p2 := bs_lt p 16
  rw [h1, pb_shl (by omega) (by omega), pb_shl (by omega) (by omega), Nat.one_mul, Nat.one_mul, pb_or (by omega) (by omega), bs_one hi, bs_one hj, bs_or, pb_or (by omega) (by have := bs_lt (fun n => decide (n = i) || decide (n = j)) 16; omega), bs_or]
section TW
variable {f : pm_H} {b : Nat} {A : Nat → Nat → Int} {S : Nat → Int} {N : nt} {k : pm_P} {sl : Nat → Nat → Nat}
def twG (N : nt) (but : Int) : Nat → Bool := fun c => trN N c && decide ((c : Int) ≠ but)
set_option maxRecDepth 20000 in
theorem tied_r (h : rm_at f b A S) (hr : rr (A 0) N sl) (o : okB N) {but : Int} {x : Nat} (hx : x < 16) (hk : ∀ p : Nat → Bool, (∀ m, m < 16 → (p m = true ↔ clo (cN N 0) (cN N 1) (twG N but) (ldN N) x m)) → k (some (.inl ((bs p 16 : Nat) : Int))) f) : pm_ex T_X5_tiedWithout [.inr (.inl (some b)), .inl but, .inl (x : Int)] f k := by
  have b0 := okn o
  have b1 := okl o
  have ha : ∀ c, c < ldN N → cN N 0 c < 16 ∧ cN N 1 c < 16 := fun c hc => by have := o.2.1 c hc; omega
  have pass : ∀ (p : Nat → Bool) (u4 : Int), pm_W eX5_tiedWithout k (fun _ _ => False) 7 [some (.inr (.inl (some (b)))), some (.inl (but)), some (.inl ((x : Int))), some (.inl (((bs (pzs (cN N 0) (cN N 1) (twG N but) p (ldN N)) 16 : Nat) : Int))), some (.inl (u4)), some (.inl ((ldN N : Int)))] [] f → pm_W eX5_tiedWithout k (fun _ _ => False) 19 [some (.inr (.inl (some (b)))), some (.inl (but)), some (.inl ((x : Int))), some (.inl (((bs p 16 : Nat) : Int))), some (.inl (u4)), some (.inl (0))] [] f := by
    intro p u4 he
    refine pm_fo (ldN N) (fun m => [some (.inr (.inl (some (b)))), some (.inl (but)), some (.inl ((x : Int))), some (.inl (((bs (pzs (cN N 0) (cN N 1) (twG N but) p m) 16 : Nat) : Int))), some (.inl (u4)), some (.inl ((m : Int)))]) (fun m hm ih => ?_) ?_ 0 (Nat.zero_le _)
    · have am := ha m hm
      have e0 : pzs (cN N 0) (cN N 1) (twG N but) p (m + 1) = if twG N but m && (pzs (cN N 0) (cN N 1) (twG N but) p m (cN N 0 m) || pzs (cN N 0) (cN N 1) (twG N but) p m (cN N 1 m)) then (fun n => pzs (cN N 0) (cN N 1) (twG N but) p m n || (decide (n = cN N 0 m) || decide (n = cN N 1 m))) else pzs (cN N 0) (cN N 1) (twG N but) p m := rfl
      simp only [e0] at ih
      generalize pzs (cN N 0) (cN N 1) (twG N but) p m = q at *
      have X31 : bs q 16 < 2 ^ 31 := bs_31 _ (by omega)
      have t0 : (bs q 16).testBit (cN N 0 m) = q (cN N 0 m) := by rw [bs_bit, decide_eq_true am.1, Bool.true_and]
      have t1 : (bs q 16).testBit (cN N 1 m) = q (cN N 1 m) := by rw [bs_bit, decide_eq_true am.2, Bool.true_and]
      have ins := pb_ins2 q am.1 am.2
      refine pm_go_on [7, 19] 80 ?_
      set_option maxRecDepth 100000 in simp (maxSteps := 2000000) only [pm_x_run, pm_x_rt, pm_x_rf, pm_z_S, pm_z_D, pm_z_cut0, pm_z_cut1, pm_z_cli, pm_z_clr, pm_z_cln, pm_z_cll, pm_z_up, pm_x_aload0, pm_x_c, pm_x_c2, pm_x_cn0, pm_x_cn1, pm_x_getf, pm_x_gf, pm_x_goto, pm_x_gv, pm_x_ia, pm_x_iald, pm_x_icmp_eq, pm_x_icmp_ge, pm_x_if_eq, pm_x_if_ne, pm_x_iinc5, pm_x_iload1, pm_x_iload2, pm_x_iload3, pm_x_iload4, pm_x_iload5, pm_x_invs, pm_x_invv, pm_x_istore3, pm_x_istore4, pm_x_istore5, pm_x_v0, pm_x_v1, pm_x_x2, pm_z_cat0, pm_z_cati, pm_z_catl, pm_z_catr, pm_z_iconst, pm_z_ior, pm_z_ishl, pm_z_pop0, pm_z_pop1, pm_z_rcv0, zX5_tiedWithout_B, zX5_tiedWithout_F, zX5_tiedWithout_R, zX5_tiedWithout_X, zX5_tiedWithout_C133, zX5_tiedWithout_C69, zX5_tiedWithout_C101, pm_z_ireti (zX5_tiedWithout_R), fX5_7, dX5_tiedWithout_0, dX5_tiedWithout_1, dX5_tiedWithout_2, dX5_tiedWithout_3, dX5_tiedWithout_4, dX5_tiedWithout_5, dX5_tiedWithout_7, dX5_tiedWithout_9, dX5_tiedWithout_10, dX5_tiedWithout_13, dX5_tiedWithout_14, dX5_tiedWithout_16, dX5_tiedWithout_17, dX5_tiedWithout_19, dX5_tiedWithout_21, dX5_tiedWithout_22, dX5_tiedWithout_25, dX5_tiedWithout_26, dX5_tiedWithout_27, dX5_tiedWithout_30, dX5_tiedWithout_31, dX5_tiedWithout_33, dX5_tiedWithout_36, dX5_tiedWithout_39, dX5_tiedWithout_41, dX5_tiedWithout_42, dX5_tiedWithout_45, dX5_tiedWithout_46, dX5_tiedWithout_47, dX5_tiedWithout_49, dX5_tiedWithout_50, dX5_tiedWithout_53, dX5_tiedWithout_56, dX5_tiedWithout_59, dX5_tiedWithout_60, dX5_tiedWithout_61, dX5_tiedWithout_63, dX5_tiedWithout_64, dX5_tiedWithout_67, dX5_tiedWithout_70, dX5_tiedWithout_73, dX5_tiedWithout_74, dX5_tiedWithout_75, dX5_tiedWithout_76, dX5_tiedWithout_78, dX5_tiedWithout_79, dX5_tiedWithout_82, dX5_tiedWithout_83, dX5_tiedWithout_84, dX5_tiedWithout_85, dX5_tiedWithout_87, dX5_tiedWithout_88, dX5_tiedWithout_91, dX5_tiedWithout_92, dX5_tiedWithout_93, dX5_tiedWithout_94, dX5_tiedWithout_95, dX5_tiedWithout_98, dX5_tiedWithout_101, dX5_tiedWithout_104, dX5_tiedWithout_105, Bool.cond_true, Bool.cond_false, Bool.or_false, Bool.false_or, Bool.true_or, Bool.or_true, true_and, and_true, if_true, if_false, List.length_cons, List.length_nil, List.getElem?_cons_zero, List.getElem?_cons_succ, List.set_cons_zero, List.set_cons_succ, Option.toList_some, Option.toList_none, List.cons_append, List.nil_append, beq_self_eq_true, Option.isSome_some, Option.isSome_none, pm_tg_lit, ite_true, ite_false, Nat.reduceAdd, Nat.reduceBEq, Nat.reduceLT, Nat.reduceLeDiff, Nat.reduceEqDiff, Int.reduceAdd, Int.reduceSub, Int.reduceLE, Int.reduceLT, Int.reduceEq, Int.reduceToNat, Int.reduceNeg, Int.cast_ofNat_Int, Int.reduceNatCast, Int.reduceNatCast', Int.zero_add, Int.add_zero, Nat.zero_add, Nat.add_zero, and_self, decide_true, decide_false, true_or, or_true, or_false, false_or, eq_self, Int.toNat_natCast, b2_e0, b2_e1, b2_ok, b2_w, b2_v, b2_tt, b2_ff, Bool.true_eq_false, Bool.false_eq_true, Option.some.injEq, Int.one_mul, Int.mul_one, not_true_eq_false, not_false_eq_true, ite_not, decide_eq_false_iff_not, decide_eq_true_eq, Int.reduceMul, Int.reduceMod, mq0 h, mq1 h, mq2 h, mq3 h, mq4 h, mq5 h, mq6 h, mq7 h, mq8 h, mq9 h, mq10 h, mq11 h, mq12 h, mq13 h, pm_z_rcv1 (mq0 h), r_l hr, q_isTreeN h hr o hm, q_of0 h hr o hm, q_of1 h hr o hm, q_isOf X31 (show cN N 0 m < 31 by omega), q_isOf X31 (show cN N 1 m < 31 by omega), t0, t1, ins]
      rw [if_pos (by omega)]
      cases q1 : trN N m
      · rw [if_pos rfl]
        have : twG N but m = false := by unfold twG; rw [q1]; rfl
        rw [this] at ih
        exact ⟨by omega, ih⟩
      · rw [if_neg (by decide)]
        by_cases q2 : (m : Int) = but
        · rw [if_pos q2]
          have : twG N but m = false := by unfold twG; rw [q1]; simp [q2]
          rw [this] at ih
          exact ⟨by omega, ih⟩
        · rw [if_neg q2]
          have : twG N but m = true := by unfold twG; rw [q1]; simp [q2]
          rw [this] at ih
          cases q3 : q (cN N 0 m)
          · rw [if_pos rfl]
            cases q4 : q (cN N 1 m)
            · rw [if_pos rfl]
              rw [q3, q4] at ih
              exact ⟨by omega, ih⟩
            · rw [if_neg (by decide)]
              rw [q3, q4] at ih
              exact ⟨by omega, ih⟩
          · rw [if_neg (by decide)]
            rw [q3] at ih
            simp only [Bool.true_or, Bool.true_and, if_true] at ih
            exact ⟨by omega, ih⟩
    · refine pm_go_on [7, 19] 60 ?_
      set_option maxRecDepth 100000 in simp (maxSteps := 2000000) only [pm_x_run, pm_x_rt, pm_x_rf, pm_z_S, pm_z_D, pm_z_cut0, pm_z_cut1, pm_z_cli, pm_z_clr, pm_z_cln, pm_z_cll, pm_z_up, pm_x_aload0, pm_x_c, pm_x_c2, pm_x_cn0, pm_x_cn1, pm_x_getf, pm_x_gf, pm_x_goto, pm_x_gv, pm_x_ia, pm_x_iald, pm_x_icmp_eq, pm_x_icmp_ge, pm_x_if_eq, pm_x_if_ne, pm_x_iinc5, pm_x_iload1, pm_x_iload2, pm_x_iload3, pm_x_iload4, pm_x_iload5, pm_x_invs, pm_x_invv, pm_x_istore3, pm_x_istore4, pm_x_istore5, pm_x_v0, pm_x_v1, pm_x_x2, pm_z_cat0, pm_z_cati, pm_z_catl, pm_z_catr, pm_z_iconst, pm_z_ior, pm_z_ishl, pm_z_pop0, pm_z_pop1, pm_z_rcv0, zX5_tiedWithout_B, zX5_tiedWithout_F, zX5_tiedWithout_R, zX5_tiedWithout_X, zX5_tiedWithout_C133, zX5_tiedWithout_C69, zX5_tiedWithout_C101, pm_z_ireti (zX5_tiedWithout_R), fX5_7, dX5_tiedWithout_0, dX5_tiedWithout_1, dX5_tiedWithout_2, dX5_tiedWithout_3, dX5_tiedWithout_4, dX5_tiedWithout_5, dX5_tiedWithout_7, dX5_tiedWithout_9, dX5_tiedWithout_10, dX5_tiedWithout_13, dX5_tiedWithout_14, dX5_tiedWithout_16, dX5_tiedWithout_17, dX5_tiedWithout_19, dX5_tiedWithout_21, dX5_tiedWithout_22, dX5_tiedWithout_25, dX5_tiedWithout_26, dX5_tiedWithout_27, dX5_tiedWithout_30, dX5_tiedWithout_31, dX5_tiedWithout_33, dX5_tiedWithout_36, dX5_tiedWithout_39, dX5_tiedWithout_41, dX5_tiedWithout_42, dX5_tiedWithout_45, dX5_tiedWithout_46, dX5_tiedWithout_47, dX5_tiedWithout_49, dX5_tiedWithout_50, dX5_tiedWithout_53, dX5_tiedWithout_56, dX5_tiedWithout_59, dX5_tiedWithout_60, dX5_tiedWithout_61, dX5_tiedWithout_63, dX5_tiedWithout_64, dX5_tiedWithout_67, dX5_tiedWithout_70, dX5_tiedWithout_73, dX5_tiedWithout_74, dX5_tiedWithout_75, dX5_tiedWithout_76, dX5_tiedWithout_78, dX5_tiedWithout_79, dX5_tiedWithout_82, dX5_tiedWithout_83, dX5_tiedWithout_84, dX5_tiedWithout_85, dX5_tiedWithout_87, dX5_tiedWithout_88, dX5_tiedWithout_91, dX5_tiedWithout_92, dX5_tiedWithout_93, dX5_tiedWithout_94, dX5_tiedWithout_95, dX5_tiedWithout_98, dX5_tiedWithout_101, dX5_tiedWithout_104, dX5_tiedWithout_105, Bool.cond_true, Bool.cond_false, Bool.or_false, Bool.false_or, Bool.true_or, Bool.or_true, true_and, and_true, if_true, if_false, List.length_cons, List.length_nil, List.getElem?_cons_zero, List.getElem?_cons_succ, List.set_cons_zero, List.set_cons_succ, Option.toList_some, Option.toList_none, List.cons_append, List.nil_append, beq_self_eq_true, Option.isSome_some, Option.isSome_none, pm_tg_lit, ite_true, ite_false, Nat.reduceAdd, Nat.reduceBEq, Nat.reduceLT, Nat.reduceLeDiff, Nat.reduceEqDiff, Int.reduceAdd, Int.reduceSub, Int.reduceLE, Int.reduceLT, Int.reduceEq, Int.reduceToNat, Int.reduceNeg, Int.cast_ofNat_Int, Int.reduceNatCast, Int.reduceNatCast', Int.zero_add, Int.add_zero, Nat.zero_add, Nat.add_zero, and_self, decide_true, decide_false, true_or, or_true, or_false, false_or, eq_self, Int.toNat_natCast, b2_e0, b2_e1, b2_ok, b2_w, b2_v, b2_tt, b2_ff, Bool.true_eq_false, Bool.false_eq_true, Option.some.injEq, Int.one_mul, Int.mul_one, not_true_eq_false, not_false_eq_true, ite_not, decide_eq_false_iff_not, decide_eq_true_eq, Int.reduceMul, Int.reduceMod, mq0 h, mq1 h, mq2 h, mq3 h, mq4 h, mq5 h, mq6 h, mq7 h, mq8 h, mq9 h, mq10 h, mq11 h, mq12 h, mq13 h, pm_z_rcv1 (mq0 h), r_l hr]
      rw [if_neg (by omega)]
      exact he
  have outer : ∀ (n : Nat) (p : Nat → Bool) (u4 : Int) (w5 : Option pm_V), 16 ≤ cnt p 16 + n → p x = true → (∀ m, p m = true → clo (cN N 0) (cN N 1) (twG N but) (ldN N) x m) → (u4 = ((bs p 16 : Nat) : Int) → ∀ c, c < ldN N → twG N but c = true → (p (cN N 0 c) = true ↔ p (cN N 1 c) = true)) → pm_W eX5_tiedWithout k (fun _ _ => False) 7 [some (.inr (.inl (some (b)))), some (.inl (but)), some (.inl ((x : Int))), some (.inl (((bs p 16 : Nat) : Int))), some (.inl (u4)), w5] [] f := by
    intro n
    induction n with
    | zero =>
      intro p u4 w5 hn hp hcl hfx
      have all : ∀ m, m < 16 → p m = true := by
        intro m hm
        cases e : p m
        · have := cnt_lt (p := p) (q := fun _ => true) (n := 16) (fun _ _ _ => rfl) hm e rfl
          have := cnt_le (fun _ => true) 16
          omega
        · rfl
      have fx : ∀ c, c < ldN N → twG N but c = true → (p (cN N 0 c) = true ↔ p (cN N 1 c) = true) := fun c hc _ => by rw [all _ (ha c hc).1, all _ (ha c hc).2]
      have ex : ∀ (u : Int) (w : Option pm_V), u = ((bs p 16 : Nat) : Int) → pm_W eX5_tiedWithout k (fun _ _ => False) 7 [some (.inr (.inl (some (b)))), some (.inl (but)), some (.inl ((x : Int))), some (.inl (((bs p 16 : Nat) : Int))), some (.inl (u)), w] [] f := by
        intro u w hu
        refine pm_go_on [7, 19] 60 ?_
        set_option maxRecDepth 100000 in simp (maxSteps := 2000000) only [pm_x_run, pm_x_rt, pm_x_rf, pm_z_S, pm_z_D, pm_z_cut0, pm_z_cut1, pm_z_cli, pm_z_clr, pm_z_cln, pm_z_cll, pm_z_up, pm_x_aload0, pm_x_c, pm_x_c2, pm_x_cn0, pm_x_cn1, pm_x_getf, pm_x_gf, pm_x_goto, pm_x_gv, pm_x_ia, pm_x_iald, pm_x_icmp_eq, pm_x_icmp_ge, pm_x_if_eq, pm_x_if_ne, pm_x_iinc5, pm_x_iload1, pm_x_iload2, pm_x_iload3, pm_x_iload4, pm_x_iload5, pm_x_invs, pm_x_invv, pm_x_istore3, pm_x_istore4, pm_x_istore5, pm_x_v0, pm_x_v1, pm_x_x2, pm_z_cat0, pm_z_cati, pm_z_catl, pm_z_catr, pm_z_iconst, pm_z_ior, pm_z_ishl, pm_z_pop0, pm_z_pop1, pm_z_rcv0, zX5_tiedWithout_B, zX5_tiedWithout_F, zX5_tiedWithout_R, zX5_tiedWithout_X, zX5_tiedWithout_C133, zX5_tiedWithout_C69, zX5_tiedWithout_C101, pm_z_ireti (zX5_tiedWithout_R), fX5_7, dX5_tiedWithout_0, dX5_tiedWithout_1, dX5_tiedWithout_2, dX5_tiedWithout_3, dX5_tiedWithout_4, dX5_tiedWithout_5, dX5_tiedWithout_7, dX5_tiedWithout_9, dX5_tiedWithout_10, dX5_tiedWithout_13, dX5_tiedWithout_14, dX5_tiedWithout_16, dX5_tiedWithout_17, dX5_tiedWithout_19, dX5_tiedWithout_21, dX5_tiedWithout_22, dX5_tiedWithout_25, dX5_tiedWithout_26, dX5_tiedWithout_27, dX5_tiedWithout_30, dX5_tiedWithout_31, dX5_tiedWithout_33, dX5_tiedWithout_36, dX5_tiedWithout_39, dX5_tiedWithout_41, dX5_tiedWithout_42, dX5_tiedWithout_45, dX5_tiedWithout_46, dX5_tiedWithout_47, dX5_tiedWithout_49, dX5_tiedWithout_50, dX5_tiedWithout_53, dX5_tiedWithout_56, dX5_tiedWithout_59, dX5_tiedWithout_60, dX5_tiedWithout_61, dX5_tiedWithout_63, dX5_tiedWithout_64, dX5_tiedWithout_67, dX5_tiedWithout_70, dX5_tiedWithout_73, dX5_tiedWithout_74, dX5_tiedWithout_75, dX5_tiedWithout_76, dX5_tiedWithout_78, dX5_tiedWithout_79, dX5_tiedWithout_82, dX5_tiedWithout_83, dX5_tiedWithout_84, dX5_tiedWithout_85, dX5_tiedWithout_87, dX5_tiedWithout_88, dX5_tiedWithout_91, dX5_tiedWithout_92, dX5_tiedWithout_93, dX5_tiedWithout_94, dX5_tiedWithout_95, dX5_tiedWithout_98, dX5_tiedWithout_101, dX5_tiedWithout_104, dX5_tiedWithout_105, Bool.cond_true, Bool.cond_false, Bool.or_false, Bool.false_or, Bool.true_or, Bool.or_true, true_and, and_true, if_true, if_false, List.length_cons, List.length_nil, List.getElem?_cons_zero, List.getElem?_cons_succ, List.set_cons_zero, List.set_cons_succ, Option.toList_some, Option.toList_none, List.cons_append, List.nil_append, beq_self_eq_true, Option.isSome_some, Option.isSome_none, pm_tg_lit, ite_true, ite_false, Nat.reduceAdd, Nat.reduceBEq, Nat.reduceLT, Nat.reduceLeDiff, Nat.reduceEqDiff, Int.reduceAdd, Int.reduceSub, Int.reduceLE, Int.reduceLT, Int.reduceEq, Int.reduceToNat, Int.reduceNeg, Int.cast_ofNat_Int, Int.reduceNatCast, Int.reduceNatCast', Int.zero_add, Int.add_zero, Nat.zero_add, Nat.add_zero, and_self, decide_true, decide_false, true_or, or_true, or_false, false_or, eq_self, Int.toNat_natCast, b2_e0, b2_e1, b2_ok, b2_w, b2_v, b2_tt, b2_ff, Bool.true_eq_false, Bool.false_eq_true, Option.some.injEq, Int.one_mul, Int.mul_one, not_true_eq_false, not_false_eq_true, ite_not, decide_eq_false_iff_not, decide_eq_true_eq, Int.reduceMul, Int.reduceMod]
        rw [if_pos hu]
        exact hk p (fun m hm => ⟨hcl m, clo_closed hp fx⟩)
      by_cases e : u4 = ((bs p 16 : Nat) : Int)
      · exact ex u4 w5 e
      · refine pm_go_on [7, 19] 60 ?_
        set_option maxRecDepth 100000 in simp (maxSteps := 2000000) only [pm_x_run, pm_x_rt, pm_x_rf, pm_z_S, pm_z_D, pm_z_cut0, pm_z_cut1, pm_z_cli, pm_z_clr, pm_z_cln, pm_z_cll, pm_z_up, pm_x_aload0, pm_x_c, pm_x_c2, pm_x_cn0, pm_x_cn1, pm_x_getf, pm_x_gf, pm_x_goto, pm_x_gv, pm_x_ia, pm_x_iald, pm_x_icmp_eq, pm_x_icmp_ge, pm_x_if_eq, pm_x_if_ne, pm_x_iinc5, pm_x_iload1, pm_x_iload2, pm_x_iload3, pm_x_iload4, pm_x_iload5, pm_x_invs, pm_x_invv, pm_x_istore3, pm_x_istore4, pm_x_istore5, pm_x_v0, pm_x_v1, pm_x_x2, pm_z_cat0, pm_z_cati, pm_z_catl, pm_z_catr, pm_z_iconst, pm_z_ior, pm_z_ishl, pm_z_pop0, pm_z_pop1, pm_z_rcv0, zX5_tiedWithout_B, zX5_tiedWithout_F, zX5_tiedWithout_R, zX5_tiedWithout_X, zX5_tiedWithout_C133, zX5_tiedWithout_C69, zX5_tiedWithout_C101, pm_z_ireti (zX5_tiedWithout_R), fX5_7, dX5_tiedWithout_0, dX5_tiedWithout_1, dX5_tiedWithout_2, dX5_tiedWithout_3, dX5_tiedWithout_4, dX5_tiedWithout_5, dX5_tiedWithout_7, dX5_tiedWithout_9, dX5_tiedWithout_10, dX5_tiedWithout_13, dX5_tiedWithout_14, dX5_tiedWithout_16, dX5_tiedWithout_17, dX5_tiedWithout_19, dX5_tiedWithout_21, dX5_tiedWithout_22, dX5_tiedWithout_25, dX5_tiedWithout_26, dX5_tiedWithout_27, dX5_tiedWithout_30, dX5_tiedWithout_31, dX5_tiedWithout_33, dX5_tiedWithout_36, dX5_tiedWithout_39, dX5_tiedWithout_41, dX5_tiedWithout_42, dX5_tiedWithout_45, dX5_tiedWithout_46, dX5_tiedWithout_47, dX5_tiedWithout_49, dX5_tiedWithout_50, dX5_tiedWithout_53, dX5_tiedWithout_56, dX5_tiedWithout_59, dX5_tiedWithout_60, dX5_tiedWithout_61, dX5_tiedWithout_63, dX5_tiedWithout_64, dX5_tiedWithout_67, dX5_tiedWithout_70, dX5_tiedWithout_73, dX5_tiedWithout_74, dX5_tiedWithout_75, dX5_tiedWithout_76, dX5_tiedWithout_78, dX5_tiedWithout_79, dX5_tiedWithout_82, dX5_tiedWithout_83, dX5_tiedWithout_84, dX5_tiedWithout_85, dX5_tiedWithout_87, dX5_tiedWithout_88, dX5_tiedWithout_91, dX5_tiedWithout_92, dX5_tiedWithout_93, dX5_tiedWithout_94, dX5_tiedWithout_95, dX5_tiedWithout_98, dX5_tiedWithout_101, dX5_tiedWithout_104, dX5_tiedWithout_105, Bool.cond_true, Bool.cond_false, Bool.or_false, Bool.false_or, Bool.true_or, Bool.or_true, true_and, and_true, if_true, if_false, List.length_cons, List.length_nil, List.getElem?_cons_zero, List.getElem?_cons_succ, List.set_cons_zero, List.set_cons_succ, Option.toList_some, Option.toList_none, List.cons_append, List.nil_append, beq_self_eq_true, Option.isSome_some, Option.isSome_none, pm_tg_lit, ite_true, ite_false, Nat.reduceAdd, Nat.reduceBEq, Nat.reduceLT, Nat.reduceLeDiff, Nat.reduceEqDiff, Int.reduceAdd, Int.reduceSub, Int.reduceLE, Int.reduceLT, Int.reduceEq, Int.reduceToNat, Int.reduceNeg, Int.cast_ofNat_Int, Int.reduceNatCast, Int.reduceNatCast', Int.zero_add, Int.add_zero, Nat.zero_add, Nat.add_zero, and_self, decide_true, decide_false, true_or, or_true, or_false, false_or, eq_self, Int.toNat_natCast, b2_e0, b2_e1, b2_ok, b2_w, b2_v, b2_tt, b2_ff, Bool.true_eq_false, Bool.false_eq_true, Option.some.injEq, Int.one_mul, Int.mul_one, not_true_eq_false, not_false_eq_true, ite_not, decide_eq_false_iff_not, decide_eq_true_eq, Int.reduceMul, Int.reduceMod]
        rw [if_neg e]
        refine pass p _ ?_
        have : bs (pzs (cN N 0) (cN N 1) (twG N but) p (ldN N)) 16 = bs p 16 := bs_ext (fun m hm => by rw [all m hm]; exact pzs_up _ (all m hm))
        rw [this]
        exact ex _ _ rfl
    | succ n ih =>
      intro p u4 w5 hn hp hcl hfx
      refine pm_go_on [7, 19] 60 ?_
      set_option maxRecDepth 100000 in simp (maxSteps := 2000000) only [pm_x_run, pm_x_rt, pm_x_rf, pm_z_S, pm_z_D, pm_z_cut0, pm_z_cut1, pm_z_cli, pm_z_clr, pm_z_cln, pm_z_cll, pm_z_up, pm_x_aload0, pm_x_c, pm_x_c2, pm_x_cn0, pm_x_cn1, pm_x_getf, pm_x_gf, pm_x_goto, pm_x_gv, pm_x_ia, pm_x_iald, pm_x_icmp_eq, pm_x_icmp_ge, pm_x_if_eq, pm_x_if_ne, pm_x_iinc5, pm_x_iload1, pm_x_iload2, pm_x_iload3, pm_x_iload4, pm_x_iload5, pm_x_invs, pm_x_invv, pm_x_istore3, pm_x_istore4, pm_x_istore5, pm_x_v0, pm_x_v1, pm_x_x2, pm_z_cat0, pm_z_cati, pm_z_catl, pm_z_catr, pm_z_iconst, pm_z_ior, pm_z_ishl, pm_z_pop0, pm_z_pop1, pm_z_rcv0, zX5_tiedWithout_B, zX5_tiedWithout_F, zX5_tiedWithout_R, zX5_tiedWithout_X, zX5_tiedWithout_C133, zX5_tiedWithout_C69, zX5_tiedWithout_C101, pm_z_ireti (zX5_tiedWithout_R), fX5_7, dX5_tiedWithout_0, dX5_tiedWithout_1, dX5_tiedWithout_2, dX5_tiedWithout_3, dX5_tiedWithout_4, dX5_tiedWithout_5, dX5_tiedWithout_7, dX5_tiedWithout_9, dX5_tiedWithout_10, dX5_tiedWithout_13, dX5_tiedWithout_14, dX5_tiedWithout_16, dX5_tiedWithout_17, dX5_tiedWithout_19, dX5_tiedWithout_21, dX5_tiedWithout_22, dX5_tiedWithout_25, dX5_tiedWithout_26, dX5_tiedWithout_27, dX5_tiedWithout_30, dX5_tiedWithout_31, dX5_tiedWithout_33, dX5_tiedWithout_36, dX5_tiedWithout_39, dX5_tiedWithout_41, dX5_tiedWithout_42, dX5_tiedWithout_45, dX5_tiedWithout_46, dX5_tiedWithout_47, dX5_tiedWithout_49, dX5_tiedWithout_50, dX5_tiedWithout_53, dX5_tiedWithout_56, dX5_tiedWithout_59, dX5_tiedWithout_60, dX5_tiedWithout_61, dX5_tiedWithout_63, dX5_tiedWithout_64, dX5_tiedWithout_67, dX5_tiedWithout_70, dX5_tiedWithout_73, dX5_tiedWithout_74, dX5_tiedWithout_75, dX5_tiedWithout_76, dX5_tiedWithout_78, dX5_tiedWithout_79, dX5_tiedWithout_82, dX5_tiedWithout_83, dX5_tiedWithout_84, dX5_tiedWithout_85, dX5_tiedWithout_87, dX5_tiedWithout_88, dX5_tiedWithout_91, dX5_tiedWithout_92, dX5_tiedWithout_93, dX5_tiedWithout_94, dX5_tiedWithout_95, dX5_tiedWithout_98, dX5_tiedWithout_101, dX5_tiedWithout_104, dX5_tiedWithout_105, Bool.cond_true, Bool.cond_false, Bool.or_false, Bool.false_or, Bool.true_or, Bool.or_true, true_and, and_true, if_true, if_false, List.length_cons, List.length_nil, List.getElem?_cons_zero, List.getElem?_cons_succ, List.set_cons_zero, List.set_cons_succ, Option.toList_some, Option.toList_none, List.cons_append, List.nil_append, beq_self_eq_true, Option.isSome_some, Option.isSome_none, pm_tg_lit, ite_true, ite_false, Nat.reduceAdd, Nat.reduceBEq, Nat.reduceLT, Nat.reduceLeDiff, Nat.reduceEqDiff, Int.reduceAdd, Int.reduceSub, Int.reduceLE, Int.reduceLT, Int.reduceEq, Int.reduceToNat, Int.reduceNeg, Int.cast_ofNat_Int, Int.reduceNatCast, Int.reduceNatCast', Int.zero_add, Int.add_zero, Nat.zero_add, Nat.add_zero, and_self, decide_true, decide_false, true_or, or_true, or_false, false_or, eq_self, Int.toNat_natCast, b2_e0, b2_e1, b2_ok, b2_w, b2_v, b2_tt, b2_ff, Bool.true_eq_false, Bool.false_eq_true, Option.some.injEq, Int.one_mul, Int.mul_one, not_true_eq_false, not_false_eq_true, ite_not, decide_eq_false_iff_not, decide_eq_true_eq, Int.reduceMul, Int.reduceMod]
      by_cases e : u4 = ((bs p 16 : Nat) : Int)
      · rw [if_pos e]
        exact hk p (fun m hm => ⟨hcl m, clo_closed hp (hfx e)⟩)
      · rw [if_neg e]
        refine pass p _ ?_
        by_cases eq : bs (pzs (cN N 0) (cN N 1) (twG N but) p (ldN N)) 16 = bs p 16
        · have fx := pzs_fix (g := twG N but) ha (bs_inj eq)
          rw [eq]
          refine pm_go_on [7, 19] 60 ?_
          set_option maxRecDepth 100000 in simp (maxSteps := 2000000) only [pm_x_run, pm_x_rt, pm_x_rf, pm_z_S, pm_z_D, pm_z_cut0, pm_z_cut1, pm_z_cli, pm_z_clr, pm_z_cln, pm_z_cll, pm_z_up, pm_x_aload0, pm_x_c, pm_x_c2, pm_x_cn0, pm_x_cn1, pm_x_getf, pm_x_gf, pm_x_goto, pm_x_gv, pm_x_ia, pm_x_iald, pm_x_icmp_eq, pm_x_icmp_ge, pm_x_if_eq, pm_x_if_ne, pm_x_iinc5, pm_x_iload1, pm_x_iload2, pm_x_iload3, pm_x_iload4, pm_x_iload5, pm_x_invs, pm_x_invv, pm_x_istore3, pm_x_istore4, pm_x_istore5, pm_x_v0, pm_x_v1, pm_x_x2, pm_z_cat0, pm_z_cati, pm_z_catl, pm_z_catr, pm_z_iconst, pm_z_ior, pm_z_ishl, pm_z_pop0, pm_z_pop1, pm_z_rcv0, zX5_tiedWithout_B, zX5_tiedWithout_F, zX5_tiedWithout_R, zX5_tiedWithout_X, zX5_tiedWithout_C133, zX5_tiedWithout_C69, zX5_tiedWithout_C101, pm_z_ireti (zX5_tiedWithout_R), fX5_7, dX5_tiedWithout_0, dX5_tiedWithout_1, dX5_tiedWithout_2, dX5_tiedWithout_3, dX5_tiedWithout_4, dX5_tiedWithout_5, dX5_tiedWithout_7, dX5_tiedWithout_9, dX5_tiedWithout_10, dX5_tiedWithout_13, dX5_tiedWithout_14, dX5_tiedWithout_16, dX5_tiedWithout_17, dX5_tiedWithout_19, dX5_tiedWithout_21, dX5_tiedWithout_22, dX5_tiedWithout_25, dX5_tiedWithout_26, dX5_tiedWithout_27, dX5_tiedWithout_30, dX5_tiedWithout_31, dX5_tiedWithout_33, dX5_tiedWithout_36, dX5_tiedWithout_39, dX5_tiedWithout_41, dX5_tiedWithout_42, dX5_tiedWithout_45, dX5_tiedWithout_46, dX5_tiedWithout_47, dX5_tiedWithout_49, dX5_tiedWithout_50, dX5_tiedWithout_53, dX5_tiedWithout_56, dX5_tiedWithout_59, dX5_tiedWithout_60, dX5_tiedWithout_61, dX5_tiedWithout_63, dX5_tiedWithout_64, dX5_tiedWithout_67, dX5_tiedWithout_70, dX5_tiedWithout_73, dX5_tiedWithout_74, dX5_tiedWithout_75, dX5_tiedWithout_76, dX5_tiedWithout_78, dX5_tiedWithout_79, dX5_tiedWithout_82, dX5_tiedWithout_83, dX5_tiedWithout_84, dX5_tiedWithout_85, dX5_tiedWithout_87, dX5_tiedWithout_88, dX5_tiedWithout_91, dX5_tiedWithout_92, dX5_tiedWithout_93, dX5_tiedWithout_94, dX5_tiedWithout_95, dX5_tiedWithout_98, dX5_tiedWithout_101, dX5_tiedWithout_104, dX5_tiedWithout_105, Bool.cond_true, Bool.cond_false, Bool.or_false, Bool.false_or, Bool.true_or, Bool.or_true, true_and, and_true, if_true, if_false, List.length_cons, List.length_nil, List.getElem?_cons_zero, List.getElem?_cons_succ, List.set_cons_zero, List.set_cons_succ, Option.toList_some, Option.toList_none, List.cons_append, List.nil_append, beq_self_eq_true, Option.isSome_some, Option.isSome_none, pm_tg_lit, ite_true, ite_false, Nat.reduceAdd, Nat.reduceBEq, Nat.reduceLT, Nat.reduceLeDiff, Nat.reduceEqDiff, Int.reduceAdd, Int.reduceSub, Int.reduceLE, Int.reduceLT, Int.reduceEq, Int.reduceToNat, Int.reduceNeg, Int.cast_ofNat_Int, Int.reduceNatCast, Int.reduceNatCast', Int.zero_add, Int.add_zero, Nat.zero_add, Nat.add_zero, and_self, decide_true, decide_false, true_or, or_true, or_false, false_or, eq_self, Int.toNat_natCast, b2_e0, b2_e1, b2_ok, b2_w, b2_v, b2_tt, b2_ff, Bool.true_eq_false, Bool.false_eq_true, Option.some.injEq, Int.one_mul, Int.mul_one, not_true_eq_false, not_false_eq_true, ite_not, decide_eq_false_iff_not, decide_eq_true_eq, Int.reduceMul, Int.reduceMod]
          exact hk p (fun m hm => ⟨hcl m, clo_closed hp fx⟩)
        · refine ih _ _ _ ?_ (pzs_up _ hp) (fun m hm => pzs_clo hcl _ (Nat.le_refl _) m hm) (fun z => absurd (by omega) eq)
          obtain ⟨j, hj, hne⟩ := bs_ne eq
          have hpf : p j = false := by
            cases e2 : p j
            · rfl
            · exact absurd ((pzs_up _ e2).trans e2.symm) hne
          have hqt : pzs (cN N 0) (cN N 1) (twG N but) p (ldN N) j = true := by
            cases e2 : pzs (cN N 0) (cN N 1) (twG N but) p (ldN N) j
            · exact absurd (e2.trans hpf.symm) hne
            · rfl
          have : cnt p 16 < cnt (pzs (cN N 0) (cN N 1) (twG N but) p (ldN N)) 16 := cnt_lt (fun i _ hi => pzs_up (a0 := cN N 0) (a1 := cN N 1) (g := twG N but) (ldN N) hi) hj hpf hqt
          omega
  have e1 : pm_shl 1 (x : Int) = ((bs (fun i => decide (i = x)) 16 : Nat) : Int) := by
    have i2 : (2 : Nat) ^ x < 2 ^ 16 := Nat.pow_lt_pow_right (by omega) hx
    rw [show (1 : Int) = ((1 : Nat) : Int) from rfl, pb_shl (by omega) (by omega), Nat.one_mul, bs_one hx]
  refine in_X5_tiedWithout ?_
  refine pm_go_on [7, 19] 60 ?_
  set_option maxRecDepth 100000 in simp (maxSteps := 2000000) only [pm_x_run, pm_x_rt, pm_x_rf, pm_z_S, pm_z_D, pm_z_cut0, pm_z_cut1, pm_z_cli, pm_z_clr, pm_z_cln, pm_z_cll, pm_z_up, pm_x_aload0, pm_x_c, pm_x_c2, pm_x_cn0, pm_x_cn1, pm_x_getf, pm_x_gf, pm_x_goto, pm_x_gv, pm_x_ia, pm_x_iald, pm_x_icmp_eq, pm_x_icmp_ge, pm_x_if_eq, pm_x_if_ne, pm_x_iinc5, pm_x_iload1, pm_x_iload2, pm_x_iload3, pm_x_iload4, pm_x_iload5, pm_x_invs, pm_x_invv, pm_x_istore3, pm_x_istore4, pm_x_istore5, pm_x_v0, pm_x_v1, pm_x_x2, pm_z_cat0, pm_z_cati, pm_z_catl, pm_z_catr, pm_z_iconst, pm_z_ior, pm_z_ishl, pm_z_pop0, pm_z_pop1, pm_z_rcv0, zX5_tiedWithout_B, zX5_tiedWithout_F, zX5_tiedWithout_R, zX5_tiedWithout_X, zX5_tiedWithout_C133, zX5_tiedWithout_C69, zX5_tiedWithout_C101, pm_z_ireti (zX5_tiedWithout_R), fX5_7, dX5_tiedWithout_0, dX5_tiedWithout_1, dX5_tiedWithout_2, dX5_tiedWithout_3, dX5_tiedWithout_4, dX5_tiedWithout_5, dX5_tiedWithout_7, dX5_tiedWithout_9, dX5_tiedWithout_10, dX5_tiedWithout_13, dX5_tiedWithout_14, dX5_tiedWithout_16, dX5_tiedWithout_17, dX5_tiedWithout_19, dX5_tiedWithout_21, dX5_tiedWithout_22, dX5_tiedWithout_25, dX5_tiedWithout_26, dX5_tiedWithout_27, dX5_tiedWithout_30, dX5_tiedWithout_31, dX5_tiedWithout_33, dX5_tiedWithout_36, dX5_tiedWithout_39, dX5_tiedWithout_41, dX5_tiedWithout_42, dX5_tiedWithout_45, dX5_tiedWithout_46, dX5_tiedWithout_47, dX5_tiedWithout_49, dX5_tiedWithout_50, dX5_tiedWithout_53, dX5_tiedWithout_56, dX5_tiedWithout_59, dX5_tiedWithout_60, dX5_tiedWithout_61, dX5_tiedWithout_63, dX5_tiedWithout_64, dX5_tiedWithout_67, dX5_tiedWithout_70, dX5_tiedWithout_73, dX5_tiedWithout_74, dX5_tiedWithout_75, dX5_tiedWithout_76, dX5_tiedWithout_78, dX5_tiedWithout_79, dX5_tiedWithout_82, dX5_tiedWithout_83, dX5_tiedWithout_84, dX5_tiedWithout_85, dX5_tiedWithout_87, dX5_tiedWithout_88, dX5_tiedWithout_91, dX5_tiedWithout_92, dX5_tiedWithout_93, dX5_tiedWithout_94, dX5_tiedWithout_95, dX5_tiedWithout_98, dX5_tiedWithout_101, dX5_tiedWithout_104, dX5_tiedWithout_105, Bool.cond_true, Bool.cond_false, Bool.or_false, Bool.false_or, Bool.true_or, Bool.or_true, true_and, and_true, if_true, if_false, List.length_cons, List.length_nil, List.getElem?_cons_zero, List.getElem?_cons_succ, List.set_cons_zero, List.set_cons_succ, Option.toList_some, Option.toList_none, List.cons_append, List.nil_append, beq_self_eq_true, Option.isSome_some, Option.isSome_none, pm_tg_lit, ite_true, ite_false, Nat.reduceAdd, Nat.reduceBEq, Nat.reduceLT, Nat.reduceLeDiff, Nat.reduceEqDiff, Int.reduceAdd, Int.reduceSub, Int.reduceLE, Int.reduceLT, Int.reduceEq, Int.reduceToNat, Int.reduceNeg, Int.cast_ofNat_Int, Int.reduceNatCast, Int.reduceNatCast', Int.zero_add, Int.add_zero, Nat.zero_add, Nat.add_zero, and_self, decide_true, decide_false, true_or, or_true, or_false, false_or, eq_self, Int.toNat_natCast, b2_e0, b2_e1, b2_ok, b2_w, b2_v, b2_tt, b2_ff, Bool.true_eq_false, Bool.false_eq_true, Option.some.injEq, Int.one_mul, Int.mul_one, not_true_eq_false, not_false_eq_true, ite_not, decide_eq_false_iff_not, decide_eq_true_eq, Int.reduceMul, Int.reduceMod, e1]
  refine outer 16 _ 0 none (by omega) (by simp) (fun m hm => ?_) (fun z => ?_)
  · have : m = x := by simpa using hm
    rw [this]; exact clo_rf
  · exfalso
    have : (bs (fun i => decide (i = x)) 16).testBit x = true := by rw [bs_bit]; simp [hx]
    have z2 : bs (fun i => decide (i = x)) 16 = 0 := by omega
    rw [z2] at this
    simp at this
end TW
