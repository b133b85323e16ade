theorem pm_tg_lit {pc : Nat} {o : Int} : pm_tg pc o = if 0 ≤ (pc : Int) + o then some ((pc : Int) + o).toNat else none := rfl
theorem pb_ofN (n : Nat) : Int32.ofInt (n : Int) = nI n := rfl
theorem pb_or' (a b : Nat) : nI a ||| nI b = nI (a ||| b) := by
  apply Int32.toBitVec_inj.mp
  simp only [nI, Int32.toBitVec_or, Int32.toBitVec_ofNat']
  apply BitVec.eq_of_getLsbD_eq
  intro i hi
  simp [BitVec.getLsbD_or, BitVec.getLsbD_ofNat, hi, Nat.testBit_or]
theorem pb_and' (a b : Nat) : nI a &&& nI b = nI (a &&& b) := by
  apply Int32.toBitVec_inj.mp
  simp only [nI, Int32.toBitVec_and, Int32.toBitVec_ofNat']
  apply BitVec.eq_of_getLsbD_eq
  intro i hi
  simp [BitVec.getLsbD_and, BitVec.getLsbD_ofNat, hi, Nat.testBit_and]
theorem pb_xor' (a b : Nat) : nI a ^^^ nI b = nI (a ^^^ b) := by
  apply Int32.toBitVec_inj.mp
  simp only [nI, Int32.toBitVec_xor, Int32.toBitVec_ofNat']
  apply BitVec.eq_of_getLsbD_eq
  intro i hi
  simp [BitVec.getLsbD_xor, BitVec.getLsbD_ofNat, hi, Nat.testBit_xor]
theorem pb_or {a b : Nat} (ha : a < 2 ^ 31) (hb : b < 2 ^ 31) : pm_or (a : Int) (b : Int) = ((a ||| b : Nat) : Int) := by
  unfold pm_or
  rw [pb_ofN, pb_ofN, pb_or']
  exact nI_toInt (Nat.or_lt_two_pow ha hb)
theorem pb_and {a b : Nat} (ha : a < 2 ^ 31) : pm_and (a : Int) (b : Int) = ((a &&& b : Nat) : Int) := by
  unfold pm_and
  rw [pb_ofN, pb_ofN, pb_and']
  exact nI_toInt (Nat.lt_of_le_of_lt Nat.and_le_left ha)
theorem pb_xor {a b : Nat} (ha : a < 2 ^ 31) (hb : b < 2 ^ 31) : pm_xor (a : Int) (b : Int) = ((a ^^^ b : Nat) : Int) := by
  unfold pm_xor
  rw [pb_ofN, pb_ofN, pb_xor']
  exact nI_toInt (Nat.xor_lt_two_pow ha hb)
theorem pb_cnt : ∀ k, k < 32 → ((nI k &&& 31).toBitVec.smod 32).toNat = k := by decide +kernel
theorem pb_shl {a k : Nat} (hk : k < 31) (h : a * 2 ^ k < 2 ^ 31) : pm_shl (a : Int) (k : Int) = ((a * 2 ^ k : Nat) : Int) := by
  unfold pm_shl
  rw [pb_ofN, pb_ofN, pk_shlN (nI k &&& 31) k (pb_cnt k (by omega)) (by omega)]
  exact nI_toInt h
theorem pb_shr {a k : Nat} (hk : k < 32) (h : a < 2 ^ 31) : pm_shr (a : Int) (k : Int) = ((a / 2 ^ k : Nat) : Int) := by
  unfold pm_shr
  rw [pb_ofN, pb_ofN, pk_shrN h (nI k &&& 31) k (pb_cnt k hk)]
  exact nI_toInt (Nat.lt_of_le_of_lt (Nat.div_le_self _ _) h)
/-- a set of numbers below n, as bits -/
def bs (p : Nat → Bool) : Nat → Nat
  | 0 => 0
  | n + 1 => bs p n + (if p n then 2 ^ n else 0)
theorem bs_lt (p : Nat → Bool) : ∀ n, bs p n < 2 ^ n
  | 0 => by simp [bs]
  | n + 1 => by
    have := bs_lt p n
    unfold bs
    split <;> omega
theorem bs_bit (p : Nat → Bool) : ∀ n i, (bs p n).testBit i = (decide (i < n) && p i)
  | 0, i => by simp [bs]
  | n + 1, i => by
    have h := bs_lt p n
    unfold bs
    split
    · rename_i hp
      have e : 2 ^ n + bs p n = 2 ^ n ||| bs p n := by
        have := Nat.two_pow_add_eq_or_of_lt h 1
        simpa using this
      rw [Nat.add_comm, e, Nat.testBit_or, Nat.testBit_two_pow, bs_bit p n i]
      by_cases hi : i = n
      · subst hi
        simp [hp]
      · have h1 : decide (n = i) = false := decide_eq_false (fun q => hi q.symm)
        rw [h1, Bool.false_or]
        congr 1
        exact decide_eq_decide.mpr (by omega)
    · rename_i hp
      rw [Nat.add_zero, bs_bit p n i]
      by_cases hi : i = n
      · subst hi
        simp [hp]
      · congr 1
        exact decide_eq_decide.mpr (by omega)
theorem bs_ext {p q : Nat → Bool} : ∀ {n : Nat}, (∀ i, i < n → p i = q i) → bs p n = bs q n
  | 0, _ => rfl
  | n + 1, h => by
    unfold bs
    rw [bs_ext (fun i hi => h i (by omega)), h n (by omega)]
theorem bs_inj {p q : Nat → Bool} {n : Nat} (h : bs p n = bs q n) : ∀ i, i < n → p i = q i := fun i hi => by
  have h1 := bs_bit p n i
  rw [h, bs_bit q n i] at h1
  simpa [hi] using h1.symm
theorem bs_eq {x n : Nat} (hx : x < 2 ^ n) : x = bs (fun i => x.testBit i) n := by
  apply Nat.eq_of_testBit_eq
  intro i
  rw [bs_bit]
  by_cases hi : i < n
  · simp [hi]
  · rw [decide_eq_false hi, Bool.false_and]
    exact Nat.testBit_lt_two_pow (Nat.lt_of_lt_of_le hx (Nat.pow_le_pow_right (by omega) (by omega)))
theorem bs_or (p q : Nat → Bool) (n : Nat) : bs p n ||| bs q n = bs (fun i => p i || q i) n := by
  apply Nat.eq_of_testBit_eq
  intro i
  rw [Nat.testBit_or, bs_bit, bs_bit, bs_bit]
  cases decide (i < n) <;> simp
theorem bs_and (p q : Nat → Bool) (n : Nat) : bs p n &&& bs q n = bs (fun i => p i && q i) n := by
  apply Nat.eq_of_testBit_eq
  intro i
  rw [Nat.testBit_and, bs_bit, bs_bit, bs_bit]
  cases decide (i < n) <;> simp
theorem bs_one {k n : Nat} (h : k < n) : 2 ^ k = bs (fun i => decide (i = k)) n := by
  apply Nat.eq_of_testBit_eq
  intro i
  rw [Nat.testBit_two_pow, bs_bit]
  by_cases hi : i = k
  · subst hi; simp [h]
  · simp [hi, Ne.symm hi]
theorem bs_none (n : Nat) : bs (fun _ => false) n = 0 := by
  apply Nat.eq_of_testBit_eq
  intro i
  rw [bs_bit]
  simp
/-- how many -/
def bc (p : Nat → Bool) : Nat → Nat
  | 0 => 0
  | n + 1 => bc p n + (if p n then 1 else 0)
theorem pb_ins (p : Nat → Bool) {k : Nat} (hk : k < 16) : pm_or ((bs p 16 : Nat) : Int) (pm_shl 1 (k : Int)) = ((bs (fun n => p n || decide (k = n)) 16 : Nat) : Int) := by
  have h1 : (1 : Int) = ((1 : Nat) : Int) := rfl
  have h2 : (2 : Nat) ^ k < 2 ^ 16 := Nat.pow_lt_pow_right (by omega) hk
  rw [h1, pb_shl (by omega) (by omega), Nat.one_mul, pb_or (by have := bs_lt p 16; omega) (by omega), bs_one hk, bs_or]
  congr 1
  apply bs_ext
  intro i _
  by_cases h : i = k
  · subst h; simp
  · simp [h, Ne.symm h]
theorem pb_holds {x k : Nat} (hk : k < 31) (hx : x < 2 ^ 31) : pm_and (pm_shr (x : Int) (k : Int)) 1 = if x.testBit k then 1 else 0 := by
  have h1 : (1 : Int) = ((1 : Nat) : Int) := rfl
  rw [pb_shr (by omega) hx, h1, pb_and (Nat.lt_of_le_of_lt (Nat.div_le_self _ _) hx), Nat.and_one_is_mod]
  rw [Nat.testBit_eq_decide_div_mod_eq]
  rcases Nat.mod_two_eq_zero_or_one (x / 2 ^ k) with h | h <;> rw [h] <;> simp
/-- a boolean as the machine has it -/
def b2 (b : Bool) : Int := if b then 1 else 0
theorem b2_0 {b : Bool} : b2 b = 0 ↔ b = false := by cases b <;> simp [b2]
theorem b2_1 {b : Bool} : (b2 b = 0 ∨ b2 b = 1) := by cases b <;> simp [b2]
theorem holds_sp {f : pm_H} {x k : Nat} {q : pm_P} (hk : k < 31) (hx : x < 2 ^ 31) (h : q (some (.inl (b2 (x.testBit k)))) f) : pm_ex T_X4_holds [.inl (x : Int), .inl (k : Int)] f q := by
  refine in_X4_holds ?_
  refine pm_go_on [] 40 ?_
  set_option maxRecDepth 100000 in simp (maxSteps := 2000000) only [pm_x_run, pm_x_rt, pm_x_rf, pm_z_S, pm_z_D, pm_z_cut0, pm_z_cut1, pm_z_cli, pm_z_clr, pm_z_cln, pm_z_cll, pm_z_up, pm_x_goto, pm_x_if_eq, pm_x_iload0, pm_x_iload1, pm_z_iand, pm_z_iconst, pm_z_ishr, Bool.cond_true, Bool.cond_false, Bool.or_false, Bool.false_or, Bool.true_or, Bool.or_true, true_and, and_true, if_true, if_false, List.length_cons, List.length_nil, List.getElem?_cons_zero, List.getElem?_cons_succ, List.set_cons_zero, List.set_cons_succ, Option.toList_some, Option.toList_none, List.cons_append, List.nil_append, beq_self_eq_true, Option.isSome_some, Option.isSome_none, pm_tg_lit, ite_true, ite_false, Nat.reduceAdd, Nat.reduceBEq, Nat.reduceLT, Nat.reduceLeDiff, Nat.reduceEqDiff, Int.reduceAdd, Int.reduceSub, Int.reduceLE, Int.reduceLT, Int.reduceEq, Int.reduceToNat, Int.reduceNeg, Int.cast_ofNat_Int, Int.reduceNatCast, Int.reduceNatCast', Int.zero_add, Int.add_zero, Nat.zero_add, Nat.add_zero, and_self, decide_true, decide_false, zX4_holds_B, zX4_holds_F, zX4_holds_R, zX4_holds_X, pm_z_iretz (zX4_holds_R), dX4_holds_0, dX4_holds_1, dX4_holds_2, dX4_holds_3, dX4_holds_4, dX4_holds_5, dX4_holds_8, dX4_holds_9, dX4_holds_12, dX4_holds_13]
  rw [pb_holds hk hx]
  cases hb : x.testBit k
  · rw [hb] at h
    simpa [b2] using h
  · rw [hb] at h
    simpa [b2] using h
theorem isOf_sp {f : pm_H} {x k : Nat} {q : pm_P} (hk : k < 31) (hx : x < 2 ^ 31) (h : q (some (.inl (b2 (x.testBit k)))) f) : pm_ex T_X5_isOf [.inl (x : Int), .inl (k : Int)] f q := by
  refine in_X5_isOf ?_
  refine pm_go_on [] 40 ?_
  set_option maxRecDepth 100000 in simp (maxSteps := 2000000) only [pm_x_run, pm_x_rt, pm_x_rf, pm_z_S, pm_z_D, pm_z_cut0, pm_z_cut1, pm_z_cli, pm_z_clr, pm_z_cln, pm_z_cll, pm_z_up, pm_x_goto, pm_x_icmp_ne, pm_x_iload0, pm_x_iload1, pm_z_iand, pm_z_iconst, pm_z_ishr, Bool.cond_true, Bool.cond_false, Bool.or_false, Bool.false_or, Bool.true_or, Bool.or_true, true_and, and_true, if_true, if_false, List.length_cons, List.length_nil, List.getElem?_cons_zero, List.getElem?_cons_succ, List.set_cons_zero, List.set_cons_succ, Option.toList_some, Option.toList_none, List.cons_append, List.nil_append, beq_self_eq_true, Option.isSome_some, Option.isSome_none, pm_tg_lit, ite_true, ite_false, Nat.reduceAdd, Nat.reduceBEq, Nat.reduceLT, Nat.reduceLeDiff, Nat.reduceEqDiff, Int.reduceAdd, Int.reduceSub, Int.reduceLE, Int.reduceLT, Int.reduceEq, Int.reduceToNat, Int.reduceNeg, Int.cast_ofNat_Int, Int.reduceNatCast, Int.reduceNatCast', Int.zero_add, Int.add_zero, Nat.zero_add, Nat.add_zero, and_self, decide_true, decide_false, zX5_isOf_B, zX5_isOf_F, zX5_isOf_R, zX5_isOf_X, pm_z_iretz (zX5_isOf_R), dX5_isOf_0, dX5_isOf_1, dX5_isOf_2, dX5_isOf_3, dX5_isOf_4, dX5_isOf_5, dX5_isOf_6, dX5_isOf_9, dX5_isOf_10, dX5_isOf_13, dX5_isOf_14]
  rw [pb_holds hk hx]
  cases hb : x.testBit k
  · rw [hb] at h
    simpa [b2] using h
  · rw [hb] at h
    simpa [b2] using h
