/-- ones' places of n bytes -/
def rB : Nat → Nat
  | 0 => 0
  | n + 1 => 1 + 256 * rB n
/-- a function on every byte -/
def lm (g : Nat → Nat) : Nat → Nat → Nat
  | 0, _ => 0
  | n + 1, x => g (x % 256) + 256 * lm g n (x / 256)
theorem lm_id : ∀ (n x : Nat), x < 256 ^ n → lm (fun b => b) n x = x
  | 0, x, h => by simp at h; simp [lm, h]
  | n + 1, x, h => by
    rw [lm, lm_id n (x / 256) (by rw [Nat.pow_succ] at h; omega)]
    omega
theorem lm_add (g h : Nat → Nat) : ∀ n x, lm g n x + lm h n x = lm (fun b => g b + h b) n x
  | 0, _ => rfl
  | n + 1, x => by
    have := lm_add g h n (x / 256)
    simp only [lm]
    omega
theorem lm_sub {g h : Nat → Nat} (hg : ∀ b, b < 256 → h b ≤ g b) : ∀ n x, lm h n x ≤ lm g n x ∧ lm g n x - lm h n x = lm (fun b => g b - h b) n x
  | 0, _ => ⟨Nat.le_refl _, rfl⟩
  | n + 1, x => by
    have h1 := lm_sub hg n (x / 256)
    have h2 := hg (x % 256) (Nat.mod_lt _ (by decide))
    simp only [lm]
    omega
theorem lm_lt {g : Nat → Nat} (hg : ∀ b, b < 256 → g b < 256) : ∀ n x, lm g n x < 256 ^ n
  | 0, _ => by simp [lm]
  | n + 1, x => by
    have h1 := lm_lt hg n (x / 256)
    have h2 := hg (x % 256) (Nat.mod_lt _ (by decide))
    rw [lm, Nat.pow_succ]
    omega
theorem lm_comp {g h : Nat → Nat} (hh : ∀ b, b < 256 → h b < 256) : ∀ n x, lm g n (lm h n x) = lm (fun b => g (h b)) n x
  | 0, _ => rfl
  | n + 1, x => by
    have h2 := hh (x % 256) (Nat.mod_lt _ (by decide))
    simp only [lm]
    rw [show (h (x % 256) + 256 * lm h n (x / 256)) % 256 = h (x % 256) by omega, show (h (x % 256) + 256 * lm h n (x / 256)) / 256 = lm h n (x / 256) by omega, lm_comp hh n]
theorem and_lane {a c : Nat} (b d : Nat) (ha : a < 256) (hc : c < 256) : (a + 256 * b) &&& (c + 256 * d) = (a &&& c) + 256 * (b &&& d) := by
  have hac : a &&& c < 2 ^ 8 := Nat.lt_of_le_of_lt Nat.and_le_left ha
  apply Nat.eq_of_testBit_eq
  intro i
  rw [Nat.add_comm a, Nat.add_comm c, Nat.add_comm (a &&& c), show (256 : Nat) = 2 ^ 8 from rfl, Nat.testBit_and, Nat.testBit_two_pow_mul_add _ (show a < 2 ^ 8 from ha), Nat.testBit_two_pow_mul_add _ (show c < 2 ^ 8 from hc), Nat.testBit_two_pow_mul_add _ hac]
  split
  · rw [Nat.testBit_and]
  · rw [Nat.testBit_and]
theorem lm_and {K L c : Nat} (hd : ∀ b y, b < 256 → (b + 256 * y) / K = (b / K + L * (y % K)) + 256 * (y / K)) (hK : 0 < K) (hc : c < 256) (hm : ∀ b, b < 256 → ∀ r, r < K → ((b / K + L * r) &&& c) = ((b / K) &&& c) ∧ b / K + L * r < 256) : ∀ n x, (x / K) &&& (c * rB n) = lm (fun b => (b / K) &&& c) n x
  | 0, x => by simp [rB, lm]
  | n + 1, x => by
    have e0 : x % 256 + 256 * (x / 256) = x := by omega
    have e := hd (x % 256) (x / 256) (Nat.mod_lt _ (by decide))
    rw [e0] at e
    have h2 := hm (x % 256) (Nat.mod_lt _ (by decide)) (x / 256 % K) (Nat.mod_lt _ hK)
    rw [e, rB, show c * (1 + 256 * rB n) = c + 256 * (c * rB n) by rw [Nat.mul_add, Nat.mul_one, Nat.mul_left_comm], and_lane _ _ h2.2 hc, h2.1, lm_and hd hK hc hm n (x / 256), lm]
def g1 (b : Nat) : Nat := b - ((b / 2) &&& 85)
def g2 (b : Nat) : Nat := (b &&& 51) + ((b / 4) &&& 51)
def g3 (b : Nat) : Nat := (b + b / 16) &&& 15
theorem g1_lt : ∀ b, b < 256 → g1 b < 256 ∧ ((b / 2) &&& 85) ≤ b := by decide +kernel
theorem g2_lt : ∀ b, b < 256 → g2 b < 256 ∧ g2 b % 16 ≤ 6 := by decide +kernel
theorem g3_lane : ∀ b, b < 256 → ∀ r, r < 7 → ((g2 b + g2 b / 16 + 16 * r) &&& 15) = g3 (g2 b) ∧ g2 b + g2 b / 16 + 16 * r < 256 := by decide +kernel
theorem pc_ok : ∀ b, b < 256 → g3 (g2 (g1 b)) = bc b.testBit 8 ∧ bc b.testBit 8 ≤ 8 := by decide +kernel
theorem st1 {n x : Nat} (h : x < 256 ^ n) : ((x / 2) &&& (85 * rB n)) ≤ x ∧ x - ((x / 2) &&& (85 * rB n)) = lm g1 n x := by
  rw [lm_and (K := 2) (L := 128) (by omega) (by decide) (by decide) (by decide +kernel)]
  have := lm_sub (g := fun b => b) (h := fun b => (b / 2) &&& 85) (fun b hb => (g1_lt b hb).2) n x
  rw [lm_id n x h] at this
  exact this
theorem st2 (n y : Nat) : (y &&& (51 * rB n)) + ((y / 4) &&& (51 * rB n)) = lm g2 n y := by
  have h1 := lm_and (K := 1) (L := 256) (c := 51) (by omega) (by decide) (by decide) (by decide +kernel) n y
  rw [Nat.div_one] at h1
  rw [lm_and (K := 4) (L := 64) (by omega) (by decide) (by decide) (by decide +kernel), h1]
  simp only [Nat.div_one]
  exact lm_add _ _ n y
theorem lm2_16 (y : Nat) : ∀ n, lm g2 n y % 16 < 7
  | 0 => by simp [lm]
  | n + 1 => by
    have := (g2_lt (y % 256) (Nat.mod_lt _ (by decide))).2
    rw [lm]
    omega
theorem st3 : ∀ n y, (lm g2 n y + lm g2 n y / 16) &&& (15 * rB n) = lm (fun b => g3 (g2 b)) n y
  | 0, _ => by simp [rB, lm]
  | n + 1, y => by
    have h2 := g3_lane (y % 256) (Nat.mod_lt _ (by decide)) _ (lm2_16 (y / 256) n)
    have e : lm g2 (n + 1) y + lm g2 (n + 1) y / 16 = (g2 (y % 256) + g2 (y % 256) / 16 + 16 * (lm g2 n (y / 256) % 16)) + 256 * (lm g2 n (y / 256) + lm g2 n (y / 256) / 16) := by
      rw [lm]
      omega
    rw [e, rB, show 15 * (1 + 256 * rB n) = 15 + 256 * (15 * rB n) by omega, and_lane _ _ h2.2 (by decide), h2.1, st3 n (y / 256), lm]
theorem bc_split (p : Nat → Bool) (a : Nat) : ∀ b, bc p (a + b) = bc p a + bc (fun i => p (a + i)) b
  | 0 => by simp [bc]
  | b + 1 => by rw [← Nat.add_assoc, bc, bc_split p a b, bc]; omega
theorem bc_ext {p q : Nat → Bool} : ∀ {n : Nat}, (∀ i, i < n → p i = q i) → bc p n = bc q n
  | 0, _ => rfl
  | n + 1, h => by rw [bc, bc, bc_ext (fun i hi => h i (by omega)), h n (by omega)]
/-- the ones of every byte together -/
def ls : Nat → Nat → Nat
  | 0, _ => 0
  | n + 1, x => bc (x % 256).testBit 8 + ls n (x / 256)
theorem bc_ls : ∀ n x, bc x.testBit (8 * n) = ls n x
  | 0, _ => rfl
  | n + 1, x => by
    rw [show 8 * (n + 1) = 8 + 8 * n by omega, bc_split, ls, ← bc_ls n (x / 256)]
    congr 1
    · refine bc_ext fun i hi => ?_
      rw [show (256 : Nat) = 2 ^ 8 from rfl, Nat.testBit_mod_two_pow, decide_eq_true hi, Bool.true_and]
    · refine bc_ext fun i _ => ?_
      rw [show (256 : Nat) = 2 ^ 8 from rfl, Nat.testBit_div_two_pow, Nat.add_comm]
theorem lm_pc (n x : Nat) : lm (fun b => g3 (g2 (g1 b))) n x = lm (fun b => bc b.testBit 8) n x := by
  induction n generalizing x with
  | zero => rfl
  | succ n ih => rw [lm, lm, ih, (pc_ok (x % 256) (Nat.mod_lt _ (by decide))).1]
theorem pc_le (x : Nat) : bc (x % 256).testBit 8 ≤ 8 := (pc_ok (x % 256) (Nat.mod_lt _ (by decide))).2
theorem end4 (x w v u : Nat) (hw : w = lm (fun b => bc b.testBit 8) 4 x) (hv : v = w + w / 256) (hu : u = v + v / 65536) : u % 64 = ls 4 x ∧ u < 2 ^ 31 ∧ w < 2 ^ 28 ∧ v < 2 ^ 30 := by
  have h0 := pc_le x
  have h1 := pc_le (x / 256)
  have h2 := pc_le (x / 256 / 256)
  have h3 := pc_le (x / 256 / 256 / 256)
  simp only [lm, ls] at hw ⊢
  generalize bc (x % 256).testBit 8 = p0 at *
  generalize bc (x / 256 % 256).testBit 8 = p1 at *
  generalize bc (x / 256 / 256 % 256).testBit 8 = p2 at *
  generalize bc (x / 256 / 256 / 256 % 256).testBit 8 = p3 at *
  have e1 : w / 256 = p1 + 256 * (p2 + 256 * p3) := by omega
  have e2 : v / 65536 = (p2 + p3) + 256 * p3 := by omega
  omega
theorem end8 (x w v u t : Nat) (hw : w = lm (fun b => bc b.testBit 8) 8 x) (hv : v = w + w / 256) (hu : u = v + v / 65536) (ht : t = u + u / 4294967296) : t % 128 = ls 8 x ∧ w < 2 ^ 60 ∧ v < 2 ^ 61 ∧ u < 2 ^ 62 ∧ t < 2 ^ 63 := by
  have h0 := pc_le x
  have h1 := pc_le (x / 256)
  have h2 := pc_le (x / 256 / 256)
  have h3 := pc_le (x / 256 / 256 / 256)
  have h4 := pc_le (x / 256 / 256 / 256 / 256)
  have h5 := pc_le (x / 256 / 256 / 256 / 256 / 256)
  have h6 := pc_le (x / 256 / 256 / 256 / 256 / 256 / 256)
  have h7 := pc_le (x / 256 / 256 / 256 / 256 / 256 / 256 / 256)
  simp only [lm, ls] at hw ⊢
  generalize bc (x % 256).testBit 8 = p0 at *
  generalize bc (x / 256 % 256).testBit 8 = p1 at *
  generalize bc (x / 256 / 256 % 256).testBit 8 = p2 at *
  generalize bc (x / 256 / 256 / 256 % 256).testBit 8 = p3 at *
  generalize bc (x / 256 / 256 / 256 / 256 % 256).testBit 8 = p4 at *
  generalize bc (x / 256 / 256 / 256 / 256 / 256 % 256).testBit 8 = p5 at *
  generalize bc (x / 256 / 256 / 256 / 256 / 256 / 256 % 256).testBit 8 = p6 at *
  generalize bc (x / 256 / 256 / 256 / 256 / 256 / 256 / 256 % 256).testBit 8 = p7 at *
  have e1 : w / 256 = p1 + 256 * (p2 + 256 * (p3 + 256 * (p4 + 256 * (p5 + 256 * (p6 + 256 * p7))))) := by omega
  have e2 : v / 65536 = (p2 + p3) + 256 * ((p3 + p4) + 256 * ((p4 + p5) + 256 * ((p5 + p6) + 256 * ((p6 + p7) + 256 * p7)))) := by omega
  have e3 : u / 4294967296 = (p4 + p5 + p6 + p7) + 256 * ((p5 + p6 + p7) + 256 * ((p6 + p7) + 256 * p7)) := by omega
  omega
theorem pb_ucnt : ∀ k, k < 32 → (((nI k).toUInt32 &&& Int32.toUInt32 31).toBitVec % 32).toNat = k := by decide +kernel
theorem pb_ush {a k : Nat} (hk : k < 32) (h : a < 2 ^ 31) : pm_ush (a : Int) (k : Int) = ((a / 2 ^ k : Nat) : Int) := by
  unfold pm_ush
  rw [pb_ofN, pb_ofN, pk_ushrN (by omega) (nI k) k (pb_ucnt k hk)]
  exact nI_toInt (Nat.lt_of_le_of_lt (Nat.div_le_self _ _) h)
theorem and_m {x m : Nat} (hx : x < 2 ^ 31) : pm_and (x : Int) (m : Int) = ((x &&& m : Nat) : Int) := pb_and hx
theorem bitCount_sp {f : pm_H} {x : Nat} {k : pm_P} (hx : x < 2 ^ 31) (hk : k (some (.inl ((bc x.testBit 32 : Nat) : Int))) f) : pm_ex T_J6_bitCount_0f7a4 [.inl (x : Int)] f k := by
  refine in_J6_bitCount_0f7a4 ?_
  refine pm_go_on [10] 60 ?_
  set_option maxRecDepth 100000 in simp (maxSteps := 2000000) only [pm_x_run, pm_x_rt, pm_x_rf, pm_z_S, pm_z_D, pm_z_cut0, pm_z_cut1, pm_z_cli, pm_z_clr, pm_z_cln, pm_z_cll, pm_z_up, pm_x_iload0, pm_x_istore0, pm_x_ki, pm_x_ldcw, pm_z_bipush, pm_z_iadd, pm_z_iand, pm_z_iconst, pm_z_isub, pm_z_iushr, Bool.cond_true, Bool.cond_false, Bool.or_false, Bool.false_or, Bool.true_or, Bool.or_true, true_and, and_true, if_true, if_false, List.length_cons, List.length_nil, List.getElem?_cons_zero, List.getElem?_cons_succ, List.set_cons_zero, List.set_cons_succ, Option.toList_some, Option.toList_none, List.cons_append, List.nil_append, beq_self_eq_true, Option.isSome_some, Option.isSome_none, pm_tg_lit, ite_true, ite_false, Nat.reduceAdd, Nat.reduceBEq, Nat.reduceLT, Nat.reduceLeDiff, Nat.reduceEqDiff, Int.reduceAdd, Int.reduceSub, Int.reduceLE, Int.reduceLT, Int.reduceEq, Int.reduceToNat, Int.reduceNeg, Int.cast_ofNat_Int, Int.reduceNatCast, Int.reduceNatCast', Int.zero_add, Int.add_zero, Nat.zero_add, Nat.add_zero, and_self, decide_true, decide_false, zJ6_bitCount_0f7a4_B, zJ6_bitCount_0f7a4_F, zJ6_bitCount_0f7a4_R, zJ6_bitCount_0f7a4_X, zJ6_bitCount_0f7a4_K265, zJ6_bitCount_0f7a4_K266, zJ6_bitCount_0f7a4_K267, pm_z_ireti (zJ6_bitCount_0f7a4_R), dJ6_bitCount_0f7a4_0, dJ6_bitCount_0f7a4_1, dJ6_bitCount_0f7a4_2, dJ6_bitCount_0f7a4_3, dJ6_bitCount_0f7a4_4, dJ6_bitCount_0f7a4_7, dJ6_bitCount_0f7a4_8, dJ6_bitCount_0f7a4_9, dJ6_bitCount_0f7a4_10, dJ6_bitCount_0f7a4_11, dJ6_bitCount_0f7a4_14, dJ6_bitCount_0f7a4_15, dJ6_bitCount_0f7a4_16, dJ6_bitCount_0f7a4_17, dJ6_bitCount_0f7a4_18, dJ6_bitCount_0f7a4_21, dJ6_bitCount_0f7a4_22, dJ6_bitCount_0f7a4_23, dJ6_bitCount_0f7a4_24, dJ6_bitCount_0f7a4_25, dJ6_bitCount_0f7a4_26, dJ6_bitCount_0f7a4_27, dJ6_bitCount_0f7a4_28, dJ6_bitCount_0f7a4_29, dJ6_bitCount_0f7a4_32, dJ6_bitCount_0f7a4_33, dJ6_bitCount_0f7a4_34, dJ6_bitCount_0f7a4_35, dJ6_bitCount_0f7a4_36, dJ6_bitCount_0f7a4_38, dJ6_bitCount_0f7a4_39, dJ6_bitCount_0f7a4_40, dJ6_bitCount_0f7a4_41, dJ6_bitCount_0f7a4_42, dJ6_bitCount_0f7a4_43, dJ6_bitCount_0f7a4_45, dJ6_bitCount_0f7a4_46, dJ6_bitCount_0f7a4_47, dJ6_bitCount_0f7a4_48, dJ6_bitCount_0f7a4_49, dJ6_bitCount_0f7a4_51, dJ6_bitCount_0f7a4_52]
  have s1 := st1 (n := 4) (x := x) (by omega)
  have r1 : pm_and (pm_ush (x : Int) 1) 1431655765 = ((x / 2 &&& (85 * rB 4) : Nat) : Int) := by
    rw [show (1 : Int) = ((1 : Nat) : Int) from rfl, pb_ush (by decide) hx]
    exact pb_and (by omega)
  rw [r1]
  have l1 : lm g1 4 x < 2 ^ 31 := by have := s1.2; omega
  refine ⟨by omega, ?_⟩
  rw [show (x : Int) - ((x / 2 &&& (85 * rB 4) : Nat) : Int) = ((lm g1 4 x : Nat) : Int) by omega]
  have s2 := st2 4 (lm g1 4 x)
  rw [lm_comp (fun b hb => (g1_lt b hb).1)] at s2
  have s3 := st3 4 (lm g1 4 x)
  rw [lm_comp (fun b hb => (g1_lt b hb).1), lm_comp (fun b hb => (g1_lt b hb).1), lm_pc] at s3
  generalize lm g1 4 x = y at *
  refine pm_go_on [24] 60 ?_
  set_option maxRecDepth 100000 in simp (maxSteps := 2000000) only [pm_x_run, pm_x_rt, pm_x_rf, pm_z_S, pm_z_D, pm_z_cut0, pm_z_cut1, pm_z_cli, pm_z_clr, pm_z_cln, pm_z_cll, pm_z_up, pm_x_iload0, pm_x_istore0, pm_x_ki, pm_x_ldcw, pm_z_bipush, pm_z_iadd, pm_z_iand, pm_z_iconst, pm_z_isub, pm_z_iushr, Bool.cond_true, Bool.cond_false, Bool.or_false, Bool.false_or, Bool.true_or, Bool.or_true, true_and, and_true, if_true, if_false, List.length_cons, List.length_nil, List.getElem?_cons_zero, List.getElem?_cons_succ, List.set_cons_zero, List.set_cons_succ, Option.toList_some, Option.toList_none, List.cons_append, List.nil_append, beq_self_eq_true, Option.isSome_some, Option.isSome_none, pm_tg_lit, ite_true, ite_false, Nat.reduceAdd, Nat.reduceBEq, Nat.reduceLT, Nat.reduceLeDiff, Nat.reduceEqDiff, Int.reduceAdd, Int.reduceSub, Int.reduceLE, Int.reduceLT, Int.reduceEq, Int.reduceToNat, Int.reduceNeg, Int.cast_ofNat_Int, Int.reduceNatCast, Int.reduceNatCast', Int.zero_add, Int.add_zero, Nat.zero_add, Nat.add_zero, and_self, decide_true, decide_false, zJ6_bitCount_0f7a4_B, zJ6_bitCount_0f7a4_F, zJ6_bitCount_0f7a4_R, zJ6_bitCount_0f7a4_X, zJ6_bitCount_0f7a4_K265, zJ6_bitCount_0f7a4_K266, zJ6_bitCount_0f7a4_K267, pm_z_ireti (zJ6_bitCount_0f7a4_R), dJ6_bitCount_0f7a4_0, dJ6_bitCount_0f7a4_1, dJ6_bitCount_0f7a4_2, dJ6_bitCount_0f7a4_3, dJ6_bitCount_0f7a4_4, dJ6_bitCount_0f7a4_7, dJ6_bitCount_0f7a4_8, dJ6_bitCount_0f7a4_9, dJ6_bitCount_0f7a4_10, dJ6_bitCount_0f7a4_11, dJ6_bitCount_0f7a4_14, dJ6_bitCount_0f7a4_15, dJ6_bitCount_0f7a4_16, dJ6_bitCount_0f7a4_17, dJ6_bitCount_0f7a4_18, dJ6_bitCount_0f7a4_21, dJ6_bitCount_0f7a4_22, dJ6_bitCount_0f7a4_23, dJ6_bitCount_0f7a4_24, dJ6_bitCount_0f7a4_25, dJ6_bitCount_0f7a4_26, dJ6_bitCount_0f7a4_27, dJ6_bitCount_0f7a4_28, dJ6_bitCount_0f7a4_29, dJ6_bitCount_0f7a4_32, dJ6_bitCount_0f7a4_33, dJ6_bitCount_0f7a4_34, dJ6_bitCount_0f7a4_35, dJ6_bitCount_0f7a4_36, dJ6_bitCount_0f7a4_38, dJ6_bitCount_0f7a4_39, dJ6_bitCount_0f7a4_40, dJ6_bitCount_0f7a4_41, dJ6_bitCount_0f7a4_42, dJ6_bitCount_0f7a4_43, dJ6_bitCount_0f7a4_45, dJ6_bitCount_0f7a4_46, dJ6_bitCount_0f7a4_47, dJ6_bitCount_0f7a4_48, dJ6_bitCount_0f7a4_49, dJ6_bitCount_0f7a4_51, dJ6_bitCount_0f7a4_52]
  have r2 : pm_and (y : Int) 858993459 = ((y &&& (51 * rB 4) : Nat) : Int) := pb_and l1
  have r3 : pm_and (pm_ush (y : Int) 2) 858993459 = ((y / 4 &&& (51 * rB 4) : Nat) : Int) := by
    rw [show (2 : Int) = ((2 : Nat) : Int) from rfl, pb_ush (by decide) l1]
    exact pb_and (by omega)
  rw [r2, r3]
  have b1 : (y &&& (51 * rB 4)) ≤ 858993459 := Nat.and_le_right
  have b2 : (y / 4 &&& (51 * rB 4)) ≤ 858993459 := Nat.and_le_right
  refine ⟨by omega, ?_⟩
  rw [show ((y &&& (51 * rB 4) : Nat) : Int) + ((y / 4 &&& (51 * rB 4) : Nat) : Int) = ((lm (fun b => g2 (g1 b)) 4 x : Nat) : Int) by omega]
  have l2 : lm (fun b => g2 (g1 b)) 4 x ≤ 1717986918 := by omega
  generalize lm (fun b => g2 (g1 b)) 4 x = z at *
  have hE := end4 x _ _ _ rfl rfl rfl
  generalize lm (fun b => bc b.testBit 8) 4 x = w at *
  refine pm_go_on [34] 60 ?_
  set_option maxRecDepth 100000 in simp (maxSteps := 2000000) only [pm_x_run, pm_x_rt, pm_x_rf, pm_z_S, pm_z_D, pm_z_cut0, pm_z_cut1, pm_z_cli, pm_z_clr, pm_z_cln, pm_z_cll, pm_z_up, pm_x_iload0, pm_x_istore0, pm_x_ki, pm_x_ldcw, pm_z_bipush, pm_z_iadd, pm_z_iand, pm_z_iconst, pm_z_isub, pm_z_iushr, Bool.cond_true, Bool.cond_false, Bool.or_false, Bool.false_or, Bool.true_or, Bool.or_true, true_and, and_true, if_true, if_false, List.length_cons, List.length_nil, List.getElem?_cons_zero, List.getElem?_cons_succ, List.set_cons_zero, List.set_cons_succ, Option.toList_some, Option.toList_none, List.cons_append, List.nil_append, beq_self_eq_true, Option.isSome_some, Option.isSome_none, pm_tg_lit, ite_true, ite_false, Nat.reduceAdd, Nat.reduceBEq, Nat.reduceLT, Nat.reduceLeDiff, Nat.reduceEqDiff, Int.reduceAdd, Int.reduceSub, Int.reduceLE, Int.reduceLT, Int.reduceEq, Int.reduceToNat, Int.reduceNeg, Int.cast_ofNat_Int, Int.reduceNatCast, Int.reduceNatCast', Int.zero_add, Int.add_zero, Nat.zero_add, Nat.add_zero, and_self, decide_true, decide_false, zJ6_bitCount_0f7a4_B, zJ6_bitCount_0f7a4_F, zJ6_bitCount_0f7a4_R, zJ6_bitCount_0f7a4_X, zJ6_bitCount_0f7a4_K265, zJ6_bitCount_0f7a4_K266, zJ6_bitCount_0f7a4_K267, pm_z_ireti (zJ6_bitCount_0f7a4_R), dJ6_bitCount_0f7a4_0, dJ6_bitCount_0f7a4_1, dJ6_bitCount_0f7a4_2, dJ6_bitCount_0f7a4_3, dJ6_bitCount_0f7a4_4, dJ6_bitCount_0f7a4_7, dJ6_bitCount_0f7a4_8, dJ6_bitCount_0f7a4_9, dJ6_bitCount_0f7a4_10, dJ6_bitCount_0f7a4_11, dJ6_bitCount_0f7a4_14, dJ6_bitCount_0f7a4_15, dJ6_bitCount_0f7a4_16, dJ6_bitCount_0f7a4_17, dJ6_bitCount_0f7a4_18, dJ6_bitCount_0f7a4_21, dJ6_bitCount_0f7a4_22, dJ6_bitCount_0f7a4_23, dJ6_bitCount_0f7a4_24, dJ6_bitCount_0f7a4_25, dJ6_bitCount_0f7a4_26, dJ6_bitCount_0f7a4_27, dJ6_bitCount_0f7a4_28, dJ6_bitCount_0f7a4_29, dJ6_bitCount_0f7a4_32, dJ6_bitCount_0f7a4_33, dJ6_bitCount_0f7a4_34, dJ6_bitCount_0f7a4_35, dJ6_bitCount_0f7a4_36, dJ6_bitCount_0f7a4_38, dJ6_bitCount_0f7a4_39, dJ6_bitCount_0f7a4_40, dJ6_bitCount_0f7a4_41, dJ6_bitCount_0f7a4_42, dJ6_bitCount_0f7a4_43, dJ6_bitCount_0f7a4_45, dJ6_bitCount_0f7a4_46, dJ6_bitCount_0f7a4_47, dJ6_bitCount_0f7a4_48, dJ6_bitCount_0f7a4_49, dJ6_bitCount_0f7a4_51, dJ6_bitCount_0f7a4_52]
  have r4 : pm_ush (z : Int) 4 = ((z / 16 : Nat) : Int) := pb_ush (k := 4) (by decide) (by omega)
  rw [r4]
  refine ⟨by omega, ?_⟩
  have r5 : pm_and ((z : Int) + ((z / 16 : Nat) : Int)) 252645135 = (w : Int) := by
    rw [← s3, ← Int.natCast_add]
    exact pb_and (by omega)
  rw [r5]
  refine pm_go_on [48] 60 ?_
  set_option maxRecDepth 100000 in simp (maxSteps := 2000000) only [pm_x_run, pm_x_rt, pm_x_rf, pm_z_S, pm_z_D, pm_z_cut0, pm_z_cut1, pm_z_cli, pm_z_clr, pm_z_cln, pm_z_cll, pm_z_up, pm_x_iload0, pm_x_istore0, pm_x_ki, pm_x_ldcw, pm_z_bipush, pm_z_iadd, pm_z_iand, pm_z_iconst, pm_z_isub, pm_z_iushr, Bool.cond_true, Bool.cond_false, Bool.or_false, Bool.false_or, Bool.true_or, Bool.or_true, true_and, and_true, if_true, if_false, List.length_cons, List.length_nil, List.getElem?_cons_zero, List.getElem?_cons_succ, List.set_cons_zero, List.set_cons_succ, Option.toList_some, Option.toList_none, List.cons_append, List.nil_append, beq_self_eq_true, Option.isSome_some, Option.isSome_none, pm_tg_lit, ite_true, ite_false, Nat.reduceAdd, Nat.reduceBEq, Nat.reduceLT, Nat.reduceLeDiff, Nat.reduceEqDiff, Int.reduceAdd, Int.reduceSub, Int.reduceLE, Int.reduceLT, Int.reduceEq, Int.reduceToNat, Int.reduceNeg, Int.cast_ofNat_Int, Int.reduceNatCast, Int.reduceNatCast', Int.zero_add, Int.add_zero, Nat.zero_add, Nat.add_zero, and_self, decide_true, decide_false, zJ6_bitCount_0f7a4_B, zJ6_bitCount_0f7a4_F, zJ6_bitCount_0f7a4_R, zJ6_bitCount_0f7a4_X, zJ6_bitCount_0f7a4_K265, zJ6_bitCount_0f7a4_K266, zJ6_bitCount_0f7a4_K267, pm_z_ireti (zJ6_bitCount_0f7a4_R), dJ6_bitCount_0f7a4_0, dJ6_bitCount_0f7a4_1, dJ6_bitCount_0f7a4_2, dJ6_bitCount_0f7a4_3, dJ6_bitCount_0f7a4_4, dJ6_bitCount_0f7a4_7, dJ6_bitCount_0f7a4_8, dJ6_bitCount_0f7a4_9, dJ6_bitCount_0f7a4_10, dJ6_bitCount_0f7a4_11, dJ6_bitCount_0f7a4_14, dJ6_bitCount_0f7a4_15, dJ6_bitCount_0f7a4_16, dJ6_bitCount_0f7a4_17, dJ6_bitCount_0f7a4_18, dJ6_bitCount_0f7a4_21, dJ6_bitCount_0f7a4_22, dJ6_bitCount_0f7a4_23, dJ6_bitCount_0f7a4_24, dJ6_bitCount_0f7a4_25, dJ6_bitCount_0f7a4_26, dJ6_bitCount_0f7a4_27, dJ6_bitCount_0f7a4_28, dJ6_bitCount_0f7a4_29, dJ6_bitCount_0f7a4_32, dJ6_bitCount_0f7a4_33, dJ6_bitCount_0f7a4_34, dJ6_bitCount_0f7a4_35, dJ6_bitCount_0f7a4_36, dJ6_bitCount_0f7a4_38, dJ6_bitCount_0f7a4_39, dJ6_bitCount_0f7a4_40, dJ6_bitCount_0f7a4_41, dJ6_bitCount_0f7a4_42, dJ6_bitCount_0f7a4_43, dJ6_bitCount_0f7a4_45, dJ6_bitCount_0f7a4_46, dJ6_bitCount_0f7a4_47, dJ6_bitCount_0f7a4_48, dJ6_bitCount_0f7a4_49, dJ6_bitCount_0f7a4_51, dJ6_bitCount_0f7a4_52]
  have r6 : pm_ush (w : Int) 8 = ((w / 256 : Nat) : Int) := pb_ush (k := 8) (by decide) (by omega)
  rw [r6]
  refine ⟨by omega, ?_⟩
  have r7 : pm_ush ((w : Int) + ((w / 256 : Nat) : Int)) 16 = (((w + w / 256) / 65536 : Nat) : Int) := by
    rw [← Int.natCast_add]
    exact pb_ush (k := 16) (by decide) (by omega)
  rw [r7]
  refine ⟨by omega, ?_⟩
  rw [← Int.natCast_add, ← Int.natCast_add]
  refine pm_go_on [] 60 ?_
  set_option maxRecDepth 100000 in simp (maxSteps := 2000000) only [pm_x_run, pm_x_rt, pm_x_rf, pm_z_S, pm_z_D, pm_z_cut0, pm_z_cut1, pm_z_cli, pm_z_clr, pm_z_cln, pm_z_cll, pm_z_up, pm_x_iload0, pm_x_istore0, pm_x_ki, pm_x_ldcw, pm_z_bipush, pm_z_iadd, pm_z_iand, pm_z_iconst, pm_z_isub, pm_z_iushr, Bool.cond_true, Bool.cond_false, Bool.or_false, Bool.false_or, Bool.true_or, Bool.or_true, true_and, and_true, if_true, if_false, List.length_cons, List.length_nil, List.getElem?_cons_zero, List.getElem?_cons_succ, List.set_cons_zero, List.set_cons_succ, Option.toList_some, Option.toList_none, List.cons_append, List.nil_append, beq_self_eq_true, Option.isSome_some, Option.isSome_none, pm_tg_lit, ite_true, ite_false, Nat.reduceAdd, Nat.reduceBEq, Nat.reduceLT, Nat.reduceLeDiff, Nat.reduceEqDiff, Int.reduceAdd, Int.reduceSub, Int.reduceLE, Int.reduceLT, Int.reduceEq, Int.reduceToNat, Int.reduceNeg, Int.cast_ofNat_Int, Int.reduceNatCast, Int.reduceNatCast', Int.zero_add, Int.add_zero, Nat.zero_add, Nat.add_zero, and_self, decide_true, decide_false, zJ6_bitCount_0f7a4_B, zJ6_bitCount_0f7a4_F, zJ6_bitCount_0f7a4_R, zJ6_bitCount_0f7a4_X, zJ6_bitCount_0f7a4_K265, zJ6_bitCount_0f7a4_K266, zJ6_bitCount_0f7a4_K267, pm_z_ireti (zJ6_bitCount_0f7a4_R), dJ6_bitCount_0f7a4_0, dJ6_bitCount_0f7a4_1, dJ6_bitCount_0f7a4_2, dJ6_bitCount_0f7a4_3, dJ6_bitCount_0f7a4_4, dJ6_bitCount_0f7a4_7, dJ6_bitCount_0f7a4_8, dJ6_bitCount_0f7a4_9, dJ6_bitCount_0f7a4_10, dJ6_bitCount_0f7a4_11, dJ6_bitCount_0f7a4_14, dJ6_bitCount_0f7a4_15, dJ6_bitCount_0f7a4_16, dJ6_bitCount_0f7a4_17, dJ6_bitCount_0f7a4_18, dJ6_bitCount_0f7a4_21, dJ6_bitCount_0f7a4_22, dJ6_bitCount_0f7a4_23, dJ6_bitCount_0f7a4_24, dJ6_bitCount_0f7a4_25, dJ6_bitCount_0f7a4_26, dJ6_bitCount_0f7a4_27, dJ6_bitCount_0f7a4_28, dJ6_bitCount_0f7a4_29, dJ6_bitCount_0f7a4_32, dJ6_bitCount_0f7a4_33, dJ6_bitCount_0f7a4_34, dJ6_bitCount_0f7a4_35, dJ6_bitCount_0f7a4_36, dJ6_bitCount_0f7a4_38, dJ6_bitCount_0f7a4_39, dJ6_bitCount_0f7a4_40, dJ6_bitCount_0f7a4_41, dJ6_bitCount_0f7a4_42, dJ6_bitCount_0f7a4_43, dJ6_bitCount_0f7a4_45, dJ6_bitCount_0f7a4_46, dJ6_bitCount_0f7a4_47, dJ6_bitCount_0f7a4_48, dJ6_bitCount_0f7a4_49, dJ6_bitCount_0f7a4_51, dJ6_bitCount_0f7a4_52]
  have r8 : pm_and ((w + w / 256 + (w + w / 256) / 65536 : Nat) : Int) 63 = ((bc x.testBit 32 : Nat) : Int) := by
    rw [show (63 : Int) = ((63 : Nat) : Int) from rfl, pb_and hE.2.1, Nat.and_two_pow_sub_one_eq_mod _ 6, show (32 : Nat) = 8 * 4 from rfl, bc_ls]
    rw [hE.1]
  rw [r8]
  exact hk
theorem pl_add (a b : Nat) : Int64.ofNat a + Int64.ofNat b = Int64.ofNat (a + b) := (Int64.ofNat_add a b).symm
theorem pl_sub {a b : Nat} (h : b ≤ a) : Int64.ofNat a - Int64.ofNat b = Int64.ofNat (a - b) := (Int64.ofNat_sub a b h).symm
theorem pl_toInt {a : Nat} (h : a < 2 ^ 63) : (Int64.ofNat a).toInt = (a : Int) := Int64.toInt_ofNat_of_lt h
theorem pl_ucnt : ∀ k, k < 64 → (((nI k).toInt64.toUInt64 &&& Int64.toUInt64 63).toBitVec % 64).toNat = k := by decide +kernel
theorem pl_lush' (x : Int64) (n : UInt64) (k : Nat) (hs : (n.toBitVec % 64).toNat = k) : (x.toUInt64 >>> n).toInt64.toBitVec.toNat = x.toBitVec.toNat / 2 ^ k := by
  have e : (x.toUInt64 >>> n).toInt64.toBitVec = x.toBitVec >>> k := by
    rw [← hs]
    exact UInt64.toBitVec_shiftRight _ _
  rw [e, BitVec.toNat_ushiftRight, Nat.shiftRight_eq_div_pow]
theorem pl_lush {a k : Nat} (hk : k < 64) (h : a < 2 ^ 63) : pm_lush (Int64.ofNat a) (k : Int) = Int64.ofNat (a / 2 ^ k) := by
  unfold pm_lush
  apply Int64.toBitVec_inj.mp
  apply BitVec.eq_of_toNat_eq
  have h2 := Nat.div_le_self a (2 ^ k)
  rw [pb_ofN, pl_lush' _ _ k (pl_ucnt k hk), Int64.toBitVec_ofNat', Int64.toBitVec_ofNat', BitVec.toNat_ofNat, BitVec.toNat_ofNat, Nat.mod_eq_of_lt (by omega), Nat.mod_eq_of_lt (by omega)]
theorem pl_last (t : Nat) : pm_and (pm_l2i (Int64.ofNat t)) 127 = ((t % 128 : Nat) : Int) := by
  unfold pm_and pm_l2i
  rw [Int32.ofInt_toInt, Int64.toInt32_ofNat', show Int32.ofInt 127 = nI 127 from rfl]
  have := pb_and' t 127
  unfold nI at this ⊢
  rw [this]
  have e : t &&& 127 = t % 128 := Nat.and_two_pow_sub_one_eq_mod t 7
  rw [e]
  exact nI_toInt (by omega)
theorem lbitCount_sp {f : pm_H} {x : Nat} {k : pm_P} (hx : x < 2 ^ 63) (hk : k (some (.inl ((bc x.testBit 64 : Nat) : Int))) f) : pm_ex T_J13_bitCount_95d88 [.inr (.inr (Int64.ofNat x))] f k := by
  refine in_J13_bitCount_95d88 ?_
  refine pm_go_on [10] 60 ?_
  set_option maxRecDepth 100000 in simp (maxSteps := 2000000) only [pm_x_run, pm_x_rt, pm_x_rf, pm_z_S, pm_z_D, pm_z_cut0, pm_z_cut1, pm_z_cli, pm_z_clr, pm_z_cln, pm_z_cll, pm_z_up, pm_x_k3, pm_x_ldc2, pm_x_lload0, pm_x_lstore0, pm_z_bipush, pm_z_iand, pm_z_iconst, pm_z_l2i, pm_z_ladd, pm_z_land, pm_z_lsub, pm_z_lushr, Bool.cond_true, Bool.cond_false, Bool.or_false, Bool.false_or, Bool.true_or, Bool.or_true, true_and, and_true, if_true, if_false, List.length_cons, List.length_nil, List.getElem?_cons_zero, List.getElem?_cons_succ, List.set_cons_zero, List.set_cons_succ, Option.toList_some, Option.toList_none, List.cons_append, List.nil_append, beq_self_eq_true, Option.isSome_some, Option.isSome_none, pm_tg_lit, ite_true, ite_false, Nat.reduceAdd, Nat.reduceBEq, Nat.reduceLT, Nat.reduceLeDiff, Nat.reduceEqDiff, Int.reduceAdd, Int.reduceSub, Int.reduceLE, Int.reduceLT, Int.reduceEq, Int.reduceToNat, Int.reduceNeg, Int.cast_ofNat_Int, Int.reduceNatCast, Int.reduceNatCast', Int.zero_add, Int.add_zero, Nat.zero_add, Nat.add_zero, and_self, decide_true, decide_false, zJ13_bitCount_95d88_B, zJ13_bitCount_95d88_F, zJ13_bitCount_95d88_R, zJ13_bitCount_95d88_X, zJ13_bitCount_95d88_K314, zJ13_bitCount_95d88_K316, zJ13_bitCount_95d88_K318, pm_z_ireti (zJ13_bitCount_95d88_R), dJ13_bitCount_95d88_0, dJ13_bitCount_95d88_1, dJ13_bitCount_95d88_2, dJ13_bitCount_95d88_3, dJ13_bitCount_95d88_4, dJ13_bitCount_95d88_7, dJ13_bitCount_95d88_8, dJ13_bitCount_95d88_9, dJ13_bitCount_95d88_10, dJ13_bitCount_95d88_11, dJ13_bitCount_95d88_14, dJ13_bitCount_95d88_15, dJ13_bitCount_95d88_16, dJ13_bitCount_95d88_17, dJ13_bitCount_95d88_18, dJ13_bitCount_95d88_21, dJ13_bitCount_95d88_22, dJ13_bitCount_95d88_23, dJ13_bitCount_95d88_24, dJ13_bitCount_95d88_25, dJ13_bitCount_95d88_26, dJ13_bitCount_95d88_27, dJ13_bitCount_95d88_28, dJ13_bitCount_95d88_29, dJ13_bitCount_95d88_32, dJ13_bitCount_95d88_33, dJ13_bitCount_95d88_34, dJ13_bitCount_95d88_35, dJ13_bitCount_95d88_36, dJ13_bitCount_95d88_38, dJ13_bitCount_95d88_39, dJ13_bitCount_95d88_40, dJ13_bitCount_95d88_41, dJ13_bitCount_95d88_42, dJ13_bitCount_95d88_43, dJ13_bitCount_95d88_45, dJ13_bitCount_95d88_46, dJ13_bitCount_95d88_47, dJ13_bitCount_95d88_48, dJ13_bitCount_95d88_49, dJ13_bitCount_95d88_50, dJ13_bitCount_95d88_52, dJ13_bitCount_95d88_53, dJ13_bitCount_95d88_54, dJ13_bitCount_95d88_55, dJ13_bitCount_95d88_56, dJ13_bitCount_95d88_57, dJ13_bitCount_95d88_59, dJ13_bitCount_95d88_60]
  have s1 := st1 (n := 8) (x := x) (by omega)
  have r1 : pm_lush (Int64.ofNat x) 1 &&& 6148914691236517205 = Int64.ofNat (x / 2 &&& (85 * rB 8)) := by
    rw [show pm_lush (Int64.ofNat x) 1 = Int64.ofNat (x / 2) from pl_lush (k := 1) (by decide) hx]
    exact pl_and _ _
  rw [r1, pl_sub s1.1, s1.2]
  have l1 : lm g1 8 x < 2 ^ 63 := by have := s1.2; omega
  have s2 := st2 8 (lm g1 8 x)
  rw [lm_comp (fun b hb => (g1_lt b hb).1)] at s2
  have s3 := st3 8 (lm g1 8 x)
  rw [lm_comp (fun b hb => (g1_lt b hb).1), lm_comp (fun b hb => (g1_lt b hb).1), lm_pc] at s3
  generalize lm g1 8 x = y at *
  refine pm_go_on [24] 60 ?_
  set_option maxRecDepth 100000 in simp (maxSteps := 2000000) only [pm_x_run, pm_x_rt, pm_x_rf, pm_z_S, pm_z_D, pm_z_cut0, pm_z_cut1, pm_z_cli, pm_z_clr, pm_z_cln, pm_z_cll, pm_z_up, pm_x_k3, pm_x_ldc2, pm_x_lload0, pm_x_lstore0, pm_z_bipush, pm_z_iand, pm_z_iconst, pm_z_l2i, pm_z_ladd, pm_z_land, pm_z_lsub, pm_z_lushr, Bool.cond_true, Bool.cond_false, Bool.or_false, Bool.false_or, Bool.true_or, Bool.or_true, true_and, and_true, if_true, if_false, List.length_cons, List.length_nil, List.getElem?_cons_zero, List.getElem?_cons_succ, List.set_cons_zero, List.set_cons_succ, Option.toList_some, Option.toList_none, List.cons_append, List.nil_append, beq_self_eq_true, Option.isSome_some, Option.isSome_none, pm_tg_lit, ite_true, ite_false, Nat.reduceAdd, Nat.reduceBEq, Nat.reduceLT, Nat.reduceLeDiff, Nat.reduceEqDiff, Int.reduceAdd, Int.reduceSub, Int.reduceLE, Int.reduceLT, Int.reduceEq, Int.reduceToNat, Int.reduceNeg, Int.cast_ofNat_Int, Int.reduceNatCast, Int.reduceNatCast', Int.zero_add, Int.add_zero, Nat.zero_add, Nat.add_zero, and_self, decide_true, decide_false, zJ13_bitCount_95d88_B, zJ13_bitCount_95d88_F, zJ13_bitCount_95d88_R, zJ13_bitCount_95d88_X, zJ13_bitCount_95d88_K314, zJ13_bitCount_95d88_K316, zJ13_bitCount_95d88_K318, pm_z_ireti (zJ13_bitCount_95d88_R), dJ13_bitCount_95d88_0, dJ13_bitCount_95d88_1, dJ13_bitCount_95d88_2, dJ13_bitCount_95d88_3, dJ13_bitCount_95d88_4, dJ13_bitCount_95d88_7, dJ13_bitCount_95d88_8, dJ13_bitCount_95d88_9, dJ13_bitCount_95d88_10, dJ13_bitCount_95d88_11, dJ13_bitCount_95d88_14, dJ13_bitCount_95d88_15, dJ13_bitCount_95d88_16, dJ13_bitCount_95d88_17, dJ13_bitCount_95d88_18, dJ13_bitCount_95d88_21, dJ13_bitCount_95d88_22, dJ13_bitCount_95d88_23, dJ13_bitCount_95d88_24, dJ13_bitCount_95d88_25, dJ13_bitCount_95d88_26, dJ13_bitCount_95d88_27, dJ13_bitCount_95d88_28, dJ13_bitCount_95d88_29, dJ13_bitCount_95d88_32, dJ13_bitCount_95d88_33, dJ13_bitCount_95d88_34, dJ13_bitCount_95d88_35, dJ13_bitCount_95d88_36, dJ13_bitCount_95d88_38, dJ13_bitCount_95d88_39, dJ13_bitCount_95d88_40, dJ13_bitCount_95d88_41, dJ13_bitCount_95d88_42, dJ13_bitCount_95d88_43, dJ13_bitCount_95d88_45, dJ13_bitCount_95d88_46, dJ13_bitCount_95d88_47, dJ13_bitCount_95d88_48, dJ13_bitCount_95d88_49, dJ13_bitCount_95d88_50, dJ13_bitCount_95d88_52, dJ13_bitCount_95d88_53, dJ13_bitCount_95d88_54, dJ13_bitCount_95d88_55, dJ13_bitCount_95d88_56, dJ13_bitCount_95d88_57, dJ13_bitCount_95d88_59, dJ13_bitCount_95d88_60]
  have r2 : Int64.ofNat y &&& 3689348814741910323 = Int64.ofNat (y &&& (51 * rB 8)) := pl_and _ _
  have r3 : pm_lush (Int64.ofNat y) 2 &&& 3689348814741910323 = Int64.ofNat (y / 4 &&& (51 * rB 8)) := by
    rw [show pm_lush (Int64.ofNat y) 2 = Int64.ofNat (y / 4) from pl_lush (k := 2) (by decide) l1]
    exact pl_and _ _
  rw [r2, r3, pl_add, s2]
  have b1 : (y &&& (51 * rB 8)) ≤ 3689348814741910323 := Nat.and_le_right
  have b2 : (y / 4 &&& (51 * rB 8)) ≤ 3689348814741910323 := Nat.and_le_right
  have l2 : lm (fun b => g2 (g1 b)) 8 x < 2 ^ 63 := by omega
  generalize lm (fun b => g2 (g1 b)) 8 x = z at *
  have hE := end8 x _ _ _ _ rfl rfl rfl rfl
  generalize lm (fun b => bc b.testBit 8) 8 x = w at *
  refine pm_go_on [34] 60 ?_
  set_option maxRecDepth 100000 in simp (maxSteps := 2000000) only [pm_x_run, pm_x_rt, pm_x_rf, pm_z_S, pm_z_D, pm_z_cut0, pm_z_cut1, pm_z_cli, pm_z_clr, pm_z_cln, pm_z_cll, pm_z_up, pm_x_k3, pm_x_ldc2, pm_x_lload0, pm_x_lstore0, pm_z_bipush, pm_z_iand, pm_z_iconst, pm_z_l2i, pm_z_ladd, pm_z_land, pm_z_lsub, pm_z_lushr, Bool.cond_true, Bool.cond_false, Bool.or_false, Bool.false_or, Bool.true_or, Bool.or_true, true_and, and_true, if_true, if_false, List.length_cons, List.length_nil, List.getElem?_cons_zero, List.getElem?_cons_succ, List.set_cons_zero, List.set_cons_succ, Option.toList_some, Option.toList_none, List.cons_append, List.nil_append, beq_self_eq_true, Option.isSome_some, Option.isSome_none, pm_tg_lit, ite_true, ite_false, Nat.reduceAdd, Nat.reduceBEq, Nat.reduceLT, Nat.reduceLeDiff, Nat.reduceEqDiff, Int.reduceAdd, Int.reduceSub, Int.reduceLE, Int.reduceLT, Int.reduceEq, Int.reduceToNat, Int.reduceNeg, Int.cast_ofNat_Int, Int.reduceNatCast, Int.reduceNatCast', Int.zero_add, Int.add_zero, Nat.zero_add, Nat.add_zero, and_self, decide_true, decide_false, zJ13_bitCount_95d88_B, zJ13_bitCount_95d88_F, zJ13_bitCount_95d88_R, zJ13_bitCount_95d88_X, zJ13_bitCount_95d88_K314, zJ13_bitCount_95d88_K316, zJ13_bitCount_95d88_K318, pm_z_ireti (zJ13_bitCount_95d88_R), dJ13_bitCount_95d88_0, dJ13_bitCount_95d88_1, dJ13_bitCount_95d88_2, dJ13_bitCount_95d88_3, dJ13_bitCount_95d88_4, dJ13_bitCount_95d88_7, dJ13_bitCount_95d88_8, dJ13_bitCount_95d88_9, dJ13_bitCount_95d88_10, dJ13_bitCount_95d88_11, dJ13_bitCount_95d88_14, dJ13_bitCount_95d88_15, dJ13_bitCount_95d88_16, dJ13_bitCount_95d88_17, dJ13_bitCount_95d88_18, dJ13_bitCount_95d88_21, dJ13_bitCount_95d88_22, dJ13_bitCount_95d88_23, dJ13_bitCount_95d88_24, dJ13_bitCount_95d88_25, dJ13_bitCount_95d88_26, dJ13_bitCount_95d88_27, dJ13_bitCount_95d88_28, dJ13_bitCount_95d88_29, dJ13_bitCount_95d88_32, dJ13_bitCount_95d88_33, dJ13_bitCount_95d88_34, dJ13_bitCount_95d88_35, dJ13_bitCount_95d88_36, dJ13_bitCount_95d88_38, dJ13_bitCount_95d88_39, dJ13_bitCount_95d88_40, dJ13_bitCount_95d88_41, dJ13_bitCount_95d88_42, dJ13_bitCount_95d88_43, dJ13_bitCount_95d88_45, dJ13_bitCount_95d88_46, dJ13_bitCount_95d88_47, dJ13_bitCount_95d88_48, dJ13_bitCount_95d88_49, dJ13_bitCount_95d88_50, dJ13_bitCount_95d88_52, dJ13_bitCount_95d88_53, dJ13_bitCount_95d88_54, dJ13_bitCount_95d88_55, dJ13_bitCount_95d88_56, dJ13_bitCount_95d88_57, dJ13_bitCount_95d88_59, dJ13_bitCount_95d88_60]
  have r5 : Int64.ofNat z + pm_lush (Int64.ofNat z) 4 &&& 1085102592571150095 = Int64.ofNat w := by
    rw [show pm_lush (Int64.ofNat z) 4 = Int64.ofNat (z / 16) from pl_lush (k := 4) (by decide) l2, pl_add, ← s3]
    exact pl_and _ _
  rw [r5]
  refine pm_go_on [41] 60 ?_
  set_option maxRecDepth 100000 in simp (maxSteps := 2000000) only [pm_x_run, pm_x_rt, pm_x_rf, pm_z_S, pm_z_D, pm_z_cut0, pm_z_cut1, pm_z_cli, pm_z_clr, pm_z_cln, pm_z_cll, pm_z_up, pm_x_k3, pm_x_ldc2, pm_x_lload0, pm_x_lstore0, pm_z_bipush, pm_z_iand, pm_z_iconst, pm_z_l2i, pm_z_ladd, pm_z_land, pm_z_lsub, pm_z_lushr, Bool.cond_true, Bool.cond_false, Bool.or_false, Bool.false_or, Bool.true_or, Bool.or_true, true_and, and_true, if_true, if_false, List.length_cons, List.length_nil, List.getElem?_cons_zero, List.getElem?_cons_succ, List.set_cons_zero, List.set_cons_succ, Option.toList_some, Option.toList_none, List.cons_append, List.nil_append, beq_self_eq_true, Option.isSome_some, Option.isSome_none, pm_tg_lit, ite_true, ite_false, Nat.reduceAdd, Nat.reduceBEq, Nat.reduceLT, Nat.reduceLeDiff, Nat.reduceEqDiff, Int.reduceAdd, Int.reduceSub, Int.reduceLE, Int.reduceLT, Int.reduceEq, Int.reduceToNat, Int.reduceNeg, Int.cast_ofNat_Int, Int.reduceNatCast, Int.reduceNatCast', Int.zero_add, Int.add_zero, Nat.zero_add, Nat.add_zero, and_self, decide_true, decide_false, zJ13_bitCount_95d88_B, zJ13_bitCount_95d88_F, zJ13_bitCount_95d88_R, zJ13_bitCount_95d88_X, zJ13_bitCount_95d88_K314, zJ13_bitCount_95d88_K316, zJ13_bitCount_95d88_K318, pm_z_ireti (zJ13_bitCount_95d88_R), dJ13_bitCount_95d88_0, dJ13_bitCount_95d88_1, dJ13_bitCount_95d88_2, dJ13_bitCount_95d88_3, dJ13_bitCount_95d88_4, dJ13_bitCount_95d88_7, dJ13_bitCount_95d88_8, dJ13_bitCount_95d88_9, dJ13_bitCount_95d88_10, dJ13_bitCount_95d88_11, dJ13_bitCount_95d88_14, dJ13_bitCount_95d88_15, dJ13_bitCount_95d88_16, dJ13_bitCount_95d88_17, dJ13_bitCount_95d88_18, dJ13_bitCount_95d88_21, dJ13_bitCount_95d88_22, dJ13_bitCount_95d88_23, dJ13_bitCount_95d88_24, dJ13_bitCount_95d88_25, dJ13_bitCount_95d88_26, dJ13_bitCount_95d88_27, dJ13_bitCount_95d88_28, dJ13_bitCount_95d88_29, dJ13_bitCount_95d88_32, dJ13_bitCount_95d88_33, dJ13_bitCount_95d88_34, dJ13_bitCount_95d88_35, dJ13_bitCount_95d88_36, dJ13_bitCount_95d88_38, dJ13_bitCount_95d88_39, dJ13_bitCount_95d88_40, dJ13_bitCount_95d88_41, dJ13_bitCount_95d88_42, dJ13_bitCount_95d88_43, dJ13_bitCount_95d88_45, dJ13_bitCount_95d88_46, dJ13_bitCount_95d88_47, dJ13_bitCount_95d88_48, dJ13_bitCount_95d88_49, dJ13_bitCount_95d88_50, dJ13_bitCount_95d88_52, dJ13_bitCount_95d88_53, dJ13_bitCount_95d88_54, dJ13_bitCount_95d88_55, dJ13_bitCount_95d88_56, dJ13_bitCount_95d88_57, dJ13_bitCount_95d88_59, dJ13_bitCount_95d88_60]
  rw [show pm_lush (Int64.ofNat w) 8 = Int64.ofNat (w / 256) from pl_lush (k := 8) (by decide) (by omega), pl_add]
  refine pm_go_on [48] 60 ?_
  set_option maxRecDepth 100000 in simp (maxSteps := 2000000) only [pm_x_run, pm_x_rt, pm_x_rf, pm_z_S, pm_z_D, pm_z_cut0, pm_z_cut1, pm_z_cli, pm_z_clr, pm_z_cln, pm_z_cll, pm_z_up, pm_x_k3, pm_x_ldc2, pm_x_lload0, pm_x_lstore0, pm_z_bipush, pm_z_iand, pm_z_iconst, pm_z_l2i, pm_z_ladd, pm_z_land, pm_z_lsub, pm_z_lushr, Bool.cond_true, Bool.cond_false, Bool.or_false, Bool.false_or, Bool.true_or, Bool.or_true, true_and, and_true, if_true, if_false, List.length_cons, List.length_nil, List.getElem?_cons_zero, List.getElem?_cons_succ, List.set_cons_zero, List.set_cons_succ, Option.toList_some, Option.toList_none, List.cons_append, List.nil_append, beq_self_eq_true, Option.isSome_some, Option.isSome_none, pm_tg_lit, ite_true, ite_false, Nat.reduceAdd, Nat.reduceBEq, Nat.reduceLT, Nat.reduceLeDiff, Nat.reduceEqDiff, Int.reduceAdd, Int.reduceSub, Int.reduceLE, Int.reduceLT, Int.reduceEq, Int.reduceToNat, Int.reduceNeg, Int.cast_ofNat_Int, Int.reduceNatCast, Int.reduceNatCast', Int.zero_add, Int.add_zero, Nat.zero_add, Nat.add_zero, and_self, decide_true, decide_false, zJ13_bitCount_95d88_B, zJ13_bitCount_95d88_F, zJ13_bitCount_95d88_R, zJ13_bitCount_95d88_X, zJ13_bitCount_95d88_K314, zJ13_bitCount_95d88_K316, zJ13_bitCount_95d88_K318, pm_z_ireti (zJ13_bitCount_95d88_R), dJ13_bitCount_95d88_0, dJ13_bitCount_95d88_1, dJ13_bitCount_95d88_2, dJ13_bitCount_95d88_3, dJ13_bitCount_95d88_4, dJ13_bitCount_95d88_7, dJ13_bitCount_95d88_8, dJ13_bitCount_95d88_9, dJ13_bitCount_95d88_10, dJ13_bitCount_95d88_11, dJ13_bitCount_95d88_14, dJ13_bitCount_95d88_15, dJ13_bitCount_95d88_16, dJ13_bitCount_95d88_17, dJ13_bitCount_95d88_18, dJ13_bitCount_95d88_21, dJ13_bitCount_95d88_22, dJ13_bitCount_95d88_23, dJ13_bitCount_95d88_24, dJ13_bitCount_95d88_25, dJ13_bitCount_95d88_26, dJ13_bitCount_95d88_27, dJ13_bitCount_95d88_28, dJ13_bitCount_95d88_29, dJ13_bitCount_95d88_32, dJ13_bitCount_95d88_33, dJ13_bitCount_95d88_34, dJ13_bitCount_95d88_35, dJ13_bitCount_95d88_36, dJ13_bitCount_95d88_38, dJ13_bitCount_95d88_39, dJ13_bitCount_95d88_40, dJ13_bitCount_95d88_41, dJ13_bitCount_95d88_42, dJ13_bitCount_95d88_43, dJ13_bitCount_95d88_45, dJ13_bitCount_95d88_46, dJ13_bitCount_95d88_47, dJ13_bitCount_95d88_48, dJ13_bitCount_95d88_49, dJ13_bitCount_95d88_50, dJ13_bitCount_95d88_52, dJ13_bitCount_95d88_53, dJ13_bitCount_95d88_54, dJ13_bitCount_95d88_55, dJ13_bitCount_95d88_56, dJ13_bitCount_95d88_57, dJ13_bitCount_95d88_59, dJ13_bitCount_95d88_60]
  rw [show pm_lush (Int64.ofNat (w + w / 256)) 16 = Int64.ofNat ((w + w / 256) / 65536) from pl_lush (k := 16) (by decide) (by omega), pl_add]
  refine pm_go_on [55] 60 ?_
  set_option maxRecDepth 100000 in simp (maxSteps := 2000000) only [pm_x_run, pm_x_rt, pm_x_rf, pm_z_S, pm_z_D, pm_z_cut0, pm_z_cut1, pm_z_cli, pm_z_clr, pm_z_cln, pm_z_cll, pm_z_up, pm_x_k3, pm_x_ldc2, pm_x_lload0, pm_x_lstore0, pm_z_bipush, pm_z_iand, pm_z_iconst, pm_z_l2i, pm_z_ladd, pm_z_land, pm_z_lsub, pm_z_lushr, Bool.cond_true, Bool.cond_false, Bool.or_false, Bool.false_or, Bool.true_or, Bool.or_true, true_and, and_true, if_true, if_false, List.length_cons, List.length_nil, List.getElem?_cons_zero, List.getElem?_cons_succ, List.set_cons_zero, List.set_cons_succ, Option.toList_some, Option.toList_none, List.cons_append, List.nil_append, beq_self_eq_true, Option.isSome_some, Option.isSome_none, pm_tg_lit, ite_true, ite_false, Nat.reduceAdd, Nat.reduceBEq, Nat.reduceLT, Nat.reduceLeDiff, Nat.reduceEqDiff, Int.reduceAdd, Int.reduceSub, Int.reduceLE, Int.reduceLT, Int.reduceEq, Int.reduceToNat, Int.reduceNeg, Int.cast_ofNat_Int, Int.reduceNatCast, Int.reduceNatCast', Int.zero_add, Int.add_zero, Nat.zero_add, Nat.add_zero, and_self, decide_true, decide_false, zJ13_bitCount_95d88_B, zJ13_bitCount_95d88_F, zJ13_bitCount_95d88_R, zJ13_bitCount_95d88_X, zJ13_bitCount_95d88_K314, zJ13_bitCount_95d88_K316, zJ13_bitCount_95d88_K318, pm_z_ireti (zJ13_bitCount_95d88_R), dJ13_bitCount_95d88_0, dJ13_bitCount_95d88_1, dJ13_bitCount_95d88_2, dJ13_bitCount_95d88_3, dJ13_bitCount_95d88_4, dJ13_bitCount_95d88_7, dJ13_bitCount_95d88_8, dJ13_bitCount_95d88_9, dJ13_bitCount_95d88_10, dJ13_bitCount_95d88_11, dJ13_bitCount_95d88_14, dJ13_bitCount_95d88_15, dJ13_bitCount_95d88_16, dJ13_bitCount_95d88_17, dJ13_bitCount_95d88_18, dJ13_bitCount_95d88_21, dJ13_bitCount_95d88_22, dJ13_bitCount_95d88_23, dJ13_bitCount_95d88_24, dJ13_bitCount_95d88_25, dJ13_bitCount_95d88_26, dJ13_bitCount_95d88_27, dJ13_bitCount_95d88_28, dJ13_bitCount_95d88_29, dJ13_bitCount_95d88_32, dJ13_bitCount_95d88_33, dJ13_bitCount_95d88_34, dJ13_bitCount_95d88_35, dJ13_bitCount_95d88_36, dJ13_bitCount_95d88_38, dJ13_bitCount_95d88_39, dJ13_bitCount_95d88_40, dJ13_bitCount_95d88_41, dJ13_bitCount_95d88_42, dJ13_bitCount_95d88_43, dJ13_bitCount_95d88_45, dJ13_bitCount_95d88_46, dJ13_bitCount_95d88_47, dJ13_bitCount_95d88_48, dJ13_bitCount_95d88_49, dJ13_bitCount_95d88_50, dJ13_bitCount_95d88_52, dJ13_bitCount_95d88_53, dJ13_bitCount_95d88_54, dJ13_bitCount_95d88_55, dJ13_bitCount_95d88_56, dJ13_bitCount_95d88_57, dJ13_bitCount_95d88_59, dJ13_bitCount_95d88_60]
  rw [show pm_lush (Int64.ofNat (w + w / 256 + (w + w / 256) / 65536)) 32 = Int64.ofNat ((w + w / 256 + (w + w / 256) / 65536) / 4294967296) from pl_lush (k := 32) (by decide) (by omega), pl_add]
  refine pm_go_on [] 60 ?_
  set_option maxRecDepth 100000 in simp (maxSteps := 2000000) only [pm_x_run, pm_x_rt, pm_x_rf, pm_z_S, pm_z_D, pm_z_cut0, pm_z_cut1, pm_z_cli, pm_z_clr, pm_z_cln, pm_z_cll, pm_z_up, pm_x_k3, pm_x_ldc2, pm_x_lload0, pm_x_lstore0, pm_z_bipush, pm_z_iand, pm_z_iconst, pm_z_l2i, pm_z_ladd, pm_z_land, pm_z_lsub, pm_z_lushr, Bool.cond_true, Bool.cond_false, Bool.or_false, Bool.false_or, Bool.true_or, Bool.or_true, true_and, and_true, if_true, if_false, List.length_cons, List.length_nil, List.getElem?_cons_zero, List.getElem?_cons_succ, List.set_cons_zero, List.set_cons_succ, Option.toList_some, Option.toList_none, List.cons_append, List.nil_append, beq_self_eq_true, Option.isSome_some, Option.isSome_none, pm_tg_lit, ite_true, ite_false, Nat.reduceAdd, Nat.reduceBEq, Nat.reduceLT, Nat.reduceLeDiff, Nat.reduceEqDiff, Int.reduceAdd, Int.reduceSub, Int.reduceLE, Int.reduceLT, Int.reduceEq, Int.reduceToNat, Int.reduceNeg, Int.cast_ofNat_Int, Int.reduceNatCast, Int.reduceNatCast', Int.zero_add, Int.add_zero, Nat.zero_add, Nat.add_zero, and_self, decide_true, decide_false, zJ13_bitCount_95d88_B, zJ13_bitCount_95d88_F, zJ13_bitCount_95d88_R, zJ13_bitCount_95d88_X, zJ13_bitCount_95d88_K314, zJ13_bitCount_95d88_K316, zJ13_bitCount_95d88_K318, pm_z_ireti (zJ13_bitCount_95d88_R), dJ13_bitCount_95d88_0, dJ13_bitCount_95d88_1, dJ13_bitCount_95d88_2, dJ13_bitCount_95d88_3, dJ13_bitCount_95d88_4, dJ13_bitCount_95d88_7, dJ13_bitCount_95d88_8, dJ13_bitCount_95d88_9, dJ13_bitCount_95d88_10, dJ13_bitCount_95d88_11, dJ13_bitCount_95d88_14, dJ13_bitCount_95d88_15, dJ13_bitCount_95d88_16, dJ13_bitCount_95d88_17, dJ13_bitCount_95d88_18, dJ13_bitCount_95d88_21, dJ13_bitCount_95d88_22, dJ13_bitCount_95d88_23, dJ13_bitCount_95d88_24, dJ13_bitCount_95d88_25, dJ13_bitCount_95d88_26, dJ13_bitCount_95d88_27, dJ13_bitCount_95d88_28, dJ13_bitCount_95d88_29, dJ13_bitCount_95d88_32, dJ13_bitCount_95d88_33, dJ13_bitCount_95d88_34, dJ13_bitCount_95d88_35, dJ13_bitCount_95d88_36, dJ13_bitCount_95d88_38, dJ13_bitCount_95d88_39, dJ13_bitCount_95d88_40, dJ13_bitCount_95d88_41, dJ13_bitCount_95d88_42, dJ13_bitCount_95d88_43, dJ13_bitCount_95d88_45, dJ13_bitCount_95d88_46, dJ13_bitCount_95d88_47, dJ13_bitCount_95d88_48, dJ13_bitCount_95d88_49, dJ13_bitCount_95d88_50, dJ13_bitCount_95d88_52, dJ13_bitCount_95d88_53, dJ13_bitCount_95d88_54, dJ13_bitCount_95d88_55, dJ13_bitCount_95d88_56, dJ13_bitCount_95d88_57, dJ13_bitCount_95d88_59, dJ13_bitCount_95d88_60]
  rw [pl_last, hE.1, ← bc_ls]
  exact hk
