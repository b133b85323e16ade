/-! HINGES, in the class -/
theorem lowx_and {x n : Nat} (hx : x < 2 ^ 32) (h1 : ∀ i, i < n → x.testBit i = false) (h2 : x.testBit n = true) : x &&& (2 ^ 32 - x) = 2 ^ n := by
  have hp : 0 < 2 ^ n := Nat.two_pow_pos n
  have hq : 2 ^ (n + 1) = 2 ^ n * 2 := Nat.pow_succ _ _
  have e : x % 2 ^ (n + 1) = 2 ^ n := by
    apply Nat.eq_of_testBit_eq
    intro i
    rw [Nat.testBit_mod_two_pow, Nat.testBit_two_pow]
    by_cases hi : i < n
    · simp [h1 i hi]
      omega
    · by_cases hi2 : i = n
      · subst hi2
        simp [h2]
      · simp [show ¬ n = i from fun z => hi2 z.symm]
        omega
  have hf : x = 2 ^ (n + 1) * (x / 2 ^ (n + 1)) + 2 ^ n := by
    have := Nat.div_add_mod x (2 ^ (n + 1))
    omega
  generalize x / 2 ^ (n + 1) = q at hf
  have hn : n < 32 := by
    refine Nat.lt_of_not_le fun hc => ?_
    have := Nat.pow_le_pow_right (show 0 < 2 by decide) hc
    omega
  have hf2 : x - 1 = 2 ^ (n + 1) * q + (2 ^ n - 1) := by omega
  apply Nat.eq_of_testBit_eq
  intro i
  rw [Nat.testBit_and, show 2 ^ 32 - x = 2 ^ 32 - ((x - 1) + 1) by omega, Nat.testBit_two_pow_sub_succ (show x - 1 < 2 ^ 32 by omega), hf2]
  rw [show x.testBit i = (2 ^ (n + 1) * q + 2 ^ n).testBit i by rw [← hf]]
  rw [Nat.testBit_two_pow_mul_add _ (show 2 ^ n - 1 < 2 ^ (n + 1) by omega), Nat.testBit_two_pow_mul_add _ (show 2 ^ n < 2 ^ (n + 1) by omega)]
  by_cases hi : i < n + 1
  · rw [if_pos hi, if_pos hi, Nat.testBit_two_pow_sub_one, Nat.testBit_two_pow]
    by_cases hi2 : i < n
    · simp [hi2]
      omega
    · simp [hi2]
      omega
  · rw [if_neg hi, if_neg hi]
    rw [Nat.testBit_two_pow]
    simp [show ¬ n = i by omega]
    intro h3 _
    exact h3
theorem pb_low {p : Nat → Bool} {l : Nat} (hl : l < 16) (h1 : ∀ i, i < l → p i = false) (h2 : p l = true) : pm_and ((bs p 16 : Nat) : Int) (-((bs p 16 : Nat) : Int)) = ((bs (it1 l) 16 : Nat) : Int) := by
  have hp : bs p 16 < 65536 := bs_lt p 16
  have hr : bs (it1 l) 16 < 65536 := bs_lt _ 16
  have b1 : ∀ i, i < 16 → (bs p 16).testBit i = p i := fun i hi => by rw [bs_bit, decide_eq_true hi, Bool.true_and]
  have e := pb_ofNeg (x := bs p 16) 0 (by omega)
  rw [show (-((0 : Nat) : Int) - ((bs p 16 : Nat) : Int)) = -((bs p 16 : Nat) : Int) by omega, Nat.add_zero] at e
  unfold pm_and
  rw [e, pb_ofN, pb_and', lowx_and (n := l) (by omega) (fun i hi => by rw [b1 i (by omega)]; exact h1 i hi) (by rw [b1 l hl]; exact h2), bs_one hl]
  exact nI_toInt (by
    have : bs (fun i => decide (i = l)) 16 < 65536 := bs_lt _ 16
    omega)
theorem bar_it {lk lk' : Nat → Nat → Bool} {x l : Nat} (hl : l ≠ x) (h : ∀ n m, lk' n m = (lk n m && (!it1 x n && !it1 x m))) : ∀ d, itF lk (it1 x) (it1 l) d x = false ∧ ∀ m, itF lk (it1 x) (it1 l) d m = itF lk' no0 (it1 l) d m
  | 0 => ⟨by simp [itF, it1]; exact fun z => hl z.symm, fun _ => rfl⟩
  | d + 1 => by
    obtain ⟨i1, i2⟩ := bar_it hl h d
    have s : itF lk (it1 x) (it1 l) (d + 1) x = false := by
      show (_ && !it1 x x) = false
      simp [it1]
    refine ⟨s, fun m => ?_⟩
    by_cases z : m = x
    · subst z
      rw [s, it_s, ← i2, i1]
      have : anyE 16 (fun n => itF lk' no0 (it1 l) d n && lk' n m) = anyE 16 (fun _ => false) := anyE_ext fun n _ => by rw [h]; simp [it1]
      rw [this]
      rfl
    · rw [it_s]
      show ((itF lk (it1 x) (it1 l) d m || anyE 16 (fun n => itF lk (it1 x) (it1 l) d n && lk n m)) && !it1 x m) = _
      have e1 : it1 x m = false := by simp [it1, z]
      rw [e1, i2 m]
      have : anyE 16 (fun n => itF lk (it1 x) (it1 l) d n && lk n m) = anyE 16 (fun n => itF lk' no0 (it1 l) d n && lk' n m) := anyE_ext fun n _ => by
        rw [← i2 n, h, e1]
        by_cases y : n = x
        · subst y
          rw [i1]
          rfl
        · simp [it1, y]
      rw [this]
      simp
theorem it_none (lk : Nat → Nat → Bool) (bar : Nat → Bool) : ∀ d m, itF lk bar no0 d m = false
  | 0, _ => rfl
  | d + 1, m => by
    show ((itF lk bar no0 d m || anyE 16 (fun n => itF lk bar no0 d n && lk n m)) && !bar m) = false
    rw [it_none lk bar d m, anyE_ext (q := fun _ => false) fun n _ => by rw [it_none lk bar d n]; rfl]
    rfl
section HNG
variable {f : pm_H} {s a : Nat} {L : Nat → Nat → Int} {N : nt} {k : pm_P} {A R : Nat → Nat → Int} {U : Nat → Nat} {S : Nat → Int}
theorem spG_shut (N : nt) (x : Nat) (n m : Nat) : lkC (cN N 0) (cN N 1) (spG N false (-1) (x : Int)) (ldN N) n m = (lkN N (-1) n m && (!it1 x n && !it1 x m)) := by
  rw [lkN_C, Bool.eq_iff_iff, lkC_iff, Bool.and_eq_true, lkC_iff]
  have g : ∀ c, spG N false (-1) (x : Int) c = true ↔ (spG N false (-1) (-1) c = true ∧ cN N 0 c ≠ x ∧ cN N 1 c ≠ x) := by
    intro c
    have h1 : ¬ ((cN N 0 c : Int) = -1 ∨ (cN N 1 c : Int) = -1) := by omega
    unfold spG
    rw [decide_eq_false h1]
    by_cases z : (cN N 0 c : Int) = (x : Int) ∨ (cN N 1 c : Int) = (x : Int)
    · rw [decide_eq_true z]
      simp
      omega
    · rw [decide_eq_false z]
      simp
      omega
  simp only [g, it1, Bool.and_eq_true, Bool.not_eq_true', decide_eq_false_iff_not]
  constructor
  · rintro ⟨c, h1, ⟨h2, h3, h4⟩, h5⟩
    refine ⟨⟨c, h1, h2, h5⟩, ?_⟩
    omega
  · rintro ⟨⟨c, h1, h2, h5⟩, h6⟩
    exact ⟨c, h1, ⟨h2, by omega⟩, h5⟩
theorem hg_O (i : INV N) {x m : Nat} (hx : x < nN N) (hm : m < 16) : (wnB N (-1) x 16 m && !it1 x m) = hgP N x m := by
  have o := okB_in i.1 i.2.1
  have b0 := okn o
  have l := fdN_lo (N := N) (t := false) (but := -1) (shut := -1) (x := x) (m := m)
  have e : spG N false (-1) (-1) = thN N := by
    rw [← lkG_sp]
    funext c
    unfold lkG
    have : ((c : Int) ≠ -1) := by omega
    simp [this]
  have key := fdN_clo (t := false) (but := -1) (shut := -1) o (by omega : x < 16) hm
  rw [e, th_clo i (by omega) hm] at key
  have w : wnB N (-1) x 16 m = (decide (m < nN N) && on1 N 0 m x) := by
    unfold wnB on1
    rw [Bool.eq_iff_iff]
    simp only [Bool.and_eq_true, decide_eq_true_eq]
    constructor
    · intro z
      exact ⟨fdN_nN o hx hm z.1, key.mp z.1⟩
    · intro z
      exact ⟨key.mpr z.2, by omega⟩
  rw [w]
  rfl
/-- one node: what the class compares -/
theorem hg_one (i : INV N) {x : Nat} (hx : x < nN N) : (∃ p : Nat → Bool, pm_and ((bs (hgP N x) 16 : Nat) : Int) (-((bs (hgP N x) 16 : Nat) : Int)) = ((bs p 16 : Nat) : Int) ∧ ((bs (itF (lkN N (-1)) (it1 x) p 16) 16 ≠ bs (hgP N x) 16) ↔ hgN N x = true)) := by
  have o := okB_in i.1 i.2.1
  have b0 := okn o
  rcases fsI_sp (hgP N x) (nN N) with ⟨e1, e2⟩ | ⟨l, e1, e2, e3, e4⟩
  · have em : bs (hgP N x) 16 = 0 := by
      rw [bs_ext (q := fun _ => false) fun m _ => ?_, bs_none]
      by_cases z : m < nN N
      · exact e2 m z
      · simp [hgP, z]
    refine ⟨no0, ?_, ?_⟩
    · rw [em, show bs no0 16 = 0 from bs_none 16]
      rfl
    · rw [em, bs_ext (q := fun _ => false) fun m _ => it_none _ _ 16 m, bs_none]
      rw [show hgN N x = false by unfold hgN; rw [e1]; rfl]
      simp
  · have lx : l ≠ x := by
      intro z
      rw [z] at e3
      simp [hgP, it1] at e3
    have l16 : l < 16 := by omega
    refine ⟨it1 l, pb_low l16 e4 e3, ?_⟩
    have bi := (bar_it (lk := lkN N (-1)) (lk' := lkC (cN N 0) (cN N 1) (spG N false (-1) (x : Int)) (ldN N)) lx (spG_shut N x) 16)
    have V : ∀ m, m < 16 → itF (lkN N (-1)) (it1 x) (it1 l) 16 m = decide (fdN N false (-1) (x : Int) l m ≠ -1) := by
      intro m hm
      rw [bi.2 m, fd_le (fun c hc => (ok16 o hc).1) (fun c hc => (ok16 o hc).2) l16 hm]
      have lo := (fdN_lo (N := N) (t := false) (but := -1) (shut := (x : Int)) (x := l) (m := m)).2
      show decide (fdN N false (-1) (x : Int) l m ≠ -1 ∧ fdN N false (-1) (x : Int) l m ≤ _) = _
      simp
      omega
    have sub : ∀ m, m < 16 → itF (lkN N (-1)) (it1 x) (it1 l) 16 m = true → hgP N x m = true := by
      intro m hm hv
      have mx : m ≠ x := fun z => by rw [z, bi.1] at hv; cases hv
      rw [V m hm] at hv
      have hv2 := of_decide_eq_true hv
      have c1 := (fdN_clo o l16 hm).mp hv2
      have c2 : clo (cN N 0) (cN N 1) (thN N) (ldN N) l m := clo_mono (fun c _ z => by
        unfold spG at z
        simp at z
        exact z.1) c1
      have hl : (l : Int) ∈ tN N 0 x := by
        have : (decide (l < nN N) && on1 N 0 l x) = true := by
          unfold hgP at e3
          rw [Bool.and_eq_true] at e3
          exact e3.1
        unfold on1 at this
        simp at this
        exact this.2
      have c3 := (th_clo i (by omega) hm).mp (clo_tr ((th_clo i (by omega) l16).mpr hl) c2)
      have mn := fdN_nN o e2 hm hv2
      simp [hgP, on1, it1, mn, c3, mx]
    have eh : hgN N x = anyE (nN N) (fun n => hgP N x n && decide (fdN N false (-1) (x : Int) l n = -1)) := by
      unfold hgN
      rw [e1, decide_eq_true (by omega), Bool.true_and, Int.toNat_natCast]
    rw [eh, anyE_iff]
    constructor
    · intro w
      obtain ⟨m, hm, y⟩ := bs_ne w
      have y1 : itF (lkN N (-1)) (it1 x) (it1 l) 16 m = false := by
        cases z : itF (lkN N (-1)) (it1 x) (it1 l) 16 m
        · rfl
        · rw [z, sub m hm z] at y
          exact absurd rfl y
      have y2 : hgP N x m = true := by
        cases z : hgP N x m
        · rw [z, y1] at y
          exact absurd rfl y
        · rfl
      have mn : m < nN N := by
        unfold hgP at y2
        simp at y2
        exact y2.1.1
      refine ⟨m, mn, ?_⟩
      rw [V m hm] at y1
      have y3 := of_decide_eq_false y1
      rw [y2, decide_eq_true (Classical.byContradiction fun z => y3 z)]
      rfl
    · rintro ⟨m, mn, y⟩ w
      have y2 : hgP N x m = true ∧ fdN N false (-1) (x : Int) l m = -1 := by simpa using y
      have := bs_inj w m (by omega)
      rw [y2.1, V m (by omega), y2.2] at this
      simp at this
theorem hingesOf_c (h : sv_at f s L) (hc : cn_at f a A R U S) (hl : ckl N A S) (i : INV N) (hd : a + 21 ≤ s ∨ s + 6 ≤ a) (hk : ∀ (f' : pm_H) (L' : Nat → Nat → Int), sv_at f' s L' → sfr s f f' → k (some (.inl ((bs (hgN N) (nN N) : Nat) : Int))) f') : pm_ex T_X2_hingesOf [.inr (.inl (some s)), .inr (.inl (some a))] f k := by
  have o := okB_in i.1 i.2.1
  have b0 := okn o
  have s0 : S 0 = (nN N : Int) := hl.1.1
  refine in_X2_hingesOf ?_
  refine pm_go_on [10] 60 ?_
  set_option maxRecDepth 100000 in simp (maxSteps := 2000000) only [pm_x_run, pm_x_rt, pm_x_rf, pm_z_S, pm_z_D, pm_z_cut0, pm_z_cut1, pm_z_cli, pm_z_clr, pm_z_cln, pm_z_cll, pm_z_up, pm_x_aload0, pm_x_aload1, pm_x_c, pm_x_c2, pm_x_cn0, pm_x_cn1, pm_x_getf, pm_x_gf, pm_x_goto, pm_x_gv, pm_x_icmp_eq, pm_x_icmp_ge, pm_x_iinc3, pm_x_iload2, pm_x_iload3, pm_x_iload4, pm_x_invv, pm_x_istore2, pm_x_istore3, pm_x_istore4, pm_x_v0, pm_x_v1, pm_x_x2, pm_z_bipush, pm_z_cat0, pm_z_cati, pm_z_catl, pm_z_catr, pm_z_iand, pm_z_iconst, pm_z_ineg, pm_z_ior, pm_z_ishl, pm_z_ixor, pm_z_pop0, pm_z_pop1, zX2_hingesOf_B, zX2_hingesOf_F, zX2_hingesOf_R, zX2_hingesOf_X, zX2_hingesOf_C27, zX2_hingesOf_C47, pm_z_ireti (zX2_hingesOf_R), fX2_35, dX2_hingesOf_0, dX2_hingesOf_1, dX2_hingesOf_2, dX2_hingesOf_3, dX2_hingesOf_6, dX2_hingesOf_7, dX2_hingesOf_8, dX2_hingesOf_9, dX2_hingesOf_10, dX2_hingesOf_11, dX2_hingesOf_12, dX2_hingesOf_15, dX2_hingesOf_18, dX2_hingesOf_19, dX2_hingesOf_20, dX2_hingesOf_21, dX2_hingesOf_22, dX2_hingesOf_24, dX2_hingesOf_25, dX2_hingesOf_28, dX2_hingesOf_29, dX2_hingesOf_30, dX2_hingesOf_31, dX2_hingesOf_32, dX2_hingesOf_33, dX2_hingesOf_34, dX2_hingesOf_36, dX2_hingesOf_37, dX2_hingesOf_39, dX2_hingesOf_41, dX2_hingesOf_42, dX2_hingesOf_43, dX2_hingesOf_45, dX2_hingesOf_46, dX2_hingesOf_47, dX2_hingesOf_48, dX2_hingesOf_51, dX2_hingesOf_53, dX2_hingesOf_56, dX2_hingesOf_57, dX2_hingesOf_58, dX2_hingesOf_59, dX2_hingesOf_60, dX2_hingesOf_61, dX2_hingesOf_62, dX2_hingesOf_65, dX2_hingesOf_68, dX2_hingesOf_69, Bool.cond_true, Bool.cond_false, Bool.or_false, Bool.false_or, Bool.true_or, Bool.or_true, true_and, and_true, if_true, if_false, List.length_cons, List.length_nil, List.getElem?_cons_zero, List.getElem?_cons_succ, List.set_cons_zero, List.set_cons_succ, Option.toList_some, Option.toList_none, List.cons_append, List.nil_append, beq_self_eq_true, Option.isSome_some, Option.isSome_none, pm_tg_lit, ite_true, ite_false, Nat.reduceAdd, Nat.reduceBEq, Nat.reduceLT, Nat.reduceLeDiff, Nat.reduceEqDiff, Int.reduceAdd, Int.reduceSub, Int.reduceLE, Int.reduceLT, Int.reduceEq, Int.reduceToNat, Int.reduceNeg, Int.cast_ofNat_Int, Int.reduceNatCast, Int.reduceNatCast', Int.zero_add, Int.add_zero, Nat.zero_add, Nat.add_zero, and_self, decide_true, decide_false, true_or, or_true, or_false, false_or, eq_self, Int.toNat_natCast, b2_e0, b2_e1, b2_ok, b2_w, b2_v, b2_tt, b2_ff, Bool.true_eq_false, Bool.false_eq_true, Option.some.injEq, Int.one_mul, Int.mul_one, not_true_eq_false, not_false_eq_true, ite_not, decide_eq_false_iff_not, decide_eq_true_eq, Int.reduceMul, Int.reduceMod, sv0 h, sv1 h, sv2 h, sv3 h, sv4 h, sv5 h, pm_z_rcv1 (sv0 h)]
  refine linkAll_c h hc hl o hd fun f1 g h1 r1 e1 => ?_
  have c1 := cn_keepS hc hd r1
  set_option maxRecDepth 100000 in simp (maxSteps := 2000000) only [pm_x_run, pm_x_rt, pm_x_rf, pm_z_S, pm_z_D, pm_z_cut0, pm_z_cut1, pm_z_cli, pm_z_clr, pm_z_cln, pm_z_cll, pm_z_up, pm_x_aload0, pm_x_aload1, pm_x_c, pm_x_c2, pm_x_cn0, pm_x_cn1, pm_x_getf, pm_x_gf, pm_x_goto, pm_x_gv, pm_x_icmp_eq, pm_x_icmp_ge, pm_x_iinc3, pm_x_iload2, pm_x_iload3, pm_x_iload4, pm_x_invv, pm_x_istore2, pm_x_istore3, pm_x_istore4, pm_x_v0, pm_x_v1, pm_x_x2, pm_z_bipush, pm_z_cat0, pm_z_cati, pm_z_catl, pm_z_catr, pm_z_iand, pm_z_iconst, pm_z_ineg, pm_z_ior, pm_z_ishl, pm_z_ixor, pm_z_pop0, pm_z_pop1, zX2_hingesOf_B, zX2_hingesOf_F, zX2_hingesOf_R, zX2_hingesOf_X, zX2_hingesOf_C27, zX2_hingesOf_C47, pm_z_ireti (zX2_hingesOf_R), fX2_35, dX2_hingesOf_0, dX2_hingesOf_1, dX2_hingesOf_2, dX2_hingesOf_3, dX2_hingesOf_6, dX2_hingesOf_7, dX2_hingesOf_8, dX2_hingesOf_9, dX2_hingesOf_10, dX2_hingesOf_11, dX2_hingesOf_12, dX2_hingesOf_15, dX2_hingesOf_18, dX2_hingesOf_19, dX2_hingesOf_20, dX2_hingesOf_21, dX2_hingesOf_22, dX2_hingesOf_24, dX2_hingesOf_25, dX2_hingesOf_28, dX2_hingesOf_29, dX2_hingesOf_30, dX2_hingesOf_31, dX2_hingesOf_32, dX2_hingesOf_33, dX2_hingesOf_34, dX2_hingesOf_36, dX2_hingesOf_37, dX2_hingesOf_39, dX2_hingesOf_41, dX2_hingesOf_42, dX2_hingesOf_43, dX2_hingesOf_45, dX2_hingesOf_46, dX2_hingesOf_47, dX2_hingesOf_48, dX2_hingesOf_51, dX2_hingesOf_53, dX2_hingesOf_56, dX2_hingesOf_57, dX2_hingesOf_58, dX2_hingesOf_59, dX2_hingesOf_60, dX2_hingesOf_61, dX2_hingesOf_62, dX2_hingesOf_65, dX2_hingesOf_68, dX2_hingesOf_69, Bool.cond_true, Bool.cond_false, Bool.or_false, Bool.false_or, Bool.true_or, Bool.or_true, true_and, and_true, if_true, if_false, List.length_cons, List.length_nil, List.getElem?_cons_zero, List.getElem?_cons_succ, List.set_cons_zero, List.set_cons_succ, Option.toList_some, Option.toList_none, List.cons_append, List.nil_append, beq_self_eq_true, Option.isSome_some, Option.isSome_none, pm_tg_lit, ite_true, ite_false, Nat.reduceAdd, Nat.reduceBEq, Nat.reduceLT, Nat.reduceLeDiff, Nat.reduceEqDiff, Int.reduceAdd, Int.reduceSub, Int.reduceLE, Int.reduceLT, Int.reduceEq, Int.reduceToNat, Int.reduceNeg, Int.cast_ofNat_Int, Int.reduceNatCast, Int.reduceNatCast', Int.zero_add, Int.add_zero, Nat.zero_add, Nat.add_zero, and_self, decide_true, decide_false, true_or, or_true, or_false, false_or, eq_self, Int.toNat_natCast, b2_e0, b2_e1, b2_ok, b2_w, b2_v, b2_tt, b2_ff, Bool.true_eq_false, Bool.false_eq_true, Option.some.injEq, Int.one_mul, Int.mul_one, not_true_eq_false, not_false_eq_true, ite_not, decide_eq_false_iff_not, decide_eq_true_eq, Int.reduceMul, Int.reduceMod, sv0 h1, sv1 h1, sv2 h1, sv3 h1, sv4 h1, sv5 h1, pm_z_rcv1 (sv0 h1)]
  refine pm_for (nN N) (fun m lv F => ∃ w4 : Option pm_V, F = f1 ∧ lv = [some (.inr (.inl (some (s)))), some (.inr (.inl (some (a)))), some (.inl (((bs (hgN N) m : Nat) : Int))), some (.inl ((m : Int))), w4]) (fun m lv F hm hJ ih => ?_) (fun lv F hJ => ?_) 0 _ _ (Nat.zero_le _) ⟨none, rfl, rfl⟩
  · obtain ⟨w4, rfl, rfl⟩ := hJ
    have m16 : m < 16 := by omega
    obtain ⟨p, p1, p2⟩ := hg_one i hm
    have eO : bs (fun j => itF (lkN N (-1)) no0 (it1 m) 16 j && !it1 m j) 16 = bs (hgP N m) 16 := bs_ext fun j hj => by rw [it_wn o m16 hj]; exact hg_O i hm hj
    have lt := bs_lt (hgP N m) 16
    refine pm_go_on [10] 60 ?_
    set_option maxRecDepth 100000 in simp (maxSteps := 2000000) only [pm_x_run, pm_x_rt, pm_x_rf, pm_z_S, pm_z_D, pm_z_cut0, pm_z_cut1, pm_z_cli, pm_z_clr, pm_z_cln, pm_z_cll, pm_z_up, pm_x_aload0, pm_x_aload1, pm_x_c, pm_x_c2, pm_x_cn0, pm_x_cn1, pm_x_getf, pm_x_gf, pm_x_goto, pm_x_gv, pm_x_icmp_eq, pm_x_icmp_ge, pm_x_iinc3, pm_x_iload2, pm_x_iload3, pm_x_iload4, pm_x_invv, pm_x_istore2, pm_x_istore3, pm_x_istore4, pm_x_v0, pm_x_v1, pm_x_x2, pm_z_bipush, pm_z_cat0, pm_z_cati, pm_z_catl, pm_z_catr, pm_z_iand, pm_z_iconst, pm_z_ineg, pm_z_ior, pm_z_ishl, pm_z_ixor, pm_z_pop0, pm_z_pop1, zX2_hingesOf_B, zX2_hingesOf_F, zX2_hingesOf_R, zX2_hingesOf_X, zX2_hingesOf_C27, zX2_hingesOf_C47, pm_z_ireti (zX2_hingesOf_R), fX2_35, dX2_hingesOf_0, dX2_hingesOf_1, dX2_hingesOf_2, dX2_hingesOf_3, dX2_hingesOf_6, dX2_hingesOf_7, dX2_hingesOf_8, dX2_hingesOf_9, dX2_hingesOf_10, dX2_hingesOf_11, dX2_hingesOf_12, dX2_hingesOf_15, dX2_hingesOf_18, dX2_hingesOf_19, dX2_hingesOf_20, dX2_hingesOf_21, dX2_hingesOf_22, dX2_hingesOf_24, dX2_hingesOf_25, dX2_hingesOf_28, dX2_hingesOf_29, dX2_hingesOf_30, dX2_hingesOf_31, dX2_hingesOf_32, dX2_hingesOf_33, dX2_hingesOf_34, dX2_hingesOf_36, dX2_hingesOf_37, dX2_hingesOf_39, dX2_hingesOf_41, dX2_hingesOf_42, dX2_hingesOf_43, dX2_hingesOf_45, dX2_hingesOf_46, dX2_hingesOf_47, dX2_hingesOf_48, dX2_hingesOf_51, dX2_hingesOf_53, dX2_hingesOf_56, dX2_hingesOf_57, dX2_hingesOf_58, dX2_hingesOf_59, dX2_hingesOf_60, dX2_hingesOf_61, dX2_hingesOf_62, dX2_hingesOf_65, dX2_hingesOf_68, dX2_hingesOf_69, Bool.cond_true, Bool.cond_false, Bool.or_false, Bool.false_or, Bool.true_or, Bool.or_true, true_and, and_true, if_true, if_false, List.length_cons, List.length_nil, List.getElem?_cons_zero, List.getElem?_cons_succ, List.set_cons_zero, List.set_cons_succ, Option.toList_some, Option.toList_none, List.cons_append, List.nil_append, beq_self_eq_true, Option.isSome_some, Option.isSome_none, pm_tg_lit, ite_true, ite_false, Nat.reduceAdd, Nat.reduceBEq, Nat.reduceLT, Nat.reduceLeDiff, Nat.reduceEqDiff, Int.reduceAdd, Int.reduceSub, Int.reduceLE, Int.reduceLT, Int.reduceEq, Int.reduceToNat, Int.reduceNeg, Int.cast_ofNat_Int, Int.reduceNatCast, Int.reduceNatCast', Int.zero_add, Int.add_zero, Nat.zero_add, Nat.add_zero, and_self, decide_true, decide_false, true_or, or_true, or_false, false_or, eq_self, Int.toNat_natCast, b2_e0, b2_e1, b2_ok, b2_w, b2_v, b2_tt, b2_ff, Bool.true_eq_false, Bool.false_eq_true, Option.some.injEq, Int.one_mul, Int.mul_one, not_true_eq_false, not_false_eq_true, ite_not, decide_eq_false_iff_not, decide_eq_true_eq, Int.reduceMul, Int.reduceMod, sv0 h1, sv1 h1, sv2 h1, sv3 h1, sv4 h1, sv5 h1, pm_z_rcv1 (sv0 h1), cn0 c1, cn1 c1, cn2 c1, cn3 c1, cn4 c1, cn5 c1, cn6 c1, cn7 c1, cn8 c1, cn9 c1, cn10 c1, pm_z_rcv1 (cn0 c1), s0]
    rw [if_pos (by omega)]
    refine spread_z h1 (lk := lkN N (-1)) e1 (p := it1 m) (d := 16) (pb_one m16) rfl (by omega) ?_
    set_option maxRecDepth 100000 in simp (maxSteps := 2000000) only [pm_x_run, pm_x_rt, pm_x_rf, pm_z_S, pm_z_D, pm_z_cut0, pm_z_cut1, pm_z_cli, pm_z_clr, pm_z_cln, pm_z_cll, pm_z_up, pm_x_aload0, pm_x_aload1, pm_x_c, pm_x_c2, pm_x_cn0, pm_x_cn1, pm_x_getf, pm_x_gf, pm_x_goto, pm_x_gv, pm_x_icmp_eq, pm_x_icmp_ge, pm_x_iinc3, pm_x_iload2, pm_x_iload3, pm_x_iload4, pm_x_invv, pm_x_istore2, pm_x_istore3, pm_x_istore4, pm_x_v0, pm_x_v1, pm_x_x2, pm_z_bipush, pm_z_cat0, pm_z_cati, pm_z_catl, pm_z_catr, pm_z_iand, pm_z_iconst, pm_z_ineg, pm_z_ior, pm_z_ishl, pm_z_ixor, pm_z_pop0, pm_z_pop1, zX2_hingesOf_B, zX2_hingesOf_F, zX2_hingesOf_R, zX2_hingesOf_X, zX2_hingesOf_C27, zX2_hingesOf_C47, pm_z_ireti (zX2_hingesOf_R), fX2_35, dX2_hingesOf_0, dX2_hingesOf_1, dX2_hingesOf_2, dX2_hingesOf_3, dX2_hingesOf_6, dX2_hingesOf_7, dX2_hingesOf_8, dX2_hingesOf_9, dX2_hingesOf_10, dX2_hingesOf_11, dX2_hingesOf_12, dX2_hingesOf_15, dX2_hingesOf_18, dX2_hingesOf_19, dX2_hingesOf_20, dX2_hingesOf_21, dX2_hingesOf_22, dX2_hingesOf_24, dX2_hingesOf_25, dX2_hingesOf_28, dX2_hingesOf_29, dX2_hingesOf_30, dX2_hingesOf_31, dX2_hingesOf_32, dX2_hingesOf_33, dX2_hingesOf_34, dX2_hingesOf_36, dX2_hingesOf_37, dX2_hingesOf_39, dX2_hingesOf_41, dX2_hingesOf_42, dX2_hingesOf_43, dX2_hingesOf_45, dX2_hingesOf_46, dX2_hingesOf_47, dX2_hingesOf_48, dX2_hingesOf_51, dX2_hingesOf_53, dX2_hingesOf_56, dX2_hingesOf_57, dX2_hingesOf_58, dX2_hingesOf_59, dX2_hingesOf_60, dX2_hingesOf_61, dX2_hingesOf_62, dX2_hingesOf_65, dX2_hingesOf_68, dX2_hingesOf_69, Bool.cond_true, Bool.cond_false, Bool.or_false, Bool.false_or, Bool.true_or, Bool.or_true, true_and, and_true, if_true, if_false, List.length_cons, List.length_nil, List.getElem?_cons_zero, List.getElem?_cons_succ, List.set_cons_zero, List.set_cons_succ, Option.toList_some, Option.toList_none, List.cons_append, List.nil_append, beq_self_eq_true, Option.isSome_some, Option.isSome_none, pm_tg_lit, ite_true, ite_false, Nat.reduceAdd, Nat.reduceBEq, Nat.reduceLT, Nat.reduceLeDiff, Nat.reduceEqDiff, Int.reduceAdd, Int.reduceSub, Int.reduceLE, Int.reduceLT, Int.reduceEq, Int.reduceToNat, Int.reduceNeg, Int.cast_ofNat_Int, Int.reduceNatCast, Int.reduceNatCast', Int.zero_add, Int.add_zero, Nat.zero_add, Nat.add_zero, and_self, decide_true, decide_false, true_or, or_true, or_false, false_or, eq_self, Int.toNat_natCast, b2_e0, b2_e1, b2_ok, b2_w, b2_v, b2_tt, b2_ff, Bool.true_eq_false, Bool.false_eq_true, Option.some.injEq, Int.one_mul, Int.mul_one, not_true_eq_false, not_false_eq_true, ite_not, decide_eq_false_iff_not, decide_eq_true_eq, Int.reduceMul, Int.reduceMod, sv0 h1, sv1 h1, sv2 h1, sv3 h1, sv4 h1, sv5 h1, pm_z_rcv1 (sv0 h1), cn0 c1, cn1 c1, cn2 c1, cn3 c1, cn4 c1, cn5 c1, cn6 c1, cn7 c1, cn8 c1, cn9 c1, cn10 c1, pm_z_rcv1 (cn0 c1), s0]
    rw [pb_one m16, pb_not (bs_31 _ (by omega)), pb_andn, eO]
    rw [p1]
    have sp := fun (k : pm_P) hk => spread_c (k := k) (bar := it1 m) (p := p) (d := 16) h1 (lk := lkN N (-1)) e1 (by omega) hk
    refine ⟨by omega, sp _ ?_⟩
    set_option maxRecDepth 100000 in simp (maxSteps := 2000000) only [pm_x_run, pm_x_rt, pm_x_rf, pm_z_S, pm_z_D, pm_z_cut0, pm_z_cut1, pm_z_cli, pm_z_clr, pm_z_cln, pm_z_cll, pm_z_up, pm_x_aload0, pm_x_aload1, pm_x_c, pm_x_c2, pm_x_cn0, pm_x_cn1, pm_x_getf, pm_x_gf, pm_x_goto, pm_x_gv, pm_x_icmp_eq, pm_x_icmp_ge, pm_x_iinc3, pm_x_iload2, pm_x_iload3, pm_x_iload4, pm_x_invv, pm_x_istore2, pm_x_istore3, pm_x_istore4, pm_x_v0, pm_x_v1, pm_x_x2, pm_z_bipush, pm_z_cat0, pm_z_cati, pm_z_catl, pm_z_catr, pm_z_iand, pm_z_iconst, pm_z_ineg, pm_z_ior, pm_z_ishl, pm_z_ixor, pm_z_pop0, pm_z_pop1, zX2_hingesOf_B, zX2_hingesOf_F, zX2_hingesOf_R, zX2_hingesOf_X, zX2_hingesOf_C27, zX2_hingesOf_C47, pm_z_ireti (zX2_hingesOf_R), fX2_35, dX2_hingesOf_0, dX2_hingesOf_1, dX2_hingesOf_2, dX2_hingesOf_3, dX2_hingesOf_6, dX2_hingesOf_7, dX2_hingesOf_8, dX2_hingesOf_9, dX2_hingesOf_10, dX2_hingesOf_11, dX2_hingesOf_12, dX2_hingesOf_15, dX2_hingesOf_18, dX2_hingesOf_19, dX2_hingesOf_20, dX2_hingesOf_21, dX2_hingesOf_22, dX2_hingesOf_24, dX2_hingesOf_25, dX2_hingesOf_28, dX2_hingesOf_29, dX2_hingesOf_30, dX2_hingesOf_31, dX2_hingesOf_32, dX2_hingesOf_33, dX2_hingesOf_34, dX2_hingesOf_36, dX2_hingesOf_37, dX2_hingesOf_39, dX2_hingesOf_41, dX2_hingesOf_42, dX2_hingesOf_43, dX2_hingesOf_45, dX2_hingesOf_46, dX2_hingesOf_47, dX2_hingesOf_48, dX2_hingesOf_51, dX2_hingesOf_53, dX2_hingesOf_56, dX2_hingesOf_57, dX2_hingesOf_58, dX2_hingesOf_59, dX2_hingesOf_60, dX2_hingesOf_61, dX2_hingesOf_62, dX2_hingesOf_65, dX2_hingesOf_68, dX2_hingesOf_69, Bool.cond_true, Bool.cond_false, Bool.or_false, Bool.false_or, Bool.true_or, Bool.or_true, true_and, and_true, if_true, if_false, List.length_cons, List.length_nil, List.getElem?_cons_zero, List.getElem?_cons_succ, List.set_cons_zero, List.set_cons_succ, Option.toList_some, Option.toList_none, List.cons_append, List.nil_append, beq_self_eq_true, Option.isSome_some, Option.isSome_none, pm_tg_lit, ite_true, ite_false, Nat.reduceAdd, Nat.reduceBEq, Nat.reduceLT, Nat.reduceLeDiff, Nat.reduceEqDiff, Int.reduceAdd, Int.reduceSub, Int.reduceLE, Int.reduceLT, Int.reduceEq, Int.reduceToNat, Int.reduceNeg, Int.cast_ofNat_Int, Int.reduceNatCast, Int.reduceNatCast', Int.zero_add, Int.add_zero, Nat.zero_add, Nat.add_zero, and_self, decide_true, decide_false, true_or, or_true, or_false, false_or, eq_self, Int.toNat_natCast, b2_e0, b2_e1, b2_ok, b2_w, b2_v, b2_tt, b2_ff, Bool.true_eq_false, Bool.false_eq_true, Option.some.injEq, Int.one_mul, Int.mul_one, not_true_eq_false, not_false_eq_true, ite_not, decide_eq_false_iff_not, decide_eq_true_eq, Int.reduceMul, Int.reduceMod, sv0 h1, sv1 h1, sv2 h1, sv3 h1, sv4 h1, sv5 h1, pm_z_rcv1 (sv0 h1), cn0 c1, cn1 c1, cn2 c1, cn3 c1, cn4 c1, cn5 c1, cn6 c1, cn7 c1, cn8 c1, cn9 c1, cn10 c1, pm_z_rcv1 (cn0 c1), s0]
    simp only [bs_s] at ih
    by_cases w : bs (itF (lkN N (-1)) (it1 m) p 16) 16 = bs (hgP N m) 16
    · have e : hgN N m = false := by
        cases z : hgN N m
        · rfl
        · exact absurd w (p2.mpr z)
      rw [e] at ih
      rw [if_pos (by omega)]
      exact ⟨by omega, ih _ _ ⟨_, rfl, rfl⟩⟩
    · rw [p2.mp w] at ih
      rw [if_neg (by omega), pb_snoc (hgN N) (by omega)]
      exact ⟨by omega, ih _ _ ⟨_, rfl, rfl⟩⟩
  · obtain ⟨w4, rfl, rfl⟩ := hJ
    refine pm_go_on [10] 60 ?_
    set_option maxRecDepth 100000 in simp (maxSteps := 2000000) only [pm_x_run, pm_x_rt, pm_x_rf, pm_z_S, pm_z_D, pm_z_cut0, pm_z_cut1, pm_z_cli, pm_z_clr, pm_z_cln, pm_z_cll, pm_z_up, pm_x_aload0, pm_x_aload1, pm_x_c, pm_x_c2, pm_x_cn0, pm_x_cn1, pm_x_getf, pm_x_gf, pm_x_goto, pm_x_gv, pm_x_icmp_eq, pm_x_icmp_ge, pm_x_iinc3, pm_x_iload2, pm_x_iload3, pm_x_iload4, pm_x_invv, pm_x_istore2, pm_x_istore3, pm_x_istore4, pm_x_v0, pm_x_v1, pm_x_x2, pm_z_bipush, pm_z_cat0, pm_z_cati, pm_z_catl, pm_z_catr, pm_z_iand, pm_z_iconst, pm_z_ineg, pm_z_ior, pm_z_ishl, pm_z_ixor, pm_z_pop0, pm_z_pop1, zX2_hingesOf_B, zX2_hingesOf_F, zX2_hingesOf_R, zX2_hingesOf_X, zX2_hingesOf_C27, zX2_hingesOf_C47, pm_z_ireti (zX2_hingesOf_R), fX2_35, dX2_hingesOf_0, dX2_hingesOf_1, dX2_hingesOf_2, dX2_hingesOf_3, dX2_hingesOf_6, dX2_hingesOf_7, dX2_hingesOf_8, dX2_hingesOf_9, dX2_hingesOf_10, dX2_hingesOf_11, dX2_hingesOf_12, dX2_hingesOf_15, dX2_hingesOf_18, dX2_hingesOf_19, dX2_hingesOf_20, dX2_hingesOf_21, dX2_hingesOf_22, dX2_hingesOf_24, dX2_hingesOf_25, dX2_hingesOf_28, dX2_hingesOf_29, dX2_hingesOf_30, dX2_hingesOf_31, dX2_hingesOf_32, dX2_hingesOf_33, dX2_hingesOf_34, dX2_hingesOf_36, dX2_hingesOf_37, dX2_hingesOf_39, dX2_hingesOf_41, dX2_hingesOf_42, dX2_hingesOf_43, dX2_hingesOf_45, dX2_hingesOf_46, dX2_hingesOf_47, dX2_hingesOf_48, dX2_hingesOf_51, dX2_hingesOf_53, dX2_hingesOf_56, dX2_hingesOf_57, dX2_hingesOf_58, dX2_hingesOf_59, dX2_hingesOf_60, dX2_hingesOf_61, dX2_hingesOf_62, dX2_hingesOf_65, dX2_hingesOf_68, dX2_hingesOf_69, Bool.cond_true, Bool.cond_false, Bool.or_false, Bool.false_or, Bool.true_or, Bool.or_true, true_and, and_true, if_true, if_false, List.length_cons, List.length_nil, List.getElem?_cons_zero, List.getElem?_cons_succ, List.set_cons_zero, List.set_cons_succ, Option.toList_some, Option.toList_none, List.cons_append, List.nil_append, beq_self_eq_true, Option.isSome_some, Option.isSome_none, pm_tg_lit, ite_true, ite_false, Nat.reduceAdd, Nat.reduceBEq, Nat.reduceLT, Nat.reduceLeDiff, Nat.reduceEqDiff, Int.reduceAdd, Int.reduceSub, Int.reduceLE, Int.reduceLT, Int.reduceEq, Int.reduceToNat, Int.reduceNeg, Int.cast_ofNat_Int, Int.reduceNatCast, Int.reduceNatCast', Int.zero_add, Int.add_zero, Nat.zero_add, Nat.add_zero, and_self, decide_true, decide_false, true_or, or_true, or_false, false_or, eq_self, Int.toNat_natCast, b2_e0, b2_e1, b2_ok, b2_w, b2_v, b2_tt, b2_ff, Bool.true_eq_false, Bool.false_eq_true, Option.some.injEq, Int.one_mul, Int.mul_one, not_true_eq_false, not_false_eq_true, ite_not, decide_eq_false_iff_not, decide_eq_true_eq, Int.reduceMul, Int.reduceMod, sv0 h1, sv1 h1, sv2 h1, sv3 h1, sv4 h1, sv5 h1, pm_z_rcv1 (sv0 h1), cn0 c1, cn1 c1, cn2 c1, cn3 c1, cn4 c1, cn5 c1, cn6 c1, cn7 c1, cn8 c1, cn9 c1, cn10 c1, pm_z_rcv1 (cn0 c1), s0]
    rw [if_neg (by omega)]
    exact hk F _ h1 r1
end HNG
