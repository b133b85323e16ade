theorem and255 (y : Int) : 0 ≤ pm_and y 255 ∧ pm_and y 255 ≤ 255 := by
  unfold pm_and
  have h : (Int32.ofInt y &&& Int32.ofInt 255).toInt = ((Int32.ofInt y).toBitVec &&& 255#32).toInt := rfl
  rw [h]
  have hl : ((Int32.ofInt y).toBitVec &&& 255#32).toNat ≤ 255 := by rw [BitVec.toNat_and]; exact Nat.and_le_right
  rw [BitVec.toInt_eq_toNat_of_lt (by omega)]
  omega
/-- all nets of a state have risen and looked no more than m -/
def bX (m : Nat) (x : xs) : Prop := (riN (xN x) ≤ m ∧ loN (xN x) ≤ m) ∧ (∀ p ∈ xP x, riN p ≤ m ∧ loN p ≤ m) ∧ ∀ N, xI x = some N → riN N ≤ m ∧ loN N ≤ m
def gX (m : Nat) (x : xs) : Prop := okX x ∧ bX m x
section GX
variable {m m' : Nat} {x : xs}
theorem gX_up (h : gX m x) (hm : m ≤ m') : gX m' x := ⟨h.1, ⟨Nat.le_trans h.2.1.1 hm, Nat.le_trans h.2.1.2 hm⟩, fun p hp => ⟨Nat.le_trans (h.2.2.1 p hp).1 hm, Nat.le_trans (h.2.2.1 p hp).2 hm⟩, fun N hN => ⟨Nat.le_trans (h.2.2.2 N hN).1 hm, Nat.le_trans (h.2.2.2 N hN).2 hm⟩⟩
theorem gX_bdA (h : gX m x) (hm : m + 1900000 ≤ 1000000000) : bdA (xN x) := by have := h.2.1; unfold bdA; omega
theorem gX_bdM (h : gX m x) (hm : m + 1900000 ≤ 1000000000) : bdM (xN x) 1900000 := by have := h.2.1; unfold bdM; omega
theorem psh_mem {ps : List nt} {N p : nt} (h : p ∈ psh ps N) : p ∈ ps ∨ p = N := by
  unfold psh at h
  rcases List.mem_append.mp h with h | h
  · split at h
    · exact Or.inl (List.mem_of_mem_drop h)
    · exact Or.inl h
  · exact Or.inr (List.mem_singleton.mp h)
theorem gX_act (h : gX m x) (hm : m + 1900000 ≤ 1000000000) {t : Nat} (ht : t < 7) {p q : Int} (hp : prK t p q) : gX (m + 1700000) (actX x t p q) := by
  by_cases c0 : cod (xN x) t p q = 0
  · rw [(ax0 (x := x) c0).1]
    have pi := prf_inv h.1.1 ht c0 hp (gX_bdA h hm)
    have w : (if t = 4 then 36000 else 600) ≤ 36000 := by split <;> omega
    refine ⟨⟨pi.1, ⟨fun N hN => ?_, ?_⟩, h.1.2.2.1, by constructor <;> (show _ ≤ _; simp [xW]), h.1.2.2.2.2.1, h.1.2.2.2.2.2⟩, ⟨?_, ?_⟩, fun N hN => ?_, fun N hN => ?_⟩
    · rcases psh_mem hN with z | z
      · exact h.1.2.1.1 N z
      · rw [z]; exact h.1.1
    · show (psh (xP x) (xN x)).length ≤ 8
      rw [psh_len h.1.2.1.2]
      have := h.1.2.1.2
      split <;> omega
    · have := h.2.1.1; have := pi.2.1
      show riN (prf (xN x) t p q).1 ≤ _
      omega
    · have := h.2.1.2; have := pi.2.2
      show loN (prf (xN x) t p q).1 ≤ _
      omega
    · rcases psh_mem hN with z | z
      · have := h.2.2.1 N z; omega
      · rw [z]; have := h.2.1; omega
    · have := h.2.2.2 N hN; omega
  · rw [(ax1 (x := x) c0).1]
    have cl := cod_le (xN x) t p q
    have up := gX_up h (show m ≤ m + 1700000 by omega)
    exact ⟨⟨h.1.1, h.1.2.1, h.1.2.2.1, by show 0 ≤ (cod (xN x) t p q : Int) ∧ (cod (xN x) t p q : Int) ≤ 5; omega, h.1.2.2.2.2.1, h.1.2.2.2.2.2⟩, up.2⟩
theorem gX_net (h : gX m x) {p : Int} : gX (m + 1700000) (netX x p) := by
  have up := gX_up h (show m ≤ m + 1700000 by omega)
  unfold netX
  split
  · rename_i hp
    obtain ⟨u, rfl⟩ : ∃ u : Nat, p = (u : Int) := ⟨p.toNat, by omega⟩
    rw [Int.toNat_natCast]
    exact ⟨⟨INV_net (by omega) (by omega), ⟨fun N hN => absurd hN List.not_mem_nil, Nat.zero_le _⟩, h.1.2.2.1, ⟨Int.le_refl _, show (0 : Int) ≤ 5 by decide⟩, h.1.2.2.2.2.1, h.1.2.2.2.2.2⟩, ⟨Nat.zero_le _, Nat.zero_le _⟩, fun N hN => absurd hN List.not_mem_nil, up.2.2.2⟩
  · exact up
theorem gX_cost (h : gX m x) (hm : m + 1900000 ≤ 1000000000) {p q : Int} : gX (m + 1700000) (costX x p q) := by
  unfold costX
  split
  · rename_i hq
    exact gX_act h hm (by omega) ⟨fun e => by omega, fun _ => hq⟩
  · exact gX_up h (by omega)
theorem gX_undo (h : gX m x) : gX (m + 1700000) (undoX x) := by
  have up := gX_up h (show m ≤ m + 1700000 by omega)
  unfold undoX
  split
  · exact up
  · rename_i hp
    have hl : (xP x).length - 1 < (xP x).length := by
      cases hq : xP x with
      | nil => exact absurd hq hp
      | cons a l => simp
    have hm : (xP x).getD ((xP x).length - 1) (netN 2) ∈ xP x := by rw [List.getD_eq_getElem?_getD, List.getElem?_eq_getElem hl]; exact List.getElem_mem _
    refine ⟨⟨h.1.2.1.1 _ hm, ⟨fun N hN => h.1.2.1.1 N (List.mem_of_mem_take hN), ?_⟩, h.1.2.2⟩, up.2.2.1 _ hm, fun N hN => up.2.2.1 N (List.mem_of_mem_take hN), up.2.2.2⟩
    show ((xP x).take ((xP x).length - 1)).length ≤ 8
    rw [List.length_take]
    have := h.1.2.1.2
    omega
theorem gX_image (h : gX m x) : gX (m + 1700000) (imageX x) := by
  have up := gX_up h (show m ≤ m + 1700000 by omega)
  exact ⟨⟨h.1.1, h.1.2.1, fun N hN => by cases hN; exact h.1.1, h.1.2.2.2⟩, up.2.1, up.2.2.1, fun N hN => by cases hN; exact up.2.1⟩
theorem gX_back (h : gX m x) : gX (m + 1700000) (backX x) := by
  have up := gX_up h (show m ≤ m + 1700000 by omega)
  unfold backX
  cases hi : xI x with
  | none => exact up
  | some N =>
    exact ⟨⟨h.1.2.2.1 N hi, ⟨fun N hN => absurd hN List.not_mem_nil, Nat.zero_le _⟩, fun N' hN => by cases hN; exact h.1.2.2.1 N hi, h.1.2.2.2⟩, up.2.2.2 N hi, fun N hN => absurd hN List.not_mem_nil, fun N' hN => by cases hN; exact up.2.2.2 N hi⟩
theorem gX_feed (h : gX m x) {a p c d e : Int} : gX (m + 1700000) (feedX x a p c d e) := by
  have up := gX_up h (show m ≤ m + 1700000 by omega)
  unfold feedX
  split
  · rename_i hl
    refine ⟨⟨h.1.1, h.1.2.1, h.1.2.2.1, h.1.2.2.2.1, ⟨?_, fun v hv => ?_⟩, h.1.2.2.2.2.2⟩, up.2⟩
    · show (xT x ++ (List.range 20).map (fdB a p c d e)).length ≤ 400
      rw [List.length_append, List.length_map, List.length_range]; omega
    · have hv' : v ∈ xT x ++ (List.range 20).map (fdB a p c d e) := hv
      rcases List.mem_append.mp hv' with z | z
      · exact h.1.2.2.2.2.1.2 v z
      · obtain ⟨i, -, rfl⟩ := List.mem_map.mp z
        exact and255 _
  · exact up
theorem gX_end (h : gX m x) {p : Int} : gX (m + 1700000) (endX x p) := by
  have up := gX_up h (show m ≤ m + 1700000 by omega)
  unfold endX
  split
  · refine ⟨⟨h.1.1, h.1.2.1, h.1.2.2.1, h.1.2.2.2.1, ⟨?_, fun v hv => h.1.2.2.2.2.1.2 v (List.mem_of_mem_take hv)⟩, h.1.2.2.2.2.2⟩, up.2⟩
    show ((xT x).take p.toNat).length ≤ 400
    rw [List.length_take]
    have := h.1.2.2.2.2.1.1
    omega
  · exact up
theorem gX_tries (h : gX m x) (hm : m + 1900000 ≤ 1000000000) : gX (m + 1700000) (triesX x) := by
  have up := gX_up h (show m ≤ m + 1700000 by omega)
  have ri := rnA_inv (T := xT x) h.1.1 (gX_bdM h hm)
  refine ⟨⟨h.1.1, h.1.2.1, h.1.2.2.1, h.1.2.2.2.1, ⟨Nat.zero_le _, fun v hv => absurd hv List.not_mem_nil⟩, ?_⟩, up.2⟩
  show -1 ≤ ftI (rnA (xT x) (xN x)).2.2.1 ∧ ftI (rnA (xT x) (xN x)).2.2.1 ≤ 400
  cases ft : (rnA (xT x) (xN x)).2.2.1 with
  | none => exact ⟨by decide, by decide⟩
  | some r =>
    have := ri.2.2.2.1 r ft
    have := h.1.2.2.2.2.1.1
    show -1 ≤ (r : Int) ∧ (r : Int) ≤ 400
    omega
theorem gX_acts (h : gX m x) (hm : m + 1900000 ≤ 1000000000) : gX (m + 1700000) (actsX x) := by
  have up := gX_up h (show m ≤ m + 1700000 by omega)
  have ri := rnA_inv (T := xT x) h.1.1 (gX_bdM h hm)
  unfold actsX
  cases ft : (rnA (xT x) (xN x)).2.2.1 with
  | none =>
    refine ⟨⟨ri.1, ⟨fun N hN => absurd hN List.not_mem_nil, Nat.zero_le _⟩, h.1.2.2.1, ?_, ⟨Nat.zero_le _, fun v hv => absurd hv List.not_mem_nil⟩, ⟨Int.le_refl _, show (-1 : Int) ≤ 400 by decide⟩⟩, ⟨?_, ?_⟩, fun N hN => absurd hN List.not_mem_nil, up.2.2.2⟩
    · show 0 ≤ (if 0 < (rnA (xT x) (xN x)).2.2.2 then 0 else xW x) ∧ (if 0 < (rnA (xT x) (xN x)).2.2.2 then 0 else xW x) ≤ 5
      have := h.1.2.2.2.1
      split <;> omega
    · have := h.2.1.1; have := ri.2.1.1
      show riN (rnA (xT x) (xN x)).1 ≤ _
      omega
    · have := h.2.1.2; have := ri.2.1.2
      show loN (rnA (xT x) (xN x)).1 ≤ _
      omega
  | some r =>
    refine ⟨⟨h.1.1, h.1.2.1, h.1.2.2.1, ?_, ⟨Nat.zero_le _, fun v hv => absurd hv List.not_mem_nil⟩, ?_⟩, up.2⟩
    · show 0 ≤ (if 0 < (rnA (xT x) (xN x)).2.1 then ((rnA (xT x) (xN x)).2.1 : Int) else xW x) ∧ (if 0 < (rnA (xT x) (xN x)).2.1 then ((rnA (xT x) (xN x)).2.1 : Int) else xW x) ≤ 5
      have := h.1.2.2.2.1
      have := ri.2.2.1
      split <;> omega
    · have := ri.2.2.2.1 r ft
      have := h.1.2.2.2.2.1.1
      show -1 ≤ (r : Int) ∧ (r : Int) ≤ 400
      omega
theorem gX_0 : gX 0 (netN 4, [], none, 0, [], -1) := ⟨⟨INV_net (by omega) (by omega), ⟨fun N hN => absurd hN List.not_mem_nil, Nat.zero_le _⟩, fun N hN => (by cases hN), ⟨Int.le_refl _, by decide⟩, ⟨Nat.zero_le _, fun v hv => absurd hv List.not_mem_nil⟩, ⟨Int.le_refl _, by decide⟩⟩, ⟨Nat.le_refl _, Nat.le_refl _⟩, fun N hN => absurd hN List.not_mem_nil, fun N hN => (by cases hN)⟩
end GX
section CFD
variable {f f' : pm_H} {cc : Nat} {g : Nat → Option Nat} {o : Nat → Nat} {V : Nat → Int} {L : Nat → Nat → Int} {B M T : Nat → Int} {x : xs} {k : pm_P}
theorem fd_at {a p c d e v : Int} {i j : Nat} (hj : j < 4) (hv : v = (if 4 * i + j < 4 then a else if 4 * i + j < 8 then p else if 4 * i + j < 12 then c else if 4 * i + j < 16 then d else e)) : pm_and (pm_shr v (24 - 8 * (j : Int))) 255 = fdB a p c d e (4 * i + j) := by
  rw [byt_eq v hj]
  unfold fdB
  rw [← hv, show (((4 * i + j : Nat) : Int) % 4) = (j : Int) by omega]
set_option maxRecDepth 20000 in
theorem feed_c (h : cX f cc x) (ok : okX x) {a p c d e : Int} (hk : ∀ f', cX f' cc (feedX x a p c d e) → cff cc f f' → k (some (.inl (if (xT x).length ≤ 380 then (((xT x).length + 20 : Nat) : Int) else -1))) f') : pm_ex T_X4_feed [.inr (.inl (some cc)), .inl a, .inl p, .inl c, .inl d, .inl e] f k := by
  obtain ⟨g, o, V, L, B, M, T, h0, z⟩ := id h
  have ht := h0.2.2.2.2
  have t0 := z.2.2.2.2.1.1
  have tl := ok.2.2.2.2.1.1
  unfold feedX at hk
  refine in_X4_feed ?_
  refine pm_go_on [] 60 ?_
  set_option maxRecDepth 100000 in simp (maxSteps := 2000000) only [pm_x_run, pm_x_rt, pm_x_rf, pm_z_S, pm_z_D, pm_z_cut0, pm_z_cut1, pm_z_cli, pm_z_clr, pm_z_cln, pm_z_cll, pm_z_up, pm_x_aload0, pm_x_c, pm_x_c2, pm_x_cn0, pm_x_cn1, pm_x_getf, pm_x_gf, pm_x_gv, pm_x_icmp_le, pm_x_iload1, pm_x_iload2, pm_x_iload3, pm_x_iload4, pm_x_iload5, pm_x_invv, pm_x_v0, pm_x_v1, pm_x_x2, pm_z_bipush, pm_z_cat0, pm_z_cati, pm_z_catl, pm_z_catr, pm_z_iadd, pm_z_iconst, pm_z_pop0, pm_z_pop1, pm_z_sipush, zX4_feed_B, zX4_feed_F, zX4_feed_R, zX4_feed_X, zX4_feed_C61, pm_z_ireti (zX4_feed_R), fX4_36, fX4_58, dX4_feed_0, dX4_feed_1, dX4_feed_4, dX4_feed_7, dX4_feed_9, dX4_feed_10, dX4_feed_13, dX4_feed_16, dX4_feed_17, dX4_feed_18, dX4_feed_19, dX4_feed_22, dX4_feed_23, dX4_feed_26, dX4_feed_27, dX4_feed_30, dX4_feed_31, dX4_feed_34, dX4_feed_35, dX4_feed_38, dX4_feed_39, dX4_feed_42, dX4_feed_43, dX4_feed_46, dX4_feed_48, dX4_feed_51, dX4_feed_52, dX4_feed_55, dX4_feed_57, dX4_feed_60, dX4_feed_61, dX4_feed_64, dX4_feed_67, Bool.cond_true, Bool.cond_false, Bool.or_false, Bool.false_or, Bool.true_or, Bool.or_true, true_and, and_true, if_true, if_false, List.length_cons, List.length_nil, List.getElem?_cons_zero, List.getElem?_cons_succ, List.set_cons_zero, List.set_cons_succ, Option.toList_some, Option.toList_none, List.cons_append, List.nil_append, beq_self_eq_true, Option.isSome_some, Option.isSome_none, pm_tg_lit, ite_true, ite_false, Nat.reduceAdd, Nat.reduceBEq, Nat.reduceLT, Nat.reduceLeDiff, Nat.reduceEqDiff, Int.reduceAdd, Int.reduceSub, Int.reduceLE, Int.reduceLT, Int.reduceEq, Int.reduceToNat, Int.reduceNeg, Int.cast_ofNat_Int, Int.reduceNatCast, Int.reduceNatCast', Int.zero_add, Int.add_zero, Nat.zero_add, Nat.add_zero, and_self, decide_true, decide_false, true_or, or_true, or_false, false_or, eq_self, Int.toNat_natCast, b2_e0, b2_e1, b2_ok, b2_w, b2_v, b2_tt, b2_ff, Bool.true_eq_false, Bool.false_eq_true, Option.some.injEq, Int.one_mul, Int.mul_one, not_true_eq_false, not_false_eq_true, ite_not, decide_eq_false_iff_not, decide_eq_true_eq, Int.reduceMul, Int.reduceMod, cf0 h0, cf1 h0, pm_z_rcv1 (cf0 h0), tp0 ht, tp1 ht, tp2 ht, pm_z_rcv1 (tp0 ht), t0]
  refine ⟨by omega, ?_⟩
  by_cases hp : (xT x).length ≤ 380
  · rw [if_pos hp, if_pos hp] at hk
    rw [if_neg (by omega)]
    refine addBytes_c ht t0 (by omega) fun f1 B1 s1 r1 q1 y1 => ?_
    have h1 := cf_tp h0 s1 r1
    set_option maxRecDepth 100000 in simp (maxSteps := 2000000) only [pm_x_run, pm_x_rt, pm_x_rf, pm_z_S, pm_z_D, pm_z_cut0, pm_z_cut1, pm_z_cli, pm_z_clr, pm_z_cln, pm_z_cll, pm_z_up, pm_x_aload0, pm_x_c, pm_x_c2, pm_x_cn0, pm_x_cn1, pm_x_getf, pm_x_gf, pm_x_gv, pm_x_icmp_le, pm_x_iload1, pm_x_iload2, pm_x_iload3, pm_x_iload4, pm_x_iload5, pm_x_invv, pm_x_v0, pm_x_v1, pm_x_x2, pm_z_bipush, pm_z_cat0, pm_z_cati, pm_z_catl, pm_z_catr, pm_z_iadd, pm_z_iconst, pm_z_pop0, pm_z_pop1, pm_z_sipush, zX4_feed_B, zX4_feed_F, zX4_feed_R, zX4_feed_X, zX4_feed_C61, pm_z_ireti (zX4_feed_R), fX4_36, fX4_58, dX4_feed_0, dX4_feed_1, dX4_feed_4, dX4_feed_7, dX4_feed_9, dX4_feed_10, dX4_feed_13, dX4_feed_16, dX4_feed_17, dX4_feed_18, dX4_feed_19, dX4_feed_22, dX4_feed_23, dX4_feed_26, dX4_feed_27, dX4_feed_30, dX4_feed_31, dX4_feed_34, dX4_feed_35, dX4_feed_38, dX4_feed_39, dX4_feed_42, dX4_feed_43, dX4_feed_46, dX4_feed_48, dX4_feed_51, dX4_feed_52, dX4_feed_55, dX4_feed_57, dX4_feed_60, dX4_feed_61, dX4_feed_64, dX4_feed_67, Bool.cond_true, Bool.cond_false, Bool.or_false, Bool.false_or, Bool.true_or, Bool.or_true, true_and, and_true, if_true, if_false, List.length_cons, List.length_nil, List.getElem?_cons_zero, List.getElem?_cons_succ, List.set_cons_zero, List.set_cons_succ, Option.toList_some, Option.toList_none, List.cons_append, List.nil_append, beq_self_eq_true, Option.isSome_some, Option.isSome_none, pm_tg_lit, ite_true, ite_false, Nat.reduceAdd, Nat.reduceBEq, Nat.reduceLT, Nat.reduceLeDiff, Nat.reduceEqDiff, Int.reduceAdd, Int.reduceSub, Int.reduceLE, Int.reduceLT, Int.reduceEq, Int.reduceToNat, Int.reduceNeg, Int.cast_ofNat_Int, Int.reduceNatCast, Int.reduceNatCast', Int.zero_add, Int.add_zero, Nat.zero_add, Nat.add_zero, and_self, decide_true, decide_false, true_or, or_true, or_false, false_or, eq_self, Int.toNat_natCast, b2_e0, b2_e1, b2_ok, b2_w, b2_v, b2_tt, b2_ff, Bool.true_eq_false, Bool.false_eq_true, Option.some.injEq, Int.one_mul, Int.mul_one, not_true_eq_false, not_false_eq_true, ite_not, decide_eq_false_iff_not, decide_eq_true_eq, Int.reduceMul, Int.reduceMod, cf0 h1, cf1 h1, pm_z_rcv1 (cf0 h1), tp0 s1, tp1 s1, tp2 s1, pm_z_rcv1 (tp0 s1)]
    refine addBytes_c s1 rfl (by omega) fun f2 B2 s2 r2 q2 y2 => ?_
    rw [stS_st] at s2
    have h2 := cf_tp h1 s2 r2
    set_option maxRecDepth 100000 in simp (maxSteps := 2000000) only [pm_x_run, pm_x_rt, pm_x_rf, pm_z_S, pm_z_D, pm_z_cut0, pm_z_cut1, pm_z_cli, pm_z_clr, pm_z_cln, pm_z_cll, pm_z_up, pm_x_aload0, pm_x_c, pm_x_c2, pm_x_cn0, pm_x_cn1, pm_x_getf, pm_x_gf, pm_x_gv, pm_x_icmp_le, pm_x_iload1, pm_x_iload2, pm_x_iload3, pm_x_iload4, pm_x_iload5, pm_x_invv, pm_x_v0, pm_x_v1, pm_x_x2, pm_z_bipush, pm_z_cat0, pm_z_cati, pm_z_catl, pm_z_catr, pm_z_iadd, pm_z_iconst, pm_z_pop0, pm_z_pop1, pm_z_sipush, zX4_feed_B, zX4_feed_F, zX4_feed_R, zX4_feed_X, zX4_feed_C61, pm_z_ireti (zX4_feed_R), fX4_36, fX4_58, dX4_feed_0, dX4_feed_1, dX4_feed_4, dX4_feed_7, dX4_feed_9, dX4_feed_10, dX4_feed_13, dX4_feed_16, dX4_feed_17, dX4_feed_18, dX4_feed_19, dX4_feed_22, dX4_feed_23, dX4_feed_26, dX4_feed_27, dX4_feed_30, dX4_feed_31, dX4_feed_34, dX4_feed_35, dX4_feed_38, dX4_feed_39, dX4_feed_42, dX4_feed_43, dX4_feed_46, dX4_feed_48, dX4_feed_51, dX4_feed_52, dX4_feed_55, dX4_feed_57, dX4_feed_60, dX4_feed_61, dX4_feed_64, dX4_feed_67, Bool.cond_true, Bool.cond_false, Bool.or_false, Bool.false_or, Bool.true_or, Bool.or_true, true_and, and_true, if_true, if_false, List.length_cons, List.length_nil, List.getElem?_cons_zero, List.getElem?_cons_succ, List.set_cons_zero, List.set_cons_succ, Option.toList_some, Option.toList_none, List.cons_append, List.nil_append, beq_self_eq_true, Option.isSome_some, Option.isSome_none, pm_tg_lit, ite_true, ite_false, Nat.reduceAdd, Nat.reduceBEq, Nat.reduceLT, Nat.reduceLeDiff, Nat.reduceEqDiff, Int.reduceAdd, Int.reduceSub, Int.reduceLE, Int.reduceLT, Int.reduceEq, Int.reduceToNat, Int.reduceNeg, Int.cast_ofNat_Int, Int.reduceNatCast, Int.reduceNatCast', Int.zero_add, Int.add_zero, Nat.zero_add, Nat.add_zero, and_self, decide_true, decide_false, true_or, or_true, or_false, false_or, eq_self, Int.toNat_natCast, b2_e0, b2_e1, b2_ok, b2_w, b2_v, b2_tt, b2_ff, Bool.true_eq_false, Bool.false_eq_true, Option.some.injEq, Int.one_mul, Int.mul_one, not_true_eq_false, not_false_eq_true, ite_not, decide_eq_false_iff_not, decide_eq_true_eq, Int.reduceMul, Int.reduceMod, cf0 h2, cf1 h2, pm_z_rcv1 (cf0 h2), tp0 s2, tp1 s2, tp2 s2, pm_z_rcv1 (tp0 s2)]
    refine addBytes_c s2 rfl (by omega) fun f3 B3 s3 r3 q3 y3 => ?_
    rw [stS_st] at s3
    have h3 := cf_tp h2 s3 r3
    set_option maxRecDepth 100000 in simp (maxSteps := 2000000) only [pm_x_run, pm_x_rt, pm_x_rf, pm_z_S, pm_z_D, pm_z_cut0, pm_z_cut1, pm_z_cli, pm_z_clr, pm_z_cln, pm_z_cll, pm_z_up, pm_x_aload0, pm_x_c, pm_x_c2, pm_x_cn0, pm_x_cn1, pm_x_getf, pm_x_gf, pm_x_gv, pm_x_icmp_le, pm_x_iload1, pm_x_iload2, pm_x_iload3, pm_x_iload4, pm_x_iload5, pm_x_invv, pm_x_v0, pm_x_v1, pm_x_x2, pm_z_bipush, pm_z_cat0, pm_z_cati, pm_z_catl, pm_z_catr, pm_z_iadd, pm_z_iconst, pm_z_pop0, pm_z_pop1, pm_z_sipush, zX4_feed_B, zX4_feed_F, zX4_feed_R, zX4_feed_X, zX4_feed_C61, pm_z_ireti (zX4_feed_R), fX4_36, fX4_58, dX4_feed_0, dX4_feed_1, dX4_feed_4, dX4_feed_7, dX4_feed_9, dX4_feed_10, dX4_feed_13, dX4_feed_16, dX4_feed_17, dX4_feed_18, dX4_feed_19, dX4_feed_22, dX4_feed_23, dX4_feed_26, dX4_feed_27, dX4_feed_30, dX4_feed_31, dX4_feed_34, dX4_feed_35, dX4_feed_38, dX4_feed_39, dX4_feed_42, dX4_feed_43, dX4_feed_46, dX4_feed_48, dX4_feed_51, dX4_feed_52, dX4_feed_55, dX4_feed_57, dX4_feed_60, dX4_feed_61, dX4_feed_64, dX4_feed_67, Bool.cond_true, Bool.cond_false, Bool.or_false, Bool.false_or, Bool.true_or, Bool.or_true, true_and, and_true, if_true, if_false, List.length_cons, List.length_nil, List.getElem?_cons_zero, List.getElem?_cons_succ, List.set_cons_zero, List.set_cons_succ, Option.toList_some, Option.toList_none, List.cons_append, List.nil_append, beq_self_eq_true, Option.isSome_some, Option.isSome_none, pm_tg_lit, ite_true, ite_false, Nat.reduceAdd, Nat.reduceBEq, Nat.reduceLT, Nat.reduceLeDiff, Nat.reduceEqDiff, Int.reduceAdd, Int.reduceSub, Int.reduceLE, Int.reduceLT, Int.reduceEq, Int.reduceToNat, Int.reduceNeg, Int.cast_ofNat_Int, Int.reduceNatCast, Int.reduceNatCast', Int.zero_add, Int.add_zero, Nat.zero_add, Nat.add_zero, and_self, decide_true, decide_false, true_or, or_true, or_false, false_or, eq_self, Int.toNat_natCast, b2_e0, b2_e1, b2_ok, b2_w, b2_v, b2_tt, b2_ff, Bool.true_eq_false, Bool.false_eq_true, Option.some.injEq, Int.one_mul, Int.mul_one, not_true_eq_false, not_false_eq_true, ite_not, decide_eq_false_iff_not, decide_eq_true_eq, Int.reduceMul, Int.reduceMod, cf0 h3, cf1 h3, pm_z_rcv1 (cf0 h3), tp0 s3, tp1 s3, tp2 s3, pm_z_rcv1 (tp0 s3)]
    refine addBytes_c s3 rfl (by omega) fun f4 B4 s4 r4 q4 y4 => ?_
    rw [stS_st] at s4
    have h4 := cf_tp h3 s4 r4
    set_option maxRecDepth 100000 in simp (maxSteps := 2000000) only [pm_x_run, pm_x_rt, pm_x_rf, pm_z_S, pm_z_D, pm_z_cut0, pm_z_cut1, pm_z_cli, pm_z_clr, pm_z_cln, pm_z_cll, pm_z_up, pm_x_aload0, pm_x_c, pm_x_c2, pm_x_cn0, pm_x_cn1, pm_x_getf, pm_x_gf, pm_x_gv, pm_x_icmp_le, pm_x_iload1, pm_x_iload2, pm_x_iload3, pm_x_iload4, pm_x_iload5, pm_x_invv, pm_x_v0, pm_x_v1, pm_x_x2, pm_z_bipush, pm_z_cat0, pm_z_cati, pm_z_catl, pm_z_catr, pm_z_iadd, pm_z_iconst, pm_z_pop0, pm_z_pop1, pm_z_sipush, zX4_feed_B, zX4_feed_F, zX4_feed_R, zX4_feed_X, zX4_feed_C61, pm_z_ireti (zX4_feed_R), fX4_36, fX4_58, dX4_feed_0, dX4_feed_1, dX4_feed_4, dX4_feed_7, dX4_feed_9, dX4_feed_10, dX4_feed_13, dX4_feed_16, dX4_feed_17, dX4_feed_18, dX4_feed_19, dX4_feed_22, dX4_feed_23, dX4_feed_26, dX4_feed_27, dX4_feed_30, dX4_feed_31, dX4_feed_34, dX4_feed_35, dX4_feed_38, dX4_feed_39, dX4_feed_42, dX4_feed_43, dX4_feed_46, dX4_feed_48, dX4_feed_51, dX4_feed_52, dX4_feed_55, dX4_feed_57, dX4_feed_60, dX4_feed_61, dX4_feed_64, dX4_feed_67, Bool.cond_true, Bool.cond_false, Bool.or_false, Bool.false_or, Bool.true_or, Bool.or_true, true_and, and_true, if_true, if_false, List.length_cons, List.length_nil, List.getElem?_cons_zero, List.getElem?_cons_succ, List.set_cons_zero, List.set_cons_succ, Option.toList_some, Option.toList_none, List.cons_append, List.nil_append, beq_self_eq_true, Option.isSome_some, Option.isSome_none, pm_tg_lit, ite_true, ite_false, Nat.reduceAdd, Nat.reduceBEq, Nat.reduceLT, Nat.reduceLeDiff, Nat.reduceEqDiff, Int.reduceAdd, Int.reduceSub, Int.reduceLE, Int.reduceLT, Int.reduceEq, Int.reduceToNat, Int.reduceNeg, Int.cast_ofNat_Int, Int.reduceNatCast, Int.reduceNatCast', Int.zero_add, Int.add_zero, Nat.zero_add, Nat.add_zero, and_self, decide_true, decide_false, true_or, or_true, or_false, false_or, eq_self, Int.toNat_natCast, b2_e0, b2_e1, b2_ok, b2_w, b2_v, b2_tt, b2_ff, Bool.true_eq_false, Bool.false_eq_true, Option.some.injEq, Int.one_mul, Int.mul_one, not_true_eq_false, not_false_eq_true, ite_not, decide_eq_false_iff_not, decide_eq_true_eq, Int.reduceMul, Int.reduceMod, cf0 h4, cf1 h4, pm_z_rcv1 (cf0 h4), tp0 s4, tp1 s4, tp2 s4, pm_z_rcv1 (tp0 s4)]
    refine addBytes_c s4 rfl (by omega) fun f5 B5 s5 r5 q5 y5 => ?_
    rw [stS_st] at s5
    have h5 := cf_tp h4 s5 r5
    have e5 : stS T 0 (((xT x).length + 4 + 4 + 4 + 4 + 4 : Nat) : Int) 0 = (((xT x).length + 20 : Nat) : Int) := rfl
    set_option maxRecDepth 100000 in simp (maxSteps := 2000000) only [pm_x_run, pm_x_rt, pm_x_rf, pm_z_S, pm_z_D, pm_z_cut0, pm_z_cut1, pm_z_cli, pm_z_clr, pm_z_cln, pm_z_cll, pm_z_up, pm_x_aload0, pm_x_c, pm_x_c2, pm_x_cn0, pm_x_cn1, pm_x_getf, pm_x_gf, pm_x_gv, pm_x_icmp_le, pm_x_iload1, pm_x_iload2, pm_x_iload3, pm_x_iload4, pm_x_iload5, pm_x_invv, pm_x_v0, pm_x_v1, pm_x_x2, pm_z_bipush, pm_z_cat0, pm_z_cati, pm_z_catl, pm_z_catr, pm_z_iadd, pm_z_iconst, pm_z_pop0, pm_z_pop1, pm_z_sipush, zX4_feed_B, zX4_feed_F, zX4_feed_R, zX4_feed_X, zX4_feed_C61, pm_z_ireti (zX4_feed_R), fX4_36, fX4_58, dX4_feed_0, dX4_feed_1, dX4_feed_4, dX4_feed_7, dX4_feed_9, dX4_feed_10, dX4_feed_13, dX4_feed_16, dX4_feed_17, dX4_feed_18, dX4_feed_19, dX4_feed_22, dX4_feed_23, dX4_feed_26, dX4_feed_27, dX4_feed_30, dX4_feed_31, dX4_feed_34, dX4_feed_35, dX4_feed_38, dX4_feed_39, dX4_feed_42, dX4_feed_43, dX4_feed_46, dX4_feed_48, dX4_feed_51, dX4_feed_52, dX4_feed_55, dX4_feed_57, dX4_feed_60, dX4_feed_61, dX4_feed_64, dX4_feed_67, Bool.cond_true, Bool.cond_false, Bool.or_false, Bool.false_or, Bool.true_or, Bool.or_true, true_and, and_true, if_true, if_false, List.length_cons, List.length_nil, List.getElem?_cons_zero, List.getElem?_cons_succ, List.set_cons_zero, List.set_cons_succ, Option.toList_some, Option.toList_none, List.cons_append, List.nil_append, beq_self_eq_true, Option.isSome_some, Option.isSome_none, pm_tg_lit, ite_true, ite_false, Nat.reduceAdd, Nat.reduceBEq, Nat.reduceLT, Nat.reduceLeDiff, Nat.reduceEqDiff, Int.reduceAdd, Int.reduceSub, Int.reduceLE, Int.reduceLT, Int.reduceEq, Int.reduceToNat, Int.reduceNeg, Int.cast_ofNat_Int, Int.reduceNatCast, Int.reduceNatCast', Int.zero_add, Int.add_zero, Nat.zero_add, Nat.add_zero, and_self, decide_true, decide_false, true_or, or_true, or_false, false_or, eq_self, Int.toNat_natCast, b2_e0, b2_e1, b2_ok, b2_w, b2_v, b2_tt, b2_ff, Bool.true_eq_false, Bool.false_eq_true, Option.some.injEq, Int.one_mul, Int.mul_one, not_true_eq_false, not_false_eq_true, ite_not, decide_eq_false_iff_not, decide_eq_true_eq, Int.reduceMul, Int.reduceMod, cf0 h5, cf1 h5, pm_z_rcv1 (cf0 h5), tp0 s5, tp1 s5, tp2 s5, pm_z_rcv1 (tp0 s5), e5]
    have rr := tfr_tr r1 (tfr_tr r2 (tfr_tr r3 (tfr_tr r4 r5)))
    refine hk f5 (cX_t ok h0 z s5 rr ?_ (fun j hj => ?_) z.2.2.2.2.2) (cff_t rr)
    · rw [List.length_append, List.length_map, List.length_range]; rfl
    · rw [List.length_append, List.length_map, List.length_range] at hj
      by_cases jl : j < (xT x).length
      · rw [List.getElem?_append_left jl, q5 j (by omega), q4 j (by omega), q3 j (by omega), q2 j (by omega), q1 j jl]
        exact z.2.2.2.2.1.2 j jl
      · obtain ⟨i, rfl⟩ : ∃ i, j = (xT x).length + i := ⟨j - (xT x).length, by omega⟩
        rw [List.getElem?_append_right (by omega), show (xT x).length + i - (xT x).length = i by omega, List.getElem?_map, List.getElem?_range (by omega)]
        show some (fdB a p c d e i) = some (B5 ((xT x).length + i))
        congr 1
        by_cases i4 : i < 4
        · rw [q5 _ (by omega), q4 _ (by omega), q3 _ (by omega), q2 _ (by omega), y1 i i4]
          have w := fd_at (a := a) (p := p) (c := c) (d := d) (e := e) (v := a) (i := 0) i4 (by rw [if_pos (by omega)])
          rw [Nat.mul_zero, Nat.zero_add] at w
          exact w.symm
        · by_cases i8 : i < 8
          · obtain ⟨j, rfl⟩ : ∃ j, i = 4 + j := ⟨i - 4, by omega⟩
            rw [q5 _ (by omega), q4 _ (by omega), q3 _ (by omega), ← Nat.add_assoc, y2 j (by omega)]
            exact (fd_at (a := a) (p := p) (c := c) (d := d) (e := e) (v := p) (i := 1) (j := j) (by omega) (by rw [if_neg (by omega), if_pos (by omega)])).symm
          · by_cases i12 : i < 12
            · obtain ⟨j, rfl⟩ : ∃ j, i = 8 + j := ⟨i - 8, by omega⟩
              rw [q5 _ (by omega), q4 _ (by omega), show (xT x).length + (8 + j) = (xT x).length + 4 + 4 + j by omega, y3 j (by omega)]
              exact (fd_at (a := a) (p := p) (c := c) (d := d) (e := e) (v := c) (i := 2) (j := j) (by omega) (by rw [if_neg (by omega), if_neg (by omega), if_pos (by omega)])).symm
            · by_cases i16 : i < 16
              · obtain ⟨j, rfl⟩ : ∃ j, i = 12 + j := ⟨i - 12, by omega⟩
                rw [q5 _ (by omega), show (xT x).length + (12 + j) = (xT x).length + 4 + 4 + 4 + j by omega, y4 j (by omega)]
                exact (fd_at (a := a) (p := p) (c := c) (d := d) (e := e) (v := d) (i := 3) (j := j) (by omega) (by rw [if_neg (by omega), if_neg (by omega), if_neg (by omega), if_pos (by omega)])).symm
              · obtain ⟨j, rfl⟩ : ∃ j, i = 16 + j := ⟨i - 16, by omega⟩
                rw [show (xT x).length + (16 + j) = (xT x).length + 4 + 4 + 4 + 4 + j by omega, y5 j (by omega)]
                exact (fd_at (a := a) (p := p) (c := c) (d := d) (e := e) (v := e) (i := 4) (j := j) (by omega) (by rw [if_neg (by omega), if_neg (by omega), if_neg (by omega), if_neg (by omega)])).symm
  · rw [if_neg hp, if_neg hp] at hk
    rw [if_pos (by omega)]
    exact hk f h cff_rf
end CFD
