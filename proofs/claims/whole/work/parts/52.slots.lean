theorem pm_rcvu {n b a : Nat} {f : pm_H} {c : pm_C} {as : List pm_V} (h : b ≠ a) : pm_rcv (some n) (pm_up f a c) (.inr (.inl (some b)) :: as) = pm_rcv (some n) f (.inr (.inl (some b)) :: as) := by
  unfold pm_rcv
  refine propext ⟨fun z => z.imp id fun ⟨b', fs, as', e, q⟩ => ⟨b', fs, as', e, ?_⟩, fun z => z.imp id fun ⟨b', fs, as', e, q⟩ => ⟨b', fs, as', e, ?_⟩⟩
  · simp only [List.cons.injEq, Sum.inr.injEq, Sum.inl.injEq, Option.some.injEq] at e
    rw [← e.1] at q ⊢
    rwa [up_ne h] at q
  · simp only [List.cons.injEq, Sum.inr.injEq, Sum.inl.injEq, Option.some.injEq] at e
    rw [← e.1] at q ⊢
    rwa [up_ne h]
theorem pm_rcve {n b : Nat} {f : pm_H} {fs : List pm_V} {as : List pm_V} : pm_rcv (some n) (pm_up f b (.inr (.inr (.inr (n, fs))))) (.inr (.inl (some b)) :: as) = True := pm_z_rcv1 up_eq
/-- a tour laid into slot s of level i -/
def lyM (M : Nat → Int) (i s n : Nat) (l : List Int) : Nat → Int := fun q => if q = 460 + 16 * i + s then (n : Int) else if 540 + 46 * (16 * i + s) ≤ q ∧ q < 540 + 46 * (16 * i + s) + l.length then (l[q - (540 + 46 * (16 * i + s))]?).getD 0 else if 380 + 16 * i ≤ q ∧ q < 396 + 16 * i ∧ ((q - (380 + 16 * i) : Nat) : Int) ∈ l then (s : Int) else M q
theorem lyM_lo {M : Nat → Int} {i s n : Nat} {l : List Int} {q : Nat} (h : q < 380) : lyM M i s n l q = M q := by
  unfold lyM
  rw [if_neg (by omega), if_neg (by omega), if_neg (by omega)]
theorem lyM_hi {M : Nat → Int} {i s n : Nat} {l : List Int} {q : Nat} (hi : i < 5) (hs : s < 16) (hl : l.length ≤ 46) (h : 4220 ≤ q) : lyM M i s n l q = M q := by
  unfold lyM
  rw [if_neg (by omega), if_neg (by omega), if_neg (by omega)]
theorem lyM_b {M : Nat → Int} {i s n : Nat} {L : List Int} {v : Int} (hs : s < 16) (hi : i < 5) (hL : L.length < 46) (hv : 100 ≤ v) : pm_us (lyM M i s n L) (540 + 46 * (16 * i + s) + L.length) v = lyM M i s n (L ++ [v]) := by
  funext q
  unfold pm_us lyM
  simp only [List.length_append, List.length_singleton, List.mem_append, List.mem_singleton]
  by_cases h1 : q = 540 + 46 * (16 * i + s) + L.length
  · subst h1
    rw [if_pos rfl, if_neg (by omega), if_pos (by omega), show 540 + 46 * (16 * i + s) + L.length - (540 + 46 * (16 * i + s)) = L.length by omega]
    simp
  · rw [if_neg h1]
    by_cases h2 : q = 460 + 16 * i + s
    · rw [if_pos h2, if_pos h2]
    · rw [if_neg h2, if_neg h2]
      by_cases h3 : 540 + 46 * (16 * i + s) ≤ q ∧ q < 540 + 46 * (16 * i + s) + L.length
      · rw [if_pos h3, if_pos (by omega), List.getElem?_append_left (by omega)]
      · rw [if_neg h3, if_neg (show ¬ (540 + 46 * (16 * i + s) ≤ q ∧ q < 540 + 46 * (16 * i + s) + (L.length + 1)) by omega)]
        by_cases h4 : 380 + 16 * i ≤ q ∧ q < 396 + 16 * i ∧ ((q - (380 + 16 * i) : Nat) : Int) ∈ L
        · rw [if_pos h4, if_pos ⟨h4.1, h4.2.1, Or.inl h4.2.2⟩]
        · rw [if_neg h4, if_neg (fun z => h4 ⟨z.1, z.2.1, z.2.2.resolve_right (by omega)⟩)]
theorem lyM_n {M : Nat → Int} {i s n : Nat} {L : List Int} {a : Nat} (hs : s < 16) (hi : i < 5) (hL : L.length < 46) (ha : a < 16) : pm_us (pm_us (lyM M i s n L) (540 + 46 * (16 * i + s) + L.length) (a : Int)) (380 + 16 * i + a) (s : Int) = lyM M i s n (L ++ [(a : Int)]) := by
  funext q
  unfold pm_us lyM
  simp only [List.length_append, List.length_singleton, List.mem_append, List.mem_singleton]
  by_cases h0 : q = 380 + 16 * i + a
  · subst h0
    rw [if_pos rfl, if_neg (by omega), if_neg (by omega), if_pos ⟨by omega, by omega, Or.inr (by omega)⟩]
  · rw [if_neg h0]
    by_cases h1 : q = 540 + 46 * (16 * i + s) + L.length
    · subst h1
      rw [if_pos rfl, if_neg (by omega), if_pos (by omega), show 540 + 46 * (16 * i + s) + L.length - (540 + 46 * (16 * i + s)) = L.length by omega]
      simp
    · rw [if_neg h1]
      by_cases h2 : q = 460 + 16 * i + s
      · rw [if_pos h2, if_pos h2]
      · rw [if_neg h2, if_neg h2]
        by_cases h3 : 540 + 46 * (16 * i + s) ≤ q ∧ q < 540 + 46 * (16 * i + s) + L.length
        · rw [if_pos h3, if_pos (by omega), List.getElem?_append_left (by omega)]
        · rw [if_neg h3, if_neg (show ¬ (540 + 46 * (16 * i + s) ≤ q ∧ q < 540 + 46 * (16 * i + s) + (L.length + 1)) by omega)]
          by_cases h4 : 380 + 16 * i ≤ q ∧ q < 396 + 16 * i ∧ ((q - (380 + 16 * i) : Nat) : Int) ∈ L
          · rw [if_pos h4, if_pos ⟨h4.1, h4.2.1, Or.inl h4.2.2⟩]
          · rw [if_neg h4, if_neg (fun z => h4 ⟨z.1, z.2.1, z.2.2.resolve_right (by omega)⟩)]
/-- the slots of some nodes are right -/
def rrg (M : Nat → Int) (T : Nat → Nat → List Int) (sl : Nat → Nat → Nat) (G : Nat → Nat → Prop) : Prop := ∀ i n, i < 5 → n < 16 → G i n → sl i n < 16 ∧ M (380 + 16 * i + n) = (sl i n : Int) ∧ M (460 + 16 * i + sl i n) = ((T i n).length : Int) ∧ (∀ j, j < (T i n).length → (T i n)[j]? = some (M (540 + 46 * (16 * i + sl i n) + j))) ∧ ((sl i n : Nat) : Int) ∈ T i n ∧ ∀ m : Nat, m < 16 → (m : Int) ∈ T i n → sl i m = sl i n
theorem rrg_of {M : Nat → Int} {T : Nat → Nat → List Int} {sl : Nat → Nat → Nat} {G : Nat → Nat → Prop} (h : rrt M T sl) : rrg M T sl G := fun i n hi hn _ => h i n hi hn
theorem rrt_of {M : Nat → Int} {T : Nat → Nat → List Int} {sl : Nat → Nat → Nat} {G : Nat → Nat → Prop} (h : rrg M T sl G) (hG : ∀ i n, i < 5 → n < 16 → G i n) : rrt M T sl := fun i n hi hn => h i n hi hn (hG i n hi hn)
def lyT (T : Nat → Nat → List Int) (i : Nat) (w : List Int) : Nat → Nat → List Int := fun j n => if j = i ∧ (n : Int) ∈ w then w else T j n
def lyS (sl : Nat → Nat → Nat) (i s : Nat) (w : List Int) : Nat → Nat → Nat := fun j n => if j = i ∧ (n : Int) ∈ w then s else sl j n
theorem rrg_lay {M : Nat → Int} {T : Nat → Nat → List Int} {sl : Nat → Nat → Nat} {G : Nat → Nat → Prop} {i s : Nat} {w : List Int} (h : rrg M T sl G) (hi : i < 5) (hs : s < 16) (hw : w.length ≤ 46) (hm : (s : Int) ∈ w) (hT : ∀ j n, j < 5 → n < 16 → G j n → (T j n).length ≤ 46) (hd : ∀ n, n < 16 → G i n → (n : Int) ∉ w → ∀ m : Nat, m < 16 → (m : Int) ∈ T i n → (m : Int) ∉ w) :
    rrg (lyM M i s w.length w) (lyT T i w) (lyS sl i s w) (fun j n => (j = i ∧ (n : Int) ∈ w) ∨ G j n) := by
  intro j n hj hn hg
  unfold lyT lyS
  by_cases e : j = i ∧ (n : Int) ∈ w
  · obtain ⟨rfl, hnw⟩ := e
    rw [if_pos ⟨rfl, hnw⟩, if_pos ⟨rfl, hnw⟩]
    refine ⟨hs, ?_, ?_, fun q hq => ?_, hm, fun m hm hmw => ?_⟩
    · unfold lyM
      rw [if_neg (by omega), if_neg (by omega), if_pos ⟨by omega, by omega, by rw [show 380 + 16 * j + n - (380 + 16 * j) = n by omega]; exact hnw⟩]
    · unfold lyM
      rw [if_pos rfl]
    · unfold lyM
      rw [if_neg (by omega), if_pos (by omega), show 540 + 46 * (16 * j + s) + q - (540 + 46 * (16 * j + s)) = q by omega, List.getElem?_eq_getElem hq]
      rfl
    · rw [if_pos ⟨rfl, hmw⟩]
  · rw [if_neg e, if_neg e]
    have hg2 : G j n := hg.resolve_left e
    obtain ⟨a1, a2, a3, a4, a5, a6⟩ := h j n hj hn hg2
    have hne : ¬ (j = i ∧ sl j n = s) := by
      rintro ⟨rfl, e2⟩
      rw [e2] at a5
      exact hd n hn hg2 (fun q => e ⟨rfl, q⟩) s hs a5 hm
    have hb := hT j n hj hn hg2
    refine ⟨a1, ?_, ?_, fun q hq => ?_, a5, fun m hm2 hmw => ?_⟩
    · unfold lyM
      rw [if_neg (by omega), if_neg (by omega), if_neg, a2]
      rintro ⟨z1, z2, z3⟩
      obtain rfl : j = i := by omega
      rw [show 380 + 16 * j + n - (380 + 16 * j) = n by omega] at z3
      exact e ⟨rfl, z3⟩
    · unfold lyM
      rw [if_neg (by omega), if_neg (by omega), if_neg (by omega), a3]
    · have hd2 : 16 * j + sl j n ≠ 16 * i + s := by
        intro z
        exact hne ⟨by omega, by omega⟩
      unfold lyM
      rw [if_neg (by omega), if_neg (by omega), if_neg (by omega), a4 q hq]
    · rw [if_neg, a6 m hm2 hmw]
      rintro ⟨rfl, z⟩
      exact hd n hn hg2 (fun q => e ⟨rfl, q⟩) m hm2 hmw z
theorem rot_get {p r : List Int} {m : Nat} (hm : m < (p ++ r).length) : (r ++ p)[m]? = (p ++ r)[(p.length + m) % (p ++ r).length]? := by
  rw [List.length_append] at hm ⊢
  by_cases h : m < r.length
  · rw [Nat.mod_eq_of_lt (by omega), List.getElem?_append_left h, List.getElem?_append_right (by omega)]
    congr 1
    omega
  · have e : (p.length + m) % (p.length + r.length) = m - r.length := by
      rw [Nat.mod_eq_sub_mod (by omega), Nat.mod_eq_of_lt (by omega)]
      omega
    rw [e, List.getElem?_append_right (by omega), List.getElem?_append_left (by omega)]
section SL
variable {f : pm_H} {b : Nat} {A : Nat → Nat → Int} {S : Nat → Int} {N : nt} {sl : Nat → Nat → Nat} {k : pm_P}
theorem stA_same (A : Nat → Nat → Int) (j : Nat) : stA A j (A j) = A := by
  funext i
  unfold stA
  split
  · rename_i e; rw [e]
  · rfl
theorem stA_st (A : Nat → Nat → Int) (j : Nat) (g g' : Nat → Int) : stA (stA A j g) j g' = stA A j g' := by
  funext i
  unfold stA
  split <;> rfl
theorem stA_eq (A : Nat → Nat → Int) (j : Nat) (g : Nat → Int) : stA A j g j = g := by unfold stA; rw [if_pos rfl]
theorem stA_ne (A : Nat → Nat → Int) {j i : Nat} (g : Nat → Int) (h : i ≠ j) : stA A j g i = A i := by unfold stA; rw [if_neg h]
set_option maxRecDepth 20000 in
theorem turns_r (h : rm_at f b A S) (hr : rr (A 0) N sl) (o : okB N) {i x j : Nat} (hi : i < 5) (hx : x < 16) (hj : j < 13) (hj0 : j ≠ 0) (hjl : rm_len j = 46) {p q : List Int} (ht : tN N i x = p ++ (x : Int) :: q) (hp : (x : Int) ∉ p)
    (hk : ∀ (f' : pm_H) (g' : Nat → Int), rm_at f' b (stA A j g') S → rfr b f f' → fl g' (tN N i x).length = (x : Int) :: q ++ p → k (some (.inl ((tN N i x).length : Int))) f') : pm_ex T_X5_turns [.inr (.inl (some b)), .inl (i : Int), .inl (x : Int), .inr (.inl (some (b + 1 + j)))] f k := by
  obtain ⟨t1, t2, t3, t4, t5, t6⟩ := hr.2.2.2.1 i x hi hx
  obtain ⟨u1, u2, -, -⟩ := o.2.2.2.2.2 i x hi hx
  obtain ⟨n, hn⟩ : ∃ n, n = (tN N i x).length := ⟨_, rfl⟩
  have hnp : n = p.length + q.length + 1 := by rw [hn, ht]; simp; omega
  rw [← hn] at t3 t4 u2 hk
  have q1 := fun (f : pm_H) (k : pm_P) (h : rm_at f b A S) => q_longOf (k := k) h hr hi hx
  simp only [← hn] at q1
  refine in_X5_turns ?_
  refine pm_go_on [20, 46] 60 ?_
  set_option maxRecDepth 100000 in simp (maxSteps := 2000000) only [pm_x_run, pm_x_rt, pm_x_rf, pm_z_S, pm_z_D, pm_z_cut0, pm_z_cut1, pm_z_cli, pm_z_clr, pm_z_cln, pm_z_cll, pm_z_up, pm_x_aload0, pm_x_aload3, pm_x_c, pm_x_c2, pm_x_cn0, pm_x_cn1, pm_x_getf, pm_x_gf, pm_x_goto, pm_x_gv, pm_x_ia, pm_x_iald, pm_x_iast, pm_x_icmp_eq, pm_x_icmp_ge, pm_x_iinc6, pm_x_iinc7, pm_x_iload1, pm_x_iload2, pm_x_iload4, pm_x_iload5, pm_x_iload6, pm_x_iload7, pm_x_invs, pm_x_invv, pm_x_is, pm_x_istore4, pm_x_istore5, pm_x_istore6, pm_x_istore7, pm_x_v0, pm_x_v1, pm_x_x2, pm_z_cat0, pm_z_cati, pm_z_catl, pm_z_catr, pm_z_iadd, pm_z_iconst, pm_z_irem, pm_z_pop0, pm_z_pop1, pm_z_rcv0, zX5_turns_B, zX5_turns_F, zX5_turns_R, zX5_turns_X, zX5_turns_C80, zX5_turns_C83, zX5_turns_C76, pm_z_ireti (zX5_turns_R), fX5_7, dX5_turns_0, dX5_turns_1, dX5_turns_2, dX5_turns_3, dX5_turns_6, dX5_turns_8, dX5_turns_9, dX5_turns_10, dX5_turns_12, dX5_turns_15, dX5_turns_17, dX5_turns_18, dX5_turns_20, dX5_turns_21, dX5_turns_24, dX5_turns_25, dX5_turns_27, dX5_turns_29, dX5_turns_32, dX5_turns_33, dX5_turns_34, dX5_turns_37, dX5_turns_40, dX5_turns_43, dX5_turns_44, dX5_turns_46, dX5_turns_48, dX5_turns_50, dX5_turns_53, dX5_turns_54, dX5_turns_56, dX5_turns_57, dX5_turns_60, dX5_turns_61, dX5_turns_63, dX5_turns_65, dX5_turns_67, dX5_turns_68, dX5_turns_70, dX5_turns_71, dX5_turns_74, dX5_turns_75, dX5_turns_76, dX5_turns_79, dX5_turns_82, dX5_turns_84, Bool.cond_true, Bool.cond_false, Bool.or_false, Bool.false_or, Bool.true_or, Bool.or_true, true_and, and_true, if_true, if_false, List.length_cons, List.length_nil, List.getElem?_cons_zero, List.getElem?_cons_succ, List.set_cons_zero, List.set_cons_succ, Option.toList_some, Option.toList_none, List.cons_append, List.nil_append, beq_self_eq_true, Option.isSome_some, Option.isSome_none, pm_tg_lit, ite_true, ite_false, Nat.reduceAdd, Nat.reduceBEq, Nat.reduceLT, Nat.reduceLeDiff, Nat.reduceEqDiff, Int.reduceAdd, Int.reduceSub, Int.reduceLE, Int.reduceLT, Int.reduceEq, Int.reduceToNat, Int.reduceNeg, Int.cast_ofNat_Int, Int.reduceNatCast, Int.reduceNatCast', Int.zero_add, Int.add_zero, Nat.zero_add, Nat.add_zero, and_self, decide_true, decide_false, true_or, or_true, or_false, false_or, eq_self, Int.toNat_natCast, b2_e0, b2_e1, b2_ok, b2_w, b2_v, b2_tt, b2_ff, Bool.true_eq_false, Bool.false_eq_true, Option.some.injEq, Int.one_mul, Int.mul_one, not_true_eq_false, not_false_eq_true, ite_not, decide_eq_false_iff_not, decide_eq_true_eq, Int.reduceMul, Int.reduceMod, mq0 h, mq1 h, mq2 h, mq3 h, mq4 h, mq5 h, mq6 h, mq7 h, mq8 h, mq9 h, mq10 h, mq11 h, mq12 h, mq13 h, pm_z_rcv1 (mq0 h), q_slotOf h hr hi hx, q1 f _ h]
  refine pm_fo p.length (fun m => [some (.inr (.inl (some (b)))), some (.inl ((i : Int))), some (.inl ((x : Int))), some (.inr (.inl (some ((b + 1 + j))))), some (.inl ((sl i x : Int))), some (.inl ((n : Int))), some (.inl ((m : Int))), none]) (fun m hm ih => ?_) ?_ 0 (Nat.zero_le _)
  · have e := t4 m (by omega)
    have e2 : A 0 (540 + 46 * (16 * i + sl i x) + m) ≠ (x : Int) := by
      rw [ht, List.getElem?_append_left hm, List.getElem?_eq_getElem hm] at e
      have := Option.some.inj e
      intro z
      rw [← this] at z
      exact hp (z ▸ List.getElem_mem hm)
    refine pm_go_on [20, 46] 60 ?_
    set_option maxRecDepth 100000 in simp (maxSteps := 2000000) only [pm_x_run, pm_x_rt, pm_x_rf, pm_z_S, pm_z_D, pm_z_cut0, pm_z_cut1, pm_z_cli, pm_z_clr, pm_z_cln, pm_z_cll, pm_z_up, pm_x_aload0, pm_x_aload3, pm_x_c, pm_x_c2, pm_x_cn0, pm_x_cn1, pm_x_getf, pm_x_gf, pm_x_goto, pm_x_gv, pm_x_ia, pm_x_iald, pm_x_iast, pm_x_icmp_eq, pm_x_icmp_ge, pm_x_iinc6, pm_x_iinc7, pm_x_iload1, pm_x_iload2, pm_x_iload4, pm_x_iload5, pm_x_iload6, pm_x_iload7, pm_x_invs, pm_x_invv, pm_x_is, pm_x_istore4, pm_x_istore5, pm_x_istore6, pm_x_istore7, pm_x_v0, pm_x_v1, pm_x_x2, pm_z_cat0, pm_z_cati, pm_z_catl, pm_z_catr, pm_z_iadd, pm_z_iconst, pm_z_irem, pm_z_pop0, pm_z_pop1, pm_z_rcv0, zX5_turns_B, zX5_turns_F, zX5_turns_R, zX5_turns_X, zX5_turns_C80, zX5_turns_C83, zX5_turns_C76, pm_z_ireti (zX5_turns_R), fX5_7, dX5_turns_0, dX5_turns_1, dX5_turns_2, dX5_turns_3, dX5_turns_6, dX5_turns_8, dX5_turns_9, dX5_turns_10, dX5_turns_12, dX5_turns_15, dX5_turns_17, dX5_turns_18, dX5_turns_20, dX5_turns_21, dX5_turns_24, dX5_turns_25, dX5_turns_27, dX5_turns_29, dX5_turns_32, dX5_turns_33, dX5_turns_34, dX5_turns_37, dX5_turns_40, dX5_turns_43, dX5_turns_44, dX5_turns_46, dX5_turns_48, dX5_turns_50, dX5_turns_53, dX5_turns_54, dX5_turns_56, dX5_turns_57, dX5_turns_60, dX5_turns_61, dX5_turns_63, dX5_turns_65, dX5_turns_67, dX5_turns_68, dX5_turns_70, dX5_turns_71, dX5_turns_74, dX5_turns_75, dX5_turns_76, dX5_turns_79, dX5_turns_82, dX5_turns_84, Bool.cond_true, Bool.cond_false, Bool.or_false, Bool.false_or, Bool.true_or, Bool.or_true, true_and, and_true, if_true, if_false, List.length_cons, List.length_nil, List.getElem?_cons_zero, List.getElem?_cons_succ, List.set_cons_zero, List.set_cons_succ, Option.toList_some, Option.toList_none, List.cons_append, List.nil_append, beq_self_eq_true, Option.isSome_some, Option.isSome_none, pm_tg_lit, ite_true, ite_false, Nat.reduceAdd, Nat.reduceBEq, Nat.reduceLT, Nat.reduceLeDiff, Nat.reduceEqDiff, Int.reduceAdd, Int.reduceSub, Int.reduceLE, Int.reduceLT, Int.reduceEq, Int.reduceToNat, Int.reduceNeg, Int.cast_ofNat_Int, Int.reduceNatCast, Int.reduceNatCast', Int.zero_add, Int.add_zero, Nat.zero_add, Nat.add_zero, and_self, decide_true, decide_false, true_or, or_true, or_false, false_or, eq_self, Int.toNat_natCast, b2_e0, b2_e1, b2_ok, b2_w, b2_v, b2_tt, b2_ff, Bool.true_eq_false, Bool.false_eq_true, Option.some.injEq, Int.one_mul, Int.mul_one, not_true_eq_false, not_false_eq_true, ite_not, decide_eq_false_iff_not, decide_eq_true_eq, Int.reduceMul, Int.reduceMod, mq0 h, mq1 h, mq2 h, mq3 h, mq4 h, mq5 h, mq6 h, mq7 h, mq8 h, mq9 h, mq10 h, mq11 h, mq12 h, mq13 h, pm_z_rcv1 (mq0 h), q_placeOf hi t1 (show m ≤ 46 by omega)]
    rw [if_neg e2]
    exact ⟨by omega, by omega, ih⟩
  · have e := t4 p.length (by omega)
    have e2 : A 0 (540 + 46 * (16 * i + sl i x) + p.length) = (x : Int) := by
      rw [ht] at e
      simpa using e.symm
    refine pm_go_on [20, 46] 60 ?_
    set_option maxRecDepth 100000 in simp (maxSteps := 2000000) only [pm_x_run, pm_x_rt, pm_x_rf, pm_z_S, pm_z_D, pm_z_cut0, pm_z_cut1, pm_z_cli, pm_z_clr, pm_z_cln, pm_z_cll, pm_z_up, pm_x_aload0, pm_x_aload3, pm_x_c, pm_x_c2, pm_x_cn0, pm_x_cn1, pm_x_getf, pm_x_gf, pm_x_goto, pm_x_gv, pm_x_ia, pm_x_iald, pm_x_iast, pm_x_icmp_eq, pm_x_icmp_ge, pm_x_iinc6, pm_x_iinc7, pm_x_iload1, pm_x_iload2, pm_x_iload4, pm_x_iload5, pm_x_iload6, pm_x_iload7, pm_x_invs, pm_x_invv, pm_x_is, pm_x_istore4, pm_x_istore5, pm_x_istore6, pm_x_istore7, pm_x_v0, pm_x_v1, pm_x_x2, pm_z_cat0, pm_z_cati, pm_z_catl, pm_z_catr, pm_z_iadd, pm_z_iconst, pm_z_irem, pm_z_pop0, pm_z_pop1, pm_z_rcv0, zX5_turns_B, zX5_turns_F, zX5_turns_R, zX5_turns_X, zX5_turns_C80, zX5_turns_C83, zX5_turns_C76, pm_z_ireti (zX5_turns_R), fX5_7, dX5_turns_0, dX5_turns_1, dX5_turns_2, dX5_turns_3, dX5_turns_6, dX5_turns_8, dX5_turns_9, dX5_turns_10, dX5_turns_12, dX5_turns_15, dX5_turns_17, dX5_turns_18, dX5_turns_20, dX5_turns_21, dX5_turns_24, dX5_turns_25, dX5_turns_27, dX5_turns_29, dX5_turns_32, dX5_turns_33, dX5_turns_34, dX5_turns_37, dX5_turns_40, dX5_turns_43, dX5_turns_44, dX5_turns_46, dX5_turns_48, dX5_turns_50, dX5_turns_53, dX5_turns_54, dX5_turns_56, dX5_turns_57, dX5_turns_60, dX5_turns_61, dX5_turns_63, dX5_turns_65, dX5_turns_67, dX5_turns_68, dX5_turns_70, dX5_turns_71, dX5_turns_74, dX5_turns_75, dX5_turns_76, dX5_turns_79, dX5_turns_82, dX5_turns_84, Bool.cond_true, Bool.cond_false, Bool.or_false, Bool.false_or, Bool.true_or, Bool.or_true, true_and, and_true, if_true, if_false, List.length_cons, List.length_nil, List.getElem?_cons_zero, List.getElem?_cons_succ, List.set_cons_zero, List.set_cons_succ, Option.toList_some, Option.toList_none, List.cons_append, List.nil_append, beq_self_eq_true, Option.isSome_some, Option.isSome_none, pm_tg_lit, ite_true, ite_false, Nat.reduceAdd, Nat.reduceBEq, Nat.reduceLT, Nat.reduceLeDiff, Nat.reduceEqDiff, Int.reduceAdd, Int.reduceSub, Int.reduceLE, Int.reduceLT, Int.reduceEq, Int.reduceToNat, Int.reduceNeg, Int.cast_ofNat_Int, Int.reduceNatCast, Int.reduceNatCast', Int.zero_add, Int.add_zero, Nat.zero_add, Nat.add_zero, and_self, decide_true, decide_false, true_or, or_true, or_false, false_or, eq_self, Int.toNat_natCast, b2_e0, b2_e1, b2_ok, b2_w, b2_v, b2_tt, b2_ff, Bool.true_eq_false, Bool.false_eq_true, Option.some.injEq, Int.one_mul, Int.mul_one, not_true_eq_false, not_false_eq_true, ite_not, decide_eq_false_iff_not, decide_eq_true_eq, Int.reduceMul, Int.reduceMod, mq0 h, mq1 h, mq2 h, mq3 h, mq4 h, mq5 h, mq6 h, mq7 h, mq8 h, mq9 h, mq10 h, mq11 h, mq12 h, mq13 h, pm_z_rcv1 (mq0 h), q_placeOf hi t1 (show p.length ≤ 46 by omega)]
    rw [if_pos e2]
    refine ⟨by omega, ?_⟩
    refine pm_for n (fun m lv f' => lv = [some (.inr (.inl (some (b)))), some (.inl ((i : Int))), some (.inl ((x : Int))), some (.inr (.inl (some ((b + 1 + j))))), some (.inl ((sl i x : Int))), some (.inl ((n : Int))), some (.inl ((p.length : Int))), some (.inl ((m : Int)))] ∧ ∃ g' : Nat → Int, rm_at f' b (stA A j g') S ∧ rfr b f f' ∧ fl g' m = ((x : Int) :: q ++ p).take m) (fun m lv f' hm hJ ih => ?_) (fun lv f' hJ => ?_) 0 _ _ (Nat.zero_le _) ⟨rfl, A j, by rw [stA_same]; exact h, rfr_rf, by simp [fl]⟩
    · obtain ⟨rfl, g', h', fr, hg⟩ := hJ
      have h0 : stA A j g' 0 = A 0 := stA_ne A g' (by omega)
      have hto : f' (b + 1 + j) = some (.inl (46, g')) := by have := h'.2 j hj; rwa [hjl, stA_eq] at this
      have he : ((p.length : Int) + (m : Int)) % (n : Int) = (((p.length + m) % n : Nat) : Int) := rfl
      have hlt : (p.length + m) % n < n := Nat.mod_lt _ (by omega)
      have e := t4 ((p.length + m) % n) hlt
      refine pm_go_on [20, 46] 60 ?_
      set_option maxRecDepth 100000 in simp (maxSteps := 2000000) only [pm_x_run, pm_x_rt, pm_x_rf, pm_z_S, pm_z_D, pm_z_cut0, pm_z_cut1, pm_z_cli, pm_z_clr, pm_z_cln, pm_z_cll, pm_z_up, pm_x_aload0, pm_x_aload3, pm_x_c, pm_x_c2, pm_x_cn0, pm_x_cn1, pm_x_getf, pm_x_gf, pm_x_goto, pm_x_gv, pm_x_ia, pm_x_iald, pm_x_iast, pm_x_icmp_eq, pm_x_icmp_ge, pm_x_iinc6, pm_x_iinc7, pm_x_iload1, pm_x_iload2, pm_x_iload4, pm_x_iload5, pm_x_iload6, pm_x_iload7, pm_x_invs, pm_x_invv, pm_x_is, pm_x_istore4, pm_x_istore5, pm_x_istore6, pm_x_istore7, pm_x_v0, pm_x_v1, pm_x_x2, pm_z_cat0, pm_z_cati, pm_z_catl, pm_z_catr, pm_z_iadd, pm_z_iconst, pm_z_irem, pm_z_pop0, pm_z_pop1, pm_z_rcv0, zX5_turns_B, zX5_turns_F, zX5_turns_R, zX5_turns_X, zX5_turns_C80, zX5_turns_C83, zX5_turns_C76, pm_z_ireti (zX5_turns_R), fX5_7, dX5_turns_0, dX5_turns_1, dX5_turns_2, dX5_turns_3, dX5_turns_6, dX5_turns_8, dX5_turns_9, dX5_turns_10, dX5_turns_12, dX5_turns_15, dX5_turns_17, dX5_turns_18, dX5_turns_20, dX5_turns_21, dX5_turns_24, dX5_turns_25, dX5_turns_27, dX5_turns_29, dX5_turns_32, dX5_turns_33, dX5_turns_34, dX5_turns_37, dX5_turns_40, dX5_turns_43, dX5_turns_44, dX5_turns_46, dX5_turns_48, dX5_turns_50, dX5_turns_53, dX5_turns_54, dX5_turns_56, dX5_turns_57, dX5_turns_60, dX5_turns_61, dX5_turns_63, dX5_turns_65, dX5_turns_67, dX5_turns_68, dX5_turns_70, dX5_turns_71, dX5_turns_74, dX5_turns_75, dX5_turns_76, dX5_turns_79, dX5_turns_82, dX5_turns_84, Bool.cond_true, Bool.cond_false, Bool.or_false, Bool.false_or, Bool.true_or, Bool.or_true, true_and, and_true, if_true, if_false, List.length_cons, List.length_nil, List.getElem?_cons_zero, List.getElem?_cons_succ, List.set_cons_zero, List.set_cons_succ, Option.toList_some, Option.toList_none, List.cons_append, List.nil_append, beq_self_eq_true, Option.isSome_some, Option.isSome_none, pm_tg_lit, ite_true, ite_false, Nat.reduceAdd, Nat.reduceBEq, Nat.reduceLT, Nat.reduceLeDiff, Nat.reduceEqDiff, Int.reduceAdd, Int.reduceSub, Int.reduceLE, Int.reduceLT, Int.reduceEq, Int.reduceToNat, Int.reduceNeg, Int.cast_ofNat_Int, Int.reduceNatCast, Int.reduceNatCast', Int.zero_add, Int.add_zero, Nat.zero_add, Nat.add_zero, and_self, decide_true, decide_false, true_or, or_true, or_false, false_or, eq_self, Int.toNat_natCast, b2_e0, b2_e1, b2_ok, b2_w, b2_v, b2_tt, b2_ff, Bool.true_eq_false, Bool.false_eq_true, Option.some.injEq, Int.one_mul, Int.mul_one, not_true_eq_false, not_false_eq_true, ite_not, decide_eq_false_iff_not, decide_eq_true_eq, Int.reduceMul, Int.reduceMod, mq0 h', mq1 h', mq2 h', mq3 h', mq4 h', mq5 h', mq6 h', mq7 h', mq8 h', mq9 h', mq10 h', mq11 h', mq12 h', mq13 h', pm_z_rcv1 (mq0 h'), hto, he, q_placeOf hi t1 (show (p.length + m) % n ≤ 46 by omega)]
      rw [if_pos (by omega)]
      refine ⟨by omega, by omega, by omega, by omega, by omega, ih _ _ ⟨rfl, pm_us g' m (A 0 (540 + 46 * (16 * i + sl i x) + (p.length + m) % n)), ?_, rfr_tr fr (rfr_up (by omega) (by omega)), ?_⟩⟩
      · have h2 := rm_arr h' hj (pm_us g' m (A 0 (540 + 46 * (16 * i + sl i x) + (p.length + m) % n))) hjl.symm
        rw [stA_st] at h2
        rw [h0]
        exact h2
      · have e3 : ((x : Int) :: q ++ p)[m]? = some (A 0 (540 + 46 * (16 * i + sl i x) + (p.length + m) % n)) := by
          have e4 := rot_get (p := p) (r := (x : Int) :: q) (m := m) (by simp only [List.length_append, List.length_cons]; omega)
          rw [e4, ← ht, ← hn]
          exact e
        rw [fl_us, hg, List.take_add_one, e3]
        rfl
    · obtain ⟨rfl, g', h', fr, hg⟩ := hJ
      refine pm_go_on [20, 46] 60 ?_
      set_option maxRecDepth 100000 in simp (maxSteps := 2000000) only [pm_x_run, pm_x_rt, pm_x_rf, pm_z_S, pm_z_D, pm_z_cut0, pm_z_cut1, pm_z_cli, pm_z_clr, pm_z_cln, pm_z_cll, pm_z_up, pm_x_aload0, pm_x_aload3, pm_x_c, pm_x_c2, pm_x_cn0, pm_x_cn1, pm_x_getf, pm_x_gf, pm_x_goto, pm_x_gv, pm_x_ia, pm_x_iald, pm_x_iast, pm_x_icmp_eq, pm_x_icmp_ge, pm_x_iinc6, pm_x_iinc7, pm_x_iload1, pm_x_iload2, pm_x_iload4, pm_x_iload5, pm_x_iload6, pm_x_iload7, pm_x_invs, pm_x_invv, pm_x_is, pm_x_istore4, pm_x_istore5, pm_x_istore6, pm_x_istore7, pm_x_v0, pm_x_v1, pm_x_x2, pm_z_cat0, pm_z_cati, pm_z_catl, pm_z_catr, pm_z_iadd, pm_z_iconst, pm_z_irem, pm_z_pop0, pm_z_pop1, pm_z_rcv0, zX5_turns_B, zX5_turns_F, zX5_turns_R, zX5_turns_X, zX5_turns_C80, zX5_turns_C83, zX5_turns_C76, pm_z_ireti (zX5_turns_R), fX5_7, dX5_turns_0, dX5_turns_1, dX5_turns_2, dX5_turns_3, dX5_turns_6, dX5_turns_8, dX5_turns_9, dX5_turns_10, dX5_turns_12, dX5_turns_15, dX5_turns_17, dX5_turns_18, dX5_turns_20, dX5_turns_21, dX5_turns_24, dX5_turns_25, dX5_turns_27, dX5_turns_29, dX5_turns_32, dX5_turns_33, dX5_turns_34, dX5_turns_37, dX5_turns_40, dX5_turns_43, dX5_turns_44, dX5_turns_46, dX5_turns_48, dX5_turns_50, dX5_turns_53, dX5_turns_54, dX5_turns_56, dX5_turns_57, dX5_turns_60, dX5_turns_61, dX5_turns_63, dX5_turns_65, dX5_turns_67, dX5_turns_68, dX5_turns_70, dX5_turns_71, dX5_turns_74, dX5_turns_75, dX5_turns_76, dX5_turns_79, dX5_turns_82, dX5_turns_84, Bool.cond_true, Bool.cond_false, Bool.or_false, Bool.false_or, Bool.true_or, Bool.or_true, true_and, and_true, if_true, if_false, List.length_cons, List.length_nil, List.getElem?_cons_zero, List.getElem?_cons_succ, List.set_cons_zero, List.set_cons_succ, Option.toList_some, Option.toList_none, List.cons_append, List.nil_append, beq_self_eq_true, Option.isSome_some, Option.isSome_none, pm_tg_lit, ite_true, ite_false, Nat.reduceAdd, Nat.reduceBEq, Nat.reduceLT, Nat.reduceLeDiff, Nat.reduceEqDiff, Int.reduceAdd, Int.reduceSub, Int.reduceLE, Int.reduceLT, Int.reduceEq, Int.reduceToNat, Int.reduceNeg, Int.cast_ofNat_Int, Int.reduceNatCast, Int.reduceNatCast', Int.zero_add, Int.add_zero, Nat.zero_add, Nat.add_zero, and_self, decide_true, decide_false, true_or, or_true, or_false, false_or, eq_self, Int.toNat_natCast, b2_e0, b2_e1, b2_ok, b2_w, b2_v, b2_tt, b2_ff, Bool.true_eq_false, Bool.false_eq_true, Option.some.injEq, Int.one_mul, Int.mul_one, not_true_eq_false, not_false_eq_true, ite_not, decide_eq_false_iff_not, decide_eq_true_eq, Int.reduceMul, Int.reduceMod, mq0 h', mq1 h', mq2 h', mq3 h', mq4 h', mq5 h', mq6 h', mq7 h', mq8 h', mq9 h', mq10 h', mq11 h', mq12 h', mq13 h', pm_z_rcv1 (mq0 h')]
      rw [if_neg (by omega)]
      refine hk f' g' h' fr ?_
      rw [hg, List.take_of_length_le (by simp only [List.length_append, List.length_cons]; omega)]
set_option maxRecDepth 20000 in
theorem lays_r (h : rm_at f b A S) {i s n j : Nat} (hi : i < 5) (hs : s < 16) (hj : j < 13) (hj0 : j ≠ 0) (hjl : rm_len j = 46) (hn : n ≤ 46) (hw : okT (fl (A j) n))
    (hk : ∀ f' : pm_H, rm_at f' b (stA A 0 (lyM (A 0) i s n (fl (A j) n))) S → rfr b f f' → k none f') : pm_ex T_X5_lays [.inr (.inl (some b)), .inl (i : Int), .inl (s : Int), .inr (.inl (some (b + 1 + j))), .inl 0, .inl (n : Int)] f k := by
  have hlast : lyM (A 0) i s n (fl (A j) n) = lyM (A 0) i s n (fl (A j) n) := rfl
  have hrow : f (b + 1 + j) = some (.inl (46, A j)) := by have := h.2 j hj; rwa [hjl] at this
  have e0 : pm_us (A 0) (460 + 16 * i + s) (n : Int) = lyM (A 0) i s n (fl (A j) 0) := by
    funext q
    unfold pm_us lyM
    by_cases z : q = 460 + 16 * i + s
    · rw [if_pos z, if_pos z]
    · rw [if_neg z, if_neg z, if_neg (by simp only [fl_len]; omega), if_neg (by simp [fl])]
  refine in_X5_lays ?_
  refine pm_go_on [20] 60 ?_
  set_option maxRecDepth 100000 in simp (maxSteps := 2000000) only [pm_x_run, pm_x_rt, pm_x_rf, pm_z_S, pm_z_D, pm_z_cut0, pm_z_cut1, pm_z_cli, pm_z_clr, pm_z_cln, pm_z_cll, pm_z_up, pm_x_aload0, pm_x_aload3, pm_x_c, pm_x_c2, pm_x_cn0, pm_x_cn1, pm_x_getf, pm_x_gf, pm_x_goto, pm_x_gv, pm_x_ia, pm_x_iald, pm_x_iast, pm_x_icmp_ge, pm_x_iinc6, pm_x_iload1, pm_x_iload2, pm_x_iload4, pm_x_iload5, pm_x_iload6, pm_x_invs, pm_x_is, pm_x_istore6, pm_z_bipush, pm_z_cat0, pm_z_cati, pm_z_catl, pm_z_catr, pm_z_iadd, pm_z_iconst, pm_z_imul, pm_z_pop0, pm_z_pop1, pm_z_rcv0, pm_z_sipush, pm_z_vret, zX5_lays_B, zX5_lays_F, zX5_lays_R, zX5_lays_X, zX5_lays_C76, fX5_7, dX5_lays_0, dX5_lays_1, dX5_lays_4, dX5_lays_7, dX5_lays_9, dX5_lays_10, dX5_lays_11, dX5_lays_12, dX5_lays_13, dX5_lays_14, dX5_lays_16, dX5_lays_17, dX5_lays_18, dX5_lays_20, dX5_lays_22, dX5_lays_24, dX5_lays_27, dX5_lays_28, dX5_lays_31, dX5_lays_32, dX5_lays_33, dX5_lays_35, dX5_lays_38, dX5_lays_39, dX5_lays_41, dX5_lays_43, dX5_lays_44, dX5_lays_45, dX5_lays_46, dX5_lays_47, dX5_lays_49, dX5_lays_51, dX5_lays_52, dX5_lays_53, dX5_lays_55, dX5_lays_58, dX5_lays_59, dX5_lays_62, dX5_lays_65, dX5_lays_67, dX5_lays_68, dX5_lays_69, dX5_lays_70, dX5_lays_71, dX5_lays_73, dX5_lays_75, dX5_lays_76, dX5_lays_77, dX5_lays_78, dX5_lays_79, dX5_lays_80, dX5_lays_83, dX5_lays_86, Bool.cond_true, Bool.cond_false, Bool.or_false, Bool.false_or, Bool.true_or, Bool.or_true, true_and, and_true, if_true, if_false, List.length_cons, List.length_nil, List.getElem?_cons_zero, List.getElem?_cons_succ, List.set_cons_zero, List.set_cons_succ, Option.toList_some, Option.toList_none, List.cons_append, List.nil_append, beq_self_eq_true, Option.isSome_some, Option.isSome_none, pm_tg_lit, ite_true, ite_false, Nat.reduceAdd, Nat.reduceBEq, Nat.reduceLT, Nat.reduceLeDiff, Nat.reduceEqDiff, Int.reduceAdd, Int.reduceSub, Int.reduceLE, Int.reduceLT, Int.reduceEq, Int.reduceToNat, Int.reduceNeg, Int.cast_ofNat_Int, Int.reduceNatCast, Int.reduceNatCast', Int.zero_add, Int.add_zero, Nat.zero_add, Nat.add_zero, and_self, decide_true, decide_false, true_or, or_true, or_false, false_or, eq_self, Int.toNat_natCast, b2_e0, b2_e1, b2_ok, b2_w, b2_v, b2_tt, b2_ff, Bool.true_eq_false, Bool.false_eq_true, Option.some.injEq, Int.one_mul, Int.mul_one, not_true_eq_false, not_false_eq_true, ite_not, decide_eq_false_iff_not, decide_eq_true_eq, Int.reduceMul, Int.reduceMod, mq0 h, mq1 h, mq2 h, mq3 h, mq4 h, mq5 h, mq6 h, mq7 h, mq8 h, mq9 h, mq10 h, mq11 h, mq12 h, mq13 h, pm_z_rcv1 (mq0 h)]
  refine ⟨by omega, by omega, by omega, by omega, ?_⟩
  rw [show ((460 : Int) + 16 * (i : Int) + (s : Int)).toNat = 460 + 16 * i + s by omega, e0]
  refine pm_for n (fun m lv f' => lv = [some (.inr (.inl (some (b)))), some (.inl ((i : Int))), some (.inl ((s : Int))), some (.inr (.inl (some ((b + 1 + j))))), some (.inl (0)), some (.inl ((n : Int))), some (.inl ((m : Int)))] ∧ rm_at f' b (stA A 0 (lyM (A 0) i s n (fl (A j) m))) S ∧ rfr b f f') (fun m lv f' hm hJ ih => ?_) (fun lv f' hJ => ?_) 0 _ _ (Nat.zero_le _) ⟨rfl, rm_arr h (j := 0) (by omega) _ rfl, rfr_up (by omega) (by omega)⟩
  · obtain ⟨rfl, h', fr⟩ := hJ
    have hrow' : f' (b + 1 + j) = some (.inl (46, A j)) := by have := h'.2 j hj; rwa [hjl, stA_ne _ _ hj0] at this
    have hmem : A j m ∈ fl (A j) n := by
      unfold fl
      exact List.mem_map.mpr ⟨m, List.mem_range.mpr hm, rfl⟩
    have hv := hw _ hmem
    have e1 := q_placeOf (f := f') (k := k) hi hs (show m ≤ 46 by omega)
    have hgen : ∀ (M : Nat → Int), stA A 0 M 0 = M := fun M => rfl
    have hne : b + 1 ≠ b + 1 + j := by omega
    have hrow2 : ∀ c : pm_C, pm_up f' (b + 1) c (b + 1 + j) = some (.inl (46, A j)) := fun c => by rw [up_ne (by omega)]; exact hrow'
    have hb2 : ∀ c : pm_C, pm_up f' (b + 1) c b = f' b := fun c => up_ne (by omega)
    refine pm_go_on [20] 60 ?_
    set_option maxRecDepth 100000 in simp (maxSteps := 2000000) only [pm_x_run, pm_x_rt, pm_x_rf, pm_z_S, pm_z_D, pm_z_cut0, pm_z_cut1, pm_z_cli, pm_z_clr, pm_z_cln, pm_z_cll, pm_z_up, pm_x_aload0, pm_x_aload3, pm_x_c, pm_x_c2, pm_x_cn0, pm_x_cn1, pm_x_getf, pm_x_gf, pm_x_goto, pm_x_gv, pm_x_ia, pm_x_iald, pm_x_iast, pm_x_icmp_ge, pm_x_iinc6, pm_x_iload1, pm_x_iload2, pm_x_iload4, pm_x_iload5, pm_x_iload6, pm_x_invs, pm_x_is, pm_x_istore6, pm_z_bipush, pm_z_cat0, pm_z_cati, pm_z_catl, pm_z_catr, pm_z_iadd, pm_z_iconst, pm_z_imul, pm_z_pop0, pm_z_pop1, pm_z_rcv0, pm_z_sipush, pm_z_vret, zX5_lays_B, zX5_lays_F, zX5_lays_R, zX5_lays_X, zX5_lays_C76, fX5_7, dX5_lays_0, dX5_lays_1, dX5_lays_4, dX5_lays_7, dX5_lays_9, dX5_lays_10, dX5_lays_11, dX5_lays_12, dX5_lays_13, dX5_lays_14, dX5_lays_16, dX5_lays_17, dX5_lays_18, dX5_lays_20, dX5_lays_22, dX5_lays_24, dX5_lays_27, dX5_lays_28, dX5_lays_31, dX5_lays_32, dX5_lays_33, dX5_lays_35, dX5_lays_38, dX5_lays_39, dX5_lays_41, dX5_lays_43, dX5_lays_44, dX5_lays_45, dX5_lays_46, dX5_lays_47, dX5_lays_49, dX5_lays_51, dX5_lays_52, dX5_lays_53, dX5_lays_55, dX5_lays_58, dX5_lays_59, dX5_lays_62, dX5_lays_65, dX5_lays_67, dX5_lays_68, dX5_lays_69, dX5_lays_70, dX5_lays_71, dX5_lays_73, dX5_lays_75, dX5_lays_76, dX5_lays_77, dX5_lays_78, dX5_lays_79, dX5_lays_80, dX5_lays_83, dX5_lays_86, Bool.cond_true, Bool.cond_false, Bool.or_false, Bool.false_or, Bool.true_or, Bool.or_true, true_and, and_true, if_true, if_false, List.length_cons, List.length_nil, List.getElem?_cons_zero, List.getElem?_cons_succ, List.set_cons_zero, List.set_cons_succ, Option.toList_some, Option.toList_none, List.cons_append, List.nil_append, beq_self_eq_true, Option.isSome_some, Option.isSome_none, pm_tg_lit, ite_true, ite_false, Nat.reduceAdd, Nat.reduceBEq, Nat.reduceLT, Nat.reduceLeDiff, Nat.reduceEqDiff, Int.reduceAdd, Int.reduceSub, Int.reduceLE, Int.reduceLT, Int.reduceEq, Int.reduceToNat, Int.reduceNeg, Int.cast_ofNat_Int, Int.reduceNatCast, Int.reduceNatCast', Int.zero_add, Int.add_zero, Nat.zero_add, Nat.add_zero, and_self, decide_true, decide_false, true_or, or_true, or_false, false_or, eq_self, Int.toNat_natCast, b2_e0, b2_e1, b2_ok, b2_w, b2_v, b2_tt, b2_ff, Bool.true_eq_false, Bool.false_eq_true, Option.some.injEq, Int.one_mul, Int.mul_one, not_true_eq_false, not_false_eq_true, ite_not, decide_eq_false_iff_not, decide_eq_true_eq, Int.reduceMul, Int.reduceMod, mq0 h', mq1 h', mq2 h', mq3 h', mq4 h', mq5 h', mq6 h', mq7 h', mq8 h', mq9 h', mq10 h', mq11 h', mq12 h', mq13 h', pm_z_rcv1 (mq0 h'), hrow', hrow2, hb2, up_eq, q_placeOf hi hs (show m ≤ 46 by omega)]
    rw [if_pos (by omega)]
    refine ⟨by omega, by omega, by omega, by omega, by omega, ?_⟩
    have es := fl_s (A j) m
    by_cases hv2 : A j m < 100
    · rw [if_pos hv2]
      obtain ⟨a, ha, hae⟩ := ip (n := 16) (x := A j m) (by omega)
      rw [hae]
      refine ⟨by omega, by omega, by omega, by omega, by omega, by omega, by omega, ?_⟩
      rw [show ((380 : Int) + 16 * (i : Int) + (a : Int)).toNat = 380 + 16 * i + a by omega, up_up, hgen]
      have e2 := lyM_n (M := A 0) (n := n) (L := fl (A j) m) hs hi (by rw [fl_len]; omega) ha
      rw [fl_len] at e2
      rw [e2]
      have h2 := rm_arr h' (j := 0) (by omega) (lyM (A 0) i s n (fl (A j) m ++ [(a : Int)])) rfl
      rw [stA_st] at h2
      refine ih _ _ ⟨rfl, ?_, rfr_tr fr (rfr_up (by omega) (by omega))⟩
      rw [es, hae]
      exact h2
    · rw [if_neg hv2]
      refine ⟨by omega, ?_⟩
      rw [hgen]
      have e2 := lyM_b (M := A 0) (n := n) (L := fl (A j) m) (v := A j m) hs hi (by rw [fl_len]; omega) (by omega)
      rw [fl_len] at e2
      rw [e2]
      have h2 := rm_arr h' (j := 0) (by omega) (lyM (A 0) i s n (fl (A j) m ++ [A j m])) rfl
      rw [stA_st] at h2
      refine ih _ _ ⟨rfl, ?_, rfr_tr fr (rfr_up (by omega) (by omega))⟩
      rw [es]
      exact h2
  · obtain ⟨rfl, h', fr⟩ := hJ
    refine pm_go_on [20] 60 ?_
    set_option maxRecDepth 100000 in simp (maxSteps := 2000000) only [pm_x_run, pm_x_rt, pm_x_rf, pm_z_S, pm_z_D, pm_z_cut0, pm_z_cut1, pm_z_cli, pm_z_clr, pm_z_cln, pm_z_cll, pm_z_up, pm_x_aload0, pm_x_aload3, pm_x_c, pm_x_c2, pm_x_cn0, pm_x_cn1, pm_x_getf, pm_x_gf, pm_x_goto, pm_x_gv, pm_x_ia, pm_x_iald, pm_x_iast, pm_x_icmp_ge, pm_x_iinc6, pm_x_iload1, pm_x_iload2, pm_x_iload4, pm_x_iload5, pm_x_iload6, pm_x_invs, pm_x_is, pm_x_istore6, pm_z_bipush, pm_z_cat0, pm_z_cati, pm_z_catl, pm_z_catr, pm_z_iadd, pm_z_iconst, pm_z_imul, pm_z_pop0, pm_z_pop1, pm_z_rcv0, pm_z_sipush, pm_z_vret, zX5_lays_B, zX5_lays_F, zX5_lays_R, zX5_lays_X, zX5_lays_C76, fX5_7, dX5_lays_0, dX5_lays_1, dX5_lays_4, dX5_lays_7, dX5_lays_9, dX5_lays_10, dX5_lays_11, dX5_lays_12, dX5_lays_13, dX5_lays_14, dX5_lays_16, dX5_lays_17, dX5_lays_18, dX5_lays_20, dX5_lays_22, dX5_lays_24, dX5_lays_27, dX5_lays_28, dX5_lays_31, dX5_lays_32, dX5_lays_33, dX5_lays_35, dX5_lays_38, dX5_lays_39, dX5_lays_41, dX5_lays_43, dX5_lays_44, dX5_lays_45, dX5_lays_46, dX5_lays_47, dX5_lays_49, dX5_lays_51, dX5_lays_52, dX5_lays_53, dX5_lays_55, dX5_lays_58, dX5_lays_59, dX5_lays_62, dX5_lays_65, dX5_lays_67, dX5_lays_68, dX5_lays_69, dX5_lays_70, dX5_lays_71, dX5_lays_73, dX5_lays_75, dX5_lays_76, dX5_lays_77, dX5_lays_78, dX5_lays_79, dX5_lays_80, dX5_lays_83, dX5_lays_86, Bool.cond_true, Bool.cond_false, Bool.or_false, Bool.false_or, Bool.true_or, Bool.or_true, true_and, and_true, if_true, if_false, List.length_cons, List.length_nil, List.getElem?_cons_zero, List.getElem?_cons_succ, List.set_cons_zero, List.set_cons_succ, Option.toList_some, Option.toList_none, List.cons_append, List.nil_append, beq_self_eq_true, Option.isSome_some, Option.isSome_none, pm_tg_lit, ite_true, ite_false, Nat.reduceAdd, Nat.reduceBEq, Nat.reduceLT, Nat.reduceLeDiff, Nat.reduceEqDiff, Int.reduceAdd, Int.reduceSub, Int.reduceLE, Int.reduceLT, Int.reduceEq, Int.reduceToNat, Int.reduceNeg, Int.cast_ofNat_Int, Int.reduceNatCast, Int.reduceNatCast', Int.zero_add, Int.add_zero, Nat.zero_add, Nat.add_zero, and_self, decide_true, decide_false, true_or, or_true, or_false, false_or, eq_self, Int.toNat_natCast, b2_e0, b2_e1, b2_ok, b2_w, b2_v, b2_tt, b2_ff, Bool.true_eq_false, Bool.false_eq_true, Option.some.injEq, Int.one_mul, Int.mul_one, not_true_eq_false, not_false_eq_true, ite_not, decide_eq_false_iff_not, decide_eq_true_eq, Int.reduceMul, Int.reduceMod, mq0 h', mq1 h', mq2 h', mq3 h', mq4 h', mq5 h', mq6 h', mq7 h', mq8 h', mq9 h', mq10 h', mq11 h', mq12 h', mq13 h', pm_z_rcv1 (mq0 h')]
    rw [if_neg (by omega)]
    exact hk f' h' fr
end SL
