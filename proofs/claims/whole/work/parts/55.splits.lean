/-- the least node of a row -/
def mnL (l : List Int) : Nat := l.foldl (fun (m : Nat) v => if v < (m : Int) then v.toNat else m) 16
theorem mnL_s (l : List Int) (v : Int) : mnL (l ++ [v]) = if v < (mnL l : Int) then v.toNat else mnL l := by rw [mnL, List.foldl_append]; rfl
theorem snoc_ind {P : List Int → Prop} (h0 : P []) (hs : ∀ l v, P l → P (l ++ [v])) (l : List Int) : P l := by
  have : ∀ n (l : List Int), l.length = n → P l := by
    intro n
    induction n with
    | zero => intro l hl; rw [List.length_eq_zero_iff.mp hl]; exact h0
    | succ n ih =>
      intro l hl
      have hne : l ≠ [] := fun e => by simp [e] at hl
      rw [← List.dropLast_concat_getLast hne]
      exact hs _ _ (ih _ (by simp [hl]))
  exact this _ l rfl
theorem mnL_or (l : List Int) : okT l → (mnL l = 16 ∧ ∀ v ∈ l, (16 : Int) ≤ v) ∨ (mnL l < 16 ∧ (mnL l : Int) ∈ l) := by
  refine snoc_ind (P := fun l => okT l → (mnL l = 16 ∧ ∀ v ∈ l, (16 : Int) ≤ v) ∨ (mnL l < 16 ∧ (mnL l : Int) ∈ l)) (fun _ => Or.inl ⟨rfl, by simp⟩) (fun l v ih ok => ?_) l
  have hv := ok v (by simp)
  have := ih (fun w hw => ok w (by simp [hw]))
  rw [mnL_s]
  rcases this with ⟨h1, h2⟩ | ⟨h1, h2⟩
  · by_cases e : v < (mnL l : Int)
    · rw [if_pos e]
      right
      refine ⟨by omega, ?_⟩
      rw [show ((v.toNat : Nat) : Int) = v by omega]
      simp
    · rw [if_neg e]
      left
      refine ⟨h1, fun w hw => ?_⟩
      rcases List.mem_append.mp hw with z | z
      · exact h2 w z
      · rw [List.mem_singleton.mp z]; omega
  · right
    by_cases e : v < (mnL l : Int)
    · rw [if_pos e]
      refine ⟨by omega, ?_⟩
      rw [show ((v.toNat : Nat) : Int) = v by omega]
      simp
    · rw [if_neg e]
      exact ⟨h1, by simp [h2]⟩
theorem mnL_in {l : List Int} (ok : okT l) {n : Nat} (hn : n < 16) (h : (n : Int) ∈ l) : mnL l < 16 ∧ (mnL l : Int) ∈ l := by
  rcases mnL_or l ok with ⟨h1, h2⟩ | h2
  · have := h2 _ h; omega
  · exact h2
theorem slotIn_r {f : pm_H} {k : pm_P} {a n : Nat} {g : Nat → Int} (h : f a = some (.inl (46, g))) (hn : n ≤ 46) (ok : okT (fl g n)) (hk : k (some (.inl ((mnL (fl g n) : Nat) : Int))) f) : pm_ex T_X5_slotIn [.inr (.inl (some a)), .inl (n : Int)] f k := by
  refine in_X5_slotIn ?_
  refine pm_go_on [5] 60 ?_
  set_option maxRecDepth 100000 in simp (maxSteps := 2000000) only [pm_x_run, pm_x_rt, pm_x_rf, pm_z_S, pm_z_D, pm_z_cut0, pm_z_cut1, pm_z_cli, pm_z_clr, pm_z_cln, pm_z_cll, pm_z_up, pm_x_aload0, pm_x_goto, pm_x_ia, pm_x_iald, pm_x_icmp_ge, pm_x_iinc3, pm_x_iload1, pm_x_iload2, pm_x_iload3, pm_x_istore2, pm_x_istore3, pm_z_bipush, pm_z_iconst, zX5_slotIn_B, zX5_slotIn_F, zX5_slotIn_R, zX5_slotIn_X, pm_z_ireti (zX5_slotIn_R), dX5_slotIn_0, dX5_slotIn_2, dX5_slotIn_3, dX5_slotIn_4, dX5_slotIn_5, dX5_slotIn_6, dX5_slotIn_7, dX5_slotIn_10, dX5_slotIn_11, dX5_slotIn_12, dX5_slotIn_13, dX5_slotIn_14, dX5_slotIn_17, dX5_slotIn_18, dX5_slotIn_19, dX5_slotIn_20, dX5_slotIn_21, dX5_slotIn_24, dX5_slotIn_27, dX5_slotIn_28, Bool.cond_true, Bool.cond_false, Bool.or_false, Bool.false_or, Bool.true_or, Bool.or_true, true_and, and_true, if_true, if_false, List.length_cons, List.length_nil, List.getElem?_cons_zero, List.getElem?_cons_succ, List.set_cons_zero, List.set_cons_succ, Option.toList_some, Option.toList_none, List.cons_append, List.nil_append, beq_self_eq_true, Option.isSome_some, Option.isSome_none, pm_tg_lit, ite_true, ite_false, Nat.reduceAdd, Nat.reduceBEq, Nat.reduceLT, Nat.reduceLeDiff, Nat.reduceEqDiff, Int.reduceAdd, Int.reduceSub, Int.reduceLE, Int.reduceLT, Int.reduceEq, Int.reduceToNat, Int.reduceNeg, Int.cast_ofNat_Int, Int.reduceNatCast, Int.reduceNatCast', Int.zero_add, Int.add_zero, Nat.zero_add, Nat.add_zero, and_self, decide_true, decide_false, true_or, or_true, or_false, false_or, eq_self, Int.toNat_natCast, b2_e0, b2_e1, b2_ok, b2_w, b2_v, b2_tt, b2_ff, Bool.true_eq_false, Bool.false_eq_true, Option.some.injEq, Int.one_mul, Int.mul_one, not_true_eq_false, not_false_eq_true, ite_not, decide_eq_false_iff_not, decide_eq_true_eq, Int.reduceMul, Int.reduceMod, h]
  refine pm_fo n (fun m => [some (.inr (.inl (some (a)))), some (.inl ((n : Int))), some (.inl (((mnL (fl g m) : Nat) : Int))), some (.inl ((m : Int)))]) (fun m hm ih => ?_) ?_ 0 (Nat.zero_le _)
  · have hv := ok (g m) (by unfold fl; exact List.mem_map.mpr ⟨m, List.mem_range.mpr hm, rfl⟩)
    simp only [fl_s, mnL_s] at ih
    refine pm_go_on [5] 60 ?_
    set_option maxRecDepth 100000 in simp (maxSteps := 2000000) only [pm_x_run, pm_x_rt, pm_x_rf, pm_z_S, pm_z_D, pm_z_cut0, pm_z_cut1, pm_z_cli, pm_z_clr, pm_z_cln, pm_z_cll, pm_z_up, pm_x_aload0, pm_x_goto, pm_x_ia, pm_x_iald, pm_x_icmp_ge, pm_x_iinc3, pm_x_iload1, pm_x_iload2, pm_x_iload3, pm_x_istore2, pm_x_istore3, pm_z_bipush, pm_z_iconst, zX5_slotIn_B, zX5_slotIn_F, zX5_slotIn_R, zX5_slotIn_X, pm_z_ireti (zX5_slotIn_R), dX5_slotIn_0, dX5_slotIn_2, dX5_slotIn_3, dX5_slotIn_4, dX5_slotIn_5, dX5_slotIn_6, dX5_slotIn_7, dX5_slotIn_10, dX5_slotIn_11, dX5_slotIn_12, dX5_slotIn_13, dX5_slotIn_14, dX5_slotIn_17, dX5_slotIn_18, dX5_slotIn_19, dX5_slotIn_20, dX5_slotIn_21, dX5_slotIn_24, dX5_slotIn_27, dX5_slotIn_28, Bool.cond_true, Bool.cond_false, Bool.or_false, Bool.false_or, Bool.true_or, Bool.or_true, true_and, and_true, if_true, if_false, List.length_cons, List.length_nil, List.getElem?_cons_zero, List.getElem?_cons_succ, List.set_cons_zero, List.set_cons_succ, Option.toList_some, Option.toList_none, List.cons_append, List.nil_append, beq_self_eq_true, Option.isSome_some, Option.isSome_none, pm_tg_lit, ite_true, ite_false, Nat.reduceAdd, Nat.reduceBEq, Nat.reduceLT, Nat.reduceLeDiff, Nat.reduceEqDiff, Int.reduceAdd, Int.reduceSub, Int.reduceLE, Int.reduceLT, Int.reduceEq, Int.reduceToNat, Int.reduceNeg, Int.cast_ofNat_Int, Int.reduceNatCast, Int.reduceNatCast', Int.zero_add, Int.add_zero, Nat.zero_add, Nat.add_zero, and_self, decide_true, decide_false, true_or, or_true, or_false, false_or, eq_self, Int.toNat_natCast, b2_e0, b2_e1, b2_ok, b2_w, b2_v, b2_tt, b2_ff, Bool.true_eq_false, Bool.false_eq_true, Option.some.injEq, Int.one_mul, Int.mul_one, not_true_eq_false, not_false_eq_true, ite_not, decide_eq_false_iff_not, decide_eq_true_eq, Int.reduceMul, Int.reduceMod, h]
    rw [if_pos (by omega)]
    refine ⟨by omega, ?_⟩
    by_cases e : g m < (mnL (fl g m) : Int)
    · rw [if_pos e] at ih ⊢
      rw [show ((g m).toNat : Int) = g m by omega] at ih
      exact ⟨by omega, by omega, ih⟩
    · rw [if_neg e] at ih ⊢
      exact ⟨by omega, ih⟩
  · refine pm_go_on [5] 60 ?_
    set_option maxRecDepth 100000 in simp (maxSteps := 2000000) only [pm_x_run, pm_x_rt, pm_x_rf, pm_z_S, pm_z_D, pm_z_cut0, pm_z_cut1, pm_z_cli, pm_z_clr, pm_z_cln, pm_z_cll, pm_z_up, pm_x_aload0, pm_x_goto, pm_x_ia, pm_x_iald, pm_x_icmp_ge, pm_x_iinc3, pm_x_iload1, pm_x_iload2, pm_x_iload3, pm_x_istore2, pm_x_istore3, pm_z_bipush, pm_z_iconst, zX5_slotIn_B, zX5_slotIn_F, zX5_slotIn_R, zX5_slotIn_X, pm_z_ireti (zX5_slotIn_R), dX5_slotIn_0, dX5_slotIn_2, dX5_slotIn_3, dX5_slotIn_4, dX5_slotIn_5, dX5_slotIn_6, dX5_slotIn_7, dX5_slotIn_10, dX5_slotIn_11, dX5_slotIn_12, dX5_slotIn_13, dX5_slotIn_14, dX5_slotIn_17, dX5_slotIn_18, dX5_slotIn_19, dX5_slotIn_20, dX5_slotIn_21, dX5_slotIn_24, dX5_slotIn_27, dX5_slotIn_28, Bool.cond_true, Bool.cond_false, Bool.or_false, Bool.false_or, Bool.true_or, Bool.or_true, true_and, and_true, if_true, if_false, List.length_cons, List.length_nil, List.getElem?_cons_zero, List.getElem?_cons_succ, List.set_cons_zero, List.set_cons_succ, Option.toList_some, Option.toList_none, List.cons_append, List.nil_append, beq_self_eq_true, Option.isSome_some, Option.isSome_none, pm_tg_lit, ite_true, ite_false, Nat.reduceAdd, Nat.reduceBEq, Nat.reduceLT, Nat.reduceLeDiff, Nat.reduceEqDiff, Int.reduceAdd, Int.reduceSub, Int.reduceLE, Int.reduceLT, Int.reduceEq, Int.reduceToNat, Int.reduceNeg, Int.cast_ofNat_Int, Int.reduceNatCast, Int.reduceNatCast', Int.zero_add, Int.add_zero, Nat.zero_add, Nat.add_zero, and_self, decide_true, decide_false, true_or, or_true, or_false, false_or, eq_self, Int.toNat_natCast, b2_e0, b2_e1, b2_ok, b2_w, b2_v, b2_tt, b2_ff, Bool.true_eq_false, Bool.false_eq_true, Option.some.injEq, Int.one_mul, Int.mul_one, not_true_eq_false, not_false_eq_true, ite_not, decide_eq_false_iff_not, decide_eq_true_eq, Int.reduceMul, Int.reduceMod, h]
    rw [if_neg (by omega)]
    exact hk
/-- a tour read through: between brackets or not; what lay between, what outside -/
def sgo (B : Int) (l : List Int) : Bool × List Int × List Int := l.foldl (fun s v => if v = B then (!s.1, s.2) else if s.1 then (s.1, s.2.1 ++ [v], s.2.2) else (s.1, s.2.1, s.2.2 ++ [v])) (false, [], [])
theorem sgo_s (B : Int) (l : List Int) (v : Int) : sgo B (l ++ [v]) = if v = B then (!(sgo B l).1, (sgo B l).2) else if (sgo B l).1 then ((sgo B l).1, (sgo B l).2.1 ++ [v], (sgo B l).2.2) else ((sgo B l).1, (sgo B l).2.1, (sgo B l).2.2 ++ [v]) := by rw [sgo, List.foldl_append]; rfl
theorem sgo_len (B : Int) (l : List Int) : (sgo B l).2.1.length + (sgo B l).2.2.length ≤ l.length := by
  refine snoc_ind (P := fun l => (sgo B l).2.1.length + (sgo B l).2.2.length ≤ l.length) (by simp [sgo]) (fun l v ih => ?_) l
  rw [sgo_s]
  split
  · simp only [List.length_append, List.length_singleton]; omega
  · split
    · simp only [List.length_append, List.length_singleton]; omega
    · simp only [List.length_append, List.length_singleton]; omega
theorem sgo_out {B : Int} {b : Bool} {x y : List Int} : ∀ (m : List Int), B ∉ m → m.foldl (fun s v => if v = B then (!s.1, s.2) else if s.1 then (s.1, s.2.1 ++ [v], s.2.2) else (s.1, s.2.1, s.2.2 ++ [v])) (b, x, y) = (if b then (b, x ++ m, y) else (b, x, y ++ m))
  | [], _ => by cases b <;> simp
  | v :: m, h => by
    have h1 : ¬ v = B := fun e => h (by simp [e])
    have h2 : B ∉ m := fun e => h (List.mem_cons_of_mem _ e)
    rw [List.foldl_cons, if_neg h1]
    cases b
    · simp only [Bool.false_eq_true, if_false]
      rw [sgo_out m h2]
      simp
    · simp only [if_true]
      rw [sgo_out m h2]
      simp
theorem sgo_eq {B : Int} {p m q : List Int} (hp : B ∉ p) (hm : B ∉ m) (hq : B ∉ q) : sgo B (p ++ B :: (m ++ B :: q)) = (false, m, p ++ q) := by
  unfold sgo
  rw [List.foldl_append, sgo_out p hp, List.foldl_cons]
  simp only [Bool.false_eq_true, if_false, if_true, List.nil_append, Bool.not_false]
  rw [List.foldl_append, sgo_out m hm, List.foldl_cons]
  simp only [if_true, List.nil_append, Bool.not_true]
  rw [sgo_out q hq]
  simp
theorem sgo_io {B : Int} {t : List Int} (h : t.count B = 2) : sgo B t = (false, inL t B, outL t B) := by
  obtain ⟨p, m, q, rfl, hp, hm, hq⟩ := spl2 h
  rw [inL_eq hp hm, outL_eq hp hm, sgo_eq hp hm hq]
/-- a tour split by a cable -/
def spT (T : Nat → Nat → List Int) (i c x : Nat) : Nat → Nat → List Int := lyT (lyT T i (outL (T i x) (100 + (c : Int)))) i (inL (T i x) (100 + (c : Int)))
section SP
variable {f : pm_H} {b : Nat} {A : Nat → Nat → Int} {S : Nat → Int} {N : nt} {k : pm_P}
theorem spT_rr {sl : Nat → Nat → Nat} {M : Nat → Int} (hr : rr M N sl) (o : okB N) {i c x s1 s2 : Nat} (hi : i < 5) (hx : x < 16) (hB : (tN N i x).count (100 + (c : Int)) = 2) (h1 : s1 < 16) (h2 : s2 < 16) (m1 : (s1 : Int) ∈ outL (tN N i x) (100 + (c : Int))) (m2 : (s2 : Int) ∈ inL (tN N i x) (100 + (c : Int))) (hex : ∀ m : Nat, m < 16 → ¬ ((m : Int) ∈ inL (tN N i x) (100 + (c : Int)) ∧ (m : Int) ∈ outL (tN N i x) (100 + (c : Int)))) :
    rr (lyM (lyM M i s1 (outL (tN N i x) (100 + (c : Int))).length (outL (tN N i x) (100 + (c : Int)))) i s2 (inL (tN N i x) (100 + (c : Int))).length (inL (tN N i x) (100 + (c : Int)))) (setT N (spT (tN N) i c x)) (lyS (lyS sl i s1 (outL (tN N i x) (100 + (c : Int)))) i s2 (inL (tN N i x) (100 + (c : Int)))) := by
  have gx := o.2.2.2.2.2 i x hi hx
  have hmm : ∀ v : Int, v ≠ 100 + (c : Int) → (v ∈ tN N i x ↔ v ∈ inL (tN N i x) (100 + (c : Int)) ∨ v ∈ outL (tN N i x) (100 + (c : Int))) := fun v hv => io_mem hB hv
  have hlen : (inL (tN N i x) (100 + (c : Int))).length ≤ 46 ∧ (outL (tN N i x) (100 + (c : Int))).length ≤ 46 := by
    have := sgo_len (100 + (c : Int)) (tN N i x)
    rw [sgo_io hB] at this
    have := gx.2.1
    simp only at *
    omega
  generalize hI : inL (tN N i x) (100 + (c : Int)) = I at *
  generalize hO : outL (tN N i x) (100 + (c : Int)) = O at *
  refine rr_T (okl o) hr (fun q hq => by rw [lyM_lo hq, lyM_lo hq]) (fun q hq => by rw [lyM_hi hi h2 hlen.1 hq, lyM_hi hi h1 hlen.2 hq]) ?_
  have g1 := rrg_lay (G := fun j n => ¬ (j = i ∧ (n : Int) ∈ tN N i x)) (rrg_of hr.2.2.2.1) hi h1 hlen.2 m1 (fun j n hj hn _ => (o.2.2.2.2.2 j n hj hn).2.1) (fun n hn hG hnw m hm hmn hmw => hG ⟨rfl, in_one o hi hn hx hm hmn ((hmm _ (by omega)).mpr (Or.inr hmw))⟩)
  have g2 := rrg_lay g1 hi h2 hlen.1 m2 (fun j n hj hn hg => ?_) (fun n hn hG hnw m hm hmn hmw => ?_)
  · have e : spT (tN N) i c x = lyT (lyT (tN N) i O) i I := by unfold spT; rw [hI, hO]
    rw [e]
    refine rrt_of g2 (fun j n hj hn => ?_)
    by_cases z : j = i ∧ (n : Int) ∈ tN N i x
    · rcases (hmm _ (by omega)).mp z.2 with y | y
      · exact Or.inl ⟨z.1, y⟩
      · exact Or.inr (Or.inl ⟨z.1, y⟩)
    · exact Or.inr (Or.inr z)
  · unfold lyT
    split
    · exact hlen.2
    · exact (o.2.2.2.2.2 j n hj hn).2.1
  · unfold lyT at hmn
    by_cases z : (n : Int) ∈ O
    · rw [if_pos ⟨rfl, z⟩] at hmn
      exact hex m hm ⟨hmw, hmn⟩
    · rw [if_neg (fun q => z q.2)] at hmn
      rcases hG with q | q
      · exact z q.2
      · exact q ⟨rfl, in_one o hi hn hx hm hmn ((hmm _ (by omega)).mpr (Or.inl hmw))⟩
set_option maxRecDepth 20000 in
theorem splits_r (h : rk f b A S N) (o : okB N) {i c x u v : Nat} (hi : i < 5) (hc : c < ldN N) (hx : cN N 0 c = x) (hB : (tN N i x).count (100 + (c : Int)) = 2) (hu : u < 16) (hv : v < 16) (mu : (u : Int) ∈ inL (tN N i x) (100 + (c : Int))) (mv : (v : Int) ∈ outL (tN N i x) (100 + (c : Int))) (hex : ∀ m : Nat, m < 16 → ¬ ((m : Int) ∈ inL (tN N i x) (100 + (c : Int)) ∧ (m : Int) ∈ outL (tN N i x) (100 + (c : Int))))
    (hk : ∀ (f' : pm_H) (A' : Nat → Nat → Int), rk f' b A' S (setT N (spT (tN N) i c x)) → rs b f A S f' A' S → k none f') : pm_ex T_X5_splits [.inr (.inl (some b)), .inl (i : Int), .inl (c : Int)] f k := by
  obtain ⟨h, sl, hr⟩ := h
  have b0 := okn o
  have b1 := okl o
  have cc := o.2.1 c hc
  have x16 : x < 16 := by omega
  have gx := o.2.2.2.2.2 i x hi x16
  obtain ⟨t1, t2, t3, t4, t5, t6⟩ := hr.2.2.2.1 i x hi x16
  have hsg := sgo_io hB
  have hrr := fun s1 s2 q1 q2 q3 q4 => spT_rr (c := c) (s1 := s1) (s2 := s2) hr o hi x16 hB q1 q2 q3 q4 hex
  have okI : okT (inL (tN N i x) (100 + (c : Int))) := fun w hw => gx.1 w (by
    by_cases e : w = 100 + (c : Int)
    · rw [e]; exact List.count_pos_iff.mp (by omega)
    · exact (io_mem hB e).mpr (Or.inl hw))
  have okO : okT (outL (tN N i x) (100 + (c : Int))) := fun w hw => gx.1 w (by
    by_cases e : w = 100 + (c : Int)
    · rw [e]; exact List.count_pos_iff.mp (by omega)
    · exact (io_mem hB e).mpr (Or.inr hw))
  obtain ⟨t, ht⟩ : ∃ t, t = tN N i x := ⟨_, rfl⟩
  obtain ⟨n, hn⟩ : ∃ n, n = t.length := ⟨_, rfl⟩
  have q1 := fun (f : pm_H) (k : pm_P) (h : rm_at f b A S) => q_longOf (k := k) h hr hi x16
  have n46 := gx.2.1
  rw [← ht] at hsg okI okO t3 t4 n46 mu mv
  rw [← hn] at t3 t4 n46
  simp only [← ht, ← hn] at q1
  refine in_X5_splits ?_
  refine pm_go_on [32] 60 ?_
  set_option maxRecDepth 100000 in simp (maxSteps := 2000000) only [pm_x_run, pm_x_rt, pm_x_rf, pm_z_S, pm_z_D, pm_z_cut0, pm_z_cut1, pm_z_cli, pm_z_clr, pm_z_cln, pm_z_cll, pm_z_up, pm_x_aload0, pm_x_c, pm_x_c2, pm_x_cn0, pm_x_cn1, pm_x_getf, pm_x_gf, pm_x_goto, pm_x_gv, pm_x_ia, pm_x_iald, pm_x_iast, pm_x_icmp_ge, pm_x_icmp_ne, pm_x_if_eq, pm_x_if_ne, pm_x_iinc5, pm_x_iinc6, pm_x_iinc8, pm_x_iload1, pm_x_iload2, pm_x_iload3, pm_x_iload4, pm_x_iload5, pm_x_iload6, pm_x_iload7, pm_x_iload8, pm_x_iload9, pm_x_invs, pm_x_invv, pm_x_is, pm_x_istore3, pm_x_istore4, pm_x_istore5, pm_x_istore6, pm_x_istore7, pm_x_istore8, pm_x_istore9, pm_x_v0, pm_x_v1, pm_x_x2, pm_z_bipush, pm_z_cat0, pm_z_cati, pm_z_catl, pm_z_catr, pm_z_iadd, pm_z_iconst, pm_z_pop0, pm_z_pop1, pm_z_rcv0, pm_z_vret, zX5_splits_B, zX5_splits_F, zX5_splits_R, zX5_splits_X, zX5_splits_C69, zX5_splits_C80, zX5_splits_C83, zX5_splits_C76, zX5_splits_C94, zX5_splits_C90, fX5_7, fX5_33, fX5_36, dX5_splits_0, dX5_splits_1, dX5_splits_2, dX5_splits_3, dX5_splits_4, dX5_splits_5, dX5_splits_8, dX5_splits_11, dX5_splits_12, dX5_splits_13, dX5_splits_14, dX5_splits_15, dX5_splits_18, dX5_splits_20, dX5_splits_21, dX5_splits_23, dX5_splits_24, dX5_splits_26, dX5_splits_27, dX5_splits_29, dX5_splits_30, dX5_splits_32, dX5_splits_34, dX5_splits_36, dX5_splits_39, dX5_splits_40, dX5_splits_43, dX5_splits_44, dX5_splits_45, dX5_splits_47, dX5_splits_50, dX5_splits_51, dX5_splits_53, dX5_splits_55, dX5_splits_57, dX5_splits_58, dX5_splits_59, dX5_splits_62, dX5_splits_64, dX5_splits_67, dX5_splits_68, dX5_splits_71, dX5_splits_72, dX5_splits_74, dX5_splits_77, dX5_splits_79, dX5_splits_82, dX5_splits_83, dX5_splits_86, dX5_splits_88, dX5_splits_90, dX5_splits_91, dX5_splits_94, dX5_splits_97, dX5_splits_98, dX5_splits_101, dX5_splits_103, dX5_splits_105, dX5_splits_106, dX5_splits_109, dX5_splits_112, dX5_splits_115, dX5_splits_116, dX5_splits_117, dX5_splits_118, dX5_splits_121, dX5_splits_123, dX5_splits_126, dX5_splits_127, dX5_splits_130, dX5_splits_131, dX5_splits_133, dX5_splits_136, dX5_splits_137, dX5_splits_138, dX5_splits_139, dX5_splits_142, dX5_splits_144, dX5_splits_147, dX5_splits_148, dX5_splits_151, dX5_splits_152, dX5_splits_154, dX5_splits_157, Bool.cond_true, Bool.cond_false, Bool.or_false, Bool.false_or, Bool.true_or, Bool.or_true, true_and, and_true, if_true, if_false, List.length_cons, List.length_nil, List.getElem?_cons_zero, List.getElem?_cons_succ, List.set_cons_zero, List.set_cons_succ, Option.toList_some, Option.toList_none, List.cons_append, List.nil_append, beq_self_eq_true, Option.isSome_some, Option.isSome_none, pm_tg_lit, ite_true, ite_false, Nat.reduceAdd, Nat.reduceBEq, Nat.reduceLT, Nat.reduceLeDiff, Nat.reduceEqDiff, Int.reduceAdd, Int.reduceSub, Int.reduceLE, Int.reduceLT, Int.reduceEq, Int.reduceToNat, Int.reduceNeg, Int.cast_ofNat_Int, Int.reduceNatCast, Int.reduceNatCast', Int.zero_add, Int.add_zero, Nat.zero_add, Nat.add_zero, and_self, decide_true, decide_false, true_or, or_true, or_false, false_or, eq_self, Int.toNat_natCast, b2_e0, b2_e1, b2_ok, b2_w, b2_v, b2_tt, b2_ff, Bool.true_eq_false, Bool.false_eq_true, Option.some.injEq, Int.one_mul, Int.mul_one, not_true_eq_false, not_false_eq_true, ite_not, decide_eq_false_iff_not, decide_eq_true_eq, Int.reduceMul, Int.reduceMod, mq0 h, mq1 h, mq2 h, mq3 h, mq4 h, mq5 h, mq6 h, mq7 h, mq8 h, mq9 h, mq10 h, mq11 h, mq12 h, mq13 h, pm_z_rcv1 (mq0 h), q_of0 h hr o hc, hx, q_slotOf h hr hi x16, q1 f _ h]
  refine pm_for n (fun m lv f' => ∃ w : Option pm_V, lv = [some (.inr (.inl (some (b)))), some (.inl ((i : Int))), some (.inl ((c : Int))), some (.inl ((sl i x : Int))), some (.inl ((n : Int))), some (.inl (((sgo (100 + (c : Int)) (t.take m)).2.1.length : Int))), some (.inl (((sgo (100 + (c : Int)) (t.take m)).2.2.length : Int))), some (.inl ((b2 (sgo (100 + (c : Int)) (t.take m)).1))), some (.inl ((m : Int))), w] ∧ ∃ g6 g7 : Nat → Int, rm_at f' b (stA (stA A 6 g6) 7 g7) S ∧ rfr b f f' ∧ fl g6 (sgo (100 + (c : Int)) (t.take m)).2.1.length = (sgo (100 + (c : Int)) (t.take m)).2.1 ∧ fl g7 (sgo (100 + (c : Int)) (t.take m)).2.2.length = (sgo (100 + (c : Int)) (t.take m)).2.2) (fun m lv f' hm hJ ih => ?_) (fun lv f' hJ => ?_) 0 _ _ (Nat.zero_le _) ⟨none, rfl, A 6, A 7, by rw [stA_same, stA_same]; exact h, rfr_rf, rfl, rfl⟩
  · obtain ⟨w, rfl, g6, g7, h3, fr3, e6, e7⟩ := hJ
    have e := t4 m hm
    have etk : t.take (m + 1) = t.take m ++ [A 0 (540 + 46 * (16 * i + sl i x) + m)] := by rw [List.take_add_one, e]; rfl
    have hl2 := sgo_len (100 + (c : Int)) (t.take m)
    have hl3 : (t.take m).length = m := by rw [List.length_take]; omega
    rw [etk, sgo_s] at ih
    have hA0 : stA (stA A 6 g6) 7 g7 0 = A 0 := rfl
    have hA6 : stA (stA A 6 g6) 7 g7 6 = g6 := rfl
    have hA7 : stA (stA A 6 g6) 7 g7 7 = g7 := rfl
    generalize hv' : A 0 (540 + 46 * (16 * i + sl i x) + m) = v' at *
    generalize hs : sgo (100 + (c : Int)) (t.take m) = s at *
    obtain ⟨ins, li, lo⟩ := s
    simp only at e6 e7 ih hl2 ⊢
    refine pm_go_on [32] 60 ?_
    set_option maxRecDepth 100000 in simp (maxSteps := 2000000) only [pm_x_run, pm_x_rt, pm_x_rf, pm_z_S, pm_z_D, pm_z_cut0, pm_z_cut1, pm_z_cli, pm_z_clr, pm_z_cln, pm_z_cll, pm_z_up, pm_x_aload0, pm_x_c, pm_x_c2, pm_x_cn0, pm_x_cn1, pm_x_getf, pm_x_gf, pm_x_goto, pm_x_gv, pm_x_ia, pm_x_iald, pm_x_iast, pm_x_icmp_ge, pm_x_icmp_ne, pm_x_if_eq, pm_x_if_ne, pm_x_iinc5, pm_x_iinc6, pm_x_iinc8, pm_x_iload1, pm_x_iload2, pm_x_iload3, pm_x_iload4, pm_x_iload5, pm_x_iload6, pm_x_iload7, pm_x_iload8, pm_x_iload9, pm_x_invs, pm_x_invv, pm_x_is, pm_x_istore3, pm_x_istore4, pm_x_istore5, pm_x_istore6, pm_x_istore7, pm_x_istore8, pm_x_istore9, pm_x_v0, pm_x_v1, pm_x_x2, pm_z_bipush, pm_z_cat0, pm_z_cati, pm_z_catl, pm_z_catr, pm_z_iadd, pm_z_iconst, pm_z_pop0, pm_z_pop1, pm_z_rcv0, pm_z_vret, zX5_splits_B, zX5_splits_F, zX5_splits_R, zX5_splits_X, zX5_splits_C69, zX5_splits_C80, zX5_splits_C83, zX5_splits_C76, zX5_splits_C94, zX5_splits_C90, fX5_7, fX5_33, fX5_36, dX5_splits_0, dX5_splits_1, dX5_splits_2, dX5_splits_3, dX5_splits_4, dX5_splits_5, dX5_splits_8, dX5_splits_11, dX5_splits_12, dX5_splits_13, dX5_splits_14, dX5_splits_15, dX5_splits_18, dX5_splits_20, dX5_splits_21, dX5_splits_23, dX5_splits_24, dX5_splits_26, dX5_splits_27, dX5_splits_29, dX5_splits_30, dX5_splits_32, dX5_splits_34, dX5_splits_36, dX5_splits_39, dX5_splits_40, dX5_splits_43, dX5_splits_44, dX5_splits_45, dX5_splits_47, dX5_splits_50, dX5_splits_51, dX5_splits_53, dX5_splits_55, dX5_splits_57, dX5_splits_58, dX5_splits_59, dX5_splits_62, dX5_splits_64, dX5_splits_67, dX5_splits_68, dX5_splits_71, dX5_splits_72, dX5_splits_74, dX5_splits_77, dX5_splits_79, dX5_splits_82, dX5_splits_83, dX5_splits_86, dX5_splits_88, dX5_splits_90, dX5_splits_91, dX5_splits_94, dX5_splits_97, dX5_splits_98, dX5_splits_101, dX5_splits_103, dX5_splits_105, dX5_splits_106, dX5_splits_109, dX5_splits_112, dX5_splits_115, dX5_splits_116, dX5_splits_117, dX5_splits_118, dX5_splits_121, dX5_splits_123, dX5_splits_126, dX5_splits_127, dX5_splits_130, dX5_splits_131, dX5_splits_133, dX5_splits_136, dX5_splits_137, dX5_splits_138, dX5_splits_139, dX5_splits_142, dX5_splits_144, dX5_splits_147, dX5_splits_148, dX5_splits_151, dX5_splits_152, dX5_splits_154, dX5_splits_157, Bool.cond_true, Bool.cond_false, Bool.or_false, Bool.false_or, Bool.true_or, Bool.or_true, true_and, and_true, if_true, if_false, List.length_cons, List.length_nil, List.getElem?_cons_zero, List.getElem?_cons_succ, List.set_cons_zero, List.set_cons_succ, Option.toList_some, Option.toList_none, List.cons_append, List.nil_append, beq_self_eq_true, Option.isSome_some, Option.isSome_none, pm_tg_lit, ite_true, ite_false, Nat.reduceAdd, Nat.reduceBEq, Nat.reduceLT, Nat.reduceLeDiff, Nat.reduceEqDiff, Int.reduceAdd, Int.reduceSub, Int.reduceLE, Int.reduceLT, Int.reduceEq, Int.reduceToNat, Int.reduceNeg, Int.cast_ofNat_Int, Int.reduceNatCast, Int.reduceNatCast', Int.zero_add, Int.add_zero, Nat.zero_add, Nat.add_zero, and_self, decide_true, decide_false, true_or, or_true, or_false, false_or, eq_self, Int.toNat_natCast, b2_e0, b2_e1, b2_ok, b2_w, b2_v, b2_tt, b2_ff, Bool.true_eq_false, Bool.false_eq_true, Option.some.injEq, Int.one_mul, Int.mul_one, not_true_eq_false, not_false_eq_true, ite_not, decide_eq_false_iff_not, decide_eq_true_eq, Int.reduceMul, Int.reduceMod, mq0 h3, mq1 h3, mq2 h3, mq3 h3, mq4 h3, mq5 h3, mq6 h3, mq7 h3, mq8 h3, mq9 h3, mq10 h3, mq11 h3, mq12 h3, mq13 h3, pm_z_rcv1 (mq0 h3), hA0, hA6, hA7, hv', q_placeOf hi t1 (show m ≤ 46 by omega)]
    rw [if_pos (by omega)]
    refine ⟨by omega, by omega, ?_⟩
    by_cases ev : v' = 100 + (c : Int)
    · rw [if_pos ev]
      simp only [if_pos ev] at ih
      cases ins
      · simp only [if_true]
        exact ⟨by omega, ih _ _ ⟨_, rfl, g6, g7, h3, fr3, e6, e7⟩⟩
      · simp only [Bool.true_eq_false, if_false]
        exact ⟨by omega, ih _ _ ⟨_, rfl, g6, g7, h3, fr3, e6, e7⟩⟩
    · rw [if_neg ev]
      simp only [if_neg ev] at ih
      cases ins
      · simp only [if_true]
        simp only [Bool.false_eq_true, if_false] at ih
        refine ⟨by omega, by omega, by omega, ih _ _ ⟨some (.inl v'), ?_, g6, pm_us g7 lo.length v', ?_, rfr_tr fr3 (rfr_up (by omega) (by omega)), e6, ?_⟩⟩
        · simp only [List.length_append, List.length_singleton]
          rfl
        · have h4 := rm_arr h3 (j := 7) (by omega) (pm_us g7 lo.length v') rfl
          rw [stA_st] at h4
          exact h4
        · simp only [List.length_append, List.length_singleton]
          rw [fl_us, e7]
      · simp only [Bool.true_eq_false, if_false]
        simp only [if_true] at ih
        refine ⟨by omega, by omega, by omega, ih _ _ ⟨some (.inl v'), ?_, pm_us g6 li.length v', g7, ?_, rfr_tr fr3 (rfr_up (by omega) (by omega)), ?_, e7⟩⟩
        · simp only [List.length_append, List.length_singleton]
          rfl
        · have h4 := rm_arr h3 (j := 6) (by omega) (pm_us g6 li.length v') rfl
          have e9 : stA (stA (stA A 6 g6) 7 g7) 6 (pm_us g6 li.length v') = stA (stA A 6 (pm_us g6 li.length v')) 7 g7 := by
            funext j
            unfold stA
            by_cases z : j = 6
            · subst z; rfl
            · rw [if_neg z, if_neg z, if_neg z]
          rw [e9] at h4
          exact h4
        · simp only [List.length_append, List.length_singleton]
          rw [fl_us, e6]
  · obtain ⟨w, rfl, g6, g7, h3, fr3, e6, e7⟩ := hJ
    have hl2 := sgo_len (100 + (c : Int)) t
    rw [hsg] at hl2
    simp only at hl2
    rw [List.take_of_length_le (by omega), hsg] at e6 e7 ⊢
    simp only at e6 e7 ⊢
    have r7 : f' (b + 8) = some (.inl (46, g7)) := mq8 h3
    have d1 := mnL_in okO hv mv
    have d2 := mnL_in okI hu mu
    refine pm_go_on [32] 60 ?_
    set_option maxRecDepth 100000 in simp (maxSteps := 2000000) only [pm_x_run, pm_x_rt, pm_x_rf, pm_z_S, pm_z_D, pm_z_cut0, pm_z_cut1, pm_z_cli, pm_z_clr, pm_z_cln, pm_z_cll, pm_z_up, pm_x_aload0, pm_x_c, pm_x_c2, pm_x_cn0, pm_x_cn1, pm_x_getf, pm_x_gf, pm_x_goto, pm_x_gv, pm_x_ia, pm_x_iald, pm_x_iast, pm_x_icmp_ge, pm_x_icmp_ne, pm_x_if_eq, pm_x_if_ne, pm_x_iinc5, pm_x_iinc6, pm_x_iinc8, pm_x_iload1, pm_x_iload2, pm_x_iload3, pm_x_iload4, pm_x_iload5, pm_x_iload6, pm_x_iload7, pm_x_iload8, pm_x_iload9, pm_x_invs, pm_x_invv, pm_x_is, pm_x_istore3, pm_x_istore4, pm_x_istore5, pm_x_istore6, pm_x_istore7, pm_x_istore8, pm_x_istore9, pm_x_v0, pm_x_v1, pm_x_x2, pm_z_bipush, pm_z_cat0, pm_z_cati, pm_z_catl, pm_z_catr, pm_z_iadd, pm_z_iconst, pm_z_pop0, pm_z_pop1, pm_z_rcv0, pm_z_vret, zX5_splits_B, zX5_splits_F, zX5_splits_R, zX5_splits_X, zX5_splits_C69, zX5_splits_C80, zX5_splits_C83, zX5_splits_C76, zX5_splits_C94, zX5_splits_C90, fX5_7, fX5_33, fX5_36, dX5_splits_0, dX5_splits_1, dX5_splits_2, dX5_splits_3, dX5_splits_4, dX5_splits_5, dX5_splits_8, dX5_splits_11, dX5_splits_12, dX5_splits_13, dX5_splits_14, dX5_splits_15, dX5_splits_18, dX5_splits_20, dX5_splits_21, dX5_splits_23, dX5_splits_24, dX5_splits_26, dX5_splits_27, dX5_splits_29, dX5_splits_30, dX5_splits_32, dX5_splits_34, dX5_splits_36, dX5_splits_39, dX5_splits_40, dX5_splits_43, dX5_splits_44, dX5_splits_45, dX5_splits_47, dX5_splits_50, dX5_splits_51, dX5_splits_53, dX5_splits_55, dX5_splits_57, dX5_splits_58, dX5_splits_59, dX5_splits_62, dX5_splits_64, dX5_splits_67, dX5_splits_68, dX5_splits_71, dX5_splits_72, dX5_splits_74, dX5_splits_77, dX5_splits_79, dX5_splits_82, dX5_splits_83, dX5_splits_86, dX5_splits_88, dX5_splits_90, dX5_splits_91, dX5_splits_94, dX5_splits_97, dX5_splits_98, dX5_splits_101, dX5_splits_103, dX5_splits_105, dX5_splits_106, dX5_splits_109, dX5_splits_112, dX5_splits_115, dX5_splits_116, dX5_splits_117, dX5_splits_118, dX5_splits_121, dX5_splits_123, dX5_splits_126, dX5_splits_127, dX5_splits_130, dX5_splits_131, dX5_splits_133, dX5_splits_136, dX5_splits_137, dX5_splits_138, dX5_splits_139, dX5_splits_142, dX5_splits_144, dX5_splits_147, dX5_splits_148, dX5_splits_151, dX5_splits_152, dX5_splits_154, dX5_splits_157, Bool.cond_true, Bool.cond_false, Bool.or_false, Bool.false_or, Bool.true_or, Bool.or_true, true_and, and_true, if_true, if_false, List.length_cons, List.length_nil, List.getElem?_cons_zero, List.getElem?_cons_succ, List.set_cons_zero, List.set_cons_succ, Option.toList_some, Option.toList_none, List.cons_append, List.nil_append, beq_self_eq_true, Option.isSome_some, Option.isSome_none, pm_tg_lit, ite_true, ite_false, Nat.reduceAdd, Nat.reduceBEq, Nat.reduceLT, Nat.reduceLeDiff, Nat.reduceEqDiff, Int.reduceAdd, Int.reduceSub, Int.reduceLE, Int.reduceLT, Int.reduceEq, Int.reduceToNat, Int.reduceNeg, Int.cast_ofNat_Int, Int.reduceNatCast, Int.reduceNatCast', Int.zero_add, Int.add_zero, Nat.zero_add, Nat.add_zero, and_self, decide_true, decide_false, true_or, or_true, or_false, false_or, eq_self, Int.toNat_natCast, b2_e0, b2_e1, b2_ok, b2_w, b2_v, b2_tt, b2_ff, Bool.true_eq_false, Bool.false_eq_true, Option.some.injEq, Int.one_mul, Int.mul_one, not_true_eq_false, not_false_eq_true, ite_not, decide_eq_false_iff_not, decide_eq_true_eq, Int.reduceMul, Int.reduceMod, mq0 h3, mq1 h3, mq2 h3, mq3 h3, mq4 h3, mq5 h3, mq6 h3, mq7 h3, mq8 h3, mq9 h3, mq10 h3, mq11 h3, mq12 h3, mq13 h3, pm_z_rcv1 (mq0 h3)]
    rw [if_neg (by omega)]
    refine slotIn_r r7 (by omega) (by rw [e7]; exact okO) ?_
    set_option maxRecDepth 100000 in simp (maxSteps := 2000000) only [pm_x_run, pm_x_rt, pm_x_rf, pm_z_S, pm_z_D, pm_z_cut0, pm_z_cut1, pm_z_cli, pm_z_clr, pm_z_cln, pm_z_cll, pm_z_up, pm_x_aload0, pm_x_c, pm_x_c2, pm_x_cn0, pm_x_cn1, pm_x_getf, pm_x_gf, pm_x_goto, pm_x_gv, pm_x_ia, pm_x_iald, pm_x_iast, pm_x_icmp_ge, pm_x_icmp_ne, pm_x_if_eq, pm_x_if_ne, pm_x_iinc5, pm_x_iinc6, pm_x_iinc8, pm_x_iload1, pm_x_iload2, pm_x_iload3, pm_x_iload4, pm_x_iload5, pm_x_iload6, pm_x_iload7, pm_x_iload8, pm_x_iload9, pm_x_invs, pm_x_invv, pm_x_is, pm_x_istore3, pm_x_istore4, pm_x_istore5, pm_x_istore6, pm_x_istore7, pm_x_istore8, pm_x_istore9, pm_x_v0, pm_x_v1, pm_x_x2, pm_z_bipush, pm_z_cat0, pm_z_cati, pm_z_catl, pm_z_catr, pm_z_iadd, pm_z_iconst, pm_z_pop0, pm_z_pop1, pm_z_rcv0, pm_z_vret, zX5_splits_B, zX5_splits_F, zX5_splits_R, zX5_splits_X, zX5_splits_C69, zX5_splits_C80, zX5_splits_C83, zX5_splits_C76, zX5_splits_C94, zX5_splits_C90, fX5_7, fX5_33, fX5_36, dX5_splits_0, dX5_splits_1, dX5_splits_2, dX5_splits_3, dX5_splits_4, dX5_splits_5, dX5_splits_8, dX5_splits_11, dX5_splits_12, dX5_splits_13, dX5_splits_14, dX5_splits_15, dX5_splits_18, dX5_splits_20, dX5_splits_21, dX5_splits_23, dX5_splits_24, dX5_splits_26, dX5_splits_27, dX5_splits_29, dX5_splits_30, dX5_splits_32, dX5_splits_34, dX5_splits_36, dX5_splits_39, dX5_splits_40, dX5_splits_43, dX5_splits_44, dX5_splits_45, dX5_splits_47, dX5_splits_50, dX5_splits_51, dX5_splits_53, dX5_splits_55, dX5_splits_57, dX5_splits_58, dX5_splits_59, dX5_splits_62, dX5_splits_64, dX5_splits_67, dX5_splits_68, dX5_splits_71, dX5_splits_72, dX5_splits_74, dX5_splits_77, dX5_splits_79, dX5_splits_82, dX5_splits_83, dX5_splits_86, dX5_splits_88, dX5_splits_90, dX5_splits_91, dX5_splits_94, dX5_splits_97, dX5_splits_98, dX5_splits_101, dX5_splits_103, dX5_splits_105, dX5_splits_106, dX5_splits_109, dX5_splits_112, dX5_splits_115, dX5_splits_116, dX5_splits_117, dX5_splits_118, dX5_splits_121, dX5_splits_123, dX5_splits_126, dX5_splits_127, dX5_splits_130, dX5_splits_131, dX5_splits_133, dX5_splits_136, dX5_splits_137, dX5_splits_138, dX5_splits_139, dX5_splits_142, dX5_splits_144, dX5_splits_147, dX5_splits_148, dX5_splits_151, dX5_splits_152, dX5_splits_154, dX5_splits_157, Bool.cond_true, Bool.cond_false, Bool.or_false, Bool.false_or, Bool.true_or, Bool.or_true, true_and, and_true, if_true, if_false, List.length_cons, List.length_nil, List.getElem?_cons_zero, List.getElem?_cons_succ, List.set_cons_zero, List.set_cons_succ, Option.toList_some, Option.toList_none, List.cons_append, List.nil_append, beq_self_eq_true, Option.isSome_some, Option.isSome_none, pm_tg_lit, ite_true, ite_false, Nat.reduceAdd, Nat.reduceBEq, Nat.reduceLT, Nat.reduceLeDiff, Nat.reduceEqDiff, Int.reduceAdd, Int.reduceSub, Int.reduceLE, Int.reduceLT, Int.reduceEq, Int.reduceToNat, Int.reduceNeg, Int.cast_ofNat_Int, Int.reduceNatCast, Int.reduceNatCast', Int.zero_add, Int.add_zero, Nat.zero_add, Nat.add_zero, and_self, decide_true, decide_false, true_or, or_true, or_false, false_or, eq_self, Int.toNat_natCast, b2_e0, b2_e1, b2_ok, b2_w, b2_v, b2_tt, b2_ff, Bool.true_eq_false, Bool.false_eq_true, Option.some.injEq, Int.one_mul, Int.mul_one, not_true_eq_false, not_false_eq_true, ite_not, decide_eq_false_iff_not, decide_eq_true_eq, Int.reduceMul, Int.reduceMod, mq0 h3, mq1 h3, mq2 h3, mq3 h3, mq4 h3, mq5 h3, mq6 h3, mq7 h3, mq8 h3, mq9 h3, mq10 h3, mq11 h3, mq12 h3, mq13 h3, pm_z_rcv1 (mq0 h3)]
    rw [e7]
    refine lays_r (j := 7) h3 hi d1.1 (by decide) (by decide) rfl (by omega) (by show okT (fl g7 _); rw [e7]; exact okO) fun f4 h4 fr4 => ?_
    have r6 : f4 (b + 7) = some (.inl (46, g6)) := mq7 h4
    have e8 : stA (stA A 6 g6) 7 g7 7 = g7 := rfl
    have e9 : stA (stA A 6 g6) 7 g7 0 = A 0 := rfl
    rw [e8, e9, e7] at h4
    set_option maxRecDepth 100000 in simp (maxSteps := 2000000) only [pm_x_run, pm_x_rt, pm_x_rf, pm_z_S, pm_z_D, pm_z_cut0, pm_z_cut1, pm_z_cli, pm_z_clr, pm_z_cln, pm_z_cll, pm_z_up, pm_x_aload0, pm_x_c, pm_x_c2, pm_x_cn0, pm_x_cn1, pm_x_getf, pm_x_gf, pm_x_goto, pm_x_gv, pm_x_ia, pm_x_iald, pm_x_iast, pm_x_icmp_ge, pm_x_icmp_ne, pm_x_if_eq, pm_x_if_ne, pm_x_iinc5, pm_x_iinc6, pm_x_iinc8, pm_x_iload1, pm_x_iload2, pm_x_iload3, pm_x_iload4, pm_x_iload5, pm_x_iload6, pm_x_iload7, pm_x_iload8, pm_x_iload9, pm_x_invs, pm_x_invv, pm_x_is, pm_x_istore3, pm_x_istore4, pm_x_istore5, pm_x_istore6, pm_x_istore7, pm_x_istore8, pm_x_istore9, pm_x_v0, pm_x_v1, pm_x_x2, pm_z_bipush, pm_z_cat0, pm_z_cati, pm_z_catl, pm_z_catr, pm_z_iadd, pm_z_iconst, pm_z_pop0, pm_z_pop1, pm_z_rcv0, pm_z_vret, zX5_splits_B, zX5_splits_F, zX5_splits_R, zX5_splits_X, zX5_splits_C69, zX5_splits_C80, zX5_splits_C83, zX5_splits_C76, zX5_splits_C94, zX5_splits_C90, fX5_7, fX5_33, fX5_36, dX5_splits_0, dX5_splits_1, dX5_splits_2, dX5_splits_3, dX5_splits_4, dX5_splits_5, dX5_splits_8, dX5_splits_11, dX5_splits_12, dX5_splits_13, dX5_splits_14, dX5_splits_15, dX5_splits_18, dX5_splits_20, dX5_splits_21, dX5_splits_23, dX5_splits_24, dX5_splits_26, dX5_splits_27, dX5_splits_29, dX5_splits_30, dX5_splits_32, dX5_splits_34, dX5_splits_36, dX5_splits_39, dX5_splits_40, dX5_splits_43, dX5_splits_44, dX5_splits_45, dX5_splits_47, dX5_splits_50, dX5_splits_51, dX5_splits_53, dX5_splits_55, dX5_splits_57, dX5_splits_58, dX5_splits_59, dX5_splits_62, dX5_splits_64, dX5_splits_67, dX5_splits_68, dX5_splits_71, dX5_splits_72, dX5_splits_74, dX5_splits_77, dX5_splits_79, dX5_splits_82, dX5_splits_83, dX5_splits_86, dX5_splits_88, dX5_splits_90, dX5_splits_91, dX5_splits_94, dX5_splits_97, dX5_splits_98, dX5_splits_101, dX5_splits_103, dX5_splits_105, dX5_splits_106, dX5_splits_109, dX5_splits_112, dX5_splits_115, dX5_splits_116, dX5_splits_117, dX5_splits_118, dX5_splits_121, dX5_splits_123, dX5_splits_126, dX5_splits_127, dX5_splits_130, dX5_splits_131, dX5_splits_133, dX5_splits_136, dX5_splits_137, dX5_splits_138, dX5_splits_139, dX5_splits_142, dX5_splits_144, dX5_splits_147, dX5_splits_148, dX5_splits_151, dX5_splits_152, dX5_splits_154, dX5_splits_157, Bool.cond_true, Bool.cond_false, Bool.or_false, Bool.false_or, Bool.true_or, Bool.or_true, true_and, and_true, if_true, if_false, List.length_cons, List.length_nil, List.getElem?_cons_zero, List.getElem?_cons_succ, List.set_cons_zero, List.set_cons_succ, Option.toList_some, Option.toList_none, List.cons_append, List.nil_append, beq_self_eq_true, Option.isSome_some, Option.isSome_none, pm_tg_lit, ite_true, ite_false, Nat.reduceAdd, Nat.reduceBEq, Nat.reduceLT, Nat.reduceLeDiff, Nat.reduceEqDiff, Int.reduceAdd, Int.reduceSub, Int.reduceLE, Int.reduceLT, Int.reduceEq, Int.reduceToNat, Int.reduceNeg, Int.cast_ofNat_Int, Int.reduceNatCast, Int.reduceNatCast', Int.zero_add, Int.add_zero, Nat.zero_add, Nat.add_zero, and_self, decide_true, decide_false, true_or, or_true, or_false, false_or, eq_self, Int.toNat_natCast, b2_e0, b2_e1, b2_ok, b2_w, b2_v, b2_tt, b2_ff, Bool.true_eq_false, Bool.false_eq_true, Option.some.injEq, Int.one_mul, Int.mul_one, not_true_eq_false, not_false_eq_true, ite_not, decide_eq_false_iff_not, decide_eq_true_eq, Int.reduceMul, Int.reduceMod, mq0 h4, mq1 h4, mq2 h4, mq3 h4, mq4 h4, mq5 h4, mq6 h4, mq7 h4, mq8 h4, mq9 h4, mq10 h4, mq11 h4, mq12 h4, mq13 h4, pm_z_rcv1 (mq0 h4)]
    refine slotIn_r r6 (by omega) (by rw [e6]; exact okI) ?_
    set_option maxRecDepth 100000 in simp (maxSteps := 2000000) only [pm_x_run, pm_x_rt, pm_x_rf, pm_z_S, pm_z_D, pm_z_cut0, pm_z_cut1, pm_z_cli, pm_z_clr, pm_z_cln, pm_z_cll, pm_z_up, pm_x_aload0, pm_x_c, pm_x_c2, pm_x_cn0, pm_x_cn1, pm_x_getf, pm_x_gf, pm_x_goto, pm_x_gv, pm_x_ia, pm_x_iald, pm_x_iast, pm_x_icmp_ge, pm_x_icmp_ne, pm_x_if_eq, pm_x_if_ne, pm_x_iinc5, pm_x_iinc6, pm_x_iinc8, pm_x_iload1, pm_x_iload2, pm_x_iload3, pm_x_iload4, pm_x_iload5, pm_x_iload6, pm_x_iload7, pm_x_iload8, pm_x_iload9, pm_x_invs, pm_x_invv, pm_x_is, pm_x_istore3, pm_x_istore4, pm_x_istore5, pm_x_istore6, pm_x_istore7, pm_x_istore8, pm_x_istore9, pm_x_v0, pm_x_v1, pm_x_x2, pm_z_bipush, pm_z_cat0, pm_z_cati, pm_z_catl, pm_z_catr, pm_z_iadd, pm_z_iconst, pm_z_pop0, pm_z_pop1, pm_z_rcv0, pm_z_vret, zX5_splits_B, zX5_splits_F, zX5_splits_R, zX5_splits_X, zX5_splits_C69, zX5_splits_C80, zX5_splits_C83, zX5_splits_C76, zX5_splits_C94, zX5_splits_C90, fX5_7, fX5_33, fX5_36, dX5_splits_0, dX5_splits_1, dX5_splits_2, dX5_splits_3, dX5_splits_4, dX5_splits_5, dX5_splits_8, dX5_splits_11, dX5_splits_12, dX5_splits_13, dX5_splits_14, dX5_splits_15, dX5_splits_18, dX5_splits_20, dX5_splits_21, dX5_splits_23, dX5_splits_24, dX5_splits_26, dX5_splits_27, dX5_splits_29, dX5_splits_30, dX5_splits_32, dX5_splits_34, dX5_splits_36, dX5_splits_39, dX5_splits_40, dX5_splits_43, dX5_splits_44, dX5_splits_45, dX5_splits_47, dX5_splits_50, dX5_splits_51, dX5_splits_53, dX5_splits_55, dX5_splits_57, dX5_splits_58, dX5_splits_59, dX5_splits_62, dX5_splits_64, dX5_splits_67, dX5_splits_68, dX5_splits_71, dX5_splits_72, dX5_splits_74, dX5_splits_77, dX5_splits_79, dX5_splits_82, dX5_splits_83, dX5_splits_86, dX5_splits_88, dX5_splits_90, dX5_splits_91, dX5_splits_94, dX5_splits_97, dX5_splits_98, dX5_splits_101, dX5_splits_103, dX5_splits_105, dX5_splits_106, dX5_splits_109, dX5_splits_112, dX5_splits_115, dX5_splits_116, dX5_splits_117, dX5_splits_118, dX5_splits_121, dX5_splits_123, dX5_splits_126, dX5_splits_127, dX5_splits_130, dX5_splits_131, dX5_splits_133, dX5_splits_136, dX5_splits_137, dX5_splits_138, dX5_splits_139, dX5_splits_142, dX5_splits_144, dX5_splits_147, dX5_splits_148, dX5_splits_151, dX5_splits_152, dX5_splits_154, dX5_splits_157, Bool.cond_true, Bool.cond_false, Bool.or_false, Bool.false_or, Bool.true_or, Bool.or_true, true_and, and_true, if_true, if_false, List.length_cons, List.length_nil, List.getElem?_cons_zero, List.getElem?_cons_succ, List.set_cons_zero, List.set_cons_succ, Option.toList_some, Option.toList_none, List.cons_append, List.nil_append, beq_self_eq_true, Option.isSome_some, Option.isSome_none, pm_tg_lit, ite_true, ite_false, Nat.reduceAdd, Nat.reduceBEq, Nat.reduceLT, Nat.reduceLeDiff, Nat.reduceEqDiff, Int.reduceAdd, Int.reduceSub, Int.reduceLE, Int.reduceLT, Int.reduceEq, Int.reduceToNat, Int.reduceNeg, Int.cast_ofNat_Int, Int.reduceNatCast, Int.reduceNatCast', Int.zero_add, Int.add_zero, Nat.zero_add, Nat.add_zero, and_self, decide_true, decide_false, true_or, or_true, or_false, false_or, eq_self, Int.toNat_natCast, b2_e0, b2_e1, b2_ok, b2_w, b2_v, b2_tt, b2_ff, Bool.true_eq_false, Bool.false_eq_true, Option.some.injEq, Int.one_mul, Int.mul_one, not_true_eq_false, not_false_eq_true, ite_not, decide_eq_false_iff_not, decide_eq_true_eq, Int.reduceMul, Int.reduceMod, mq0 h4, mq1 h4, mq2 h4, mq3 h4, mq4 h4, mq5 h4, mq6 h4, mq7 h4, mq8 h4, mq9 h4, mq10 h4, mq11 h4, mq12 h4, mq13 h4, pm_z_rcv1 (mq0 h4)]
    rw [e6]
    refine lays_r (j := 6) h4 hi d2.1 (by decide) (by decide) rfl (by omega) (by show okT (fl g6 _); rw [e6]; exact okI) fun f5 h5 fr5 => ?_
    set_option maxRecDepth 100000 in simp (maxSteps := 2000000) only [pm_x_run, pm_x_rt, pm_x_rf, pm_z_S, pm_z_D, pm_z_cut0, pm_z_cut1, pm_z_cli, pm_z_clr, pm_z_cln, pm_z_cll, pm_z_up, pm_x_aload0, pm_x_c, pm_x_c2, pm_x_cn0, pm_x_cn1, pm_x_getf, pm_x_gf, pm_x_goto, pm_x_gv, pm_x_ia, pm_x_iald, pm_x_iast, pm_x_icmp_ge, pm_x_icmp_ne, pm_x_if_eq, pm_x_if_ne, pm_x_iinc5, pm_x_iinc6, pm_x_iinc8, pm_x_iload1, pm_x_iload2, pm_x_iload3, pm_x_iload4, pm_x_iload5, pm_x_iload6, pm_x_iload7, pm_x_iload8, pm_x_iload9, pm_x_invs, pm_x_invv, pm_x_is, pm_x_istore3, pm_x_istore4, pm_x_istore5, pm_x_istore6, pm_x_istore7, pm_x_istore8, pm_x_istore9, pm_x_v0, pm_x_v1, pm_x_x2, pm_z_bipush, pm_z_cat0, pm_z_cati, pm_z_catl, pm_z_catr, pm_z_iadd, pm_z_iconst, pm_z_pop0, pm_z_pop1, pm_z_rcv0, pm_z_vret, zX5_splits_B, zX5_splits_F, zX5_splits_R, zX5_splits_X, zX5_splits_C69, zX5_splits_C80, zX5_splits_C83, zX5_splits_C76, zX5_splits_C94, zX5_splits_C90, fX5_7, fX5_33, fX5_36, dX5_splits_0, dX5_splits_1, dX5_splits_2, dX5_splits_3, dX5_splits_4, dX5_splits_5, dX5_splits_8, dX5_splits_11, dX5_splits_12, dX5_splits_13, dX5_splits_14, dX5_splits_15, dX5_splits_18, dX5_splits_20, dX5_splits_21, dX5_splits_23, dX5_splits_24, dX5_splits_26, dX5_splits_27, dX5_splits_29, dX5_splits_30, dX5_splits_32, dX5_splits_34, dX5_splits_36, dX5_splits_39, dX5_splits_40, dX5_splits_43, dX5_splits_44, dX5_splits_45, dX5_splits_47, dX5_splits_50, dX5_splits_51, dX5_splits_53, dX5_splits_55, dX5_splits_57, dX5_splits_58, dX5_splits_59, dX5_splits_62, dX5_splits_64, dX5_splits_67, dX5_splits_68, dX5_splits_71, dX5_splits_72, dX5_splits_74, dX5_splits_77, dX5_splits_79, dX5_splits_82, dX5_splits_83, dX5_splits_86, dX5_splits_88, dX5_splits_90, dX5_splits_91, dX5_splits_94, dX5_splits_97, dX5_splits_98, dX5_splits_101, dX5_splits_103, dX5_splits_105, dX5_splits_106, dX5_splits_109, dX5_splits_112, dX5_splits_115, dX5_splits_116, dX5_splits_117, dX5_splits_118, dX5_splits_121, dX5_splits_123, dX5_splits_126, dX5_splits_127, dX5_splits_130, dX5_splits_131, dX5_splits_133, dX5_splits_136, dX5_splits_137, dX5_splits_138, dX5_splits_139, dX5_splits_142, dX5_splits_144, dX5_splits_147, dX5_splits_148, dX5_splits_151, dX5_splits_152, dX5_splits_154, dX5_splits_157, Bool.cond_true, Bool.cond_false, Bool.or_false, Bool.false_or, Bool.true_or, Bool.or_true, true_and, and_true, if_true, if_false, List.length_cons, List.length_nil, List.getElem?_cons_zero, List.getElem?_cons_succ, List.set_cons_zero, List.set_cons_succ, Option.toList_some, Option.toList_none, List.cons_append, List.nil_append, beq_self_eq_true, Option.isSome_some, Option.isSome_none, pm_tg_lit, ite_true, ite_false, Nat.reduceAdd, Nat.reduceBEq, Nat.reduceLT, Nat.reduceLeDiff, Nat.reduceEqDiff, Int.reduceAdd, Int.reduceSub, Int.reduceLE, Int.reduceLT, Int.reduceEq, Int.reduceToNat, Int.reduceNeg, Int.cast_ofNat_Int, Int.reduceNatCast, Int.reduceNatCast', Int.zero_add, Int.add_zero, Nat.zero_add, Nat.add_zero, and_self, decide_true, decide_false, true_or, or_true, or_false, false_or, eq_self, Int.toNat_natCast, b2_e0, b2_e1, b2_ok, b2_w, b2_v, b2_tt, b2_ff, Bool.true_eq_false, Bool.false_eq_true, Option.some.injEq, Int.one_mul, Int.mul_one, not_true_eq_false, not_false_eq_true, ite_not, decide_eq_false_iff_not, decide_eq_true_eq, Int.reduceMul, Int.reduceMod, mq0 h5, mq1 h5, mq2 h5, mq3 h5, mq4 h5, mq5 h5, mq6 h5, mq7 h5, mq8 h5, mq9 h5, mq10 h5, mq11 h5, mq12 h5, mq13 h5, pm_z_rcv1 (mq0 h5)]
    refine hk f5 _ ⟨h5, lyS (lyS sl i (mnL (outL t (100 + (c : Int)))) (outL t (100 + (c : Int)))) i (mnL (inL t (100 + (c : Int)))) (inL t (100 + (c : Int))), ?_⟩ (rs_A (rfr_tr fr3 (rfr_tr fr4 fr5)) (fun j j0 j6 j7 => ?_))
    · rw [ht] at d1 d2
      have z := hrr _ _ d1.1 d2.1 d1.2 d2.2
      rw [← ht] at z
      rw [stA_eq, stA_eq]
      show rr (lyM _ i _ _ (fl g6 _)) _ _
      rw [e6]
      exact z
    · unfold stA
      rw [if_neg j0, if_neg j0, if_neg j7, if_neg j6]
end SP
