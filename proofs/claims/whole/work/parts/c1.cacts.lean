section CAX
variable {f f' : pm_H} {a c : Nat} {g : Nat → Option Nat} {o : Nat → Nat} {V : Nat → Int} {L : Nat → Nat → Int} {B M T : Nat → Int} {x : xs} {N : nt} {k : pm_P} {PX : pm_PX}
/-- SWAP may be: the class's question is the reference's -/
theorem canEx_c (h : ck f a N) (iv : INV N) {p q : Int} (hk1 : swOK N p q → k (some (.inl (b2 true))) f) (hk0 : ¬ swOK N p q → k (some (.inl (b2 false))) f) : pm_ex T_X1_canExchange [.inr (.inl (some a)), .inl p, .inl q] f k := by
  obtain ⟨A, R, U, S, hn, hl, ht⟩ := id h
  have o' := INV_ok iv
  have b0 := okn o'
  have b1 := okl o'
  have s2 := hl.1.2.2.1
  by_cases h1 : 0 ≤ p ∧ p < S 2 ∧ 0 ≤ q ∧ q < S 2 ∧ A 4 p.toNat = 0 ∧ A 4 q.toNat = 1 ∧ A 3 p.toNat = 0 ∧ A 3 q.toNat = 0
  · obtain ⟨p0, p1, q0, q1, e1, e2, e3, e4⟩ := h1
    rw [s2] at p1 q1
    obtain ⟨u, hu, rfl⟩ := ip ⟨p0, p1⟩
    obtain ⟨v, hv, rfl⟩ := ip ⟨q0, q1⟩
    rw [Int.toNat_natCast] at e1 e2 e3 e4
    have cu := ckA hl hu
    have cv := ckA hl hv
    have ou := o'.2.1 u hu
    have ov := o'.2.1 v hv
    have tu : cN N 2 u = 0 := by have := cu.2.2.2.2.1; omega
    have tv : cN N 2 v = 1 := by have := cv.2.2.2.2.1; omega
    have lu : cN N 3 u = 0 := by have := cu.2.2.2.1; omega
    have lv : cN N 3 v = 0 := by have := cv.2.2.2.1; omega
    have fl := iv.2.1 0 (by omega)
    have tcu : tcs N 0 u := ⟨hu, tu, Nat.zero_le _⟩
    have mu := (fl.2.2.1 u tcu).2
    have gt := (fl.1 (cN N 0 u) (by omega)).2.1
    have c2 := (gt.2.1 u mu).1
    refine canExchange_yes (c := u) (d := v) (p := cN N 0 v) (q := cN N 1 v) hn (by rw [s2]; omega) (bs_31 (tn (inL (tN N 0 (cN N 0 u)) (100 + (u : Int)))) (by omega : 16 ≤ 30)) (by rw [s2]; omega) (by rw [s2]; omega) ⟨e1, e2, e3, e4⟩ cv.1 cv.2.1 (by omega) (by omega) (fun q hq => insideOf_c hn ht iv (by omega) ou.1 mu hq) ?_
    rw [bs_bit, bs_bit, decide_eq_true (show cN N 0 v < 16 by omega), decide_eq_true (show cN N 1 v < 16 by omega), Bool.true_and, Bool.true_and]
    have x0 := gT_ex (n := cN N 0 v) gt mu (by omega)
    have x1 := gT_ex (n := cN N 1 v) gt mu (by omega)
    have sp := iv.2.2.2 v hv tv
    unfold sp1 at sp
    rw [lv] at sp
    -- both ends of the spare one hang together
    have tog : (cN N 0 v : Int) ∈ tN N 0 (cN N 0 u) ↔ (cN N 1 v : Int) ∈ tN N 0 (cN N 0 u) := by
      have e9 := (fl.1 (cN N 0 v) (by omega)).2.2.2.1 (cN N 1 v) (by omega) sp
      have s0 := (fl.1 (cN N 0 v) (by omega)).2.2.1
      constructor
      · intro z
        have e8 := (fl.1 (cN N 0 u) (by omega)).2.2.2.1 (cN N 0 v) (by omega) z
        rw [← e8]; exact sp
      · intro z
        have e8 := (fl.1 (cN N 0 u) (by omega)).2.2.2.1 (cN N 1 v) (by omega) z
        rw [← e8, e9]; exact s0
    have i0 := io_mem (v := (cN N 0 v : Int)) c2 (by omega)
    have i1 := io_mem (v := (cN N 1 v : Int)) c2 (by omega)
    have sw : swOK N (u : Int) (v : Int) ↔ sepN N u v := by
      unfold swOK
      rw [trI_n hu, thI_n hv, trI_n hv, Int.toNat_natCast, Int.toNat_natCast]
      constructor
      · exact fun z => z.2.2.2.2.2
      · exact fun z => ⟨decide_eq_true tu, decide_eq_true (by omega), decide_eq_false (by omega), lu, lv, z⟩
    unfold tn
    by_cases a0 : (cN N 0 v : Int) ∈ inL (tN N 0 (cN N 0 u)) (100 + (u : Int))
    · rw [decide_eq_true a0]
      by_cases a1 : (cN N 1 v : Int) ∈ inL (tN N 0 (cN N 0 u)) (100 + (u : Int))
      · rw [decide_eq_true a1]
        refine hk0 fun z => ?_
        rcases sw.mp z with w | w
        · exact x1 ⟨a1, w.2⟩
        · exact x0 ⟨a0, w.1⟩
      · rw [decide_eq_false a1]
        have m1 := tog.mp (i0.mpr (Or.inl a0))
        exact hk1 (sw.mpr (Or.inl ⟨a0, (i1.mp m1).resolve_left a1⟩))
    · rw [decide_eq_false a0]
      by_cases a1 : (cN N 1 v : Int) ∈ inL (tN N 0 (cN N 0 u)) (100 + (u : Int))
      · rw [decide_eq_true a1]
        have m1 := tog.mpr (i1.mpr (Or.inl a1))
        exact hk1 (sw.mpr (Or.inr ⟨(i0.mp m1).resolve_left a0, a1⟩))
      · rw [decide_eq_false a1]
        refine hk0 fun z => ?_
        rcases sw.mp z with w | w
        · exact a0 w.1
        · exact a1 w.2
  · refine canExchange_no hn (by rw [s2]; omega) (hk0 fun z => h1 ?_) h1
    obtain ⟨z1, z2, z3, z4, z5, z6⟩ := z
    obtain ⟨u, hu, rfl, tu⟩ := trI_ex z1
    obtain ⟨v, hv, rfl, tv⟩ := thI_ex z2
    rw [Int.toNat_natCast] at z4 z5 ⊢
    rw [Int.toNat_natCast]
    have cu := ckA hl hu
    have cv := ckA hl hv
    have tv2 : cN N 2 v ≠ 0 := fun e => by rw [trI_n hv, trN, decide_eq_true e] at z3; cases z3
    have ov := (o'.2.1 v hv).2.2.2.1
    rw [cu.2.2.2.2.1, cv.2.2.2.2.1, cu.2.2.2.1, cv.2.2.2.1, s2]
    omega
theorem refusal_c (h : ck f a N) (iv : INV N) {t : Nat} (ht : t < 7) {p q : Int} (hk : k (some (.inl (cod N t p q : Int))) f) : pm_ex T_X1_refusal [.inr (.inl (some a)), .inl (t : Int), .inl p, .inl q] f k := by
  obtain ⟨A, R, U, S, hn, hl, htt⟩ := id h
  have o' := INV_ok iv
  have b0 := okn o'
  have b1 := okl o'
  have s0 := hl.1.1
  have s2 := hl.1.2.2.1
  have th : (if 0 ≤ p ∧ p < S 2 ∧ A 4 p.toNat ≠ 2 then (0 : Int) else 4) = ((if thI N p = true then 0 else 4 : Nat) : Int) := by
    rw [s2]
    by_cases c1 : thI N p = true
    · rw [if_pos c1]
      obtain ⟨u, hu, rfl, tu⟩ := thI_ex c1
      have cu := ckA hl hu
      rw [Int.toNat_natCast, cu.2.2.2.2.1, if_pos (by omega)]; rfl
    · rw [if_neg c1, if_neg]
      · rfl
      · rintro ⟨z1, z2, z3⟩
        obtain ⟨u, hu, rfl⟩ := ip ⟨z1, z2⟩
        have cu := ckA hl hu
        rw [Int.toNat_natCast, cu.2.2.2.2.1] at z3
        exact c1 (by rw [thI_n hu]; exact decide_eq_true (by omega))
  match t, ht, hk with
  | 0, _, hk => exact refusal_net hk
  | 1, _, hk =>
    refine refusal_lay hn ?_
    have e : (if ¬ (0 ≤ p ∧ p < S 0) ∨ ¬ (0 ≤ q ∧ q < S 0) then (1 : Int) else if p = q then 2 else if S 2 < 60 then 0 else 3) = (layC N p q : Int) := by
      rw [s0, s2]
      unfold layC
      by_cases c1 : ¬ (0 ≤ p ∧ p < (nN N : Int)) ∨ ¬ (0 ≤ q ∧ q < (nN N : Int))
      · rw [if_pos c1, if_pos c1]; rfl
      · rw [if_neg c1, if_neg c1]
        by_cases c2 : p = q
        · rw [if_pos c2, if_pos c2]; rfl
        · rw [if_neg c2, if_neg c2]
          by_cases c3 : ldN N < 60
          · rw [if_pos (by omega), if_pos c3]; rfl
          · rw [if_neg (by omega), if_neg c3]; rfl
    rw [e]
    exact hk
  | 2, _, hk =>
    refine refusal_lift hn (by rw [s2]; omega) ?_
    rw [th]; exact hk
  | 3, _, hk =>
    rw [cod3] at hk
    by_cases sw : swOK N p q
    · rw [swC_0 sw] at hk
      exact refusal_swap (b := true) hn (fun q hq => canEx_c h iv (fun _ => hq) (fun z => absurd sw z)) hk
    · rw [swC_5 sw] at hk
      exact refusal_swap (b := false) hn (fun q hq => canEx_c h iv (fun z => absurd z sw) (fun _ => hq)) hk
  | 4, _, hk =>
    refine refusal_fail hn (by rw [s2]; omega) ?_
    rw [s0]
    rw [cod4] at hk
    by_cases c1 : 0 ≤ p ∧ p < (nN N : Int)
    · rw [if_pos c1]; rw [if_pos c1] at hk; exact hk
    · rw [if_neg c1]; rw [if_neg c1] at hk; exact hk
  | 5, _, hk => exact refusal_tidy hk
  | 6, _, hk =>
    refine refusal_cost hn (by rw [s2]; omega) ?_
    rw [th]; exact hk
def prK (t : Nat) (p q : Int) : Prop := (t = 0 → 2 ≤ p ∧ p ≤ 16) ∧ (t = 6 → 0 ≤ q ∧ q ≤ 99)
theorem prfa0 {u : Nat} {q : Int} : (prf N 0 (u : Int) q).2 = (hgt u 4 : Int) := by
  unfold prf
  rw [if_pos rfl, Int.toNat_natCast]
theorem prfa1 {u v : Int} : (prf N 1 u v).2 = (ldN N : Int) := by
  unfold prf
  rw [if_neg (by omega), if_pos rfl]
theorem prfa2 {u : Nat} {q : Int} : (prf N 2 (u : Int) q).2 = optI (liftN N u).2 := by
  unfold prf
  rw [if_neg (by omega), if_neg (by omega), if_pos rfl, Int.toNat_natCast]
theorem prfa3 {u v : Int} : (prf N 3 u v).2 = (cnt (trN (swpN N u.toNat v.toNat)) (ldN N) : Int) := by
  unfold prf
  rw [if_neg (by omega), if_neg (by omega), if_neg (by omega), if_pos rfl]
theorem prfa4 {u : Nat} {q : Int} : (prf N 4 (u : Int) q).2 = ((flN N u (ldN N)).2 : Int) := by
  unfold prf
  rw [if_neg (by omega), if_neg (by omega), if_neg (by omega), if_neg (by omega), if_pos rfl, Int.toNat_natCast]
theorem prfa5 {u v : Int} : (prf N 5 u v).2 = (tdC N (ldN N) : Int) := by
  unfold prf
  rw [if_neg (by omega), if_neg (by omega), if_neg (by omega), if_neg (by omega), if_neg (by omega), if_pos rfl]
theorem prfa6 {u : Nat} {q : Int} : (prf N 6 (u : Int) q).2 = (cN N 5 u : Int) := by
  unfold prf
  rw [if_neg (by omega), if_neg (by omega), if_neg (by omega), if_neg (by omega), if_neg (by omega), if_neg (by omega), Int.toNat_natCast]
theorem swOK_ex (o' : okB N) {p q : Int} (h : swOK N p q) : ∃ u v : Nat, p = (u : Int) ∧ q = (v : Int) ∧ u < ldN N ∧ v < ldN N ∧ cN N 2 u = 0 ∧ cN N 2 v = 1 ∧ cN N 3 u = 0 ∧ cN N 3 v = 0 ∧ sepN N u v := by
  obtain ⟨z1, z2, z3, z4, z5, z6⟩ := h
  obtain ⟨u, hu, rfl, tu⟩ := trI_ex z1
  obtain ⟨v, hv, rfl, tv⟩ := thI_ex z2
  rw [Int.toNat_natCast] at z4 z6
  rw [Int.toNat_natCast] at z5 z6
  have tv2 : cN N 2 v ≠ 0 := fun e => by rw [trI_n hv, trN, decide_eq_true e] at z3; cases z3
  have ov := (o'.2.1 v hv).2.2.2.1
  exact ⟨u, v, rfl, rfl, hu, hv, tu, by omega, z4, z5, z6⟩
theorem cod2_0 {p q : Int} {t : Nat} (ht : t = 2 ∨ t = 6) (h : cod N t p q = 0) : thI N p = true := by
  by_cases c1 : thI N p = true
  · exact c1
  · rcases ht with rfl | rfl
    · rw [cod2, if_neg c1] at h; cases h
    · rw [cod6, if_neg c1] at h; cases h
theorem cod4_0 {p q : Int} (h : cod N 4 p q = 0) : 0 ≤ p ∧ p < (nN N : Int) := by
  by_cases c1 : 0 ≤ p ∧ p < (nN N : Int)
  · exact c1
  · rw [cod4, if_neg c1] at h; cases h
theorem cod3_0 {p q : Int} (h : cod N 3 p q = 0) : swOK N p q := by
  by_cases c1 : swOK N p q
  · exact c1
  · rw [cod3, swC_5 c1] at h; cases h
/-- what an act needs of room, and leaves -/
def bdA (N : nt) : Prop := riN N + 36000 ≤ 1000000000 ∧ loN N + 36000 ≤ 1000000000
theorem prf_inv (iv : INV N) {t : Nat} (ht : t < 7) {p q : Int} (hc : cod N t p q = 0) (hp : prK t p q) (bd : bdA N) : INV (prf N t p q).1 ∧ riN (prf N t p q).1 ≤ riN N + (if t = 4 then 36000 else 600) ∧ loN (prf N t p q).1 ≤ loN N + (if t = 4 then 36000 else 600) := by
  obtain ⟨b1, b2⟩ := bd
  have o' := INV_ok iv
  match t, ht, hc, hp with
  | 0, _, hc, hp =>
    obtain ⟨u, rfl⟩ : ∃ u : Nat, p = (u : Int) := ⟨p.toNat, by have := hp.1 rfl; omega⟩
    have := hp.1 rfl
    rw [prf0]
    exact ⟨INV_net (by omega) (by omega), Nat.zero_le _, Nat.zero_le _⟩
  | 1, _, hc, hp =>
    obtain ⟨u, v, rfl, rfl, hu, hv, huv, hl⟩ := layC_0 (show layC N p q = 0 from hc)
    rw [prf1]
    have e : riN (layN N u v) = riN N ∧ loN (layN N u v) = loN N := by unfold layN; split <;> exact ⟨rfl, rfl⟩
    rw [e.1, e.2]
    exact ⟨INV_lay iv hu hv huv hl, Nat.le_add_right _ _, Nat.le_add_right _ _⟩
  | 2, _, hc, hp =>
    obtain ⟨u, hu, rfl, tu⟩ := thI_ex (cod2_0 (Or.inl rfl) hc)
    rw [prf2]
    have iL := INV_lift iv hu (by omega) (by omega)
    exact ⟨iL.1, by rw [if_neg (by omega)]; exact iL.2.2.2.1, by rw [if_neg (by omega)]; have := iL.2.2.2.2.1; omega⟩
  | 3, _, hc, hp =>
    obtain ⟨u, v, rfl, rfl, hu, hv, tu, tv, lu, lv, sp⟩ := swOK_ex o' (cod3_0 hc)
    rw [prf3, Int.toNat_natCast, Int.toNat_natCast]
    exact ⟨INV_swp iv hu hv tu tv lu lv sp, Nat.le_add_right _ _, Nat.le_add_right _ _⟩
  | 4, _, hc, hp =>
    obtain ⟨u, hu, rfl⟩ := ip (cod4_0 hc)
    rw [prf4]
    have iF := INV_fl iv u (by omega) (by omega) (ldN N) (Nat.le_refl _)
    have := okl o'
    exact ⟨iF.1, by rw [if_pos rfl]; have := iF.2.2.2.1; omega, by rw [if_pos rfl]; have := iF.2.2.2.2.1; omega⟩
  | 5, _, hc, hp =>
    rw [prf5]
    have td := (td_inv iv (ldN N) (Nat.le_refl _)).2.1
    exact ⟨INV_td iv, by rw [td.2.2.1]; exact Nat.le_add_right _ _, by rw [td.2.2.2.1]; exact Nat.le_add_right _ _⟩
  | 6, _, hc, hp =>
    obtain ⟨u, hu, rfl, tu⟩ := thI_ex (cod2_0 (Or.inr rfl) hc)
    have h6 := hp.2 rfl
    obtain ⟨v, rfl⟩ : ∃ v : Nat, q = (v : Int) := ⟨q.toNat, by omega⟩
    rw [prf6]
    exact ⟨INV_cost iv (by omega), Nat.le_add_right _ _, Nat.le_add_right _ _⟩
theorem perform_c (h : ck f a N) (iv : INV N) {t : Nat} (ht : t < 7) {p q : Int} (hc : cod N t p q = 0) (hp : prK t p q) (bd : bdA N) (hk : ∀ f', ck f' a (prf N t p q).1 → cfr a f f' → k (some (.inl (prf N t p q).2)) f') : pm_ex T_X1_perform [.inr (.inl (some a)), .inl (t : Int), .inl p, .inl q] f k := by
  obtain ⟨b1, b2⟩ := bd
  obtain ⟨A, R, U, S, hn, hl, htt⟩ := id h
  have o' := INV_ok iv
  match t, ht, hc, hp, hk with
  | 0, _, hc, hp, hk =>
    have := hp.1 rfl
    obtain ⟨u, rfl⟩ : ∃ u : Nat, p = (u : Int) := ⟨p.toNat, by omega⟩
    rw [prf0, prfa0] at hk
    exact perform_net hn (start_c hn (by omega) fun f' h' r' => ⟨_, rfl, hk f' h' r'⟩)
  | 1, _, hc, hp, hk =>
    obtain ⟨u, v, rfl, rfl, hu, hv, huv, hl⟩ := layC_0 (show layC N p q = 0 from hc)
    rw [prf1, prfa1] at hk
    exact perform_lay hn (addCable_c h iv hu hv huv hl fun f' h' r' => ⟨_, rfl, hk f' h' r'⟩)
  | 2, _, hc, hp, hk =>
    obtain ⟨u, hu, rfl, tu⟩ := thI_ex (cod2_0 (Or.inl rfl) hc)
    rw [prf2, prfa2] at hk
    exact perform_lift hn (takeCable_c h iv hu tu (by omega) (by omega) fun f' h' r' => ⟨_, rfl, hk f' h' r'⟩)
  | 3, _, hc, hp, hk =>
    obtain ⟨u, v, rfl, rfl, hu, hv, tu, tv, lu, lv, sp⟩ := swOK_ex o' (cod3_0 hc)
    rw [prf3, prfa3, Int.toNat_natCast, Int.toNat_natCast] at hk
    exact perform_swap hn (exchange_c h iv hu hv tu tv sp fun f' h' r' => ⟨_, rfl, hk f' h' r'⟩)
  | 4, _, hc, hp, hk =>
    obtain ⟨u, hu, rfl⟩ := ip (cod4_0 hc)
    rw [prf4, prfa4] at hk
    exact perform_fail hn (failNode_c h iv hu (by omega) (by omega) fun f' h' r' => ⟨_, rfl, hk f' h' r'⟩)
  | 5, _, hc, hp, hk =>
    rw [prf5, prfa5] at hk
    exact perform_tidy hn (layAnew_c h iv fun f' h' r' => ⟨_, rfl, hk f' h' r'⟩)
  | 6, _, hc, hp, hk =>
    obtain ⟨u, hu, rfl, tu⟩ := thI_ex (cod2_0 (Or.inr rfl) hc)
    have h6 := hp.2 rfl
    obtain ⟨v, rfl⟩ : ∃ v : Nat, q = (v : Int) := ⟨q.toNat, by omega⟩
    rw [prf6, prfa6] at hk
    exact perform_cost hn (setCost_c h o' hu fun f' h' r' => ⟨_, rfl, hk f' h' r'⟩)
end CAX
