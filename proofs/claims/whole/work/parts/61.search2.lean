section PL
variable {N : nt} {i x y : Nat}
theorem plc_c (N : nt) (k i w d : Nat) : cN (plcN N k i) w d = if w = 2 ∧ d = k then 0 else cN N w d := rfl
theorem plc_t (N : nt) (k i : Nat) : tN (plcN N k i) = plT (tN N) i k (cN N 0 k) (cN N 1 k) := rfl
theorem acr_ne (hf : FA N) {k j : Nat} (hk : cN N 3 k = i) (hi : i < 5) (hj : j ≤ i) (hx : x < 16) (hy : y < 16) (e0 : cN N 0 k < 16) (e1 : cN N 1 k < 16) (ne : ∀ j, j ≤ i → (y : Int) ∉ tN N j x) (ha : acr N k x y) : (cN N 1 k : Int) ∉ tN N j (cN N 0 k) ∧ ∀ v : Int, (v ∈ tN N j (cN N 0 k) ∨ v ∈ tN N j (cN N 1 k)) ↔ (v ∈ tN N j x ∨ v ∈ tN N j y) := by
  have f := hf j (by omega)
  unfold acr at ha
  rw [hk] at ha
  have key : ∀ a b : Nat, a < 16 → b < 16 → (b : Int) ∉ tN N j a → (cN N 0 k : Int) ∈ tN N i a → (cN N 1 k : Int) ∈ tN N i b → (cN N 1 k : Int) ∉ tN N j (cN N 0 k) ∧ tN N j (cN N 0 k) = tN N j a ∧ tN N j (cN N 1 k) = tN N j b := by
    intro a b ha hb hab h0 h1
    have n0 := nested' hf hi hj ha e0 h0
    have n1 := nested' hf hi hj hb e1 h1
    have t0 := (f.1 a ha).2.2.2.1 _ e0 n0
    have t1 := (f.1 b hb).2.2.2.1 _ e1 n1
    refine ⟨fun z => ?_, t0, t1⟩
    rw [t0] at z
    exact FL_apart f ha hb hab _ z n1
  rcases ha with ⟨h0, h1⟩ | ⟨h0, h1⟩
  · obtain ⟨z, t0, t1⟩ := key x y hx hy (ne j hj) h0 h1
    exact ⟨z, fun v => by rw [t0, t1]⟩
  · obtain ⟨z, t0, t1⟩ := key y x hy hx (fun w => ne j hj (FL_sym f hy hx w)) h0 h1
    exact ⟨z, fun v => by rw [t0, t1]; exact or_comm⟩
theorem INV_plc (h : SI N i x y) {k : Nat} (hk : k < ldN N) (ht : cN N 2 k = 1) (hl : cN N 3 k = i) (ha : acr N k x y) : INV (plcN N k i) := by
  obtain ⟨o, hf, lv, xy, ne, sp⟩ := h
  have b := o.1
  have ok := o.2.1 k hk
  have x16 : x < 16 := by omega
  have y16 : y < 16 := by omega
  have a16 : cN N 0 k < 16 := by omega
  have b16 : cN N 1 k < 16 := by omega
  have i5 : i < 5 := by omega
  have an := fun j (hj : j ≤ i) => acr_ne hf hl i5 hj x16 y16 a16 b16 ne ha
  have E0 : cN (plcN N k i) 0 = cN N 0 := by funext d; rw [plc_c, if_neg (by omega)]
  have E1 : cN (plcN N k i) 1 = cN N 1 := by funext d; rw [plc_c, if_neg (by omega)]
  have E3 : cN (plcN N k i) 3 = cN N 3 := by funext d; rw [plc_c, if_neg (by omega)]
  refine ⟨⟨o.1, fun d hd => ?_, o.2.2.1, o.2.2.2.1, lgput_len o.2.2.2.2⟩, fun j hj => ?_, fun c hc => by rw [E3]; exact lv c hc, fun d hd h1 => ?_⟩
  · have a := o.2.1 d hd
    rw [E0, E1, E3]
    refine ⟨a.1, a.2.1, a.2.2.1, ?_, a.2.2.2.2.1, ?_, ?_⟩
    · rw [plc_c]; split <;> omega
    · rw [plc_c, if_neg (by omega)]; exact a.2.2.2.2.2.1
    · rw [plc_c, if_neg (by omega)]; exact a.2.2.2.2.2.2
  · rw [E0, E1, plc_t]
    unfold plT
    by_cases e : j ≤ i
    · rw [if_pos e, jT_eq]
      refine FL_join (K := tcs N j) (hf j hj) rfl rfl a16 b16 (fun z => by have := z.2.1; omega) (by omega) (an j e).1 (fun d => ?_)
      unfold tcs
      rw [E3, plc_c]
      by_cases ed : d = k
      · subst ed
        rw [if_pos ⟨rfl, rfl⟩]
        exact ⟨fun _ => Or.inr rfl, fun _ => ⟨hk, rfl, by omega⟩⟩
      · rw [if_neg (fun q => ed q.2)]
        exact ⟨fun q => Or.inl q, fun q => q.resolve_right ed⟩
    · rw [if_neg e]
      refine FL_K (hf j hj) (fun d => ?_)
      unfold tcs
      rw [E3, plc_c]
      by_cases ed : d = k
      · subst ed
        rw [if_pos ⟨rfl, rfl⟩]
        exact ⟨fun q => by have := q.2.2; omega, fun q => by have := q.2.2; omega⟩
      · rw [if_neg (fun q => ed q.2)]
        exact Iff.rfl
  · have hd2 : d < ldN N := hd
    have ed : d ≠ k := fun e => by
      subst e
      rw [plc_c, if_pos ⟨rfl, rfl⟩] at h1
      omega
    rw [plc_c, if_neg (fun q => ed q.2)] at h1
    have okd := o.2.1 d hd2
    have d16 : cN N 0 d < 16 := by omega
    unfold sp1
    rw [E0, E1, E3, plc_t]
    unfold plT
    by_cases e : cN N 3 d ≤ i
    · rw [if_pos e, jT_eq]
      have f := hf (cN N 3 d) (by omega)
      have mem := jw1_mem (c := k) f a16 b16
      have mem2 : ∀ v : Int, v ∈ tN N (cN N 3 d) x ∨ v ∈ tN N (cN N 3 d) y → v ∈ jw1 (tN N (cN N 3 d)) k (cN N 0 k) (cN N 1 k) := by
        intro v hv
        rw [mem]
        rcases ((an _ e).2 v).mpr hv with z | z
        · exact Or.inl z
        · exact Or.inr (Or.inl z)
      unfold ly1
      rcases sp d hd2 h1 with q | q
      · unfold sp1 at q
        by_cases w : (cN N 0 d : Int) ∈ jw1 (tN N (cN N 3 d)) k (cN N 0 k) (cN N 1 k)
        · rw [if_pos w, mem]
          rcases (mem _).mp w with z | z | z
          · rw [(f.1 _ a16).2.2.2.1 _ d16 z] at q; exact Or.inl q
          · rw [(f.1 _ b16).2.2.2.1 _ d16 z] at q; exact Or.inr (Or.inl q)
          · omega
        · rw [if_neg w]; exact q
      · rcases q.2 with z | z
        · rw [if_pos (mem2 _ (Or.inl z.1))]; exact mem2 _ (Or.inr z.2)
        · rw [if_pos (mem2 _ (Or.inr z.1))]; exact mem2 _ (Or.inl z.2)
    · rw [if_neg e]
      rcases sp d hd2 h1 with q | q
      · exact q
      · exact absurd q.1 e
/-- the second stretch, nothing found yet, up to cable k -/
def nof (N N' : nt) (i x y k : Nat) : Prop := SI N' i x y ∧ alike N N' ∧ tN N' = tN N ∧ riN N' ≤ riN N + k ∧ loN N' ≤ loN N + k ∧ (∀ d, k ≤ d → cN N' 3 d = cN N 3 d) ∧ (∀ d, d < k → cN N 2 d = 1 → cN N' 3 d = i → sp1 N' d)
theorem sr2_inv {p : Nat → Bool} {may : Bool} {z : Nat} (i5 : i < 5) (h : SI N i x y) (hz : z = x ∨ z = y) (hp : ∀ n, n < 16 → (p n = true ↔ (n : Int) ∈ tN N i z)) (hup : may = true → i < hgt (nN N) 4 ∧ ∀ u v : Nat, u < 16 → v < 16 → p u = true → p v = true → (v : Int) ∈ tN N (i + 1) u) (hr : riN N + 60 ≤ 1000000000) (hl : loN N + 60 ≤ 1000000000) :
    ∀ k, k ≤ ldN N → ((sr2 N i p may k).2 = none ∧ nof N (sr2 N i p may k).1 i x y k) ∨ ∃ d, d < k ∧ (sr2 N i p may k).2 = some d ∧ INV (sr2 N i p may k).1 ∧ nN (sr2 N i p may k).1 = nN N ∧ ldN (sr2 N i p may k).1 = ldN N ∧ riN (sr2 N i p may k).1 ≤ riN N + k ∧ loN (sr2 N i p may k).1 ≤ loN N + k ∧ nmN (sr2 N i p may k).1 = nmN N
  | 0, _ => Or.inl ⟨rfl, h, alike_rf, rfl, Nat.le_refl _, Nat.le_refl _, fun _ _ => rfl, fun d hd => by omega⟩
  | k + 1, hk => by
    have b := h.1.1
    have e : sr2 N i p may (k + 1) = if (sr2 N i p may k).2.isSome then sr2 N i p may k else stpB i p may (sr2 N i p may k).1 k := rfl
    rw [e]
    rcases sr2_inv i5 h hz hp hup hr hl k (by omega) with ⟨q, s, al, t1, r1, l1, c1, s1⟩ | ⟨d, hd, q, iv, w1, w2, w3, w4, w5⟩
    · rw [q]
      simp only [Option.isSome_none, Bool.false_eq_true, if_false]
      generalize (sr2 N i p may k).1 = N' at *
      obtain ⟨a1, a2, a3, a4, a5, a6, a7⟩ := id al
      have okk := h.1.2.1 k (by omega)
      have e3 := c1 k (Nat.le_refl _)
      have x16 : x < 16 := by have := h.2.2.2.1; omega
      have y16 : y < 16 := by have := h.2.2.2.1; omega
      have z16 : z < 16 := by rcases hz with e | e <;> omega
      have p0 : ∀ d, d < ldN N → (p (cN N 0 d) = true ↔ (cN N 0 d : Int) ∈ tN N i z) := fun d hd => hp _ (by have := h.1.2.1 d hd; omega)
      have p1 : ∀ d, d < ldN N → (p (cN N 1 d) = true ↔ (cN N 1 d : Int) ∈ tN N i z) := fun d hd => hp _ (by have := h.1.2.1 d hd; omega)
      have f0 := h.2.1 i i5
      have hk2 : k < ldN N := by omega
      have ec : c2P i p N' k = (decide (cN N 2 k = 1) && decide (cN N 3 k = i) && (p (cN N 0 k) || p (cN N 1 k))) := by unfold c2P; rw [a4, a5, a6, e3]
      have alL : alike N (adL N') := al
      have sL := SI_adL s (by omega)
      unfold stpB
      rw [ec, a4, a5]
      by_cases q1 : (decide (cN N 2 k = 1) && decide (cN N 3 k = i) && (p (cN N 0 k) || p (cN N 1 k))) = true
      · rw [if_pos q1]
        simp only [Bool.and_eq_true, Bool.or_eq_true, decide_eq_true_eq] at q1
        obtain ⟨⟨g1, g2⟩, g3⟩ := q1
        by_cases q2 : (p (cN N 0 k) && p (cN N 1 k)) = true
        · rw [if_pos q2]
          simp only [Bool.and_eq_true] at q2
          left
          have in0 := (p0 k hk2).mp q2.1
          have in1 := (p1 k hk2).mp q2.2
          have e0z := (f0.1 z z16).2.2.2.1 _ (by omega) in0
          cases may
          · simp only [Bool.false_eq_true, if_false]
            refine ⟨trivial, sL, alL, t1, by show riN N' ≤ _; omega, by show loN N' + 1 ≤ _; omega, fun d hd => c1 d (by omega), fun d hd h1 h3 => ?_⟩
            by_cases ed : d = k
            · subst ed
              show (cN N' 1 d : Int) ∈ tN N' (cN N' 3 d) (cN N' 0 d)
              rw [a4, a5, t1, e3, g2, e0z]
              exact in1
            · exact s1 d (by omega) h1 h3
          · simp only [if_true]
            obtain ⟨hm, up⟩ := hup rfl
            have hs : (cN (adL N') 1 k : Int) ∈ tN (adL N') (i + 1) (cN (adL N') 0 k) := by
              show (cN N' 1 k : Int) ∈ tN N' (i + 1) (cN N' 0 k)
              rw [a4, a5, t1]
              exact up _ _ (by omega) (by omega) q2.1 q2.2
            have g1' : cN (adL N') 2 k = 1 := by show cN N' 2 k = 1; rw [a6]; exact g1
            have g2' : cN (adL N') 3 k = i := by show cN N' 3 k = i; rw [e3]; exact g2
            have et : tN (riseN (adL N') k) = tN N := by rw [rise_t, if_neg (by omega)]; exact t1
            obtain ⟨z1, z2, z3, z4, z5, z6⟩ := rise_s (adL N') k
            obtain ⟨y1, y2, y3, y4⟩ := rise_e (adL N') k
            refine ⟨trivial, SI_rise_spare sL (by show k < ldN N'; omega) g1' g2' (by show i < hgt (nN N') 4; rw [a1]; exact hm) (by show riN N' < _; omega) hs, alike_tr alL (alike_rise _ k), et, by rw [z3]; show riN N' + 1 ≤ _; omega, by rw [z4]; show loN N' + 1 ≤ _; omega, fun d hd => ?_, fun d hd h1 h3 => ?_⟩
            · rw [rise_c, if_neg (by omega), if_neg (by omega)]
              exact c1 d (by omega)
            · rw [rise_c, if_neg (by omega)] at h3
              by_cases ed : d = k
              · rw [if_pos ⟨rfl, ed⟩] at h3; omega
              · rw [if_neg (fun w => ed w.2)] at h3
                have := s1 d (by omega) h1 h3
                unfold sp1 at this ⊢
                rw [y1, y2, et, rise_c, if_neg (by omega), if_neg (fun w => ed w.2)]
                rw [t1] at this
                exact this
        · rw [if_neg q2]
          simp only [Bool.and_eq_true, not_and] at q2
          right
          have hac : acr (adL N') k x y := by
            rcases s.2.2.2.2.2 k (by omega) (by rw [a6]; exact g1) with w | w
            · exfalso
              unfold sp1 at w
              rw [a4, a5, t1, e3, g2] at w
              rcases g3 with u | u
              · have e0z := (f0.1 z z16).2.2.2.1 _ (by omega) ((p0 k hk2).mp u)
                rw [e0z] at w
                exact q2 u ((p1 k hk2).mpr w)
              · have e1z := (f0.1 z z16).2.2.2.1 _ (by omega) ((p1 k hk2).mp u)
                have e10 := (f0.1 (cN N 0 k) (by omega)).2.2.2.1 _ (by omega) w
                refine q2 ((p0 k hk2).mpr ?_) u
                rw [← e1z, e10]
                exact (f0.1 (cN N 0 k) (by omega)).2.2.1
            · exact w.2
          refine ⟨k, by omega, rfl, INV_plc sL (by show k < ldN N'; omega) (by show cN N' 2 k = 1; rw [a6]; exact g1) (by show cN N' 3 k = i; rw [e3]; exact g2) hac, a1, a2, by show riN N' ≤ _; omega, by show loN N' + 1 ≤ _; omega, a3⟩
      · rw [if_neg q1]
        left
        refine ⟨rfl, s, al, t1, by show riN N' ≤ _; omega, by show loN N' ≤ _; omega, fun d hd => c1 d (by omega), fun d hd h1 h3 => ?_⟩
        by_cases ed : d = k
        · subst ed
          rw [e3] at h3
          have np : ¬ (p (cN N 0 d) = true) ∧ ¬ (p (cN N 1 d) = true) := by
            simp only [h1, h3, decide_true, Bool.true_and, Bool.or_eq_true, not_or] at q1
            exact q1
          rcases s.2.2.2.2.2 d (by omega) (by rw [a6]; exact h1) with w | w
          · exact w
          · exfalso
            have w2 := w.2
            unfold acr at w2
            rw [a4, a5, t1, e3, h3] at w2
            rcases hz with rfl | rfl
            · rcases w2 with u | u
              · exact np.1 ((p0 d hk2).mpr u.1)
              · exact np.2 ((p1 d hk2).mpr u.2)
            · rcases w2 with u | u
              · exact np.2 ((p1 d hk2).mpr u.2)
              · exact np.1 ((p0 d hk2).mpr u.1)
        · exact s1 d (by omega) h1 h3
    · right
      rw [q]
      simp only [Option.isSome_some, if_true]
      exact ⟨d, by omega, q, iv, w1, w2, by omega, by omega, w5⟩
theorem ph1_inv (h : SI N i x y) (hr : riN N + 60 ≤ 1000000000) : SI (ph1 N i x y) i x y ∧ alike N (ph1 N i x y) ∧ riN (ph1 N i x y) ≤ riN N + 60 ∧ loN (ph1 N i x y) = loN N ∧ (∀ j, j ≤ i → tN (ph1 N i x y) j = tN N j) := by
  have b := h.1.1
  unfold ph1 mayN
  by_cases e : i < hgt (nN N) 4
  · rw [decide_eq_true e, if_pos rfl]
    obtain ⟨s, al, r1, l1, t1, c1⟩ := sr1_inv h e hr (smP N i x y) (ldN N) (Nat.le_refl _)
    exact ⟨s, al, by omega, l1, t1⟩
  · rw [decide_eq_false e, if_neg (by decide)]
    exact ⟨h, alike_rf, by omega, rfl, fun _ _ => rfl⟩
theorem sear_pre (i5 : i < 5) (h : SI N i x y) (hr : riN N + 60 ≤ 1000000000) : (smZ N i x y = x ∨ smZ N i x y = y) ∧ (∀ n, n < 16 → (smP N i x y n = true ↔ (n : Int) ∈ tN (ph1 N i x y) i (smZ N i x y))) ∧ (mayN N i = true → i < hgt (nN (ph1 N i x y)) 4 ∧ ∀ u v : Nat, u < 16 → v < 16 → smP N i x y u = true → smP N i x y v = true → (v : Int) ∈ tN (ph1 N i x y) (i + 1) u) := by
  obtain ⟨s, al, r1, l1, t1⟩ := ph1_inv h hr
  refine ⟨smZ_or N i x y, fun n hn => ?_, fun hm => ?_⟩
  · rw [t1 i (Nat.le_refl _)]
    unfold smP on1
    rw [decide_eq_true_eq]
  · have hm2 : i < hgt (nN N) 4 := by unfold mayN at hm; simpa using hm
    refine ⟨by rw [al.1]; exact hm2, fun u v hu hv pu pv => ?_⟩
    unfold ph1
    rw [hm, if_pos rfl]
    exact small_up h hm2 hr hu hv pu pv
/-- a search on a level: found, and all is right; or not, and all is right from this level up -/
theorem sear_inv (i5 : i < 5) (h : SI N i x y) (hr : riN N + 120 ≤ 1000000000) (hl : loN N + 60 ≤ 1000000000) :
    ((sear N i x y).2 = none ∧ SI (sear N i x y).1 i x y ∧ alike N (sear N i x y).1 ∧ (∀ j, j ≤ i → tN (sear N i x y).1 j = tN N j) ∧ riN (sear N i x y).1 ≤ riN N + 120 ∧ loN (sear N i x y).1 ≤ loN N + 60 ∧ ∀ d, d < ldN N → cN N 2 d = 1 → cN (sear N i x y).1 3 d = i → sp1 (sear N i x y).1 d) ∨
    ∃ d, d < ldN N ∧ (sear N i x y).2 = some d ∧ INV (sear N i x y).1 ∧ nN (sear N i x y).1 = nN N ∧ ldN (sear N i x y).1 = ldN N ∧ riN (sear N i x y).1 ≤ riN N + 120 ∧ loN (sear N i x y).1 ≤ loN N + 60 ∧ nmN (sear N i x y).1 = nmN N := by
  have b := h.1.1
  obtain ⟨s, al, r1, l1, t1⟩ := ph1_inv h (by omega)
  obtain ⟨p1, p2, p3⟩ := sear_pre i5 h (by omega)
  obtain ⟨a1, a2, a3, a4, a5, a6, a7⟩ := id al
  unfold sear
  rcases sr2_inv (may := mayN N i) i5 s p1 p2 p3 (by omega) (by omega) (ldN N) (by omega) with ⟨q, s2, al2, t2, r2, l2, c2, w2⟩ | ⟨d, hd, q, iv, w1, w2, w3, w4, w5⟩
  · left
    refine ⟨q, s2, alike_tr al al2, fun j hj => by rw [t2]; exact t1 j hj, by omega, by omega, fun d hd h1 h3 => w2 d hd (by rw [a6]; exact h1) h3⟩
  · right
    exact ⟨d, hd, q, iv, w1.trans a1, w2.trans a2, by omega, by omega, w5.trans a3⟩
/-- searches from a level down -/
def schN (N : nt) (x y : Nat) : Nat → nt × Option Nat
  | 0 => (N, none)
  | i + 1 => if (sear N i x y).2.isSome then sear N i x y else schN (sear N i x y).1 x y i
theorem SI_down {N' : nt} (h : SI N' (i + 1) x y) (hw : ∀ d, d < ldN N' → cN N' 2 d = 1 → cN N' 3 d = i + 1 → sp1 N' d) : SI N' i x y := by
  obtain ⟨o, hf, lv, xy, ne, sp⟩ := h
  refine ⟨o, hf, lv, xy, fun j hj => ne j (by omega), fun d hd h1 => ?_⟩
  rcases sp d hd h1 with q | q
  · exact Or.inl q
  · by_cases e : cN N' 3 d = i + 1
    · exact Or.inl (hw d hd h1 e)
    · exact Or.inr ⟨by omega, q.2⟩
theorem schN_inv : ∀ (i : Nat) {N : nt}, i ≤ 5 → (i = 0 → INV N) → (∀ j, i = j + 1 → SI N j x y) → riN N + 120 * i ≤ 1000000000 → loN N + 60 * i ≤ 1000000000 →
    INV (schN N x y i).1 ∧ nN (schN N x y i).1 = nN N ∧ ldN (schN N x y i).1 = ldN N ∧ riN (schN N x y i).1 ≤ riN N + 120 * i ∧ loN (schN N x y i).1 ≤ loN N + 60 * i ∧ nmN (schN N x y i).1 = nmN N ∧ ((schN N x y i).2 = none → alike N (schN N x y i).1 ∧ (0 < i → (y : Int) ∉ tN (schN N x y i).1 0 x ∧ tN (schN N x y i).1 0 = tN N 0)) ∧ (∀ d, (schN N x y i).2 = some d → d < ldN N)
  | 0, N, _, h0, _, _, _ => ⟨h0 rfl, rfl, rfl, Nat.le_refl _, Nat.le_refl _, rfl, fun _ => ⟨alike_rf, fun h => by omega⟩, fun d h => by cases h⟩
  | i + 1, N, i5, _, hs, hr, hl => by
    have s := hs i rfl
    have e : schN N x y (i + 1) = if (sear N i x y).2.isSome then sear N i x y else schN (sear N i x y).1 x y i := rfl
    rw [e]
    rcases sear_inv (by omega) s (by omega) (by omega) with ⟨q, s2, al, t2, r2, l2, w2⟩ | ⟨d, hd, q, iv, w1, w2, w3, w4, w5⟩
    · rw [q]
      simp only [Option.isSome_none, Bool.false_eq_true, if_false]
      obtain ⟨a1, a2, a3, a4, a5, a6, a7⟩ := id al
      have w2' : ∀ d, d < ldN (sear N i x y).1 → cN (sear N i x y).1 2 d = 1 → cN (sear N i x y).1 3 d = i → sp1 (sear N i x y).1 d := fun d hd h1 h3 => w2 d (by omega) (by rw [← a6]; exact h1) h3
      have r := schN_inv i (N := (sear N i x y).1) (by omega) (fun e0 => ?_) (fun j ej => ?_) (by omega) (by omega)
      · obtain ⟨k1, k2, k3, k4, k5, k6, k7, k8⟩ := r
        refine ⟨k1, k2.trans a1, k3.trans a2, by omega, by omega, k6.trans a3, fun hn => ⟨alike_tr al (k7 hn).1, fun _ => ?_⟩, fun d hd => by rw [← a2]; exact k8 d hd⟩
        by_cases e0 : i = 0
        · subst e0
          exact ⟨s2.2.2.2.2.1 0 (by omega), t2 0 (by omega)⟩
        · have := (k7 hn).2 (by omega)
          exact ⟨this.1, this.2.trans (t2 0 (by omega))⟩
      · subst e0
        obtain ⟨o, hf, lv, xy, ne, sp⟩ := s2
        refine ⟨o, hf, lv, fun d hd h1 => ?_⟩
        rcases sp d hd h1 with z | z
        · exact z
        · exact w2' d hd h1 (by omega)
      · subst ej
        exact SI_down s2 w2'
    · rw [q]
      simp only [Option.isSome_some, if_true]
      exact ⟨iv, w1, w2, by omega, by omega, w5, (fun h => by rw [q] at h; cases h), (fun d' h => by rw [q] at h; cases h; exact hd)⟩
end PL
