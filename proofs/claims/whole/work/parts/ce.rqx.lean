section RQX
variable {f : pm_H} {b : Nat} {k : pm_P} {x : xs} {t : Int}
theorem part_Q (h : rX f b x t) (ok : okX x) {l p : Int} (hk : ∀ f', rX f' b x (aPart (xN x) l p).1 → rfr b f f' → k (some (.inl (aPart (xN x) l p).2)) f') : pm_ex T_X5_part [.inr (.inl (some b)), .inl l, .inl p] f k := by
  obtain ⟨A, S, h0, z, w9, t0⟩ := h
  obtain ⟨sl, hr⟩ := z.1
  exact part_q h0 hr ok.1 fun f' A' q9 => hk f' (rX_q z w9 q9) q9.2.1
theorem tour_Q (h : rX f b x t) (ok : okX x) {l p j : Int} (hk : ∀ f', rX f' b x (aTour (xN x) l p j).1 → rfr b f f' → k (some (.inl (aTour (xN x) l p j).2)) f') : pm_ex T_X5_tour [.inr (.inl (some b)), .inl l, .inl p, .inl j] f k := by
  obtain ⟨A, S, h0, z, w9, t0⟩ := h
  obtain ⟨sl, hr⟩ := z.1
  exact tour_q h0 hr ok.1 fun f' A' q9 => hk f' (rX_q z w9 q9) q9.2.1
theorem deep_Q (h : rX f b x t) (ok : okX x) {l p : Int} (hk : ∀ f', rX f' b x (aDeep (xN x) l p).1 → rfr b f f' → k (some (.inl (aDeep (xN x) l p).2)) f') : pm_ex T_X5_deep [.inr (.inl (some b)), .inl l, .inl p] f k := by
  obtain ⟨A, S, h0, z, w9, t0⟩ := h
  obtain ⟨sl, hr⟩ := z.1
  exact deep_q h0 hr ok.1 fun f' A' q9 => hk f' (rX_q z w9 q9) q9.2.1
theorem kin_Q (h : rX f b x t) (ok : okX x) {l p w : Int} (hk : ∀ f', rX f' b x (aKin (xN x) l p w).1 → rfr b f f' → k (some (.inl (aKin (xN x) l p w).2)) f') : pm_ex T_X5_kin [.inr (.inl (some b)), .inl l, .inl p, .inl w] f k := by
  obtain ⟨A, S, h0, z, w9, t0⟩ := h
  obtain ⟨sl, hr⟩ := z.1
  exact kin_q h0 hr ok.1 fun f' A' q9 => hk f' (rX_q z w9 q9) q9.2.1
theorem meet_Q (h : rX f b x t) (ok : okX x) {l p q : Int} (hk : ∀ f', rX f' b x (aMeet (xN x) l p q).1 → rfr b f f' → k (some (.inl (aMeet (xN x) l p q).2)) f') : pm_ex T_X5_meet [.inr (.inl (some b)), .inl l, .inl p, .inl q] f k := by
  obtain ⟨A, S, h0, z, w9, t0⟩ := h
  obtain ⟨sl, hr⟩ := z.1
  exact meet_q h0 hr ok.1 fun f' A' q9 => hk f' (rX_q z w9 q9) q9.2.1
theorem connected_Q (h : rX f b x t) (ok : okX x) {p q : Int} (hk : ∀ f', rX f' b x (aConn (xN x) p q).1 → rfr b f f' → k (some (.inl (aConn (xN x) p q).2)) f') : pm_ex T_X5_connected [.inr (.inl (some b)), .inl p, .inl q] f k := by
  obtain ⟨A, S, h0, z, w9, t0⟩ := h
  obtain ⟨sl, hr⟩ := z.1
  exact connected_q h0 hr ok.1 fun f' A' q9 => hk f' (rX_q z w9 q9) q9.2.1
theorem bridge_Q (h : rX f b x t) (ok : okX x) {p : Int} (hk : ∀ f', rX f' b x (aBridge (xN x) p).1 → rfr b f f' → k (some (.inl (aBridge (xN x) p).2)) f') : pm_ex T_X5_bridge [.inr (.inl (some b)), .inl p] f k := by
  obtain ⟨A, S, h0, z, w9, t0⟩ := h
  obtain ⟨sl, hr⟩ := z.1
  exact bridge_q h0 hr ok.1 fun f' A' q9 => hk f' (rX_q z w9 q9) q9.2.1
theorem named_Q (h : rX f b x t) (ok : okX x) {v : Int} (hk : ∀ f', rX f' b x (aNamed (xN x) v).1 → rfr b f f' → k (some (.inl (aNamed (xN x) v).2)) f') : pm_ex T_X5_named [.inr (.inl (some b)), .inl v] f k := by
  obtain ⟨A, S, h0, z, w9, t0⟩ := h
  obtain ⟨sl, hr⟩ := z.1
  exact named_q h0 hr ok.1 fun f' A' q9 => hk f' (rX_q z w9 q9) q9.2.1
theorem cable_Q (h : rX f b x t) (ok : okX x) {p w : Int} (hk : ∀ f', rX f' b x (aCable (xN x) p w).1 → rfr b f f' → k (some (.inl (aCable (xN x) p w).2)) f') : pm_ex T_X5_cable [.inr (.inl (some b)), .inl p, .inl w] f k := by
  obtain ⟨A, S, h0, z, w9, t0⟩ := h
  obtain ⟨sl, hr⟩ := z.1
  exact cable_q h0 hr ok.1 fun f' A' q9 => hk f' (rX_q z w9 q9) q9.2.1
theorem log_Q (h : rX f b x t) (ok : okX x) {j w : Int} (hk : ∀ f', rX f' b x (aLog (xN x) j w).1 → rfr b f f' → k (some (.inl (aLog (xN x) j w).2)) f') : pm_ex T_X5_log [.inr (.inl (some b)), .inl j, .inl w] f k := by
  obtain ⟨A, S, h0, z, w9, t0⟩ := h
  obtain ⟨sl, hr⟩ := z.1
  exact log_q h0 hr ok.1 fun f' A' q9 => hk f' (rX_q z w9 q9) q9.2.1
theorem node_Q (h : rX f b x t) (ok : okX x) {p w : Int} (hk : ∀ f', rX f' b x (aNode (xN x) p w).1 → rfr b f f' → k (some (.inl (aNode (xN x) p w).2)) f') : pm_ex T_X5_node [.inr (.inl (some b)), .inl p, .inl w] f k := by
  obtain ⟨A, S, h0, z, w9, t0⟩ := h
  obtain ⟨sl, hr⟩ := z.1
  exact node_q h0 hr ok.1 fun f' A' q9 => hk f' (rX_q z w9 q9) q9.2.1
theorem level_Q (h : rX f b x t) (ok : okX x) {l w : Int} (hk : ∀ f', rX f' b x (aLevel (xN x) l w).1 → rfr b f f' → k (some (.inl (aLevel (xN x) l w).2)) f') : pm_ex T_X5_level [.inr (.inl (some b)), .inl l, .inl w] f k := by
  obtain ⟨A, S, h0, z, w9, t0⟩ := h
  obtain ⟨sl, hr⟩ := z.1
  exact level_q h0 hr ok.1 fun f' A' q9 => hk f' (rX_q z w9 q9) q9.2.1
theorem count_Q (h : rX f b x t) (ok : okX x) {w : Int} (hk : ∀ f', rX f' b x 0 → rfr b f f' → k (some (.inl (cuV (xN x) ((xP x).length : Int) w))) f') : pm_ex T_X5_count [.inr (.inl (some b)), .inl w] f k := by
  obtain ⟨A, S, h0, z, w9, t0⟩ := h
  obtain ⟨sl, hr⟩ := z.1
  rw [← z.2.2.1.1] at hk
  exact count_q h0 hr ok.1 fun f' A' q9 => hk f' (rX_q z w9 q9) q9.2.1
theorem hinges_Q (h : rX f b x t) (ok : okX x) (hk : ∀ f', rX f' b x 0 → rfr b f f' → k (some (.inl ((bs (hgN (xN x)) (nN (xN x)) : Nat) : Int))) f') : pm_ex T_X5_hinges [.inr (.inl (some b))] f k := by
  obtain ⟨A, S, h0, z, w9, t0⟩ := h
  obtain ⟨sl, hr⟩ := z.1
  exact hinges_r h0 hr (INV_ok ok.1) fun f' A' q9 => hk f' (rX_q z w9 q9) q9.2.1
theorem near_Q (h : rX f b x t) (ok : okX x) {p q : Int} (hk : ∀ f', rX f' b x (aNear (xN x) p q).1 → rfr b f f' → k (some (.inl (aNear (xN x) p q).2)) f') : pm_ex T_X5_near [.inr (.inl (some b)), .inl p, .inl q] f k := by
  obtain ⟨A, S, h0, z, w9, t0⟩ := h
  obtain ⟨sl, hr⟩ := z.1
  unfold aNear at hk
  by_cases c0 : ndJ (xN x) p ∧ ndJ (xN x) q
  · rw [if_pos c0] at hk
    obtain ⟨u, hu, rfl⟩ := ip c0.1
    obtain ⟨v, hv, rfl⟩ := ip c0.2
    exact near_ok h0 hr (INV_ok ok.1) hu hv fun f' A' q9 => hk f' (rX_q z w9 q9) q9.2.1
  · rw [if_neg c0] at hk
    exact near_no h0 hr (INV_ok ok.1) c0 fun f' A' q9 => hk f' (rX_q z w9 q9) q9.2.1
theorem fare_Q (h : rX f b x t) (ok : okX x) {p q : Int} (hk : ∀ f', rX f' b x (aFare (xN x) p q).1 → rfr b f f' → k (some (.inl (aFare (xN x) p q).2)) f') : pm_ex T_X5_fare [.inr (.inl (some b)), .inl p, .inl q] f k := by
  obtain ⟨A, S, h0, z, w9, t0⟩ := h
  obtain ⟨sl, hr⟩ := z.1
  unfold aFare at hk
  by_cases c0 : ndJ (xN x) p ∧ ndJ (xN x) q
  · rw [if_pos c0] at hk
    obtain ⟨u, hu, rfl⟩ := ip c0.1
    obtain ⟨v, hv, rfl⟩ := ip c0.2
    exact fare_ok h0 hr (INV_ok ok.1) hu hv fun f' A' q9 => hk f' (rX_q z w9 q9) q9.2.1
  · rw [if_neg c0] at hk
    exact fare_no h0 hr (INV_ok ok.1) c0 fun f' A' q9 => hk f' (rX_q z w9 q9) q9.2.1
theorem odds_Q (h : rX f b x t) (ok : okX x) {p q : Int} (hk : ∀ f', rX f' b x (aOdds (xN x) p q).1 → rfr b f f' → k (some (.inl (aOdds (xN x) p q).2)) f') : pm_ex T_X5_odds [.inr (.inl (some b)), .inl p, .inl q] f k := by
  obtain ⟨A, S, h0, z, w9, t0⟩ := h
  obtain ⟨sl, hr⟩ := z.1
  unfold aOdds at hk
  by_cases c0 : ndJ (xN x) p ∧ ndJ (xN x) q
  · rw [if_pos c0] at hk
    obtain ⟨u, hu, rfl⟩ := ip c0.1
    obtain ⟨v, hv, rfl⟩ := ip c0.2
    exact odds_ok h0 hr (INV_ok ok.1) hu hv fun f' A' q9 => hk f' (rX_q z w9 q9) q9.2.1
  · rw [if_neg c0] at hk
    exact odds_no h0 hr (INV_ok ok.1) c0 fun f' A' q9 => hk f' (rX_q z w9 q9) q9.2.1
theorem way_Q (h : rX f b x t) (ok : okX x) {p q j : Int} (hk : ∀ f', rX f' b x (aWay (xN x) p q j).1 → rfr b f f' → k (some (.inl (aWay (xN x) p q j).2)) f') : pm_ex T_X5_way [.inr (.inl (some b)), .inl p, .inl q, .inl j] f k := by
  obtain ⟨A, S, h0, z, w9, t0⟩ := h
  obtain ⟨sl, hr⟩ := z.1
  have b0 := okn (INV_ok ok.1)
  unfold aWay at hk
  by_cases c0 : ndJ (xN x) p ∧ ndJ (xN x) q
  · rw [if_pos c0] at hk
    obtain ⟨u, hu, rfl⟩ := ip c0.1
    obtain ⟨v, hv, rfl⟩ := ip c0.2
    rw [Int.toNat_natCast, Int.toNat_natCast] at hk
    refine way_ok h0 hr (INV_ok ok.1) hu hv fun f' A' q9 e8 by9 => ?_
    rw [← way_eq ok.1 (by omega) (by omega) e8 by9]
    exact hk f' (rX_q z w9 q9) q9.2.1
  · rw [if_neg c0] at hk
    exact way_no h0 hr (INV_ok ok.1) c0 fun f' A' q9 => hk f' (rX_q z w9 q9) q9.2.1
theorem within_Q (h : rX f b x t) (ok : okX x) {p d : Int} (hk : ∀ f', rX f' b x (aWith (xN x) p d).1 → rfr b f f' → k (some (.inl (aWith (xN x) p d).2)) f') : pm_ex T_X5_within [.inr (.inl (some b)), .inl p, .inl d] f k := by
  obtain ⟨A, S, h0, z, w9, t0⟩ := h
  obtain ⟨sl, hr⟩ := z.1
  unfold aWith at hk
  by_cases c0 : ndJ (xN x) p
  · rw [if_pos c0] at hk
    by_cases c1 : 0 ≤ d ∧ d ≤ 16
    · rw [if_pos c1] at hk
      obtain ⟨u, hu, rfl⟩ := ip c0
      obtain ⟨v, rfl⟩ : ∃ v : Nat, d = (v : Int) := ⟨d.toNat, by omega⟩
      exact within_ok h0 hr (INV_ok ok.1) hu (by omega) fun f' A' q9 => hk f' (rX_q z w9 q9) q9.2.1
    · rw [if_neg c1] at hk
      refine within_no h0 hr (INV_ok ok.1) (fun z => c1 z.2) fun f' A' q9 => ?_
      rw [if_pos c0] at q9
      exact hk f' (rX_q z w9 q9) q9.2.1
  · rw [if_neg c0] at hk
    refine within_no h0 hr (INV_ok ok.1) (fun z => c0 z.1) fun f' A' q9 => ?_
    rw [if_neg c0] at q9
    exact hk f' (rX_q z w9 q9) q9.2.1
theorem cut_Q (h : rX f b x t) (ok : okX x) {p q : Int} (hk : ∀ f', rX f' b x (aCut (xN x) p q).1 → rfr b f f' → k (some (.inl (aCut (xN x) p q).2)) f') : pm_ex T_X5_cut [.inr (.inl (some b)), .inl p, .inl q] f k := by
  obtain ⟨A, S, h0, z, w9, t0⟩ := h
  obtain ⟨sl, hr⟩ := z.1
  unfold aCut at hk
  by_cases c0 : ndJ (xN x) p ∧ ndJ (xN x) q
  · rw [if_pos c0] at hk
    obtain ⟨u, hu, rfl⟩ := ip c0.1
    obtain ⟨v, hv, rfl⟩ := ip c0.2
    rw [Int.toNat_natCast, Int.toNat_natCast] at hk
    refine cut_ok h0 hr (INV_ok ok.1) hu hv fun f' A' n q9 hc => ?_
    have e : cutV (xN x) u v = (n : Int) := by
      by_cases e1 : u = v
      · rw [if_pos e1] at hc
        unfold cutV
        rw [if_pos e1, hc]; rfl
      · rw [if_neg e1] at hc
        exact cutV_eq e1 hc
    rw [← e]
    exact hk f' (rX_q z w9 q9) q9.2.1
  · rw [if_neg c0] at hk
    exact cut_no h0 hr (INV_ok ok.1) c0 fun f' A' q9 => hk f' (rX_q z w9 q9) q9.2.1
end RQX
section BYT
theorem byt_bv (a : BitVec 32) {s : Nat} (hs : s ≤ 24) : (a.sshiftRight s) &&& 255#32 = (a >>> s) &&& 255#32 := by
  apply BitVec.eq_of_getLsbD_eq
  intro i hi
  rw [BitVec.getLsbD_and, BitVec.getLsbD_and, BitVec.getLsbD_sshiftRight, BitVec.getLsbD_ushiftRight]
  by_cases h8 : i < 8
  · have h1 : ¬ 32 ≤ i := by omega
    have h2 : s + i < 32 := by omega
    simp [h1, h2]
  · have : (255#32).getLsbD i = false := by
      rw [BitVec.getLsbD_ofNat]
      have : Nat.testBit 255 i = false := Nat.testBit_lt_two_pow (Nat.lt_of_lt_of_le (by decide : 255 < 2 ^ 8) (Nat.pow_le_pow_right (by omega) (by omega)))
      rw [this, Bool.and_false]
    rw [this, Bool.and_false, Bool.and_false]
theorem byt_eq (v : Int) {j : Nat} (hj : j < 4) : pm_and (pm_shr v (24 - 8 * (j : Int))) 255 = pm_and (pm_ush v (24 - 8 * (j : Int))) 255 := by
  unfold pm_and pm_shr pm_ush
  rw [Int32.ofInt_toInt, Int32.ofInt_toInt]
  congr 1
  generalize Int32.ofInt v = a
  have h4 : j = 0 ∨ j = 1 ∨ j = 2 ∨ j = 3 := by omega
  rcases h4 with rfl | rfl | rfl | rfl
  all_goals
    apply Int32.toBitVec_inj.mp
    first
      | exact byt_bv a.toBitVec (s := 24) (by omega)
      | exact byt_bv a.toBitVec (s := 16) (by omega)
      | exact byt_bv a.toBitVec (s := 8) (by omega)
      | exact byt_bv a.toBitVec (s := 0) (by omega)
end BYT
