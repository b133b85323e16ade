/-! the start: what the Statement gives of it -/
def lb_F : List Cond := flatC (Jvm.Cond.and given_1 narrow_1)
theorem lb_fl {l : Launch} (h : l.flags = flags0) : l.stackTraces = false := by
  unfold Launch.stackTraces
  rw [h]
  decide +kernel
section LB
variable {b : Nat} {s : State}
theorem lb_cl (hts : ∀ w ∈ lw_tbl, w.before #[Value.ref b] s = true) (c0 : ClassId) (ci : Nat) : ∃ D : ClassId × (Nat → Nat), ∀ q, vwCl[ci]? = some q → u_Kn s q.1 q.2.1 q.2.2 D.1 D.2 := by
  by_cases hc : ci < 6
  · have h0 : ∃ (q : vw_C) (n : Nat), vwCl[ci]? = some q ∧ (Cond.instantiable q.1 n).before #[Value.ref b] s = true := by
      rcases (show ci = 0 ∨ ci = 1 ∨ ci = 2 ∨ ci = 3 ∨ ci = 4 ∨ ci = 5 by omega) with rfl | rfl | rfl | rfl | rfl | rfl
      · exact ⟨_, _, rfl, hts (.instantiable RX0 2) (List.mem_of_getElem? (i := 164) (by decide +kernel))⟩
      · exact ⟨_, _, rfl, hts (.instantiable RX1 17) (List.mem_of_getElem? (i := 157) (by decide +kernel))⟩
      · exact ⟨_, _, rfl, hts (.instantiable RX2 5) (List.mem_of_getElem? (i := 252) (by decide +kernel))⟩
      · exact ⟨_, _, rfl, hts (.instantiable RX3 8) (List.mem_of_getElem? (i := 274) (by decide +kernel))⟩
      · exact ⟨_, _, rfl, hts (.instantiable RX4 10) (List.mem_of_getElem? (i := 148) (by decide +kernel))⟩
      · exact ⟨_, _, rfl, hts (.instantiable RX5 26) (List.mem_of_getElem? (i := 1195) (by decide +kernel))⟩
    obtain ⟨q, n, hq, hi⟩ := h0
    obtain ⟨cC, iS, hk⟩ := u_known (ws := pm_WS) (fun w hw => hts w (List.mem_filter.mp hw).1) (pm_cls hq).1 hi
    refine ⟨(cC, iS), fun q' hq' => ?_⟩
    have e : q = q' := Option.some.inj (hq.symm.trans hq')
    subst e
    exact hk
  · refine ⟨(c0, id), fun q hq => ?_⟩
    have := (List.getElem?_eq_some_iff.mp hq).1
    exact absurd this (by show ¬ ci < 6; exact hc)
theorem lb_K (hts : ∀ w ∈ lw_tbl, w.before #[Value.ref b] s = true) (c0 : ClassId) : ∃ (G : va_G) (cI cJ : ClassId) (cR : Nat → ClassId), pm_KK G cI cJ cR s := by
  obtain ⟨ad, had⟩ := Classical.axiomOfChoice (lb_cl hts c0)
  obtain ⟨cI, kI, oI, i1, i2, i3⟩ := Cond.arrayClass_spec (hts (.arrayClass .int) (List.mem_of_getElem? (i := 176) (by decide +kernel)))
  obtain ⟨cJ, kJ, oJ, j1, j2, j3⟩ := Cond.arrayClass_spec (hts (.arrayClass .long) (List.mem_of_getElem? (i := 1768) (by decide +kernel)))
  obtain ⟨o0, r0, k0, a1, -, a2, a3, a4⟩ := Cond.arrayOver_spec (n := "CableForest$Forest") (hts (.arrayOver (.object "CableForest$Forest")) (List.mem_of_getElem? (i := 163) (by decide +kernel)))
  obtain ⟨o1, r1, k1, b1, -, b2, b3, b4⟩ := Cond.arrayOver_spec (n := "CableForest$Net") (hts (.arrayOver (.object "CableForest$Net")) (List.mem_of_getElem? (i := 156) (by decide +kernel)))
  refine ⟨(fun ci => (ad ci).1, fun ci => (ad ci).2), cI, cJ, fun k => if k = 0 then r0 else r1, ⟨fun ci q hq => had ci q hq, fun k q hq => ?_⟩, fun w hw => va_Nw.of (pm_NW_tab hw) (hts w (List.mem_filter.mp hw).1)⟩
  have hk : k < 4 := (List.getElem?_eq_some_iff.mp hq).1
  rcases (show k = 0 ∨ k = 1 ∨ k = 2 ∨ k = 3 by omega) with rfl | rfl | rfl | rfl
  · cases hq
    exact ⟨fun n z => ⟨fun k h => (by cases h), kI, i2, oI, i3⟩, i1⟩
  · cases hq
    exact ⟨fun n z => ⟨fun k h => (by cases h), kJ, j2, oJ, j3⟩, j1⟩
  · cases hq
    exact ⟨fun n z => ⟨fun k h => (by cases h), k0, a2, o0, a3⟩, k0, o0, a2, a3, a1, a4⟩
  · cases hq
    exact ⟨fun n z => ⟨fun k h => (by cases h), k1, b2, o1, b3⟩, k1, o1, b2, b3, b1, b4⟩
theorem lb_AO (hts : ∀ w ∈ lw_tbl, w.before #[Value.ref b] s = true) : ct_AO s := ⟨va_AO.of (hts (.arrayOver (.object RX0)) (List.mem_of_getElem? (i := 163) (by decide +kernel))), va_AO.of (hts (.arrayOver (.object RX1)) (List.mem_of_getElem? (i := 156) (by decide +kernel)))⟩
theorem lb_nc : ∀ q ∈ pw_NC, Cond.not (.castable q.1 q.2) ∈ lb_F := by decide +kernel
theorem lb_N (hs : ∀ w ∈ lb_F, w.before #[Value.ref b] s = true) : ∀ q ∈ pw_NC, va_Nc q.1 q.2 s := fun q hq => va_Nc.of (hs _ (lb_nc q hq))
/-! strings -/
def lb_tl : List (String × Nat) := [("CableForest$Tape", 67), ("CableForest$Tape", 69), ("CableForest$Tape", 71), ("CableForest$Tape", 73), ("CableForest$Tape", 75), ("CableForest$Tape", 77), ("CableForest$Tape", 79), ("CableForest", 71), ("CableForest", 83), ("CableForest", 92), ("CableForest", 105), ("CableForest", 135), ("CableForest", 162), ("CableForest", 173), ("CableForest", 192), ("CableForest", 197), ("CableForest", 199), ("CableForest", 216), ("CableForest", 230), ("CableForest", 278), ("CableForest", 281), ("CableForest", 283), ("CableForest", 288)]
def lb_ml : List (String × Nat) := [("CableForestModel", 216), ("CableForestModel", 222), ("CableForestModel", 227), ("CableForestModel", 232), ("CableForestModel", 237), ("CableForestModel", 247), ("CableForestModel", 242)]
def lb_tm (i : Nat) : Term := .string (lb_tl.getD i ("", 0)).1 (lb_tl.getD i ("", 0)).2
def lb_mm (i : Nat) : Term := .string (lb_ml.getD i ("", 0)).1 (lb_ml.getD i ("", 0)).2
theorem lb_f1 : ∀ i, i < 23 → Cond.exactly (lb_tm i) "java/lang/String" ∈ lb_F := by decide +kernel
theorem lb_f2 : ∀ i, i < 7 → Cond.eq (.field (lb_tm i) "java/lang/String" "coder" "B") (.int 0) ∈ lb_F := by decide +kernel
theorem lb_f3 : ∀ i, i < 7 → Cond.arrayOf (.field (lb_tm i) "java/lang/String" "value" "[B") .byte ∈ lb_F := by decide +kernel
theorem lb_f4 : ∀ i, i < 7 → Cond.eq (.length (.field (lb_tm i) "java/lang/String" "value" "[B")) (.int (Int32.ofNat (pm_sln.getD i 0))) ∈ lb_F := by decide +kernel
theorem lb_f5 : ∀ i, i < 7 → ∀ j, j < pm_sln.getD i 0 → Cond.eq (.elem (.field (lb_tm i) "java/lang/String" "value" "[B") (.int (Int32.ofNat j))) (.int ((pm_sby.getD i []).getD j 0)) ∈ lb_F := by decide +kernel
theorem lb_f6 : ∀ i, i < 7 → Cond.eq (lb_tm i) (lb_mm i) ∈ lb_F := by decide +kernel
theorem lb_f7 : ∀ i, i < 7 → Cond.exactly (lb_mm i) "java/lang/String" ∈ lb_F := by decide +kernel
theorem lb_g1 : ∀ q ∈ pm_SR, Cond.stringRef q.1 q.2.1 (pm_txt.getD q.2.2 "") ∈ lw_tbl := by decide +kernel
theorem lb_g2 : ∀ q ∈ pm_SR, (q.2.2 < 23 ∧ (q.1, q.2.1) = lb_tl.getD q.2.2 ("", 0)) ∨ (q.2.2 < 7 ∧ (q.1, q.2.1) = lb_ml.getD q.2.2 ("", 0)) := by decide +kernel
theorem lb_g3 : ∀ i, i < 7 → ∀ j, j < 7 → i ≠ j → Int32.ofNat (pm_sln.getD i 0) ≠ Int32.ofNat (pm_sln.getD j 0) ∨ ∃ k, k < 4 ∧ k < pm_sln.getD i 0 ∧ k < pm_sln.getD j 0 ∧ (pm_sby.getD i []).getD k 0 ≠ (pm_sby.getD j []).getD k 0 := by decide +kernel
theorem lb_g4 : ∀ i, i < 7 → pm_sln.getD i 0 < 2 ^ 31 := by decide +kernel
theorem lb_S0 (hs : ∀ w ∈ lb_F, w.before #[Value.ref b] s = true) : ∃ sk sv : Nat → Nat, vk_S 7 pm_sln pm_sby sk sv (ly_A s) s s.heap ∧ ∀ i, i < 23 → (lb_tm i).eval #[Value.ref b] s none [] s = some (.ref (sk i)) := by
  have hA : ∀ a : Nat, a < s.heap.size → ¬ ly_A s a := fun a h => Nat.not_le.mpr h
  have h0 : ∀ i : Nat, ∃ q : Nat × Nat, (i < 23 → (lb_tm i).eval #[Value.ref b] s none [] s = some (.ref q.1)) ∧ (i < 7 → va_O "java/lang/String" q.1 (ly_A s) s s.heap ∧ va_OF "java/lang/String" "coder" "B" (.int 0) q.1 (ly_A s) s s.heap ∧ va_OF "java/lang/String" "value" "[B" (.ref q.2) q.1 (ly_A s) s s.heap ∧ va_T .byte q.2 (pm_sln.getD i 0) (fun j => .int ((pm_sby.getD i []).getD j 0)) (ly_A s) s s.heap) := by
    intro i
    by_cases h23 : i < 23
    · obtain ⟨a, cc, cA, kA, q1, q2, q3, q4, q5, q6, -⟩ := Cond.exactly_spec (args := #[Value.ref b]) (first := s) (o := none) (s := s) (idx := []) (t := lb_tm i) (cls := "java/lang/String") (hs _ (lb_f1 i h23))
      by_cases hi : i < 7
      · obtain ⟨t, ht, hT⟩ := va_Tof (f := fun j => .int ((pm_sby.getD i []).getD j 0)) (A := ly_A s) (lb_g4 i hi) (hs _ (lb_f3 i hi)) (va_eqt (hs _ (lb_f4 i hi))) (fun j hj => va_eqt (hs _ (lb_f5 i hi j hj))) hA
        exact ⟨(a, t), fun _ => q1, fun _ => ⟨⟨cA, q3, q5, by rw [q6]; exact q2, hA a (Array.getElem?_eq_some_iff.mp q3).1⟩, vk_OFof q1 (va_eqt (hs _ (lb_f2 i hi))) hA, vk_OFof q1 ht hA, hT⟩⟩
      · exact ⟨(a, 0), fun _ => q1, fun h => absurd h hi⟩
    · exact ⟨(0, 0), fun h => absurd h h23, fun h => absurd h (by omega)⟩
  obtain ⟨ad, had⟩ := Classical.axiomOfChoice h0
  refine ⟨fun i => (ad i).1, fun i => (ad i).2, ⟨fun i hi => (had i).2 hi, fun i j hi hj e => ?_⟩, fun i hi => (had i).1 hi⟩
  by_cases hij : i = j
  · exact hij
  · exfalso
    obtain ⟨-, -, ⟨cf, k, fi, fl, cell, u1, u2, u3, u4, u5, u6⟩, ⟨ce, v1, v2, v3, v4, v5, v6, v7⟩⟩ := (had i).2 hi
    obtain ⟨-, -, ⟨cf', k', fi', fl', cell', u1', u2', u3', u4', u5', u6'⟩, ⟨ce', v1', v2', v3', v4', v5', v6', v7'⟩⟩ := (had j).2 hj
    have e' : (ad i).1 = (ad j).1 := e
    rw [e'] at u3
    have ec : cell = cell' := Option.some.inj (u3.symm.trans u3')
    subst ec
    have ef := Option.some.inj (u1.symm.trans u1')
    simp only [Prod.mk.injEq] at ef
    obtain ⟨-, -, -, ef⟩ := ef
    subst ef
    have ev : (ad i).2 = (ad j).2 := by
      have h := Option.some.inj (u5.symm.trans u5')
      injection h
    rw [ev] at v1
    have ee : ce = ce' := Option.some.inj (v1.symm.trans v1')
    subst ee
    rcases lb_g3 i hi j hj hij with h | ⟨q, -, h1, h2, h3⟩
    · exact h (v5.symm.trans v5')
    · have h4 := Option.some.inj ((v6 q h1).symm.trans (v6' q h2))
      injection h4 with h5
      exact h3 h5
theorem lb_St (hts : ∀ w ∈ lw_tbl, w.before #[Value.ref b] s = true) (hs : ∀ w ∈ lb_F, w.before #[Value.ref b] s = true) : ∃ sk sv : Nat → Nat, pm_St sk sv (ly_A s) s s.heap := by
  have hA : ∀ a : Nat, a < s.heap.size → ¬ ly_A s a := fun a h => Nat.not_le.mpr h
  obtain ⟨sk, sv, h1, h2⟩ := lb_S0 hs
  refine ⟨sk, sv, h1, fun q hq => ?_, ?_, ?_, ?_, ?_⟩
  · refine vk_R.of (hts _ (lb_g1 q hq)) ?_
    rcases lb_g2 q hq with ⟨h3, h4⟩ | ⟨h3, h4⟩
    · have h5 := h2 q.2.2 h3
      unfold lb_tm at h5
      rw [← h4] at h5
      exact h5
    · have h5 := h2 q.2.2 (by omega)
      obtain ⟨a, cc, cA, kA, q1, -⟩ := Cond.exactly_spec (args := #[Value.ref b]) (first := s) (o := none) (s := s) (idx := []) (t := lb_mm q.2.2) (cls := "java/lang/String") (hs _ (lb_f7 q.2.2 h3))
      have h6 := Cond.eq_refs (hs _ (lb_f6 q.2.2 h3)) q1 rfl
      have h7 := Option.some.inj (h5.symm.trans h6)
      injection h7 with h8
      rw [h8]
      unfold lb_mm at q1
      rw [← h4] at q1
      exact q1
  · exact vx_Zqof (hts (.laysStatic "java/lang/Throwable" "UNASSIGNED_STACK" "[Ljava/lang/StackTraceElement;") (List.mem_of_getElem? (i := 438) (by decide +kernel))) (hts (.initialized "java/lang/Throwable") (List.mem_of_getElem? (i := 138) (by decide +kernel))) (hs _ (by decide +kernel)) hA
  · exact vx_Zqof (hts (.laysStatic "java/lang/Throwable" "SUPPRESSED_SENTINEL" "Ljava/util/List;") (List.mem_of_getElem? (i := 440) (by decide +kernel))) (hts (.initialized "java/lang/Throwable") (List.mem_of_getElem? (i := 138) (by decide +kernel))) (hs _ (by decide +kernel)) hA
  · exact va_Zof (hts (.laysStatic "java/lang/String" "COMPACT_STRINGS" "Z") (List.mem_of_getElem? (i := 752) (by decide +kernel))) (hts (.initialized "java/lang/String") (List.mem_of_getElem? (i := 132) (by decide +kernel))) (va_eqi (hs _ (by decide +kernel))) hA
  · exact va_Zqof (hts (.laysStatic "jdk/internal/util/Preconditions" "SIOOBE_FORMATTER" "Ljava/util/function/BiFunction;") (List.mem_of_getElem? (i := 768) (by decide +kernel))) (hts (.initialized "jdk/internal/util/Preconditions") (List.mem_of_getElem? (i := 134) (by decide +kernel))) (hs _ (by decide +kernel)) hA
end LB
