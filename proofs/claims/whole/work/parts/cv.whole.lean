theorem lb_df4 : ∀ j, j < 10 → ∀ ty, parseFieldDescriptor (TX4 j).2.2.1 = some ty → defaultValue ty = vp_V (ct_fs4.map pm_cv) j := by
  intro j hj ty h
  rw [tyX4_ok j hj] at h
  cases h
  rcases (show j = 0 ∨ j = 1 ∨ j = 2 ∨ j = 3 ∨ j = 4 ∨ j = 5 ∨ j = 6 ∨ j = 7 ∨ j = 8 ∨ j = 9 by omega) with rfl | rfl | rfl | rfl | rfl | rfl | rfl | rfl | rfl | rfl <;> rfl
theorem lb_zo4 : ∀ v ∈ ct_fs4, pm_ok v := by
  intro v hv
  simp only [ct_fs4, List.mem_cons, List.not_mem_nil, or_false] at hv
  rcases hv with rfl | rfl | rfl | rfl | rfl | rfl | rfl | rfl | rfl | rfl <;> first | trivial | exact pm_in0
theorem lb_df5 : ∀ j, j < 26 → ∀ ty, parseFieldDescriptor (TX5 j).2.2.1 = some ty → defaultValue ty = vp_V (ct_fs5.map pm_cv) j := by
  intro j hj ty h
  rw [tyX5_ok j hj] at h
  cases h
  rcases (show j = 0 ∨ j = 1 ∨ j = 2 ∨ j = 3 ∨ j = 4 ∨ j = 5 ∨ j = 6 ∨ j = 7 ∨ j = 8 ∨ j = 9 ∨ j = 10 ∨ j = 11 ∨ j = 12 ∨ j = 13 ∨ j = 14 ∨ j = 15 ∨ j = 16 ∨ j = 17 ∨ j = 18 ∨ j = 19 ∨ j = 20 ∨ j = 21 ∨ j = 22 ∨ j = 23 ∨ j = 24 ∨ j = 25 by omega) with rfl | rfl | rfl | rfl | rfl | rfl | rfl | rfl | rfl | rfl | rfl | rfl | rfl | rfl | rfl | rfl | rfl | rfl | rfl | rfl | rfl | rfl | rfl | rfl | rfl | rfl <;> rfl
theorem lb_zo5 : ∀ v ∈ ct_fs5, pm_ok v := by
  intro v hv
  simp only [ct_fs5, List.mem_cons, List.not_mem_nil, or_false] at hv
  rcases hv with rfl | rfl | rfl | rfl | rfl | rfl | rfl | rfl | rfl | rfl | rfl | rfl | rfl | rfl | rfl | rfl | rfl | rfl | rfl | rfl | rfl | rfl | rfl | rfl | rfl | rfl <;> first | trivial | exact pm_in0
section LBN
variable {p : Program} {l : Launch} {e : Env} {s : State} {m : MethodId} {below : List Frame} {meth : Method} {c : Code} {b L : Nat} {zs : Nat → Int32} {sk sv : Nat → Nat} {G : va_G} {cI cJ : ClassId} {cR : Nat → ClassId} {a w : Nat}
theorem lb_nw (C : ly_C p l s m meth c b L zs sk sv G cI cJ cR) {ci j1 j2 n w0 maxL d pc : Nat} {q : vw_C} {y : MethodName} {cc' : ByteArray} {fs0 : List pm_V} {f : pm_H} {lv : pm_L} {P : Nat → pm_H → Prop} (hq : vwCl[ci]? = some q)
    (hM : ∀ h, Met l y (.code y cc' maxL none :: pm_WS) (ct_rm d n w0) (ct_Pc sk sv G cI cJ cR h (pm_up f h (.inr (.inr (.inr (ci, fs0))))) (h + 1)) (ct_Qp G cI cJ cR (pm_up f h (.inr (.inr (.inr (ci, fs0))))) (h + 1) (P h)) n w0 (ct_A (pm_up f h (.inr (.inr (.inr (ci, fs0))))) (h + 1)))
    (hy1 : y.name = "<init>") (hy : y.cls = q.1) (hyd : y.cls ≠ "java/lang/invoke/MethodHandle" ∧ y.cls ≠ "java/lang/invoke/VarHandle" ∧ (parseMethodDescriptor y.desc).map (fun d => d.parameters.length) = some 0) (wcl : Cond.classLink RL j1 q.1 ∈ pm_WS) (winst : Cond.instantiable q.1 q.2.2 ∈ pm_WS) (wini : Cond.initialized q.1 ∈ pm_WS) (wcode : Cond.code y cc' maxL none ∈ pm_WS) (wim : Cond.instanceMethod y ∈ pm_WS) (wl : Cond.methodLink RL j2 y ∈ pm_WS)
    (hfs : ∀ j, j < q.2.2 → ∀ ty, parseFieldDescriptor (q.2.1 j).2.2.1 = some ty → defaultValue ty = vp_V (fs0.map pm_cv) j) (hokf : ∀ v ∈ fs0, pm_ok v) (hd : d ≤ 60) (hm : maxL ≤ 40) (hcells : a + 1 + n ≤ 601024) (hslots : w + q.2.2 + w0 ≤ 7293034) (d0 : decode code pc = .ok (.new j1, 3)) (d3 : decode code (pc + 3) = .ok (.dup, 1)) (d4 : decode code (pc + 4) = .ok (.invokespecial j2, 3))
    (kk : ∀ (h : Nat) (f' : pm_H), s.heap.size ≤ h → (∀ z, pm_dom f z → z < h) → P h f' → ly_G p l e s m below meth c b G cI cJ cR (a + 1 + n) (w + q.2.2 + w0) (pc + 7) lv [.inr (.inl (some h))] f') : ly_G p l e s m below meth c b G cI cJ cR a w pc lv [] f := by
  obtain ⟨⟨hx, hb, hr, hml, hown, hts, hX, hbl, hlocks, hgv⟩, hlt, hK, hSt, hNC, hAO, hL⟩ := C
  intro ho hs ls H locs hl hH hS
  have hA : ∀ q, s.heap.size ≤ q → ly_A s q := fun q h => h
  have ok : ∀ w ∈ pm_WS, w.before #[Value.ref b] s = true := fun w hw => ly_hts hts w (List.mem_cons_of_mem _ hw)
  refine gw_new hx hb hown (ly_hts hts) hK hq wcl winst wini hfs hokf hA hH hS (by show a + 1 ≤ 601024; omega) (by show w + q.2.2 ≤ 7293034; omega) d0 fun H1 g1 g2 g3 => ?_
  refine lv_dup hx hb d3 rfl ?_
  have hG : GoodIn (ly_w0 :: pm_WS) (.code y cc' maxL none :: pm_WS) := pm_goodIn fun w hw => by
    rcases List.mem_cons.mp hw with rfl | hw
    · exact wcode
    · exact hw
  have hini : (Cond.initialized y.cls).before #[Value.ref b] s = true := by rw [hy]; exact ok _ wini
  have fin := va_runI (p := p) (l := l) (e := e) (R := room_1) (below := below) (meth := meth) (locs := locs) (cells := a + 1) (slots := w + q.2.2) (As := []) (b := H.size) (rest := [.ref H.size]) (g := F0 m (pc + 4) ls [.ref H.size, .ref H.size]) ⟨hx, hb, hml, hown, ly_hts hts⟩ (hM H.size) (cwI 0 (ly_hts hts) hG rfl rfl rfl hini (ok _ wl) (ok _ wim) hy1 hyd ⟨by show d + 1 ≤ 2048; omega, by show 8 + (maxL + 11) + 64 * d ≤ 84000; omega⟩) (ct_preS hA g1 g2 g3 hK hSt hAO) rfl rfl hl.1 rfl (Nat.le_of_ble_eq_true rfl) d4 ⟨by show a + 1 + n ≤ 601024; omega, by show w + q.2.2 + w0 ≤ 7293034; omega⟩
  intro T hT X
  obtain ⟨v, st₀, t, T', L1, h0, X', hL1, e1, e2, ⟨⟨f', hv, hP, hbb⟩, hz', hk⟩, st⟩ := fin T hT X
  cases hv
  rw [h0] at hz' hk
  have hAq : ∀ z, ct_A (pm_up f H.size (.inr (.inr (.inr (ci, fs0))))) (H.size + 1) z → ly_A s z := fun z hz => hz.elim (fun ⟨c0, hc⟩ => (g1 z c0 hc).2.1) (fun hz => Nat.le_trans hS.1 (by omega))
  obtain ⟨t2, a1, b1⟩ := kk H.size f' hS.1 (fun z ⟨c0, hz⟩ => pm_Hd_lt (f := f) (hH z c0 hz).1) hP ho (fun v hv => by rw [List.mem_singleton] at hv; subst hv; trivial) ls T'.heap (locs ++ L1) hl (by rw [e1]; exact fun z c0 hc => ⟨(hbb z c0 hc).1, hAq z (hbb z c0 hc).2.1, (hbb z c0 hc).2.2⟩)
    ⟨Nat.le_trans g2.1 (by rw [e1]; exact hz'), fun z h1 h2 => by rw [e1, hk z (Nat.lt_of_lt_of_le h1 g2.1) (fun q => h2 (hAq z q))]; exact g2.2.1 z h1 h2, fun z hz => by
      rcases List.mem_append.mp hz with h | h
      · exact g2.2.2 z h
      · exact hAq _ (hL1 z h)⟩ T' rfl X'
  exact ⟨t2, st t2 a1, b1⟩
theorem lb_lg (C : ly_C p l s m meth c b L zs sk sv G cI cJ cR) {pc : Nat} {f : pm_H} {lv : pm_L} (hd : decode code pc = .ok (.newarray .long, 2)) (ha : a + 1 ≤ 601024) (hw : w + 1 ≤ 7293034) (kk : ∀ h, s.heap.size ≤ h → (∀ z, pm_dom f z → z < h) → ly_G p l e s m below meth c b G cI cJ cR (a + 1) (w + 1) (pc + 2) lv [.inr (.inl (some h))] (pm_up f h (.inr (.inr (.inl (1, fun _ => 0)))))) : ly_G p l e s m below meth c b G cI cJ cR a w pc lv [.inl 1] f := by
  obtain ⟨⟨hx, hb, hr, hml, hown, hts, hX, hbl, hlocks, hgv⟩, hlt, hK, hSt, hNC, hAO, hL⟩ := C
  intro ho hs ls H locs hl hH hS
  refine gw_long (n := 1) hx hb hK (hts (.arrayClass .long) (List.mem_of_getElem? (i := 1768) (by decide +kernel))) (fun q h => h) hH hS (by decide) ha hw hd fun H1 g1 g2 g3 => ?_
  exact kk H.size hS.1 (fun z ⟨c0, hz⟩ => pm_Hd_lt (f := f) (hH z c0 hz).1) ho (fun v hv => by rw [List.mem_singleton] at hv; subst hv; trivial) ls H1 locs hl g1 g2
theorem lb_top {f : pm_H} {c : Nat} {x : xs} (h : cX f c x) : pm_dom f (c + 241) := by
  obtain ⟨g, o, V, L, B, M, T, h0, -⟩ := h
  obtain ⟨A, R, U, S, h1⟩ := h0.2.2.1.2.2.2 7 (by omega)
  have h2 := (h1.2.2.2 4 (by omega)).2
  rw [show c + 74 + 21 * 7 + 12 + 2 * 4 = c + 241 by omega] at h2
  exact ⟨_, h2⟩
theorem lb_tom {f : pm_H} {b : Nat} {x : xs} {t : Int} (h : rX f b x t) : pm_dom f (b + 13) := by
  obtain ⟨A, S, h0, -⟩ := h
  exact ⟨_, h0.2 12 (by omega)⟩
set_option maxHeartbeats 2000000 in
set_option maxRecDepth 20000 in
theorem lb_go (C : ly_C p l s m meth c b L zs sk sv G cI cJ cR) : ly_G p l e s m below meth c b G cI cJ cR 0 0 0 [some (.inr (.inl (some b))), none, none, none, none, none, none] [] (fun _ => none) := by
  have hL : L ≤ 3072 := C.2.2.2.2.2.2
  refine lb_nw C (ci := 4) (fs0 := ct_fs4) (n := 241) (w0 := 9914) (d := 4) (maxL := 2) (y := yX4_init) (cc' := cX4_init) (P := fun h f' => cX f' h x00 ∧ ∀ q, q < h → f' q = pm_up (fun _ => none) h (.inr (.inr (.inr (4, ct_fs4)))) q) rfl (fun h => ct_X4 l sk sv G cI cJ cR up_eq (cs_X _ h)) rfl rfl ⟨by decide +kernel, by decide +kernel, by decide +kernel⟩ (pm_WS_mem 147 (by decide +kernel) rfl) (pm_WS_mem 148 (by decide +kernel) rfl) (pm_WS_mem 125 (by decide +kernel) rfl) (pm_WS_mem 151 (by decide +kernel) rfl) (pm_WS_mem 150 (by decide +kernel) rfl) (pm_WS_mem 149 (by decide +kernel) rfl) lb_df4 lb_zo4 (by decide) (by decide) (Nat.le_of_ble_eq_true rfl) (Nat.le_of_ble_eq_true rfl) dL_law_0 dL_law_3 dL_law_4 fun k0 f1 hk0 _ hP1 => ?_
  obtain ⟨c1, -⟩ := hP1
  refine ly_as (ly_st C (Nat.le_of_ble_eq_true rfl) (Nat.le_of_ble_eq_true rfl)) (n := 1) dL_law_7 (Nat.le_of_ble_eq_true rfl) ?_
  show ly_G p l e s m below meth c b G cI cJ cR (0 + 1 + 241) (0 + 10 + 9914) 8 [some (.inr (.inl (some b))), some (.inr (.inl (some k0))), none, none, none, none, none] [] f1
  refine lb_nw C (ci := 5) (fs0 := ct_fs5) (n := 13) (w0 := 53076) (d := 4) (maxL := 1) (y := yX5_init) (cc' := cX5_init) (P := fun h f' => rX f' h x00 0 ∧ ∀ q, q < h → f' q = pm_up f1 h (.inr (.inr (.inr (5, ct_fs5)))) q) rfl (fun h => ct_X5 l sk sv G cI cJ cR up_eq (md_X _ h)) rfl rfl ⟨by decide +kernel, by decide +kernel, by decide +kernel⟩ (pm_WS_mem 1194 (by decide +kernel) rfl) (pm_WS_mem 1195 (by decide +kernel) rfl) (pm_WS_mem 130 (by decide +kernel) rfl) (pm_WS_mem 1198 (by decide +kernel) rfl) (pm_WS_mem 1197 (by decide +kernel) rfl) (pm_WS_mem 1196 (by decide +kernel) rfl) lb_df5 lb_zo5 (by decide) (by decide) (Nat.le_of_ble_eq_true rfl) (Nat.le_of_ble_eq_true rfl) dL_law_8 dL_law_11 dL_law_12 fun mb f2 hmb hd1 hP2 => ?_
  obtain ⟨r2, e2⟩ := hP2
  have hcb : k0 + 242 ≤ mb := hd1 _ (lb_top c1)
  refine ly_as (ly_st C (Nat.le_of_ble_eq_true rfl) (Nat.le_of_ble_eq_true rfl)) (n := 2) dL_law_15 (Nat.le_of_ble_eq_true rfl) ?_
  show ly_G p l e s m below meth c b G cI cJ cR (0 + 1 + 241 + 1 + 13) (0 + 10 + 9914 + 26 + 53076) 16 [some (.inr (.inl (some b))), some (.inr (.inl (some k0))), some (.inr (.inl (some mb))), none, none, none, none] [] f2
  refine ly_ic (ly_st C (Nat.le_of_ble_eq_true rfl) (Nat.le_of_ble_eq_true rfl)) dL_law_16 (by omega) ?_
  refine lb_lg C dL_law_17 (Nat.le_of_ble_eq_true rfl) (Nat.le_of_ble_eq_true rfl) fun o ho hd2 => ?_
  have hbo : mb + 14 ≤ o := hd2 _ (lb_tom r2)
  refine ly_as (ly_st C (Nat.le_of_ble_eq_true rfl) (Nat.le_of_ble_eq_true rfl)) (n := 3) dL_law_19 (Nat.le_of_ble_eq_true rfl) ?_
  refine ly_ic (ly_st C (Nat.le_of_ble_eq_true rfl) (Nat.le_of_ble_eq_true rfl)) dL_law_20 (by omega) ?_
  refine ly_is (ly_st C (Nat.le_of_ble_eq_true rfl) (Nat.le_of_ble_eq_true rfl)) dL_law_21 (Nat.le_of_ble_eq_true rfl) ?_
  refine ly_loop C hcb hbo 513 0 _ _ 0 x00 0 _ none none (by omega) (Nat.le_of_ble_eq_true rfl) (Nat.le_of_ble_eq_true rfl) (Nat.le_of_ble_eq_true rfl) ⟨cX_keepQ (Nat.zero_le _) c1 fun q q1 q2 => ?_, rX_keepQ r2 fun q q1 q2 => up_ne (by omega), _, up_eq⟩ gX_0
  rw [up_ne (by omega), e2 q (by omega), up_ne (by omega)]
/-- YOUR PART of the skeleton -/
theorem whole_start {p : Program} {e : Env} {s : State} {m : MethodId} {below : List Frame} {meth : Method} {c : Code} (l : Launch) (hflags : l.flags = flags0) {b L : Nat} {xs : Nat → Int32} (hL : L ≤ 3072) (C0 : lw_At p s m meth c b L xs) : W p l e room_1 s m #[Value.ref b] below meth c s.heap [] 0 0 (lw_Z below #[Value.ref b] s) (entryFrame m ([Value.ref b] : List Value).toArray 7) := by
  obtain ⟨hx, hb, hr, hml, hown, hts, hX, hbl, hlocks, hgv⟩ := id C0
  have hs : ∀ w ∈ lb_F, w.before #[Value.ref b] s = true := flat_of_before _ hgv
  obtain ⟨G, cI, cJ, cR, hK⟩ := lb_K hts m.cls
  obtain ⟨sk, sv, hSt⟩ := lb_St hts hs
  have key : ly_G p l e s m below meth c b G cI cJ cR 0 0 0 [some (.inr (.inl (some b))), none, none, none, none, none, none] [] (fun _ => none) := lb_go ⟨C0, lb_fl hflags, hK, hSt, lb_N hs, lb_AO hts, hL⟩
  have hl := pm_entry (nL := 7) (as := [.inr (.inl (some b))]) (Nat.le_of_ble_eq_true rfl)
  have hok : ∀ v ∈ ([.inr (.inl (some b))] : List pm_V), pm_ok v := fun v hv => by rw [List.mem_singleton] at hv; subst hv; trivial
  have hin : pm_init 7 [.inr (.inl (some b))] = [some (.inr (.inl (some b))), none, none, none, none, none, none] := by simp [pm_init, pm_put]
  rw [lg_entry_eq]
  rw [← hin] at key
  exact key (fun i v hv => pm_put_ok [.inr (.inl (some b))] hok i v (pm_lg_app (pm_put [.inr (.inl (some b))]) _ i v hv)) (fun v hv => by cases hv) _ s.heap [] hl (fun a c0 hc => by cases hc) va_S.rf
end LBN
