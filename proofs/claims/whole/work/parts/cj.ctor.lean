/-- what a constructor may touch: the cells there are, and those it makes -/
def ct_A (f : pm_H) (h : Nat) : Nat → Prop := fun q => pm_dom f q ∨ h ≤ q
def ct_rm (d n w : Nat) : Room := { frames := d, cells := n, slots := w, locals := 64 * d }
def ct_AO (U : State) : Prop := va_AO RX0 U ∧ va_AO RX1 U
def ct_Pc (sk sv : Nat → Nat) (G : va_G) (cI cJ : ClassId) (cR : Nat → ClassId) (a : Nat) (f : pm_H) (h : Nat) : Array Value → State → Prop := fun v U => v = (([.inr (.inl (some a))] : List pm_V).map pm_cv).toArray ∧ pm_Hd G vwCl cI cJ cR (fun _ => True) f U.heap ∧ pm_KK G cI cJ cR U ∧ pm_St sk sv (ct_A f h) U U.heap ∧ U.heap.size = h ∧ ct_AO U
def ct_Qc (G : va_G) (cI cJ : ClassId) (cR : Nat → ClassId) (f : pm_H) (h : Nat) (f' : pm_H) (h' : Nat) : Array Value → State → Outcome → State → Prop := fun _ st oc t => (oc = .returned none ∧ pm_Hd G vwCl cI cJ cR (ct_A f h) f' t.heap ∧ t.heap.size = h') ∧ va_F (ct_A f h) st t
/-- the cells from h on -/
def ct_rows (f : pm_H) (h : Nat) (L : List pm_C) : pm_H := fun q => if q < h then f q else match L[q - h]? with
  | some c => some c
  | none => f q
def ct_st (f : pm_H) (a h : Nat) (L : List pm_C) (ci : Nat) (fs : List pm_V) : pm_H := pm_up (ct_rows f h L) a (.inr (.inr (.inr (ci, fs))))
theorem ct_st_at {f : pm_H} {a h : Nat} {L : List pm_C} {ci : Nat} {fs : List pm_V} : ct_st f a h L ci fs a = some (.inr (.inr (.inr (ci, fs)))) := by
  unfold ct_st pm_up
  rw [if_pos rfl]
theorem ct_st_0 {f : pm_H} {a h : Nat} {ci : Nat} {fs : List pm_V} (hf : f a = some (.inr (.inr (.inr (ci, fs))))) : ct_st f a h [] ci fs = f := by
  funext q
  unfold ct_st pm_up ct_rows
  by_cases hq : q = a
  · rw [if_pos hq, hq, hf]
  · rw [if_neg hq]
    simp
theorem ct_st_p {f : pm_H} {a h : Nat} {L : List pm_C} {ci : Nat} {fs fs' : List pm_V} : pm_up (ct_st f a h L ci fs) a (.inr (.inr (.inr (ci, fs')))) = ct_st f a h L ci fs' := by
  funext q
  unfold ct_st pm_up
  by_cases hq : q = a
  · rw [if_pos hq, if_pos hq]
  · rw [if_neg hq, if_neg hq, if_neg hq]
theorem ct_st_r {f : pm_H} {a h : Nat} {L : List pm_C} {ci : Nat} {fs : List pm_V} {c : pm_C} (ha : a < h) : pm_up (ct_st f a h L ci fs) (h + L.length) c = ct_st f a h (L ++ [c]) ci fs := by
  funext q
  unfold ct_st pm_up ct_rows
  by_cases h1 : q = h + L.length
  · rw [if_pos h1, if_neg (by omega), if_neg (by omega)]
    have e : q - h = L.length := by omega
    rw [e, List.getElem?_append_right (Nat.le_refl _), Nat.sub_self]
    rfl
  · rw [if_neg h1]
    by_cases h2 : q = a
    · rw [if_pos h2, if_pos h2]
    · rw [if_neg h2, if_neg h2]
      by_cases h3 : q < h
      · rw [if_pos h3, if_pos h3]
      · rw [if_neg h3, if_neg h3]
        by_cases h4 : q - h < L.length
        · rw [List.getElem?_append_left h4]
        · rw [List.getElem?_eq_none (by omega), List.getElem?_eq_none (by rw [List.length_append, List.length_singleton]; omega)]
def ct_Ct (l : Launch) (sk : Nat → Nat) (y : MethodName) (cc : ByteArray) (maxL d n w ci : Nat) (fs0 : List pm_V) (L : Nat → Nat → List pm_C) (fs1 : Nat → List pm_V) : Prop :=
  ∀ (sv : Nat → Nat) (G : va_G) (cI cJ : ClassId) (cR : Nat → ClassId) (a h : Nat) (f : pm_H), f a = some (.inr (.inr (.inr (ci, fs0)))) → Met l y (.code y cc maxL none :: pm_WS) (ct_rm d n w) (ct_Pc sk sv G cI cJ cR a f h) (ct_Qc G cI cJ cR f h (ct_st f a h (L a h) ci (fs1 h)) (h + n)) n w (ct_A f h)
section CT
variable {p : Program} {l : Launch} {e : Env} {R : Room} {cells slots : Nat} {s : State} {m : MethodId} {args : Array Value} {below : List Frame} {meth : Method} {c : Code} {Q : State → Prop}
variable {G : va_G} {cI cJ : ClassId} {cR : Nat → ClassId} {A : Nat → Prop} {own : String} {a0w : Cond} {cc : ByteArray} {pc : Nat} {ls : Array Slot} {f : pm_H} {H : Heap} {locs : List Loc}
/-- a field's value -/
theorem ct_put (hx : p.tables.exec = Jvm.exec) (hb : c.code = cc) (hown : s.vm.findClass own = some m.cls) (hts : ∀ w ∈ a0w :: pm_WS, w.before args s = true) (hK : pm_KK G cI cJ cR s) {n ci k : Nat} {q : vw_C} (hq : vwCl[ci]? = some q) (hk : k < q.2.2) (hl : Cond.fieldLink own n (q.2.1 k).1 (q.2.1 k).2.1 (q.2.1 k).2.2.1 ∈ pm_WS) (hin2 : meth.name = "<init>") (hdecl : (q.2.1 k).1 = own) {ty : FieldType} {v : pm_V} (hd2 : parseFieldDescriptor (q.2.1 k).2.2.1 = some ty) (hn : narrow ty (pm_cv v) = pm_cv v) (hfit : fits ty (pm_cv v) = true) {a h : Nat} {L : List pm_C} {fs : List pm_V} (hlen : k < fs.length) (hv : pm_ok v)
    (hH : pm_Hd G vwCl cI cJ cR A (ct_st f a h L ci fs) H) (hS : va_S A s.heap H locs) (hz : H.size = h + L.length) (hd : decode cc pc = .ok (.putfield n, 3))
    (kk : ∀ (H1 : Heap) (locs1 : List Loc), pm_Hd G vwCl cI cJ cR A (ct_st f a h L ci (fs.set k v)) H1 → va_S A s.heap H1 locs1 → H1.size = h + L.length → W p l e R s m args below meth c H1 locs1 cells slots Q (F0 m (pc + 3) ls [])) : W p l e R s m args below meth c H locs cells slots Q (F0 m pc ls [pm_cv v, .ref a]) := by
  refine gw_put hx hb hown hts hK hq hk hl hin2 hdecl hd2 hn hfit ct_st_at hlen hv hH hS hd fun H1 locs1 h1 h2 h3 => ?_
  rw [ct_st_p] at h1
  exact kk H1 locs1 h1 h2 (h3.trans hz)
/-- a new row of whole numbers, into a field -/
theorem ct_row (hx : p.tables.exec = Jvm.exec) (hb : c.code = cc) (hown : s.vm.findClass own = some m.cls) (hts : ∀ w ∈ a0w :: pm_WS, w.before args s = true) (hK : pm_KK G cI cJ cR s) (hA : ∀ q, s.heap.size ≤ q → A q) {n j ci k : Nat} {q : vw_C} (hq : vwCl[ci]? = some q) (hk : k < q.2.2) (hl : Cond.fieldLink own j (q.2.1 k).1 (q.2.1 k).2.1 (q.2.1 k).2.2.1 ∈ pm_WS) (hin2 : meth.name = "<init>") (hdecl : (q.2.1 k).1 = own) (hd2 : parseFieldDescriptor (q.2.1 k).2.2.1 = some (.array .int)) {a h : Nat} {L : List pm_C} {fs : List pm_V} (hlen : k < fs.length) (ha : a < h)
    (hH : pm_Hd G vwCl cI cJ cR A (ct_st f a h L ci fs) H) (hS : va_S A s.heap H locs) (hz : H.size = h + L.length) (hn : n < 100000) (hcells : cells + 1 ≤ R.cells) (hslots : slots + n ≤ R.slots) (hd : decode cc pc = .ok (.newarray .int, 2)) (hd' : decode cc (pc + 2) = .ok (.putfield j, 3))
    (kk : ∀ (H1 : Heap) (locs1 : List Loc), pm_Hd G vwCl cI cJ cR A (ct_st f a h (L ++ [.inl (n, fun _ => 0)]) ci (fs.set k (.inr (.inl (some (h + L.length)))))) H1 → va_S A s.heap H1 locs1 → H1.size = h + (L ++ ([.inl (n, fun _ => 0)] : List pm_C)).length → W p l e R s m args below meth c H1 locs1 (cells + 1) (slots + n) Q (F0 m (pc + 5) ls [])) : W p l e R s m args below meth c H locs cells slots Q (F0 m pc ls [.int (Int32.ofInt (n : Int)), .ref a]) := by
  refine gw_row hx hb hK (hts _ (List.mem_cons_of_mem _ (ps_in (by decide +kernel)))) hA hH hS hn hcells hslots hd fun H1 g1 g2 g3 => ?_
  rw [hz, ct_st_r ha] at g1
  refine W.eq (g2 := F0 m (pc + 2) ls [pm_cv (.inr (.inl (some (h + L.length)))), .ref a]) (by rw [hz]; rfl) ?_
  exact ct_put hx hb hown hts hK hq hk hl hin2 hdecl hd2 rfl rfl hlen trivial g1 g2 (by rw [g3, hz, List.length_append, List.length_singleton]; omega) hd' kk
/-- behind a constructor's call -/
theorem ct_after {st0 rest : List Value} {a0 : Array Value} {f' : pm_H} {h h' n w : Nat} (hr : va_Run p l e R s m args below meth c H locs cells slots n w (F0 m pc ls st0) rest (ct_Qc G cI cJ cR f h f' h' a0) (ct_A f h)) (hA : ∀ q, s.heap.size ≤ q → A q) (hH : pm_Hd G vwCl cI cJ cR A f H) (hS : va_S A s.heap H locs) (hz : H.size = h)
    (kk : ∀ (H' : Heap) (locs' : List Loc), pm_Hd G vwCl cI cJ cR A f' H' → va_S A s.heap H' locs' → H'.size = h' → W p l e R s m args below meth c H' locs' (cells + n) (slots + w) Q (F0 m (pc + 3) ls rest)) : W p l e R s m args below meth c H locs cells slots Q (F0 m pc ls st0) := by
  intro T hT X
  obtain ⟨v, st₀, t, T', L, h0, X', hL, e1, e2, ⟨⟨hv, hb, hsz⟩, hz', hk⟩, st⟩ := hr T hT X
  cases hv
  rw [h0] at hz' hk
  have hAq : ∀ q, ct_A f h q → A q := fun q hq => hq.elim (fun ⟨c0, hc⟩ => (hH q c0 hc).2.1) (fun hq => hA q (Nat.le_trans hS.1 (hz ▸ hq)))
  obtain ⟨t2, a1, b1⟩ := kk T'.heap (locs ++ L) (by rw [e1]; exact fun q c0 hc => ⟨(hb q c0 hc).1, hAq q (hb q c0 hc).2.1, (hb q c0 hc).2.2⟩)
    ⟨Nat.le_trans hS.1 (by rw [e1]; exact hz'), fun q h1 h2 => by rw [e1, hk q (Nat.lt_of_lt_of_le h1 hS.1) (fun z => h2 (hAq q z))]; exact hS.2.1 q h1 h2, fun q hq => by
      rcases List.mem_append.mp hq with h | h
      · exact hS.2.2 q h
      · exact hAq _ (hL q h)⟩ (by rw [e1]; exact hsz) T' rfl X'
  exact ⟨t2, st t2 a1, b1⟩
theorem ct_preS {sk sv : Nat → Nat} {a h : Nat} (hA : ∀ q, s.heap.size ≤ q → A q) (hH : pm_Hd G vwCl cI cJ cR A f H) (hS : va_S A s.heap H locs) (hz : H.size = h) (hK : pm_KK G cI cJ cR s) (hSt : pm_St sk sv A s s.heap) (hAO : ct_AO s) : PreS s H (ct_Pc sk sv G cI cJ cR a f h) [.ref a] :=
  ⟨fun a U g mk h => ⟨h.1, h.2.1, pm_KK_c h.2.2.1, pm_St_c h.2.2.2.1, h.2.2.2.2.1, va_AO.moved (u := U) (U := U.calling g mk a) (Vm.Alike.refl U.vm) h.2.2.2.2.2.1, va_AO.moved (u := U) (U := U.calling g mk a) (Vm.Alike.refl U.vm) h.2.2.2.2.2.2⟩, fun U hU hW => ⟨rfl, by rw [hU]; exact fun q c0 hc => ⟨(hH q c0 hc).1, trivial, (hH q c0 hc).2.2⟩, pm_KK_w hW hK, by rw [hU]; exact pm_St_w hW hS (fun q hq => hq.elim (fun ⟨c0, hc⟩ => (hH q c0 hc).2.1) (fun hq => hA q (Nat.le_trans hS.1 (hz ▸ hq)))) hSt, by rw [hU]; exact hz, va_AO.moved hW.alike hAO.1, va_AO.moved hW.alike hAO.2⟩⟩
theorem ct_st_n {f : pm_H} {a h ci ci' : Nat} {L L' : List pm_C} {fs fs' : List pm_V} {X : pm_C} (ha : a < h) : ct_st (pm_up (ct_st f a h L ci fs) (h + L.length) X) (h + L.length) (h + L.length + 1) L' ci' fs' = ct_st f a h (L ++ .inr (.inr (.inr (ci', fs'))) :: L') ci fs := by
  funext q
  unfold ct_st pm_up ct_rows
  dsimp only
  by_cases h1 : q = h + L.length
  · rw [if_pos h1, if_neg (show ¬ q = a by omega), if_neg (show ¬ q < h by omega)]
    have e : q - h = L.length := by omega
    rw [e, List.getElem?_append_right (Nat.le_refl _), Nat.sub_self]
    rfl
  · rw [if_neg h1]
    by_cases h2 : q = a
    · rw [if_pos (show q < h + L.length + 1 by omega), if_neg h1, if_pos h2, if_pos h2]
    · rw [if_neg h1, if_neg h2, if_neg h2]
      by_cases h3 : q < h
      · rw [if_pos (show q < h + L.length + 1 by omega), if_pos h3, if_pos h3]
      · rw [if_neg h3, if_neg h3]
        by_cases h4 : q - h < L.length
        · rw [if_pos (show q < h + L.length + 1 by omega), List.getElem?_append_left h4]
        · rw [if_neg (show ¬ q < h + L.length + 1 by omega), List.getElem?_append_right (by omega)]
          have e : q - h - L.length = (q - (h + L.length + 1)) + 1 := by omega
          rw [e, List.getElem?_cons_succ, List.getElem?_eq_none (show L.length ≤ q - h by omega)]
/-- new; dup; the constructor -/
theorem ct_new {sk sv : Nat → Nat} {rest : List Value} {nL : Nat} (hx : p.tables.exec = Jvm.exec) (hb : c.code = cc) (hml : c.maxLocals = nL) (hsl : ls.size = nL) (hown : s.vm.findClass own = some m.cls) (hts : ∀ w ∈ a0w :: pm_WS, w.before args s = true) (hK : pm_KK G cI cJ cR s) (hSt : pm_St sk sv A s s.heap) (hAO : ct_AO s) (hA : ∀ q, s.heap.size ≤ q → A q)
    {y : MethodName} {cc' : ByteArray} {maxL d n w ci j1 j2 : Nat} {fs0 : List pm_V} {L1 : Nat → Nat → List pm_C} {fs1 : Nat → List pm_V} (hCt : ct_Ct l sk y cc' maxL d n w ci fs0 L1 fs1) (hLn : ∀ a h, (L1 a h).length = n) {q : vw_C} (hq : vwCl[ci]? = some q) (hy : y.cls = q.1) (hy1 : y.name = "<init>") (hyd : y.cls ≠ "java/lang/invoke/MethodHandle" ∧ y.cls ≠ "java/lang/invoke/VarHandle" ∧ (parseMethodDescriptor y.desc).map (fun d => d.parameters.length) = some 0) (wcl : Cond.classLink own j1 q.1 ∈ pm_WS) (winst : Cond.instantiable q.1 q.2.2 ∈ pm_WS) (wini : Cond.initialized q.1 ∈ pm_WS) (wcode : Cond.code y cc' maxL none ∈ pm_WS) (wim : Cond.instanceMethod y ∈ pm_WS) (wl : Cond.methodLink own j2 y ∈ pm_WS ∨ ∃ host, Cond.methodLinkNest own j2 y host ∈ pm_NW)
    (hfs : ∀ j, j < q.2.2 → ∀ ty, parseFieldDescriptor (q.2.1 j).2.2.1 = some ty → defaultValue ty = vp_V (fs0.map pm_cv) j) (hokf : ∀ v ∈ fs0, pm_ok v) {a h ci0 : Nat} {L : List pm_C} {fs : List pm_V} (ha : a < h)
    (hH : pm_Hd G vwCl cI cJ cR A (ct_st f a h L ci0 fs) H) (hS : va_S A s.heap H locs) (hz : H.size = h + L.length) (hcells : cells + (n + 1) ≤ R.cells) (hslots : slots + (q.2.2 + w) ≤ R.slots) (hRf : d + 1 ≤ R.frames) (hRl : 8 + (maxL + 11) + 64 * d ≤ R.locals) (hcat : 1 + (rest.map fun v => v.category).sum ≤ 8)
    (d0 : decode cc pc = .ok (.new j1, 3)) (d3 : decode cc (pc + 3) = .ok (.dup, 1)) (d4 : decode cc (pc + 4) = .ok (.invokespecial j2, 3))
    (kk : ∀ (H1 : Heap) (locs1 : List Loc), pm_Hd G vwCl cI cJ cR A (ct_st f a h (L ++ .inr (.inr (.inr (ci, fs1 (h + L.length + 1)))) :: L1 (h + L.length) (h + L.length + 1)) ci0 fs) H1 → va_S A s.heap H1 locs1 → H1.size = h + (L ++ .inr (.inr (.inr (ci, fs1 (h + L.length + 1)))) :: L1 (h + L.length) (h + L.length + 1)).length → W p l e R s m args below meth c H1 locs1 (cells + 1 + n) (slots + q.2.2 + w) Q (F0 m (pc + 7) ls (.ref (h + L.length) :: rest))) : W p l e R s m args below meth c H locs cells slots Q (F0 m pc ls rest) := by
  refine gw_new hx hb hown hts hK hq wcl winst wini hfs hokf hA hH hS (by omega) (by omega) d0 fun H1 g1 g2 g3 => ?_
  rw [hz] at g1 g3
  refine W.eq (g2 := F0 m (pc + 3) ls (.ref (h + L.length) :: rest)) (by rw [hz]) ?_
  refine lv_dup hx hb d3 rfl ?_
  have hM := hCt sv G cI cJ cR (h + L.length) (h + L.length + 1) (pm_up (ct_st f a h L ci0 fs) (h + L.length) (.inr (.inr (.inr (ci, fs0))))) (by unfold pm_up; rw [if_pos rfl])
  have hG : GoodIn (a0w :: pm_WS) (.code y cc' maxL none :: pm_WS) := pm_goodIn fun w hw => by
    rcases List.mem_cons.mp hw with rfl | hw
    · exact wcode
    · exact hw
  have ok : ∀ w ∈ pm_WS, w.before args s = true := fun w hw => hts w (List.mem_cons_of_mem _ hw)
  have hini : (Cond.initialized y.cls).before args s = true := by rw [hy]; exact ok _ wini
  have hcat2 : 2 * (F0 m (pc + 4) ls (.ref (h + L.length) :: .ref (h + L.length) :: rest)).monitorRoom + ((Value.ref (h + L.length) :: rest).map fun v => v.category).sum ≤ 8 := by
    rw [List.map_cons, List.sum_cons]
    show 2 * 0 + (1 + (rest.map fun v => v.category).sum) ≤ 8
    omega
  have fin : va_Run p l e R s m args below meth c H1 locs (cells + 1) (slots + q.2.2) n w (F0 m (pc + 4) ls (.ref (h + L.length) :: .ref (h + L.length) :: rest)) (.ref (h + L.length) :: rest) (ct_Qc G cI cJ cR (pm_up (ct_st f a h L ci0 fs) (h + L.length) (.inr (.inr (.inr (ci, fs0))))) (h + L.length + 1) (ct_st (pm_up (ct_st f a h L ci0 fs) (h + L.length) (.inr (.inr (.inr (ci, fs0))))) (h + L.length) (h + L.length + 1) (L1 (h + L.length) (h + L.length + 1)) ci (fs1 (h + L.length + 1))) (h + L.length + 1 + n) (Value.ref (h + L.length) :: []).toArray) (ct_A (pm_up (ct_st f a h L ci0 fs) (h + L.length) (.inr (.inr (.inr (ci, fs0))))) (h + L.length + 1)) := by
    rcases wl with wl | ⟨host, wl⟩
    · exact va_runI (As := []) (rest := .ref (h + L.length) :: rest) ⟨hx, hb, hml, hown, hts⟩ hM (cwI 0 hts hG rfl rfl rfl hini (ok _ wl) (ok _ wim) hy1 hyd ⟨hRf, hRl⟩) (ct_preS hA g1 g2 g3 hK hSt hAO) rfl rfl hsl rfl hcat2 d4 ⟨by show _ + n ≤ _; omega, by show _ + w ≤ _; omega⟩
    · exact va_runIN (As := []) (rest := .ref (h + L.length) :: rest) ⟨hx, hb, hml, hown, hts⟩ hM ⟨va_cnB 0 hts hG rfl rfl rfl (hK.2 _ wl) hini hyd ⟨hRf, hRl⟩, hy1, ok _ wim⟩ (ct_preS hA g1 g2 g3 hK hSt hAO) rfl rfl hsl rfl hcat2 d4 ⟨by show _ + n ≤ _; omega, by show _ + w ≤ _; omega⟩
  refine ct_after fin hA g1 g2 g3 fun H' locs' k1 k2 k3 => ?_
  rw [ct_st_n ha] at k1
  exact kk H' locs' k1 k2 (by rw [k3, List.length_append, List.length_cons, hLn]; omega)
end CT
set_option maxHeartbeats 4000000 in
set_option maxRecDepth 20000 in
theorem ct_X0 (l : Launch) (sk : Nat → Nat) : ct_Ct l sk yX0_init cX0_init 1 1 1 48 0 [.inr (.inl none), .inl 0] (fun _ h => [.inl (48, fun _ => 0)]) (fun h => [.inr (.inl (some (h + 0))), .inl (0)]) := by
  intro sv G cI cJ cR a h f hf
  refine Met.ofW (cc := cX0_init) (maxL := 1) (ret := none) (by decide) rfl ?_
  intro p e s m args below meth c s₁ B hml hv
  obtain ⟨rfl, hHd, hK, hSt, hsz, hAO⟩ := hv
  have hx := B.exec
  have hb : c.code = cX0_init := B.bytes
  have hr := B.returns
  have hlocks := B.notSynchronized
  have hts := atoms_spec (ws := .code yX0_init cX0_init 1 none :: pm_WS) B.pre
  have ok : ∀ w ∈ pm_WS, w.before _ s = true := fun w hw => hts w (List.mem_cons_of_mem _ hw)
  have hown : s.vm.findClass RX0 = some m.cls := findClass_of_methodNamed B.named
  have hin : meth.name = "<init>" := (name_of_methodNamed B.named B.method).1
  have ha : a < h := hsz ▸ pm_Hd_lt (f := f) (hHd a _ hf).1
  have hA : ∀ q, s.heap.size ≤ q → ct_A f h q := fun q hq => Or.inr (hsz ▸ hq)
  have hH : pm_Hd G vwCl cI cJ cR (ct_A f h) (ct_st f a h [] 0 [.inr (.inl none), .inl 0]) s.heap := by
    rw [ct_st_0 hf]
    exact fun a c0 hc => ⟨(hHd a c0 hc).1, Or.inl ⟨c0, hc⟩, (hHd a c0 hc).2.2⟩
  have hz : s.heap.size = h + ([] : List pm_C).length := hsz
  have hS : va_S (ct_A f h) s.heap s.heap [] := va_S.rf
  have hl := pm_entry (nL := 1) (as := [.inr (.inl (some a))]) (Nat.le_of_ble_eq_true rfl)
  rw [lg_entry_eq]
  generalize (lg_sl ([.inr (.inl (some a))].map pm_cv) ++ List.replicate (1 - (lg_sl ([.inr (.inl (some a))].map pm_cv)).length) Slot.unset).toArray = ls at hl ⊢
  refine lv_aload_n hx hb dX0_init_0 rfl (hl.2.2.2 0 _ rfl) ?_
  refine W.objInit hx hb hown (ok _ (ps_in (by decide +kernel))) (ok _ (ps_in (by decide +kernel))) (ok _ (ps_in (by decide +kernel))) rfl (by rw [hml]; exact hl.1) rfl dX0_init_1 (Nat.le_of_ble_eq_true rfl) (Nat.le_of_ble_eq_true rfl) ?_
  refine W.eq (g2 := F0 m 4 ls []) rfl ?_
  refine lv_aload_n hx hb dX0_init_4 rfl (hl.2.2.2 0 _ rfl) ?_
  refine lv_bipush hx hb dX0_init_5 (v := Int32.ofInt (48)) (by decide) ?_
  refine ct_row (n := 48) (ci := 0) (k := 0) hx hb hown hts hK hA rfl (by decide) (pm_WS_mem 169 (by decide +kernel) rfl) hin rfl (by decide +kernel) (Nat.le_of_ble_eq_true rfl) ha hH hS hz (by decide) (Nat.le_of_ble_eq_true rfl) (Nat.le_of_ble_eq_true rfl) dX0_init_7 dX0_init_9 fun H1 locs1 hH hS hz => ?_
  have hH : pm_Hd G vwCl cI cJ cR (ct_A f h) (ct_st f a h [.inl (48, fun _ => 0)] 0 [.inr (.inl (some (h + 0))), .inl 0]) H1 := hH
  have hz : H1.size = h + ([.inl (48, fun _ => 0)] : List pm_C).length := hz
  refine lv_aload_n hx hb dX0_init_12 rfl (hl.2.2.2 0 _ rfl) ?_
  refine lv_iconst hx hb dX0_init_13 (v := Int32.ofInt (0)) rfl ?_
  refine ct_put (v := .inl (0)) (ci := 0) (k := 1) (ty := .int) hx hb hown hts hK rfl (by decide) (pm_WS_mem 170 (by decide +kernel) rfl) hin rfl (by decide +kernel) rfl rfl (Nat.le_of_ble_eq_true rfl) (by show pm_in _; unfold pm_in; omega) hH hS hz dX0_init_14 fun H1 locs1 hH hS hz => ?_
  have hH : pm_Hd G vwCl cI cJ cR (ct_A f h) (ct_st f a h [.inl (48, fun _ => 0)] 0 [.inr (.inl (some (h + 0))), .inl (0)]) H1 := hH
  have hz : H1.size = h + ([.inl (48, fun _ => 0)] : List pm_C).length := hz
  refine W.widen (k := 1) (n := 48) (Nat.le_of_ble_eq_true rfl) (Nat.le_of_ble_eq_true rfl) ?_
  exact W.vret hx hb hr (fun t ht _ => ⟨⟨rfl, by rw [ht]; exact hH, by rw [ht]; exact hz⟩, hS.F ht⟩) hS.2.2 dX0_init_17
set_option maxHeartbeats 4000000 in
set_option maxRecDepth 20000 in
theorem ct_X2 (l : Launch) (sk : Nat → Nat) : ct_Ct l sk yX2_init cX2_init 1 1 5 316 2 [.inr (.inl none), .inr (.inl none), .inr (.inl none), .inr (.inl none), .inr (.inl none)] (fun _ h => [.inl (16, fun _ => 0), .inl (16, fun _ => 0), .inl (16, fun _ => 0), .inl (256, fun _ => 0), .inl (12, fun _ => 0)]) (fun h => [.inr (.inl (some (h + 0))), .inr (.inl (some (h + 1))), .inr (.inl (some (h + 2))), .inr (.inl (some (h + 3))), .inr (.inl (some (h + 4)))]) := by
  intro sv G cI cJ cR a h f hf
  refine Met.ofW (cc := cX2_init) (maxL := 1) (ret := none) (by decide) rfl ?_
  intro p e s m args below meth c s₁ B hml hv
  obtain ⟨rfl, hHd, hK, hSt, hsz, hAO⟩ := hv
  have hx := B.exec
  have hb : c.code = cX2_init := B.bytes
  have hr := B.returns
  have hlocks := B.notSynchronized
  have hts := atoms_spec (ws := .code yX2_init cX2_init 1 none :: pm_WS) B.pre
  have ok : ∀ w ∈ pm_WS, w.before _ s = true := fun w hw => hts w (List.mem_cons_of_mem _ hw)
  have hown : s.vm.findClass RX2 = some m.cls := findClass_of_methodNamed B.named
  have hin : meth.name = "<init>" := (name_of_methodNamed B.named B.method).1
  have ha : a < h := hsz ▸ pm_Hd_lt (f := f) (hHd a _ hf).1
  have hA : ∀ q, s.heap.size ≤ q → ct_A f h q := fun q hq => Or.inr (hsz ▸ hq)
  have hH : pm_Hd G vwCl cI cJ cR (ct_A f h) (ct_st f a h [] 2 [.inr (.inl none), .inr (.inl none), .inr (.inl none), .inr (.inl none), .inr (.inl none)]) s.heap := by
    rw [ct_st_0 hf]
    exact fun a c0 hc => ⟨(hHd a c0 hc).1, Or.inl ⟨c0, hc⟩, (hHd a c0 hc).2.2⟩
  have hz : s.heap.size = h + ([] : List pm_C).length := hsz
  have hS : va_S (ct_A f h) s.heap s.heap [] := va_S.rf
  have hl := pm_entry (nL := 1) (as := [.inr (.inl (some a))]) (Nat.le_of_ble_eq_true rfl)
  rw [lg_entry_eq]
  generalize (lg_sl ([.inr (.inl (some a))].map pm_cv) ++ List.replicate (1 - (lg_sl ([.inr (.inl (some a))].map pm_cv)).length) Slot.unset).toArray = ls at hl ⊢
  refine lv_aload_n hx hb dX2_init_0 rfl (hl.2.2.2 0 _ rfl) ?_
  refine W.objInit hx hb hown (ok _ (ps_in (by decide +kernel))) (ok _ (ps_in (by decide +kernel))) (ok _ (ps_in (by decide +kernel))) rfl (by rw [hml]; exact hl.1) rfl dX2_init_1 (Nat.le_of_ble_eq_true rfl) (Nat.le_of_ble_eq_true rfl) ?_
  refine W.eq (g2 := F0 m 4 ls []) rfl ?_
  refine lv_aload_n hx hb dX2_init_4 rfl (hl.2.2.2 0 _ rfl) ?_
  refine lv_bipush hx hb dX2_init_5 (v := Int32.ofInt (16)) (by decide) ?_
  refine ct_row (n := 16) (ci := 2) (k := 0) hx hb hown hts hK hA rfl (by decide) (pm_WS_mem 257 (by decide +kernel) rfl) hin rfl (by decide +kernel) (Nat.le_of_ble_eq_true rfl) ha hH hS hz (by decide) (Nat.le_of_ble_eq_true rfl) (Nat.le_of_ble_eq_true rfl) dX2_init_7 dX2_init_9 fun H1 locs1 hH hS hz => ?_
  have hH : pm_Hd G vwCl cI cJ cR (ct_A f h) (ct_st f a h [.inl (16, fun _ => 0)] 2 [.inr (.inl (some (h + 0))), .inr (.inl none), .inr (.inl none), .inr (.inl none), .inr (.inl none)]) H1 := hH
  have hz : H1.size = h + ([.inl (16, fun _ => 0)] : List pm_C).length := hz
  refine lv_aload_n hx hb dX2_init_12 rfl (hl.2.2.2 0 _ rfl) ?_
  refine lv_bipush hx hb dX2_init_13 (v := Int32.ofInt (16)) (by decide) ?_
  refine ct_row (n := 16) (ci := 2) (k := 1) hx hb hown hts hK hA rfl (by decide) (pm_WS_mem 258 (by decide +kernel) rfl) hin rfl (by decide +kernel) (Nat.le_of_ble_eq_true rfl) ha hH hS hz (by decide) (Nat.le_of_ble_eq_true rfl) (Nat.le_of_ble_eq_true rfl) dX2_init_15 dX2_init_17 fun H1 locs1 hH hS hz => ?_
  have hH : pm_Hd G vwCl cI cJ cR (ct_A f h) (ct_st f a h [.inl (16, fun _ => 0), .inl (16, fun _ => 0)] 2 [.inr (.inl (some (h + 0))), .inr (.inl (some (h + 1))), .inr (.inl none), .inr (.inl none), .inr (.inl none)]) H1 := hH
  have hz : H1.size = h + ([.inl (16, fun _ => 0), .inl (16, fun _ => 0)] : List pm_C).length := hz
  refine lv_aload_n hx hb dX2_init_20 rfl (hl.2.2.2 0 _ rfl) ?_
  refine lv_bipush hx hb dX2_init_21 (v := Int32.ofInt (16)) (by decide) ?_
  refine ct_row (n := 16) (ci := 2) (k := 2) hx hb hown hts hK hA rfl (by decide) (pm_WS_mem 259 (by decide +kernel) rfl) hin rfl (by decide +kernel) (Nat.le_of_ble_eq_true rfl) ha hH hS hz (by decide) (Nat.le_of_ble_eq_true rfl) (Nat.le_of_ble_eq_true rfl) dX2_init_23 dX2_init_25 fun H1 locs1 hH hS hz => ?_
  have hH : pm_Hd G vwCl cI cJ cR (ct_A f h) (ct_st f a h [.inl (16, fun _ => 0), .inl (16, fun _ => 0), .inl (16, fun _ => 0)] 2 [.inr (.inl (some (h + 0))), .inr (.inl (some (h + 1))), .inr (.inl (some (h + 2))), .inr (.inl none), .inr (.inl none)]) H1 := hH
  have hz : H1.size = h + ([.inl (16, fun _ => 0), .inl (16, fun _ => 0), .inl (16, fun _ => 0)] : List pm_C).length := hz
  refine lv_aload_n hx hb dX2_init_28 rfl (hl.2.2.2 0 _ rfl) ?_
  refine lv_sipush hx hb dX2_init_29 (v := Int32.ofInt (256)) (by decide) ?_
  refine ct_row (n := 256) (ci := 2) (k := 3) hx hb hown hts hK hA rfl (by decide) (pm_WS_mem 260 (by decide +kernel) rfl) hin rfl (by decide +kernel) (Nat.le_of_ble_eq_true rfl) ha hH hS hz (by decide) (Nat.le_of_ble_eq_true rfl) (Nat.le_of_ble_eq_true rfl) dX2_init_32 dX2_init_34 fun H1 locs1 hH hS hz => ?_
  have hH : pm_Hd G vwCl cI cJ cR (ct_A f h) (ct_st f a h [.inl (16, fun _ => 0), .inl (16, fun _ => 0), .inl (16, fun _ => 0), .inl (256, fun _ => 0)] 2 [.inr (.inl (some (h + 0))), .inr (.inl (some (h + 1))), .inr (.inl (some (h + 2))), .inr (.inl (some (h + 3))), .inr (.inl none)]) H1 := hH
  have hz : H1.size = h + ([.inl (16, fun _ => 0), .inl (16, fun _ => 0), .inl (16, fun _ => 0), .inl (256, fun _ => 0)] : List pm_C).length := hz
  refine lv_aload_n hx hb dX2_init_37 rfl (hl.2.2.2 0 _ rfl) ?_
  refine lv_bipush hx hb dX2_init_38 (v := Int32.ofInt (12)) (by decide) ?_
  refine ct_row (n := 12) (ci := 2) (k := 4) hx hb hown hts hK hA rfl (by decide) (pm_WS_mem 261 (by decide +kernel) rfl) hin rfl (by decide +kernel) (Nat.le_of_ble_eq_true rfl) ha hH hS hz (by decide) (Nat.le_of_ble_eq_true rfl) (Nat.le_of_ble_eq_true rfl) dX2_init_40 dX2_init_42 fun H1 locs1 hH hS hz => ?_
  have hH : pm_Hd G vwCl cI cJ cR (ct_A f h) (ct_st f a h [.inl (16, fun _ => 0), .inl (16, fun _ => 0), .inl (16, fun _ => 0), .inl (256, fun _ => 0), .inl (12, fun _ => 0)] 2 [.inr (.inl (some (h + 0))), .inr (.inl (some (h + 1))), .inr (.inl (some (h + 2))), .inr (.inl (some (h + 3))), .inr (.inl (some (h + 4)))]) H1 := hH
  have hz : H1.size = h + ([.inl (16, fun _ => 0), .inl (16, fun _ => 0), .inl (16, fun _ => 0), .inl (256, fun _ => 0), .inl (12, fun _ => 0)] : List pm_C).length := hz
  refine W.widen (k := 5) (n := 316) (Nat.le_of_ble_eq_true rfl) (Nat.le_of_ble_eq_true rfl) ?_
  exact W.vret hx hb hr (fun t ht _ => ⟨⟨rfl, by rw [ht]; exact hH, by rw [ht]; exact hz⟩, hS.F ht⟩) hS.2.2 dX2_init_45
set_option maxHeartbeats 4000000 in
set_option maxRecDepth 20000 in
theorem ct_X3 (l : Launch) (sk : Nat → Nat) : ct_Ct l sk yX3_init cX3_init 1 1 2 601 3 [.inr (.inl none), .inr (.inl none), .inl 0, .inl 0, .inl 0, .inl 0, .inl 0, .inl 0] (fun _ h => [.inl (400, fun _ => 0), .inl (201, fun _ => 0)]) (fun h => [.inr (.inl (some (h + 0))), .inr (.inl (some (h + 1))), .inl (0), .inl (0), .inl (-1), .inl (-1), .inl (0), .inl (0)]) := by
  intro sv G cI cJ cR a h f hf
  refine Met.ofW (cc := cX3_init) (maxL := 1) (ret := none) (by decide) rfl ?_
  intro p e s m args below meth c s₁ B hml hv
  obtain ⟨rfl, hHd, hK, hSt, hsz, hAO⟩ := hv
  have hx := B.exec
  have hb : c.code = cX3_init := B.bytes
  have hr := B.returns
  have hlocks := B.notSynchronized
  have hts := atoms_spec (ws := .code yX3_init cX3_init 1 none :: pm_WS) B.pre
  have ok : ∀ w ∈ pm_WS, w.before _ s = true := fun w hw => hts w (List.mem_cons_of_mem _ hw)
  have hown : s.vm.findClass RX3 = some m.cls := findClass_of_methodNamed B.named
  have hin : meth.name = "<init>" := (name_of_methodNamed B.named B.method).1
  have ha : a < h := hsz ▸ pm_Hd_lt (f := f) (hHd a _ hf).1
  have hA : ∀ q, s.heap.size ≤ q → ct_A f h q := fun q hq => Or.inr (hsz ▸ hq)
  have hH : pm_Hd G vwCl cI cJ cR (ct_A f h) (ct_st f a h [] 3 [.inr (.inl none), .inr (.inl none), .inl 0, .inl 0, .inl 0, .inl 0, .inl 0, .inl 0]) s.heap := by
    rw [ct_st_0 hf]
    exact fun a c0 hc => ⟨(hHd a c0 hc).1, Or.inl ⟨c0, hc⟩, (hHd a c0 hc).2.2⟩
  have hz : s.heap.size = h + ([] : List pm_C).length := hsz
  have hS : va_S (ct_A f h) s.heap s.heap [] := va_S.rf
  have hl := pm_entry (nL := 1) (as := [.inr (.inl (some a))]) (Nat.le_of_ble_eq_true rfl)
  rw [lg_entry_eq]
  generalize (lg_sl ([.inr (.inl (some a))].map pm_cv) ++ List.replicate (1 - (lg_sl ([.inr (.inl (some a))].map pm_cv)).length) Slot.unset).toArray = ls at hl ⊢
  refine lv_aload_n hx hb dX3_init_0 rfl (hl.2.2.2 0 _ rfl) ?_
  refine W.objInit hx hb hown (ok _ (ps_in (by decide +kernel))) (ok _ (ps_in (by decide +kernel))) (ok _ (ps_in (by decide +kernel))) rfl (by rw [hml]; exact hl.1) rfl dX3_init_1 (Nat.le_of_ble_eq_true rfl) (Nat.le_of_ble_eq_true rfl) ?_
  refine W.eq (g2 := F0 m 4 ls []) rfl ?_
  refine lv_aload_n hx hb dX3_init_4 rfl (hl.2.2.2 0 _ rfl) ?_
  refine lv_sipush hx hb dX3_init_5 (v := Int32.ofInt (400)) (by decide) ?_
  refine ct_row (n := 400) (ci := 3) (k := 0) hx hb hown hts hK hA rfl (by decide) (pm_WS_mem 279 (by decide +kernel) rfl) hin rfl (by decide +kernel) (Nat.le_of_ble_eq_true rfl) ha hH hS hz (by decide) (Nat.le_of_ble_eq_true rfl) (Nat.le_of_ble_eq_true rfl) dX3_init_8 dX3_init_10 fun H1 locs1 hH hS hz => ?_
  have hH : pm_Hd G vwCl cI cJ cR (ct_A f h) (ct_st f a h [.inl (400, fun _ => 0)] 3 [.inr (.inl (some (h + 0))), .inr (.inl none), .inl 0, .inl 0, .inl 0, .inl 0, .inl 0, .inl 0]) H1 := hH
  have hz : H1.size = h + ([.inl (400, fun _ => 0)] : List pm_C).length := hz
  refine lv_aload_n hx hb dX3_init_13 rfl (hl.2.2.2 0 _ rfl) ?_
  refine lv_sipush hx hb dX3_init_14 (v := Int32.ofInt (201)) (by decide) ?_
  refine ct_row (n := 201) (ci := 3) (k := 1) hx hb hown hts hK hA rfl (by decide) (pm_WS_mem 280 (by decide +kernel) rfl) hin rfl (by decide +kernel) (Nat.le_of_ble_eq_true rfl) ha hH hS hz (by decide) (Nat.le_of_ble_eq_true rfl) (Nat.le_of_ble_eq_true rfl) dX3_init_17 dX3_init_19 fun H1 locs1 hH hS hz => ?_
  have hH : pm_Hd G vwCl cI cJ cR (ct_A f h) (ct_st f a h [.inl (400, fun _ => 0), .inl (201, fun _ => 0)] 3 [.inr (.inl (some (h + 0))), .inr (.inl (some (h + 1))), .inl 0, .inl 0, .inl 0, .inl 0, .inl 0, .inl 0]) H1 := hH
  have hz : H1.size = h + ([.inl (400, fun _ => 0), .inl (201, fun _ => 0)] : List pm_C).length := hz
  refine lv_aload_n hx hb dX3_init_22 rfl (hl.2.2.2 0 _ rfl) ?_
  refine lv_iconst hx hb dX3_init_23 (v := Int32.ofInt (0)) rfl ?_
  refine ct_put (v := .inl (0)) (ci := 3) (k := 2) (ty := .int) hx hb hown hts hK rfl (by decide) (pm_WS_mem 281 (by decide +kernel) rfl) hin rfl (by decide +kernel) rfl rfl (Nat.le_of_ble_eq_true rfl) (by show pm_in _; unfold pm_in; omega) hH hS hz dX3_init_24 fun H1 locs1 hH hS hz => ?_
  have hH : pm_Hd G vwCl cI cJ cR (ct_A f h) (ct_st f a h [.inl (400, fun _ => 0), .inl (201, fun _ => 0)] 3 [.inr (.inl (some (h + 0))), .inr (.inl (some (h + 1))), .inl (0), .inl 0, .inl 0, .inl 0, .inl 0, .inl 0]) H1 := hH
  have hz : H1.size = h + ([.inl (400, fun _ => 0), .inl (201, fun _ => 0)] : List pm_C).length := hz
  refine lv_aload_n hx hb dX3_init_27 rfl (hl.2.2.2 0 _ rfl) ?_
  refine lv_iconst hx hb dX3_init_28 (v := Int32.ofInt (0)) rfl ?_
  refine ct_put (v := .inl (0)) (ci := 3) (k := 3) (ty := .int) hx hb hown hts hK rfl (by decide) (pm_WS_mem 283 (by decide +kernel) rfl) hin rfl (by decide +kernel) rfl rfl (Nat.le_of_ble_eq_true rfl) (by show pm_in _; unfold pm_in; omega) hH hS hz dX3_init_29 fun H1 locs1 hH hS hz => ?_
  have hH : pm_Hd G vwCl cI cJ cR (ct_A f h) (ct_st f a h [.inl (400, fun _ => 0), .inl (201, fun _ => 0)] 3 [.inr (.inl (some (h + 0))), .inr (.inl (some (h + 1))), .inl (0), .inl (0), .inl 0, .inl 0, .inl 0, .inl 0]) H1 := hH
  have hz : H1.size = h + ([.inl (400, fun _ => 0), .inl (201, fun _ => 0)] : List pm_C).length := hz
  refine lv_aload_n hx hb dX3_init_32 rfl (hl.2.2.2 0 _ rfl) ?_
  refine lv_iconst hx hb dX3_init_33 (v := Int32.ofInt (-1)) rfl ?_
  refine ct_put (v := .inl (-1)) (ci := 3) (k := 4) (ty := .int) hx hb hown hts hK rfl (by decide) (pm_WS_mem 285 (by decide +kernel) rfl) hin rfl (by decide +kernel) rfl rfl (Nat.le_of_ble_eq_true rfl) (by show pm_in _; unfold pm_in; omega) hH hS hz dX3_init_34 fun H1 locs1 hH hS hz => ?_
  have hH : pm_Hd G vwCl cI cJ cR (ct_A f h) (ct_st f a h [.inl (400, fun _ => 0), .inl (201, fun _ => 0)] 3 [.inr (.inl (some (h + 0))), .inr (.inl (some (h + 1))), .inl (0), .inl (0), .inl (-1), .inl 0, .inl 0, .inl 0]) H1 := hH
  have hz : H1.size = h + ([.inl (400, fun _ => 0), .inl (201, fun _ => 0)] : List pm_C).length := hz
  refine lv_aload_n hx hb dX3_init_37 rfl (hl.2.2.2 0 _ rfl) ?_
  refine lv_iconst hx hb dX3_init_38 (v := Int32.ofInt (-1)) rfl ?_
  refine ct_put (v := .inl (-1)) (ci := 3) (k := 5) (ty := .int) hx hb hown hts hK rfl (by decide) (pm_WS_mem 287 (by decide +kernel) rfl) hin rfl (by decide +kernel) rfl rfl (Nat.le_of_ble_eq_true rfl) (by show pm_in _; unfold pm_in; omega) hH hS hz dX3_init_39 fun H1 locs1 hH hS hz => ?_
  have hH : pm_Hd G vwCl cI cJ cR (ct_A f h) (ct_st f a h [.inl (400, fun _ => 0), .inl (201, fun _ => 0)] 3 [.inr (.inl (some (h + 0))), .inr (.inl (some (h + 1))), .inl (0), .inl (0), .inl (-1), .inl (-1), .inl 0, .inl 0]) H1 := hH
  have hz : H1.size = h + ([.inl (400, fun _ => 0), .inl (201, fun _ => 0)] : List pm_C).length := hz
  refine lv_aload_n hx hb dX3_init_42 rfl (hl.2.2.2 0 _ rfl) ?_
  refine lv_iconst hx hb dX3_init_43 (v := Int32.ofInt (0)) rfl ?_
  refine ct_put (v := .inl (0)) (ci := 3) (k := 6) (ty := .int) hx hb hown hts hK rfl (by decide) (pm_WS_mem 289 (by decide +kernel) rfl) hin rfl (by decide +kernel) rfl rfl (Nat.le_of_ble_eq_true rfl) (by show pm_in _; unfold pm_in; omega) hH hS hz dX3_init_44 fun H1 locs1 hH hS hz => ?_
  have hH : pm_Hd G vwCl cI cJ cR (ct_A f h) (ct_st f a h [.inl (400, fun _ => 0), .inl (201, fun _ => 0)] 3 [.inr (.inl (some (h + 0))), .inr (.inl (some (h + 1))), .inl (0), .inl (0), .inl (-1), .inl (-1), .inl (0), .inl 0]) H1 := hH
  have hz : H1.size = h + ([.inl (400, fun _ => 0), .inl (201, fun _ => 0)] : List pm_C).length := hz
  refine lv_aload_n hx hb dX3_init_47 rfl (hl.2.2.2 0 _ rfl) ?_
  refine lv_iconst hx hb dX3_init_48 (v := Int32.ofInt (0)) rfl ?_
  refine ct_put (v := .inl (0)) (ci := 3) (k := 7) (ty := .int) hx hb hown hts hK rfl (by decide) (pm_WS_mem 290 (by decide +kernel) rfl) hin rfl (by decide +kernel) rfl rfl (Nat.le_of_ble_eq_true rfl) (by show pm_in _; unfold pm_in; omega) hH hS hz dX3_init_49 fun H1 locs1 hH hS hz => ?_
  have hH : pm_Hd G vwCl cI cJ cR (ct_A f h) (ct_st f a h [.inl (400, fun _ => 0), .inl (201, fun _ => 0)] 3 [.inr (.inl (some (h + 0))), .inr (.inl (some (h + 1))), .inl (0), .inl (0), .inl (-1), .inl (-1), .inl (0), .inl (0)]) H1 := hH
  have hz : H1.size = h + ([.inl (400, fun _ => 0), .inl (201, fun _ => 0)] : List pm_C).length := hz
  refine W.widen (k := 2) (n := 601) (Nat.le_of_ble_eq_true rfl) (Nat.le_of_ble_eq_true rfl) ?_
  exact W.vret hx hb hr (fun t ht _ => ⟨⟨rfl, by rw [ht]; exact hH, by rw [ht]; exact hz⟩, hS.F ht⟩) hS.2.2 dX3_init_52
