section PMXB
variable {p : Program} {l : Launch} {e : Env} {R : Room} {d : Nat} {s : State} {m : MethodId} {args : Array Value} {below : List Frame} {meth : Method} {c : Code} {Q : State → Prop}
variable {G : va_G} {cI cJ : ClassId} {cR : Nat → ClassId} {A : Nat → Prop}
def pm_rmx (d : Nat) : Room := { frames := d + 8, cells := 1, slots := 6, locals := 64 * d + 128 }
/-- what a throw leaves: the pure heap as PX says -/
def pm_XC (G : va_G) (cI cJ : ClassId) (cR : Nat → ClassId) (PX : pm_PX) (f : pm_H) : String → State → State → Prop := fun x st t => ∃ f' : pm_H, PX x f' ∧ pm_Hd G vwCl cI cJ cR (pm_dom f) f' t.heap ∧ va_F (pm_dom f) st t
def pmx_Ct (l : Launch) (sk : Nat → Nat) (y : MethodName) (cc : ByteArray) (maxL : Nat) (ret : Option FieldType) (d : Nat) (T : pm_TX) : Prop :=
  ∀ (sv : Nat → Nat) (G : va_G) (cI cJ : ClassId) (cR : Nat → ClassId) (as : List pm_V) (f : pm_H) (P : pm_P) (PX : pm_PX), T as f P PX → (∀ v ∈ as, pm_ok v) → pmx_Met l y (.code y cc maxL ret :: pm_WS) (pm_rmx d) (pm_Pc sk sv G cI cJ cR as f) (pm_Qc G cI cJ cR P f) (pm_XC G cI cJ cR PX f) 1 6 (pm_dom f)
def pm_nms : List String := ["java/lang/RuntimeException", "java/lang/Exception"]
/-- a throw's site -/
def pm_TOK (own : String) (cc : ByteArray) (pc : Nat) (x : String) : Prop := ∃ ik is ic k : Nat, Bundle.fit x = true ∧ Cond.classLink own ik x ∈ pm_WS ∧ Cond.initialized x ∈ pm_WS ∧ (own, is, k) ∈ pm_SR ∧ (∀ w ∈ vx_atS own ic x pm_nms, w ∈ pm_WS ∨ w ∈ pm_NW) ∧ decode cc pc = .ok (.new ik, 3) ∧ decode cc (pc + 3) = .ok (.dup, 1) ∧
  (decode cc (pc + 4) = .ok (.ldc is, 2) ∧ decode cc (pc + 6) = .ok (.invokespecial ic, 3) ∧ decode cc (pc + 9) = .ok (.athrow, 1) ∨ decode cc (pc + 4) = .ok (.ldc_w is, 3) ∧ decode cc (pc + 7) = .ok (.invokespecial ic, 3) ∧ decode cc (pc + 10) = .ok (.athrow, 1))
theorem pm_NW_tab {w : Cond} (h : w ∈ pm_NW) : w.onTables = true := by
  have h2 := (List.mem_filter.mp h).2
  unfold pm_isN at h2
  split at h2 <;> first | rfl | cases h2
theorem pm_throw {sk sv : Nat → Nat} {own : String} {a0w : Cond} {cc : ByteArray} {f0 : pm_H} {PX : pm_PX} {Qc : Array Value → State → Outcome → State → Prop} (hl : l.stackTraces = false) (hx : p.tables.exec = Jvm.exec) (hb : c.code = cc) (hown : s.vm.findClass own = some m.cls) (hts : ∀ w ∈ a0w :: pm_WS, w.before args s = true) (hK : pm_KK G cI cJ cR s) (hSt : pm_St sk sv (pm_dom f0) s s.heap) (htab : ∀ x ∈ c.exceptionTable.toList, False) (hlocks : meth.locks = false)
    {pc : Nat} {x : String} (hT : pm_TOK own cc pc x) {f : pm_H} {ls : Array Slot} {H : Heap} {locs : List Loc} (hP : PX x f) (hsz : ls.size = c.maxLocals) (hH : pm_Hd G vwCl cI cJ cR (pm_dom f0) f H) (hS : va_S (pm_dom f0) s.heap H locs) :
    W p l e (pm_rmx d) s m args below meth c H locs 0 0 (pmx_MQ below Qc (pm_XC G cI cJ cR PX f0) args s 1 6 (pm_dom f0)) (F0 m pc ls []) := by
  obtain ⟨ik, is, ic, k, h1, w1, w2, w3, w4, d0, d3, hd⟩ := hT
  have ok : ∀ w ∈ pm_WS, w.before args s = true := fun w hw => hts w (List.mem_cons_of_mem _ hw)
  have hat : ∀ w ∈ vx_atS own ic x pm_nms, w.before args s = true := fun w hw => by
    rcases w4 w hw with h | h
    · exact ok w h
    · exact va_Nw.use (pm_NW_tab h) (hK.2 w h)
  have hot : ∀ w : Cond, (w ∈ pm_WS ∨ w ∈ pm_NW) → vx_ot w = true := fun w h => by
    unfold vx_ot
    rcases h with h | h
    · rw [(List.mem_filter.mp h).2, Bool.or_true]
    · rw [pm_NW_tab h, Bool.true_or]
  have hgood : ∀ w ∈ Cond.classLink own ik x :: Cond.initialized x :: vx_atS own ic x pm_nms, vx_ot w = true := fun w hw => by
    rcases List.mem_cons.mp hw with rfl | hw
    · exact hot _ (Or.inl w1)
    · rcases List.mem_cons.mp hw with rfl | hw
      · exact hot _ (Or.inl w2)
      · exact hot _ (w4 w hw)
  have hxc : ∀ t : State, s.vm.Alike t.vm → H.size ≤ t.heap.size → (∀ q : Nat, q < H.size → t.heap[q]? = H[q]?) → pm_XC G cI cJ cR PX f0 x s t := fun t _ hz hk =>
    ⟨f, hP, fun a c0 hc => ⟨pm_at_keep (hH a c0 hc).1 (hk a (pm_Hd_lt (f := f) (hH a c0 hc).1)), (hH a c0 hc).2⟩, Nat.le_trans hS.1 hz, fun q h1 h2 => by rw [hk q (Nat.lt_of_lt_of_le h1 hS.1)]; exact hS.2.1 q h1 h2⟩
  refine pmx_thr ?_
  rcases hd with ⟨d4, d6, d9⟩ | ⟨d4, d7, d10⟩
  · exact vx_throwS hx hb hl (names := pm_nms) hown h1 (by decide) (ok _ w1) (ok _ w2) (hSt.2.1 _ w3) hat hgood hSt.2.2.1 hSt.2.2.2.1 hS hsz d0 d3 d4 d6 d9 (fun y hy => (htab y hy).elim) (by show 2 + 3 < d + 8; omega) (by show 0 + (13 * (2 + 1) + 43) ≤ 64 * d + 128; omega) (Nat.le_refl _) (Nat.le_refl _) hlocks hxc (fun z hz => hS.2.2 z hz) (Nat.le_refl _) (Nat.le_refl _)
  · exact vx_throwSW hx hb hl (names := pm_nms) hown h1 (by decide) (ok _ w1) (ok _ w2) (hSt.2.1 _ w3) hat hgood hSt.2.2.1 hSt.2.2.2.1 hS hsz d0 d3 d4 d7 d10 (fun y hy => (htab y hy).elim) (by show 2 + 3 < d + 8; omega) (by show 0 + (13 * (2 + 1) + 43) ≤ 64 * d + 128; omega) (Nat.le_refl _) (Nat.le_refl _) hlocks hxc (fun z hz => hS.2.2 z hz) (Nat.le_refl _) (Nat.le_refl _)
/-- a callee that may throw is right -/
def pmx_COK (l : Launch) (sk : Nat → Nat) (own : String) (d n k : Nat) (ci : Option Nat) (T : pm_TX) : Prop :=
  ∃ (y : MethodName) (cc : ByteArray) (maxL : Nat) (ret : Option FieldType) (d' i : Nat) (q : vw_C), pmx_Ct l sk y cc maxL ret d' T ∧ d' < d ∧ maxL ≤ 40 ∧ Cond.code y cc maxL ret ∈ pm_WS ∧ Cond.initialized y.cls ∈ pm_WS ∧ (y.cls ≠ "java/lang/invoke/MethodHandle" ∧ y.cls ≠ "java/lang/invoke/VarHandle") ∧
    ci = some i ∧ vwCl[i]? = some q ∧ y.cls = q.1 ∧ 0 < k ∧ (parseMethodDescriptor y.desc).map (fun d => d.parameters.length) = some (k - 1) ∧ Cond.methodLink own n y ∈ pm_WS ∧ Cond.instanceMethod y ∈ pm_WS ∧ Cond.selects q.1 y y ∈ pm_WS
/-- a call of a callee that may throw: what follows its return, and what follows its throw, with the exception over the frame -/
theorem pmx_rule {sk sv : Nat → Nat} {own : String} {a0w : Cond} {cc : ByteArray} {nL : Nat} (hRf : d + 8 ≤ R.frames) (hRl : 64 * d + 128 ≤ R.locals) (hRc : 1 ≤ R.cells) (hRs : 6 ≤ R.slots) (hx : p.tables.exec = Jvm.exec) (hb : c.code = cc) (hml : c.maxLocals = nL) (hown : s.vm.findClass own = some m.cls) (hts : ∀ w ∈ a0w :: pm_WS, w.before args s = true) (hK : pm_KK G cI cJ cR s) (hSt : pm_St sk sv A s s.heap) {n k : Nat} {ci : Option Nat} {T : pm_TX} (hc : pmx_COK l sk own d n k ci T)
    {pc : Nat} {as r : List pm_V} {f : pm_H} {P' : pm_P} {PX' : pm_PX} {ls : Array Slot} {H : Heap} {locs : List Loc} (hd : decode cc pc = .ok (.invokevirtual n, 3)) (hlen : as.length = k) (hrcv : pm_rcv ci f as) (hcat : pm_cat r ≤ 8) (hT : T as f P' PX') (hok : ∀ v ∈ as, pm_ok v) (hsz : ls.size = nL) (hH : pm_Hd G vwCl cI cJ cR A f H) (hS : va_S A s.heap H locs)
    (kk : ∀ (v : Option pm_V) (f' : pm_H) (H' : Heap) (locs' : List Loc), P' v f' → (∀ w ∈ v.toList, pm_ok w) → pm_Hd G vwCl cI cJ cR A f' H' → va_S A s.heap H' locs' → W p l e R s m args below meth c H' locs' 0 0 Q (F0 m (pc + 3) ls ((v.toList ++ r).map pm_cv)))
    (kx : ∀ (x : String) (f' : pm_H) (H' : Heap) (locs' : List Loc) (q : Addr) (ce : Cell), PX' x f' → pm_Hd G vwCl cI cJ cR A f' H' → va_S A s.heap H' locs' → H'[q]? = some ce → ce.vm = .none → s.vm.findClass x = some ce.cls → vx_W p l e R s m args below meth c H' locs' 1 6 Q (F0 m pc ls (r.map pm_cv)) q) : W p l e R s m args below meth c H locs 0 0 Q (F0 m pc ls ((as.reverse ++ r).map pm_cv)) := by
  have ok : ∀ w ∈ pm_WS, w.before args s = true := fun w hw => hts w (List.mem_cons_of_mem _ hw)
  have hcat' : ((r.map pm_cv).map fun v => v.category).sum ≤ 8 := by
    have : ((r.map pm_cv).map fun v => v.category).sum = pm_cat r := by unfold pm_cat; rw [List.map_map]; rfl
    rw [this]
    exact hcat
  obtain ⟨y, cc', maxL, ret, d', i, q, hCt, hdd, hmx, wc, wi, hne, rfl, hq, hyq, hk0, hpar, v1, v2, v3⟩ := hc
  have hR : (pm_rmx d').frames + 1 ≤ R.frames ∧ 8 + (maxL + 11) + (pm_rmx d').locals ≤ R.locals := ⟨by refine Nat.le_trans ?_ hRf; show d' + 8 + 1 ≤ d + 8; omega, by refine Nat.le_trans ?_ hRl; show 8 + (maxL + 11) + (64 * d' + 128) ≤ 64 * d + 128; omega⟩
  have hG : GoodIn (a0w :: pm_WS) (.code y cc' maxL ret :: pm_WS) := pm_goodIn fun w hw => (List.mem_cons.mp hw).elim (fun h => h ▸ wc) id
  obtain ⟨b, fs, as', rfl, hfb⟩ := hrcv.resolve_left (fun z => by rw [z] at hq; simp [vwCl] at hq)
  simp only [List.length_cons] at hlen
  have hps := pm_preS (as := .inr (.inl (some b)) :: as') hH hS hK hSt
  have hr := pmx_runV (cells := 0) (slots := 0) (locs := locs) (below := below) (p := p) (e := e) (meth := meth) (R := R) (C := q.1) (b := b) (As := as'.map pm_cv) (rest := r.map pm_cv) (n := k - 1) (g := F0 m pc ls (((Sum.inr (Sum.inl (some b)) :: as').reverse ++ r).map pm_cv)) ⟨hx, hb, hml, hown, hts⟩ (hCt sv G cI cJ cR _ f P' PX' hT hok) ⟨callB_of (k - 1) hts hG rfl rfl rfl (ok _ wi) (ok _ v1) ⟨hne.1, hne.2, hpar⟩ hR, ok _ v2, ok _ v3⟩ ⟨hps.1, pm_recv hH hK hfb hq, hps.2⟩ rfl (by rw [List.length_map]; omega) hsz (by simp [pm_cv, va_rf]) (lv_room hcat') hd ⟨by rw [Nat.zero_add]; exact hRc, by rw [Nat.zero_add]; exact hRs⟩
  have hA : ∀ q, pm_dom f q → A q := fun q ⟨c0, hc⟩ => (hH q c0 hc).2.1
  have hkeep : ∀ {st₀ t T' : State} {L : List Loc}, st₀.heap = H → T'.heap = t.heap → (∀ q ∈ L, pm_dom f q.base) → va_F (pm_dom f) st₀ t → va_S A s.heap T'.heap (locs ++ L) := fun {st₀ t T' L} h0 e1 hL hF => (vx_keep h0 e1 hS (fun q _ h => hA q h) hA hL hF).2.2
  intro T0 hT0 X
  rcases hr T0 hT0 X with ⟨v, st₀, t, T', L, h0, X', hL, e1, e2, ⟨⟨w, f', hv, hp, hok', hb'⟩, hF⟩, st⟩ | ⟨q9, st₀, t, T', L, x, ce, h0, X', hL, e1, e2, ⟨f', hpx, hb', hF⟩, hce, hcv, hcl, st⟩
  · cases hv
    obtain ⟨t2, a1, b1⟩ := kk w f' T'.heap (locs ++ L) hp hok' (by rw [e1]; exact fun q c0 hc => ⟨(hb' q c0 hc).1, hA q (hb' q c0 hc).2.1, (hb' q c0 hc).2.2⟩) (hkeep h0 e1 hL hF) T' rfl X'
    refine ⟨t2, st t2 ?_, b1⟩
    have e3 : (Option.map pm_cv w).toList ++ r.map pm_cv = (w.toList ++ r).map pm_cv := by cases w <;> simp
    rw [e3]
    exact a1
  · obtain ⟨t2, a1, b1⟩ := kx x f' T'.heap (locs ++ L) q9 ce hpx (by rw [e1]; exact fun q c0 hc => ⟨(hb' q c0 hc).1, hA q (hb' q c0 hc).2.1, (hb' q c0 hc).2.2⟩) (hkeep h0 e1 hL hF) (by rw [e1]; exact hce) hcv hcl T' rfl X'
    exact ⟨t2, st.trans a1, b1⟩
def pmx_M (E : pm_E) (maxL : Nat) : pm_TX := fun as f P PX => (pm_put as).length ≤ maxL ∧ pm_W E P PX 0 (pm_init maxL as) [] f
set_option maxHeartbeats 4000000 in
theorem pmx_met {l : Launch} {sk : Nat → Nat} {y : MethodName} {cc : ByteArray} {maxL d : Nat} {ret : Option FieldType} (hlt : l.stackTraces = false) (E : pm_E) (hy : plainName y.cls = true) (hB : pm_eB E = cc) (hR : pm_eR E = ret) (hTn : ∀ pc x, pm_eT E pc = some x → pm_TOK y.cls cc pc x) (hXn : ∀ n k ci T, pm_eX E n = some (k, ci, T) → pmx_COK l sk y.cls d n k ci T)
    (hF : ∀ n ci k w, pm_eF E n = some (ci, k, w) → pm_FOK y.cls n ci k w) (hKc : ∀ n v, pm_eK E n = some v → pm_KOK sk y.cls n v) (hC : ∀ n k ci T, pm_eC E n = some (k, ci, T) → pm_COK l sk y.cls d n k ci T) : pmx_Ct l sk y cc maxL ret d (pmx_M E maxL) := by
  intro sv G cI cJ cR as f P PX ⟨hlen, hW⟩ hok
  refine pmx_ofW (cc := cc) (maxL := maxL) (ret := ret) hy rfl ?_
  intro p e s m args below meth c s₁ B hml htab hv
  obtain ⟨rfl, hHd, hK, hSt⟩ := hv
  have hx := B.exec
  have hb : c.code = pm_eB E := by rw [hB]; exact B.bytes
  have hr := B.returns
  have hts := atoms_spec (ws := .code y cc maxL ret :: pm_WS) B.pre
  have hown : s.vm.findClass y.cls = some m.cls := findClass_of_methodNamed B.named
  have hlocks := B.notSynchronized
  have hH0 : pm_Hd G vwCl cI cJ cR (pm_dom f) f s.heap := fun a c0 hc => ⟨(hHd a c0 hc).1, ⟨c0, hc⟩, (hHd a c0 hc).2.2⟩
  have hI := (hK.1.2 0 _ rfl).1
  have hJ := (hK.1.2 1 _ rfl).1
  have hKR : ∀ k : Nat, k < 2 → ∃ q : vw_C, vwCl[k]? = some q ∧ ArrOfT s (cR k) (.object q.1) ∧ va_RA s (cR k) (.object q.1) ∧ ClassAt s q.1 (G.1 k) := by
    intro k hk
    match k, hk with
    | 0, _ => exact ⟨_, rfl, (hK.1.2 2 _ rfl).1, (hK.1.2 2 _ rfl).2, (hK.1.1 0 _ rfl).2⟩
    | 1, _ => exact ⟨_, rfl, (hK.1.2 3 _ rfl).1, (hK.1.2 3 _ rfl).2, (hK.1.1 1 _ rfl).2⟩
  have key := hW (pm_XW p l e (pm_rmx d) s m ((as.map pm_cv).toArray) below meth c 0 0 (pmx_MQ below (pm_Qc G cI cJ cR P f) (pm_XC G cI cJ cR PX f) ((as.map pm_cv).toArray) s 1 6 (pm_dom f)) G vwCl cI cJ cR (pm_dom f) maxL) ?_
  · have k2 := key (fun i v hv => pm_put_ok as hok i v (pm_lg_app _ _ _ _ hv)) (fun v hv => by cases hv) _ s.heap [] (pm_entry hlen) hH0 va_S.rf
    rw [lg_entry_eq]
    exact k2
  · intro pc lv st f0 hs0
    unfold pm_S pm_D at hs0
    split at hs0
    · rename_i i len hd
      have hq : ∀ (v : Option pm_V) (f1 : pm_H) (H : Heap) (locs : List Loc), P v f1 → (∀ w ∈ v.toList, pm_ok w) → pm_Hd G vwCl cI cJ cR (pm_dom f) f1 H → va_S (pm_dom f) s.heap H locs → ∀ t : State, t.heap = H → s.WarmedH t.vm → pm_Qc G cI cJ cR P f ((as.map pm_cv).toArray) s (.returned (v.map pm_cv)) t :=
        fun v f1 H locs hp ho h1 hS t ht _ => ⟨⟨v, f1, rfl, hp, ho, by rw [ht]; exact h1⟩, hS.F ht⟩
      refine pm_go_s hx hb hI hJ hKR (fun n ci k b hF0 pc ls rest H locs a fs v h1 h2 h3 h4 => pm_get hx hb hown hts hK (hF _ _ _ _ hF0) h1 h2 h3 h4) (fun n ci k b hF0 pc ls rest H locs a fs v x h1 h2 h3 h4 h5 => pm_put' hx hb hown hts hK (hF _ _ _ _ hF0) h1 h2 h3 h4 h5) (fun n v hv => pm_kc hx hb hown hts hSt (hKc n v hv)) (fun n k ci T hc pc as' r f' P' ls H locs h1 h2 h3 h4 h5 h6 h7 h8 h9 h10 => pm_rule (d := d) (R := pm_rmx d) (Nat.le_add_right d 8) (Nat.le_add_right _ 128) (Nat.zero_le _) (Nat.zero_le _) hx hb hml hown hts hK hSt (hC _ _ _ _ hc) h1 h2 h3 h4 h5 h6 h7 h8 h9 h10)
        (fun n k ci T hc pc as' r f' P' PX' ls H locs h0 h1 h2 h3 h4 h5 h6 h7 h8 h9 h10 h11 => pmx_rule (d := d) (R := pm_rmx d) (Nat.le_refl _) (Nat.le_refl _) (Nat.le_refl _) (Nat.le_refl _) hx hb hml hown hts hK hSt (hXn _ _ _ _ hc) h1 h2 h3 h4 h5 h6 h7 h8 h9 h10 (fun x f1 H1 locs1 q ce hp hh hs hq1 hq2 hq3 => pmx_thrW (vx_out (fun y hy => (htab y hy).elim) hlocks hq1 hq2 hq3 (fun t ht _ => ⟨f1, h11 _ _ hp, by rw [ht]; exact hh, hs.F ht⟩) (fun z hz => hs.2.2 z hz) (Nat.le_refl _) (Nat.le_refl _))))
        (fun pc n x hx' hd' f1 ls H locs hp hsz hh hs => pm_throw hlt hx hb hown hts hK hSt htab hlocks (hB ▸ hTn _ _ hx') hp (hsz.trans hml.symm) hh hs) ?_ ?_ ?_ ?_ hd hs0
      · intro pc z f1 ls H locs h1 h2 hz hp h3 hS
        rcases h2 with h2 | ⟨h2, h4⟩
        · exact pmx_ret (W.iret hx hb (hr.trans (hR.symm.trans h2)) (hq (some (.inl z)) f1 H locs hp (fun w hw => by simp at hw; subst hw; exact hz) h3 hS) hS.2.2 h1)
        · exact pmx_ret (W.zret hx hb (hr.trans (hR.symm.trans h2)) (by rcases h4 with rfl | rfl <;> rfl) (hq (some (.inl z)) f1 H locs hp (fun w hw => by simp at hw; subst hw; exact hz) h3 hS) hS.2.2 h1)
      · intro pc a f1 ls H locs h1 h2 hp h3 hS
        have hrt : ∃ rt, pm_eR E = some rt ∧ ((∃ n, rt = .object n) ∨ ∃ t, rt = .array t) := by
          unfold pm_isR at h2
          split at h2
          · rename_i n he; exact ⟨_, he, Or.inl ⟨_, rfl⟩⟩
          · rename_i n he; exact ⟨_, he, Or.inr ⟨_, rfl⟩⟩
          · exact h2.elim
        obtain ⟨rt, e1, e2⟩ := hrt
        exact pmx_ret (W.aret hx hb (hr.trans (hR.symm.trans e1)) e2 (Or.inr ⟨a, rfl⟩) (hq (some (.inr (.inl (some a)))) f1 H locs hp (fun w hw => by simp at hw; subst hw; trivial) h3 hS) hS.2.2 h1)
      · intro pc a f1 ls H locs h1 h2 hp h3 hS
        exact pmx_ret (W.lret hx hb (hr.trans (hR.symm.trans h2)) (hq (some (.inr (.inr a))) f1 H locs hp (fun w hw => by simp at hw; subst hw; trivial) h3 hS) hS.2.2 h1)
      · intro pc f1 ls H locs h1 h2 hp h3 hS
        exact pmx_ret (W.vret hx hb (hr.trans (hR.symm.trans h2)) (hq none f1 H locs hp (fun w hw => by simp at hw) h3 hS) hS.2.2 h1)
    · exact hs0.elim
end PMXB
