section PNY
variable {p : Program} {l : Launch} {e : Env} {R : Room} {d : Nat} {s : State} {m : MethodId} {args : Array Value} {below : List Frame} {meth : Method} {c : Code} {Q : State → Prop}
variable {G : va_G} {cI cJ : ClassId} {cR : Nat → ClassId} {A : Nat → Prop}
/-- the site of a NoSuchElementException's throw -/
def pn_TOK (own : String) (cc : ByteArray) (pc : Nat) (x : String) : Prop := x = vn_X ∧ ∃ ik is ic k : Nat, Cond.classLink own ik vn_X ∈ pm_WS ∧ Cond.initialized vn_X ∈ pm_WS ∧ (own, is, k) ∈ pm_SR ∧ (∀ w ∈ vn_at own ic, w ∈ pm_WS ∨ w ∈ pm_NW) ∧ decode cc pc = .ok (.new ik, 3) ∧ decode cc (pc + 3) = .ok (.dup, 1) ∧ decode cc (pc + 4) = .ok (.ldc is, 2) ∧ decode cc (pc + 6) = .ok (.invokespecial ic, 3) ∧ decode cc (pc + 9) = .ok (.athrow, 1)
theorem pn_at {own : String} {ic : Nat} (h : (vn_at own ic).all (fun w => lw_tbl.contains w && (goodWord w || pm_isN w)) = true) : ∀ w ∈ vn_at own ic, w ∈ pm_WS ∨ w ∈ pm_NW := by
  intro w hw
  have h1 := List.all_eq_true.mp h w hw
  rw [Bool.and_eq_true, Bool.or_eq_true] at h1
  rcases h1.2 with h2 | h2
  · exact Or.inl (List.mem_filter.mpr ⟨List.contains_iff_mem.mp h1.1, h2⟩)
  · exact Or.inr (List.mem_filter.mpr ⟨List.contains_iff_mem.mp h1.1, h2⟩)
theorem pn_throw {sk sv : Nat → Nat} {own : String} {a0w : Cond} {cc : ByteArray} {f0 : pm_H} {PX : pm_PX} {Qc : Array Value → State → Outcome → State → Prop} (hl : l.stackTraces = false) (hx : p.tables.exec = Jvm.exec) (hb : c.code = cc) (hown : s.vm.findClass own = some m.cls) (hts : ∀ w ∈ a0w :: pm_WS, w.before args s = true) (hK : pm_KK G cI cJ cR s) (hSt : pm_St sk sv (pm_dom f0) s s.heap) (htab : ∀ x ∈ c.exceptionTable.toList, False) (hlocks : meth.locks = false)
    {pc : Nat} {x : String} (hT : pn_TOK own cc pc x) {f : pm_H} {ls : Array Slot} {H : Heap} {locs : List Loc} (hP : PX x f) (hsz : ls.size = c.maxLocals) (hH : pm_Hd G vwCl cI cJ cR (pm_dom f0) f H) (hS : va_S (pm_dom f0) s.heap H locs) :
    W p l e (pm_rmx d) s m args below meth c H locs 0 0 (pmx_MQ below Qc (pm_XC G cI cJ cR PX f0) args s 1 6 (pm_dom f0)) (F0 m pc ls []) := by
  obtain ⟨rfl, ik, is, ic, k, w1, w2, w3, w4, d0, d3, d4, d6, d9⟩ := hT
  have ok : ∀ w ∈ pm_WS, w.before args s = true := fun w hw => hts w (List.mem_cons_of_mem _ hw)
  have hat : ∀ w ∈ vn_at own ic, w.before args s = true := fun w hw => by
    rcases w4 w hw with h | h
    · exact ok w h
    · exact va_Nw.use (pm_NW_tab h) (hK.2 w h)
  have hot : ∀ w : Cond, (w ∈ pm_WS ∨ w ∈ pm_NW) → vx_ot w = true := fun w h => by
    unfold vx_ot
    rcases h with h | h
    · rw [(List.mem_filter.mp h).2, Bool.or_true]
    · rw [pm_NW_tab h, Bool.true_or]
  have hgood : ∀ w ∈ Cond.classLink own ik vn_X :: Cond.initialized vn_X :: vn_at own ic, vx_ot w = true := fun w hw => by
    rcases List.mem_cons.mp hw with rfl | hw
    · exact hot _ (Or.inl w1)
    · rcases List.mem_cons.mp hw with rfl | hw
      · exact hot _ (Or.inl w2)
      · exact hot _ (w4 w hw)
  have hxc : ∀ t : State, s.vm.Alike t.vm → H.size ≤ t.heap.size → (∀ q : Nat, q < H.size → t.heap[q]? = H[q]?) → pm_XC G cI cJ cR PX f0 vn_X s t := fun t _ hz hk =>
    ⟨f, hP, fun a c0 hc => ⟨pm_at_keep (hH a c0 hc).1 (hk a (pm_Hd_lt (f := f) (hH a c0 hc).1)), (hH a c0 hc).2⟩, Nat.le_trans hS.1 hz, fun q h1 h2 => by rw [hk q (Nat.lt_of_lt_of_le h1 hS.1)]; exact hS.2.1 q h1 h2⟩
  exact pmx_thr (vn_throw hx hb hl hown (ok _ w1) (ok _ w2) (hSt.2.1 _ w3) hat hgood hSt.2.2.1 hSt.2.2.2.1 hS hsz d0 d3 d4 d6 d9 (fun y hy => (htab y hy).elim) (by show 5 < d + 8; omega) (by show 82 ≤ 64 * d + 128; omega) (Nat.le_refl _) (Nat.le_refl _) hlocks hxc (fun z hz => hS.2.2 z hz) (Nat.le_refl _) (Nat.le_refl _))
set_option maxHeartbeats 4000000 in
theorem pmy_met {l : Launch} {sk : Nat → Nat} {y : MethodName} {cc : ByteArray} {maxL d : Nat} {ret : Option FieldType} (hlt : l.stackTraces = false) (E : pm_E) (hy : plainName y.cls = true) (hB : pm_eB E = cc) (hR : pm_eR E = ret) (hTn : ∀ pc x, pm_eT E pc = some x → pm_TOK y.cls cc pc x ∨ pn_TOK y.cls cc pc x) (hXn : ∀ n k ci T, pm_eX E n = some (k, ci, T) → pmx_COK l sk y.cls d n k ci T)
    (hF : ∀ n ci k w, pm_eF E n = some (ci, k, w) → pm_FOK y.cls n ci k w) (hKc : ∀ n v, pm_eK E n = some v → pm_KOK sk y.cls n v) (hC : ∀ n k ci T, pm_eC E n = some (k, ci, T) → pm_COK l sk y.cls d n k ci T) : pmx_Ct l sk y cc maxL ret d (pmx_M E maxL) := by
  intro sv G cI cJ cR as f P PX ⟨hlen, hW⟩ hok
  refine pmx_ofW (cc := cc) (maxL := maxL) (ret := ret) hy rfl ?_
  intro p e s m args below meth c s₁ B hml htab hv
  obtain ⟨rfl, hHd, hK, hSt⟩ := hv
  have hx := B.exec
  have hb : c.code = pm_eB E := by rw [hB]; exact B.bytes
  have hr := B.returns
  have hts := atoms_spec (ws := .code y cc maxL ret :: pm_WS) B.pre
  have hown : s.vm.findClass y.cls = some m.cls := findClass_of_methodNamed B.named
  have hlocks := B.notSynchronized
  have hH0 : pm_Hd G vwCl cI cJ cR (pm_dom f) f s.heap := fun a c0 hc => ⟨(hHd a c0 hc).1, ⟨c0, hc⟩, (hHd a c0 hc).2.2⟩
  have hI := (hK.1.2 0 _ rfl).1
  have hJ := (hK.1.2 1 _ rfl).1
  have hKR : ∀ k : Nat, k < 2 → ∃ q : vw_C, vwCl[k]? = some q ∧ ArrOfT s (cR k) (.object q.1) ∧ va_RA s (cR k) (.object q.1) ∧ ClassAt s q.1 (G.1 k) := by
    intro k hk
    match k, hk with
    | 0, _ => exact ⟨_, rfl, (hK.1.2 2 _ rfl).1, (hK.1.2 2 _ rfl).2, (hK.1.1 0 _ rfl).2⟩
    | 1, _ => exact ⟨_, rfl, (hK.1.2 3 _ rfl).1, (hK.1.2 3 _ rfl).2, (hK.1.1 1 _ rfl).2⟩
  have key := hW (pm_XW p l e (pm_rmx d) s m ((as.map pm_cv).toArray) below meth c 0 0 (pmx_MQ below (pm_Qc G cI cJ cR P f) (pm_XC G cI cJ cR PX f) ((as.map pm_cv).toArray) s 1 6 (pm_dom f)) G vwCl cI cJ cR (pm_dom f) maxL) ?_
  · have k2 := key (fun i v hv => pm_put_ok as hok i v (pm_lg_app _ _ _ _ hv)) (fun v hv => by cases hv) _ s.heap [] (pm_entry hlen) hH0 va_S.rf
    rw [lg_entry_eq]
    exact k2
  · intro pc lv st f0 hs0
    unfold pm_S pm_D at hs0
    split at hs0
    · rename_i i len hd
      have hq : ∀ (v : Option pm_V) (f1 : pm_H) (H : Heap) (locs : List Loc), P v f1 → (∀ w ∈ v.toList, pm_ok w) → pm_Hd G vwCl cI cJ cR (pm_dom f) f1 H → va_S (pm_dom f) s.heap H locs → ∀ t : State, t.heap = H → s.WarmedH t.vm → pm_Qc G cI cJ cR P f ((as.map pm_cv).toArray) s (.returned (v.map pm_cv)) t :=
        fun v f1 H locs hp ho h1 hS t ht _ => ⟨⟨v, f1, rfl, hp, ho, by rw [ht]; exact h1⟩, hS.F ht⟩
      refine pm_go_s hx hb hI hJ hKR (fun n ci k b hF0 pc ls rest H locs a fs v h1 h2 h3 h4 => pm_get hx hb hown hts hK (hF _ _ _ _ hF0) h1 h2 h3 h4) (fun n ci k b hF0 pc ls rest H locs a fs v x h1 h2 h3 h4 h5 => pm_put' hx hb hown hts hK (hF _ _ _ _ hF0) h1 h2 h3 h4 h5) (fun n v hv => pm_kc hx hb hown hts hSt (hKc n v hv)) (fun n k ci T hc pc as' r f' P' ls H locs h1 h2 h3 h4 h5 h6 h7 h8 h9 h10 => pm_rule (d := d) (R := pm_rmx d) (Nat.le_add_right d 8) (Nat.le_add_right _ 128) (Nat.zero_le _) (Nat.zero_le _) hx hb hml hown hts hK hSt (hC _ _ _ _ hc) h1 h2 h3 h4 h5 h6 h7 h8 h9 h10)
        (fun n k ci T hc pc as' r f' P' PX' ls H locs h0 h1 h2 h3 h4 h5 h6 h7 h8 h9 h10 h11 => pmx_rule (d := d) (R := pm_rmx d) (Nat.le_refl _) (Nat.le_refl _) (Nat.le_refl _) (Nat.le_refl _) hx hb hml hown hts hK hSt (hXn _ _ _ _ hc) h1 h2 h3 h4 h5 h6 h7 h8 h9 h10 (fun x f1 H1 locs1 q ce hp hh hs hq1 hq2 hq3 => pmx_thrW (vx_out (fun y hy => (htab y hy).elim) hlocks hq1 hq2 hq3 (fun t ht _ => ⟨f1, h11 _ _ hp, by rw [ht]; exact hh, hs.F ht⟩) (fun z hz => hs.2.2 z hz) (Nat.le_refl _) (Nat.le_refl _))))
        (fun pc n x hx' hd' f1 ls H locs hp hsz hh hs => (hB ▸ hTn _ _ hx').elim (fun z => pm_throw hlt hx hb hown hts hK hSt htab hlocks z hp (hsz.trans hml.symm) hh hs) (fun z => pn_throw hlt hx hb hown hts hK hSt htab hlocks z hp (hsz.trans hml.symm) hh hs)) ?_ ?_ ?_ ?_ hd hs0
      · intro pc z f1 ls H locs h1 h2 hz hp h3 hS
        rcases h2 with h2 | ⟨h2, h4⟩
        · exact pmx_ret (W.iret hx hb (hr.trans (hR.symm.trans h2)) (hq (some (.inl z)) f1 H locs hp (fun w hw => by simp at hw; subst hw; exact hz) h3 hS) hS.2.2 h1)
        · exact pmx_ret (W.zret hx hb (hr.trans (hR.symm.trans h2)) (by rcases h4 with rfl | rfl <;> rfl) (hq (some (.inl z)) f1 H locs hp (fun w hw => by simp at hw; subst hw; exact hz) h3 hS) hS.2.2 h1)
      · intro pc a f1 ls H locs h1 h2 hp h3 hS
        have hrt : ∃ rt, pm_eR E = some rt ∧ ((∃ n, rt = .object n) ∨ ∃ t, rt = .array t) := by
          unfold pm_isR at h2
          split at h2
          · rename_i n he; exact ⟨_, he, Or.inl ⟨_, rfl⟩⟩
          · rename_i n he; exact ⟨_, he, Or.inr ⟨_, rfl⟩⟩
          · exact h2.elim
        obtain ⟨rt, e1, e2⟩ := hrt
        exact pmx_ret (W.aret hx hb (hr.trans (hR.symm.trans e1)) e2 (Or.inr ⟨a, rfl⟩) (hq (some (.inr (.inl (some a)))) f1 H locs hp (fun w hw => by simp at hw; subst hw; trivial) h3 hS) hS.2.2 h1)
      · intro pc a f1 ls H locs h1 h2 hp h3 hS
        exact pmx_ret (W.lret hx hb (hr.trans (hR.symm.trans h2)) (hq (some (.inr (.inr a))) f1 H locs hp (fun w hw => by simp at hw; subst hw; trivial) h3 hS) hS.2.2 h1)
      · intro pc f1 ls H locs h1 h2 hp h3 hS
        exact pmx_ret (W.vret hx hb (hr.trans (hR.symm.trans h2)) (hq none f1 H locs hp (fun w hw => by simp at hw) h3 hS) hS.2.2 h1)
    · exact hs0.elim
end PNY
