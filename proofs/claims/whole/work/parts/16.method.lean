section PMN
variable {p : Program} {l : Launch} {e : Env} {R : Room} {d cells slots : Nat} {s : State} {m : MethodId} {args : Array Value} {below : List Frame} {meth : Method} {c : Code} {Q : State → Prop}
variable {G : va_G} {cI cJ : ClassId} {cR : Nat → ClassId} {A : Nat → Prop}
def pm_FOK (own : String) (n ci k w : Nat) : Prop := ∃ q : vw_C, vwCl[ci]? = some q ∧ k < q.2.2 ∧ (Cond.fieldLink own n (q.2.1 k).1 (q.2.1 k).2.1 (q.2.1 k).2.2.1 ∈ pm_WS ∨ ∃ host, Cond.fieldLinkNest own n (q.2.1 k).1 (q.2.1 k).2.1 (q.2.1 k).2.2.1 host ∈ pm_NW) ∧ (w = 1 → (q.2.1 k).2.2.2 = false ∧ (q.2.1 k).2.2.1 = "I") ∧ (w = 2 → (q.2.1 k).2.2.2 = false ∧ (q.2.1 k).2.2.1 = "Z")
def pm_KOK (sk : Nat → Nat) (own : String) (n : Nat) (v : pm_V) : Prop := (∃ k, v = .inr (.inl (some (sk k))) ∧ (own, n, k) ∈ pm_SR) ∨ (∃ z, v = .inl z ∧ pm_in z ∧ Cond.constant own n (Int32.ofInt z) ∈ pm_WS) ∨ ∃ x, v = .inr (.inr x) ∧ Cond.constantLong own n x ∈ pm_WS
theorem pm_fl (C : String) (T : u_T) (N : Nat) (h : (u_ws C T N).all (fun w => lw_tbl.contains w && goodWord w) = true) : ∀ w ∈ u_ws C T N, w ∈ pm_WS := fun w hw => by
  have := List.all_eq_true.mp h w hw
  rw [Bool.and_eq_true] at this
  exact List.mem_filter.mpr ⟨List.contains_iff_mem.mp this.1, this.2⟩
theorem pm_fl0 : ∀ w ∈ u_ws RX0 TX0 2, w ∈ pm_WS := pm_fl _ _ _ (by decide +kernel)
theorem pm_fl1 : ∀ w ∈ u_ws RX1 TX1 17, w ∈ pm_WS := pm_fl _ _ _ (by decide +kernel)
theorem pm_fl2 : ∀ w ∈ u_ws RX2 TX2 5, w ∈ pm_WS := pm_fl _ _ _ (by decide +kernel)
theorem pm_fl3 : ∀ w ∈ u_ws RX3 TX3 8, w ∈ pm_WS := pm_fl _ _ _ (by decide +kernel)
theorem pm_fl4 : ∀ w ∈ u_ws RX4 TX4 10, w ∈ pm_WS := pm_fl _ _ _ (by decide +kernel)
theorem pm_fl5 : ∀ w ∈ u_ws RX5 TX5 26, w ∈ pm_WS := pm_fl _ _ _ (by decide +kernel)
theorem pm_cls {ci : Nat} {q : vw_C} (h : vwCl[ci]? = some q) : (∀ w ∈ u_ws q.1 q.2.1 q.2.2, w ∈ pm_WS) ∧ (∃ ty0 : Nat → FieldType, ∀ k, k < q.2.2 → parseFieldDescriptor (q.2.1 k).2.2.1 = some (ty0 k)) ∧ ∀ a, a < q.2.2 → ∀ b, b < q.2.2 → a ≠ b → (q.2.1 a).2.1 ≠ (q.2.1 b).2.1 := by
  match ci, h with
  | 0, h => cases h; exact ⟨pm_fl0, ⟨tyX0, tyX0_ok⟩, nmX0⟩
  | 1, h => cases h; exact ⟨pm_fl1, ⟨tyX1, tyX1_ok⟩, nmX1⟩
  | 2, h => cases h; exact ⟨pm_fl2, ⟨tyX2, tyX2_ok⟩, nmX2⟩
  | 3, h => cases h; exact ⟨pm_fl3, ⟨tyX3, tyX3_ok⟩, nmX3⟩
  | 4, h => cases h; exact ⟨pm_fl4, ⟨tyX4, tyX4_ok⟩, nmX4⟩
  | 5, h => cases h; exact ⟨pm_fl5, ⟨tyX5, tyX5_ok⟩, nmX5⟩
  | k + 6, h => simp [vwCl] at h
theorem pm_get {own : String} {a0w : Cond} {cc : ByteArray} (hx : p.tables.exec = Jvm.exec) (hb : c.code = cc) (hown : s.vm.findClass own = some m.cls) (hts : ∀ w ∈ a0w :: pm_WS, w.before args s = true) (hK : pm_KK G cI cJ cR s) {n ci k w : Nat} (hF : pm_FOK own n ci k w)
    {pc : Nat} {ls : Array Slot} {rest : List Value} {H : Heap} {locs : List Loc} {a : Nat} {fs : List Value} {v : Value} (hd : decode cc pc = .ok (.getfield n, 3)) (hat : va_at G vwCl (a, .inr (ci, fs)) H) (hv : fs[k]? = some v)
    (kk : W p l e R s m args below meth c H locs cells slots Q (F0 m (pc + 3) ls (v :: rest))) : W p l e R s m args below meth c H locs cells slots Q (F0 m pc ls (.ref a :: rest)) := by
  obtain ⟨⟨C, T, N⟩, hq, hk, hl, -⟩ := hF
  have hP : va_P G vwCl [(a, .inr (ci, fs))] H := fun j q hj => by
    cases j with
    | zero => cases hj; exact hat
    | succ j => simp at hj
  have hin : ∀ w ∈ u_ws C T N, w ∈ a0w :: pm_WS := fun w hw => List.mem_cons_of_mem _ ((pm_cls hq).1 w hw)
  rcases hl with hl | ⟨host, hl⟩
  · exact va_get hx hb hts hin hown hK.1 hP 0 rfl hq k hk (hts _ (List.mem_cons_of_mem _ hl)) (fun _ h => h) hv hd kk
  · exact va_getN hx hb hts hin hown hK.1 hP 0 rfl hq k hk (va_Nw.use rfl (hK.2 _ hl)) (fun _ h => h) hv hd kk
theorem pm_put' {own : String} {a0w : Cond} {cc : ByteArray} (hx : p.tables.exec = Jvm.exec) (hb : c.code = cc) (hown : s.vm.findClass own = some m.cls) (hts : ∀ w ∈ a0w :: pm_WS, w.before args s = true) (hK : pm_KK G cI cJ cR s) {n ci k w : Nat} (hF : pm_FOK own n ci k w)
    {pc : Nat} {ls : Array Slot} {rest : List Value} {H : Heap} {locs : List Loc} {a : Nat} {fs : List Value} {v0 : Value} {x : Int} (hd : decode cc pc = .ok (.putfield n, 3)) (hat : va_at G vwCl (a, .inr (ci, fs)) H) (hv : fs[k]? = some v0) (hft : pm_fit w x)
    (kk : ∀ (H1 : Heap) (j : Nat), va_at G vwCl (a, .inr (ci, fs.set k (.int (Int32.ofInt x)))) H1 → H1.size = H.size → (∀ q : Nat, q ≠ a → H1[q]? = H[q]?) → W p l e R s m args below meth c H1 (locs ++ [⟨a, j⟩]) cells slots Q (F0 m (pc + 3) ls rest)) : W p l e R s m args below meth c H locs cells slots Q (F0 m pc ls (.int (Int32.ofInt x) :: .ref a :: rest)) := by
  obtain ⟨⟨C, T, N⟩, hq, hk, hl, hw1, hw2⟩ := hF
  have hfd : (T k).2.2.2 = false ∧ ∃ ty, parseFieldDescriptor (T k).2.2.1 = some ty ∧ narrow ty (.int (Int32.ofInt x)) = .int (Int32.ofInt x) ∧ fits ty (.int (Int32.ofInt x)) = true := by
    rcases hft with ⟨h | h, h2⟩
    · obtain ⟨g1, g2⟩ := hw1 h
      refine ⟨g1, .int, ?_, rfl, rfl⟩
      show parseFieldDescriptor (T k).2.2.1 = _
      have : (T k).2.2.1 = "I" := g2
      rw [this]
      decide +kernel
    · obtain ⟨g1, g2⟩ := hw2 h
      refine ⟨g1, .boolean, ?_, ?_, ?_⟩
      · have : (T k).2.2.1 = "Z" := g2
        rw [this]
        decide +kernel
      · rcases h2 h with rfl | rfl <;> rfl
      · rcases h2 h with rfl | rfl <;> rfl
  obtain ⟨hfin, ty, hd2, hn, hfit⟩ := hfd
  obtain ⟨hcin, ⟨ty0, hty⟩, hnm⟩ := pm_cls hq
  have hin : ∀ w ∈ u_ws C T N, w ∈ a0w :: pm_WS := fun w hw => List.mem_cons_of_mem _ (hcin w hw)
  have hap := va_apart (own := own) hts hin ty0 hty hnm hK.1 hq
  obtain ⟨r, h1, cell, q1, q2, q3, q4⟩ := hat
  have hr : r = (C, T, N) := Option.some.inj (h1.symm.trans hq)
  subst hr
  obtain ⟨hS, hfc, kC, hkC, hkind⟩ := hK.1.1 ci _ hq
  obtain ⟨cf, kf, fi, f, hi, hsl⟩ := hS k hk
  have hlay := hts _ (hin _ (u_in_lay hk))
  unfold u_lay at hlay
  rw [if_neg (by rw [hfin]; decide)] at hlay
  have hst := (u_facts hfc hkC (u_lays hts hin hk) hi).1
  have h6 := u_store hfc hkC hkind hlay hi hd2 hn hfit
  have hl' : k < fs.length := (List.getElem?_eq_some_iff.mp hv).1
  rcases hl with hl | ⟨host, hl⟩
  · refine W.putK hx hb (f := f) ⟨hown, hts _ (List.mem_cons_of_mem _ hl), ⟨_, _, _, hi⟩, hst⟩ (by rw [q2]; exact h6) q1 q3 (by rw [hsl]; exact k2_hasslot (q4 k hk)) rfl rfl hd fun H' e1 e2 e3 => ?_
    rw [hsl] at e1 ⊢
    exact kk H' _ ⟨_, hq, t_OB.to (V := updV (vp_V fs) k _) ⟨_, e1, q2, q3, t_set q4 hap hk _⟩ (fun j _ => vp_updV_set hl' _ j)⟩ e2 e3
  · refine va_WputK hx hb (f := f) hown (va_Nw.use rfl (hK.2 _ hl)) hi hst (by rw [q2]; exact h6) q1 q3 (by rw [hsl]; exact k2_hasslot (q4 k hk)) rfl rfl hd fun H' e1 e2 e3 => ?_
    rw [hsl] at e1 ⊢
    exact kk H' _ ⟨_, hq, t_OB.to (V := updV (vp_V fs) k _) ⟨_, e1, q2, q3, t_set q4 hap hk _⟩ (fun j _ => vp_updV_set hl' _ j)⟩ e2 e3
theorem pm_kc {sk sv : Nat → Nat} {own : String} {a0w : Cond} {cc : ByteArray} (hx : p.tables.exec = Jvm.exec) (hb : c.code = cc) (hown : s.vm.findClass own = some m.cls) (hts : ∀ w ∈ a0w :: pm_WS, w.before args s = true) (hSt : pm_St sk sv A s s.heap) {n : Nat} {v : pm_V} (hv : pm_KOK sk own n v) : pm_ok v ∧ ∀ (pc len : Nat) (ls : Array Slot) (rest : List Value) (H : Heap) (locs : List Loc), (decode cc pc = .ok (.ldc n, len) ∧ len = 2 ∧ pm_isl v = false ∨ decode cc pc = .ok (.ldc_w n, len) ∧ len = 3 ∧ pm_isi v = true ∨ decode cc pc = .ok (.ldc2_w n, len) ∧ len = 3 ∧ pm_isl v = true) → va_S A s.heap H locs → W p l e R s m args below meth c H locs cells slots Q (F0 m (pc + len) ls (pm_cv v :: rest)) → W p l e R s m args below meth c H locs cells slots Q (F0 m pc ls rest) := by
  rcases hv with ⟨k0, rfl, hw⟩ | ⟨z, rfl, hz, hw⟩ | ⟨x, rfl, hw⟩
  · refine ⟨trivial, fun pc len ls rest H locs h _ k => ?_⟩
    rcases h with ⟨h, rfl, -⟩ | ⟨-, -, h⟩ | ⟨-, -, h⟩
    · exact va_ldcS hx hb hown (hSt.2.1 _ hw) h k
    · cases h
    · cases h
  · refine ⟨hz, fun pc len ls rest H locs h _ k => ?_⟩
    rcases h with ⟨h, rfl, -⟩ | ⟨h, rfl, -⟩ | ⟨-, -, h⟩
    · exact lv_ldc hx hb hown (hts _ (List.mem_cons_of_mem _ hw)) h k
    · exact lv_ldcw hx hb hown (hts _ (List.mem_cons_of_mem _ hw)) h k
    · cases h
  · refine ⟨trivial, fun pc len ls rest H locs h _ k => ?_⟩
    rcases h with ⟨-, -, h⟩ | ⟨-, -, h⟩ | ⟨h, rfl, -⟩
    · cases h
    · cases h
    · exact lv_ldc2 hx hb hown (hts _ (List.mem_cons_of_mem _ hw)) h k
/-- what a method's bytes mean -/
def pm_M (E : pm_E) (maxL : Nat) : pm_T := fun as f P => (pm_put as).length ≤ maxL ∧ pm_W E P (fun _ _ => False) 0 (pm_init maxL as) [] f
theorem pm_put_sl : ∀ as : List pm_V, (pm_put as).length = (lg_sl (as.map pm_cv)).length ∧ ∀ (pre i : Nat) (v : pm_V), pm_lg (pm_put as) i = some v → (pre + i, pm_cv v) ∈ lv_args pre (as.map pm_cv)
  | [] => ⟨rfl, fun pre i v h => by simp [pm_put, pm_lg] at h⟩
  | .inl z :: as => by
    obtain ⟨h1, h2⟩ := pm_put_sl as
    refine ⟨?_, fun pre i v h => ?_⟩
    · simp only [pm_put, List.length_cons, List.map_cons, lg_sl, List.flatMap_cons, pm_cv]
      rw [if_neg (show ¬ (Value.int (Int32.ofInt z)).category = 2 from fun h => by cases h)]
      simp only [List.length_append, List.length_cons, List.length_nil]
      rw [h1]
      simp only [lg_sl]
      omega
    · simp only [List.map_cons, lv_args, pm_cv]
      cases i with
      | zero => simp only [pm_put, pm_lg, Option.some.injEq] at h; subst h; exact List.mem_cons_self
      | succ i => exact List.mem_cons_of_mem _ (by have := h2 (pre + 1) i v h; rw [show pre + (i + 1) = pre + 1 + i by omega]; exact this)
  | .inr (.inl r) :: as => by
    obtain ⟨h1, h2⟩ := pm_put_sl as
    have hc : ¬ (va_rf r).category = 2 := by cases r <;> (intro h; cases h)
    have hc1 : (va_rf r).category = 1 := by cases r <;> rfl
    refine ⟨?_, fun pre i v h => ?_⟩
    · simp only [pm_put, List.length_cons, List.map_cons, lg_sl, List.flatMap_cons, pm_cv]
      rw [if_neg hc]
      simp only [List.length_append, List.length_cons, List.length_nil]
      rw [h1]
      simp only [lg_sl]
      omega
    · simp only [List.map_cons, lv_args, pm_cv, hc1]
      cases i with
      | zero => simp only [pm_put, pm_lg, Option.some.injEq] at h; subst h; exact List.mem_cons_self
      | succ i => exact List.mem_cons_of_mem _ (by have := h2 (pre + 1) i v h; rw [show pre + (i + 1) = pre + 1 + i by omega]; exact this)
  | .inr (.inr x) :: as => by
    obtain ⟨h1, h2⟩ := pm_put_sl as
    refine ⟨?_, fun pre i v h => ?_⟩
    · simp only [pm_put, List.length_cons, List.map_cons, lg_sl, List.flatMap_cons, pm_cv]
      rw [if_pos (show (Value.long x).category = 2 from rfl)]
      simp only [List.length_append, List.length_cons, List.length_nil]
      rw [h1]
      simp only [lg_sl]
      omega
    · simp only [List.map_cons, lv_args, pm_cv]
      match i, h with
      | 0, h => simp only [pm_put, pm_lg, Option.some.injEq] at h; subst h; exact List.mem_cons_self
      | 1, h => simp [pm_put, pm_lg] at h
      | i + 2, h => exact List.mem_cons_of_mem _ (by have := h2 (pre + 2) i v h; rw [show pre + (i + 2) = pre + 2 + i by omega]; exact this)
theorem pm_lg_app : ∀ (a : pm_L) (n i : Nat) (v : pm_V), pm_lg (a ++ List.replicate n none) i = some v → pm_lg a i = some v
  | [], 0, i, v, h => h
  | [], n + 1, 0, v, h => by simp [List.replicate_succ, pm_lg] at h
  | [], n + 1, i + 1, v, h => by
    simp only [List.nil_append, List.replicate_succ, pm_lg] at h
    exact pm_lg_app [] n i v h
  | w :: a, n, 0, v, h => h
  | w :: a, n, i + 1, v, h => pm_lg_app a n i v h
theorem pm_put_ok : ∀ (as : List pm_V), (∀ v ∈ as, pm_ok v) → ∀ i v, pm_lg (pm_put as) i = some v → pm_ok v
  | [], _, i, v, h => by simp [pm_put, pm_lg] at h
  | .inl z :: as, ha, 0, v, h => by simp only [pm_put, pm_lg, Option.some.injEq] at h; subst h; exact ha _ List.mem_cons_self
  | .inl z :: as, ha, i + 1, v, h => pm_put_ok as (fun v hv => ha v (List.mem_cons_of_mem _ hv)) i v h
  | .inr (.inl r) :: as, ha, 0, v, h => by simp only [pm_put, pm_lg, Option.some.injEq] at h; subst h; exact ha _ List.mem_cons_self
  | .inr (.inl r) :: as, ha, i + 1, v, h => pm_put_ok as (fun v hv => ha v (List.mem_cons_of_mem _ hv)) i v h
  | .inr (.inr x) :: as, ha, 0, v, h => by simp only [pm_put, pm_lg, Option.some.injEq] at h; subst h; exact ha _ List.mem_cons_self
  | .inr (.inr x) :: as, ha, 1, v, h => by simp [pm_put, pm_lg] at h
  | .inr (.inr x) :: as, ha, i + 2, v, h => pm_put_ok as (fun v hv => ha v (List.mem_cons_of_mem _ hv)) i v h
theorem pm_entry {nL : Nat} {as : List pm_V} (h : (pm_put as).length ≤ nL) : pm_Lr ((lg_sl (as.map pm_cv) ++ List.replicate (nL - (lg_sl (as.map pm_cv)).length) Slot.unset).toArray) nL (pm_init nL as) := by
  obtain ⟨h1, h2⟩ := pm_put_sl as
  have hl := lv_entry (as.map pm_cv) (n := nL) (by rw [← h1]; exact h)
  refine ⟨hl.1, hl.2.1, ?_, fun i v hv => ?_⟩
  · unfold pm_init
    rw [List.length_append, List.length_replicate]
    omega
  · have h3 := h2 0 i v (pm_lg_app _ _ _ _ hv)
    rw [Nat.zero_add] at h3
    exact hl.2.2 _ h3
set_option maxHeartbeats 4000000 in
theorem pm_met {l : Launch} {sk : Nat → Nat} {y : MethodName} {cc : ByteArray} {maxL d : Nat} {ret : Option FieldType} (E : pm_E) (hy : plainName y.cls = true) (hB : pm_eB E = cc) (hR : pm_eR E = ret) (hTn : ∀ pc, pm_eT E pc = none) (hXn : ∀ n, pm_eX E n = none)
    (hF : ∀ n ci k w, pm_eF E n = some (ci, k, w) → pm_FOK y.cls n ci k w) (hKc : ∀ n v, pm_eK E n = some v → pm_KOK sk y.cls n v) (hC : ∀ n k ci T, pm_eC E n = some (k, ci, T) → pm_COK l sk y.cls d n k ci T) : pm_Ct l sk y cc maxL ret d (pm_M E maxL) := by
  intro sv G cI cJ cR as f P ⟨hlen, hW⟩ hok
  refine Met.ofW (cc := cc) (maxL := maxL) (ret := ret) hy rfl ?_
  intro p e s m args below meth c s₁ B hml hv
  obtain ⟨rfl, hHd, hK, hSt⟩ := hv
  have hx := B.exec
  have hb : c.code = pm_eB E := by rw [hB]; exact B.bytes
  have hr := B.returns
  have hts := atoms_spec (ws := .code y cc maxL ret :: pm_WS) B.pre
  have hown : s.vm.findClass y.cls = some m.cls := findClass_of_methodNamed B.named
  have hlocks := B.notSynchronized
  have hH0 : pm_Hd G vwCl cI cJ cR (pm_dom f) f s.heap := fun a c0 hc => ⟨(hHd a c0 hc).1, ⟨c0, hc⟩, (hHd a c0 hc).2.2⟩
  have hI := (hK.1.2 0 _ rfl).1
  have hJ := (hK.1.2 1 _ rfl).1
  have hKR : ∀ k : Nat, k < 2 → ∃ q : vw_C, vwCl[k]? = some q ∧ ArrOfT s (cR k) (.object q.1) ∧ va_RA s (cR k) (.object q.1) ∧ ClassAt s q.1 (G.1 k) := by
    intro k hk
    match k, hk with
    | 0, _ => exact ⟨_, rfl, (hK.1.2 2 _ rfl).1, (hK.1.2 2 _ rfl).2, (hK.1.1 0 _ rfl).2⟩
    | 1, _ => exact ⟨_, rfl, (hK.1.2 3 _ rfl).1, (hK.1.2 3 _ rfl).2, (hK.1.1 1 _ rfl).2⟩
  have key := hW (pm_XW p l e (pm_rm d) s m ((as.map pm_cv).toArray) below meth c 0 0 (MQ below (pm_Qc G cI cJ cR P f) ((as.map pm_cv).toArray) s 0 0 (pm_dom f)) G vwCl cI cJ cR (pm_dom f) maxL) ?_
  · have k2 := key (fun i v hv => pm_put_ok as hok i v (pm_lg_app _ _ _ _ hv)) (fun v hv => by cases hv) _ s.heap [] (pm_entry hlen) hH0 va_S.rf
    rw [lg_entry_eq]
    exact k2
  · intro pc lv st f0 hs0
    unfold pm_S pm_D at hs0
    split at hs0
    · rename_i i len hd
      have hq : ∀ (v : Option pm_V) (f1 : pm_H) (H : Heap) (locs : List Loc), P v f1 → (∀ w ∈ v.toList, pm_ok w) → pm_Hd G vwCl cI cJ cR (pm_dom f) f1 H → va_S (pm_dom f) s.heap H locs → ∀ t : State, t.heap = H → s.WarmedH t.vm → pm_Qc G cI cJ cR P f ((as.map pm_cv).toArray) s (.returned (v.map pm_cv)) t :=
        fun v f1 H locs hp ho h1 hS t ht _ => ⟨⟨v, f1, rfl, hp, ho, by rw [ht]; exact h1⟩, hS.F ht⟩
      refine pm_go_s hx hb hI hJ hKR (fun n ci k b hF0 pc ls rest H locs a fs v h1 h2 h3 h4 => pm_get hx hb hown hts hK (hF _ _ _ _ hF0) h1 h2 h3 h4) (fun n ci k b hF0 pc ls rest H locs a fs v x h1 h2 h3 h4 h5 => pm_put' hx hb hown hts hK (hF _ _ _ _ hF0) h1 h2 h3 h4 h5) (fun n v hv => pm_kc hx hb hown hts hSt (hKc n v hv)) (fun n k ci T hc pc as' r f' P' ls H locs h1 h2 h3 h4 h5 h6 h7 h8 h9 h10 => pm_rule (Nat.le_refl d) (Nat.le_refl _) (Nat.zero_le _) (Nat.zero_le _) hx hb hml hown hts hK hSt (hC _ _ _ _ hc) h1 h2 h3 h4 h5 h6 h7 h8 h9 h10) (fun n k ci T hc => by rw [hXn] at hc; cases hc) (fun pc n x hx' => by rw [hTn] at hx'; cases hx') ?_ ?_ ?_ ?_ hd hs0
      · intro pc z f1 ls H locs h1 h2 hz hp h3 hS
        rcases h2 with h2 | ⟨h2, h4⟩
        · exact W.iret hx hb (hr.trans (hR.symm.trans h2)) (hq (some (.inl z)) f1 H locs hp (fun w hw => by simp at hw; subst hw; exact hz) h3 hS) hS.2.2 h1
        · exact W.zret hx hb (hr.trans (hR.symm.trans h2)) (by rcases h4 with rfl | rfl <;> rfl) (hq (some (.inl z)) f1 H locs hp (fun w hw => by simp at hw; subst hw; exact hz) h3 hS) hS.2.2 h1
      · intro pc a f1 ls H locs h1 h2 hp h3 hS
        have hrt : ∃ rt, pm_eR E = some rt ∧ ((∃ n, rt = .object n) ∨ ∃ t, rt = .array t) := by
          unfold pm_isR at h2
          split at h2
          · rename_i n he; exact ⟨_, he, Or.inl ⟨_, rfl⟩⟩
          · rename_i n he; exact ⟨_, he, Or.inr ⟨_, rfl⟩⟩
          · exact h2.elim
        obtain ⟨rt, e1, e2⟩ := hrt
        exact W.aret hx hb (hr.trans (hR.symm.trans e1)) e2 (Or.inr ⟨a, rfl⟩) (hq (some (.inr (.inl (some a)))) f1 H locs hp (fun w hw => by simp at hw; subst hw; trivial) h3 hS) hS.2.2 h1
      · intro pc a f1 ls H locs h1 h2 hp h3 hS
        exact W.lret hx hb (hr.trans (hR.symm.trans h2)) (hq (some (.inr (.inr a))) f1 H locs hp (fun w hw => by simp at hw; subst hw; trivial) h3 hS) hS.2.2 h1
      · intro pc f1 ls H locs h1 h2 hp h3 hS
        exact W.vret hx hb (hr.trans (hR.symm.trans h2)) (hq none f1 H locs hp (fun w hw => by simp at hw) h3 hS) hS.2.2 h1
    · exact hs0.elim
end PMN
