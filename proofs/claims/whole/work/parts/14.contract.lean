section PMC
def pm_WS : List Cond := lw_tbl.filter goodWord
theorem pm_WS_mem {w : Cond} (i : Nat) (h : lw_tbl[i]? = some w) (hg : goodWord w = true) : w ∈ pm_WS := List.mem_filter.mpr ⟨List.mem_of_getElem? h, hg⟩
theorem pm_WS_good {w : Cond} (h : w ∈ pm_WS) : (w.onTables && w.keeps) = true ∨ ∃ ty, w = .arrayClass ty := good_of_word (List.mem_filter.mp h).2
def pm_tys (cI cJ : ClassId) (cR : Nat → ClassId) : List (ClassId × FieldType) := [(cI, .int), (cJ, .long), (cR 0, .object "CableForest$Forest"), (cR 1, .object "CableForest$Net")]
def pm_isN : Cond → Bool
  | .fieldLinkNest _ _ _ _ _ _ => true
  | .methodLinkNest _ _ _ _ => true
  | .castable _ _ => true
  | .declares _ => true
  | _ => false
def pm_NW : List Cond := lw_tbl.filter pm_isN
theorem pm_NW_mem {w : Cond} (i : Nat) (h : lw_tbl[i]? = some w) (hg : pm_isN w = true) : w ∈ pm_NW := List.mem_filter.mpr ⟨List.mem_of_getElem? h, hg⟩
/-- what the tables say of the classes -/
def pm_KK (G : va_G) (cI cJ : ClassId) (cR : Nat → ClassId) (U : State) : Prop := va_K G vwCl (pm_tys cI cJ cR) U ∧ ∀ w ∈ pm_NW, va_Nw w U
theorem pm_KK_w {G : va_G} {cI cJ : ClassId} {cR : Nat → ClassId} {s U : State} (hW : s.WarmedH U.vm) (h : pm_KK G cI cJ cR s) : pm_KK G cI cJ cR U := by
  refine ⟨va_K.moved hW.alike h.1, fun w hw => ?_⟩
  have h1 := h.2 w hw
  have h2 := (List.mem_filter.mp hw).2
  unfold pm_isN at h2
  split at h2
  · exact va_Nw.warmF hW h1
  · exact va_Nw.warmM hW h1
  · exact va_Nw.warmC hW h1
  · exact va_Nw.warmD hW h1
  · cases h2
theorem pm_KK_c {G : va_G} {cI cJ : ClassId} {cR : Nat → ClassId} {U : State} {g : JFrame} {mk : MethodId} {a : Array Value} (h : pm_KK G cI cJ cR U) : pm_KK G cI cJ cR (U.calling g mk a) := by
  refine ⟨va_K.moved (u := U) (U := U.calling g mk a) (Vm.Alike.refl U.vm) h.1, fun w hw => ?_⟩
  have h1 := h.2 w hw
  have h2 := (List.mem_filter.mp hw).2
  unfold pm_isN at h2
  split at h2
  · exact va_Nw.same rfl (u := U) (U := U.calling g mk a) rfl h1
  · exact va_Nw.same rfl (u := U) (U := U.calling g mk a) rfl h1
  · exact va_Nw.same rfl (u := U) (U := U.calling g mk a) rfl h1
  · exact va_Nw.same rfl (u := U) (U := U.calling g mk a) rfl h1
  · cases h2
/-- the words of acts, as String constants -/
def pm_txt : List String := ["net", "lay", "lift", "swap", "fail", "tidy", "cost", "the text is wrong", "nodes are 2 to 16", "a cost is 0 to 99", "no act is remembered", "what is 0 to 5", "what is 0 to 6", "what is 0 to 3", "it is no tree cable", "what is 0 or 1", "it is lifted", "n is 0 to 16", "what is 0 to 2", "there is no such node", "there is no such cable", "there is no such level", "refused"]
def pm_sln : List Nat := [3, 3, 4, 4, 4, 4, 4]
def pm_sby : List (List Int32) := [[110, 101, 116], [108, 97, 121], [108, 105, 102, 116], [115, 119, 97, 112], [102, 97, 105, 108], [116, 105, 100, 121], [99, 111, 115, 116]]
def pm_SR : List (String × Nat × Nat) := [("CableForest$Tape", 67, 0), ("CableForest$Tape", 69, 1), ("CableForest$Tape", 71, 2), ("CableForest$Tape", 73, 3), ("CableForest$Tape", 75, 4), ("CableForest$Tape", 77, 5), ("CableForest$Tape", 79, 6), ("CableForestModel", 216, 0), ("CableForestModel", 222, 1), ("CableForestModel", 227, 2), ("CableForestModel", 232, 3), ("CableForestModel", 237, 4), ("CableForestModel", 247, 5), ("CableForestModel", 242, 6), ("CableForest", 71, 7), ("CableForest", 83, 8), ("CableForest", 92, 9), ("CableForest", 105, 10), ("CableForest", 135, 11), ("CableForest", 162, 12), ("CableForest", 173, 13), ("CableForest", 192, 14), ("CableForest", 197, 15), ("CableForest", 199, 16), ("CableForest", 216, 17), ("CableForest", 230, 18), ("CableForest", 278, 19), ("CableForest", 281, 20), ("CableForest", 283, 21), ("CableForest", 288, 22)]
def pm_St (sk sv : Nat → Nat) (A : Nat → Prop) (U : State) (H : Heap) : Prop := vk_S 7 pm_sln pm_sby sk sv A U H ∧ (∀ q ∈ pm_SR, vk_R q.1 q.2.1 (pm_txt.getD q.2.2 "") (sk q.2.2) U) ∧ vx_Zq Bundle.tN "UNASSIGNED_STACK" Bundle.steD A U H ∧ vx_Zq Bundle.tN "SUPPRESSED_SENTINEL" Bundle.listD A U H ∧ va_Z "java/lang/String" "COMPACT_STRINGS" "Z" (.int 1) A U H ∧ va_Zq "jdk/internal/util/Preconditions" "SIOOBE_FORMATTER" "Ljava/util/function/BiFunction;" A U H
theorem pm_St_c {sk sv : Nat → Nat} {A : Nat → Prop} {U : State} {g : JFrame} {mk : MethodId} {a : Array Value} {H : Heap} (h : pm_St sk sv A U H) : pm_St sk sv A (U.calling g mk a) H :=
  ⟨vk_S.moved (u := U) (U := U.calling g mk a) (Vm.Alike.refl U.vm) h.1, fun q hq => vk_R.same (u := U) (U := U.calling g mk a) rfl (h.2.1 q hq), vx_Zq.moved (u := U) (U := U.calling g mk a) (Vm.Alike.refl U.vm) h.2.2.1, vx_Zq.moved (u := U) (U := U.calling g mk a) (Vm.Alike.refl U.vm) h.2.2.2.1, va_Z.moved (u := U) (U := U.calling g mk a) (Vm.Alike.refl U.vm) h.2.2.2.2.1, va_Zq.moved (u := U) (U := U.calling g mk a) (Vm.Alike.refl U.vm) h.2.2.2.2.2⟩
theorem pm_St_w {sk sv : Nat → Nat} {A B : Nat → Prop} {s U : State} {H : Heap} {locs : List Loc} (hW : s.WarmedH U.vm) (hS : va_S A s.heap H locs) (hB : ∀ q, B q → A q) (h : pm_St sk sv A s s.heap) : pm_St sk sv B U H := by
  refine ⟨?_, fun q hq => vk_R.warm hW (h.2.1 q hq), (vx_Zq.moved hW.alike (vx_Zq.kept h.2.2.1 fun q h1 h2 => hS.2.1 q h1 h2)).narrow hB, (vx_Zq.moved hW.alike (vx_Zq.kept h.2.2.2.1 fun q h1 h2 => hS.2.1 q h1 h2)).narrow hB, (va_Z.moved hW.alike (va_Z.kept h.2.2.2.2.1 fun q h1 h2 => hS.2.1 q h1 h2)).narrow hB, (va_Zq.moved hW.alike (va_Zq.kept h.2.2.2.2.2 fun q h1 h2 => hS.2.1 q h1 h2)).narrow hB⟩
  have h1 : vk_S 7 pm_sln pm_sby sk sv A s H := vk_S.kept h.1 fun q h1 h2 => hS.2.1 q h1 h2
  have h2 : vk_S 7 pm_sln pm_sby sk sv A U H := vk_S.moved hW.alike h1
  exact ⟨fun i hi => ⟨(h2.1 i hi).1.narrow hB, (h2.1 i hi).2.1.narrow hB, (h2.1 i hi).2.2.1.narrow hB, (h2.1 i hi).2.2.2.narrow hB⟩, h2.2⟩
def pm_dom (f : pm_H) : Nat → Prop := fun q => ∃ c, f q = some c
def pm_Pc (sk sv : Nat → Nat) (G : va_G) (cI cJ : ClassId) (cR : Nat → ClassId) (as : List pm_V) (f : pm_H) : Array Value → State → Prop := fun v U => v = (as.map pm_cv).toArray ∧ pm_Hd G vwCl cI cJ cR (fun _ => True) f U.heap ∧ pm_KK G cI cJ cR U ∧ pm_St sk sv (pm_dom f) U U.heap
def pm_Qc (G : va_G) (cI cJ : ClassId) (cR : Nat → ClassId) (P : pm_P) (f : pm_H) : Array Value → State → Outcome → State → Prop := fun _ st oc t =>
  (∃ (v : Option pm_V) (f' : pm_H), oc = .returned (v.map pm_cv) ∧ P v f' ∧ (∀ w ∈ v.toList, pm_ok w) ∧ pm_Hd G vwCl cI cJ cR (pm_dom f) f' t.heap) ∧ va_F (pm_dom f) st t
def pm_rm (d : Nat) : Room := { frames := d, cells := 0, slots := 0, locals := 64 * d }
/-- THE CONTRACT of a method that returns: whatever T says of a start, the machine does -/
def pm_Ct (l : Launch) (sk : Nat → Nat) (y : MethodName) (cc : ByteArray) (maxL : Nat) (ret : Option FieldType) (d : Nat) (T : pm_T) : Prop :=
  ∀ (sv : Nat → Nat) (G : va_G) (cI cJ : ClassId) (cR : Nat → ClassId) (as : List pm_V) (f : pm_H) (P : pm_P), T as f P → (∀ v ∈ as, pm_ok v) → Met l y (.code y cc maxL ret :: pm_WS) (pm_rm d) (pm_Pc sk sv G cI cJ cR as f) (pm_Qc G cI cJ cR P f) 0 0 (pm_dom f)
theorem pm_blind {sk sv : Nat → Nat} {G : va_G} {cI cJ : ClassId} {cR : Nat → ClassId} {as : List pm_V} {f : pm_H} : FrameBlind (pm_Pc sk sv G cI cJ cR as f) := fun a U g mk h => ⟨h.1, h.2.1, pm_KK_c h.2.2.1, pm_St_c h.2.2.2⟩
theorem pm_goodIn {a : Cond} {l : List Cond} (h : ∀ w ∈ l, w ∈ pm_WS) : GoodIn (a :: pm_WS) l := fun w hw => ⟨List.mem_cons_of_mem _ (h w hw), pm_WS_good (h w hw)⟩
variable {p : Program} {l : Launch} {e : Env} {R : Room} {d cells slots : Nat} {s : State} {m : MethodId} {args : Array Value} {below : List Frame} {meth : Method} {c : Code} {Q : State → Prop}
variable {G : va_G} {cI cJ : ClassId} {cR : Nat → ClassId} {A : Nat → Prop}
/-- behind a call: the callee's end is the pure one -/
theorem pm_after {H : Heap} {locs : List Loc} {pc : Nat} {ls : Array Slot} {st0 : List Value} {r : List pm_V} {a : Array Value} {f : pm_H} {P' : pm_P}
    (hr : va_Run p l e R s m args below meth c H locs cells slots 0 0 (F0 m pc ls st0) (r.map pm_cv) (pm_Qc G cI cJ cR P' f a) (pm_dom f)) (hH : pm_Hd G vwCl cI cJ cR A f H) (hS : va_S A s.heap H locs)
    (kk : ∀ (v : Option pm_V) (f' : pm_H) (H' : Heap) (locs' : List Loc), P' v f' → (∀ w ∈ v.toList, pm_ok w) → pm_Hd G vwCl cI cJ cR A f' H' → va_S A s.heap H' locs' → W p l e R s m args below meth c H' locs' cells slots Q (F0 m (pc + 3) ls ((v.toList ++ r).map pm_cv))) : W p l e R s m args below meth c H locs cells slots Q (F0 m pc ls st0) := by
  intro T hT X
  obtain ⟨v, st₀, t, T', L, h0, X', hL, e1, e2, ⟨⟨w, f', hv, hp, hok, hb⟩, hz, hk⟩, st⟩ := hr T hT X
  cases hv
  rw [h0] at hz hk
  have hA : ∀ q, pm_dom f q → A q := fun q ⟨c0, hc⟩ => (hH q c0 hc).2.1
  obtain ⟨t2, a1, b1⟩ := kk w f' T'.heap (locs ++ L) hp hok (by rw [e1]; exact fun q c0 hc => ⟨(hb q c0 hc).1, hA q (hb q c0 hc).2.1, (hb q c0 hc).2.2⟩)
    ⟨Nat.le_trans hS.1 (by rw [e1]; exact hz), fun q h1 h2 => by rw [e1, hk q (Nat.lt_of_lt_of_le h1 hS.1) (fun z => h2 (hA q z))]; exact hS.2.1 q h1 h2, fun q hq => by
      rcases List.mem_append.mp hq with h | h
      · exact hS.2.2 q h
      · exact hA _ (hL q h)⟩ T' rfl X'
  refine ⟨t2, st t2 ?_, b1⟩
  have e3 : (Option.map pm_cv w).toList ++ r.map pm_cv = (w.toList ++ r).map pm_cv := by cases w <;> simp
  rw [e3]
  exact a1
theorem pm_preS {sk sv : Nat → Nat} {as : List pm_V} {f : pm_H} {H : Heap} {locs : List Loc} (hH : pm_Hd G vwCl cI cJ cR A f H) (hS : va_S A s.heap H locs) (hK : pm_KK G cI cJ cR s) (hSt : pm_St sk sv A s s.heap) : PreS s H (pm_Pc sk sv G cI cJ cR as f) (as.map pm_cv) :=
  ⟨pm_blind, fun U hU hW => ⟨rfl, by rw [hU]; exact fun q c0 hc => ⟨(hH q c0 hc).1, trivial, (hH q c0 hc).2.2⟩, pm_KK_w hW hK, by rw [hU]; exact pm_St_w hW hS (fun q ⟨c0, hc⟩ => (hH q c0 hc).2.1) hSt⟩⟩
theorem pm_recv {b ci : Nat} {q : vw_C} {fs : List pm_V} {f : pm_H} {H : Heap} (hH : pm_Hd G vwCl cI cJ cR A f H) (hK : pm_KK G cI cJ cR s) (hf : f b = some (.inr (.inr (.inr (ci, fs))))) (hq : vwCl[ci]? = some q) : ∃ cell : Cell, H[b]? = some cell ∧ cell.vm.isStatics = false ∧ s.vm.findClass q.1 = some cell.cls :=
  va_recv (ws := [(b, .inr (ci, fs.map pm_cv))]) hK.1 (fun k w hw => by
    cases k with
    | zero => cases hw; exact (hH b _ hf).1
    | succ k => simp at hw) hq (q0 := 0) rfl
/-- all cells of the pure heap, in a row -/
def pm_pool (cI cJ : ClassId) (cR : Nat → ClassId) (f : pm_H) (n : Nat) : va_W := (List.range n).filterMap (fun a => (f a).map (fun c => (a, pm_cc cI cJ cR c)))
theorem pm_pool_mem {f : pm_H} {n : Nat} {q : Nat × va_E} : q ∈ pm_pool cI cJ cR f n ↔ q.1 < n ∧ ∃ c, f q.1 = some c ∧ q.2 = pm_cc cI cJ cR c := by
  unfold pm_pool
  rw [List.mem_filterMap]
  constructor
  · rintro ⟨a, ha, h⟩
    obtain ⟨c0, h1, rfl⟩ := Option.map_eq_some_iff.mp h
    exact ⟨List.mem_range.mp ha, c0, h1, rfl⟩
  · rintro ⟨h1, c0, h2, h3⟩
    exact ⟨q.1, List.mem_range.mpr h1, by rw [h2, Option.map_some, ← h3]⟩
theorem pm_pool_D {f : pm_H} {n : Nat} {A : Nat → Prop} (hA : ∀ a c, f a = some c → A a) : va_D A (pm_pool cI cJ cR f n) := by
  refine ⟨fun i j p q hi hj he => ?_, fun k q hq => ?_⟩
  · have hp : (pm_pool cI cJ cR f n).Pairwise (fun x y => x.1 < y.1) := by
      unfold pm_pool
      refine List.Pairwise.filterMap _ ?_ List.pairwise_lt_range
      intro a b hab x hx y hy
      obtain ⟨c0, -, rfl⟩ := Option.map_eq_some_iff.mp hx
      obtain ⟨c1, -, rfl⟩ := Option.map_eq_some_iff.mp hy
      exact hab
    rw [List.pairwise_iff_getElem] at hp
    obtain ⟨hi1, hi2⟩ := List.getElem?_eq_some_iff.mp hi
    obtain ⟨hj1, hj2⟩ := List.getElem?_eq_some_iff.mp hj
    rcases Nat.lt_trichotomy i j with h | h | h
    · have := hp i j hi1 hj1 h
      rw [hi2, hj2, he] at this
      omega
    · exact h
    · have := hp j i hj1 hi1 h
      rw [hi2, hj2, he] at this
      omega
  · obtain ⟨-, c0, h, -⟩ := pm_pool_mem.mp (List.mem_of_getElem? hq)
    exact hA _ _ h
theorem pm_Hd_lt {f : pm_H} {H : Heap} {a : Nat} {c0 : pm_C} (h : va_at G vwCl (a, pm_cc cI cJ cR c0) H) : a < H.size := by
  unfold va_at at h
  split at h
  · exact (Array.getElem?_eq_some_iff.mp h).1
  · obtain ⟨r, -, cell, h1, -⟩ := h
    exact (Array.getElem?_eq_some_iff.mp h1).1
/-- System.arraycopy over two int rows -/
def pm_acp : pm_T := fun as f P => ∃ (a0 a1 : Nat) (sp dp n : Int) (n0 : Nat) (g0 : Nat → Int) (n1 : Nat) (g1 : Nat → Int), as = [.inr (.inl (some a0)), .inl sp, .inr (.inl (some a1)), .inl dp, .inl n] ∧ f a0 = some (.inl (n0, g0)) ∧ f a1 = some (.inl (n1, g1)) ∧ (0 ≤ sp ∧ 0 ≤ dp ∧ 0 ≤ n ∧ sp + n ≤ (n0 : Int) ∧ dp + n ≤ (n1 : Int)) ∧ P none (pm_up f a1 (.inl (n1, va_cpy g0 g1 sp.toNat dp.toNat n.toNat)))
def pm_tmax : pm_T := fun as f P => ∃ x y : Int, as = [.inl x, .inl y] ∧ P (some (.inl (if x < y then y else x))) f
def pm_tmin : pm_T := fun as f P => ∃ x y : Int, as = [.inl x, .inl y] ∧ P (some (.inl (if y < x then y else x))) f
/-- a callee is right: its contract, its room, its words -/
def pm_COK (l : Launch) (sk : Nat → Nat) (own : String) (d n k : Nat) (ci : Option Nat) (T : pm_T) : Prop :=
  (T = pm_acp ∧ k = 5 ∧ ci = none ∧ 0 < d ∧ Cond.methodLink own n arraycopyName ∈ pm_WS ∧ Cond.native arraycopyName ∈ pm_WS ∧ Cond.static arraycopyName ∈ pm_WS ∧ Cond.initialized "java/lang/System" ∈ pm_WS) ∨
  (T = pm_tmax ∧ k = 2 ∧ ci = none ∧ 0 < d ∧ Cond.methodLink own n Lib.Math.max.name ∈ pm_WS ∧ Cond.static Lib.Math.max.name ∈ pm_WS ∧ Cond.initialized "java/lang/Math" ∈ pm_WS ∧ Cond.code Lib.Math.max.name Lib.Math.max.code 2 (some .int) ∈ pm_WS) ∨
  (T = pm_tmin ∧ k = 2 ∧ ci = none ∧ 0 < d ∧ Cond.methodLink own n Lib.Math.min.name ∈ pm_WS ∧ Cond.static Lib.Math.min.name ∈ pm_WS ∧ Cond.initialized "java/lang/Math" ∈ pm_WS ∧ Cond.code Lib.Math.min.name Lib.Math.min.code 2 (some .int) ∈ pm_WS) ∨
  ∃ (y : MethodName) (cc : ByteArray) (maxL : Nat) (ret : Option FieldType) (d' : Nat), pm_Ct l sk y cc maxL ret d' T ∧ d' < d ∧ maxL ≤ 40 ∧ Cond.code y cc maxL ret ∈ pm_WS ∧ Cond.initialized y.cls ∈ pm_WS ∧ (y.cls ≠ "java/lang/invoke/MethodHandle" ∧ y.cls ≠ "java/lang/invoke/VarHandle") ∧
    ((∃ (i : Nat) (q : vw_C), ci = some i ∧ vwCl[i]? = some q ∧ y.cls = q.1 ∧ 0 < k ∧ (parseMethodDescriptor y.desc).map (fun d => d.parameters.length) = some (k - 1) ∧ Cond.methodLink own n y ∈ pm_WS ∧ Cond.instanceMethod y ∈ pm_WS ∧ Cond.selects q.1 y y ∈ pm_WS) ∨
     (ci = none ∧ (parseMethodDescriptor y.desc).map (fun d => d.parameters.length) = some k ∧ Cond.static y ∈ pm_WS ∧ (Cond.methodLink own n y ∈ pm_WS ∨ ∃ host, Cond.methodLinkNest own n y host ∈ pm_NW)) ∨
     (ci = some 9 ∧ y.cls = "java/lang/String" ∧ 0 < k ∧ (parseMethodDescriptor y.desc).map (fun d => d.parameters.length) = some (k - 1) ∧ Cond.methodLink own n y ∈ pm_WS ∧ Cond.instanceMethod y ∈ pm_WS ∧ Cond.selects "java/lang/String" y y ∈ pm_WS ∧ ∀ as f P, T as f P → ∃ (i : Nat) (as' : List pm_V), i < 7 ∧ as = .inr (.inl (some (sk i))) :: as'))
end PMC
