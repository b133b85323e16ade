section AAS
variable {p : Program} {l : Launch} {e : Env} {R : Room} {cells slots : Nat} {s : State} {m : MethodId} {args : Array Value} {below : List Frame} {meth : Method} {c : Code} {Q : State → Prop}
variable {G : va_G} {cI cJ : ClassId} {cR : Nat → ClassId} {A : Nat → Prop} {own : String} {a0w : Cond} {cc : ByteArray} {pc : Nat} {ls : Array Slot} {rest : List Value} {f : pm_H} {H : Heap} {locs : List Loc}
/-- an object into a row of references; the heap keeps its size -/
theorem gw_aas (hx : p.tables.exec = Jvm.exec) (hb : c.code = cc) (hK : pm_KK G cI cJ cR s) {k n a v i : Nat} {g : Nat → Option Nat} {fs : List pm_V} (hfa : f a = some (.inr (.inl (k, n, g)))) (hfv : f v = some (.inr (.inr (.inr (k, fs))))) (hi : i < n) (hn : n < 100000) (hH : pm_Hd G vwCl cI cJ cR A f H) (hS : va_S A s.heap H locs) (hd : decode cc pc = .ok (.aastore, 1))
    (kk : ∀ (H1 : Heap) (locs1 : List Loc), pm_Hd G vwCl cI cJ cR A (pm_up f a (.inr (.inl (k, n, va_up g i (some v))))) H1 → va_S A s.heap H1 locs1 → H1.size = H.size → W p l e R s m args below meth c H1 locs1 cells slots Q (F0 m (pc + 1) ls rest)) : W p l e R s m args below meth c H locs cells slots Q (F0 m pc ls (.ref v :: .int (Int32.ofInt (i : Int)) :: .ref a :: rest)) := by
  have hKR : ∀ k : Nat, k < 2 → ∃ q : vw_C, vwCl[k]? = some q ∧ ArrOfT s (cR k) (.object q.1) ∧ va_RA s (cR k) (.object q.1) ∧ ClassAt s q.1 (G.1 k) := by
    intro k hk
    match k, hk with
    | 0, _ => exact ⟨_, rfl, (hK.1.2 2 _ rfl).1, (hK.1.2 2 _ rfl).2, (hK.1.1 0 _ rfl).2⟩
    | 1, _ => exact ⟨_, rfl, (hK.1.2 3 _ rfl).1, (hK.1.2 3 _ rfl).2, (hK.1.1 1 _ rfl).2⟩
  obtain ⟨hii, h0, hcl⟩ := gw_n (n := i) (by omega)
  obtain ⟨h1, h2, h3⟩ := hH a _ hfa
  obtain ⟨⟨r', hr', cellV, g1, g2, g3, -⟩, -, -⟩ := hH v _ hfv
  obtain ⟨cq, kcl, -, ⟨kA, comp, k1, k2, k3, -⟩, hcls⟩ := hKR k h3
  have hlt : (Int32.ofInt (i : Int)).toNatClampNeg < n := by rw [hcl]; exact hi
  have hcomp : comp = G.1 k := Option.some.inj (k3.symm.trans hcls.1)
  subst hcomp
  obtain ⟨kC, hkC, -⟩ := id hcls.2
  refine W.aast hx hb h1 (fun q h => by cases h) (fun h => by cases h) k1 k2 rfl hkC ⟨h0, by show _ < (arrV _ _ _).slots.size; rw [arrV_size]; exact hlt⟩ g1 (fun q h => by rw [g3] at h; cases h) (by rw [g2]; exact hkC) (by rw [g2]; exact va_assign hcls) rfl rfl hd fun H1 e z oq => ?_
  refine kk H1 _ (pm_Hd_up hH ?_ h2 h3 oq) (hS.put z oq h2) z
  show H1[a]? = some (vp_cell _ _)
  rw [e]
  show some (Cell.setSlot (vp_cell _ _) _ _) = _
  rw [vp_cell_q, vp_cell_q, arrV_store, hcl]
  congr 2
  funext q
  by_cases hq : q = i
  · subst hq
    simp [updV, va_up, va_rf]
  · simp [updV, va_up, hq]
theorem ct_st_g {f : pm_H} {a h j ci : Nat} {L : List pm_C} {fs : List pm_V} {X : pm_C} (ha : a < h) (hL : L[j]? = some X) : ct_st f a h L ci fs (h + j) = some X := by
  unfold ct_st pm_up ct_rows
  rw [if_neg (show ¬ h + j = a by omega), if_neg (show ¬ h + j < h by omega), Nat.add_sub_cancel_left, hL]
theorem ct_st_s {f : pm_H} {a h j ci : Nat} {L : List pm_C} {fs : List pm_V} {X : pm_C} (ha : a < h) (hj : j < L.length) : pm_up (ct_st f a h L ci fs) (h + j) X = ct_st f a h (L.set j X) ci fs := by
  funext q
  unfold ct_st pm_up ct_rows
  by_cases h1 : q = h + j
  · rw [if_pos h1, if_neg (show ¬ q = a by omega), if_neg (show ¬ q < h by omega)]
    have e : q - h = j := by omega
    rw [e, List.getElem?_set_self hj]
  · rw [if_neg h1]
    by_cases h2 : q = a
    · rw [if_pos h2, if_pos h2]
    · rw [if_neg h2, if_neg h2]
      by_cases h3 : q < h
      · rw [if_pos h3, if_pos h3]
      · rw [if_neg h3, if_neg h3, List.getElem?_set_ne (by omega)]
/-- a new row of references, into a field -/
theorem ct_refs (hx : p.tables.exec = Jvm.exec) (hb : c.code = cc) (hown : s.vm.findClass own = some m.cls) (hts : ∀ w ∈ a0w :: pm_WS, w.before args s = true) (hK : pm_KK G cI cJ cR s) (hA : ∀ q, s.heap.size ≤ q → A q) {n j ci k kr index : Nat} {C : String} (hkr : (pm_tys cI cJ cR)[kr + 2]? = some (cR kr, .object C)) (hk2 : kr < 2) (wcl : Cond.classLink own index C ∈ pm_WS) (wov : va_AO C s) {q : vw_C} (hq : vwCl[ci]? = some q) (hk : k < q.2.2) (hl : Cond.fieldLink own j (q.2.1 k).1 (q.2.1 k).2.1 (q.2.1 k).2.2.1 ∈ pm_WS) (hin2 : meth.name = "<init>") (hdecl : (q.2.1 k).1 = own) (hd2 : parseFieldDescriptor (q.2.1 k).2.2.1 = some (.array (.object C))) {a h : Nat} {L : List pm_C} {fs : List pm_V} (hlen : k < fs.length) (ha : a < h)
    (hH : pm_Hd G vwCl cI cJ cR A (ct_st f a h L ci fs) H) (hS : va_S A s.heap H locs) (hz : H.size = h + L.length) (hn : n < 100000) (hcells : cells + 1 ≤ R.cells) (hslots : slots + n ≤ R.slots) (hd : decode cc pc = .ok (.anewarray index, 3)) (hd' : decode cc (pc + 3) = .ok (.putfield j, 3))
    (kk : ∀ (H1 : Heap) (locs1 : List Loc), pm_Hd G vwCl cI cJ cR A (ct_st f a h (L ++ [.inr (.inl (kr, n, fun _ => none))]) ci (fs.set k (.inr (.inl (some (h + L.length)))))) H1 → va_S A s.heap H1 locs1 → H1.size = h + (L ++ ([.inr (.inl (kr, n, fun _ => none))] : List pm_C)).length → W p l e R s m args below meth c H1 locs1 (cells + 1) (slots + n) Q (F0 m (pc + 6) ls [])) : W p l e R s m args below meth c H locs cells slots Q (F0 m pc ls [.int (Int32.ofInt (n : Int)), .ref a]) := by
  refine gw_refs hx hb hown hK hkr hk2 (hts _ (List.mem_cons_of_mem _ wcl)) (va_AO.use wov) hA hH hS hn hcells hslots hd fun H1 g1 g2 g3 => ?_
  rw [hz, ct_st_r ha] at g1
  refine W.eq (g2 := F0 m (pc + 3) ls [pm_cv (.inr (.inl (some (h + L.length)))), .ref a]) (by rw [hz]; rfl) ?_
  exact ct_put hx hb hown hts hK hq hk hl hin2 hdecl hd2 rfl rfl hlen trivial g1 g2 (by rw [g3, hz, List.length_append, List.length_singleton]; omega) hd' kk
end AAS
