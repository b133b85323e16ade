section GROW
variable {p : Program} {l : Launch} {e : Env} {R : Room} {cells slots : Nat} {s : State} {m : MethodId} {args : Array Value} {below : List Frame} {meth : Method} {c : Code} {Q : State → Prop}
variable {G : va_G} {cI cJ : ClassId} {cR : Nat → ClassId} {A : Nat → Prop} {own : String} {a0w : Cond} {cc : ByteArray} {pc : Nat} {ls : Array Slot} {rest : List Value} {f : pm_H} {H : Heap} {locs : List Loc}
/-- the pure heap grows at the end of the heap -/
theorem gw_grow {H1 : Heap} {cx : pm_C} (hH : pm_Hd G vwCl cI cJ cR A f H) (hc : va_at G vwCl (H.size, pm_cc cI cJ cR cx) H1) (hA : A H.size) (hok : pm_okc cx) (hz : H1.size = H.size + 1) (oq : ∀ q, q < H.size → H1[q]? = H[q]?) : pm_Hd G vwCl cI cJ cR A (pm_up f H.size cx) H1 := by
  refine pm_Hd_up hH hc hA hok fun q hq => ?_
  rcases Nat.lt_or_ge q H.size with h | h
  · exact oq q h
  · rw [Array.getElem?_eq_none (by omega), Array.getElem?_eq_none (by omega)]
theorem gw_S {H1 : Heap} (hS : va_S A s.heap H locs) (hz : H1.size = H.size + 1) (oq : ∀ q, q < H.size → H1[q]? = H[q]?) : va_S A s.heap H1 locs := ⟨Nat.le_trans hS.1 (by omega), fun x h1 h2 => (oq x (Nat.lt_of_lt_of_le h1 hS.1)).trans (hS.2.1 x h1 h2), hS.2.2⟩
theorem gw_n {n : Nat} (hn : n < 100000) : pm_in (n : Int) ∧ ¬ Int32.ofInt (n : Int) < 0 ∧ (Int32.ofInt (n : Int)).toNatClampNeg = n := by
  have h : pm_in (n : Int) := by constructor <;> omega
  refine ⟨h, fun q => ?_, ?_⟩
  · have := (pm_lt h pm_in0).mp q
    omega
  · rw [pm_nat h]
    rfl
/-- a new row of whole numbers -/
theorem gw_row (hx : p.tables.exec = Jvm.exec) (hb : c.code = cc) (hK : pm_KK G cI cJ cR s) (harr : (Cond.arrayClass .int).before args s = true) (hA : ∀ q, s.heap.size ≤ q → A q) (hH : pm_Hd G vwCl cI cJ cR A f H) (hS : va_S A s.heap H locs) {n : Nat} (hn : n < 100000) (hcells : cells + 1 ≤ R.cells) (hslots : slots + n ≤ R.slots) (hd : decode cc pc = .ok (.newarray .int, 2))
    (kk : ∀ H1 : Heap, pm_Hd G vwCl cI cJ cR A (pm_up f H.size (.inl (n, fun _ => 0))) H1 → va_S A s.heap H1 locs → H1.size = H.size + 1 → W p l e R s m args below meth c H1 locs (cells + 1) (slots + n) Q (F0 m (pc + 2) ls (.ref H.size :: rest))) : W p l e R s m args below meth c H locs cells slots Q (F0 m pc ls (.int (Int32.ofInt (n : Int)) :: rest)) := by
  obtain ⟨h1, h2, h3⟩ := gw_n hn
  have hby : n * componentBytes (newarray.typeOf .int) ≤ 536870912 := by
    have e4 : componentBytes (newarray.typeOf .int) = 4 := rfl
    rw [e4]
    omega
  have hra : s.vm.findClass ("[" ++ (FieldType.int).toString) = some cI := (hK.1.2 0 _ rfl).2
  have hdv : defaultValue (newarray.typeOf .int) = .int 0 := rfl
  have hty : newarray.typeOf .int = .int := rfl
  refine va_newaK hx hb (atype := .int) harr (g := F0 m pc ls (.int (Int32.ofInt (n : Int)) :: rest)) rfl hd rfl h2 h3 hby hcells hslots rfl fun H1 cA e1 z1 o1 hAr hNm => ?_
  rw [hty] at hNm
  have hcA : cA = cI := Option.some.inj (hNm.symm.trans hra)
  subst hcA
  rw [hdv] at e1
  have hat : va_at G vwCl (H.size, pm_cc cA cJ cR (.inl (n, fun _ => 0))) H1 := e1
  exact kk H1 (gw_grow hH hat (hA _ hS.1) (fun _ => pm_in0) z1 o1) (gw_S hS z1 o1) z1
theorem gw_long (hx : p.tables.exec = Jvm.exec) (hb : c.code = cc) (hK : pm_KK G cI cJ cR s) (harr : (Cond.arrayClass .long).before args s = true) (hA : ∀ q, s.heap.size ≤ q → A q) (hH : pm_Hd G vwCl cI cJ cR A f H) (hS : va_S A s.heap H locs) {n : Nat} (hn : n < 100000) (hcells : cells + 1 ≤ R.cells) (hslots : slots + n ≤ R.slots) (hd : decode cc pc = .ok (.newarray .long, 2))
    (kk : ∀ H1 : Heap, pm_Hd G vwCl cI cJ cR A (pm_up f H.size (.inr (.inr (.inl (n, fun _ => 0))))) H1 → va_S A s.heap H1 locs → H1.size = H.size + 1 → W p l e R s m args below meth c H1 locs (cells + 1) (slots + n) Q (F0 m (pc + 2) ls (.ref H.size :: rest))) : W p l e R s m args below meth c H locs cells slots Q (F0 m pc ls (.int (Int32.ofInt (n : Int)) :: rest)) := by
  obtain ⟨h1, h2, h3⟩ := gw_n hn
  have hby : n * componentBytes (newarray.typeOf .long) ≤ 536870912 := by
    have e4 : componentBytes (newarray.typeOf .long) = 8 := rfl
    rw [e4]
    omega
  have hra : s.vm.findClass ("[" ++ (FieldType.long).toString) = some cJ := (hK.1.2 1 _ rfl).2
  have hdv : defaultValue (newarray.typeOf .long) = .long 0 := rfl
  have hty : newarray.typeOf .long = .long := rfl
  refine va_newaK hx hb (atype := .long) harr (g := F0 m pc ls (.int (Int32.ofInt (n : Int)) :: rest)) rfl hd rfl h2 h3 hby hcells hslots rfl fun H1 cA e1 z1 o1 hAr hNm => ?_
  rw [hty] at hNm
  have hcA : cA = cJ := Option.some.inj (hNm.symm.trans hra)
  subst hcA
  rw [hdv] at e1
  have hat : va_at G vwCl (H.size, pm_cc cI cA cR (.inr (.inr (.inl (n, fun _ => 0))))) H1 := e1
  exact kk H1 (gw_grow hH hat (hA _ hS.1) trivial z1 o1) (gw_S hS z1 o1) z1
/-- a new row of references -/
theorem gw_refs (hx : p.tables.exec = Jvm.exec) (hb : c.code = cc) (hown : s.vm.findClass own = some m.cls) (hK : pm_KK G cI cJ cR s) {k n index : Nat} {C : String} (hk : (pm_tys cI cJ cR)[k + 2]? = some (cR k, .object C)) (hk2 : k < 2) (hcl : (Cond.classLink own index C).before args s = true) (hov : (Cond.arrayOver (.object C)).before args s = true) (hA : ∀ q, s.heap.size ≤ q → A q) (hH : pm_Hd G vwCl cI cJ cR A f H) (hS : va_S A s.heap H locs) (hn : n < 100000) (hcells : cells + 1 ≤ R.cells) (hslots : slots + n ≤ R.slots) (hd : decode cc pc = .ok (.anewarray index, 3))
    (kk : ∀ H1 : Heap, pm_Hd G vwCl cI cJ cR A (pm_up f H.size (.inr (.inl (k, n, fun _ => none)))) H1 → va_S A s.heap H1 locs → H1.size = H.size + 1 → W p l e R s m args below meth c H1 locs (cells + 1) (slots + n) Q (F0 m (pc + 3) ls (.ref H.size :: rest))) : W p l e R s m args below meth c H locs cells slots Q (F0 m pc ls (.int (Int32.ofInt (n : Int)) :: rest)) := by
  obtain ⟨h1, h2, h3⟩ := gw_n hn
  refine W.anew hx hb hown hcl hov rfl hd rfl h2 (by rw [h3]; omega) hcells (by rw [h3]; exact hslots) fun cA kA comp g1 g2 g3 g4 => ?_
  obtain ⟨-, k1, c1, -, -, -, hNm⟩ := hK.1.2 _ _ hk
  have hcA : cA = cR k := Option.some.inj (g1.symm.trans hNm)
  subst hcA
  rw [h3]
  have z1 : (H.push { cls := cR k, slots := Array.replicate n .null, vm := .none }).size = H.size + 1 := by simp
  have o1 : ∀ q, q < H.size → (H.push { cls := cR k, slots := Array.replicate n .null, vm := .none })[q]? = H[q]? := fun q hq => by rw [Array.getElem?_push, if_neg (Nat.ne_of_lt hq)]
  refine kk _ (gw_grow hH ?_ (hA _ hS.1) hk2 z1 o1) (gw_S hS z1 o1) z1
  show _ = some (arrV (cR k) n fun _ => va_rf none)
  rw [Array.getElem?_push_size]
  exact congrArg some (arrV_new (cR k) n .null)
/-- a new object -/
theorem gw_new (hx : p.tables.exec = Jvm.exec) (hb : c.code = cc) (hown : s.vm.findClass own = some m.cls) (hts : ∀ w ∈ a0w :: pm_WS, w.before args s = true) (hK : pm_KK G cI cJ cR s) {ci index : Nat} {q : vw_C} (hq : vwCl[ci]? = some q) (hcl : Cond.classLink own index q.1 ∈ pm_WS) (hinst : Cond.instantiable q.1 q.2.2 ∈ pm_WS) (hini : Cond.initialized q.1 ∈ pm_WS) {fs : List pm_V} (hfs : ∀ j, j < q.2.2 → ∀ ty, parseFieldDescriptor (q.2.1 j).2.2.1 = some ty → defaultValue ty = vp_V (fs.map pm_cv) j) (hokf : ∀ v ∈ fs, pm_ok v)
    (hA : ∀ q, s.heap.size ≤ q → A q) (hH : pm_Hd G vwCl cI cJ cR A f H) (hS : va_S A s.heap H locs) (hcells : cells + 1 ≤ R.cells) (hslots : slots + q.2.2 ≤ R.slots) (hd : decode cc pc = .ok (.new index, 3))
    (kk : ∀ H1 : Heap, pm_Hd G vwCl cI cJ cR A (pm_up f H.size (.inr (.inr (.inr (ci, fs))))) H1 → va_S A s.heap H1 locs → H1.size = H.size + 1 → W p l e R s m args below meth c H1 locs (cells + 1) (slots + q.2.2) Q (F0 m (pc + 3) ls (.ref H.size :: rest))) : W p l e R s m args below meth c H locs cells slots Q (F0 m pc ls rest) := by
  obtain ⟨hcin, ⟨ty0, hty⟩, hnm⟩ := pm_cls hq
  have hKn := hK.1.1 ci _ hq
  refine W.newcK hx hb hown (hts _ (List.mem_cons_of_mem _ hcl)) (hts _ (List.mem_cons_of_mem _ hinst)) (hts _ (List.mem_cons_of_mem _ hini)) rfl hd hcells hslots hKn.2.1 rfl fun H1 kC hkC e1 z1 o1 => ?_
  refine kk H1 (gw_grow hH ⟨_, hq, ?_⟩ (hA _ hS.1) hokf z1 o1) (gw_S hS z1 o1) z1
  exact (u_born ty0 (ws := a0w :: pm_WS) hts (fun w hw => List.mem_cons_of_mem _ (hcin w hw)) hKn hkC e1 hty).to (fun j hj => hfs j hj _ (hty j hj))
/-- a field written in a constructor -/
theorem gw_put (hx : p.tables.exec = Jvm.exec) (hb : c.code = cc) (hown : s.vm.findClass own = some m.cls) (hts : ∀ w ∈ a0w :: pm_WS, w.before args s = true) (hK : pm_KK G cI cJ cR s) {n ci k : Nat} {q : vw_C} (hq : vwCl[ci]? = some q) (hk : k < q.2.2) (hl : Cond.fieldLink own n (q.2.1 k).1 (q.2.1 k).2.1 (q.2.1 k).2.2.1 ∈ pm_WS) (hin2 : meth.name = "<init>") (hdecl : (q.2.1 k).1 = own) {ty : FieldType} {v : pm_V} (hd2 : parseFieldDescriptor (q.2.1 k).2.2.1 = some ty) (hn : narrow ty (pm_cv v) = pm_cv v) (hfit : fits ty (pm_cv v) = true) {a : Nat} {fs : List pm_V} (hfa : f a = some (.inr (.inr (.inr (ci, fs))))) (hlen : k < fs.length) (hv : pm_ok v)
    (hH : pm_Hd G vwCl cI cJ cR A f H) (hS : va_S A s.heap H locs) (hd : decode cc pc = .ok (.putfield n, 3))
    (kk : ∀ (H1 : Heap) (locs1 : List Loc), pm_Hd G vwCl cI cJ cR A (pm_up f a (.inr (.inr (.inr (ci, fs.set k v))))) H1 → va_S A s.heap H1 locs1 → H1.size = H.size → W p l e R s m args below meth c H1 locs1 cells slots Q (F0 m (pc + 3) ls rest)) : W p l e R s m args below meth c H locs cells slots Q (F0 m pc ls (pm_cv v :: .ref a :: rest)) := by
  obtain ⟨C, T, N⟩ := q
  obtain ⟨hcin, ⟨ty0, hty⟩, hnm⟩ := pm_cls hq
  have hin : ∀ w ∈ u_ws C T N, w ∈ a0w :: pm_WS := fun w hw => List.mem_cons_of_mem _ (hcin w hw)
  have hap := va_apart (own := own) hts hin ty0 hty hnm hK.1 hq
  obtain ⟨hat, hAa, hoka⟩ := hH a _ hfa
  obtain ⟨r, h1, cell, q1, q2, q3, q4⟩ := hat
  have hr : r = (C, T, N) := Option.some.inj (h1.symm.trans hq)
  subst hr
  obtain ⟨hSs, hfc, kC, hkC, hkind⟩ := hK.1.1 ci _ hq
  obtain ⟨cf, kf, fi, fl, hi, hsl⟩ := hSs k hk
  have hlay := hts _ (hin _ (u_in_lay hk))
  have hst := (u_facts hfc hkC (u_lays hts hin hk) hi).1
  have hl' : k < (fs.map pm_cv).length := by rw [List.length_map]; exact hlen
  have hok' : pm_okc (.inr (.inr (.inr (ci, fs.set k v)))) := fun w hw => by
    rcases List.mem_or_eq_of_mem_set hw with h | h
    · exact hoka w h
    · rw [h]; exact hv
  have fin : ∀ (H1 : Heap) (cell1 : Cell) (j : Nat), H1[a]? = some cell1 → cell1 = cell.setSlot (G.2 ci k) (pm_cv v) → H1.size = H.size → (∀ z : Nat, z ≠ a → H1[z]? = H[z]?) → W p l e R s m args below meth c H1 (locs ++ [⟨a, j⟩]) cells slots Q (F0 m (pc + 3) ls rest) := by
    intro H1 cell1 j e1 ee e2 e3
    subst ee
    refine kk H1 _ (pm_Hd_up hH ?_ hAa hok' e3) (hS.put e2 e3 hAa) e2
    show va_at G vwCl (a, .inr (ci, (fs.set k v).map pm_cv)) H1
    rw [List.map_set]
    exact ⟨_, hq, t_OB.to (V := updV (vp_V (fs.map pm_cv)) k _) ⟨_, e1, q2, q3, t_set q4 hap hk _⟩ (fun j _ => vp_updV_set hl' _ j)⟩
  by_cases hfin : (T k).2.2.2 = true
  · unfold u_lay at hlay
    rw [if_pos hfin] at hlay
    have hcf : m.cls = cf := by
      obtain ⟨_, _, c', _, _, _, -, -, hf', -, -, -, hown2, -⟩ := Cond.laysFinal_spec hlay
      have e1 : c' = cf := by have := hi.symm.trans hf'; simp at this; exact this.1.symm
      rw [show (T k).1 = own from hdecl] at hown2
      rw [← e1]; exact Option.some.inj (hown.symm.trans hown2)
    have h6 := u_fits hfc hkC hkind (Or.inr hlay) hi hd2 hn hfit
    refine W.putFinK hx hb hown (hts _ (List.mem_cons_of_mem _ hl)) hi hst hcf hin2 (by rw [q2]; exact h6) q1 q3 (by rw [hsl]; exact k2_hasslot (q4 k hk)) rfl rfl hd fun H' e1 e2 e3 => ?_
    rw [hsl] at e1 ⊢
    exact fin H' _ _ e1 rfl e2 e3
  · unfold u_lay at hlay
    rw [if_neg hfin] at hlay
    have h6 := u_store hfc hkC hkind hlay hi hd2 hn hfit
    refine W.putK hx hb (f := fl) ⟨hown, hts _ (List.mem_cons_of_mem _ hl), ⟨_, _, _, hi⟩, hst⟩ (by rw [q2]; exact h6) q1 q3 (by rw [hsl]; exact k2_hasslot (q4 k hk)) rfl rfl hd fun H' e1 e2 e3 => ?_
    rw [hsl] at e1 ⊢
    exact fin H' _ _ e1 rfl e2 e3
end GROW
