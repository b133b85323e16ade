section PMT
variable {p : Program} {l : Launch} {e : Env} {R : Room} {s : State} {m : MethodId} {args : Array Value} {below : List Frame} {meth : Method} {c : Code} {cells slots : Nat} {Q : State → Prop}
variable {G : va_G} {cl : List vw_C} {cI cJ : ClassId} {cR : Nat → ClassId} {A : Nat → Prop} {nL : Nat} {E : pm_E} {P : pm_P} {PX : pm_PX}
/-- the machine's goal at a pure state -/
def pm_XW (p : Program) (l : Launch) (e : Env) (R : Room) (s : State) (m : MethodId) (args : Array Value) (below : List Frame) (meth : Method) (c : Code) (cells slots : Nat) (Q : State → Prop) (G : va_G) (cl : List vw_C) (cI cJ : ClassId) (cR : Nat → ClassId) (A : Nat → Prop) (nL : Nat) : pm_K := fun pc lv st f =>
  (∀ i v, pm_lg lv i = some v → pm_ok v) → (∀ v ∈ st, pm_ok v) → ∀ (ls : Array Slot) (H : Heap) (locs : List Loc), pm_Lr ls nL lv → pm_Hd G cl cI cJ cR A f H → va_S A s.heap H locs → W p l e R s m args below meth c H locs cells slots Q (F0 m pc ls (st.map pm_cv))
theorem pm_tg_e {pc t : Nat} {o : Int} (h : pm_tg pc o = some t) : (pc : Int) + o = (t : Int) := by
  unfold pm_tg at h
  split at h
  · rename_i h0
    cases h
    omega
  · cases h
theorem pm_sw_e {x d hi : Int} {k : Int → Prop} : ∀ (os : List Int) (lo : Int), hi - lo + 1 = (os.length : Int) → pm_sw x k d lo os → ((x < lo ∨ hi < x) ∧ k d) ∨ (¬ x < lo ∧ ¬ hi < x ∧ ∃ o, os[(x - lo).toNat]? = some o ∧ k o)
  | [], lo, hl, h => by
    unfold pm_sw at h
    simp only [List.length_nil] at hl
    exact Or.inl ⟨by omega, h⟩
  | o :: os, lo, hl, h => by
    unfold pm_sw at h
    simp only [List.length_cons] at hl
    split at h
    · rename_i hx
      right
      refine ⟨by omega, by omega, o, ?_, h⟩
      rw [show (x - lo).toNat = 0 by omega]
      rfl
    · rename_i hx
      rcases pm_sw_e (hi := hi) os (lo + 1) (by omega) h with ⟨h1, h2⟩ | ⟨h1, h2, o', h3, h4⟩
      · exact Or.inl ⟨by omega, h2⟩
      · right
        refine ⟨by omega, h2, o', ?_, h4⟩
        rw [show (x - lo).toNat = (x - (lo + 1)).toNat + 1 by omega]
        exact h3
theorem pm_lw_e {x d : Int} {k : Int → Prop} : ∀ (os : List (Int × Int)), pm_lw x k d os → k (Op.lookupswitch.offset os d x)
  | [], h => h
  | q :: os, h => by
    unfold pm_lw at h
    unfold Op.lookupswitch.offset
    split at h
    · rename_i hx
      rw [if_pos hx.symm]
      exact h
    · rename_i hx
      rw [if_neg (fun q => hx q.symm)]
      exact pm_lw_e os h
theorem pm_pop_e : ∀ (n : Nat) (acc st as r : List pm_V), pm_pop n acc st = some (as, r) → as.reverse ++ r = acc.reverse ++ st ∧ as.length = n + acc.length
  | 0, acc, st, as, r, h => by
    unfold pm_pop at h
    cases h
    simp
  | n + 1, acc, [], as, r, h => by simp [pm_pop] at h
  | n + 1, acc, v :: st, as, r, h => by
    unfold pm_pop at h
    obtain ⟨h1, h2⟩ := pm_pop_e n (v :: acc) st as r h
    simp only [List.length_cons] at h2
    exact ⟨by rw [h1]; simp, by omega⟩
theorem pm_and_in (x y : Int) : pm_in (pm_and x y) := pm_ofI _
set_option maxHeartbeats 8000000 in
set_option maxRecDepth 20000 in
theorem pm_go_s (hx : p.tables.exec = Jvm.exec) (hb : c.code = pm_eB E) (hKI : ArrOfT s cI .int) (hKJ : ArrOfT s cJ .long)
    (hKR : ∀ k : Nat, k < 2 → ∃ q : vw_C, cl[k]? = some q ∧ ArrOfT s (cR k) (.object q.1) ∧ va_RA s (cR k) (.object q.1) ∧ ClassAt s q.1 (G.1 k))
    (hG : ∀ (n ci k : Nat) (b : Nat), pm_eF E n = some (ci, k, b) → ∀ (pc : Nat) (ls : Array Slot) (rest : List Value) (H : Heap) (locs : List Loc) (a : Nat) (fs : List Value) (v : Value), decode (pm_eB E) pc = .ok (.getfield n, 3) → va_at G cl (a, .inr (ci, fs)) H → fs[k]? = some v → W p l e R s m args below meth c H locs cells slots Q (F0 m (pc + 3) ls (v :: rest)) → W p l e R s m args below meth c H locs cells slots Q (F0 m pc ls (.ref a :: rest)))
    (hU : ∀ (n ci k : Nat) (b : Nat), pm_eF E n = some (ci, k, b) → ∀ (pc : Nat) (ls : Array Slot) (rest : List Value) (H : Heap) (locs : List Loc) (a : Nat) (fs : List Value) (v : Value) (x : Int), decode (pm_eB E) pc = .ok (.putfield n, 3) → va_at G cl (a, .inr (ci, fs)) H → fs[k]? = some v → pm_fit b x → (∀ (H1 : Heap) (j : Nat), va_at G cl (a, .inr (ci, fs.set k (.int (Int32.ofInt x)))) H1 → H1.size = H.size → (∀ q : Nat, q ≠ a → H1[q]? = H[q]?) → W p l e R s m args below meth c H1 (locs ++ [⟨a, j⟩]) cells slots Q (F0 m (pc + 3) ls rest)) → W p l e R s m args below meth c H locs cells slots Q (F0 m pc ls (.int (Int32.ofInt x) :: .ref a :: rest)))
    (hKc : ∀ (n : Nat) (v : pm_V), pm_eK E n = some v → pm_ok v ∧ ∀ (pc len : Nat) (ls : Array Slot) (rest : List Value) (H : Heap) (locs : List Loc), (decode (pm_eB E) pc = .ok (.ldc n, len) ∧ len = 2 ∧ pm_isl v = false ∨ decode (pm_eB E) pc = .ok (.ldc_w n, len) ∧ len = 3 ∧ pm_isi v = true ∨ decode (pm_eB E) pc = .ok (.ldc2_w n, len) ∧ len = 3 ∧ pm_isl v = true) → va_S A s.heap H locs → W p l e R s m args below meth c H locs cells slots Q (F0 m (pc + len) ls (pm_cv v :: rest)) → W p l e R s m args below meth c H locs cells slots Q (F0 m pc ls rest))
    (hC : ∀ (n k : Nat) (ci : Option Nat) (T : pm_T), pm_eC E n = some (k, ci, T) → ∀ (pc : Nat) (as r : List pm_V) (f : pm_H) (P' : pm_P) (ls : Array Slot) (H : Heap) (locs : List Loc), (ci.isSome = true ∧ decode (pm_eB E) pc = .ok (.invokevirtual n, 3) ∨ ci.isSome = false ∧ decode (pm_eB E) pc = .ok (.invokestatic n, 3)) → as.length = k → pm_rcv ci f as → pm_cat r ≤ 8 → T as f P' → (∀ v ∈ as, pm_ok v) → ls.size = nL → pm_Hd G cl cI cJ cR A f H → va_S A s.heap H locs →
      (∀ (v : Option pm_V) (f' : pm_H) (H' : Heap) (locs' : List Loc), P' v f' → (∀ w ∈ v.toList, pm_ok w) → pm_Hd G cl cI cJ cR A f' H' → va_S A s.heap H' locs' → W p l e R s m args below meth c H' locs' cells slots Q (F0 m (pc + 3) ls ((v.toList ++ r).map pm_cv))) → W p l e R s m args below meth c H locs cells slots Q (F0 m pc ls ((as.reverse ++ r).map pm_cv)))
    (hCX : ∀ (n k : Nat) (ci : Option Nat) (T : pm_TX), pm_eX E n = some (k, ci, T) → ∀ (pc : Nat) (as r : List pm_V) (f : pm_H) (P' : pm_P) (PX' : pm_PX) (ls : Array Slot) (H : Heap) (locs : List Loc), ci.isSome = true → decode (pm_eB E) pc = .ok (.invokevirtual n, 3) → as.length = k → pm_rcv ci f as → pm_cat r ≤ 8 → T as f P' PX' → (∀ v ∈ as, pm_ok v) → ls.size = nL → pm_Hd G cl cI cJ cR A f H → va_S A s.heap H locs →
      (∀ (v : Option pm_V) (f' : pm_H) (H' : Heap) (locs' : List Loc), P' v f' → (∀ w ∈ v.toList, pm_ok w) → pm_Hd G cl cI cJ cR A f' H' → va_S A s.heap H' locs' → W p l e R s m args below meth c H' locs' cells slots Q (F0 m (pc + 3) ls ((v.toList ++ r).map pm_cv))) → (∀ e f', PX' e f' → PX e f') → W p l e R s m args below meth c H locs cells slots Q (F0 m pc ls ((as.reverse ++ r).map pm_cv)))
    (hT : ∀ (pc n : Nat) (x : String), pm_eT E pc = some x → decode (pm_eB E) pc = .ok (.new n, 3) → ∀ (f : pm_H) (ls : Array Slot) (H : Heap) (locs : List Loc), PX x f → ls.size = nL → pm_Hd G cl cI cJ cR A f H → va_S A s.heap H locs → W p l e R s m args below meth c H locs cells slots Q (F0 m pc ls []))
    (hRI : ∀ (pc : Nat) (z : Int) (f : pm_H) (ls : Array Slot) (H : Heap) (locs : List Loc), decode (pm_eB E) pc = .ok (.ireturn, 1) → pm_eR E = some .int ∨ pm_eR E = some .boolean ∧ (z = 0 ∨ z = 1) → pm_in z → P (some (.inl z)) f → pm_Hd G cl cI cJ cR A f H → va_S A s.heap H locs → W p l e R s m args below meth c H locs cells slots Q (F0 m pc ls [.int (Int32.ofInt z)]))
    (hRA : ∀ (pc : Nat) (a : Nat) (f : pm_H) (ls : Array Slot) (H : Heap) (locs : List Loc), decode (pm_eB E) pc = .ok (.areturn, 1) → pm_isR (pm_eR E) → P (some (.inr (.inl (some a)))) f → pm_Hd G cl cI cJ cR A f H → va_S A s.heap H locs → W p l e R s m args below meth c H locs cells slots Q (F0 m pc ls [.ref a]))
    (hRL : ∀ (pc : Nat) (a : Int64) (f : pm_H) (ls : Array Slot) (H : Heap) (locs : List Loc), decode (pm_eB E) pc = .ok (.lreturn, 1) → pm_eR E = some .long → P (some (.inr (.inr a))) f → pm_Hd G cl cI cJ cR A f H → va_S A s.heap H locs → W p l e R s m args below meth c H locs cells slots Q (F0 m pc ls [.long a]))
    (hRV : ∀ (pc : Nat) (f : pm_H) (ls : Array Slot) (H : Heap) (locs : List Loc), decode (pm_eB E) pc = .ok (.return_, 1) → pm_eR E = none → P none f → pm_Hd G cl cI cJ cR A f H → va_S A s.heap H locs → W p l e R s m args below meth c H locs cells slots Q (F0 m pc ls []))
    {i : Instr} {len pc : Nat} {lv : pm_L} {st : List pm_V} {f : pm_H} (hd : decode (pm_eB E) pc = .ok (i, len))
    (h : pm_go E P PX (pm_XW p l e R s m args below meth c cells slots Q G cl cI cJ cR A nL) i len pc lv st f) : pm_XW p l e R s m args below meth c cells slots Q G cl cI cJ cR A nL pc lv st f := by
  intro ho hs ls H locs hl hH hS
  unfold pm_go at h
  split at h
  · -- iconst
    refine lv_iconst hx hb hd rfl (h.2 ho (pm_okS ⟨?_, ?_⟩ hs) ls H locs hl hH hS)
    · have := h.1.1; omega
    · have := h.1.2; omega
  · -- bipush
    rename_i n
    refine lv_bipush hx hb hd (v := Int32.ofInt n) ?_ (h.2 ho (pm_okS ⟨?_, ?_⟩ hs) ls H locs hl hH hS)
    · rw [← Int32.toInt_inj, Int8.toInt_toInt32, Int8.toInt_ofInt_of_le (by have := h.1.1; omega) (by have := h.1.2; omega), pm_toI ⟨by have := h.1.1; omega, by have := h.1.2; omega⟩]
    · have := h.1.1; omega
    · have := h.1.2; omega
  · -- sipush
    rename_i n
    refine lv_sipush hx hb hd (v := Int32.ofInt n) ?_ (h.2 ho (pm_okS ⟨?_, ?_⟩ hs) ls H locs hl hH hS)
    · rw [← Int32.toInt_inj, Int16.toInt_toInt32, Int16.toInt_ofInt_of_le (by have := h.1.1; omega) (by have := h.1.2; omega), pm_toI ⟨by have := h.1.1; omega, by have := h.1.2; omega⟩]
    · have := h.1.1; omega
    · have := h.1.2; omega
  · -- lconst
    exact lv_lconst hx hb hd rfl (h ho (pm_okS trivial hs) ls H locs hl hH hS)
  · -- ldc
    obtain ⟨v, hv, hq, h⟩ := pm_vv_e h
    obtain ⟨h1, h2⟩ := hKc _ _ hv
    exact h2 pc 2 ls _ H locs (Or.inl ⟨hd, rfl, hq⟩) hS (h ho (pm_okS h1 hs) ls H locs hl hH hS)
  · -- ldc_w
    obtain ⟨v, hv, hq, h⟩ := pm_vv_e h
    obtain ⟨h1, h2⟩ := hKc _ _ hv
    exact h2 pc 3 ls _ H locs (Or.inr (Or.inl ⟨hd, rfl, hq⟩)) hS (h ho (pm_okS h1 hs) ls H locs hl hH hS)
  · -- ldc2_w
    obtain ⟨v, hv, hq, h⟩ := pm_vv_e h
    obtain ⟨h1, h2⟩ := hKc _ _ hv
    exact h2 pc 3 ls _ H locs (Or.inr (Or.inr ⟨hd, rfl, hq⟩)) hS (h ho (pm_okS h1 hs) ls H locs hl hH hS)
  · -- iload
    obtain ⟨z, hz, h⟩ := pm_kI_e h
    exact lv_iload hx hb hd (hl.2.2.2 _ _ hz) (h ho (pm_okS (ho _ _ hz) hs) ls H locs hl hH hS)
  · -- iload_n
    obtain ⟨z, hz, h⟩ := pm_kI_e h
    exact lv_iload_n hx hb hd rfl (hl.2.2.2 _ _ hz) (h ho (pm_okS (ho _ _ hz) hs) ls H locs hl hH hS)
  · -- aload
    obtain ⟨z, hz, h⟩ := pm_kR_e h
    exact lv_aload hx hb hd (hl.2.2.2 _ _ hz) (h ho (pm_okS (ho _ _ hz) hs) ls H locs hl hH hS)
  · -- aload_n
    obtain ⟨z, hz, h⟩ := pm_kR_e h
    exact lv_aload_n hx hb hd rfl (hl.2.2.2 _ _ hz) (h ho (pm_okS (ho _ _ hz) hs) ls H locs hl hH hS)
  · -- lload_n
    obtain ⟨z, hz, h⟩ := pm_kL_e h
    exact lv_lload_n hx hb hd rfl (hl.2.2.2 _ _ hz) (h ho (pm_okS (ho _ _ hz) hs) ls H locs hl hH hS)
  · -- istore
    obtain ⟨x, r, rfl, hn, h⟩ := pm_1i_e h
    exact lv_istore hx hb hd (pm_Lr_has hl) (hl.2.2.1 ▸ hn) rfl fun ls' hl' => h (pm_okL_st ho (hs _ List.mem_cons_self)) (fun v hv => hs v (List.mem_cons_of_mem _ hv)) ls' H locs (pm_Lr_st (v := .inl x) hl.2.2.1 hl') hH hS
  · -- istore_n
    obtain ⟨x, r, rfl, hn, h⟩ := pm_1i_e h
    exact lv_istore_n hx hb hd rfl (pm_Lr_has hl) (hl.2.2.1 ▸ hn) rfl fun ls' hl' => h (pm_okL_st ho (hs _ List.mem_cons_self)) (fun v hv => hs v (List.mem_cons_of_mem _ hv)) ls' H locs (pm_Lr_st (v := .inl x) hl.2.2.1 hl') hH hS
  · -- astore
    obtain ⟨x, r, rfl, hn, h⟩ := pm_1r_e h
    exact lv_astore hx hb hd (pm_Lr_has hl) (hl.2.2.1 ▸ hn) rfl fun ls' hl' => h (pm_okL_st ho trivial) (fun v hv => hs v (List.mem_cons_of_mem _ hv)) ls' H locs (pm_Lr_st (v := .inr (.inl (some x))) hl.2.2.1 hl') hH hS
  · -- astore_n
    obtain ⟨x, r, rfl, hn, h⟩ := pm_1r_e h
    exact lv_astore_n hx hb hd rfl (pm_Lr_has hl) (hl.2.2.1 ▸ hn) rfl fun ls' hl' => h (pm_okL_st ho trivial) (fun v hv => hs v (List.mem_cons_of_mem _ hv)) ls' H locs (pm_Lr_st (v := .inr (.inl (some x))) hl.2.2.1 hl') hH hS
  · -- lstore_n
    obtain ⟨x, r, rfl, hn, h⟩ := pm_1l_e h
    exact lv_lstore_n hx hb hd rfl (pm_Lr_has hl) (hl.2.2.1 ▸ hn) rfl fun ls' hl' => h (pm_okL_ll ho trivial) (fun v hv => hs v (List.mem_cons_of_mem _ hv)) ls' H locs (pm_Lr_ll (v := .inr (.inr x)) hl.2.2.1 hl') hH hS
  · -- iinc
    rename_i n k
    obtain ⟨z, hz, hr, h⟩ := pm_kI_e h
    obtain ⟨j, hj⟩ := List.getElem?_of_mem (pm_en_mem.mpr ⟨n, .inl z, rfl, hz⟩ : ((0 + n, pm_cv (.inl z)) ∈ pm_en 0 lv))
    rw [Nat.zero_add] at hj
    have hn : n < nL := by
      have h1 := hl.2.2.2 _ _ hz
      have h2 := (Array.getElem?_eq_some_iff.mp h1).1
      rw [hl.1] at h2
      exact h2
    exact lv_iinc hx hb hd (pm_Lr_has hl) hj (by rw [Int32.ofInt_add]) hn rfl fun ls' hl' => h (pm_okL_st ho hr) hs ls' H locs (pm_Lr_st (v := .inl (z + k)) hl.2.2.1 hl') hH hS
  · -- iadd
    obtain ⟨x, y, r, rfl, hr, h⟩ := pm_2i_e h
    refine lv_iadd hx hb hd ?_
    rw [← Int32.ofInt_add]
    exact h ho (pm_okS hr fun v hv => hs v (List.mem_cons_of_mem _ (List.mem_cons_of_mem _ hv))) ls H locs hl hH hS
  · -- isub
    obtain ⟨x, y, r, rfl, hr, h⟩ := pm_2i_e h
    refine lv_isub hx hb hd ?_
    rw [← Int32.ofInt_sub]
    exact h ho (pm_okS hr fun v hv => hs v (List.mem_cons_of_mem _ (List.mem_cons_of_mem _ hv))) ls H locs hl hH hS
  · -- imul
    obtain ⟨x, y, r, rfl, hr, h⟩ := pm_2i_e h
    refine lv_imul hx hb hd ?_
    rw [← Int32.ofInt_mul]
    exact h ho (pm_okS hr fun v hv => hs v (List.mem_cons_of_mem _ (List.mem_cons_of_mem _ hv))) ls H locs hl hH hS
  · -- ineg
    obtain ⟨x, r, rfl, hr, h⟩ := pm_1i_e h
    refine lv_ineg hx hb hd ?_
    rw [← Int32.ofInt_neg]
    have hxi : pm_in x := hs _ List.mem_cons_self
    exact h ho (pm_okS ⟨by have := hxi.2; omega, by omega⟩ fun v hv => hs v (List.mem_cons_of_mem _ hv)) ls H locs hl hH hS
  · -- irem
    obtain ⟨x, y, r, rfl, hr, h⟩ := pm_2i_e h
    have hyi : pm_in y := hs _ List.mem_cons_self
    have hxi : pm_in x := hs _ (List.mem_cons_of_mem _ List.mem_cons_self)
    obtain ⟨a, rfl⟩ := Int.eq_ofNat_of_zero_le hr.1
    obtain ⟨d, rfl⟩ := Int.eq_ofNat_of_zero_le (Int.le_of_lt hr.2)
    have hd0 : 0 < d := by have := hr.2; omega
    have ha2 : a < 2 ^ 31 := by have := hxi.2; omega
    have hd2 : d < 2 ^ 31 := by have := hyi.2; omega
    have e1 : ∀ n : Nat, Int32.ofInt (n : Int) = nI n := fun n => rfl
    refine lv_irem hx hb hd ?_ ?_
    · rw [e1]
      exact nI_ne0 hd0 hd2
    · rw [e1, e1, pk_rem ha2 hd0 hd2]
      have h5 := h ho (pm_okS (v := .inl ((a : Int) % (d : Int))) ?_ fun v hv => hs v (List.mem_cons_of_mem _ (List.mem_cons_of_mem _ hv))) ls H locs hl hH hS
      · exact h5
      · have h7 : a % d < d := Nat.mod_lt _ hd0
        have h8 : ((a : Int) % (d : Int)) = ((a % d : Nat) : Int) := rfl
        show pm_in _
        rw [h8]
        constructor <;> omega
  · -- iand
    obtain ⟨x, y, r, rfl, h⟩ := pm_2i_e h
    refine lv_iand hx hb hd ?_
    have h5 := h ho (pm_okS (pm_ofI _) fun v hv => hs v (List.mem_cons_of_mem _ (List.mem_cons_of_mem _ hv))) ls H locs hl hH hS
    unfold pm_and at h5
    simp only [List.map_cons, pm_cv, Int32.ofInt_toInt] at h5 ⊢
    exact h5
  · -- ior
    obtain ⟨x, y, r, rfl, h⟩ := pm_2i_e h
    refine lv_ior hx hb hd ?_
    have h5 := h ho (pm_okS (pm_ofI _) fun v hv => hs v (List.mem_cons_of_mem _ (List.mem_cons_of_mem _ hv))) ls H locs hl hH hS
    unfold pm_or at h5
    simp only [List.map_cons, pm_cv, Int32.ofInt_toInt] at h5 ⊢
    exact h5
  · -- ixor
    obtain ⟨x, y, r, rfl, h⟩ := pm_2i_e h
    refine lv_ixor hx hb hd ?_
    have h5 := h ho (pm_okS (pm_ofI _) fun v hv => hs v (List.mem_cons_of_mem _ (List.mem_cons_of_mem _ hv))) ls H locs hl hH hS
    unfold pm_xor at h5
    simp only [List.map_cons, pm_cv, Int32.ofInt_toInt] at h5 ⊢
    exact h5
  · -- ishl
    obtain ⟨x, y, r, rfl, h⟩ := pm_2i_e h
    refine lv_ishl hx hb hd ?_
    have h5 := h ho (pm_okS (pm_ofI _) fun v hv => hs v (List.mem_cons_of_mem _ (List.mem_cons_of_mem _ hv))) ls H locs hl hH hS
    unfold pm_shl at h5
    simp only [List.map_cons, pm_cv, Int32.ofInt_toInt] at h5 ⊢
    exact h5
  · -- ishr
    obtain ⟨x, y, r, rfl, h⟩ := pm_2i_e h
    refine lv_ishr hx hb hd ?_
    have h5 := h ho (pm_okS (pm_ofI _) fun v hv => hs v (List.mem_cons_of_mem _ (List.mem_cons_of_mem _ hv))) ls H locs hl hH hS
    unfold pm_shr at h5
    simp only [List.map_cons, pm_cv, Int32.ofInt_toInt] at h5 ⊢
    exact h5
  · -- iushr
    obtain ⟨x, y, r, rfl, h⟩ := pm_2i_e h
    refine lv_iushr hx hb hd rfl ?_
    have h5 := h ho (pm_okS (pm_ofI _) fun v hv => hs v (List.mem_cons_of_mem _ (List.mem_cons_of_mem _ hv))) ls H locs hl hH hS
    unfold pm_ush at h5
    simp only [List.map_cons, pm_cv, Int32.ofInt_toInt] at h5 ⊢
    exact h5
  · -- i2c
    obtain ⟨x, r, rfl, h⟩ := pm_1i_e h
    refine lv_i2c hx hb hd rfl ?_
    have h5 := h ho (pm_okS (pm_ofI _) fun v hv => hs v (List.mem_cons_of_mem _ hv)) ls H locs hl hH hS
    unfold pm_i2c at h5
    simp only [List.map_cons, pm_cv, Int32.ofInt_toInt] at h5 ⊢
    exact h5
  · -- i2l
    obtain ⟨x, r, rfl, h⟩ := pm_1i_e h
    exact lv_i2l hx hb hd rfl (h ho (pm_okS trivial fun v hv => hs v (List.mem_cons_of_mem _ hv)) ls H locs hl hH hS)
  · -- l2i
    obtain ⟨x, r, rfl, h⟩ := pm_1l_e h
    refine lv_l2i hx hb hd rfl ?_
    have h5 := h ho (pm_okS (pm_ofI _) fun v hv => hs v (List.mem_cons_of_mem _ hv)) ls H locs hl hH hS
    unfold pm_l2i at h5
    simp only [List.map_cons, pm_cv, Int32.ofInt_toInt] at h5 ⊢
    exact h5
  · -- ladd
    obtain ⟨x, y, r, rfl, h⟩ := pm_2l_e h
    exact lv_ladd hx hb hd (h ho (pm_okS trivial fun v hv => hs v (List.mem_cons_of_mem _ (List.mem_cons_of_mem _ hv))) ls H locs hl hH hS)
  · -- lsub
    obtain ⟨x, y, r, rfl, h⟩ := pm_2l_e h
    exact lv_lsub hx hb hd (h ho (pm_okS trivial fun v hv => hs v (List.mem_cons_of_mem _ (List.mem_cons_of_mem _ hv))) ls H locs hl hH hS)
  · -- land
    obtain ⟨x, y, r, rfl, h⟩ := pm_2l_e h
    exact lv_land hx hb hd (h ho (pm_okS trivial fun v hv => hs v (List.mem_cons_of_mem _ (List.mem_cons_of_mem _ hv))) ls H locs hl hH hS)
  · -- lxor
    obtain ⟨x, y, r, rfl, h⟩ := pm_2l_e h
    exact lv_lxor hx hb hd (h ho (pm_okS trivial fun v hv => hs v (List.mem_cons_of_mem _ (List.mem_cons_of_mem _ hv))) ls H locs hl hH hS)
  · -- lshl
    obtain ⟨x, y, r, rfl, h⟩ := pm_li_e h
    exact lv_lshl hx hb hd rfl (h ho (pm_okS trivial fun v hv => hs v (List.mem_cons_of_mem _ (List.mem_cons_of_mem _ hv))) ls H locs hl hH hS)
  · -- lushr
    obtain ⟨x, y, r, rfl, h⟩ := pm_li_e h
    exact lv_lushr hx hb hd rfl (h ho (pm_okS trivial fun v hv => hs v (List.mem_cons_of_mem _ (List.mem_cons_of_mem _ hv))) ls H locs hl hH hS)
  · -- lcmp
    obtain ⟨x, y, r, rfl, h⟩ := pm_2l_e h
    refine W.lcmp hx hb hd ?_
    have h5 := h ho (pm_okS (pm_ofI _) fun v hv => hs v (List.mem_cons_of_mem _ (List.mem_cons_of_mem _ hv))) ls H locs hl hH hS
    unfold pm_lcmp at h5
    simp only [List.map_cons, pm_cv, Int32.ofInt_toInt] at h5 ⊢
    exact h5
  · -- dup
    obtain ⟨v, r, rfl, hc, h⟩ := pm_d1_e h
    exact lv_dup hx hb hd hc (h ho (pm_okS (hs _ List.mem_cons_self) hs) ls H locs hl hH hS)
  · -- dup2
    obtain ⟨v, w, r, rfl, hc, hc2, h⟩ := pm_d2_e h
    exact lv_dup2_11 hx hb hd hc hc2 (h ho (pm_okS (hs _ List.mem_cons_self) (pm_okS (hs _ (List.mem_cons_of_mem _ List.mem_cons_self)) hs)) ls H locs hl hH hS)
  · -- pop
    obtain ⟨v, r, rfl, hc, h⟩ := pm_d1_e h
    exact lv_pop hx hb hd hc (h ho (fun v hv => hs v (List.mem_cons_of_mem _ hv)) ls H locs hl hH hS)
  · -- goto
    obtain ⟨t, ht, h⟩ := pm_kt_e h
    exact lv_goto hx hb hd (pm_tg_e ht) (h ho hs ls H locs hl hH hS)
  · -- ifeq
    obtain ⟨t, ht, h1⟩ := pm_kt_e h
    obtain ⟨x, r, rfl, h2⟩ := pm_1i_e h1
    have hxi : pm_in x := hs _ List.mem_cons_self
    have hs' := fun v hv => hs v (List.mem_cons_of_mem _ hv)
    refine lv_if_eq hx hb hd (pm_tg_e ht) (fun q => ?_) (fun q => ?_)
    · rw [if_pos ((pm_eq hxi pm_in0).mp q)] at h2; exact h2 ho hs' ls H locs hl hH hS
    · rw [if_neg (fun z => q ((pm_eq hxi pm_in0).mpr z))] at h2; exact h2 ho hs' ls H locs hl hH hS
  · -- ifne
    obtain ⟨t, ht, h1⟩ := pm_kt_e h
    obtain ⟨x, r, rfl, h2⟩ := pm_1i_e h1
    have hxi : pm_in x := hs _ List.mem_cons_self
    have hs' := fun v hv => hs v (List.mem_cons_of_mem _ hv)
    refine lv_if_ne hx hb hd (pm_tg_e ht) (fun q => ?_) (fun q => ?_)
    · rw [if_neg (fun z => q ((pm_eq hxi pm_in0).mpr z))] at h2; exact h2 ho hs' ls H locs hl hH hS
    · rw [if_pos ((pm_eq hxi pm_in0).mp q)] at h2; exact h2 ho hs' ls H locs hl hH hS
  · -- iflt
    obtain ⟨t, ht, h1⟩ := pm_kt_e h
    obtain ⟨x, r, rfl, h2⟩ := pm_1i_e h1
    have hxi : pm_in x := hs _ List.mem_cons_self
    have hs' := fun v hv => hs v (List.mem_cons_of_mem _ hv)
    refine lv_if_lt hx hb hd (pm_tg_e ht) (fun q => ?_) (fun q => ?_)
    · rw [if_pos ((pm_lt hxi pm_in0).mp q)] at h2; exact h2 ho hs' ls H locs hl hH hS
    · rw [if_neg (fun z => q ((pm_lt hxi pm_in0).mpr z))] at h2; exact h2 ho hs' ls H locs hl hH hS
  · -- ifge
    obtain ⟨t, ht, h1⟩ := pm_kt_e h
    obtain ⟨x, r, rfl, h2⟩ := pm_1i_e h1
    have hxi : pm_in x := hs _ List.mem_cons_self
    have hs' := fun v hv => hs v (List.mem_cons_of_mem _ hv)
    refine lv_if_ge hx hb hd (pm_tg_e ht) (fun q => ?_) (fun q => ?_)
    · rw [if_neg (by have := (pm_le pm_in0 hxi).mp q; omega)] at h2; exact h2 ho hs' ls H locs hl hH hS
    · rw [if_pos (by have := mt (pm_le pm_in0 hxi).mpr q; omega)] at h2; exact h2 ho hs' ls H locs hl hH hS
  · -- ifgt
    obtain ⟨t, ht, h1⟩ := pm_kt_e h
    obtain ⟨x, r, rfl, h2⟩ := pm_1i_e h1
    have hxi : pm_in x := hs _ List.mem_cons_self
    have hs' := fun v hv => hs v (List.mem_cons_of_mem _ hv)
    refine lv_if_gt hx hb hd (pm_tg_e ht) (fun q => ?_) (fun q => ?_)
    · rw [if_pos ((pm_lt pm_in0 hxi).mp q)] at h2; exact h2 ho hs' ls H locs hl hH hS
    · rw [if_neg (fun z => q ((pm_lt pm_in0 hxi).mpr z))] at h2; exact h2 ho hs' ls H locs hl hH hS
  · -- ifle
    obtain ⟨t, ht, h1⟩ := pm_kt_e h
    obtain ⟨x, r, rfl, h2⟩ := pm_1i_e h1
    have hxi : pm_in x := hs _ List.mem_cons_self
    have hs' := fun v hv => hs v (List.mem_cons_of_mem _ hv)
    refine lv_if_le hx hb hd (pm_tg_e ht) (fun q => ?_) (fun q => ?_)
    · rw [if_neg (by have := (pm_le hxi pm_in0).mp q; omega)] at h2; exact h2 ho hs' ls H locs hl hH hS
    · rw [if_pos (by have := mt (pm_le hxi pm_in0).mpr q; omega)] at h2; exact h2 ho hs' ls H locs hl hH hS
  · -- icmpeq
    obtain ⟨t, ht, h1⟩ := pm_kt_e h
    obtain ⟨x, y, r, rfl, h2⟩ := pm_2i_e h1
    have hyi : pm_in y := hs _ List.mem_cons_self
    have hxi : pm_in x := hs _ (List.mem_cons_of_mem _ List.mem_cons_self)
    have hs' := fun v hv => hs v (List.mem_cons_of_mem _ (List.mem_cons_of_mem _ hv))
    refine lv_icmp_eq hx hb hd (pm_tg_e ht) (fun q => ?_) (fun q => ?_)
    · rw [if_pos ((pm_eq hxi hyi).mp q)] at h2; exact h2 ho hs' ls H locs hl hH hS
    · rw [if_neg (fun z => q ((pm_eq hxi hyi).mpr z))] at h2; exact h2 ho hs' ls H locs hl hH hS
  · -- icmpne
    obtain ⟨t, ht, h1⟩ := pm_kt_e h
    obtain ⟨x, y, r, rfl, h2⟩ := pm_2i_e h1
    have hyi : pm_in y := hs _ List.mem_cons_self
    have hxi : pm_in x := hs _ (List.mem_cons_of_mem _ List.mem_cons_self)
    have hs' := fun v hv => hs v (List.mem_cons_of_mem _ (List.mem_cons_of_mem _ hv))
    refine lv_icmp_ne hx hb hd (pm_tg_e ht) (fun q => ?_) (fun q => ?_)
    · rw [if_neg (fun z => q ((pm_eq hxi hyi).mpr z))] at h2; exact h2 ho hs' ls H locs hl hH hS
    · rw [if_pos ((pm_eq hxi hyi).mp q)] at h2; exact h2 ho hs' ls H locs hl hH hS
  · -- icmplt
    obtain ⟨t, ht, h1⟩ := pm_kt_e h
    obtain ⟨x, y, r, rfl, h2⟩ := pm_2i_e h1
    have hyi : pm_in y := hs _ List.mem_cons_self
    have hxi : pm_in x := hs _ (List.mem_cons_of_mem _ List.mem_cons_self)
    have hs' := fun v hv => hs v (List.mem_cons_of_mem _ (List.mem_cons_of_mem _ hv))
    refine lv_icmp_lt hx hb hd (pm_tg_e ht) (fun q => ?_) (fun q => ?_)
    · rw [if_pos ((pm_lt hxi hyi).mp q)] at h2; exact h2 ho hs' ls H locs hl hH hS
    · rw [if_neg (fun z => q ((pm_lt hxi hyi).mpr z))] at h2; exact h2 ho hs' ls H locs hl hH hS
  · -- icmpge
    obtain ⟨t, ht, h1⟩ := pm_kt_e h
    obtain ⟨x, y, r, rfl, h2⟩ := pm_2i_e h1
    have hyi : pm_in y := hs _ List.mem_cons_self
    have hxi : pm_in x := hs _ (List.mem_cons_of_mem _ List.mem_cons_self)
    have hs' := fun v hv => hs v (List.mem_cons_of_mem _ (List.mem_cons_of_mem _ hv))
    refine lv_icmp_ge hx hb hd (pm_tg_e ht) (fun q => ?_) (fun q => ?_)
    · rw [if_neg (by have := (pm_le hyi hxi).mp q; omega)] at h2; exact h2 ho hs' ls H locs hl hH hS
    · rw [if_pos (by have := mt (pm_le hyi hxi).mpr q; omega)] at h2; exact h2 ho hs' ls H locs hl hH hS
  · -- icmpgt
    obtain ⟨t, ht, h1⟩ := pm_kt_e h
    obtain ⟨x, y, r, rfl, h2⟩ := pm_2i_e h1
    have hyi : pm_in y := hs _ List.mem_cons_self
    have hxi : pm_in x := hs _ (List.mem_cons_of_mem _ List.mem_cons_self)
    have hs' := fun v hv => hs v (List.mem_cons_of_mem _ (List.mem_cons_of_mem _ hv))
    refine lv_icmp_gt hx hb hd (pm_tg_e ht) (fun q => ?_) (fun q => ?_)
    · rw [if_pos ((pm_lt hyi hxi).mp q)] at h2; exact h2 ho hs' ls H locs hl hH hS
    · rw [if_neg (fun z => q ((pm_lt hyi hxi).mpr z))] at h2; exact h2 ho hs' ls H locs hl hH hS
  · -- icmple
    obtain ⟨t, ht, h1⟩ := pm_kt_e h
    obtain ⟨x, y, r, rfl, h2⟩ := pm_2i_e h1
    have hyi : pm_in y := hs _ List.mem_cons_self
    have hxi : pm_in x := hs _ (List.mem_cons_of_mem _ List.mem_cons_self)
    have hs' := fun v hv => hs v (List.mem_cons_of_mem _ (List.mem_cons_of_mem _ hv))
    refine lv_icmp_le hx hb hd (pm_tg_e ht) (fun q => ?_) (fun q => ?_)
    · rw [if_neg (by have := (pm_le hxi hyi).mp q; omega)] at h2; exact h2 ho hs' ls H locs hl hH hS
    · rw [if_pos (by have := mt (pm_le hxi hyi).mpr q; omega)] at h2; exact h2 ho hs' ls H locs hl hH hS
  · -- tableswitch
    obtain ⟨x, r, rfl, hn, h⟩ := pm_1i_e h
    have hxi : pm_in x := hs _ List.mem_cons_self
    have hs' := fun v hv => hs v (List.mem_cons_of_mem _ hv)
    rcases pm_sw_e _ _ hn h with ⟨h1, h2⟩ | ⟨h1, h2, o, h3, h4⟩
    · obtain ⟨t, ht, h6⟩ := pm_kt_e h2
      exact lv_tableOut hx hb hd (by rw [pm_toI hxi]; exact h1) (pm_tg_e ht) (h6 ho hs' ls H locs hl hH hS)
    · obtain ⟨t, ht, h6⟩ := pm_kt_e h4
      exact lv_tableIn hx hb hd (by rw [pm_toI hxi]; exact h1) (by rw [pm_toI hxi]; exact h2) (by rw [pm_toI hxi, ← Array.getElem?_toList]; exact h3) (pm_tg_e ht) (h6 ho hs' ls H locs hl hH hS)
  · -- lookupswitch
    obtain ⟨x, r, rfl, hn, h⟩ := pm_1i_e h
    have hxi : pm_in x := hs _ List.mem_cons_self
    have hs' := fun v hv => hs v (List.mem_cons_of_mem _ hv)
    obtain ⟨t, ht, h6⟩ := pm_kt_e (pm_lw_e _ h)
    exact lv_lookup hx hb hd hn (by rw [pm_toI hxi]) (pm_tg_e ht) (h6 ho hs' ls H locs hl hH hS)
  · -- getfield
    obtain ⟨ci, k, b, hF, g1⟩ := pm_fe_e h
    obtain ⟨a, r, rfl, g2⟩ := pm_1r_e g1
    obtain ⟨cj, fs, hfa, rfl, g3⟩ := pm_ob_e g2
    obtain ⟨v, hv, g4⟩ := pm_vv_e g3
    obtain ⟨h1, h2, h3⟩ := hH a _ hfa
    exact hG _ _ _ _ hF pc ls _ H locs a _ (pm_cv v) hd h1 (by rw [List.getElem?_map, hv]; rfl) (g4 ho (pm_okS (h3 v (List.mem_of_getElem? hv)) fun v hv => hs v (List.mem_cons_of_mem _ hv)) ls H locs hl hH hS)
  · -- putfield
    obtain ⟨ci, k, b, hF, g1⟩ := pm_fe_e h
    obtain ⟨x, r, rfl, g2⟩ := pm_1i_e g1
    obtain ⟨a, r, rfl, g3⟩ := pm_1r_e g2
    obtain ⟨cj, fs, hfa, rfl, g4⟩ := pm_ob_e g3
    obtain ⟨v, hv, hfit, g5⟩ := pm_vv_e g4
    obtain ⟨h1, h2, h3⟩ := hH a _ hfa
    refine hU _ _ _ _ hF pc ls _ H locs a _ (pm_cv v) x hd h1 (by rw [List.getElem?_map, hv]; rfl) hfit fun H1 j e1 e2 e3 => ?_
    refine g5 ho (fun v hv => hs v (List.mem_cons_of_mem _ (List.mem_cons_of_mem _ hv))) ls H1 _ hl (pm_Hd_up hH ?_ h2 ?_ e3) (hS.put e2 e3 h2)
    · show va_at G cl (a, .inr (cj, (fs.set k (.inl x)).map pm_cv)) H1
      rw [List.map_set]
      exact e1
    · intro w hw
      rcases List.mem_or_eq_of_mem_set hw with h | h
      · exact h3 w h
      · subst h
        exact hs _ List.mem_cons_self
  · -- iaload
    obtain ⟨a, i, r, rfl, g11⟩ := pm_ir_e h
    obtain ⟨n, g, hfa, hi, g12⟩ := pm_ai_e g11
    obtain ⟨h1, h2, h3⟩ := hH a _ hfa
    have hii : pm_in i := hs _ List.mem_cons_self
    have hin := pm_idx hii hi.1 hi.2
    have hlt : (Int32.ofInt i).toNatClampNeg < n := Nat.not_le.mp fun q => hin (Or.inr q)
    refine W.iald (v := .int (Int32.ofInt (g i.toNat))) hx hb h1 (hKI n (fun j => .int (Int32.ofInt (g j)))) (fun q => by cases q) (by show ¬ (_ < 0 ∨ (arrV _ _ _).slots.size ≤ _); rw [arrV_size]; exact hin) (by show (arrV _ _ _).slots[_]? = _; rw [arrV_read _ _ hlt, pm_nat hii]) rfl rfl hd ?_
    exact g12 ho (pm_okS (h3 _) fun v hv => hs v (List.mem_cons_of_mem _ (List.mem_cons_of_mem _ hv))) ls H locs hl hH hS
  · -- laload
    obtain ⟨a, i, r, rfl, g11⟩ := pm_ir_e h
    obtain ⟨n, g, hfa, hi, g12⟩ := pm_al_e g11
    obtain ⟨h1, h2, h3⟩ := hH a _ hfa
    have hii : pm_in i := hs _ List.mem_cons_self
    have hin := pm_idx hii hi.1 hi.2
    have hlt : (Int32.ofInt i).toNatClampNeg < n := Nat.not_le.mp fun q => hin (Or.inr q)
    refine W.lald (v := .long (g i.toNat)) hx hb h1 (hKJ n (fun j => .long (g j))) (fun q => by cases q) (by show ¬ (_ < 0 ∨ (arrV _ _ _).slots.size ≤ _); rw [arrV_size]; exact hin) (by show (arrV _ _ _).slots[_]? = _; rw [arrV_read _ _ hlt, pm_nat hii]) rfl rfl hd ?_
    exact g12 ho (pm_okS trivial fun v hv => hs v (List.mem_cons_of_mem _ (List.mem_cons_of_mem _ hv))) ls H locs hl hH hS
  · -- aaload
    obtain ⟨a, i, r, rfl, g11⟩ := pm_ir_e h
    obtain ⟨q, n, g, hfa, hi, g12⟩ := pm_ar_e g11
    obtain ⟨h1, h2, h3⟩ := hH a _ hfa
    obtain ⟨cq, -, k2, -, -⟩ := hKR q h3
    have hii : pm_in i := hs _ List.mem_cons_self
    have hin := pm_idx hii hi.1 hi.2
    have hlt : (Int32.ofInt i).toNatClampNeg < n := Nat.not_le.mp fun q => hin (Or.inr q)
    refine W.aald (v := va_rf (g i.toNat)) (ty := .object cq.1) hx hb h1 (k2 n (fun j => va_rf (g j))) rfl (fun q => by cases q) (by show ¬ (_ < 0 ∨ (arrV _ _ _).slots.size ≤ _); rw [arrV_size]; exact hin) (by show (arrV _ _ _).slots[_]? = _; rw [arrV_read _ _ hlt, pm_nat hii]) rfl rfl hd ?_
    exact g12 ho (pm_okS trivial fun v hv => hs v (List.mem_cons_of_mem _ (List.mem_cons_of_mem _ hv))) ls H locs hl hH hS
  · -- arraylength
    obtain ⟨a, r, rfl, g11⟩ := pm_1r_e h
    obtain ⟨n, g, hfa, hi, g12⟩ := pm_ai_e g11
    obtain ⟨h1, h2, h3⟩ := hH a _ hfa
    refine W.alen (n := Int32.ofInt (n : Int)) hx hb h1 (hKI n (fun j => .int (Int32.ofInt (g j)))) (by show (arrV _ _ _).slots.size.toInt32 = _; rw [arrV_size]; rfl) rfl rfl hd ?_
    exact g12 ho (pm_okS ⟨by omega, by omega⟩ fun v hv => hs v (List.mem_cons_of_mem _ hv)) ls H locs hl hH hS
  · -- iastore
    obtain ⟨x, r, rfl, g11⟩ := pm_1i_e h
    obtain ⟨a, i, r, rfl, g12⟩ := pm_ir_e g11
    obtain ⟨n, g, hfa, hi, g13⟩ := pm_ai_e g12
    obtain ⟨h1, h2, h3⟩ := hH a _ hfa
    have hxi : pm_in x := hs _ List.mem_cons_self
    have hii : pm_in i := hs _ (List.mem_cons_of_mem _ List.mem_cons_self)
    have hin := pm_idx hii hi.1 hi.2
    refine W.iast hx hb h1 (hKI n (fun j => .int (Int32.ofInt (g j)))) (fun q => by cases q) (by show ¬ (_ < 0 ∨ (arrV _ _ _).slots.size ≤ _); rw [arrV_size]; exact hin) rfl rfl hd fun H1 e z oq => ?_
    refine g13 ho (fun v hv => hs v (List.mem_cons_of_mem _ (List.mem_cons_of_mem _ (List.mem_cons_of_mem _ hv)))) ls H1 _ hl (pm_Hd_up hH ?_ h2 ?_ oq) (hS.put z oq h2)
    · show H1[a]? = some (vp_cell _ _)
      rw [e]
      show some (Cell.setSlot (vp_cell _ _) _ _) = _
      rw [vp_cell_i, vp_cell_i, arrV_store, pm_nat hii]
      congr 2
      funext q
      by_cases hq : q = i.toNat
      · subst hq
        simp [updV, pm_us]
      · simp [updV, pm_us, hq]
    · intro j
      unfold pm_us
      split
      · exact hxi
      · exact h3 j
  · -- lastore
    obtain ⟨x, r, rfl, g11⟩ := pm_1l_e h
    obtain ⟨a, i, r, rfl, g12⟩ := pm_ir_e g11
    obtain ⟨n, g, hfa, hi, g13⟩ := pm_al_e g12
    obtain ⟨h1, h2, h3⟩ := hH a _ hfa
    have hii : pm_in i := hs _ (List.mem_cons_of_mem _ List.mem_cons_self)
    have hin := pm_idx hii hi.1 hi.2
    refine W.last hx hb h1 (hKJ n (fun j => .long (g j))) (fun q => by cases q) (by show ¬ (_ < 0 ∨ (arrV _ _ _).slots.size ≤ _); rw [arrV_size]; exact hin) rfl rfl hd fun H1 e z oq => ?_
    refine g13 ho (fun v hv => hs v (List.mem_cons_of_mem _ (List.mem_cons_of_mem _ (List.mem_cons_of_mem _ hv)))) ls H1 _ hl (pm_Hd_up hH ?_ h2 trivial oq) (hS.put z oq h2)
    show H1[a]? = some (vp_cell _ _)
    rw [e]
    show some (Cell.setSlot (vp_cell _ _) _ _) = _
    rw [vp_cell_l, vp_cell_l, arrV_store, pm_nat hii]
    congr 2
    funext q
    by_cases hq : q = i.toNat
    · subst hq
      simp [updV, vp_updL]
    · simp [updV, vp_updL, hq]
  · -- aastore
    obtain ⟨v, r, rfl, g11⟩ := pm_1r_e h
    obtain ⟨a, i, r, rfl, g12⟩ := pm_ir_e g11
    obtain ⟨q, n, g, hfa, g13⟩ := pm_ar_e g12
    obtain ⟨ci, fs, hfv, rfl, hi, g14⟩ := pm_ob_e g13
    obtain ⟨h1, h2, h3⟩ := hH a _ hfa
    obtain ⟨⟨r', hr', cellV, g1, g2, g3, -⟩, -, -⟩ := hH v _ hfv
    obtain ⟨cq, kcl, -, ⟨kA, comp, k1, k2, k3, -⟩, hcls⟩ := hKR ci h3
    have hii : pm_in i := hs _ (List.mem_cons_of_mem _ List.mem_cons_self)
    have hin := pm_idx hii hi.1 hi.2
    have hlt : (Int32.ofInt i).toNatClampNeg < n := Nat.not_le.mp fun q => hin (Or.inr q)
    have h0 : ¬ Int32.ofInt i < 0 := fun q => hin (Or.inl q)
    have hcomp : comp = G.1 ci := Option.some.inj (k3.symm.trans hcls.1)
    subst hcomp
    obtain ⟨kC, hkC, -⟩ := id hcls.2
    refine W.aast hx hb h1 (fun q h => by cases h) (fun h => by cases h) k1 k2 rfl hkC ⟨h0, by show _ < (arrV _ _ _).slots.size; rw [arrV_size]; exact hlt⟩ g1 (fun q h => by rw [g3] at h; cases h) (by rw [g2]; exact hkC) (by rw [g2]; exact va_assign hcls) rfl rfl hd fun H1 e z oq => ?_
    refine g14 ho (fun v hv => hs v (List.mem_cons_of_mem _ (List.mem_cons_of_mem _ (List.mem_cons_of_mem _ hv)))) ls H1 _ hl (pm_Hd_up hH ?_ h2 h3 oq) (hS.put z oq h2)
    show H1[a]? = some (vp_cell _ _)
    rw [e]
    show some (Cell.setSlot (vp_cell _ _) _ _) = _
    rw [vp_cell_q, vp_cell_q, arrV_store, pm_nat hii]
    congr 2
    funext q
    by_cases hq : q = i.toNat
    · subst hq
      simp [updV, va_up, va_rf]
    · simp [updV, va_up, hq]
  · -- invokevirtual
    rename_i n
    split at h
    · rename_i o hX
      obtain ⟨k, ci, T⟩ := o
      unfold pm_callX at h
      simp only at h
      split at h
      · rename_i as r hp
        obtain ⟨h0, h1, h2, P', PX', h3, h4, h5⟩ := h
        obtain ⟨e1, e2⟩ := pm_pop_e _ _ _ _ _ hp
        rw [List.reverse_nil, List.nil_append] at e1
        rw [← e1] at hs ⊢
        exact hCX _ _ _ _ hX pc as r f P' PX' ls H locs h0 hd e2 h1 h2 h3 (fun v hv => hs v (List.mem_append_left _ (List.mem_reverse.mpr hv))) hl.1 hH hS (fun v f' H' locs' a1 a2 a3 a4 => h4 v f' a1 ho (fun w hw => (List.mem_append.mp hw).elim (a2 w) fun q => hs w (List.mem_append_right _ q)) ls H' locs' hl a3 a4) h5
      · exact h.elim
    · unfold pm_call at h
      split at h
      · rename_i k ci T hcc
        split at h
        · rename_i as r hp
          obtain ⟨h0, h1, h2, P', h3, h4⟩ := h
          obtain ⟨e1, e2⟩ := pm_pop_e _ _ _ _ _ hp
          rw [List.reverse_nil, List.nil_append] at e1
          rw [← e1] at hs ⊢
          exact hC _ _ _ _ hcc pc as r f P' ls H locs (Or.inl ⟨h0, hd⟩) e2 h1 h2 h3 (fun v hv => hs v (List.mem_append_left _ (List.mem_reverse.mpr hv))) hl.1 hH hS (fun v f' H' locs' a1 a2 a3 a4 => h4 v f' a1 ho (fun w hw => (List.mem_append.mp hw).elim (a2 w) fun q => hs w (List.mem_append_right _ q)) ls H' locs' hl a3 a4)
        · exact h.elim
      · exact h.elim
  · -- invokestatic
    rename_i n
    unfold pm_call at h
    split at h
    · rename_i k ci T hcc
      split at h
      · rename_i as r hp
        obtain ⟨h0, h1, h2, P', h3, h4⟩ := h
        obtain ⟨e1, e2⟩ := pm_pop_e _ _ _ _ _ hp
        rw [List.reverse_nil, List.nil_append] at e1
        rw [← e1] at hs ⊢
        exact hC _ _ _ _ hcc pc as r f P' ls H locs (Or.inr ⟨h0, hd⟩) e2 h1 h2 h3 (fun v hv => hs v (List.mem_append_left _ (List.mem_reverse.mpr hv))) hl.1 hH hS (fun v f' H' locs' a1 a2 a3 a4 => h4 v f' a1 ho (fun w hw => (List.mem_append.mp hw).elim (a2 w) fun q => hs w (List.mem_append_right _ q)) ls H' locs' hl a3 a4)
      · exact h.elim
    · exact h.elim
  · -- new
    split at h
    · rename_i x hx'
      obtain ⟨rfl, h⟩ := h
      exact hT _ _ _ hx' hd f ls H locs h hl.1 hH hS
    · exact h.elim
  · -- ireturn
    unfold pm_re at h
    split at h
    · rename_i hr
      exact hRI pc _ f ls H locs hd (Or.inl hr) (hs _ List.mem_cons_self) h hH hS
    · rename_i hr
      exact hRI pc _ f ls H locs hd (Or.inr ⟨hr, h.1⟩) (hs _ List.mem_cons_self) h.2 hH hS
    · exact h.elim
  · -- areturn
    unfold pm_ra at h
    split at h
    · exact hRA pc _ f ls H locs hd h.1 h.2 hH hS
    · exact h.elim
  · -- lreturn
    unfold pm_rl at h
    split at h
    · exact hRL pc _ f ls H locs hd h.1 h.2 hH hS
    · exact h.elim
  · -- return
    unfold pm_rv at h
    split at h
    · exact hRV pc f ls H locs hd h.1 h.2 hH hS
    · exact h.elim
  · exact h.elim
end PMT
