section PMS
theorem ps_in {w : Cond} (h : (lw_tbl.contains w && goodWord w) = true) : w ∈ pm_WS := by
  rw [Bool.and_eq_true] at h
  exact List.mem_filter.mpr ⟨List.contains_iff_mem.mp h.1, h.2⟩
/-- a contract whose meaning may speak of the strings' rows -/
def ps_Ct (l : Launch) (sk : Nat → Nat) (y : MethodName) (cc : ByteArray) (maxL : Nat) (ret : Option FieldType) (d : Nat) (T : (Nat → Nat) → pm_T) : Prop :=
  ∀ (sv : Nat → Nat) (G : va_G) (cI cJ : ClassId) (cR : Nat → ClassId) (as : List pm_V) (f : pm_H) (P : pm_P), T sv as f P → (∀ v ∈ as, pm_ok v) → Met l y (.code y cc maxL ret :: pm_WS) (pm_rm d) (pm_Pc sk sv G cI cJ cR as f) (pm_Qc G cI cJ cR P f) 0 0 (pm_dom f)
theorem ps_met {l : Launch} {sk : Nat → Nat} {y : MethodName} {cc : ByteArray} {maxL d : Nat} {ret : Option FieldType} {T : (Nat → Nat) → pm_T} (hy : plainName y.cls = true) (hlen : ∀ sv as f P, T sv as f P → (pm_put as).length ≤ maxL)
    (h : ∀ (p : Program) (e : Env) (s : State) (m : MethodId) (args : Array Value) (below : List Frame) (meth : Method) (c : Code) (sv : Nat → Nat) (G : va_G) (cI cJ : ClassId) (cR : Nat → ClassId) (as : List pm_V) (f : pm_H) (P : pm_P) (ls : Array Slot),
      T sv as f P → (∀ v ∈ as, pm_ok v) → p.tables.exec = Jvm.exec → c.code = cc → meth.sig.returnType = ret → meth.locks = false → c.maxLocals = maxL → s.vm.findClass y.cls = some m.cls → (∀ w ∈ .code y cc maxL ret :: pm_WS, w.before args s = true) → pm_KK G cI cJ cR s → pm_St sk sv (pm_dom f) s s.heap → pm_Hd G vwCl cI cJ cR (pm_dom f) f s.heap → pm_Lr ls maxL (pm_init maxL as) →
      (∀ (v : Option pm_V) (H : Heap) (locs : List Loc), P v f → (∀ w ∈ v.toList, pm_ok w) → pm_Hd G vwCl cI cJ cR (pm_dom f) f H → va_S (pm_dom f) s.heap H locs → ∀ t : State, t.heap = H → s.WarmedH t.vm → pm_Qc G cI cJ cR P f args s (.returned (v.map pm_cv)) t) →
      W p l e (pm_rm d) s m args below meth c s.heap [] 0 0 (MQ below (pm_Qc G cI cJ cR P f) args s 0 0 (pm_dom f)) (F0 m 0 ls [])) : ps_Ct l sk y cc maxL ret d T := by
  intro sv G cI cJ cR as f P hT hok
  refine Met.ofW (cc := cc) (maxL := maxL) (ret := ret) hy rfl ?_
  intro p e s m args below meth c s₁ B hml hv
  obtain ⟨rfl, hHd, hK, hSt⟩ := hv
  have hts := atoms_spec (ws := .code y cc maxL ret :: pm_WS) B.pre
  have hown : s.vm.findClass y.cls = some m.cls := findClass_of_methodNamed B.named
  have hlocks := B.notSynchronized
  have hH0 : pm_Hd G vwCl cI cJ cR (pm_dom f) f s.heap := fun a c0 hc => ⟨(hHd a c0 hc).1, ⟨c0, hc⟩, (hHd a c0 hc).2.2⟩
  rw [lg_entry_eq]
  exact h p e s m _ below meth c sv G cI cJ cR as f P _ hT hok B.exec B.bytes B.returns hlocks hml hown hts hK hSt hH0 (pm_entry (hlen _ _ _ _ hT)) (fun v H locs hp ho h1 hS t ht _ => ⟨⟨v, f, rfl, hp, ho, by rw [ht]; exact h1⟩, hS.F ht⟩)
theorem ps_ok0 : pm_in 0 := pm_in0
theorem ps_ok1 : pm_in 1 := by unfold pm_in; omega
def ps_kR (sk : Nat → Nat) (z : Nat → Int) : pm_T := fun as f P => ∃ i, i < 7 ∧ as = [.inr (.inl (some (sk i)))] ∧ P (some (.inl (z i))) f
theorem ps_coder {l : Launch} {sk : Nat → Nat} : pm_Ct l sk yJ0_coder_7d493 cJ0_coder_7d493 1 (some .byte) 1 (ps_kR sk fun _ => 0) := by
  refine ps_met (T := fun _ => ps_kR sk fun _ => 0) (by decide +kernel) ?_ ?_
  · rintro sv as f P ⟨i, hi, rfl, hP⟩
    exact Nat.le_refl 1
  · rintro p e s m args below meth c sv G cI cJ cR as f P ls ⟨i, hi, rfl, hP⟩ hok hx hb hr hlocks hml hown hts hK hSt hH hl hq
    have ok : ∀ w ∈ pm_WS, w.before args s = true := fun w hw => hts w (List.mem_cons_of_mem _ hw)
    refine va_gets hx hb hSt.2.2.2.2.1 va_S.rf hown (ok _ (ps_in (w := .fieldLink RJ0 38 "java/lang/String" "COMPACT_STRINGS" "Z") (by decide +kernel))) (fun _ h => h) dJ0_coder_7d493_0 ?_
    refine lv_if_eq (tgt := 13) hx hb dJ0_coder_7d493_3 rfl (fun z => absurd z (by decide)) fun _ => ?_
    refine lv_aload_n hx hb dJ0_coder_7d493_6 rfl (hl.2.2.2 0 (.inr (.inl (some (sk i)))) rfl) ?_
    refine vk_getf hx hb (hSt.1.1 i hi).2.1 va_S.rf hown (ok _ (ps_in (w := .fieldLink RJ0 15 "java/lang/String" "coder" "B") (by decide +kernel))) (fun _ h => h) dJ0_coder_7d493_7 ?_
    refine lv_goto (tgt := 14) hx hb dJ0_coder_7d493_10 rfl ?_
    exact W.zret hx hb hr rfl (hq (some (.inl 0)) _ [] hP (fun w hw => by simp at hw; subst hw; exact ps_ok0) hH va_S.rf) (fun q hq => by cases hq) dJ0_coder_7d493_14
theorem ps_isLatin1 {l : Launch} {sk : Nat → Nat} : pm_Ct l sk yJ0_isLatin1_aae02 cJ0_isLatin1_aae02 1 (some .boolean) 1 (ps_kR sk fun _ => 1) := by
  refine ps_met (T := fun _ => ps_kR sk fun _ => 1) (by decide +kernel) ?_ ?_
  · rintro sv as f P ⟨i, hi, rfl, hP⟩
    exact Nat.le_refl 1
  · rintro p e s m args below meth c sv G cI cJ cR as f P ls ⟨i, hi, rfl, hP⟩ hok hx hb hr hlocks hml hown hts hK hSt hH hl hq
    have ok : ∀ w ∈ pm_WS, w.before args s = true := fun w hw => hts w (List.mem_cons_of_mem _ hw)
    refine va_gets hx hb hSt.2.2.2.2.1 va_S.rf hown (ok _ (ps_in (w := .fieldLink RJ0 38 "java/lang/String" "COMPACT_STRINGS" "Z") (by decide +kernel))) (fun _ h => h) dJ0_isLatin1_aae02_0 ?_
    refine lv_if_eq (tgt := 17) hx hb dJ0_isLatin1_aae02_3 rfl (fun z => absurd z (by decide)) fun _ => ?_
    refine lv_aload_n hx hb dJ0_isLatin1_aae02_6 rfl (hl.2.2.2 0 (.inr (.inl (some (sk i)))) rfl) ?_
    refine vk_getf hx hb (hSt.1.1 i hi).2.1 va_S.rf hown (ok _ (ps_in (w := .fieldLink RJ0 15 "java/lang/String" "coder" "B") (by decide +kernel))) (fun _ h => h) dJ0_isLatin1_aae02_7 ?_
    refine lv_if_ne (tgt := 17) hx hb dJ0_isLatin1_aae02_10 rfl (fun z => absurd rfl z) fun _ => ?_
    refine lv_iconst hx hb dJ0_isLatin1_aae02_13 rfl ?_
    refine lv_goto (tgt := 18) hx hb dJ0_isLatin1_aae02_14 rfl ?_
    exact W.zret hx hb hr rfl (hq (some (.inl 1)) _ [] hP (fun w hw => by simp at hw; subst hw; exact ps_ok1) hH va_S.rf) (fun q hq => by cases hq) dJ0_isLatin1_aae02_18
def ps_len (i : Nat) : Int := (pm_sln.getD i 0 : Nat)
def ps_chr (i j : Nat) : Int := ((pm_sby.getD i []).getD j 0).toInt
theorem ps_len_in : ∀ i, i < 7 → pm_in (ps_len i) := by unfold pm_in; decide
theorem ps_len_sh : ∀ i, i < 7 → (Int32.ofNat (pm_sln.getD i 0)) >>> ((Int32.ofInt 0) &&& 31) = Int32.ofInt (ps_len i) := by decide +kernel
theorem ps_chr_in : ∀ i, i < 7 → ∀ j, j < pm_sln.getD i 0 → pm_in (ps_chr i j) := by unfold pm_in; decide +kernel
theorem ps_chr_c : ∀ i, i < 7 → ∀ j, j < pm_sln.getD i 0 → ((((pm_sby.getD i []).getD j 0) &&& 255).toUInt32 % 65536).toInt32 = Int32.ofInt (ps_chr i j) := by decide +kernel
theorem ps_chr_n : ∀ i, i < 7 → ∀ j, j < pm_sln.getD i 0 → narrow .char (.int (Int32.ofInt (ps_chr i j))) = .int (Int32.ofInt (ps_chr i j)) := by decide +kernel
theorem ps_len_s2 : ∀ i, i < 7 → Int32.ofInt (ps_len i) >>> (Int32.ofInt 0 &&& 31) = Int32.ofInt (ps_len i) := by decide +kernel
def pm_slen (sk : Nat → Nat) : pm_T := ps_kR sk ps_len
theorem ps_length {l : Launch} {sk : Nat → Nat} : pm_Ct l sk yJ0_length_8abf5 cJ0_length_8abf5 1 (some .int) 2 (pm_slen sk) := by
  refine ps_met (T := fun _ => pm_slen sk) (by decide +kernel) ?_ ?_
  · rintro sv as f P ⟨i, hi, rfl, hP⟩
    exact Nat.le_refl 1
  · rintro p e s m args below meth c sv G cI cJ cR as f P ls ⟨i, hi, rfl, hP⟩ hok hx hb hr hlocks hml hown hts hK hSt hH hl hq
    have ok : ∀ w ∈ pm_WS, w.before args s = true := fun w hw => hts w (List.mem_cons_of_mem _ hw)
    refine lv_aload_n hx hb dJ0_length_8abf5_0 rfl (hl.2.2.2 0 (.inr (.inl (some (sk i)))) rfl) ?_
    refine vk_getf hx hb (hSt.1.1 i hi).2.2.1 va_S.rf hown (ok _ (ps_in (w := .fieldLink RJ0 9 "java/lang/String" "value" "[B") (by decide +kernel))) (fun _ h => h) dJ0_length_8abf5_1 ?_
    refine va_tlen hx hb (hSt.1.1 i hi).2.2.2 va_S.rf rfl dJ0_length_8abf5_4 ?_
    refine lv_aload_n hx hb dJ0_length_8abf5_5 rfl (hl.2.2.2 0 (.inr (.inl (some (sk i)))) rfl) ?_
    refine pm_rule (k := 1) (ci := some 9) (T := ps_kR sk fun _ => 0) (P' := fun v f' => v = some (.inl 0) ∧ f' = f) (as := [.inr (.inl (some (sk i)))]) (r := [.inl (ps_len i)]) (Nat.le_refl _) (Nat.le_refl _) (Nat.zero_le _) (Nat.zero_le _) hx hb hml hown hts hK hSt (n := 335) ?_ (Or.inl ⟨rfl, dJ0_length_8abf5_6⟩) rfl (Or.inl rfl) (Nat.le_of_ble_eq_true rfl) ⟨i, hi, rfl, rfl, rfl⟩ (fun v hv => by simp at hv; subst hv; trivial) hl.1 hH va_S.rf ?_
    · exact Or.inr (Or.inr (Or.inr ⟨yJ0_coder_7d493, _, _, _, _, ps_coder, by decide, by decide, ps_in (by decide +kernel), ps_in (by decide +kernel), by decide, Or.inr (Or.inr ⟨rfl, rfl, by decide, by decide +kernel, ps_in (by decide +kernel), ps_in (by decide +kernel), ps_in (by decide +kernel), fun as f P ⟨i, hi, e, _⟩ => ⟨i, [], hi, e⟩⟩)⟩))
    · rintro v f' H' locs' ⟨rfl, rfl⟩ - hH' hS'
      refine lv_ishr hx hb dJ0_length_8abf5_9 ?_
      have e1 := ps_len_s2 i hi
      show W p l e (pm_rm 2) s m args below meth c H' locs' 0 0 _ (F0 m 10 ls [.int (Int32.ofInt (ps_len i) >>> (Int32.ofInt 0 &&& 31))])
      rw [e1]
      exact W.iret hx hb hr (hq (some (.inl (ps_len i))) _ _ hP (fun w hw => by simp at hw; subst hw; exact ps_len_in i hi) hH' hS') hS'.2.2 dJ0_length_8abf5_10
end PMS
