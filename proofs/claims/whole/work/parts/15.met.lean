section PMM
variable {p : Program} {l : Launch} {e : Env} {R : Room} {d cells slots : Nat} {s : State} {m : MethodId} {args : Array Value} {below : List Frame} {meth : Method} {c : Code} {Q : State → Prop}
variable {G : va_G} {cI cJ : ClassId} {cR : Nat → ClassId} {A : Nat → Prop}
theorem pm_cpy_i {g0 g1 : Nat → Int} {a b n : Nat} : (fun j => Int32.ofInt (va_cpy g0 g1 a b n j)) = va_cpy (fun j => Int32.ofInt (g0 j)) (fun j => Int32.ofInt (g1 j)) a b n := by
  funext j
  unfold va_cpy
  split <;> rfl
theorem pm_acp_rule {own : String} {a0w : Cond} {cc : ByteArray} {nL : Nat} (hRf : d ≤ R.frames) (hRl : 64 * d ≤ R.locals) (hRc : cells ≤ R.cells) (hRs : slots ≤ R.slots) (hx : p.tables.exec = Jvm.exec) (hb : c.code = cc) (hml : c.maxLocals = nL) (hown : s.vm.findClass own = some m.cls) (hts : ∀ w ∈ a0w :: pm_WS, w.before args s = true) (hK : pm_KK G cI cJ cR s) {n : Nat} (hd0 : 0 < d) (hw1 : Cond.methodLink own n arraycopyName ∈ pm_WS) (hw2 : Cond.native arraycopyName ∈ pm_WS) (hw3 : Cond.static arraycopyName ∈ pm_WS) (hw4 : Cond.initialized "java/lang/System" ∈ pm_WS)
    {pc : Nat} {as r : List pm_V} {f : pm_H} {P' : pm_P} {ls : Array Slot} {H : Heap} {locs : List Loc} (hd : decode cc pc = .ok (.invokestatic n, 3)) (hcat : pm_cat r ≤ 8) (hT : pm_acp as f P') (hok : ∀ v ∈ as, pm_ok v) (hsz : ls.size = nL) (hH : pm_Hd G vwCl cI cJ cR A f H) (hS : va_S A s.heap H locs)
    (kk : ∀ (v : Option pm_V) (f' : pm_H) (H' : Heap) (locs' : List Loc), P' v f' → (∀ w ∈ v.toList, pm_ok w) → pm_Hd G vwCl cI cJ cR A f' H' → va_S A s.heap H' locs' → W p l e R s m args below meth c H' locs' cells slots Q (F0 m (pc + 3) ls ((v.toList ++ r).map pm_cv))) : W p l e R s m args below meth c H locs cells slots Q (F0 m pc ls ((as.reverse ++ r).map pm_cv)) := by
  obtain ⟨a0, a1, sp, dp, k, n0, g0, n1, g1, rfl, h0, h1, ⟨q1, q2, q3, q4, q5⟩, hP⟩ := hT
  have ok : ∀ w ∈ pm_WS, w.before args s = true := fun w hw => hts w (List.mem_cons_of_mem _ hw)
  have i1 : pm_in sp := hok (.inl sp) (by simp)
  have i2 : pm_in dp := hok (.inl dp) (by simp)
  have i3 : pm_in k := hok (.inl k) (by simp)
  obtain ⟨e0, b0, o0⟩ := hH a0 _ h0
  obtain ⟨e1, b1, o1⟩ := hH a1 _ h1
  have hpP : va_P G vwCl (pm_pool cI cJ cR f H.size) H := fun j q hq => by
    obtain ⟨-, c0, h2, h3⟩ := pm_pool_mem.mp (List.mem_of_getElem? hq)
    have := (hH q.1 c0 h2).1
    rw [← h3] at this
    exact this
  have hpD : va_D A (pm_pool cI cJ cR f H.size) := pm_pool_D fun a c0 hc => (hH a c0 hc).2.1
  obtain ⟨j0, hj0⟩ := List.getElem?_of_mem (pm_pool_mem.mpr ⟨pm_Hd_lt (f := f) e0, _, h0, rfl⟩ : (a0, pm_cc cI cJ cR (.inl (n0, g0))) ∈ pm_pool cI cJ cR f H.size)
  obtain ⟨j1, hj1⟩ := List.getElem?_of_mem (pm_pool_mem.mpr ⟨pm_Hd_lt (f := f) e1, _, h1, rfl⟩ : (a1, pm_cc cI cJ cR (.inl (n1, g1))) ∈ pm_pool cI cJ cR f H.size)
  have hnat : nativeFrameWords "java/lang/System" "arraycopy" 5 ≤ 40 := by decide
  have key := va_copyi (p := p) (l := l) (e := e) (R := R) (s := s) (m := m) (args := args) (below := below) (meth := meth) (c := c) (cells := cells) (slots := slots) (Q := Q) (rest := r.map pm_cv) (pc := pc) (ls := ls) (sp := Int32.ofInt sp) (dp := Int32.ofInt dp) (n := Int32.ofInt k) hx hb (hml.trans hsz.symm) hown (ok _ hw1) (ok _ hw2) (ok _ hw3) (ok _ hw4) hK.1 hpP hpD hS j0 j1 0 0 hj0 hj1 rfl rfl rfl
    (fun z => by have := (pm_lt i1 pm_in0).mp z; omega) (fun z => by have := (pm_lt i2 pm_in0).mp z; omega) (fun z => by have := (pm_lt i3 pm_in0).mp z; omega)
    (by rw [pm_nat i1, pm_nat i3]; omega) (by rw [pm_nat i2, pm_nat i3]; omega) (fun i _ => rfl) (Nat.le_trans hd0 hRf)
    (by
      have : ((r.map pm_cv).map fun v => v.category).sum = pm_cat r := by unfold pm_cat; rw [List.map_map]; rfl
      rw [this]
      refine Nat.le_trans ?_ hRl
      omega) hd
  have e5 : (([.inr (.inl (some a0)), .inl sp, .inr (.inl (some a1)), .inl dp, .inl k] : List pm_V).reverse ++ r).map pm_cv = .int (Int32.ofInt k) :: .int (Int32.ofInt dp) :: .ref a1 :: .int (Int32.ofInt sp) :: .ref a0 :: r.map pm_cv := by simp [pm_cv, va_rf]
  rw [e5]
  refine key fun H1 locs1 hp1 hd1 hs1 => ?_
  refine kk none _ H1 locs1 hP (fun w hw => by simp at hw) ?_ hs1
  intro b c0 hb0
  unfold pm_up at hb0
  have hj1' : j1 < (pm_pool cI cJ cR f H.size).length := (List.getElem?_eq_some_iff.mp hj1).1
  split at hb0
  · rename_i hq
    cases hb0
    subst hq
    refine ⟨?_, b1, ?_⟩
    · have := hp1 j1 _ (by rw [List.getElem?_set_self hj1'])
      rw [pm_nat i1, pm_nat i2, pm_nat i3, ← pm_cpy_i] at this
      exact this
    · intro j
      unfold va_cpy
      split
      · exact o0 _
      · exact o1 _
  · rename_i hq
    obtain ⟨e2, b2, o2⟩ := hH b c0 hb0
    refine ⟨?_, b2, o2⟩
    obtain ⟨j2, hj2⟩ := List.getElem?_of_mem (pm_pool_mem.mpr ⟨pm_Hd_lt (f := f) e2, _, hb0, rfl⟩ : (b, pm_cc cI cJ cR c0) ∈ pm_pool cI cJ cR f H.size)
    have hne : j1 ≠ j2 := by
      intro h
      subst h
      rw [hj1] at hj2
      exact hq (congrArg Prod.fst (Option.some.inj hj2)).symm
    exact hp1 j2 _ (by rw [List.getElem?_set_ne hne]; exact hj2)
theorem pm_rule {sk sv : Nat → Nat} {own : String} {a0w : Cond} {cc : ByteArray} {nL : Nat} (hRf : d ≤ R.frames) (hRl : 64 * d ≤ R.locals) (hRc : cells ≤ R.cells) (hRs : slots ≤ R.slots) (hx : p.tables.exec = Jvm.exec) (hb : c.code = cc) (hml : c.maxLocals = nL) (hown : s.vm.findClass own = some m.cls) (hts : ∀ w ∈ a0w :: pm_WS, w.before args s = true) (hK : pm_KK G cI cJ cR s) (hSt : pm_St sk sv A s s.heap) {n k : Nat} {ci : Option Nat} {T : pm_T} (hc : pm_COK l sk own d n k ci T)
    {pc : Nat} {as r : List pm_V} {f : pm_H} {P' : pm_P} {ls : Array Slot} {H : Heap} {locs : List Loc} (hd : ci.isSome = true ∧ decode cc pc = .ok (.invokevirtual n, 3) ∨ ci.isSome = false ∧ decode cc pc = .ok (.invokestatic n, 3)) (hlen : as.length = k) (hrcv : pm_rcv ci f as) (hcat : pm_cat r ≤ 8) (hT : T as f P') (hok : ∀ v ∈ as, pm_ok v) (hsz : ls.size = nL) (hH : pm_Hd G vwCl cI cJ cR A f H) (hS : va_S A s.heap H locs)
    (kk : ∀ (v : Option pm_V) (f' : pm_H) (H' : Heap) (locs' : List Loc), P' v f' → (∀ w ∈ v.toList, pm_ok w) → pm_Hd G vwCl cI cJ cR A f' H' → va_S A s.heap H' locs' → W p l e R s m args below meth c H' locs' cells slots Q (F0 m (pc + 3) ls ((v.toList ++ r).map pm_cv))) : W p l e R s m args below meth c H locs cells slots Q (F0 m pc ls ((as.reverse ++ r).map pm_cv)) := by
  have ok : ∀ w ∈ pm_WS, w.before args s = true := fun w hw => hts w (List.mem_cons_of_mem _ hw)
  have hcat' : ((r.map pm_cv).map fun v => v.category).sum ≤ 8 := by
    have : ((r.map pm_cv).map fun v => v.category).sum = pm_cat r := by unfold pm_cat; rw [List.map_map]; rfl
    rw [this]
    exact hcat
  rcases hc with ⟨rfl, hk5, rfl, hd0, w1, w2, w3, w4⟩ | ⟨rfl, hk5, rfl, hd0, w1, w2, w3, w4⟩ | ⟨rfl, hk5, rfl, hd0, w1, w2, w3, w4⟩ | ⟨y, cc', maxL, ret, d', hCt, hdd, hmx, wc, wi, hne, hcase⟩
  · rcases hd with ⟨h, -⟩ | ⟨-, hd⟩
    · cases h
    · exact pm_acp_rule hRf hRl hRc hRs hx hb hml hown hts hK hd0 w1 w2 w3 w4 hd hcat hT hok hsz hH hS kk
  · rcases hd with ⟨h, -⟩ | ⟨-, hd⟩
    · cases h
    · obtain ⟨x, y, rfl, hP⟩ := hT
      have i1 : pm_in x := hok (.inl x) (by simp)
      have i2 : pm_in y := hok (.inl y) (by simp)
      have e5 : (([.inl x, .inl y] : List pm_V).reverse ++ r).map pm_cv = .int (Int32.ofInt y) :: .int (Int32.ofInt x) :: r.map pm_cv := by simp [pm_cv]
      rw [e5]
      refine va_mmax (R := R) hx hb (hml.trans hsz.symm) hown (ok _ w1) (ok _ w2) (ok _ w3) (ok _ w4) (Nat.le_trans hd0 hRf) (by refine Nat.le_trans ?_ hRl; omega) hRc hRs hd ?_
      have h5 := kk _ f H locs hP (fun w hw => by simp at hw; subst hw; show pm_in _; split; exact i2; exact i1) hH hS
      have e6 : (if Int32.ofInt x < Int32.ofInt y then Int32.ofInt y else Int32.ofInt x) = Int32.ofInt (if x < y then y else x) := by
        by_cases hq : x < y
        · rw [if_pos hq, if_pos ((pm_lt i1 i2).mpr hq)]
        · rw [if_neg hq, if_neg (fun z => hq ((pm_lt i1 i2).mp z))]
      rw [e6]
      exact h5
  · rcases hd with ⟨h, -⟩ | ⟨-, hd⟩
    · cases h
    · obtain ⟨x, y, rfl, hP⟩ := hT
      have i1 : pm_in x := hok (.inl x) (by simp)
      have i2 : pm_in y := hok (.inl y) (by simp)
      have e5 : (([.inl x, .inl y] : List pm_V).reverse ++ r).map pm_cv = .int (Int32.ofInt y) :: .int (Int32.ofInt x) :: r.map pm_cv := by simp [pm_cv]
      rw [e5]
      refine va_mmin (R := R) hx hb (hml.trans hsz.symm) hown (ok _ w1) (ok _ w2) (ok _ w3) (ok _ w4) (Nat.le_trans hd0 hRf) (by refine Nat.le_trans ?_ hRl; omega) hRc hRs hd ?_
      have h5 := kk _ f H locs hP (fun w hw => by simp at hw; subst hw; show pm_in _; split; exact i2; exact i1) hH hS
      have e6 : (if Int32.ofInt y < Int32.ofInt x then Int32.ofInt y else Int32.ofInt x) = Int32.ofInt (if y < x then y else x) := by
        by_cases hq : y < x
        · rw [if_pos hq, if_pos ((pm_lt i2 i1).mpr hq)]
        · rw [if_neg hq, if_neg (fun z => hq ((pm_lt i2 i1).mp z))]
      rw [e6]
      exact h5
  · have hR : (pm_rm d').frames + 1 ≤ R.frames ∧ 8 + (maxL + 11) + (pm_rm d').locals ≤ R.locals := ⟨Nat.le_trans hdd hRf, by refine Nat.le_trans ?_ hRl; show 8 + (maxL + 11) + 64 * d' ≤ 64 * d; omega⟩
    have hG : GoodIn (a0w :: pm_WS) (.code y cc' maxL ret :: pm_WS) := pm_goodIn fun w hw => (List.mem_cons.mp hw).elim (fun h => h ▸ wc) id
    rcases hcase with ⟨i, q, rfl, hq, hyq, hk0, hpar, v1, v2, v3⟩ | ⟨rfl, hpar, v2, v1⟩ | ⟨rfl, hyq, hk0, hpar, v1, v2, v3, hstr⟩
    · rcases hd with ⟨-, hd⟩ | ⟨h, -⟩
      · obtain ⟨b, fs, as', rfl, hfb⟩ := hrcv.resolve_left (fun z => by rw [z] at hq; simp [vwCl] at hq)
        simp only [List.length_cons] at hlen
        have hps := pm_preS (as := .inr (.inl (some b)) :: as') hH hS hK hSt
        refine pm_after (va_runV (C := q.1) (b := b) (As := as'.map pm_cv) (rest := r.map pm_cv) (n := k - 1) ⟨hx, hb, hml, hown, hts⟩ (hCt sv G cI cJ cR _ f P' hT hok) ⟨callB_of (k - 1) hts hG rfl rfl rfl (ok _ wi) (ok _ v1) ⟨hne.1, hne.2, hpar⟩ hR, ok _ v2, ok _ v3⟩ ⟨hps.1, pm_recv hH hK hfb hq, hps.2⟩ rfl (by rw [List.length_map]; omega) hsz (by simp [pm_cv, va_rf]) (lv_room hcat') hd ⟨hRc, hRs⟩) hH hS kk
      · cases h
    · rcases hd with ⟨h, -⟩ | ⟨-, hd⟩
      · cases h
      · have hps := pm_preS (as := as) hH hS hK hSt
        rcases v1 with v1 | ⟨host, v1⟩
        · exact pm_after (va_runS (As := as.map pm_cv) (rest := r.map pm_cv) (n := k) ⟨hx, hb, hml, hown, hts⟩ (hCt sv G cI cJ cR _ f P' hT hok) ⟨callB_of k hts hG rfl rfl rfl (ok _ wi) (ok _ v1) ⟨hne.1, hne.2, hpar⟩ hR, ok _ v2⟩ hps rfl (by rw [List.length_map]; exact hlen) hsz (by simp) (lv_room hcat') hd ⟨hRc, hRs⟩) hH hS kk
        · exact pm_after (va_runSN (As := as.map pm_cv) (rest := r.map pm_cv) (n := k) ⟨hx, hb, hml, hown, hts⟩ (hCt sv G cI cJ cR _ f P' hT hok) ⟨va_cnB k hts hG rfl rfl rfl (hK.2 _ v1) (ok _ wi) ⟨hne.1, hne.2, hpar⟩ hR, ok _ v2, trivial⟩ hps rfl (by rw [List.length_map]; exact hlen) hsz (by simp) (lv_room hcat') hd ⟨hRc, hRs⟩) hH hS kk
    · rcases hd with ⟨-, hd⟩ | ⟨h, -⟩
      · obtain ⟨i, as', hi, rfl⟩ := hstr _ _ _ hT
        simp only [List.length_cons] at hlen
        have hps := pm_preS (as := .inr (.inl (some (sk i))) :: as') hH hS hK hSt
        refine pm_after (va_runV (C := "java/lang/String") (b := sk i) (As := as'.map pm_cv) (rest := r.map pm_cv) (n := k - 1) ⟨hx, hb, hml, hown, hts⟩ (hCt sv G cI cJ cR _ f P' hT hok) ⟨callB_of (k - 1) hts hG rfl rfl rfl (ok _ wi) (ok _ v1) ⟨hne.1, hne.2, hpar⟩ hR, ok _ v2, ok _ v3⟩ ⟨hps.1, vk_recv hSt.1 hi hS, hps.2⟩ rfl (by rw [List.length_map]; omega) hsz (by simp [pm_cv, va_rf]) (lv_room hcat') hd ⟨hRc, hRs⟩) hH hS kk
      · cases h
end PMM
