def pw_NC : List (String × String) := [("java/lang/IllegalStateException", "java/lang/IllegalArgumentException"), ("java/util/NoSuchElementException", "java/lang/IndexOutOfBoundsException"), ("java/lang/IllegalStateException", "java/lang/IndexOutOfBoundsException"), ("java/lang/IllegalStateException", "java/util/NoSuchElementException"), ("java/lang/IllegalArgumentException", "java/lang/IndexOutOfBoundsException")]
def pw_Pc (sk sv : Nat → Nat) (G : va_G) (cI cJ : ClassId) (cR : Nat → ClassId) (as : List pm_V) (f : pm_H) : Array Value → State → Prop := fun v U => pm_Pc sk sv G cI cJ cR as f v U ∧ ∀ q ∈ pw_NC, va_Nc q.1 q.2 U
/-- a wrapper's meaning: the class's call, its answer into the row at o, or a number for what was thrown -/
def wT (T : pm_TX) (cv : Int → Int64) (hc : List (String × Int)) (as0 : List pm_V) (o : Nat) (f : pm_H) (P : pm_P) : Prop := pm_exX T as0 f (fun v f1 => ∃ (z : Int) (g : Nat → Int64), v = some (.inl z) ∧ f1 o = some (.inr (.inr (.inl (1, g)))) ∧ P (some (.inl 0)) (pm_up f1 o (.inr (.inr (.inl (1, vp_updL g 0 (cv z))))))) (fun x f1 => ∃ n, (x, n) ∈ hc ∧ P (some (.inl n)) f1)
def cvI (z : Int) : Int64 := pm_i2l z
def cvB (z : Int) : Int64 := if z = 0 then Int64.ofNat 0 else Int64.ofNat 1
def eL_near : pm_E := (cL_near, f0, fun _ => none, fun _ => none, fun _ => none, fun _ => none, some .int)
theorem zL_near_B : pm_eB eL_near = cL_near := rfl
theorem zL_near_F : pm_eF eL_near = f0 := rfl
theorem zL_near_R : pm_eR eL_near = some .int := rfl
theorem wk_near (l : Launch) (sk : Nat → Nat) (hlt : l.stackTraces = false) : pmx_COK l sk RL 5 73 3 (some 4) T_X4_near := px_cok (i := 4) (Ct_X4_near l sk hlt) ykX4_near (by decide) (by decide) rfl rfl (by decide) (by decide +kernel) (pm_WS_mem 1058 (by decide +kernel) rfl)
set_option maxHeartbeats 4000000 in
set_option maxRecDepth 20000 in
theorem wc_near (l : Launch) (sk : Nat → Nat) (hlt : l.stackTraces = false) (sv : Nat → Nat) (G : va_G) (cI cJ : ClassId) (cR : Nat → ClassId) {c o : Nat} {p : Int} {q : Int} {f : pm_H} {P : pm_P} (hob : ∃ fs, f c = some (.inr (.inr (.inr (4, fs))))) (hex : wT T_X4_near cvI [("java/lang/IndexOutOfBoundsException", 1)] [.inr (.inl (some c)), .inl p, .inl q] o f P) (hok : ∀ v ∈ ([.inr (.inl (some c)), .inl p, .inl q, .inr (.inl (some o))] : List pm_V), pm_ok v) : vx_Met l yL_near (.codeWith yL_near cL_near 5 (some .int) [(0, 10, 13, 47)] :: pm_WS) (pm_rmx 5) (pw_Pc sk sv G cI cJ cR [.inr (.inl (some c)), .inl p, .inl q, .inr (.inl (some o))] f) (pm_Qc G cI cJ cR P f) (fun _ _ _ => False) 1 6 (pm_dom f) := by
  refine vx_ofWH (cc := cL_near) (maxL := 5) (ret := some .int) (hh := [(0, 10, 13, 47)]) (by decide) rfl ?_
  intro p e s m args below meth cd s₁ B hml hv
  obtain ⟨⟨rfl, hHd, hK, hSt⟩, hNC⟩ := hv
  have hx := B.exec
  have hb : cd.code = cL_near := B.bytes
  have hr := B.returns
  have hlocks := B.notSynchronized
  have hts := atoms_spec (ws := .codeWith yL_near cL_near 5 (some .int) [(0, 10, 13, 47)] :: pm_WS) B.pre
  have ok : ∀ w ∈ pm_WS, w.before _ s = true := fun w hw => hts w (List.mem_cons_of_mem _ hw)
  have hown : s.vm.findClass RL = some m.cls := findClass_of_methodNamed B.named
  have htab : cd.exceptionTable.toList = tableOf [(0, 10, 13, 47)] := vx_table B (hts _ List.mem_cons_self)
  have hH0 : pm_Hd G vwCl cI cJ cR (pm_dom f) f s.heap := fun a c0 hc => ⟨(hHd a c0 hc).1, ⟨c0, hc⟩, (hHd a c0 hc).2.2⟩
  have step := fun (pc : Nat) (lv : pm_L) (st : List pm_V) (f0 : pm_H) (h : pm_S eL_near P (fun _ _ => False) (pm_XW p l e (pm_rmx 5) s m _ below meth cd 0 0 (vx_MQ below (pm_Qc G cI cJ cR P f) (fun _ _ _ => False) _ s 1 6 (pm_dom f)) G vwCl cI cJ cR (pm_dom f) 5) pc lv st f0) => sg_S (d := 0) (sk := sk) (sv := sv) (own := RL) eL_near (Nat.zero_le _) (Nat.zero_le _) (Nat.zero_le _) (Nat.zero_le _) hx hb hml hown hts hK hSt (fun _ => rfl) (fun _ => rfl) (fun _ => rfl) (fun _ => rfl) (Or.inl rfl) (fun n k ci T h => by cases h) (fun pc z f1 ls H locs h1 _ hz hp h3 hS => W.widen (k := 1) (n := 6) (Nat.zero_le _) (Nat.zero_le _) (vx_ret (W.iret hx hb hr (fun t ht _ => ⟨⟨some (.inl z), f1, rfl, hp, fun w hw => by simp at hw; subst hw; exact hz, by rw [ht]; exact h3⟩, hS.F ht⟩) hS.2.2 h1))) h
  rw [lg_entry_eq]
  refine (sg_on eL_near [5] 60 step ?_) (fun i v hv => pm_put_ok _ hok i v (pm_lg_app _ _ _ _ hv)) (fun v hv => by cases hv) _ s.heap [] (pm_entry (as := [.inr (.inl (some c)), .inl p, .inl q, .inr (.inl (some o))]) (by decide)) hH0 va_S.rf
  show pm_S eL_near P (fun _ _ => False) _ 0 [some (.inr (.inl (some c))), some (.inl p), some (.inl q), some (.inr (.inl (some o))), none] [] f
  set_option maxRecDepth 100000 in simp (maxSteps := 2000000) only [pm_x_run, pm_x_rt, pm_x_rf, pm_z_S, pm_z_D, pm_z_cut0, pm_z_cut1, pm_z_cli, pm_z_clr, pm_z_cln, pm_z_cll, pm_z_up, pm_x_aload0, pm_x_aload3, pm_x_astore4, pm_x_c, pm_x_c2, pm_x_cn0, pm_x_cn1, pm_x_goto, pm_x_iload1, pm_x_iload2, pm_x_invv, pm_x_last, pm_x_lst, pm_x_v0, pm_x_v1, pm_x_x2, pm_z_cat0, pm_z_cati, pm_z_catl, pm_z_catr, pm_z_i2l, pm_z_iconst, pm_z_pop0, pm_z_pop1, zL_near_B, zL_near_F, zL_near_R, pm_z_ireti (zL_near_R), dL_near_0, dL_near_1, dL_near_2, dL_near_3, dL_near_4, dL_near_5, dL_near_8, dL_near_9, dL_near_10, dL_near_13, dL_near_15, dL_near_16, dL_near_17, dL_near_18, Bool.cond_true, Bool.cond_false, Bool.or_false, Bool.false_or, Bool.true_or, Bool.or_true, true_and, and_true, if_true, if_false, List.length_cons, List.length_nil, List.getElem?_cons_zero, List.getElem?_cons_succ, List.set_cons_zero, List.set_cons_succ, Option.toList_some, Option.toList_none, List.cons_append, List.nil_append, beq_self_eq_true, Option.isSome_some, Option.isSome_none, pm_tg_lit, ite_true, ite_false, Nat.reduceAdd, Nat.reduceBEq, Nat.reduceLT, Nat.reduceLeDiff, Nat.reduceEqDiff, Int.reduceAdd, Int.reduceSub, Int.reduceLE, Int.reduceLT, Int.reduceEq, Int.reduceToNat, Int.reduceNeg, Int.cast_ofNat_Int, Int.reduceNatCast, Int.reduceNatCast', Int.zero_add, Int.add_zero, Nat.zero_add, Nat.add_zero, and_self, decide_true, decide_false, true_or, or_true, or_false, false_or, eq_self, Int.toNat_natCast, b2_e0, b2_e1, b2_ok, b2_w, b2_v, b2_tt, b2_ff, Bool.true_eq_false, Bool.false_eq_true, Option.some.injEq, Int.one_mul, Int.mul_one, not_true_eq_false, not_false_eq_true, ite_not, decide_eq_false_iff_not, decide_eq_true_eq, Int.reduceMul, Int.reduceMod]
  intro ho hs ls H locs hl hH hS
  obtain ⟨P', PX', hT', hk, hkx⟩ := hex
  obtain ⟨fs, hfc⟩ := hob
  refine pmx_rule (d := 5) (R := pm_rmx 5) (as := [.inr (.inl (some c)), .inl p, .inl q]) (r := [.inl 0, .inr (.inl (some o))]) (Nat.le_refl _) (Nat.le_refl _) (Nat.le_refl _) (Nat.le_refl _) hx hb hml hown hts hK hSt (wk_near l sk hlt) dL_near_5 rfl (Or.inr ⟨c, fs, _, rfl, hfc⟩) (Nat.le_of_ble_eq_true rfl) hT' (fun v hv => hok v (by simp at hv ⊢; rcases hv with rfl | rfl | rfl <;> simp [*])) hl.1 hH hS ?_ ?_
  · intro v f' H' locs' hp hok' hH' hS'
    obtain ⟨z, g, rfl, hg, hP⟩ := hk v f' hp
    have hz : pm_ok (.inl z) := hok' (.inl z) (by simp)
    have seg : pm_XW p l e (pm_rmx 5) s m _ below meth cd 0 0 (vx_MQ below (pm_Qc G cI cJ cR P f) (fun _ _ _ => False) _ s 1 6 (pm_dom f)) G vwCl cI cJ cR (pm_dom f) 5 8 [some (.inr (.inl (some c))), some (.inl p), some (.inl q), some (.inr (.inl (some o))), none] [.inl z, .inl 0, .inr (.inl (some o))] f' := by
      refine sg_on eL_near [] 60 step ?_
      set_option maxRecDepth 100000 in simp (maxSteps := 2000000) only [pm_x_run, pm_x_rt, pm_x_rf, pm_z_S, pm_z_D, pm_z_cut0, pm_z_cut1, pm_z_cli, pm_z_clr, pm_z_cln, pm_z_cll, pm_z_up, pm_x_aload0, pm_x_aload3, pm_x_astore4, pm_x_c, pm_x_c2, pm_x_cn0, pm_x_cn1, pm_x_goto, pm_x_iload1, pm_x_iload2, pm_x_invv, pm_x_last, pm_x_lst, pm_x_v0, pm_x_v1, pm_x_x2, pm_z_cat0, pm_z_cati, pm_z_catl, pm_z_catr, pm_z_i2l, pm_z_iconst, pm_z_pop0, pm_z_pop1, zL_near_B, zL_near_F, zL_near_R, pm_z_ireti (zL_near_R), dL_near_0, dL_near_1, dL_near_2, dL_near_3, dL_near_4, dL_near_5, dL_near_8, dL_near_9, dL_near_10, dL_near_13, dL_near_15, dL_near_16, dL_near_17, dL_near_18, Bool.cond_true, Bool.cond_false, Bool.or_false, Bool.false_or, Bool.true_or, Bool.or_true, true_and, and_true, if_true, if_false, List.length_cons, List.length_nil, List.getElem?_cons_zero, List.getElem?_cons_succ, List.set_cons_zero, List.set_cons_succ, Option.toList_some, Option.toList_none, List.cons_append, List.nil_append, beq_self_eq_true, Option.isSome_some, Option.isSome_none, pm_tg_lit, ite_true, ite_false, Nat.reduceAdd, Nat.reduceBEq, Nat.reduceLT, Nat.reduceLeDiff, Nat.reduceEqDiff, Int.reduceAdd, Int.reduceSub, Int.reduceLE, Int.reduceLT, Int.reduceEq, Int.reduceToNat, Int.reduceNeg, Int.cast_ofNat_Int, Int.reduceNatCast, Int.reduceNatCast', Int.zero_add, Int.add_zero, Nat.zero_add, Nat.add_zero, and_self, decide_true, decide_false, true_or, or_true, or_false, false_or, eq_self, Int.toNat_natCast, b2_e0, b2_e1, b2_ok, b2_w, b2_v, b2_tt, b2_ff, Bool.true_eq_false, Bool.false_eq_true, Option.some.injEq, Int.one_mul, Int.mul_one, not_true_eq_false, not_false_eq_true, ite_not, decide_eq_false_iff_not, decide_eq_true_eq, Int.reduceMul, Int.reduceMod, hg]
      exact hP
    exact seg ho (fun v hv => by simp at hv; rcases hv with rfl | rfl | rfl; exact hz; exact pm_in0; trivial) ls H' locs' hl hH' hS'
  · intro x f' H' locs' q9 ce hp hH' hS' hcell hcv hcl
    obtain ⟨n, hn, hPn⟩ := hkx x f' hp
    · skip
      rw [List.mem_singleton, Prod.mk.injEq] at hn
      obtain ⟨rfl, rfl⟩ := hn
      refine vx_catch (name := "java/lang/IndexOutOfBoundsException") hown [] ⟨0, 10, 13, 47⟩ [] htab (fun z hz => by cases hz) (by decide) (by decide) (ok _ (ps_in (by decide +kernel))) (va_Nw.use rfl (hK.2 _ (List.mem_filter.mpr ⟨List.contains_iff_mem.mp (by decide +kernel), rfl⟩))) hcell hcv hcl ?_
      refine lv_astore hx hb dL_near_13 (pm_Lr_has hl) (by decide) rfl fun ls' hl' => ?_
      refine lv_iconst hx hb dL_near_15 rfl ?_
      exact vx_ret (W.iret hx hb hr (fun t ht _ => ⟨⟨some (.inl 1), f', rfl, hPn, fun w hw => by simp at hw; subst hw; unfold pm_ok pm_in; omega, by rw [ht]; exact hH'⟩, hS'.F ht⟩) hS'.2.2 dL_near_16)
