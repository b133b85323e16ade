def pw_NC : List (String × String) := [("java/lang/IllegalStateException", "java/lang/IllegalArgumentException"), ("java/util/NoSuchElementException", "java/lang/IndexOutOfBoundsException"), ("java/lang/IllegalStateException", "java/lang/IndexOutOfBoundsException"), ("java/lang/IllegalStateException", "java/util/NoSuchElementException"), ("java/lang/IllegalArgumentException", "java/lang/IndexOutOfBoundsException")]
def pw_Pc (sk sv : Nat → Nat) (G : va_G) (cI cJ : ClassId) (cR : Nat → ClassId) (as : List pm_V) (f : pm_H) : Array Value → State → Prop := fun v U => pm_Pc sk sv G cI cJ cR as f v U ∧ ∀ q ∈ pw_NC, va_Nc q.1 q.2 U
/-- a wrapper's meaning: the class's call, its answer into the row at o, or a number for what was thrown -/
def wT (T : pm_TX) (cv : Int → Int64) (hc : List (String × Int)) (as0 : List pm_V) (o : Nat) (f : pm_H) (P : pm_P) : Prop := pm_exX T as0 f (fun v f1 => ∃ (z : Int) (g : Nat → Int64), v = some (.inl z) ∧ f1 o = some (.inr (.inr (.inl (1, g)))) ∧ P (some (.inl 0)) (pm_up f1 o (.inr (.inr (.inl (1, vp_updL g 0 (cv z))))))) (fun x f1 => ∃ n, (x, n) ∈ hc ∧ P (some (.inl n)) f1)
def cvI (z : Int) : Int64 := pm_i2l z
def cvB (z : Int) : Int64 := if z = 0 then Int64.ofNat 0 else Int64.ofNat 1
def eL_acts : pm_E := (cL_acts, f0, fun _ => none, fun _ => none, fun _ => none, fun _ => none, some .int)
theorem zL_acts_B : pm_eB eL_acts = cL_acts := rfl
theorem zL_acts_F : pm_eF eL_acts = f0 := rfl
theorem zL_acts_R : pm_eR eL_acts = some .int := rfl
theorem wk_acts (l : Launch) (sk : Nat → Nat) (hlt : l.stackTraces = false) : pmx_COK l sk RL 12 7 1 (some 4) (T_X4_acts sk) := px_cok (i := 4) (Ct_X4_acts l sk hlt) ykX4_acts (by decide) (by decide) rfl rfl (by decide) (by decide +kernel) (pm_WS_mem 700 (by decide +kernel) rfl)
set_option maxHeartbeats 4000000 in
set_option maxRecDepth 20000 in
theorem wc_acts (l : Launch) (sk : Nat → Nat) (hlt : l.stackTraces = false) (sv : Nat → Nat) (G : va_G) (cI cJ : ClassId) (cR : Nat → ClassId) {c o : Nat}  {f : pm_H} {P : pm_P} (hob : ∃ fs, f c = some (.inr (.inr (.inr (4, fs))))) (hex : wT (T_X4_acts sk) cvI [("java/lang/IllegalArgumentException", 1)] [.inr (.inl (some c))] o f P) (hok : ∀ v ∈ ([.inr (.inl (some c)), .inr (.inl (some o))] : List pm_V), pm_ok v) : vx_Met l yL_acts (.codeWith yL_acts cL_acts 3 (some .int) [(0, 8, 11, 13)] :: pm_WS) (pm_rmx 12) (pw_Pc sk sv G cI cJ cR [.inr (.inl (some c)), .inr (.inl (some o))] f) (pm_Qc G cI cJ cR P f) (fun _ _ _ => False) 1 6 (pm_dom f) := by
  refine vx_ofWH (cc := cL_acts) (maxL := 3) (ret := some .int) (hh := [(0, 8, 11, 13)]) (by decide) rfl ?_
  intro p e s m args below meth cd s₁ B hml hv
  obtain ⟨⟨rfl, hHd, hK, hSt⟩, hNC⟩ := hv
  have hx := B.exec
  have hb : cd.code = cL_acts := B.bytes
  have hr := B.returns
  have hlocks := B.notSynchronized
  have hts := atoms_spec (ws := .codeWith yL_acts cL_acts 3 (some .int) [(0, 8, 11, 13)] :: pm_WS) B.pre
  have ok : ∀ w ∈ pm_WS, w.before _ s = true := fun w hw => hts w (List.mem_cons_of_mem _ hw)
  have hown : s.vm.findClass RL = some m.cls := findClass_of_methodNamed B.named
  have htab : cd.exceptionTable.toList = tableOf [(0, 8, 11, 13)] := vx_table (x := yL_acts) B (hts _ List.mem_cons_self)
  have hH0 : pm_Hd G vwCl cI cJ cR (pm_dom f) f s.heap := fun a c0 hc => ⟨(hHd a c0 hc).1, ⟨c0, hc⟩, (hHd a c0 hc).2.2⟩
  have step := fun (pc : Nat) (lv : pm_L) (st : List pm_V) (f0 : pm_H) (h : pm_S eL_acts P (fun _ _ => False) (pm_XW p l e (pm_rmx 12) s m _ below meth cd 0 0 (vx_MQ below (pm_Qc G cI cJ cR P f) (fun _ _ _ => False) _ s 1 6 (pm_dom f)) G vwCl cI cJ cR (pm_dom f) 3) pc lv st f0) => sg_S (d := 0) (sk := sk) (sv := sv) (own := RL) eL_acts (Nat.zero_le _) (Nat.zero_le _) (Nat.zero_le _) (Nat.zero_le _) hx hb hml hown hts hK hSt (fun _ => rfl) (fun _ => rfl) (fun _ => rfl) (fun _ => rfl) (Or.inl rfl) (fun n k ci T h => by cases h) (fun pc z f1 ls H locs h1 _ hz hp h3 hS => W.widen (k := 1) (n := 6) (Nat.zero_le _) (Nat.zero_le _) (vx_ret (W.iret hx hb hr (fun t ht _ => ⟨⟨some (.inl z), f1, rfl, hp, fun w hw => by simp at hw; subst hw; exact hz, by rw [ht]; exact h3⟩, hS.F ht⟩) hS.2.2 h1))) h
  have seg0 : pm_XW p l e (pm_rmx 12) s m (List.map pm_cv [.inr (.inl (some c)), .inr (.inl (some o))]).toArray below meth cd 0 0 (vx_MQ below (pm_Qc G cI cJ cR P f) (fun _ _ _ => False) (List.map pm_cv [.inr (.inl (some c)), .inr (.inl (some o))]).toArray s 1 6 (pm_dom f)) G vwCl cI cJ cR (pm_dom f) 3 0 [some (.inr (.inl (some c))), some (.inr (.inl (some o))), none] [] f := by
   refine sg_on eL_acts [3] 60 step ?_
   set_option maxRecDepth 100000 in simp (maxSteps := 2000000) only [pm_x_run, pm_x_rt, pm_x_rf, pm_z_S, pm_z_D, pm_z_cut0, pm_z_cut1, pm_z_cli, pm_z_clr, pm_z_cln, pm_z_cll, pm_z_up, pm_x_aload0, pm_x_aload1, pm_x_astore2, pm_x_c, pm_x_c2, pm_x_cn0, pm_x_cn1, pm_x_goto, pm_x_invv, pm_x_last, pm_x_lst, pm_x_v0, pm_x_v1, pm_x_x2, pm_z_cat0, pm_z_cati, pm_z_catl, pm_z_catr, pm_z_i2l, pm_z_iconst, pm_z_pop0, pm_z_pop1, zL_acts_B, zL_acts_F, zL_acts_R, pm_z_ireti (zL_acts_R), dL_acts_0, dL_acts_1, dL_acts_2, dL_acts_3, dL_acts_6, dL_acts_7, dL_acts_8, dL_acts_11, dL_acts_12, dL_acts_13, dL_acts_14, dL_acts_15, Bool.cond_true, Bool.cond_false, Bool.or_false, Bool.false_or, Bool.true_or, Bool.or_true, true_and, and_true, if_true, if_false, List.length_cons, List.length_nil, List.getElem?_cons_zero, List.getElem?_cons_succ, List.set_cons_zero, List.set_cons_succ, Option.toList_some, Option.toList_none, List.cons_append, List.nil_append, beq_self_eq_true, Option.isSome_some, Option.isSome_none, pm_tg_lit, ite_true, ite_false, Nat.reduceAdd, Nat.reduceBEq, Nat.reduceLT, Nat.reduceLeDiff, Nat.reduceEqDiff, Int.reduceAdd, Int.reduceSub, Int.reduceLE, Int.reduceLT, Int.reduceEq, Int.reduceToNat, Int.reduceNeg, Int.cast_ofNat_Int, Int.reduceNatCast, Int.reduceNatCast', Int.zero_add, Int.add_zero, Nat.zero_add, Nat.add_zero, and_self, decide_true, decide_false, true_or, or_true, or_false, false_or, eq_self, Int.toNat_natCast, b2_e0, b2_e1, b2_ok, b2_w, b2_v, b2_tt, b2_ff, Bool.true_eq_false, Bool.false_eq_true, Option.some.injEq, Int.one_mul, Int.mul_one, not_true_eq_false, not_false_eq_true, ite_not, decide_eq_false_iff_not, decide_eq_true_eq, Int.reduceMul, Int.reduceMod]
   intro ho hs ls H locs hl hH hS
   obtain ⟨P', PX', hT', hk, hkx⟩ := hex
   obtain ⟨fs, hfc⟩ := hob
   refine pmx_rule (d := 12) (R := pm_rmx 12) (as := [.inr (.inl (some c))]) (r := [.inl 0, .inr (.inl (some o))]) (Nat.le_refl _) (Nat.le_refl _) (Nat.le_refl _) (Nat.le_refl _) hx hb hml hown hts hK hSt (wk_acts l sk hlt) dL_acts_3 rfl (Or.inr ⟨c, fs, _, rfl, hfc⟩) (Nat.le_of_ble_eq_true rfl) hT' (fun v hv => hok v (by simp at hv ⊢; rcases hv with rfl <;> simp [*])) hl.1 hH hS ?_ ?_
   · intro v f' H' locs' hp hok' hH' hS'
     obtain ⟨z, g, rfl, hg, hP⟩ := hk v f' hp
     have hz : pm_ok (.inl z) := hok' (.inl z) (by simp)
     have seg : pm_XW p l e (pm_rmx 12) s m (List.map pm_cv [.inr (.inl (some c)), .inr (.inl (some o))]).toArray below meth cd 0 0 (vx_MQ below (pm_Qc G cI cJ cR P f) (fun _ _ _ => False) (List.map pm_cv [.inr (.inl (some c)), .inr (.inl (some o))]).toArray s 1 6 (pm_dom f)) G vwCl cI cJ cR (pm_dom f) 3 6 [some (.inr (.inl (some c))), some (.inr (.inl (some o))), none] [.inl z, .inl 0, .inr (.inl (some o))] f' := by
       refine sg_on eL_acts [] 60 step ?_
       set_option maxRecDepth 100000 in simp (maxSteps := 2000000) only [pm_x_run, pm_x_rt, pm_x_rf, pm_z_S, pm_z_D, pm_z_cut0, pm_z_cut1, pm_z_cli, pm_z_clr, pm_z_cln, pm_z_cll, pm_z_up, pm_x_aload0, pm_x_aload1, pm_x_astore2, pm_x_c, pm_x_c2, pm_x_cn0, pm_x_cn1, pm_x_goto, pm_x_invv, pm_x_last, pm_x_lst, pm_x_v0, pm_x_v1, pm_x_x2, pm_z_cat0, pm_z_cati, pm_z_catl, pm_z_catr, pm_z_i2l, pm_z_iconst, pm_z_pop0, pm_z_pop1, zL_acts_B, zL_acts_F, zL_acts_R, pm_z_ireti (zL_acts_R), dL_acts_0, dL_acts_1, dL_acts_2, dL_acts_3, dL_acts_6, dL_acts_7, dL_acts_8, dL_acts_11, dL_acts_12, dL_acts_13, dL_acts_14, dL_acts_15, Bool.cond_true, Bool.cond_false, Bool.or_false, Bool.false_or, Bool.true_or, Bool.or_true, true_and, and_true, if_true, if_false, List.length_cons, List.length_nil, List.getElem?_cons_zero, List.getElem?_cons_succ, List.set_cons_zero, List.set_cons_succ, Option.toList_some, Option.toList_none, List.cons_append, List.nil_append, beq_self_eq_true, Option.isSome_some, Option.isSome_none, pm_tg_lit, ite_true, ite_false, Nat.reduceAdd, Nat.reduceBEq, Nat.reduceLT, Nat.reduceLeDiff, Nat.reduceEqDiff, Int.reduceAdd, Int.reduceSub, Int.reduceLE, Int.reduceLT, Int.reduceEq, Int.reduceToNat, Int.reduceNeg, Int.cast_ofNat_Int, Int.reduceNatCast, Int.reduceNatCast', Int.zero_add, Int.add_zero, Nat.zero_add, Nat.add_zero, and_self, decide_true, decide_false, true_or, or_true, or_false, false_or, eq_self, Int.toNat_natCast, b2_e0, b2_e1, b2_ok, b2_w, b2_v, b2_tt, b2_ff, Bool.true_eq_false, Bool.false_eq_true, Option.some.injEq, Int.one_mul, Int.mul_one, not_true_eq_false, not_false_eq_true, ite_not, decide_eq_false_iff_not, decide_eq_true_eq, Int.reduceMul, Int.reduceMod, hg]
       exact hP
     exact seg ho (fun v hv => by simp at hv; rcases hv with rfl | rfl | rfl; exact hz; exact pm_in0; trivial) ls H' locs' hl hH' hS'
   · intro x f' H' locs' q9 ce hp hH' hS' hcell hcv hcl
     obtain ⟨n, hn, hPn⟩ := hkx x f' hp
     · skip
       rw [List.mem_singleton, Prod.mk.injEq] at hn
       obtain ⟨rfl, rfl⟩ := hn
       refine vx_catch (name := "java/lang/IllegalArgumentException") hown [] ⟨0, 8, 11, 13⟩ [] htab (fun z hz => by cases hz) (by decide) (by decide) (ok _ (ps_in (by decide +kernel))) (va_Nw.use rfl (hK.2 _ (List.mem_filter.mpr ⟨List.contains_iff_mem.mp (by decide +kernel), rfl⟩))) hcell hcv hcl ?_
       refine lv_astore_n hx hb dL_acts_11 rfl (pm_Lr_has hl) (by decide) rfl fun ls' hl' => ?_
       refine lv_iconst hx hb dL_acts_12 rfl ?_
       exact vx_ret (W.iret hx hb hr (fun t ht _ => ⟨⟨some (.inl 1), f', rfl, hPn, fun w hw => by simp at hw; subst hw; unfold pm_ok pm_in; omega, by rw [ht]; exact hH'⟩, hS'.F ht⟩) hS'.2.2 dL_acts_13)
  have hin : pm_init 3 [.inr (.inl (some c)), .inr (.inl (some o))] = [some (.inr (.inl (some c))), some (.inr (.inl (some o))), none] := by simp [pm_init, pm_put]
  rw [lg_entry_eq]
  rw [← hin] at seg0
  exact seg0 (fun i v hv => pm_put_ok [.inr (.inl (some c)), .inr (.inl (some o))] hok i v (pm_lg_app (pm_put [.inr (.inl (some c)), .inr (.inl (some o))]) _ i v hv)) (fun v hv => by cases hv) _ s.heap [] (pm_entry (as := [.inr (.inl (some c)), .inr (.inl (some o))]) (Nat.le_of_ble_eq_true rfl)) hH0 va_S.rf
def eL_net : pm_E := (cL_net, f0, fun _ => none, fun _ => none, fun _ => none, fun _ => none, some .int)
theorem zL_net_B : pm_eB eL_net = cL_net := rfl
theorem zL_net_F : pm_eF eL_net = f0 := rfl
theorem zL_net_R : pm_eR eL_net = some .int := rfl
theorem wk_net (l : Launch) (sk : Nat → Nat) (hlt : l.stackTraces = false) : pmx_COK l sk RL 5 15 2 (some 4) T_X4_net := px_cok (i := 4) (Ct_X4_net l sk hlt) ykX4_net (by decide) (by decide) rfl rfl (by decide) (by decide +kernel) (pm_WS_mem 836 (by decide +kernel) rfl)
set_option maxHeartbeats 4000000 in
set_option maxRecDepth 20000 in
theorem wc_net (l : Launch) (sk : Nat → Nat) (hlt : l.stackTraces = false) (sv : Nat → Nat) (G : va_G) (cI cJ : ClassId) (cR : Nat → ClassId) {c o : Nat} {u1 : Int} {f : pm_H} {P : pm_P} (hob : ∃ fs, f c = some (.inr (.inr (.inr (4, fs))))) (hex : wT T_X4_net cvI [("java/lang/IllegalArgumentException", 1)] [.inr (.inl (some c)), .inl u1] o f P) (hok : ∀ v ∈ ([.inr (.inl (some c)), .inl u1, .inr (.inl (some o))] : List pm_V), pm_ok v) : vx_Met l yL_net (.codeWith yL_net cL_net 4 (some .int) [(0, 9, 12, 13)] :: pm_WS) (pm_rmx 5) (pw_Pc sk sv G cI cJ cR [.inr (.inl (some c)), .inl u1, .inr (.inl (some o))] f) (pm_Qc G cI cJ cR P f) (fun _ _ _ => False) 1 6 (pm_dom f) := by
  refine vx_ofWH (cc := cL_net) (maxL := 4) (ret := some .int) (hh := [(0, 9, 12, 13)]) (by decide) rfl ?_
  intro p e s m args below meth cd s₁ B hml hv
  obtain ⟨⟨rfl, hHd, hK, hSt⟩, hNC⟩ := hv
  have hx := B.exec
  have hb : cd.code = cL_net := B.bytes
  have hr := B.returns
  have hlocks := B.notSynchronized
  have hts := atoms_spec (ws := .codeWith yL_net cL_net 4 (some .int) [(0, 9, 12, 13)] :: pm_WS) B.pre
  have ok : ∀ w ∈ pm_WS, w.before _ s = true := fun w hw => hts w (List.mem_cons_of_mem _ hw)
  have hown : s.vm.findClass RL = some m.cls := findClass_of_methodNamed B.named
  have htab : cd.exceptionTable.toList = tableOf [(0, 9, 12, 13)] := vx_table (x := yL_net) B (hts _ List.mem_cons_self)
  have hH0 : pm_Hd G vwCl cI cJ cR (pm_dom f) f s.heap := fun a c0 hc => ⟨(hHd a c0 hc).1, ⟨c0, hc⟩, (hHd a c0 hc).2.2⟩
  have step := fun (pc : Nat) (lv : pm_L) (st : List pm_V) (f0 : pm_H) (h : pm_S eL_net P (fun _ _ => False) (pm_XW p l e (pm_rmx 5) s m _ below meth cd 0 0 (vx_MQ below (pm_Qc G cI cJ cR P f) (fun _ _ _ => False) _ s 1 6 (pm_dom f)) G vwCl cI cJ cR (pm_dom f) 4) pc lv st f0) => sg_S (d := 0) (sk := sk) (sv := sv) (own := RL) eL_net (Nat.zero_le _) (Nat.zero_le _) (Nat.zero_le _) (Nat.zero_le _) hx hb hml hown hts hK hSt (fun _ => rfl) (fun _ => rfl) (fun _ => rfl) (fun _ => rfl) (Or.inl rfl) (fun n k ci T h => by cases h) (fun pc z f1 ls H locs h1 _ hz hp h3 hS => W.widen (k := 1) (n := 6) (Nat.zero_le _) (Nat.zero_le _) (vx_ret (W.iret hx hb hr (fun t ht _ => ⟨⟨some (.inl z), f1, rfl, hp, fun w hw => by simp at hw; subst hw; exact hz, by rw [ht]; exact h3⟩, hS.F ht⟩) hS.2.2 h1))) h
  have seg0 : pm_XW p l e (pm_rmx 5) s m (List.map pm_cv [.inr (.inl (some c)), .inl u1, .inr (.inl (some o))]).toArray below meth cd 0 0 (vx_MQ below (pm_Qc G cI cJ cR P f) (fun _ _ _ => False) (List.map pm_cv [.inr (.inl (some c)), .inl u1, .inr (.inl (some o))]).toArray s 1 6 (pm_dom f)) G vwCl cI cJ cR (pm_dom f) 4 0 [some (.inr (.inl (some c))), some (.inl u1), some (.inr (.inl (some o))), none] [] f := by
   refine sg_on eL_net [4] 60 step ?_
   set_option maxRecDepth 100000 in simp (maxSteps := 2000000) only [pm_x_run, pm_x_rt, pm_x_rf, pm_z_S, pm_z_D, pm_z_cut0, pm_z_cut1, pm_z_cli, pm_z_clr, pm_z_cln, pm_z_cll, pm_z_up, pm_x_aload0, pm_x_aload2, pm_x_astore3, pm_x_c, pm_x_c2, pm_x_cn0, pm_x_cn1, pm_x_goto, pm_x_iload1, pm_x_invv, pm_x_last, pm_x_lst, pm_x_v0, pm_x_v1, pm_x_x2, pm_z_cat0, pm_z_cati, pm_z_catl, pm_z_catr, pm_z_i2l, pm_z_iconst, pm_z_pop0, pm_z_pop1, zL_net_B, zL_net_F, zL_net_R, pm_z_ireti (zL_net_R), dL_net_0, dL_net_1, dL_net_2, dL_net_3, dL_net_4, dL_net_7, dL_net_8, dL_net_9, dL_net_12, dL_net_13, dL_net_14, dL_net_15, dL_net_16, Bool.cond_true, Bool.cond_false, Bool.or_false, Bool.false_or, Bool.true_or, Bool.or_true, true_and, and_true, if_true, if_false, List.length_cons, List.length_nil, List.getElem?_cons_zero, List.getElem?_cons_succ, List.set_cons_zero, List.set_cons_succ, Option.toList_some, Option.toList_none, List.cons_append, List.nil_append, beq_self_eq_true, Option.isSome_some, Option.isSome_none, pm_tg_lit, ite_true, ite_false, Nat.reduceAdd, Nat.reduceBEq, Nat.reduceLT, Nat.reduceLeDiff, Nat.reduceEqDiff, Int.reduceAdd, Int.reduceSub, Int.reduceLE, Int.reduceLT, Int.reduceEq, Int.reduceToNat, Int.reduceNeg, Int.cast_ofNat_Int, Int.reduceNatCast, Int.reduceNatCast', Int.zero_add, Int.add_zero, Nat.zero_add, Nat.add_zero, and_self, decide_true, decide_false, true_or, or_true, or_false, false_or, eq_self, Int.toNat_natCast, b2_e0, b2_e1, b2_ok, b2_w, b2_v, b2_tt, b2_ff, Bool.true_eq_false, Bool.false_eq_true, Option.some.injEq, Int.one_mul, Int.mul_one, not_true_eq_false, not_false_eq_true, ite_not, decide_eq_false_iff_not, decide_eq_true_eq, Int.reduceMul, Int.reduceMod]
   intro ho hs ls H locs hl hH hS
   obtain ⟨P', PX', hT', hk, hkx⟩ := hex
   obtain ⟨fs, hfc⟩ := hob
   refine pmx_rule (d := 5) (R := pm_rmx 5) (as := [.inr (.inl (some c)), .inl u1]) (r := [.inl 0, .inr (.inl (some o))]) (Nat.le_refl _) (Nat.le_refl _) (Nat.le_refl _) (Nat.le_refl _) hx hb hml hown hts hK hSt (wk_net l sk hlt) dL_net_4 rfl (Or.inr ⟨c, fs, _, rfl, hfc⟩) (Nat.le_of_ble_eq_true rfl) hT' (fun v hv => hok v (by simp at hv ⊢; rcases hv with rfl | rfl <;> simp [*])) hl.1 hH hS ?_ ?_
   · intro v f' H' locs' hp hok' hH' hS'
     obtain ⟨z, g, rfl, hg, hP⟩ := hk v f' hp
     have hz : pm_ok (.inl z) := hok' (.inl z) (by simp)
     have seg : pm_XW p l e (pm_rmx 5) s m (List.map pm_cv [.inr (.inl (some c)), .inl u1, .inr (.inl (some o))]).toArray below meth cd 0 0 (vx_MQ below (pm_Qc G cI cJ cR P f) (fun _ _ _ => False) (List.map pm_cv [.inr (.inl (some c)), .inl u1, .inr (.inl (some o))]).toArray s 1 6 (pm_dom f)) G vwCl cI cJ cR (pm_dom f) 4 7 [some (.inr (.inl (some c))), some (.inl u1), some (.inr (.inl (some o))), none] [.inl z, .inl 0, .inr (.inl (some o))] f' := by
       refine sg_on eL_net [] 60 step ?_
       set_option maxRecDepth 100000 in simp (maxSteps := 2000000) only [pm_x_run, pm_x_rt, pm_x_rf, pm_z_S, pm_z_D, pm_z_cut0, pm_z_cut1, pm_z_cli, pm_z_clr, pm_z_cln, pm_z_cll, pm_z_up, pm_x_aload0, pm_x_aload2, pm_x_astore3, pm_x_c, pm_x_c2, pm_x_cn0, pm_x_cn1, pm_x_goto, pm_x_iload1, pm_x_invv, pm_x_last, pm_x_lst, pm_x_v0, pm_x_v1, pm_x_x2, pm_z_cat0, pm_z_cati, pm_z_catl, pm_z_catr, pm_z_i2l, pm_z_iconst, pm_z_pop0, pm_z_pop1, zL_net_B, zL_net_F, zL_net_R, pm_z_ireti (zL_net_R), dL_net_0, dL_net_1, dL_net_2, dL_net_3, dL_net_4, dL_net_7, dL_net_8, dL_net_9, dL_net_12, dL_net_13, dL_net_14, dL_net_15, dL_net_16, Bool.cond_true, Bool.cond_false, Bool.or_false, Bool.false_or, Bool.true_or, Bool.or_true, true_and, and_true, if_true, if_false, List.length_cons, List.length_nil, List.getElem?_cons_zero, List.getElem?_cons_succ, List.set_cons_zero, List.set_cons_succ, Option.toList_some, Option.toList_none, List.cons_append, List.nil_append, beq_self_eq_true, Option.isSome_some, Option.isSome_none, pm_tg_lit, ite_true, ite_false, Nat.reduceAdd, Nat.reduceBEq, Nat.reduceLT, Nat.reduceLeDiff, Nat.reduceEqDiff, Int.reduceAdd, Int.reduceSub, Int.reduceLE, Int.reduceLT, Int.reduceEq, Int.reduceToNat, Int.reduceNeg, Int.cast_ofNat_Int, Int.reduceNatCast, Int.reduceNatCast', Int.zero_add, Int.add_zero, Nat.zero_add, Nat.add_zero, and_self, decide_true, decide_false, true_or, or_true, or_false, false_or, eq_self, Int.toNat_natCast, b2_e0, b2_e1, b2_ok, b2_w, b2_v, b2_tt, b2_ff, Bool.true_eq_false, Bool.false_eq_true, Option.some.injEq, Int.one_mul, Int.mul_one, not_true_eq_false, not_false_eq_true, ite_not, decide_eq_false_iff_not, decide_eq_true_eq, Int.reduceMul, Int.reduceMod, hg]
       exact hP
     exact seg ho (fun v hv => by simp at hv; rcases hv with rfl | rfl | rfl; exact hz; exact pm_in0; trivial) ls H' locs' hl hH' hS'
   · intro x f' H' locs' q9 ce hp hH' hS' hcell hcv hcl
     obtain ⟨n, hn, hPn⟩ := hkx x f' hp
     · skip
       rw [List.mem_singleton, Prod.mk.injEq] at hn
       obtain ⟨rfl, rfl⟩ := hn
       refine vx_catch (name := "java/lang/IllegalArgumentException") hown [] ⟨0, 9, 12, 13⟩ [] htab (fun z hz => by cases hz) (by decide) (by decide) (ok _ (ps_in (by decide +kernel))) (va_Nw.use rfl (hK.2 _ (List.mem_filter.mpr ⟨List.contains_iff_mem.mp (by decide +kernel), rfl⟩))) hcell hcv hcl ?_
       refine lv_astore_n hx hb dL_net_12 rfl (pm_Lr_has hl) (by decide) rfl fun ls' hl' => ?_
       refine lv_iconst hx hb dL_net_13 rfl ?_
       exact vx_ret (W.iret hx hb hr (fun t ht _ => ⟨⟨some (.inl 1), f', rfl, hPn, fun w hw => by simp at hw; subst hw; unfold pm_ok pm_in; omega, by rw [ht]; exact hH'⟩, hS'.F ht⟩) hS'.2.2 dL_net_14)
  have hin : pm_init 4 [.inr (.inl (some c)), .inl u1, .inr (.inl (some o))] = [some (.inr (.inl (some c))), some (.inl u1), some (.inr (.inl (some o))), none] := by simp [pm_init, pm_put]
  rw [lg_entry_eq]
  rw [← hin] at seg0
  exact seg0 (fun i v hv => pm_put_ok [.inr (.inl (some c)), .inl u1, .inr (.inl (some o))] hok i v (pm_lg_app (pm_put [.inr (.inl (some c)), .inl u1, .inr (.inl (some o))]) _ i v hv)) (fun v hv => by cases hv) _ s.heap [] (pm_entry (as := [.inr (.inl (some c)), .inl u1, .inr (.inl (some o))]) (Nat.le_of_ble_eq_true rfl)) hH0 va_S.rf
def eL_lay : pm_E := (cL_lay, f0, fun _ => none, fun _ => none, fun _ => none, fun _ => none, some .int)
theorem zL_lay_B : pm_eB eL_lay = cL_lay := rfl
theorem zL_lay_F : pm_eF eL_lay = f0 := rfl
theorem zL_lay_R : pm_eR eL_lay = some .int := rfl
theorem wk_lay (l : Launch) (sk : Nat → Nat) (hlt : l.stackTraces = false) : pmx_COK l sk RL 9 19 3 (some 4) T_X4_lay := px_cok (i := 4) (Ct_X4_lay l sk hlt) ykX4_lay (by decide) (by decide) rfl rfl (by decide) (by decide +kernel) (pm_WS_mem 845 (by decide +kernel) rfl)
set_option maxHeartbeats 4000000 in
set_option maxRecDepth 20000 in
theorem wc_lay (l : Launch) (sk : Nat → Nat) (hlt : l.stackTraces = false) (sv : Nat → Nat) (G : va_G) (cI cJ : ClassId) (cR : Nat → ClassId) {c o : Nat} {u1 : Int} {u2 : Int} {f : pm_H} {P : pm_P} (hob : ∃ fs, f c = some (.inr (.inr (.inr (4, fs))))) (hex : wT T_X4_lay cvI [("java/lang/IllegalStateException", 1)] [.inr (.inl (some c)), .inl u1, .inl u2] o f P) (hok : ∀ v ∈ ([.inr (.inl (some c)), .inl u1, .inl u2, .inr (.inl (some o))] : List pm_V), pm_ok v) : vx_Met l yL_lay (.codeWith yL_lay cL_lay 5 (some .int) [(0, 10, 13, 23)] :: pm_WS) (pm_rmx 9) (pw_Pc sk sv G cI cJ cR [.inr (.inl (some c)), .inl u1, .inl u2, .inr (.inl (some o))] f) (pm_Qc G cI cJ cR P f) (fun _ _ _ => False) 1 6 (pm_dom f) := by
  refine vx_ofWH (cc := cL_lay) (maxL := 5) (ret := some .int) (hh := [(0, 10, 13, 23)]) (by decide) rfl ?_
  intro p e s m args below meth cd s₁ B hml hv
  obtain ⟨⟨rfl, hHd, hK, hSt⟩, hNC⟩ := hv
  have hx := B.exec
  have hb : cd.code = cL_lay := B.bytes
  have hr := B.returns
  have hlocks := B.notSynchronized
  have hts := atoms_spec (ws := .codeWith yL_lay cL_lay 5 (some .int) [(0, 10, 13, 23)] :: pm_WS) B.pre
  have ok : ∀ w ∈ pm_WS, w.before _ s = true := fun w hw => hts w (List.mem_cons_of_mem _ hw)
  have hown : s.vm.findClass RL = some m.cls := findClass_of_methodNamed B.named
  have htab : cd.exceptionTable.toList = tableOf [(0, 10, 13, 23)] := vx_table (x := yL_lay) B (hts _ List.mem_cons_self)
  have hH0 : pm_Hd G vwCl cI cJ cR (pm_dom f) f s.heap := fun a c0 hc => ⟨(hHd a c0 hc).1, ⟨c0, hc⟩, (hHd a c0 hc).2.2⟩
  have step := fun (pc : Nat) (lv : pm_L) (st : List pm_V) (f0 : pm_H) (h : pm_S eL_lay P (fun _ _ => False) (pm_XW p l e (pm_rmx 9) s m _ below meth cd 0 0 (vx_MQ below (pm_Qc G cI cJ cR P f) (fun _ _ _ => False) _ s 1 6 (pm_dom f)) G vwCl cI cJ cR (pm_dom f) 5) pc lv st f0) => sg_S (d := 0) (sk := sk) (sv := sv) (own := RL) eL_lay (Nat.zero_le _) (Nat.zero_le _) (Nat.zero_le _) (Nat.zero_le _) hx hb hml hown hts hK hSt (fun _ => rfl) (fun _ => rfl) (fun _ => rfl) (fun _ => rfl) (Or.inl rfl) (fun n k ci T h => by cases h) (fun pc z f1 ls H locs h1 _ hz hp h3 hS => W.widen (k := 1) (n := 6) (Nat.zero_le _) (Nat.zero_le _) (vx_ret (W.iret hx hb hr (fun t ht _ => ⟨⟨some (.inl z), f1, rfl, hp, fun w hw => by simp at hw; subst hw; exact hz, by rw [ht]; exact h3⟩, hS.F ht⟩) hS.2.2 h1))) h
  have seg0 : pm_XW p l e (pm_rmx 9) s m (List.map pm_cv [.inr (.inl (some c)), .inl u1, .inl u2, .inr (.inl (some o))]).toArray below meth cd 0 0 (vx_MQ below (pm_Qc G cI cJ cR P f) (fun _ _ _ => False) (List.map pm_cv [.inr (.inl (some c)), .inl u1, .inl u2, .inr (.inl (some o))]).toArray s 1 6 (pm_dom f)) G vwCl cI cJ cR (pm_dom f) 5 0 [some (.inr (.inl (some c))), some (.inl u1), some (.inl u2), some (.inr (.inl (some o))), none] [] f := by
   refine sg_on eL_lay [5] 60 step ?_
   set_option maxRecDepth 100000 in simp (maxSteps := 2000000) only [pm_x_run, pm_x_rt, pm_x_rf, pm_z_S, pm_z_D, pm_z_cut0, pm_z_cut1, pm_z_cli, pm_z_clr, pm_z_cln, pm_z_cll, pm_z_up, pm_x_aload0, pm_x_aload3, pm_x_astore4, pm_x_c, pm_x_c2, pm_x_cn0, pm_x_cn1, pm_x_goto, pm_x_iload1, pm_x_iload2, pm_x_invv, pm_x_last, pm_x_lst, pm_x_v0, pm_x_v1, pm_x_x2, pm_z_cat0, pm_z_cati, pm_z_catl, pm_z_catr, pm_z_i2l, pm_z_iconst, pm_z_pop0, pm_z_pop1, zL_lay_B, zL_lay_F, zL_lay_R, pm_z_ireti (zL_lay_R), dL_lay_0, dL_lay_1, dL_lay_2, dL_lay_3, dL_lay_4, dL_lay_5, dL_lay_8, dL_lay_9, dL_lay_10, dL_lay_13, dL_lay_15, dL_lay_16, dL_lay_17, dL_lay_18, Bool.cond_true, Bool.cond_false, Bool.or_false, Bool.false_or, Bool.true_or, Bool.or_true, true_and, and_true, if_true, if_false, List.length_cons, List.length_nil, List.getElem?_cons_zero, List.getElem?_cons_succ, List.set_cons_zero, List.set_cons_succ, Option.toList_some, Option.toList_none, List.cons_append, List.nil_append, beq_self_eq_true, Option.isSome_some, Option.isSome_none, pm_tg_lit, ite_true, ite_false, Nat.reduceAdd, Nat.reduceBEq, Nat.reduceLT, Nat.reduceLeDiff, Nat.reduceEqDiff, Int.reduceAdd, Int.reduceSub, Int.reduceLE, Int.reduceLT, Int.reduceEq, Int.reduceToNat, Int.reduceNeg, Int.cast_ofNat_Int, Int.reduceNatCast, Int.reduceNatCast', Int.zero_add, Int.add_zero, Nat.zero_add, Nat.add_zero, and_self, decide_true, decide_false, true_or, or_true, or_false, false_or, eq_self, Int.toNat_natCast, b2_e0, b2_e1, b2_ok, b2_w, b2_v, b2_tt, b2_ff, Bool.true_eq_false, Bool.false_eq_true, Option.some.injEq, Int.one_mul, Int.mul_one, not_true_eq_false, not_false_eq_true, ite_not, decide_eq_false_iff_not, decide_eq_true_eq, Int.reduceMul, Int.reduceMod]
   intro ho hs ls H locs hl hH hS
   obtain ⟨P', PX', hT', hk, hkx⟩ := hex
   obtain ⟨fs, hfc⟩ := hob
   refine pmx_rule (d := 9) (R := pm_rmx 9) (as := [.inr (.inl (some c)), .inl u1, .inl u2]) (r := [.inl 0, .inr (.inl (some o))]) (Nat.le_refl _) (Nat.le_refl _) (Nat.le_refl _) (Nat.le_refl _) hx hb hml hown hts hK hSt (wk_lay l sk hlt) dL_lay_5 rfl (Or.inr ⟨c, fs, _, rfl, hfc⟩) (Nat.le_of_ble_eq_true rfl) hT' (fun v hv => hok v (by simp at hv ⊢; rcases hv with rfl | rfl | rfl <;> simp [*])) hl.1 hH hS ?_ ?_
   · intro v f' H' locs' hp hok' hH' hS'
     obtain ⟨z, g, rfl, hg, hP⟩ := hk v f' hp
     have hz : pm_ok (.inl z) := hok' (.inl z) (by simp)
     have seg : pm_XW p l e (pm_rmx 9) s m (List.map pm_cv [.inr (.inl (some c)), .inl u1, .inl u2, .inr (.inl (some o))]).toArray below meth cd 0 0 (vx_MQ below (pm_Qc G cI cJ cR P f) (fun _ _ _ => False) (List.map pm_cv [.inr (.inl (some c)), .inl u1, .inl u2, .inr (.inl (some o))]).toArray s 1 6 (pm_dom f)) G vwCl cI cJ cR (pm_dom f) 5 8 [some (.inr (.inl (some c))), some (.inl u1), some (.inl u2), some (.inr (.inl (some o))), none] [.inl z, .inl 0, .inr (.inl (some o))] f' := by
       refine sg_on eL_lay [] 60 step ?_
       set_option maxRecDepth 100000 in simp (maxSteps := 2000000) only [pm_x_run, pm_x_rt, pm_x_rf, pm_z_S, pm_z_D, pm_z_cut0, pm_z_cut1, pm_z_cli, pm_z_clr, pm_z_cln, pm_z_cll, pm_z_up, pm_x_aload0, pm_x_aload3, pm_x_astore4, pm_x_c, pm_x_c2, pm_x_cn0, pm_x_cn1, pm_x_goto, pm_x_iload1, pm_x_iload2, pm_x_invv, pm_x_last, pm_x_lst, pm_x_v0, pm_x_v1, pm_x_x2, pm_z_cat0, pm_z_cati, pm_z_catl, pm_z_catr, pm_z_i2l, pm_z_iconst, pm_z_pop0, pm_z_pop1, zL_lay_B, zL_lay_F, zL_lay_R, pm_z_ireti (zL_lay_R), dL_lay_0, dL_lay_1, dL_lay_2, dL_lay_3, dL_lay_4, dL_lay_5, dL_lay_8, dL_lay_9, dL_lay_10, dL_lay_13, dL_lay_15, dL_lay_16, dL_lay_17, dL_lay_18, Bool.cond_true, Bool.cond_false, Bool.or_false, Bool.false_or, Bool.true_or, Bool.or_true, true_and, and_true, if_true, if_false, List.length_cons, List.length_nil, List.getElem?_cons_zero, List.getElem?_cons_succ, List.set_cons_zero, List.set_cons_succ, Option.toList_some, Option.toList_none, List.cons_append, List.nil_append, beq_self_eq_true, Option.isSome_some, Option.isSome_none, pm_tg_lit, ite_true, ite_false, Nat.reduceAdd, Nat.reduceBEq, Nat.reduceLT, Nat.reduceLeDiff, Nat.reduceEqDiff, Int.reduceAdd, Int.reduceSub, Int.reduceLE, Int.reduceLT, Int.reduceEq, Int.reduceToNat, Int.reduceNeg, Int.cast_ofNat_Int, Int.reduceNatCast, Int.reduceNatCast', Int.zero_add, Int.add_zero, Nat.zero_add, Nat.add_zero, and_self, decide_true, decide_false, true_or, or_true, or_false, false_or, eq_self, Int.toNat_natCast, b2_e0, b2_e1, b2_ok, b2_w, b2_v, b2_tt, b2_ff, Bool.true_eq_false, Bool.false_eq_true, Option.some.injEq, Int.one_mul, Int.mul_one, not_true_eq_false, not_false_eq_true, ite_not, decide_eq_false_iff_not, decide_eq_true_eq, Int.reduceMul, Int.reduceMod, hg]
       exact hP
     exact seg ho (fun v hv => by simp at hv; rcases hv with rfl | rfl | rfl; exact hz; exact pm_in0; trivial) ls H' locs' hl hH' hS'
   · intro x f' H' locs' q9 ce hp hH' hS' hcell hcv hcl
     obtain ⟨n, hn, hPn⟩ := hkx x f' hp
     · skip
       rw [List.mem_singleton, Prod.mk.injEq] at hn
       obtain ⟨rfl, rfl⟩ := hn
       refine vx_catch (name := "java/lang/IllegalStateException") hown [] ⟨0, 10, 13, 23⟩ [] htab (fun z hz => by cases hz) (by decide) (by decide) (ok _ (ps_in (by decide +kernel))) (va_Nw.use rfl (hK.2 _ (List.mem_filter.mpr ⟨List.contains_iff_mem.mp (by decide +kernel), rfl⟩))) hcell hcv hcl ?_
       refine lv_astore hx hb dL_lay_13 (pm_Lr_has hl) (by decide) rfl fun ls' hl' => ?_
       refine lv_iconst hx hb dL_lay_15 rfl ?_
       exact vx_ret (W.iret hx hb hr (fun t ht _ => ⟨⟨some (.inl 1), f', rfl, hPn, fun w hw => by simp at hw; subst hw; unfold pm_ok pm_in; omega, by rw [ht]; exact hH'⟩, hS'.F ht⟩) hS'.2.2 dL_lay_16)
  have hin : pm_init 5 [.inr (.inl (some c)), .inl u1, .inl u2, .inr (.inl (some o))] = [some (.inr (.inl (some c))), some (.inl u1), some (.inl u2), some (.inr (.inl (some o))), none] := by simp [pm_init, pm_put]
  rw [lg_entry_eq]
  rw [← hin] at seg0
  exact seg0 (fun i v hv => pm_put_ok [.inr (.inl (some c)), .inl u1, .inl u2, .inr (.inl (some o))] hok i v (pm_lg_app (pm_put [.inr (.inl (some c)), .inl u1, .inl u2, .inr (.inl (some o))]) _ i v hv)) (fun v hv => by cases hv) _ s.heap [] (pm_entry (as := [.inr (.inl (some c)), .inl u1, .inl u2, .inr (.inl (some o))]) (Nat.le_of_ble_eq_true rfl)) hH0 va_S.rf
def eL_lift : pm_E := (cL_lift, f0, fun _ => none, fun _ => none, fun _ => none, fun _ => none, some .int)
theorem zL_lift_B : pm_eB eL_lift = cL_lift := rfl
theorem zL_lift_F : pm_eF eL_lift = f0 := rfl
theorem zL_lift_R : pm_eR eL_lift = some .int := rfl
theorem wk_lift (l : Launch) (sk : Nat → Nat) (hlt : l.stackTraces = false) : pmx_COK l sk RL 9 25 2 (some 4) T_X4_lift := px_cok (i := 4) (Ct_X4_lift l sk hlt) ykX4_lift (by decide) (by decide) rfl rfl (by decide) (by decide +kernel) (pm_WS_mem 852 (by decide +kernel) rfl)
set_option maxHeartbeats 4000000 in
set_option maxRecDepth 20000 in
theorem wc_lift (l : Launch) (sk : Nat → Nat) (hlt : l.stackTraces = false) (sv : Nat → Nat) (G : va_G) (cI cJ : ClassId) (cR : Nat → ClassId) {c o : Nat} {u1 : Int} {f : pm_H} {P : pm_P} (hob : ∃ fs, f c = some (.inr (.inr (.inr (4, fs))))) (hex : wT T_X4_lift cvI [("java/lang/IllegalStateException", 1)] [.inr (.inl (some c)), .inl u1] o f P) (hok : ∀ v ∈ ([.inr (.inl (some c)), .inl u1, .inr (.inl (some o))] : List pm_V), pm_ok v) : vx_Met l yL_lift (.codeWith yL_lift cL_lift 4 (some .int) [(0, 9, 12, 23)] :: pm_WS) (pm_rmx 9) (pw_Pc sk sv G cI cJ cR [.inr (.inl (some c)), .inl u1, .inr (.inl (some o))] f) (pm_Qc G cI cJ cR P f) (fun _ _ _ => False) 1 6 (pm_dom f) := by
  refine vx_ofWH (cc := cL_lift) (maxL := 4) (ret := some .int) (hh := [(0, 9, 12, 23)]) (by decide) rfl ?_
  intro p e s m args below meth cd s₁ B hml hv
  obtain ⟨⟨rfl, hHd, hK, hSt⟩, hNC⟩ := hv
  have hx := B.exec
  have hb : cd.code = cL_lift := B.bytes
  have hr := B.returns
  have hlocks := B.notSynchronized
  have hts := atoms_spec (ws := .codeWith yL_lift cL_lift 4 (some .int) [(0, 9, 12, 23)] :: pm_WS) B.pre
  have ok : ∀ w ∈ pm_WS, w.before _ s = true := fun w hw => hts w (List.mem_cons_of_mem _ hw)
  have hown : s.vm.findClass RL = some m.cls := findClass_of_methodNamed B.named
  have htab : cd.exceptionTable.toList = tableOf [(0, 9, 12, 23)] := vx_table (x := yL_lift) B (hts _ List.mem_cons_self)
  have hH0 : pm_Hd G vwCl cI cJ cR (pm_dom f) f s.heap := fun a c0 hc => ⟨(hHd a c0 hc).1, ⟨c0, hc⟩, (hHd a c0 hc).2.2⟩
  have step := fun (pc : Nat) (lv : pm_L) (st : List pm_V) (f0 : pm_H) (h : pm_S eL_lift P (fun _ _ => False) (pm_XW p l e (pm_rmx 9) s m _ below meth cd 0 0 (vx_MQ below (pm_Qc G cI cJ cR P f) (fun _ _ _ => False) _ s 1 6 (pm_dom f)) G vwCl cI cJ cR (pm_dom f) 4) pc lv st f0) => sg_S (d := 0) (sk := sk) (sv := sv) (own := RL) eL_lift (Nat.zero_le _) (Nat.zero_le _) (Nat.zero_le _) (Nat.zero_le _) hx hb hml hown hts hK hSt (fun _ => rfl) (fun _ => rfl) (fun _ => rfl) (fun _ => rfl) (Or.inl rfl) (fun n k ci T h => by cases h) (fun pc z f1 ls H locs h1 _ hz hp h3 hS => W.widen (k := 1) (n := 6) (Nat.zero_le _) (Nat.zero_le _) (vx_ret (W.iret hx hb hr (fun t ht _ => ⟨⟨some (.inl z), f1, rfl, hp, fun w hw => by simp at hw; subst hw; exact hz, by rw [ht]; exact h3⟩, hS.F ht⟩) hS.2.2 h1))) h
  have seg0 : pm_XW p l e (pm_rmx 9) s m (List.map pm_cv [.inr (.inl (some c)), .inl u1, .inr (.inl (some o))]).toArray below meth cd 0 0 (vx_MQ below (pm_Qc G cI cJ cR P f) (fun _ _ _ => False) (List.map pm_cv [.inr (.inl (some c)), .inl u1, .inr (.inl (some o))]).toArray s 1 6 (pm_dom f)) G vwCl cI cJ cR (pm_dom f) 4 0 [some (.inr (.inl (some c))), some (.inl u1), some (.inr (.inl (some o))), none] [] f := by
   refine sg_on eL_lift [4] 60 step ?_
   set_option maxRecDepth 100000 in simp (maxSteps := 2000000) only [pm_x_run, pm_x_rt, pm_x_rf, pm_z_S, pm_z_D, pm_z_cut0, pm_z_cut1, pm_z_cli, pm_z_clr, pm_z_cln, pm_z_cll, pm_z_up, pm_x_aload0, pm_x_aload2, pm_x_astore3, pm_x_c, pm_x_c2, pm_x_cn0, pm_x_cn1, pm_x_goto, pm_x_iload1, pm_x_invv, pm_x_last, pm_x_lst, pm_x_v0, pm_x_v1, pm_x_x2, pm_z_cat0, pm_z_cati, pm_z_catl, pm_z_catr, pm_z_i2l, pm_z_iconst, pm_z_pop0, pm_z_pop1, zL_lift_B, zL_lift_F, zL_lift_R, pm_z_ireti (zL_lift_R), dL_lift_0, dL_lift_1, dL_lift_2, dL_lift_3, dL_lift_4, dL_lift_7, dL_lift_8, dL_lift_9, dL_lift_12, dL_lift_13, dL_lift_14, dL_lift_15, dL_lift_16, Bool.cond_true, Bool.cond_false, Bool.or_false, Bool.false_or, Bool.true_or, Bool.or_true, true_and, and_true, if_true, if_false, List.length_cons, List.length_nil, List.getElem?_cons_zero, List.getElem?_cons_succ, List.set_cons_zero, List.set_cons_succ, Option.toList_some, Option.toList_none, List.cons_append, List.nil_append, beq_self_eq_true, Option.isSome_some, Option.isSome_none, pm_tg_lit, ite_true, ite_false, Nat.reduceAdd, Nat.reduceBEq, Nat.reduceLT, Nat.reduceLeDiff, Nat.reduceEqDiff, Int.reduceAdd, Int.reduceSub, Int.reduceLE, Int.reduceLT, Int.reduceEq, Int.reduceToNat, Int.reduceNeg, Int.cast_ofNat_Int, Int.reduceNatCast, Int.reduceNatCast', Int.zero_add, Int.add_zero, Nat.zero_add, Nat.add_zero, and_self, decide_true, decide_false, true_or, or_true, or_false, false_or, eq_self, Int.toNat_natCast, b2_e0, b2_e1, b2_ok, b2_w, b2_v, b2_tt, b2_ff, Bool.true_eq_false, Bool.false_eq_true, Option.some.injEq, Int.one_mul, Int.mul_one, not_true_eq_false, not_false_eq_true, ite_not, decide_eq_false_iff_not, decide_eq_true_eq, Int.reduceMul, Int.reduceMod]
   intro ho hs ls H locs hl hH hS
   obtain ⟨P', PX', hT', hk, hkx⟩ := hex
   obtain ⟨fs, hfc⟩ := hob
   refine pmx_rule (d := 9) (R := pm_rmx 9) (as := [.inr (.inl (some c)), .inl u1]) (r := [.inl 0, .inr (.inl (some o))]) (Nat.le_refl _) (Nat.le_refl _) (Nat.le_refl _) (Nat.le_refl _) hx hb hml hown hts hK hSt (wk_lift l sk hlt) dL_lift_4 rfl (Or.inr ⟨c, fs, _, rfl, hfc⟩) (Nat.le_of_ble_eq_true rfl) hT' (fun v hv => hok v (by simp at hv ⊢; rcases hv with rfl | rfl <;> simp [*])) hl.1 hH hS ?_ ?_
   · intro v f' H' locs' hp hok' hH' hS'
     obtain ⟨z, g, rfl, hg, hP⟩ := hk v f' hp
     have hz : pm_ok (.inl z) := hok' (.inl z) (by simp)
     have seg : pm_XW p l e (pm_rmx 9) s m (List.map pm_cv [.inr (.inl (some c)), .inl u1, .inr (.inl (some o))]).toArray below meth cd 0 0 (vx_MQ below (pm_Qc G cI cJ cR P f) (fun _ _ _ => False) (List.map pm_cv [.inr (.inl (some c)), .inl u1, .inr (.inl (some o))]).toArray s 1 6 (pm_dom f)) G vwCl cI cJ cR (pm_dom f) 4 7 [some (.inr (.inl (some c))), some (.inl u1), some (.inr (.inl (some o))), none] [.inl z, .inl 0, .inr (.inl (some o))] f' := by
       refine sg_on eL_lift [] 60 step ?_
       set_option maxRecDepth 100000 in simp (maxSteps := 2000000) only [pm_x_run, pm_x_rt, pm_x_rf, pm_z_S, pm_z_D, pm_z_cut0, pm_z_cut1, pm_z_cli, pm_z_clr, pm_z_cln, pm_z_cll, pm_z_up, pm_x_aload0, pm_x_aload2, pm_x_astore3, pm_x_c, pm_x_c2, pm_x_cn0, pm_x_cn1, pm_x_goto, pm_x_iload1, pm_x_invv, pm_x_last, pm_x_lst, pm_x_v0, pm_x_v1, pm_x_x2, pm_z_cat0, pm_z_cati, pm_z_catl, pm_z_catr, pm_z_i2l, pm_z_iconst, pm_z_pop0, pm_z_pop1, zL_lift_B, zL_lift_F, zL_lift_R, pm_z_ireti (zL_lift_R), dL_lift_0, dL_lift_1, dL_lift_2, dL_lift_3, dL_lift_4, dL_lift_7, dL_lift_8, dL_lift_9, dL_lift_12, dL_lift_13, dL_lift_14, dL_lift_15, dL_lift_16, Bool.cond_true, Bool.cond_false, Bool.or_false, Bool.false_or, Bool.true_or, Bool.or_true, true_and, and_true, if_true, if_false, List.length_cons, List.length_nil, List.getElem?_cons_zero, List.getElem?_cons_succ, List.set_cons_zero, List.set_cons_succ, Option.toList_some, Option.toList_none, List.cons_append, List.nil_append, beq_self_eq_true, Option.isSome_some, Option.isSome_none, pm_tg_lit, ite_true, ite_false, Nat.reduceAdd, Nat.reduceBEq, Nat.reduceLT, Nat.reduceLeDiff, Nat.reduceEqDiff, Int.reduceAdd, Int.reduceSub, Int.reduceLE, Int.reduceLT, Int.reduceEq, Int.reduceToNat, Int.reduceNeg, Int.cast_ofNat_Int, Int.reduceNatCast, Int.reduceNatCast', Int.zero_add, Int.add_zero, Nat.zero_add, Nat.add_zero, and_self, decide_true, decide_false, true_or, or_true, or_false, false_or, eq_self, Int.toNat_natCast, b2_e0, b2_e1, b2_ok, b2_w, b2_v, b2_tt, b2_ff, Bool.true_eq_false, Bool.false_eq_true, Option.some.injEq, Int.one_mul, Int.mul_one, not_true_eq_false, not_false_eq_true, ite_not, decide_eq_false_iff_not, decide_eq_true_eq, Int.reduceMul, Int.reduceMod, hg]
       exact hP
     exact seg ho (fun v hv => by simp at hv; rcases hv with rfl | rfl | rfl; exact hz; exact pm_in0; trivial) ls H' locs' hl hH' hS'
   · intro x f' H' locs' q9 ce hp hH' hS' hcell hcv hcl
     obtain ⟨n, hn, hPn⟩ := hkx x f' hp
     · skip
       rw [List.mem_singleton, Prod.mk.injEq] at hn
       obtain ⟨rfl, rfl⟩ := hn
       refine vx_catch (name := "java/lang/IllegalStateException") hown [] ⟨0, 9, 12, 23⟩ [] htab (fun z hz => by cases hz) (by decide) (by decide) (ok _ (ps_in (by decide +kernel))) (va_Nw.use rfl (hK.2 _ (List.mem_filter.mpr ⟨List.contains_iff_mem.mp (by decide +kernel), rfl⟩))) hcell hcv hcl ?_
       refine lv_astore_n hx hb dL_lift_12 rfl (pm_Lr_has hl) (by decide) rfl fun ls' hl' => ?_
       refine lv_iconst hx hb dL_lift_13 rfl ?_
       exact vx_ret (W.iret hx hb hr (fun t ht _ => ⟨⟨some (.inl 1), f', rfl, hPn, fun w hw => by simp at hw; subst hw; unfold pm_ok pm_in; omega, by rw [ht]; exact hH'⟩, hS'.F ht⟩) hS'.2.2 dL_lift_14)
  have hin : pm_init 4 [.inr (.inl (some c)), .inl u1, .inr (.inl (some o))] = [some (.inr (.inl (some c))), some (.inl u1), some (.inr (.inl (some o))), none] := by simp [pm_init, pm_put]
  rw [lg_entry_eq]
  rw [← hin] at seg0
  exact seg0 (fun i v hv => pm_put_ok [.inr (.inl (some c)), .inl u1, .inr (.inl (some o))] hok i v (pm_lg_app (pm_put [.inr (.inl (some c)), .inl u1, .inr (.inl (some o))]) _ i v hv)) (fun v hv => by cases hv) _ s.heap [] (pm_entry (as := [.inr (.inl (some c)), .inl u1, .inr (.inl (some o))]) (Nat.le_of_ble_eq_true rfl)) hH0 va_S.rf
def eL_cost : pm_E := (cL_cost, f0, fun _ => none, fun _ => none, fun _ => none, fun _ => none, some .int)
theorem zL_cost_B : pm_eB eL_cost = cL_cost := rfl
theorem zL_cost_F : pm_eF eL_cost = f0 := rfl
theorem zL_cost_R : pm_eR eL_cost = some .int := rfl
theorem wk_cost (l : Launch) (sk : Nat → Nat) (hlt : l.stackTraces = false) : pmx_COK l sk RL 9 28 3 (some 4) T_X4_cost := px_cok (i := 4) (Ct_X4_cost l sk hlt) ykX4_cost (by decide) (by decide) rfl rfl (by decide) (by decide +kernel) (pm_WS_mem 859 (by decide +kernel) rfl)
set_option maxHeartbeats 4000000 in
set_option maxRecDepth 20000 in
theorem wc_cost (l : Launch) (sk : Nat → Nat) (hlt : l.stackTraces = false) (sv : Nat → Nat) (G : va_G) (cI cJ : ClassId) (cR : Nat → ClassId) {c o : Nat} {u1 : Int} {u2 : Int} {f : pm_H} {P : pm_P} (hob : ∃ fs, f c = some (.inr (.inr (.inr (4, fs))))) (hex : wT T_X4_cost cvI [("java/lang/IllegalArgumentException", 1), ("java/lang/IllegalStateException", 2)] [.inr (.inl (some c)), .inl u1, .inl u2] o f P) (hok : ∀ v ∈ ([.inr (.inl (some c)), .inl u1, .inl u2, .inr (.inl (some o))] : List pm_V), pm_ok v) : vx_Met l yL_cost (.codeWith yL_cost cL_cost 5 (some .int) [(0, 10, 13, 13), (0, 10, 17, 23)] :: pm_WS) (pm_rmx 9) (pw_Pc sk sv G cI cJ cR [.inr (.inl (some c)), .inl u1, .inl u2, .inr (.inl (some o))] f) (pm_Qc G cI cJ cR P f) (fun _ _ _ => False) 1 6 (pm_dom f) := by
  refine vx_ofWH (cc := cL_cost) (maxL := 5) (ret := some .int) (hh := [(0, 10, 13, 13), (0, 10, 17, 23)]) (by decide) rfl ?_
  intro p e s m args below meth cd s₁ B hml hv
  obtain ⟨⟨rfl, hHd, hK, hSt⟩, hNC⟩ := hv
  have hx := B.exec
  have hb : cd.code = cL_cost := B.bytes
  have hr := B.returns
  have hlocks := B.notSynchronized
  have hts := atoms_spec (ws := .codeWith yL_cost cL_cost 5 (some .int) [(0, 10, 13, 13), (0, 10, 17, 23)] :: pm_WS) B.pre
  have ok : ∀ w ∈ pm_WS, w.before _ s = true := fun w hw => hts w (List.mem_cons_of_mem _ hw)
  have hown : s.vm.findClass RL = some m.cls := findClass_of_methodNamed B.named
  have htab : cd.exceptionTable.toList = tableOf [(0, 10, 13, 13), (0, 10, 17, 23)] := vx_table (x := yL_cost) B (hts _ List.mem_cons_self)
  have hH0 : pm_Hd G vwCl cI cJ cR (pm_dom f) f s.heap := fun a c0 hc => ⟨(hHd a c0 hc).1, ⟨c0, hc⟩, (hHd a c0 hc).2.2⟩
  have step := fun (pc : Nat) (lv : pm_L) (st : List pm_V) (f0 : pm_H) (h : pm_S eL_cost P (fun _ _ => False) (pm_XW p l e (pm_rmx 9) s m _ below meth cd 0 0 (vx_MQ below (pm_Qc G cI cJ cR P f) (fun _ _ _ => False) _ s 1 6 (pm_dom f)) G vwCl cI cJ cR (pm_dom f) 5) pc lv st f0) => sg_S (d := 0) (sk := sk) (sv := sv) (own := RL) eL_cost (Nat.zero_le _) (Nat.zero_le _) (Nat.zero_le _) (Nat.zero_le _) hx hb hml hown hts hK hSt (fun _ => rfl) (fun _ => rfl) (fun _ => rfl) (fun _ => rfl) (Or.inl rfl) (fun n k ci T h => by cases h) (fun pc z f1 ls H locs h1 _ hz hp h3 hS => W.widen (k := 1) (n := 6) (Nat.zero_le _) (Nat.zero_le _) (vx_ret (W.iret hx hb hr (fun t ht _ => ⟨⟨some (.inl z), f1, rfl, hp, fun w hw => by simp at hw; subst hw; exact hz, by rw [ht]; exact h3⟩, hS.F ht⟩) hS.2.2 h1))) h
  have seg0 : pm_XW p l e (pm_rmx 9) s m (List.map pm_cv [.inr (.inl (some c)), .inl u1, .inl u2, .inr (.inl (some o))]).toArray below meth cd 0 0 (vx_MQ below (pm_Qc G cI cJ cR P f) (fun _ _ _ => False) (List.map pm_cv [.inr (.inl (some c)), .inl u1, .inl u2, .inr (.inl (some o))]).toArray s 1 6 (pm_dom f)) G vwCl cI cJ cR (pm_dom f) 5 0 [some (.inr (.inl (some c))), some (.inl u1), some (.inl u2), some (.inr (.inl (some o))), none] [] f := by
   refine sg_on eL_cost [5] 60 step ?_
   set_option maxRecDepth 100000 in simp (maxSteps := 2000000) only [pm_x_run, pm_x_rt, pm_x_rf, pm_z_S, pm_z_D, pm_z_cut0, pm_z_cut1, pm_z_cli, pm_z_clr, pm_z_cln, pm_z_cll, pm_z_up, pm_x_aload0, pm_x_aload3, pm_x_astore4, pm_x_c, pm_x_c2, pm_x_cn0, pm_x_cn1, pm_x_goto, pm_x_iload1, pm_x_iload2, pm_x_invv, pm_x_last, pm_x_lst, pm_x_v0, pm_x_v1, pm_x_x2, pm_z_cat0, pm_z_cati, pm_z_catl, pm_z_catr, pm_z_i2l, pm_z_iconst, pm_z_pop0, pm_z_pop1, zL_cost_B, zL_cost_F, zL_cost_R, pm_z_ireti (zL_cost_R), dL_cost_0, dL_cost_1, dL_cost_2, dL_cost_3, dL_cost_4, dL_cost_5, dL_cost_8, dL_cost_9, dL_cost_10, dL_cost_13, dL_cost_15, dL_cost_16, dL_cost_17, dL_cost_19, dL_cost_20, dL_cost_21, dL_cost_22, Bool.cond_true, Bool.cond_false, Bool.or_false, Bool.false_or, Bool.true_or, Bool.or_true, true_and, and_true, if_true, if_false, List.length_cons, List.length_nil, List.getElem?_cons_zero, List.getElem?_cons_succ, List.set_cons_zero, List.set_cons_succ, Option.toList_some, Option.toList_none, List.cons_append, List.nil_append, beq_self_eq_true, Option.isSome_some, Option.isSome_none, pm_tg_lit, ite_true, ite_false, Nat.reduceAdd, Nat.reduceBEq, Nat.reduceLT, Nat.reduceLeDiff, Nat.reduceEqDiff, Int.reduceAdd, Int.reduceSub, Int.reduceLE, Int.reduceLT, Int.reduceEq, Int.reduceToNat, Int.reduceNeg, Int.cast_ofNat_Int, Int.reduceNatCast, Int.reduceNatCast', Int.zero_add, Int.add_zero, Nat.zero_add, Nat.add_zero, and_self, decide_true, decide_false, true_or, or_true, or_false, false_or, eq_self, Int.toNat_natCast, b2_e0, b2_e1, b2_ok, b2_w, b2_v, b2_tt, b2_ff, Bool.true_eq_false, Bool.false_eq_true, Option.some.injEq, Int.one_mul, Int.mul_one, not_true_eq_false, not_false_eq_true, ite_not, decide_eq_false_iff_not, decide_eq_true_eq, Int.reduceMul, Int.reduceMod]
   intro ho hs ls H locs hl hH hS
   obtain ⟨P', PX', hT', hk, hkx⟩ := hex
   obtain ⟨fs, hfc⟩ := hob
   refine pmx_rule (d := 9) (R := pm_rmx 9) (as := [.inr (.inl (some c)), .inl u1, .inl u2]) (r := [.inl 0, .inr (.inl (some o))]) (Nat.le_refl _) (Nat.le_refl _) (Nat.le_refl _) (Nat.le_refl _) hx hb hml hown hts hK hSt (wk_cost l sk hlt) dL_cost_5 rfl (Or.inr ⟨c, fs, _, rfl, hfc⟩) (Nat.le_of_ble_eq_true rfl) hT' (fun v hv => hok v (by simp at hv ⊢; rcases hv with rfl | rfl | rfl <;> simp [*])) hl.1 hH hS ?_ ?_
   · intro v f' H' locs' hp hok' hH' hS'
     obtain ⟨z, g, rfl, hg, hP⟩ := hk v f' hp
     have hz : pm_ok (.inl z) := hok' (.inl z) (by simp)
     have seg : pm_XW p l e (pm_rmx 9) s m (List.map pm_cv [.inr (.inl (some c)), .inl u1, .inl u2, .inr (.inl (some o))]).toArray below meth cd 0 0 (vx_MQ below (pm_Qc G cI cJ cR P f) (fun _ _ _ => False) (List.map pm_cv [.inr (.inl (some c)), .inl u1, .inl u2, .inr (.inl (some o))]).toArray s 1 6 (pm_dom f)) G vwCl cI cJ cR (pm_dom f) 5 8 [some (.inr (.inl (some c))), some (.inl u1), some (.inl u2), some (.inr (.inl (some o))), none] [.inl z, .inl 0, .inr (.inl (some o))] f' := by
       refine sg_on eL_cost [] 60 step ?_
       set_option maxRecDepth 100000 in simp (maxSteps := 2000000) only [pm_x_run, pm_x_rt, pm_x_rf, pm_z_S, pm_z_D, pm_z_cut0, pm_z_cut1, pm_z_cli, pm_z_clr, pm_z_cln, pm_z_cll, pm_z_up, pm_x_aload0, pm_x_aload3, pm_x_astore4, pm_x_c, pm_x_c2, pm_x_cn0, pm_x_cn1, pm_x_goto, pm_x_iload1, pm_x_iload2, pm_x_invv, pm_x_last, pm_x_lst, pm_x_v0, pm_x_v1, pm_x_x2, pm_z_cat0, pm_z_cati, pm_z_catl, pm_z_catr, pm_z_i2l, pm_z_iconst, pm_z_pop0, pm_z_pop1, zL_cost_B, zL_cost_F, zL_cost_R, pm_z_ireti (zL_cost_R), dL_cost_0, dL_cost_1, dL_cost_2, dL_cost_3, dL_cost_4, dL_cost_5, dL_cost_8, dL_cost_9, dL_cost_10, dL_cost_13, dL_cost_15, dL_cost_16, dL_cost_17, dL_cost_19, dL_cost_20, dL_cost_21, dL_cost_22, Bool.cond_true, Bool.cond_false, Bool.or_false, Bool.false_or, Bool.true_or, Bool.or_true, true_and, and_true, if_true, if_false, List.length_cons, List.length_nil, List.getElem?_cons_zero, List.getElem?_cons_succ, List.set_cons_zero, List.set_cons_succ, Option.toList_some, Option.toList_none, List.cons_append, List.nil_append, beq_self_eq_true, Option.isSome_some, Option.isSome_none, pm_tg_lit, ite_true, ite_false, Nat.reduceAdd, Nat.reduceBEq, Nat.reduceLT, Nat.reduceLeDiff, Nat.reduceEqDiff, Int.reduceAdd, Int.reduceSub, Int.reduceLE, Int.reduceLT, Int.reduceEq, Int.reduceToNat, Int.reduceNeg, Int.cast_ofNat_Int, Int.reduceNatCast, Int.reduceNatCast', Int.zero_add, Int.add_zero, Nat.zero_add, Nat.add_zero, and_self, decide_true, decide_false, true_or, or_true, or_false, false_or, eq_self, Int.toNat_natCast, b2_e0, b2_e1, b2_ok, b2_w, b2_v, b2_tt, b2_ff, Bool.true_eq_false, Bool.false_eq_true, Option.some.injEq, Int.one_mul, Int.mul_one, not_true_eq_false, not_false_eq_true, ite_not, decide_eq_false_iff_not, decide_eq_true_eq, Int.reduceMul, Int.reduceMod, hg]
       exact hP
     exact seg ho (fun v hv => by simp at hv; rcases hv with rfl | rfl | rfl; exact hz; exact pm_in0; trivial) ls H' locs' hl hH' hS'
   · intro x f' H' locs' q9 ce hp hH' hS' hcell hcv hcl
     obtain ⟨n, hn, hPn⟩ := hkx x f' hp
     · skip
       simp only [List.mem_cons, List.not_mem_nil, or_false, Prod.mk.injEq] at hn
       rcases hn with ⟨rfl, rfl⟩ | ⟨rfl, rfl⟩
       · refine vx_catch (name := "java/lang/IllegalArgumentException") hown [] ⟨0, 10, 13, 13⟩ [⟨0, 10, 17, 23⟩] htab (fun z hz => by cases hz) (by decide) (by decide) (ok _ (ps_in (by decide +kernel))) (va_Nw.use rfl (hK.2 _ (List.mem_filter.mpr ⟨List.contains_iff_mem.mp (by decide +kernel), rfl⟩))) hcell hcv hcl ?_
         refine lv_astore hx hb dL_cost_13 (pm_Lr_has hl) (by decide) rfl fun ls' hl' => ?_
         refine lv_iconst hx hb dL_cost_15 rfl ?_
         exact vx_ret (W.iret hx hb hr (fun t ht _ => ⟨⟨some (.inl 1), f', rfl, hPn, fun w hw => by simp at hw; subst hw; unfold pm_ok pm_in; omega, by rw [ht]; exact hH'⟩, hS'.F ht⟩) hS'.2.2 dL_cost_16)
       · refine vx_catch (name := "java/lang/IllegalStateException") hown [⟨0, 10, 13, 13⟩] ⟨0, 10, 17, 23⟩ [] htab (fun z hz => by
           simp only [List.mem_cons, List.not_mem_nil, or_false] at hz
           rcases hz with rfl
           · exact Or.inr ⟨by decide, "java/lang/IllegalArgumentException", ok _ (ps_in (by decide +kernel)), hNC ("java/lang/IllegalStateException", "java/lang/IllegalArgumentException") (by decide)⟩) (by decide) (by decide) (ok _ (ps_in (by decide +kernel))) (va_Nw.use rfl (hK.2 _ (List.mem_filter.mpr ⟨List.contains_iff_mem.mp (by decide +kernel), rfl⟩))) hcell hcv hcl ?_
         refine lv_astore hx hb dL_cost_17 (pm_Lr_has hl) (by decide) rfl fun ls' hl' => ?_
         refine lv_iconst hx hb dL_cost_19 rfl ?_
         exact vx_ret (W.iret hx hb hr (fun t ht _ => ⟨⟨some (.inl 2), f', rfl, hPn, fun w hw => by simp at hw; subst hw; unfold pm_ok pm_in; omega, by rw [ht]; exact hH'⟩, hS'.F ht⟩) hS'.2.2 dL_cost_20)
  have hin : pm_init 5 [.inr (.inl (some c)), .inl u1, .inl u2, .inr (.inl (some o))] = [some (.inr (.inl (some c))), some (.inl u1), some (.inl u2), some (.inr (.inl (some o))), none] := by simp [pm_init, pm_put]
  rw [lg_entry_eq]
  rw [← hin] at seg0
  exact seg0 (fun i v hv => pm_put_ok [.inr (.inl (some c)), .inl u1, .inl u2, .inr (.inl (some o))] hok i v (pm_lg_app (pm_put [.inr (.inl (some c)), .inl u1, .inl u2, .inr (.inl (some o))]) _ i v hv)) (fun v hv => by cases hv) _ s.heap [] (pm_entry (as := [.inr (.inl (some c)), .inl u1, .inl u2, .inr (.inl (some o))]) (Nat.le_of_ble_eq_true rfl)) hH0 va_S.rf
def eL_tries : pm_E := (cL_tries, f0, fun _ => none, fun _ => none, fun _ => none, fun _ => none, some .int)
theorem zL_tries_B : pm_eB eL_tries = cL_tries := rfl
theorem zL_tries_F : pm_eF eL_tries = f0 := rfl
theorem zL_tries_R : pm_eR eL_tries = some .int := rfl
theorem wk_tries (l : Launch) (sk : Nat → Nat) (hlt : l.stackTraces = false) : pmx_COK l sk RL 12 31 1 (some 4) (T_X4_tries sk) := px_cok (i := 4) (Ct_X4_tries l sk hlt) ykX4_tries (by decide) (by decide) rfl rfl (by decide) (by decide +kernel) (pm_WS_mem 867 (by decide +kernel) rfl)
set_option maxHeartbeats 4000000 in
set_option maxRecDepth 20000 in
theorem wc_tries (l : Launch) (sk : Nat → Nat) (hlt : l.stackTraces = false) (sv : Nat → Nat) (G : va_G) (cI cJ : ClassId) (cR : Nat → ClassId) {c o : Nat}  {f : pm_H} {P : pm_P} (hob : ∃ fs, f c = some (.inr (.inr (.inr (4, fs))))) (hex : wT (T_X4_tries sk) cvI [("java/lang/IllegalArgumentException", 1)] [.inr (.inl (some c))] o f P) (hok : ∀ v ∈ ([.inr (.inl (some c)), .inr (.inl (some o))] : List pm_V), pm_ok v) : vx_Met l yL_tries (.codeWith yL_tries cL_tries 3 (some .int) [(0, 8, 11, 13)] :: pm_WS) (pm_rmx 12) (pw_Pc sk sv G cI cJ cR [.inr (.inl (some c)), .inr (.inl (some o))] f) (pm_Qc G cI cJ cR P f) (fun _ _ _ => False) 1 6 (pm_dom f) := by
  refine vx_ofWH (cc := cL_tries) (maxL := 3) (ret := some .int) (hh := [(0, 8, 11, 13)]) (by decide) rfl ?_
  intro p e s m args below meth cd s₁ B hml hv
  obtain ⟨⟨rfl, hHd, hK, hSt⟩, hNC⟩ := hv
  have hx := B.exec
  have hb : cd.code = cL_tries := B.bytes
  have hr := B.returns
  have hlocks := B.notSynchronized
  have hts := atoms_spec (ws := .codeWith yL_tries cL_tries 3 (some .int) [(0, 8, 11, 13)] :: pm_WS) B.pre
  have ok : ∀ w ∈ pm_WS, w.before _ s = true := fun w hw => hts w (List.mem_cons_of_mem _ hw)
  have hown : s.vm.findClass RL = some m.cls := findClass_of_methodNamed B.named
  have htab : cd.exceptionTable.toList = tableOf [(0, 8, 11, 13)] := vx_table (x := yL_tries) B (hts _ List.mem_cons_self)
  have hH0 : pm_Hd G vwCl cI cJ cR (pm_dom f) f s.heap := fun a c0 hc => ⟨(hHd a c0 hc).1, ⟨c0, hc⟩, (hHd a c0 hc).2.2⟩
  have step := fun (pc : Nat) (lv : pm_L) (st : List pm_V) (f0 : pm_H) (h : pm_S eL_tries P (fun _ _ => False) (pm_XW p l e (pm_rmx 12) s m _ below meth cd 0 0 (vx_MQ below (pm_Qc G cI cJ cR P f) (fun _ _ _ => False) _ s 1 6 (pm_dom f)) G vwCl cI cJ cR (pm_dom f) 3) pc lv st f0) => sg_S (d := 0) (sk := sk) (sv := sv) (own := RL) eL_tries (Nat.zero_le _) (Nat.zero_le _) (Nat.zero_le _) (Nat.zero_le _) hx hb hml hown hts hK hSt (fun _ => rfl) (fun _ => rfl) (fun _ => rfl) (fun _ => rfl) (Or.inl rfl) (fun n k ci T h => by cases h) (fun pc z f1 ls H locs h1 _ hz hp h3 hS => W.widen (k := 1) (n := 6) (Nat.zero_le _) (Nat.zero_le _) (vx_ret (W.iret hx hb hr (fun t ht _ => ⟨⟨some (.inl z), f1, rfl, hp, fun w hw => by simp at hw; subst hw; exact hz, by rw [ht]; exact h3⟩, hS.F ht⟩) hS.2.2 h1))) h
  have seg0 : pm_XW p l e (pm_rmx 12) s m (List.map pm_cv [.inr (.inl (some c)), .inr (.inl (some o))]).toArray below meth cd 0 0 (vx_MQ below (pm_Qc G cI cJ cR P f) (fun _ _ _ => False) (List.map pm_cv [.inr (.inl (some c)), .inr (.inl (some o))]).toArray s 1 6 (pm_dom f)) G vwCl cI cJ cR (pm_dom f) 3 0 [some (.inr (.inl (some c))), some (.inr (.inl (some o))), none] [] f := by
   refine sg_on eL_tries [3] 60 step ?_
   set_option maxRecDepth 100000 in simp (maxSteps := 2000000) only [pm_x_run, pm_x_rt, pm_x_rf, pm_z_S, pm_z_D, pm_z_cut0, pm_z_cut1, pm_z_cli, pm_z_clr, pm_z_cln, pm_z_cll, pm_z_up, pm_x_aload0, pm_x_aload1, pm_x_astore2, pm_x_c, pm_x_c2, pm_x_cn0, pm_x_cn1, pm_x_goto, pm_x_invv, pm_x_last, pm_x_lst, pm_x_v0, pm_x_v1, pm_x_x2, pm_z_cat0, pm_z_cati, pm_z_catl, pm_z_catr, pm_z_i2l, pm_z_iconst, pm_z_pop0, pm_z_pop1, zL_tries_B, zL_tries_F, zL_tries_R, pm_z_ireti (zL_tries_R), dL_tries_0, dL_tries_1, dL_tries_2, dL_tries_3, dL_tries_6, dL_tries_7, dL_tries_8, dL_tries_11, dL_tries_12, dL_tries_13, dL_tries_14, dL_tries_15, Bool.cond_true, Bool.cond_false, Bool.or_false, Bool.false_or, Bool.true_or, Bool.or_true, true_and, and_true, if_true, if_false, List.length_cons, List.length_nil, List.getElem?_cons_zero, List.getElem?_cons_succ, List.set_cons_zero, List.set_cons_succ, Option.toList_some, Option.toList_none, List.cons_append, List.nil_append, beq_self_eq_true, Option.isSome_some, Option.isSome_none, pm_tg_lit, ite_true, ite_false, Nat.reduceAdd, Nat.reduceBEq, Nat.reduceLT, Nat.reduceLeDiff, Nat.reduceEqDiff, Int.reduceAdd, Int.reduceSub, Int.reduceLE, Int.reduceLT, Int.reduceEq, Int.reduceToNat, Int.reduceNeg, Int.cast_ofNat_Int, Int.reduceNatCast, Int.reduceNatCast', Int.zero_add, Int.add_zero, Nat.zero_add, Nat.add_zero, and_self, decide_true, decide_false, true_or, or_true, or_false, false_or, eq_self, Int.toNat_natCast, b2_e0, b2_e1, b2_ok, b2_w, b2_v, b2_tt, b2_ff, Bool.true_eq_false, Bool.false_eq_true, Option.some.injEq, Int.one_mul, Int.mul_one, not_true_eq_false, not_false_eq_true, ite_not, decide_eq_false_iff_not, decide_eq_true_eq, Int.reduceMul, Int.reduceMod]
   intro ho hs ls H locs hl hH hS
   obtain ⟨P', PX', hT', hk, hkx⟩ := hex
   obtain ⟨fs, hfc⟩ := hob
   refine pmx_rule (d := 12) (R := pm_rmx 12) (as := [.inr (.inl (some c))]) (r := [.inl 0, .inr (.inl (some o))]) (Nat.le_refl _) (Nat.le_refl _) (Nat.le_refl _) (Nat.le_refl _) hx hb hml hown hts hK hSt (wk_tries l sk hlt) dL_tries_3 rfl (Or.inr ⟨c, fs, _, rfl, hfc⟩) (Nat.le_of_ble_eq_true rfl) hT' (fun v hv => hok v (by simp at hv ⊢; rcases hv with rfl <;> simp [*])) hl.1 hH hS ?_ ?_
   · intro v f' H' locs' hp hok' hH' hS'
     obtain ⟨z, g, rfl, hg, hP⟩ := hk v f' hp
     have hz : pm_ok (.inl z) := hok' (.inl z) (by simp)
     have seg : pm_XW p l e (pm_rmx 12) s m (List.map pm_cv [.inr (.inl (some c)), .inr (.inl (some o))]).toArray below meth cd 0 0 (vx_MQ below (pm_Qc G cI cJ cR P f) (fun _ _ _ => False) (List.map pm_cv [.inr (.inl (some c)), .inr (.inl (some o))]).toArray s 1 6 (pm_dom f)) G vwCl cI cJ cR (pm_dom f) 3 6 [some (.inr (.inl (some c))), some (.inr (.inl (some o))), none] [.inl z, .inl 0, .inr (.inl (some o))] f' := by
       refine sg_on eL_tries [] 60 step ?_
       set_option maxRecDepth 100000 in simp (maxSteps := 2000000) only [pm_x_run, pm_x_rt, pm_x_rf, pm_z_S, pm_z_D, pm_z_cut0, pm_z_cut1, pm_z_cli, pm_z_clr, pm_z_cln, pm_z_cll, pm_z_up, pm_x_aload0, pm_x_aload1, pm_x_astore2, pm_x_c, pm_x_c2, pm_x_cn0, pm_x_cn1, pm_x_goto, pm_x_invv, pm_x_last, pm_x_lst, pm_x_v0, pm_x_v1, pm_x_x2, pm_z_cat0, pm_z_cati, pm_z_catl, pm_z_catr, pm_z_i2l, pm_z_iconst, pm_z_pop0, pm_z_pop1, zL_tries_B, zL_tries_F, zL_tries_R, pm_z_ireti (zL_tries_R), dL_tries_0, dL_tries_1, dL_tries_2, dL_tries_3, dL_tries_6, dL_tries_7, dL_tries_8, dL_tries_11, dL_tries_12, dL_tries_13, dL_tries_14, dL_tries_15, Bool.cond_true, Bool.cond_false, Bool.or_false, Bool.false_or, Bool.true_or, Bool.or_true, true_and, and_true, if_true, if_false, List.length_cons, List.length_nil, List.getElem?_cons_zero, List.getElem?_cons_succ, List.set_cons_zero, List.set_cons_succ, Option.toList_some, Option.toList_none, List.cons_append, List.nil_append, beq_self_eq_true, Option.isSome_some, Option.isSome_none, pm_tg_lit, ite_true, ite_false, Nat.reduceAdd, Nat.reduceBEq, Nat.reduceLT, Nat.reduceLeDiff, Nat.reduceEqDiff, Int.reduceAdd, Int.reduceSub, Int.reduceLE, Int.reduceLT, Int.reduceEq, Int.reduceToNat, Int.reduceNeg, Int.cast_ofNat_Int, Int.reduceNatCast, Int.reduceNatCast', Int.zero_add, Int.add_zero, Nat.zero_add, Nat.add_zero, and_self, decide_true, decide_false, true_or, or_true, or_false, false_or, eq_self, Int.toNat_natCast, b2_e0, b2_e1, b2_ok, b2_w, b2_v, b2_tt, b2_ff, Bool.true_eq_false, Bool.false_eq_true, Option.some.injEq, Int.one_mul, Int.mul_one, not_true_eq_false, not_false_eq_true, ite_not, decide_eq_false_iff_not, decide_eq_true_eq, Int.reduceMul, Int.reduceMod, hg]
       exact hP
     exact seg ho (fun v hv => by simp at hv; rcases hv with rfl | rfl | rfl; exact hz; exact pm_in0; trivial) ls H' locs' hl hH' hS'
   · intro x f' H' locs' q9 ce hp hH' hS' hcell hcv hcl
     obtain ⟨n, hn, hPn⟩ := hkx x f' hp
     · skip
       rw [List.mem_singleton, Prod.mk.injEq] at hn
       obtain ⟨rfl, rfl⟩ := hn
       refine vx_catch (name := "java/lang/IllegalArgumentException") hown [] ⟨0, 8, 11, 13⟩ [] htab (fun z hz => by cases hz) (by decide) (by decide) (ok _ (ps_in (by decide +kernel))) (va_Nw.use rfl (hK.2 _ (List.mem_filter.mpr ⟨List.contains_iff_mem.mp (by decide +kernel), rfl⟩))) hcell hcv hcl ?_
       refine lv_astore_n hx hb dL_tries_11 rfl (pm_Lr_has hl) (by decide) rfl fun ls' hl' => ?_
       refine lv_iconst hx hb dL_tries_12 rfl ?_
       exact vx_ret (W.iret hx hb hr (fun t ht _ => ⟨⟨some (.inl 1), f', rfl, hPn, fun w hw => by simp at hw; subst hw; unfold pm_ok pm_in; omega, by rw [ht]; exact hH'⟩, hS'.F ht⟩) hS'.2.2 dL_tries_13)
  have hin : pm_init 3 [.inr (.inl (some c)), .inr (.inl (some o))] = [some (.inr (.inl (some c))), some (.inr (.inl (some o))), none] := by simp [pm_init, pm_put]
  rw [lg_entry_eq]
  rw [← hin] at seg0
  exact seg0 (fun i v hv => pm_put_ok [.inr (.inl (some c)), .inr (.inl (some o))] hok i v (pm_lg_app (pm_put [.inr (.inl (some c)), .inr (.inl (some o))]) _ i v hv)) (fun v hv => by cases hv) _ s.heap [] (pm_entry (as := [.inr (.inl (some c)), .inr (.inl (some o))]) (Nat.le_of_ble_eq_true rfl)) hH0 va_S.rf
def eL_swap : pm_E := (cL_swap, f0, fun _ => none, fun _ => none, fun _ => none, fun _ => none, some .int)
theorem zL_swap_B : pm_eB eL_swap = cL_swap := rfl
theorem zL_swap_F : pm_eF eL_swap = f0 := rfl
theorem zL_swap_R : pm_eR eL_swap = some .int := rfl
theorem wk_swap (l : Launch) (sk : Nat → Nat) (hlt : l.stackTraces = false) : pmx_COK l sk RL 9 34 3 (some 4) T_X4_swap := px_cok (i := 4) (Ct_X4_swap l sk hlt) ykX4_swap (by decide) (by decide) rfl rfl (by decide) (by decide +kernel) (pm_WS_mem 874 (by decide +kernel) rfl)
set_option maxHeartbeats 4000000 in
set_option maxRecDepth 20000 in
theorem wc_swap (l : Launch) (sk : Nat → Nat) (hlt : l.stackTraces = false) (sv : Nat → Nat) (G : va_G) (cI cJ : ClassId) (cR : Nat → ClassId) {c o : Nat} {u1 : Int} {u2 : Int} {f : pm_H} {P : pm_P} (hob : ∃ fs, f c = some (.inr (.inr (.inr (4, fs))))) (hex : wT T_X4_swap cvI [("java/lang/IllegalStateException", 1)] [.inr (.inl (some c)), .inl u1, .inl u2] o f P) (hok : ∀ v ∈ ([.inr (.inl (some c)), .inl u1, .inl u2, .inr (.inl (some o))] : List pm_V), pm_ok v) : vx_Met l yL_swap (.codeWith yL_swap cL_swap 5 (some .int) [(0, 10, 13, 23)] :: pm_WS) (pm_rmx 9) (pw_Pc sk sv G cI cJ cR [.inr (.inl (some c)), .inl u1, .inl u2, .inr (.inl (some o))] f) (pm_Qc G cI cJ cR P f) (fun _ _ _ => False) 1 6 (pm_dom f) := by
  refine vx_ofWH (cc := cL_swap) (maxL := 5) (ret := some .int) (hh := [(0, 10, 13, 23)]) (by decide) rfl ?_
  intro p e s m args below meth cd s₁ B hml hv
  obtain ⟨⟨rfl, hHd, hK, hSt⟩, hNC⟩ := hv
  have hx := B.exec
  have hb : cd.code = cL_swap := B.bytes
  have hr := B.returns
  have hlocks := B.notSynchronized
  have hts := atoms_spec (ws := .codeWith yL_swap cL_swap 5 (some .int) [(0, 10, 13, 23)] :: pm_WS) B.pre
  have ok : ∀ w ∈ pm_WS, w.before _ s = true := fun w hw => hts w (List.mem_cons_of_mem _ hw)
  have hown : s.vm.findClass RL = some m.cls := findClass_of_methodNamed B.named
  have htab : cd.exceptionTable.toList = tableOf [(0, 10, 13, 23)] := vx_table (x := yL_swap) B (hts _ List.mem_cons_self)
  have hH0 : pm_Hd G vwCl cI cJ cR (pm_dom f) f s.heap := fun a c0 hc => ⟨(hHd a c0 hc).1, ⟨c0, hc⟩, (hHd a c0 hc).2.2⟩
  have step := fun (pc : Nat) (lv : pm_L) (st : List pm_V) (f0 : pm_H) (h : pm_S eL_swap P (fun _ _ => False) (pm_XW p l e (pm_rmx 9) s m _ below meth cd 0 0 (vx_MQ below (pm_Qc G cI cJ cR P f) (fun _ _ _ => False) _ s 1 6 (pm_dom f)) G vwCl cI cJ cR (pm_dom f) 5) pc lv st f0) => sg_S (d := 0) (sk := sk) (sv := sv) (own := RL) eL_swap (Nat.zero_le _) (Nat.zero_le _) (Nat.zero_le _) (Nat.zero_le _) hx hb hml hown hts hK hSt (fun _ => rfl) (fun _ => rfl) (fun _ => rfl) (fun _ => rfl) (Or.inl rfl) (fun n k ci T h => by cases h) (fun pc z f1 ls H locs h1 _ hz hp h3 hS => W.widen (k := 1) (n := 6) (Nat.zero_le _) (Nat.zero_le _) (vx_ret (W.iret hx hb hr (fun t ht _ => ⟨⟨some (.inl z), f1, rfl, hp, fun w hw => by simp at hw; subst hw; exact hz, by rw [ht]; exact h3⟩, hS.F ht⟩) hS.2.2 h1))) h
  have seg0 : pm_XW p l e (pm_rmx 9) s m (List.map pm_cv [.inr (.inl (some c)), .inl u1, .inl u2, .inr (.inl (some o))]).toArray below meth cd 0 0 (vx_MQ below (pm_Qc G cI cJ cR P f) (fun _ _ _ => False) (List.map pm_cv [.inr (.inl (some c)), .inl u1, .inl u2, .inr (.inl (some o))]).toArray s 1 6 (pm_dom f)) G vwCl cI cJ cR (pm_dom f) 5 0 [some (.inr (.inl (some c))), some (.inl u1), some (.inl u2), some (.inr (.inl (some o))), none] [] f := by
   refine sg_on eL_swap [5] 60 step ?_
   set_option maxRecDepth 100000 in simp (maxSteps := 2000000) only [pm_x_run, pm_x_rt, pm_x_rf, pm_z_S, pm_z_D, pm_z_cut0, pm_z_cut1, pm_z_cli, pm_z_clr, pm_z_cln, pm_z_cll, pm_z_up, pm_x_aload0, pm_x_aload3, pm_x_astore4, pm_x_c, pm_x_c2, pm_x_cn0, pm_x_cn1, pm_x_goto, pm_x_iload1, pm_x_iload2, pm_x_invv, pm_x_last, pm_x_lst, pm_x_v0, pm_x_v1, pm_x_x2, pm_z_cat0, pm_z_cati, pm_z_catl, pm_z_catr, pm_z_i2l, pm_z_iconst, pm_z_pop0, pm_z_pop1, zL_swap_B, zL_swap_F, zL_swap_R, pm_z_ireti (zL_swap_R), dL_swap_0, dL_swap_1, dL_swap_2, dL_swap_3, dL_swap_4, dL_swap_5, dL_swap_8, dL_swap_9, dL_swap_10, dL_swap_13, dL_swap_15, dL_swap_16, dL_swap_17, dL_swap_18, Bool.cond_true, Bool.cond_false, Bool.or_false, Bool.false_or, Bool.true_or, Bool.or_true, true_and, and_true, if_true, if_false, List.length_cons, List.length_nil, List.getElem?_cons_zero, List.getElem?_cons_succ, List.set_cons_zero, List.set_cons_succ, Option.toList_some, Option.toList_none, List.cons_append, List.nil_append, beq_self_eq_true, Option.isSome_some, Option.isSome_none, pm_tg_lit, ite_true, ite_false, Nat.reduceAdd, Nat.reduceBEq, Nat.reduceLT, Nat.reduceLeDiff, Nat.reduceEqDiff, Int.reduceAdd, Int.reduceSub, Int.reduceLE, Int.reduceLT, Int.reduceEq, Int.reduceToNat, Int.reduceNeg, Int.cast_ofNat_Int, Int.reduceNatCast, Int.reduceNatCast', Int.zero_add, Int.add_zero, Nat.zero_add, Nat.add_zero, and_self, decide_true, decide_false, true_or, or_true, or_false, false_or, eq_self, Int.toNat_natCast, b2_e0, b2_e1, b2_ok, b2_w, b2_v, b2_tt, b2_ff, Bool.true_eq_false, Bool.false_eq_true, Option.some.injEq, Int.one_mul, Int.mul_one, not_true_eq_false, not_false_eq_true, ite_not, decide_eq_false_iff_not, decide_eq_true_eq, Int.reduceMul, Int.reduceMod]
   intro ho hs ls H locs hl hH hS
   obtain ⟨P', PX', hT', hk, hkx⟩ := hex
   obtain ⟨fs, hfc⟩ := hob
   refine pmx_rule (d := 9) (R := pm_rmx 9) (as := [.inr (.inl (some c)), .inl u1, .inl u2]) (r := [.inl 0, .inr (.inl (some o))]) (Nat.le_refl _) (Nat.le_refl _) (Nat.le_refl _) (Nat.le_refl _) hx hb hml hown hts hK hSt (wk_swap l sk hlt) dL_swap_5 rfl (Or.inr ⟨c, fs, _, rfl, hfc⟩) (Nat.le_of_ble_eq_true rfl) hT' (fun v hv => hok v (by simp at hv ⊢; rcases hv with rfl | rfl | rfl <;> simp [*])) hl.1 hH hS ?_ ?_
   · intro v f' H' locs' hp hok' hH' hS'
     obtain ⟨z, g, rfl, hg, hP⟩ := hk v f' hp
     have hz : pm_ok (.inl z) := hok' (.inl z) (by simp)
     have seg : pm_XW p l e (pm_rmx 9) s m (List.map pm_cv [.inr (.inl (some c)), .inl u1, .inl u2, .inr (.inl (some o))]).toArray below meth cd 0 0 (vx_MQ below (pm_Qc G cI cJ cR P f) (fun _ _ _ => False) (List.map pm_cv [.inr (.inl (some c)), .inl u1, .inl u2, .inr (.inl (some o))]).toArray s 1 6 (pm_dom f)) G vwCl cI cJ cR (pm_dom f) 5 8 [some (.inr (.inl (some c))), some (.inl u1), some (.inl u2), some (.inr (.inl (some o))), none] [.inl z, .inl 0, .inr (.inl (some o))] f' := by
       refine sg_on eL_swap [] 60 step ?_
       set_option maxRecDepth 100000 in simp (maxSteps := 2000000) only [pm_x_run, pm_x_rt, pm_x_rf, pm_z_S, pm_z_D, pm_z_cut0, pm_z_cut1, pm_z_cli, pm_z_clr, pm_z_cln, pm_z_cll, pm_z_up, pm_x_aload0, pm_x_aload3, pm_x_astore4, pm_x_c, pm_x_c2, pm_x_cn0, pm_x_cn1, pm_x_goto, pm_x_iload1, pm_x_iload2, pm_x_invv, pm_x_last, pm_x_lst, pm_x_v0, pm_x_v1, pm_x_x2, pm_z_cat0, pm_z_cati, pm_z_catl, pm_z_catr, pm_z_i2l, pm_z_iconst, pm_z_pop0, pm_z_pop1, zL_swap_B, zL_swap_F, zL_swap_R, pm_z_ireti (zL_swap_R), dL_swap_0, dL_swap_1, dL_swap_2, dL_swap_3, dL_swap_4, dL_swap_5, dL_swap_8, dL_swap_9, dL_swap_10, dL_swap_13, dL_swap_15, dL_swap_16, dL_swap_17, dL_swap_18, Bool.cond_true, Bool.cond_false, Bool.or_false, Bool.false_or, Bool.true_or, Bool.or_true, true_and, and_true, if_true, if_false, List.length_cons, List.length_nil, List.getElem?_cons_zero, List.getElem?_cons_succ, List.set_cons_zero, List.set_cons_succ, Option.toList_some, Option.toList_none, List.cons_append, List.nil_append, beq_self_eq_true, Option.isSome_some, Option.isSome_none, pm_tg_lit, ite_true, ite_false, Nat.reduceAdd, Nat.reduceBEq, Nat.reduceLT, Nat.reduceLeDiff, Nat.reduceEqDiff, Int.reduceAdd, Int.reduceSub, Int.reduceLE, Int.reduceLT, Int.reduceEq, Int.reduceToNat, Int.reduceNeg, Int.cast_ofNat_Int, Int.reduceNatCast, Int.reduceNatCast', Int.zero_add, Int.add_zero, Nat.zero_add, Nat.add_zero, and_self, decide_true, decide_false, true_or, or_true, or_false, false_or, eq_self, Int.toNat_natCast, b2_e0, b2_e1, b2_ok, b2_w, b2_v, b2_tt, b2_ff, Bool.true_eq_false, Bool.false_eq_true, Option.some.injEq, Int.one_mul, Int.mul_one, not_true_eq_false, not_false_eq_true, ite_not, decide_eq_false_iff_not, decide_eq_true_eq, Int.reduceMul, Int.reduceMod, hg]
       exact hP
     exact seg ho (fun v hv => by simp at hv; rcases hv with rfl | rfl | rfl; exact hz; exact pm_in0; trivial) ls H' locs' hl hH' hS'
   · intro x f' H' locs' q9 ce hp hH' hS' hcell hcv hcl
     obtain ⟨n, hn, hPn⟩ := hkx x f' hp
     · skip
       rw [List.mem_singleton, Prod.mk.injEq] at hn
       obtain ⟨rfl, rfl⟩ := hn
       refine vx_catch (name := "java/lang/IllegalStateException") hown [] ⟨0, 10, 13, 23⟩ [] htab (fun z hz => by cases hz) (by decide) (by decide) (ok _ (ps_in (by decide +kernel))) (va_Nw.use rfl (hK.2 _ (List.mem_filter.mpr ⟨List.contains_iff_mem.mp (by decide +kernel), rfl⟩))) hcell hcv hcl ?_
       refine lv_astore hx hb dL_swap_13 (pm_Lr_has hl) (by decide) rfl fun ls' hl' => ?_
       refine lv_iconst hx hb dL_swap_15 rfl ?_
       exact vx_ret (W.iret hx hb hr (fun t ht _ => ⟨⟨some (.inl 1), f', rfl, hPn, fun w hw => by simp at hw; subst hw; unfold pm_ok pm_in; omega, by rw [ht]; exact hH'⟩, hS'.F ht⟩) hS'.2.2 dL_swap_16)
  have hin : pm_init 5 [.inr (.inl (some c)), .inl u1, .inl u2, .inr (.inl (some o))] = [some (.inr (.inl (some c))), some (.inl u1), some (.inl u2), some (.inr (.inl (some o))), none] := by simp [pm_init, pm_put]
  rw [lg_entry_eq]
  rw [← hin] at seg0
  exact seg0 (fun i v hv => pm_put_ok [.inr (.inl (some c)), .inl u1, .inl u2, .inr (.inl (some o))] hok i v (pm_lg_app (pm_put [.inr (.inl (some c)), .inl u1, .inl u2, .inr (.inl (some o))]) _ i v hv)) (fun v hv => by cases hv) _ s.heap [] (pm_entry (as := [.inr (.inl (some c)), .inl u1, .inl u2, .inr (.inl (some o))]) (Nat.le_of_ble_eq_true rfl)) hH0 va_S.rf
def eL_fail : pm_E := (cL_fail, f0, fun _ => none, fun _ => none, fun _ => none, fun _ => none, some .int)
theorem zL_fail_B : pm_eB eL_fail = cL_fail := rfl
theorem zL_fail_F : pm_eF eL_fail = f0 := rfl
theorem zL_fail_R : pm_eR eL_fail = some .int := rfl
theorem wk_fail (l : Launch) (sk : Nat → Nat) (hlt : l.stackTraces = false) : pmx_COK l sk RL 9 37 2 (some 4) T_X4_fail := px_cok (i := 4) (Ct_X4_fail l sk hlt) ykX4_fail (by decide) (by decide) rfl rfl (by decide) (by decide +kernel) (pm_WS_mem 881 (by decide +kernel) rfl)
set_option maxHeartbeats 4000000 in
set_option maxRecDepth 20000 in
theorem wc_fail (l : Launch) (sk : Nat → Nat) (hlt : l.stackTraces = false) (sv : Nat → Nat) (G : va_G) (cI cJ : ClassId) (cR : Nat → ClassId) {c o : Nat} {u1 : Int} {f : pm_H} {P : pm_P} (hob : ∃ fs, f c = some (.inr (.inr (.inr (4, fs))))) (hex : wT T_X4_fail cvI [("java/lang/IllegalStateException", 1)] [.inr (.inl (some c)), .inl u1] o f P) (hok : ∀ v ∈ ([.inr (.inl (some c)), .inl u1, .inr (.inl (some o))] : List pm_V), pm_ok v) : vx_Met l yL_fail (.codeWith yL_fail cL_fail 4 (some .int) [(0, 9, 12, 23)] :: pm_WS) (pm_rmx 9) (pw_Pc sk sv G cI cJ cR [.inr (.inl (some c)), .inl u1, .inr (.inl (some o))] f) (pm_Qc G cI cJ cR P f) (fun _ _ _ => False) 1 6 (pm_dom f) := by
  refine vx_ofWH (cc := cL_fail) (maxL := 4) (ret := some .int) (hh := [(0, 9, 12, 23)]) (by decide) rfl ?_
  intro p e s m args below meth cd s₁ B hml hv
  obtain ⟨⟨rfl, hHd, hK, hSt⟩, hNC⟩ := hv
  have hx := B.exec
  have hb : cd.code = cL_fail := B.bytes
  have hr := B.returns
  have hlocks := B.notSynchronized
  have hts := atoms_spec (ws := .codeWith yL_fail cL_fail 4 (some .int) [(0, 9, 12, 23)] :: pm_WS) B.pre
  have ok : ∀ w ∈ pm_WS, w.before _ s = true := fun w hw => hts w (List.mem_cons_of_mem _ hw)
  have hown : s.vm.findClass RL = some m.cls := findClass_of_methodNamed B.named
  have htab : cd.exceptionTable.toList = tableOf [(0, 9, 12, 23)] := vx_table (x := yL_fail) B (hts _ List.mem_cons_self)
  have hH0 : pm_Hd G vwCl cI cJ cR (pm_dom f) f s.heap := fun a c0 hc => ⟨(hHd a c0 hc).1, ⟨c0, hc⟩, (hHd a c0 hc).2.2⟩
  have step := fun (pc : Nat) (lv : pm_L) (st : List pm_V) (f0 : pm_H) (h : pm_S eL_fail P (fun _ _ => False) (pm_XW p l e (pm_rmx 9) s m _ below meth cd 0 0 (vx_MQ below (pm_Qc G cI cJ cR P f) (fun _ _ _ => False) _ s 1 6 (pm_dom f)) G vwCl cI cJ cR (pm_dom f) 4) pc lv st f0) => sg_S (d := 0) (sk := sk) (sv := sv) (own := RL) eL_fail (Nat.zero_le _) (Nat.zero_le _) (Nat.zero_le _) (Nat.zero_le _) hx hb hml hown hts hK hSt (fun _ => rfl) (fun _ => rfl) (fun _ => rfl) (fun _ => rfl) (Or.inl rfl) (fun n k ci T h => by cases h) (fun pc z f1 ls H locs h1 _ hz hp h3 hS => W.widen (k := 1) (n := 6) (Nat.zero_le _) (Nat.zero_le _) (vx_ret (W.iret hx hb hr (fun t ht _ => ⟨⟨some (.inl z), f1, rfl, hp, fun w hw => by simp at hw; subst hw; exact hz, by rw [ht]; exact h3⟩, hS.F ht⟩) hS.2.2 h1))) h
  have seg0 : pm_XW p l e (pm_rmx 9) s m (List.map pm_cv [.inr (.inl (some c)), .inl u1, .inr (.inl (some o))]).toArray below meth cd 0 0 (vx_MQ below (pm_Qc G cI cJ cR P f) (fun _ _ _ => False) (List.map pm_cv [.inr (.inl (some c)), .inl u1, .inr (.inl (some o))]).toArray s 1 6 (pm_dom f)) G vwCl cI cJ cR (pm_dom f) 4 0 [some (.inr (.inl (some c))), some (.inl u1), some (.inr (.inl (some o))), none] [] f := by
   refine sg_on eL_fail [4] 60 step ?_
   set_option maxRecDepth 100000 in simp (maxSteps := 2000000) only [pm_x_run, pm_x_rt, pm_x_rf, pm_z_S, pm_z_D, pm_z_cut0, pm_z_cut1, pm_z_cli, pm_z_clr, pm_z_cln, pm_z_cll, pm_z_up, pm_x_aload0, pm_x_aload2, pm_x_astore3, pm_x_c, pm_x_c2, pm_x_cn0, pm_x_cn1, pm_x_goto, pm_x_iload1, pm_x_invv, pm_x_last, pm_x_lst, pm_x_v0, pm_x_v1, pm_x_x2, pm_z_cat0, pm_z_cati, pm_z_catl, pm_z_catr, pm_z_i2l, pm_z_iconst, pm_z_pop0, pm_z_pop1, zL_fail_B, zL_fail_F, zL_fail_R, pm_z_ireti (zL_fail_R), dL_fail_0, dL_fail_1, dL_fail_2, dL_fail_3, dL_fail_4, dL_fail_7, dL_fail_8, dL_fail_9, dL_fail_12, dL_fail_13, dL_fail_14, dL_fail_15, dL_fail_16, Bool.cond_true, Bool.cond_false, Bool.or_false, Bool.false_or, Bool.true_or, Bool.or_true, true_and, and_true, if_true, if_false, List.length_cons, List.length_nil, List.getElem?_cons_zero, List.getElem?_cons_succ, List.set_cons_zero, List.set_cons_succ, Option.toList_some, Option.toList_none, List.cons_append, List.nil_append, beq_self_eq_true, Option.isSome_some, Option.isSome_none, pm_tg_lit, ite_true, ite_false, Nat.reduceAdd, Nat.reduceBEq, Nat.reduceLT, Nat.reduceLeDiff, Nat.reduceEqDiff, Int.reduceAdd, Int.reduceSub, Int.reduceLE, Int.reduceLT, Int.reduceEq, Int.reduceToNat, Int.reduceNeg, Int.cast_ofNat_Int, Int.reduceNatCast, Int.reduceNatCast', Int.zero_add, Int.add_zero, Nat.zero_add, Nat.add_zero, and_self, decide_true, decide_false, true_or, or_true, or_false, false_or, eq_self, Int.toNat_natCast, b2_e0, b2_e1, b2_ok, b2_w, b2_v, b2_tt, b2_ff, Bool.true_eq_false, Bool.false_eq_true, Option.some.injEq, Int.one_mul, Int.mul_one, not_true_eq_false, not_false_eq_true, ite_not, decide_eq_false_iff_not, decide_eq_true_eq, Int.reduceMul, Int.reduceMod]
   intro ho hs ls H locs hl hH hS
   obtain ⟨P', PX', hT', hk, hkx⟩ := hex
   obtain ⟨fs, hfc⟩ := hob
   refine pmx_rule (d := 9) (R := pm_rmx 9) (as := [.inr (.inl (some c)), .inl u1]) (r := [.inl 0, .inr (.inl (some o))]) (Nat.le_refl _) (Nat.le_refl _) (Nat.le_refl _) (Nat.le_refl _) hx hb hml hown hts hK hSt (wk_fail l sk hlt) dL_fail_4 rfl (Or.inr ⟨c, fs, _, rfl, hfc⟩) (Nat.le_of_ble_eq_true rfl) hT' (fun v hv => hok v (by simp at hv ⊢; rcases hv with rfl | rfl <;> simp [*])) hl.1 hH hS ?_ ?_
   · intro v f' H' locs' hp hok' hH' hS'
     obtain ⟨z, g, rfl, hg, hP⟩ := hk v f' hp
     have hz : pm_ok (.inl z) := hok' (.inl z) (by simp)
     have seg : pm_XW p l e (pm_rmx 9) s m (List.map pm_cv [.inr (.inl (some c)), .inl u1, .inr (.inl (some o))]).toArray below meth cd 0 0 (vx_MQ below (pm_Qc G cI cJ cR P f) (fun _ _ _ => False) (List.map pm_cv [.inr (.inl (some c)), .inl u1, .inr (.inl (some o))]).toArray s 1 6 (pm_dom f)) G vwCl cI cJ cR (pm_dom f) 4 7 [some (.inr (.inl (some c))), some (.inl u1), some (.inr (.inl (some o))), none] [.inl z, .inl 0, .inr (.inl (some o))] f' := by
       refine sg_on eL_fail [] 60 step ?_
       set_option maxRecDepth 100000 in simp (maxSteps := 2000000) only [pm_x_run, pm_x_rt, pm_x_rf, pm_z_S, pm_z_D, pm_z_cut0, pm_z_cut1, pm_z_cli, pm_z_clr, pm_z_cln, pm_z_cll, pm_z_up, pm_x_aload0, pm_x_aload2, pm_x_astore3, pm_x_c, pm_x_c2, pm_x_cn0, pm_x_cn1, pm_x_goto, pm_x_iload1, pm_x_invv, pm_x_last, pm_x_lst, pm_x_v0, pm_x_v1, pm_x_x2, pm_z_cat0, pm_z_cati, pm_z_catl, pm_z_catr, pm_z_i2l, pm_z_iconst, pm_z_pop0, pm_z_pop1, zL_fail_B, zL_fail_F, zL_fail_R, pm_z_ireti (zL_fail_R), dL_fail_0, dL_fail_1, dL_fail_2, dL_fail_3, dL_fail_4, dL_fail_7, dL_fail_8, dL_fail_9, dL_fail_12, dL_fail_13, dL_fail_14, dL_fail_15, dL_fail_16, Bool.cond_true, Bool.cond_false, Bool.or_false, Bool.false_or, Bool.true_or, Bool.or_true, true_and, and_true, if_true, if_false, List.length_cons, List.length_nil, List.getElem?_cons_zero, List.getElem?_cons_succ, List.set_cons_zero, List.set_cons_succ, Option.toList_some, Option.toList_none, List.cons_append, List.nil_append, beq_self_eq_true, Option.isSome_some, Option.isSome_none, pm_tg_lit, ite_true, ite_false, Nat.reduceAdd, Nat.reduceBEq, Nat.reduceLT, Nat.reduceLeDiff, Nat.reduceEqDiff, Int.reduceAdd, Int.reduceSub, Int.reduceLE, Int.reduceLT, Int.reduceEq, Int.reduceToNat, Int.reduceNeg, Int.cast_ofNat_Int, Int.reduceNatCast, Int.reduceNatCast', Int.zero_add, Int.add_zero, Nat.zero_add, Nat.add_zero, and_self, decide_true, decide_false, true_or, or_true, or_false, false_or, eq_self, Int.toNat_natCast, b2_e0, b2_e1, b2_ok, b2_w, b2_v, b2_tt, b2_ff, Bool.true_eq_false, Bool.false_eq_true, Option.some.injEq, Int.one_mul, Int.mul_one, not_true_eq_false, not_false_eq_true, ite_not, decide_eq_false_iff_not, decide_eq_true_eq, Int.reduceMul, Int.reduceMod, hg]
       exact hP
     exact seg ho (fun v hv => by simp at hv; rcases hv with rfl | rfl | rfl; exact hz; exact pm_in0; trivial) ls H' locs' hl hH' hS'
   · intro x f' H' locs' q9 ce hp hH' hS' hcell hcv hcl
     obtain ⟨n, hn, hPn⟩ := hkx x f' hp
     · skip
       rw [List.mem_singleton, Prod.mk.injEq] at hn
       obtain ⟨rfl, rfl⟩ := hn
       refine vx_catch (name := "java/lang/IllegalStateException") hown [] ⟨0, 9, 12, 23⟩ [] htab (fun z hz => by cases hz) (by decide) (by decide) (ok _ (ps_in (by decide +kernel))) (va_Nw.use rfl (hK.2 _ (List.mem_filter.mpr ⟨List.contains_iff_mem.mp (by decide +kernel), rfl⟩))) hcell hcv hcl ?_
       refine lv_astore_n hx hb dL_fail_12 rfl (pm_Lr_has hl) (by decide) rfl fun ls' hl' => ?_
       refine lv_iconst hx hb dL_fail_13 rfl ?_
       exact vx_ret (W.iret hx hb hr (fun t ht _ => ⟨⟨some (.inl 1), f', rfl, hPn, fun w hw => by simp at hw; subst hw; unfold pm_ok pm_in; omega, by rw [ht]; exact hH'⟩, hS'.F ht⟩) hS'.2.2 dL_fail_14)
  have hin : pm_init 4 [.inr (.inl (some c)), .inl u1, .inr (.inl (some o))] = [some (.inr (.inl (some c))), some (.inl u1), some (.inr (.inl (some o))), none] := by simp [pm_init, pm_put]
  rw [lg_entry_eq]
  rw [← hin] at seg0
  exact seg0 (fun i v hv => pm_put_ok [.inr (.inl (some c)), .inl u1, .inr (.inl (some o))] hok i v (pm_lg_app (pm_put [.inr (.inl (some c)), .inl u1, .inr (.inl (some o))]) _ i v hv)) (fun v hv => by cases hv) _ s.heap [] (pm_entry (as := [.inr (.inl (some c)), .inl u1, .inr (.inl (some o))]) (Nat.le_of_ble_eq_true rfl)) hH0 va_S.rf
def eL_undo : pm_E := (cL_undo, f0, fun _ => none, fun _ => none, fun _ => none, fun _ => none, some .int)
theorem zL_undo_B : pm_eB eL_undo = cL_undo := rfl
theorem zL_undo_F : pm_eF eL_undo = f0 := rfl
theorem zL_undo_R : pm_eR eL_undo = some .int := rfl
theorem wk_undo (l : Launch) (sk : Nat → Nat) (hlt : l.stackTraces = false) : pmx_COK l sk RL 4 40 1 (some 4) T_X4_undo := px_cok (i := 4) (Ct_X4_undo l sk hlt) ykX4_undo (by decide) (by decide) rfl rfl (by decide) (by decide +kernel) (pm_WS_mem 888 (by decide +kernel) rfl)
set_option maxHeartbeats 4000000 in
set_option maxRecDepth 20000 in
theorem wc_undo (l : Launch) (sk : Nat → Nat) (hlt : l.stackTraces = false) (sv : Nat → Nat) (G : va_G) (cI cJ : ClassId) (cR : Nat → ClassId) {c o : Nat}  {f : pm_H} {P : pm_P} (hob : ∃ fs, f c = some (.inr (.inr (.inr (4, fs))))) (hex : wT T_X4_undo cvI [("java/lang/IllegalStateException", 1)] [.inr (.inl (some c))] o f P) (hok : ∀ v ∈ ([.inr (.inl (some c)), .inr (.inl (some o))] : List pm_V), pm_ok v) : vx_Met l yL_undo (.codeWith yL_undo cL_undo 3 (some .int) [(0, 8, 11, 23)] :: pm_WS) (pm_rmx 4) (pw_Pc sk sv G cI cJ cR [.inr (.inl (some c)), .inr (.inl (some o))] f) (pm_Qc G cI cJ cR P f) (fun _ _ _ => False) 1 6 (pm_dom f) := by
  refine vx_ofWH (cc := cL_undo) (maxL := 3) (ret := some .int) (hh := [(0, 8, 11, 23)]) (by decide) rfl ?_
  intro p e s m args below meth cd s₁ B hml hv
  obtain ⟨⟨rfl, hHd, hK, hSt⟩, hNC⟩ := hv
  have hx := B.exec
  have hb : cd.code = cL_undo := B.bytes
  have hr := B.returns
  have hlocks := B.notSynchronized
  have hts := atoms_spec (ws := .codeWith yL_undo cL_undo 3 (some .int) [(0, 8, 11, 23)] :: pm_WS) B.pre
  have ok : ∀ w ∈ pm_WS, w.before _ s = true := fun w hw => hts w (List.mem_cons_of_mem _ hw)
  have hown : s.vm.findClass RL = some m.cls := findClass_of_methodNamed B.named
  have htab : cd.exceptionTable.toList = tableOf [(0, 8, 11, 23)] := vx_table (x := yL_undo) B (hts _ List.mem_cons_self)
  have hH0 : pm_Hd G vwCl cI cJ cR (pm_dom f) f s.heap := fun a c0 hc => ⟨(hHd a c0 hc).1, ⟨c0, hc⟩, (hHd a c0 hc).2.2⟩
  have step := fun (pc : Nat) (lv : pm_L) (st : List pm_V) (f0 : pm_H) (h : pm_S eL_undo P (fun _ _ => False) (pm_XW p l e (pm_rmx 4) s m _ below meth cd 0 0 (vx_MQ below (pm_Qc G cI cJ cR P f) (fun _ _ _ => False) _ s 1 6 (pm_dom f)) G vwCl cI cJ cR (pm_dom f) 3) pc lv st f0) => sg_S (d := 0) (sk := sk) (sv := sv) (own := RL) eL_undo (Nat.zero_le _) (Nat.zero_le _) (Nat.zero_le _) (Nat.zero_le _) hx hb hml hown hts hK hSt (fun _ => rfl) (fun _ => rfl) (fun _ => rfl) (fun _ => rfl) (Or.inl rfl) (fun n k ci T h => by cases h) (fun pc z f1 ls H locs h1 _ hz hp h3 hS => W.widen (k := 1) (n := 6) (Nat.zero_le _) (Nat.zero_le _) (vx_ret (W.iret hx hb hr (fun t ht _ => ⟨⟨some (.inl z), f1, rfl, hp, fun w hw => by simp at hw; subst hw; exact hz, by rw [ht]; exact h3⟩, hS.F ht⟩) hS.2.2 h1))) h
  have seg0 : pm_XW p l e (pm_rmx 4) s m (List.map pm_cv [.inr (.inl (some c)), .inr (.inl (some o))]).toArray below meth cd 0 0 (vx_MQ below (pm_Qc G cI cJ cR P f) (fun _ _ _ => False) (List.map pm_cv [.inr (.inl (some c)), .inr (.inl (some o))]).toArray s 1 6 (pm_dom f)) G vwCl cI cJ cR (pm_dom f) 3 0 [some (.inr (.inl (some c))), some (.inr (.inl (some o))), none] [] f := by
   refine sg_on eL_undo [3] 60 step ?_
   set_option maxRecDepth 100000 in simp (maxSteps := 2000000) only [pm_x_run, pm_x_rt, pm_x_rf, pm_z_S, pm_z_D, pm_z_cut0, pm_z_cut1, pm_z_cli, pm_z_clr, pm_z_cln, pm_z_cll, pm_z_up, pm_x_aload0, pm_x_aload1, pm_x_astore2, pm_x_c, pm_x_c2, pm_x_cn0, pm_x_cn1, pm_x_goto, pm_x_invv, pm_x_last, pm_x_lst, pm_x_v0, pm_x_v1, pm_x_x2, pm_z_cat0, pm_z_cati, pm_z_catl, pm_z_catr, pm_z_i2l, pm_z_iconst, pm_z_pop0, pm_z_pop1, zL_undo_B, zL_undo_F, zL_undo_R, pm_z_ireti (zL_undo_R), dL_undo_0, dL_undo_1, dL_undo_2, dL_undo_3, dL_undo_6, dL_undo_7, dL_undo_8, dL_undo_11, dL_undo_12, dL_undo_13, dL_undo_14, dL_undo_15, Bool.cond_true, Bool.cond_false, Bool.or_false, Bool.false_or, Bool.true_or, Bool.or_true, true_and, and_true, if_true, if_false, List.length_cons, List.length_nil, List.getElem?_cons_zero, List.getElem?_cons_succ, List.set_cons_zero, List.set_cons_succ, Option.toList_some, Option.toList_none, List.cons_append, List.nil_append, beq_self_eq_true, Option.isSome_some, Option.isSome_none, pm_tg_lit, ite_true, ite_false, Nat.reduceAdd, Nat.reduceBEq, Nat.reduceLT, Nat.reduceLeDiff, Nat.reduceEqDiff, Int.reduceAdd, Int.reduceSub, Int.reduceLE, Int.reduceLT, Int.reduceEq, Int.reduceToNat, Int.reduceNeg, Int.cast_ofNat_Int, Int.reduceNatCast, Int.reduceNatCast', Int.zero_add, Int.add_zero, Nat.zero_add, Nat.add_zero, and_self, decide_true, decide_false, true_or, or_true, or_false, false_or, eq_self, Int.toNat_natCast, b2_e0, b2_e1, b2_ok, b2_w, b2_v, b2_tt, b2_ff, Bool.true_eq_false, Bool.false_eq_true, Option.some.injEq, Int.one_mul, Int.mul_one, not_true_eq_false, not_false_eq_true, ite_not, decide_eq_false_iff_not, decide_eq_true_eq, Int.reduceMul, Int.reduceMod]
   intro ho hs ls H locs hl hH hS
   obtain ⟨P', PX', hT', hk, hkx⟩ := hex
   obtain ⟨fs, hfc⟩ := hob
   refine pmx_rule (d := 4) (R := pm_rmx 4) (as := [.inr (.inl (some c))]) (r := [.inl 0, .inr (.inl (some o))]) (Nat.le_refl _) (Nat.le_refl _) (Nat.le_refl _) (Nat.le_refl _) hx hb hml hown hts hK hSt (wk_undo l sk hlt) dL_undo_3 rfl (Or.inr ⟨c, fs, _, rfl, hfc⟩) (Nat.le_of_ble_eq_true rfl) hT' (fun v hv => hok v (by simp at hv ⊢; rcases hv with rfl <;> simp [*])) hl.1 hH hS ?_ ?_
   · intro v f' H' locs' hp hok' hH' hS'
     obtain ⟨z, g, rfl, hg, hP⟩ := hk v f' hp
     have hz : pm_ok (.inl z) := hok' (.inl z) (by simp)
     have seg : pm_XW p l e (pm_rmx 4) s m (List.map pm_cv [.inr (.inl (some c)), .inr (.inl (some o))]).toArray below meth cd 0 0 (vx_MQ below (pm_Qc G cI cJ cR P f) (fun _ _ _ => False) (List.map pm_cv [.inr (.inl (some c)), .inr (.inl (some o))]).toArray s 1 6 (pm_dom f)) G vwCl cI cJ cR (pm_dom f) 3 6 [some (.inr (.inl (some c))), some (.inr (.inl (some o))), none] [.inl z, .inl 0, .inr (.inl (some o))] f' := by
       refine sg_on eL_undo [] 60 step ?_
       set_option maxRecDepth 100000 in simp (maxSteps := 2000000) only [pm_x_run, pm_x_rt, pm_x_rf, pm_z_S, pm_z_D, pm_z_cut0, pm_z_cut1, pm_z_cli, pm_z_clr, pm_z_cln, pm_z_cll, pm_z_up, pm_x_aload0, pm_x_aload1, pm_x_astore2, pm_x_c, pm_x_c2, pm_x_cn0, pm_x_cn1, pm_x_goto, pm_x_invv, pm_x_last, pm_x_lst, pm_x_v0, pm_x_v1, pm_x_x2, pm_z_cat0, pm_z_cati, pm_z_catl, pm_z_catr, pm_z_i2l, pm_z_iconst, pm_z_pop0, pm_z_pop1, zL_undo_B, zL_undo_F, zL_undo_R, pm_z_ireti (zL_undo_R), dL_undo_0, dL_undo_1, dL_undo_2, dL_undo_3, dL_undo_6, dL_undo_7, dL_undo_8, dL_undo_11, dL_undo_12, dL_undo_13, dL_undo_14, dL_undo_15, Bool.cond_true, Bool.cond_false, Bool.or_false, Bool.false_or, Bool.true_or, Bool.or_true, true_and, and_true, if_true, if_false, List.length_cons, List.length_nil, List.getElem?_cons_zero, List.getElem?_cons_succ, List.set_cons_zero, List.set_cons_succ, Option.toList_some, Option.toList_none, List.cons_append, List.nil_append, beq_self_eq_true, Option.isSome_some, Option.isSome_none, pm_tg_lit, ite_true, ite_false, Nat.reduceAdd, Nat.reduceBEq, Nat.reduceLT, Nat.reduceLeDiff, Nat.reduceEqDiff, Int.reduceAdd, Int.reduceSub, Int.reduceLE, Int.reduceLT, Int.reduceEq, Int.reduceToNat, Int.reduceNeg, Int.cast_ofNat_Int, Int.reduceNatCast, Int.reduceNatCast', Int.zero_add, Int.add_zero, Nat.zero_add, Nat.add_zero, and_self, decide_true, decide_false, true_or, or_true, or_false, false_or, eq_self, Int.toNat_natCast, b2_e0, b2_e1, b2_ok, b2_w, b2_v, b2_tt, b2_ff, Bool.true_eq_false, Bool.false_eq_true, Option.some.injEq, Int.one_mul, Int.mul_one, not_true_eq_false, not_false_eq_true, ite_not, decide_eq_false_iff_not, decide_eq_true_eq, Int.reduceMul, Int.reduceMod, hg]
       exact hP
     exact seg ho (fun v hv => by simp at hv; rcases hv with rfl | rfl | rfl; exact hz; exact pm_in0; trivial) ls H' locs' hl hH' hS'
   · intro x f' H' locs' q9 ce hp hH' hS' hcell hcv hcl
     obtain ⟨n, hn, hPn⟩ := hkx x f' hp
     · skip
       rw [List.mem_singleton, Prod.mk.injEq] at hn
       obtain ⟨rfl, rfl⟩ := hn
       refine vx_catch (name := "java/lang/IllegalStateException") hown [] ⟨0, 8, 11, 23⟩ [] htab (fun z hz => by cases hz) (by decide) (by decide) (ok _ (ps_in (by decide +kernel))) (va_Nw.use rfl (hK.2 _ (List.mem_filter.mpr ⟨List.contains_iff_mem.mp (by decide +kernel), rfl⟩))) hcell hcv hcl ?_
       refine lv_astore_n hx hb dL_undo_11 rfl (pm_Lr_has hl) (by decide) rfl fun ls' hl' => ?_
       refine lv_iconst hx hb dL_undo_12 rfl ?_
       exact vx_ret (W.iret hx hb hr (fun t ht _ => ⟨⟨some (.inl 1), f', rfl, hPn, fun w hw => by simp at hw; subst hw; unfold pm_ok pm_in; omega, by rw [ht]; exact hH'⟩, hS'.F ht⟩) hS'.2.2 dL_undo_13)
  have hin : pm_init 3 [.inr (.inl (some c)), .inr (.inl (some o))] = [some (.inr (.inl (some c))), some (.inr (.inl (some o))), none] := by simp [pm_init, pm_put]
  rw [lg_entry_eq]
  rw [← hin] at seg0
  exact seg0 (fun i v hv => pm_put_ok [.inr (.inl (some c)), .inr (.inl (some o))] hok i v (pm_lg_app (pm_put [.inr (.inl (some c)), .inr (.inl (some o))]) _ i v hv)) (fun v hv => by cases hv) _ s.heap [] (pm_entry (as := [.inr (.inl (some c)), .inr (.inl (some o))]) (Nat.le_of_ble_eq_true rfl)) hH0 va_S.rf
def eL_connected : pm_E := (cL_connected, f0, fun _ => none, fun _ => none, fun _ => none, fun _ => none, some .int)
theorem zL_connected_B : pm_eB eL_connected = cL_connected := rfl
theorem zL_connected_F : pm_eF eL_connected = f0 := rfl
theorem zL_connected_R : pm_eR eL_connected = some .int := rfl
theorem wk_connected (l : Launch) (sk : Nat → Nat) (hlt : l.stackTraces = false) : pmx_COK l sk RL 4 43 3 (some 4) T_X4_connected := px_cok (i := 4) (Ct_X4_connected l sk hlt) ykX4_connected (by decide) (by decide) rfl rfl (by decide) (by decide +kernel) (pm_WS_mem 897 (by decide +kernel) rfl)
set_option maxHeartbeats 4000000 in
set_option maxRecDepth 20000 in
theorem wc_connected (l : Launch) (sk : Nat → Nat) (hlt : l.stackTraces = false) (sv : Nat → Nat) (G : va_G) (cI cJ : ClassId) (cR : Nat → ClassId) {c o : Nat} {u1 : Int} {u2 : Int} {f : pm_H} {P : pm_P} (hob : ∃ fs, f c = some (.inr (.inr (.inr (4, fs))))) (hex : wT T_X4_connected cvB [("java/lang/IndexOutOfBoundsException", 1)] [.inr (.inl (some c)), .inl u1, .inl u2] o f P) (hok : ∀ v ∈ ([.inr (.inl (some c)), .inl u1, .inl u2, .inr (.inl (some o))] : List pm_V), pm_ok v) : vx_Met l yL_connected (.codeWith yL_connected cL_connected 5 (some .int) [(0, 17, 20, 47)] :: pm_WS) (pm_rmx 4) (pw_Pc sk sv G cI cJ cR [.inr (.inl (some c)), .inl u1, .inl u2, .inr (.inl (some o))] f) (pm_Qc G cI cJ cR P f) (fun _ _ _ => False) 1 6 (pm_dom f) := by
  refine vx_ofWH (cc := cL_connected) (maxL := 5) (ret := some .int) (hh := [(0, 17, 20, 47)]) (by decide) rfl ?_
  intro p e s m args below meth cd s₁ B hml hv
  obtain ⟨⟨rfl, hHd, hK, hSt⟩, hNC⟩ := hv
  have hx := B.exec
  have hb : cd.code = cL_connected := B.bytes
  have hr := B.returns
  have hlocks := B.notSynchronized
  have hts := atoms_spec (ws := .codeWith yL_connected cL_connected 5 (some .int) [(0, 17, 20, 47)] :: pm_WS) B.pre
  have ok : ∀ w ∈ pm_WS, w.before _ s = true := fun w hw => hts w (List.mem_cons_of_mem _ hw)
  have hown : s.vm.findClass RL = some m.cls := findClass_of_methodNamed B.named
  have htab : cd.exceptionTable.toList = tableOf [(0, 17, 20, 47)] := vx_table (x := yL_connected) B (hts _ List.mem_cons_self)
  have hH0 : pm_Hd G vwCl cI cJ cR (pm_dom f) f s.heap := fun a c0 hc => ⟨(hHd a c0 hc).1, ⟨c0, hc⟩, (hHd a c0 hc).2.2⟩
  have step := fun (pc : Nat) (lv : pm_L) (st : List pm_V) (f0 : pm_H) (h : pm_S eL_connected P (fun _ _ => False) (pm_XW p l e (pm_rmx 4) s m _ below meth cd 0 0 (vx_MQ below (pm_Qc G cI cJ cR P f) (fun _ _ _ => False) _ s 1 6 (pm_dom f)) G vwCl cI cJ cR (pm_dom f) 5) pc lv st f0) => sg_S (d := 0) (sk := sk) (sv := sv) (own := RL) eL_connected (Nat.zero_le _) (Nat.zero_le _) (Nat.zero_le _) (Nat.zero_le _) hx hb hml hown hts hK hSt (fun _ => rfl) (fun _ => rfl) (fun _ => rfl) (fun _ => rfl) (Or.inl rfl) (fun n k ci T h => by cases h) (fun pc z f1 ls H locs h1 _ hz hp h3 hS => W.widen (k := 1) (n := 6) (Nat.zero_le _) (Nat.zero_le _) (vx_ret (W.iret hx hb hr (fun t ht _ => ⟨⟨some (.inl z), f1, rfl, hp, fun w hw => by simp at hw; subst hw; exact hz, by rw [ht]; exact h3⟩, hS.F ht⟩) hS.2.2 h1))) h
  have seg0 : pm_XW p l e (pm_rmx 4) s m (List.map pm_cv [.inr (.inl (some c)), .inl u1, .inl u2, .inr (.inl (some o))]).toArray below meth cd 0 0 (vx_MQ below (pm_Qc G cI cJ cR P f) (fun _ _ _ => False) (List.map pm_cv [.inr (.inl (some c)), .inl u1, .inl u2, .inr (.inl (some o))]).toArray s 1 6 (pm_dom f)) G vwCl cI cJ cR (pm_dom f) 5 0 [some (.inr (.inl (some c))), some (.inl u1), some (.inl u2), some (.inr (.inl (some o))), none] [] f := by
   refine sg_on eL_connected [5] 60 step ?_
   set_option maxRecDepth 100000 in simp (maxSteps := 2000000) only [pm_x_run, pm_x_rt, pm_x_rf, pm_z_S, pm_z_D, pm_z_cut0, pm_z_cut1, pm_z_cli, pm_z_clr, pm_z_cln, pm_z_cll, pm_z_up, pm_x_aload0, pm_x_aload3, pm_x_astore4, pm_x_c, pm_x_c2, pm_x_cn0, pm_x_cn1, pm_x_goto, pm_x_if_eq, pm_x_iload1, pm_x_iload2, pm_x_invv, pm_x_last, pm_x_lst, pm_x_v0, pm_x_v1, pm_x_x2, pm_z_cat0, pm_z_cati, pm_z_catl, pm_z_catr, pm_z_iconst, pm_z_lconst0, pm_z_lconst1, pm_z_pop0, pm_z_pop1, zL_connected_B, zL_connected_F, zL_connected_R, pm_z_ireti (zL_connected_R), dL_connected_0, dL_connected_1, dL_connected_2, dL_connected_3, dL_connected_4, dL_connected_5, dL_connected_8, dL_connected_11, dL_connected_12, dL_connected_15, dL_connected_16, dL_connected_17, dL_connected_20, dL_connected_22, dL_connected_23, dL_connected_24, dL_connected_25, Bool.cond_true, Bool.cond_false, Bool.or_false, Bool.false_or, Bool.true_or, Bool.or_true, true_and, and_true, if_true, if_false, List.length_cons, List.length_nil, List.getElem?_cons_zero, List.getElem?_cons_succ, List.set_cons_zero, List.set_cons_succ, Option.toList_some, Option.toList_none, List.cons_append, List.nil_append, beq_self_eq_true, Option.isSome_some, Option.isSome_none, pm_tg_lit, ite_true, ite_false, Nat.reduceAdd, Nat.reduceBEq, Nat.reduceLT, Nat.reduceLeDiff, Nat.reduceEqDiff, Int.reduceAdd, Int.reduceSub, Int.reduceLE, Int.reduceLT, Int.reduceEq, Int.reduceToNat, Int.reduceNeg, Int.cast_ofNat_Int, Int.reduceNatCast, Int.reduceNatCast', Int.zero_add, Int.add_zero, Nat.zero_add, Nat.add_zero, and_self, decide_true, decide_false, true_or, or_true, or_false, false_or, eq_self, Int.toNat_natCast, b2_e0, b2_e1, b2_ok, b2_w, b2_v, b2_tt, b2_ff, Bool.true_eq_false, Bool.false_eq_true, Option.some.injEq, Int.one_mul, Int.mul_one, not_true_eq_false, not_false_eq_true, ite_not, decide_eq_false_iff_not, decide_eq_true_eq, Int.reduceMul, Int.reduceMod]
   intro ho hs ls H locs hl hH hS
   obtain ⟨P', PX', hT', hk, hkx⟩ := hex
   obtain ⟨fs, hfc⟩ := hob
   refine pmx_rule (d := 4) (R := pm_rmx 4) (as := [.inr (.inl (some c)), .inl u1, .inl u2]) (r := [.inl 0, .inr (.inl (some o))]) (Nat.le_refl _) (Nat.le_refl _) (Nat.le_refl _) (Nat.le_refl _) hx hb hml hown hts hK hSt (wk_connected l sk hlt) dL_connected_5 rfl (Or.inr ⟨c, fs, _, rfl, hfc⟩) (Nat.le_of_ble_eq_true rfl) hT' (fun v hv => hok v (by simp at hv ⊢; rcases hv with rfl | rfl | rfl <;> simp [*])) hl.1 hH hS ?_ ?_
   · intro v f' H' locs' hp hok' hH' hS'
     obtain ⟨z, g, rfl, hg, hP⟩ := hk v f' hp
     have hz : pm_ok (.inl z) := hok' (.inl z) (by simp)
     have seg : pm_XW p l e (pm_rmx 4) s m (List.map pm_cv [.inr (.inl (some c)), .inl u1, .inl u2, .inr (.inl (some o))]).toArray below meth cd 0 0 (vx_MQ below (pm_Qc G cI cJ cR P f) (fun _ _ _ => False) (List.map pm_cv [.inr (.inl (some c)), .inl u1, .inl u2, .inr (.inl (some o))]).toArray s 1 6 (pm_dom f)) G vwCl cI cJ cR (pm_dom f) 5 8 [some (.inr (.inl (some c))), some (.inl u1), some (.inl u2), some (.inr (.inl (some o))), none] [.inl z, .inl 0, .inr (.inl (some o))] f' := by
       refine sg_on eL_connected [] 60 step ?_
       by_cases z0 : z = 0
       · have ec : cvB z = Int64.ofNat 0 := by unfold cvB; rw [if_pos z0]
         rw [ec] at hP
         set_option maxRecDepth 100000 in simp (maxSteps := 2000000) only [pm_x_run, pm_x_rt, pm_x_rf, pm_z_S, pm_z_D, pm_z_cut0, pm_z_cut1, pm_z_cli, pm_z_clr, pm_z_cln, pm_z_cll, pm_z_up, pm_x_aload0, pm_x_aload3, pm_x_astore4, pm_x_c, pm_x_c2, pm_x_cn0, pm_x_cn1, pm_x_goto, pm_x_if_eq, pm_x_iload1, pm_x_iload2, pm_x_invv, pm_x_last, pm_x_lst, pm_x_v0, pm_x_v1, pm_x_x2, pm_z_cat0, pm_z_cati, pm_z_catl, pm_z_catr, pm_z_iconst, pm_z_lconst0, pm_z_lconst1, pm_z_pop0, pm_z_pop1, zL_connected_B, zL_connected_F, zL_connected_R, pm_z_ireti (zL_connected_R), dL_connected_0, dL_connected_1, dL_connected_2, dL_connected_3, dL_connected_4, dL_connected_5, dL_connected_8, dL_connected_11, dL_connected_12, dL_connected_15, dL_connected_16, dL_connected_17, dL_connected_20, dL_connected_22, dL_connected_23, dL_connected_24, dL_connected_25, Bool.cond_true, Bool.cond_false, Bool.or_false, Bool.false_or, Bool.true_or, Bool.or_true, true_and, and_true, if_true, if_false, List.length_cons, List.length_nil, List.getElem?_cons_zero, List.getElem?_cons_succ, List.set_cons_zero, List.set_cons_succ, Option.toList_some, Option.toList_none, List.cons_append, List.nil_append, beq_self_eq_true, Option.isSome_some, Option.isSome_none, pm_tg_lit, ite_true, ite_false, Nat.reduceAdd, Nat.reduceBEq, Nat.reduceLT, Nat.reduceLeDiff, Nat.reduceEqDiff, Int.reduceAdd, Int.reduceSub, Int.reduceLE, Int.reduceLT, Int.reduceEq, Int.reduceToNat, Int.reduceNeg, Int.cast_ofNat_Int, Int.reduceNatCast, Int.reduceNatCast', Int.zero_add, Int.add_zero, Nat.zero_add, Nat.add_zero, and_self, decide_true, decide_false, true_or, or_true, or_false, false_or, eq_self, Int.toNat_natCast, b2_e0, b2_e1, b2_ok, b2_w, b2_v, b2_tt, b2_ff, Bool.true_eq_false, Bool.false_eq_true, Option.some.injEq, Int.one_mul, Int.mul_one, not_true_eq_false, not_false_eq_true, ite_not, decide_eq_false_iff_not, decide_eq_true_eq, Int.reduceMul, Int.reduceMod, hg, z0]
         exact hP
       · have ec : cvB z = Int64.ofNat 1 := by unfold cvB; rw [if_neg z0]
         rw [ec] at hP
         set_option maxRecDepth 100000 in simp (maxSteps := 2000000) only [pm_x_run, pm_x_rt, pm_x_rf, pm_z_S, pm_z_D, pm_z_cut0, pm_z_cut1, pm_z_cli, pm_z_clr, pm_z_cln, pm_z_cll, pm_z_up, pm_x_aload0, pm_x_aload3, pm_x_astore4, pm_x_c, pm_x_c2, pm_x_cn0, pm_x_cn1, pm_x_goto, pm_x_if_eq, pm_x_iload1, pm_x_iload2, pm_x_invv, pm_x_last, pm_x_lst, pm_x_v0, pm_x_v1, pm_x_x2, pm_z_cat0, pm_z_cati, pm_z_catl, pm_z_catr, pm_z_iconst, pm_z_lconst0, pm_z_lconst1, pm_z_pop0, pm_z_pop1, zL_connected_B, zL_connected_F, zL_connected_R, pm_z_ireti (zL_connected_R), dL_connected_0, dL_connected_1, dL_connected_2, dL_connected_3, dL_connected_4, dL_connected_5, dL_connected_8, dL_connected_11, dL_connected_12, dL_connected_15, dL_connected_16, dL_connected_17, dL_connected_20, dL_connected_22, dL_connected_23, dL_connected_24, dL_connected_25, Bool.cond_true, Bool.cond_false, Bool.or_false, Bool.false_or, Bool.true_or, Bool.or_true, true_and, and_true, if_true, if_false, List.length_cons, List.length_nil, List.getElem?_cons_zero, List.getElem?_cons_succ, List.set_cons_zero, List.set_cons_succ, Option.toList_some, Option.toList_none, List.cons_append, List.nil_append, beq_self_eq_true, Option.isSome_some, Option.isSome_none, pm_tg_lit, ite_true, ite_false, Nat.reduceAdd, Nat.reduceBEq, Nat.reduceLT, Nat.reduceLeDiff, Nat.reduceEqDiff, Int.reduceAdd, Int.reduceSub, Int.reduceLE, Int.reduceLT, Int.reduceEq, Int.reduceToNat, Int.reduceNeg, Int.cast_ofNat_Int, Int.reduceNatCast, Int.reduceNatCast', Int.zero_add, Int.add_zero, Nat.zero_add, Nat.add_zero, and_self, decide_true, decide_false, true_or, or_true, or_false, false_or, eq_self, Int.toNat_natCast, b2_e0, b2_e1, b2_ok, b2_w, b2_v, b2_tt, b2_ff, Bool.true_eq_false, Bool.false_eq_true, Option.some.injEq, Int.one_mul, Int.mul_one, not_true_eq_false, not_false_eq_true, ite_not, decide_eq_false_iff_not, decide_eq_true_eq, Int.reduceMul, Int.reduceMod, hg, z0]
         exact hP
     exact seg ho (fun v hv => by simp at hv; rcases hv with rfl | rfl | rfl; exact hz; exact pm_in0; trivial) ls H' locs' hl hH' hS'
   · intro x f' H' locs' q9 ce hp hH' hS' hcell hcv hcl
     obtain ⟨n, hn, hPn⟩ := hkx x f' hp
     · skip
       rw [List.mem_singleton, Prod.mk.injEq] at hn
       obtain ⟨rfl, rfl⟩ := hn
       refine vx_catch (name := "java/lang/IndexOutOfBoundsException") hown [] ⟨0, 17, 20, 47⟩ [] htab (fun z hz => by cases hz) (by decide) (by decide) (ok _ (ps_in (by decide +kernel))) (va_Nw.use rfl (hK.2 _ (List.mem_filter.mpr ⟨List.contains_iff_mem.mp (by decide +kernel), rfl⟩))) hcell hcv hcl ?_
       refine lv_astore hx hb dL_connected_20 (pm_Lr_has hl) (by decide) rfl fun ls' hl' => ?_
       refine lv_iconst hx hb dL_connected_22 rfl ?_
       exact vx_ret (W.iret hx hb hr (fun t ht _ => ⟨⟨some (.inl 1), f', rfl, hPn, fun w hw => by simp at hw; subst hw; unfold pm_ok pm_in; omega, by rw [ht]; exact hH'⟩, hS'.F ht⟩) hS'.2.2 dL_connected_23)
  have hin : pm_init 5 [.inr (.inl (some c)), .inl u1, .inl u2, .inr (.inl (some o))] = [some (.inr (.inl (some c))), some (.inl u1), some (.inl u2), some (.inr (.inl (some o))), none] := by simp [pm_init, pm_put]
  rw [lg_entry_eq]
  rw [← hin] at seg0
  exact seg0 (fun i v hv => pm_put_ok [.inr (.inl (some c)), .inl u1, .inl u2, .inr (.inl (some o))] hok i v (pm_lg_app (pm_put [.inr (.inl (some c)), .inl u1, .inl u2, .inr (.inl (some o))]) _ i v hv)) (fun v hv => by cases hv) _ s.heap [] (pm_entry (as := [.inr (.inl (some c)), .inl u1, .inl u2, .inr (.inl (some o))]) (Nat.le_of_ble_eq_true rfl)) hH0 va_S.rf
def eL_node : pm_E := (cL_node, f0, fun _ => none, fun _ => none, fun _ => none, fun _ => none, some .int)
theorem zL_node_B : pm_eB eL_node = cL_node := rfl
theorem zL_node_F : pm_eF eL_node = f0 := rfl
theorem zL_node_R : pm_eR eL_node = some .int := rfl
theorem wk_node (l : Launch) (sk : Nat → Nat) (hlt : l.stackTraces = false) : pmx_COK l sk RL 6 49 3 (some 4) T_X4_node := px_cok (i := 4) (Ct_X4_node l sk hlt) ykX4_node (by decide) (by decide) rfl rfl (by decide) (by decide +kernel) (pm_WS_mem 928 (by decide +kernel) rfl)
set_option maxHeartbeats 4000000 in
set_option maxRecDepth 20000 in
theorem wc_node (l : Launch) (sk : Nat → Nat) (hlt : l.stackTraces = false) (sv : Nat → Nat) (G : va_G) (cI cJ : ClassId) (cR : Nat → ClassId) {c o : Nat} {u1 : Int} {u2 : Int} {f : pm_H} {P : pm_P} (hob : ∃ fs, f c = some (.inr (.inr (.inr (4, fs))))) (hex : wT T_X4_node cvI [("java/lang/IndexOutOfBoundsException", 1), ("java/util/NoSuchElementException", 2)] [.inr (.inl (some c)), .inl u1, .inl u2] o f P) (hok : ∀ v ∈ ([.inr (.inl (some c)), .inl u1, .inl u2, .inr (.inl (some o))] : List pm_V), pm_ok v) : vx_Met l yL_node (.codeWith yL_node cL_node 5 (some .int) [(0, 10, 13, 47), (0, 10, 17, 52)] :: pm_WS) (pm_rmx 6) (pw_Pc sk sv G cI cJ cR [.inr (.inl (some c)), .inl u1, .inl u2, .inr (.inl (some o))] f) (pm_Qc G cI cJ cR P f) (fun _ _ _ => False) 1 6 (pm_dom f) := by
  refine vx_ofWH (cc := cL_node) (maxL := 5) (ret := some .int) (hh := [(0, 10, 13, 47), (0, 10, 17, 52)]) (by decide) rfl ?_
  intro p e s m args below meth cd s₁ B hml hv
  obtain ⟨⟨rfl, hHd, hK, hSt⟩, hNC⟩ := hv
  have hx := B.exec
  have hb : cd.code = cL_node := B.bytes
  have hr := B.returns
  have hlocks := B.notSynchronized
  have hts := atoms_spec (ws := .codeWith yL_node cL_node 5 (some .int) [(0, 10, 13, 47), (0, 10, 17, 52)] :: pm_WS) B.pre
  have ok : ∀ w ∈ pm_WS, w.before _ s = true := fun w hw => hts w (List.mem_cons_of_mem _ hw)
  have hown : s.vm.findClass RL = some m.cls := findClass_of_methodNamed B.named
  have htab : cd.exceptionTable.toList = tableOf [(0, 10, 13, 47), (0, 10, 17, 52)] := vx_table (x := yL_node) B (hts _ List.mem_cons_self)
  have hH0 : pm_Hd G vwCl cI cJ cR (pm_dom f) f s.heap := fun a c0 hc => ⟨(hHd a c0 hc).1, ⟨c0, hc⟩, (hHd a c0 hc).2.2⟩
  have step := fun (pc : Nat) (lv : pm_L) (st : List pm_V) (f0 : pm_H) (h : pm_S eL_node P (fun _ _ => False) (pm_XW p l e (pm_rmx 6) s m _ below meth cd 0 0 (vx_MQ below (pm_Qc G cI cJ cR P f) (fun _ _ _ => False) _ s 1 6 (pm_dom f)) G vwCl cI cJ cR (pm_dom f) 5) pc lv st f0) => sg_S (d := 0) (sk := sk) (sv := sv) (own := RL) eL_node (Nat.zero_le _) (Nat.zero_le _) (Nat.zero_le _) (Nat.zero_le _) hx hb hml hown hts hK hSt (fun _ => rfl) (fun _ => rfl) (fun _ => rfl) (fun _ => rfl) (Or.inl rfl) (fun n k ci T h => by cases h) (fun pc z f1 ls H locs h1 _ hz hp h3 hS => W.widen (k := 1) (n := 6) (Nat.zero_le _) (Nat.zero_le _) (vx_ret (W.iret hx hb hr (fun t ht _ => ⟨⟨some (.inl z), f1, rfl, hp, fun w hw => by simp at hw; subst hw; exact hz, by rw [ht]; exact h3⟩, hS.F ht⟩) hS.2.2 h1))) h
  have seg0 : pm_XW p l e (pm_rmx 6) s m (List.map pm_cv [.inr (.inl (some c)), .inl u1, .inl u2, .inr (.inl (some o))]).toArray below meth cd 0 0 (vx_MQ below (pm_Qc G cI cJ cR P f) (fun _ _ _ => False) (List.map pm_cv [.inr (.inl (some c)), .inl u1, .inl u2, .inr (.inl (some o))]).toArray s 1 6 (pm_dom f)) G vwCl cI cJ cR (pm_dom f) 5 0 [some (.inr (.inl (some c))), some (.inl u1), some (.inl u2), some (.inr (.inl (some o))), none] [] f := by
   refine sg_on eL_node [5] 60 step ?_
   set_option maxRecDepth 100000 in simp (maxSteps := 2000000) only [pm_x_run, pm_x_rt, pm_x_rf, pm_z_S, pm_z_D, pm_z_cut0, pm_z_cut1, pm_z_cli, pm_z_clr, pm_z_cln, pm_z_cll, pm_z_up, pm_x_aload0, pm_x_aload3, pm_x_astore4, pm_x_c, pm_x_c2, pm_x_cn0, pm_x_cn1, pm_x_goto, pm_x_iload1, pm_x_iload2, pm_x_invv, pm_x_last, pm_x_lst, pm_x_v0, pm_x_v1, pm_x_x2, pm_z_cat0, pm_z_cati, pm_z_catl, pm_z_catr, pm_z_i2l, pm_z_iconst, pm_z_pop0, pm_z_pop1, zL_node_B, zL_node_F, zL_node_R, pm_z_ireti (zL_node_R), dL_node_0, dL_node_1, dL_node_2, dL_node_3, dL_node_4, dL_node_5, dL_node_8, dL_node_9, dL_node_10, dL_node_13, dL_node_15, dL_node_16, dL_node_17, dL_node_19, dL_node_20, dL_node_21, dL_node_22, Bool.cond_true, Bool.cond_false, Bool.or_false, Bool.false_or, Bool.true_or, Bool.or_true, true_and, and_true, if_true, if_false, List.length_cons, List.length_nil, List.getElem?_cons_zero, List.getElem?_cons_succ, List.set_cons_zero, List.set_cons_succ, Option.toList_some, Option.toList_none, List.cons_append, List.nil_append, beq_self_eq_true, Option.isSome_some, Option.isSome_none, pm_tg_lit, ite_true, ite_false, Nat.reduceAdd, Nat.reduceBEq, Nat.reduceLT, Nat.reduceLeDiff, Nat.reduceEqDiff, Int.reduceAdd, Int.reduceSub, Int.reduceLE, Int.reduceLT, Int.reduceEq, Int.reduceToNat, Int.reduceNeg, Int.cast_ofNat_Int, Int.reduceNatCast, Int.reduceNatCast', Int.zero_add, Int.add_zero, Nat.zero_add, Nat.add_zero, and_self, decide_true, decide_false, true_or, or_true, or_false, false_or, eq_self, Int.toNat_natCast, b2_e0, b2_e1, b2_ok, b2_w, b2_v, b2_tt, b2_ff, Bool.true_eq_false, Bool.false_eq_true, Option.some.injEq, Int.one_mul, Int.mul_one, not_true_eq_false, not_false_eq_true, ite_not, decide_eq_false_iff_not, decide_eq_true_eq, Int.reduceMul, Int.reduceMod]
   intro ho hs ls H locs hl hH hS
   obtain ⟨P', PX', hT', hk, hkx⟩ := hex
   obtain ⟨fs, hfc⟩ := hob
   refine pmx_rule (d := 6) (R := pm_rmx 6) (as := [.inr (.inl (some c)), .inl u1, .inl u2]) (r := [.inl 0, .inr (.inl (some o))]) (Nat.le_refl _) (Nat.le_refl _) (Nat.le_refl _) (Nat.le_refl _) hx hb hml hown hts hK hSt (wk_node l sk hlt) dL_node_5 rfl (Or.inr ⟨c, fs, _, rfl, hfc⟩) (Nat.le_of_ble_eq_true rfl) hT' (fun v hv => hok v (by simp at hv ⊢; rcases hv with rfl | rfl | rfl <;> simp [*])) hl.1 hH hS ?_ ?_
   · intro v f' H' locs' hp hok' hH' hS'
     obtain ⟨z, g, rfl, hg, hP⟩ := hk v f' hp
     have hz : pm_ok (.inl z) := hok' (.inl z) (by simp)
     have seg : pm_XW p l e (pm_rmx 6) s m (List.map pm_cv [.inr (.inl (some c)), .inl u1, .inl u2, .inr (.inl (some o))]).toArray below meth cd 0 0 (vx_MQ below (pm_Qc G cI cJ cR P f) (fun _ _ _ => False) (List.map pm_cv [.inr (.inl (some c)), .inl u1, .inl u2, .inr (.inl (some o))]).toArray s 1 6 (pm_dom f)) G vwCl cI cJ cR (pm_dom f) 5 8 [some (.inr (.inl (some c))), some (.inl u1), some (.inl u2), some (.inr (.inl (some o))), none] [.inl z, .inl 0, .inr (.inl (some o))] f' := by
       refine sg_on eL_node [] 60 step ?_
       set_option maxRecDepth 100000 in simp (maxSteps := 2000000) only [pm_x_run, pm_x_rt, pm_x_rf, pm_z_S, pm_z_D, pm_z_cut0, pm_z_cut1, pm_z_cli, pm_z_clr, pm_z_cln, pm_z_cll, pm_z_up, pm_x_aload0, pm_x_aload3, pm_x_astore4, pm_x_c, pm_x_c2, pm_x_cn0, pm_x_cn1, pm_x_goto, pm_x_iload1, pm_x_iload2, pm_x_invv, pm_x_last, pm_x_lst, pm_x_v0, pm_x_v1, pm_x_x2, pm_z_cat0, pm_z_cati, pm_z_catl, pm_z_catr, pm_z_i2l, pm_z_iconst, pm_z_pop0, pm_z_pop1, zL_node_B, zL_node_F, zL_node_R, pm_z_ireti (zL_node_R), dL_node_0, dL_node_1, dL_node_2, dL_node_3, dL_node_4, dL_node_5, dL_node_8, dL_node_9, dL_node_10, dL_node_13, dL_node_15, dL_node_16, dL_node_17, dL_node_19, dL_node_20, dL_node_21, dL_node_22, Bool.cond_true, Bool.cond_false, Bool.or_false, Bool.false_or, Bool.true_or, Bool.or_true, true_and, and_true, if_true, if_false, List.length_cons, List.length_nil, List.getElem?_cons_zero, List.getElem?_cons_succ, List.set_cons_zero, List.set_cons_succ, Option.toList_some, Option.toList_none, List.cons_append, List.nil_append, beq_self_eq_true, Option.isSome_some, Option.isSome_none, pm_tg_lit, ite_true, ite_false, Nat.reduceAdd, Nat.reduceBEq, Nat.reduceLT, Nat.reduceLeDiff, Nat.reduceEqDiff, Int.reduceAdd, Int.reduceSub, Int.reduceLE, Int.reduceLT, Int.reduceEq, Int.reduceToNat, Int.reduceNeg, Int.cast_ofNat_Int, Int.reduceNatCast, Int.reduceNatCast', Int.zero_add, Int.add_zero, Nat.zero_add, Nat.add_zero, and_self, decide_true, decide_false, true_or, or_true, or_false, false_or, eq_self, Int.toNat_natCast, b2_e0, b2_e1, b2_ok, b2_w, b2_v, b2_tt, b2_ff, Bool.true_eq_false, Bool.false_eq_true, Option.some.injEq, Int.one_mul, Int.mul_one, not_true_eq_false, not_false_eq_true, ite_not, decide_eq_false_iff_not, decide_eq_true_eq, Int.reduceMul, Int.reduceMod, hg]
       exact hP
     exact seg ho (fun v hv => by simp at hv; rcases hv with rfl | rfl | rfl; exact hz; exact pm_in0; trivial) ls H' locs' hl hH' hS'
   · intro x f' H' locs' q9 ce hp hH' hS' hcell hcv hcl
     obtain ⟨n, hn, hPn⟩ := hkx x f' hp
     · skip
       simp only [List.mem_cons, List.not_mem_nil, or_false, Prod.mk.injEq] at hn
       rcases hn with ⟨rfl, rfl⟩ | ⟨rfl, rfl⟩
       · refine vx_catch (name := "java/lang/IndexOutOfBoundsException") hown [] ⟨0, 10, 13, 47⟩ [⟨0, 10, 17, 52⟩] htab (fun z hz => by cases hz) (by decide) (by decide) (ok _ (ps_in (by decide +kernel))) (va_Nw.use rfl (hK.2 _ (List.mem_filter.mpr ⟨List.contains_iff_mem.mp (by decide +kernel), rfl⟩))) hcell hcv hcl ?_
         refine lv_astore hx hb dL_node_13 (pm_Lr_has hl) (by decide) rfl fun ls' hl' => ?_
         refine lv_iconst hx hb dL_node_15 rfl ?_
         exact vx_ret (W.iret hx hb hr (fun t ht _ => ⟨⟨some (.inl 1), f', rfl, hPn, fun w hw => by simp at hw; subst hw; unfold pm_ok pm_in; omega, by rw [ht]; exact hH'⟩, hS'.F ht⟩) hS'.2.2 dL_node_16)
       · refine vx_catch (name := "java/util/NoSuchElementException") hown [⟨0, 10, 13, 47⟩] ⟨0, 10, 17, 52⟩ [] htab (fun z hz => by
           simp only [List.mem_cons, List.not_mem_nil, or_false] at hz
           rcases hz with rfl
           · exact Or.inr ⟨by decide, "java/lang/IndexOutOfBoundsException", ok _ (ps_in (by decide +kernel)), hNC ("java/util/NoSuchElementException", "java/lang/IndexOutOfBoundsException") (by decide)⟩) (by decide) (by decide) (ok _ (ps_in (by decide +kernel))) (va_Nw.use rfl (hK.2 _ (List.mem_filter.mpr ⟨List.contains_iff_mem.mp (by decide +kernel), rfl⟩))) hcell hcv hcl ?_
         refine lv_astore hx hb dL_node_17 (pm_Lr_has hl) (by decide) rfl fun ls' hl' => ?_
         refine lv_iconst hx hb dL_node_19 rfl ?_
         exact vx_ret (W.iret hx hb hr (fun t ht _ => ⟨⟨some (.inl 2), f', rfl, hPn, fun w hw => by simp at hw; subst hw; unfold pm_ok pm_in; omega, by rw [ht]; exact hH'⟩, hS'.F ht⟩) hS'.2.2 dL_node_20)
  have hin : pm_init 5 [.inr (.inl (some c)), .inl u1, .inl u2, .inr (.inl (some o))] = [some (.inr (.inl (some c))), some (.inl u1), some (.inl u2), some (.inr (.inl (some o))), none] := by simp [pm_init, pm_put]
  rw [lg_entry_eq]
  rw [← hin] at seg0
  exact seg0 (fun i v hv => pm_put_ok [.inr (.inl (some c)), .inl u1, .inl u2, .inr (.inl (some o))] hok i v (pm_lg_app (pm_put [.inr (.inl (some c)), .inl u1, .inl u2, .inr (.inl (some o))]) _ i v hv)) (fun v hv => by cases hv) _ s.heap [] (pm_entry (as := [.inr (.inl (some c)), .inl u1, .inl u2, .inr (.inl (some o))]) (Nat.le_of_ble_eq_true rfl)) hH0 va_S.rf
def eL_cable : pm_E := (cL_cable, f0, fun _ => none, fun _ => none, fun _ => none, fun _ => none, some .int)
theorem zL_cable_B : pm_eB eL_cable = cL_cable := rfl
theorem zL_cable_F : pm_eF eL_cable = f0 := rfl
theorem zL_cable_R : pm_eR eL_cable = some .int := rfl
theorem wk_cable (l : Launch) (sk : Nat → Nat) (hlt : l.stackTraces = false) : pmx_COK l sk RL 6 54 3 (some 4) T_X4_cable := px_cok (i := 4) (Ct_X4_cable l sk hlt) ykX4_cable (by decide) (by decide) rfl rfl (by decide) (by decide +kernel) (pm_WS_mem 963 (by decide +kernel) rfl)
set_option maxHeartbeats 4000000 in
set_option maxRecDepth 20000 in
theorem wc_cable (l : Launch) (sk : Nat → Nat) (hlt : l.stackTraces = false) (sv : Nat → Nat) (G : va_G) (cI cJ : ClassId) (cR : Nat → ClassId) {c o : Nat} {u1 : Int} {u2 : Int} {f : pm_H} {P : pm_P} (hob : ∃ fs, f c = some (.inr (.inr (.inr (4, fs))))) (hex : wT T_X4_cable cvI [("java/lang/IndexOutOfBoundsException", 1), ("java/util/NoSuchElementException", 2)] [.inr (.inl (some c)), .inl u1, .inl u2] o f P) (hok : ∀ v ∈ ([.inr (.inl (some c)), .inl u1, .inl u2, .inr (.inl (some o))] : List pm_V), pm_ok v) : vx_Met l yL_cable (.codeWith yL_cable cL_cable 5 (some .int) [(0, 10, 13, 47), (0, 10, 17, 52)] :: pm_WS) (pm_rmx 6) (pw_Pc sk sv G cI cJ cR [.inr (.inl (some c)), .inl u1, .inl u2, .inr (.inl (some o))] f) (pm_Qc G cI cJ cR P f) (fun _ _ _ => False) 1 6 (pm_dom f) := by
  refine vx_ofWH (cc := cL_cable) (maxL := 5) (ret := some .int) (hh := [(0, 10, 13, 47), (0, 10, 17, 52)]) (by decide) rfl ?_
  intro p e s m args below meth cd s₁ B hml hv
  obtain ⟨⟨rfl, hHd, hK, hSt⟩, hNC⟩ := hv
  have hx := B.exec
  have hb : cd.code = cL_cable := B.bytes
  have hr := B.returns
  have hlocks := B.notSynchronized
  have hts := atoms_spec (ws := .codeWith yL_cable cL_cable 5 (some .int) [(0, 10, 13, 47), (0, 10, 17, 52)] :: pm_WS) B.pre
  have ok : ∀ w ∈ pm_WS, w.before _ s = true := fun w hw => hts w (List.mem_cons_of_mem _ hw)
  have hown : s.vm.findClass RL = some m.cls := findClass_of_methodNamed B.named
  have htab : cd.exceptionTable.toList = tableOf [(0, 10, 13, 47), (0, 10, 17, 52)] := vx_table (x := yL_cable) B (hts _ List.mem_cons_self)
  have hH0 : pm_Hd G vwCl cI cJ cR (pm_dom f) f s.heap := fun a c0 hc => ⟨(hHd a c0 hc).1, ⟨c0, hc⟩, (hHd a c0 hc).2.2⟩
  have step := fun (pc : Nat) (lv : pm_L) (st : List pm_V) (f0 : pm_H) (h : pm_S eL_cable P (fun _ _ => False) (pm_XW p l e (pm_rmx 6) s m _ below meth cd 0 0 (vx_MQ below (pm_Qc G cI cJ cR P f) (fun _ _ _ => False) _ s 1 6 (pm_dom f)) G vwCl cI cJ cR (pm_dom f) 5) pc lv st f0) => sg_S (d := 0) (sk := sk) (sv := sv) (own := RL) eL_cable (Nat.zero_le _) (Nat.zero_le _) (Nat.zero_le _) (Nat.zero_le _) hx hb hml hown hts hK hSt (fun _ => rfl) (fun _ => rfl) (fun _ => rfl) (fun _ => rfl) (Or.inl rfl) (fun n k ci T h => by cases h) (fun pc z f1 ls H locs h1 _ hz hp h3 hS => W.widen (k := 1) (n := 6) (Nat.zero_le _) (Nat.zero_le _) (vx_ret (W.iret hx hb hr (fun t ht _ => ⟨⟨some (.inl z), f1, rfl, hp, fun w hw => by simp at hw; subst hw; exact hz, by rw [ht]; exact h3⟩, hS.F ht⟩) hS.2.2 h1))) h
  have seg0 : pm_XW p l e (pm_rmx 6) s m (List.map pm_cv [.inr (.inl (some c)), .inl u1, .inl u2, .inr (.inl (some o))]).toArray below meth cd 0 0 (vx_MQ below (pm_Qc G cI cJ cR P f) (fun _ _ _ => False) (List.map pm_cv [.inr (.inl (some c)), .inl u1, .inl u2, .inr (.inl (some o))]).toArray s 1 6 (pm_dom f)) G vwCl cI cJ cR (pm_dom f) 5 0 [some (.inr (.inl (some c))), some (.inl u1), some (.inl u2), some (.inr (.inl (some o))), none] [] f := by
   refine sg_on eL_cable [5] 60 step ?_
   set_option maxRecDepth 100000 in simp (maxSteps := 2000000) only [pm_x_run, pm_x_rt, pm_x_rf, pm_z_S, pm_z_D, pm_z_cut0, pm_z_cut1, pm_z_cli, pm_z_clr, pm_z_cln, pm_z_cll, pm_z_up, pm_x_aload0, pm_x_aload3, pm_x_astore4, pm_x_c, pm_x_c2, pm_x_cn0, pm_x_cn1, pm_x_goto, pm_x_iload1, pm_x_iload2, pm_x_invv, pm_x_last, pm_x_lst, pm_x_v0, pm_x_v1, pm_x_x2, pm_z_cat0, pm_z_cati, pm_z_catl, pm_z_catr, pm_z_i2l, pm_z_iconst, pm_z_pop0, pm_z_pop1, zL_cable_B, zL_cable_F, zL_cable_R, pm_z_ireti (zL_cable_R), dL_cable_0, dL_cable_1, dL_cable_2, dL_cable_3, dL_cable_4, dL_cable_5, dL_cable_8, dL_cable_9, dL_cable_10, dL_cable_13, dL_cable_15, dL_cable_16, dL_cable_17, dL_cable_19, dL_cable_20, dL_cable_21, dL_cable_22, Bool.cond_true, Bool.cond_false, Bool.or_false, Bool.false_or, Bool.true_or, Bool.or_true, true_and, and_true, if_true, if_false, List.length_cons, List.length_nil, List.getElem?_cons_zero, List.getElem?_cons_succ, List.set_cons_zero, List.set_cons_succ, Option.toList_some, Option.toList_none, List.cons_append, List.nil_append, beq_self_eq_true, Option.isSome_some, Option.isSome_none, pm_tg_lit, ite_true, ite_false, Nat.reduceAdd, Nat.reduceBEq, Nat.reduceLT, Nat.reduceLeDiff, Nat.reduceEqDiff, Int.reduceAdd, Int.reduceSub, Int.reduceLE, Int.reduceLT, Int.reduceEq, Int.reduceToNat, Int.reduceNeg, Int.cast_ofNat_Int, Int.reduceNatCast, Int.reduceNatCast', Int.zero_add, Int.add_zero, Nat.zero_add, Nat.add_zero, and_self, decide_true, decide_false, true_or, or_true, or_false, false_or, eq_self, Int.toNat_natCast, b2_e0, b2_e1, b2_ok, b2_w, b2_v, b2_tt, b2_ff, Bool.true_eq_false, Bool.false_eq_true, Option.some.injEq, Int.one_mul, Int.mul_one, not_true_eq_false, not_false_eq_true, ite_not, decide_eq_false_iff_not, decide_eq_true_eq, Int.reduceMul, Int.reduceMod]
   intro ho hs ls H locs hl hH hS
   obtain ⟨P', PX', hT', hk, hkx⟩ := hex
   obtain ⟨fs, hfc⟩ := hob
   refine pmx_rule (d := 6) (R := pm_rmx 6) (as := [.inr (.inl (some c)), .inl u1, .inl u2]) (r := [.inl 0, .inr (.inl (some o))]) (Nat.le_refl _) (Nat.le_refl _) (Nat.le_refl _) (Nat.le_refl _) hx hb hml hown hts hK hSt (wk_cable l sk hlt) dL_cable_5 rfl (Or.inr ⟨c, fs, _, rfl, hfc⟩) (Nat.le_of_ble_eq_true rfl) hT' (fun v hv => hok v (by simp at hv ⊢; rcases hv with rfl | rfl | rfl <;> simp [*])) hl.1 hH hS ?_ ?_
   · intro v f' H' locs' hp hok' hH' hS'
     obtain ⟨z, g, rfl, hg, hP⟩ := hk v f' hp
     have hz : pm_ok (.inl z) := hok' (.inl z) (by simp)
     have seg : pm_XW p l e (pm_rmx 6) s m (List.map pm_cv [.inr (.inl (some c)), .inl u1, .inl u2, .inr (.inl (some o))]).toArray below meth cd 0 0 (vx_MQ below (pm_Qc G cI cJ cR P f) (fun _ _ _ => False) (List.map pm_cv [.inr (.inl (some c)), .inl u1, .inl u2, .inr (.inl (some o))]).toArray s 1 6 (pm_dom f)) G vwCl cI cJ cR (pm_dom f) 5 8 [some (.inr (.inl (some c))), some (.inl u1), some (.inl u2), some (.inr (.inl (some o))), none] [.inl z, .inl 0, .inr (.inl (some o))] f' := by
       refine sg_on eL_cable [] 60 step ?_
       set_option maxRecDepth 100000 in simp (maxSteps := 2000000) only [pm_x_run, pm_x_rt, pm_x_rf, pm_z_S, pm_z_D, pm_z_cut0, pm_z_cut1, pm_z_cli, pm_z_clr, pm_z_cln, pm_z_cll, pm_z_up, pm_x_aload0, pm_x_aload3, pm_x_astore4, pm_x_c, pm_x_c2, pm_x_cn0, pm_x_cn1, pm_x_goto, pm_x_iload1, pm_x_iload2, pm_x_invv, pm_x_last, pm_x_lst, pm_x_v0, pm_x_v1, pm_x_x2, pm_z_cat0, pm_z_cati, pm_z_catl, pm_z_catr, pm_z_i2l, pm_z_iconst, pm_z_pop0, pm_z_pop1, zL_cable_B, zL_cable_F, zL_cable_R, pm_z_ireti (zL_cable_R), dL_cable_0, dL_cable_1, dL_cable_2, dL_cable_3, dL_cable_4, dL_cable_5, dL_cable_8, dL_cable_9, dL_cable_10, dL_cable_13, dL_cable_15, dL_cable_16, dL_cable_17, dL_cable_19, dL_cable_20, dL_cable_21, dL_cable_22, Bool.cond_true, Bool.cond_false, Bool.or_false, Bool.false_or, Bool.true_or, Bool.or_true, true_and, and_true, if_true, if_false, List.length_cons, List.length_nil, List.getElem?_cons_zero, List.getElem?_cons_succ, List.set_cons_zero, List.set_cons_succ, Option.toList_some, Option.toList_none, List.cons_append, List.nil_append, beq_self_eq_true, Option.isSome_some, Option.isSome_none, pm_tg_lit, ite_true, ite_false, Nat.reduceAdd, Nat.reduceBEq, Nat.reduceLT, Nat.reduceLeDiff, Nat.reduceEqDiff, Int.reduceAdd, Int.reduceSub, Int.reduceLE, Int.reduceLT, Int.reduceEq, Int.reduceToNat, Int.reduceNeg, Int.cast_ofNat_Int, Int.reduceNatCast, Int.reduceNatCast', Int.zero_add, Int.add_zero, Nat.zero_add, Nat.add_zero, and_self, decide_true, decide_false, true_or, or_true, or_false, false_or, eq_self, Int.toNat_natCast, b2_e0, b2_e1, b2_ok, b2_w, b2_v, b2_tt, b2_ff, Bool.true_eq_false, Bool.false_eq_true, Option.some.injEq, Int.one_mul, Int.mul_one, not_true_eq_false, not_false_eq_true, ite_not, decide_eq_false_iff_not, decide_eq_true_eq, Int.reduceMul, Int.reduceMod, hg]
       exact hP
     exact seg ho (fun v hv => by simp at hv; rcases hv with rfl | rfl | rfl; exact hz; exact pm_in0; trivial) ls H' locs' hl hH' hS'
   · intro x f' H' locs' q9 ce hp hH' hS' hcell hcv hcl
     obtain ⟨n, hn, hPn⟩ := hkx x f' hp
     · skip
       simp only [List.mem_cons, List.not_mem_nil, or_false, Prod.mk.injEq] at hn
       rcases hn with ⟨rfl, rfl⟩ | ⟨rfl, rfl⟩
       · refine vx_catch (name := "java/lang/IndexOutOfBoundsException") hown [] ⟨0, 10, 13, 47⟩ [⟨0, 10, 17, 52⟩] htab (fun z hz => by cases hz) (by decide) (by decide) (ok _ (ps_in (by decide +kernel))) (va_Nw.use rfl (hK.2 _ (List.mem_filter.mpr ⟨List.contains_iff_mem.mp (by decide +kernel), rfl⟩))) hcell hcv hcl ?_
         refine lv_astore hx hb dL_cable_13 (pm_Lr_has hl) (by decide) rfl fun ls' hl' => ?_
         refine lv_iconst hx hb dL_cable_15 rfl ?_
         exact vx_ret (W.iret hx hb hr (fun t ht _ => ⟨⟨some (.inl 1), f', rfl, hPn, fun w hw => by simp at hw; subst hw; unfold pm_ok pm_in; omega, by rw [ht]; exact hH'⟩, hS'.F ht⟩) hS'.2.2 dL_cable_16)
       · refine vx_catch (name := "java/util/NoSuchElementException") hown [⟨0, 10, 13, 47⟩] ⟨0, 10, 17, 52⟩ [] htab (fun z hz => by
           simp only [List.mem_cons, List.not_mem_nil, or_false] at hz
           rcases hz with rfl
           · exact Or.inr ⟨by decide, "java/lang/IndexOutOfBoundsException", ok _ (ps_in (by decide +kernel)), hNC ("java/util/NoSuchElementException", "java/lang/IndexOutOfBoundsException") (by decide)⟩) (by decide) (by decide) (ok _ (ps_in (by decide +kernel))) (va_Nw.use rfl (hK.2 _ (List.mem_filter.mpr ⟨List.contains_iff_mem.mp (by decide +kernel), rfl⟩))) hcell hcv hcl ?_
         refine lv_astore hx hb dL_cable_17 (pm_Lr_has hl) (by decide) rfl fun ls' hl' => ?_
         refine lv_iconst hx hb dL_cable_19 rfl ?_
         exact vx_ret (W.iret hx hb hr (fun t ht _ => ⟨⟨some (.inl 2), f', rfl, hPn, fun w hw => by simp at hw; subst hw; unfold pm_ok pm_in; omega, by rw [ht]; exact hH'⟩, hS'.F ht⟩) hS'.2.2 dL_cable_20)
  have hin : pm_init 5 [.inr (.inl (some c)), .inl u1, .inl u2, .inr (.inl (some o))] = [some (.inr (.inl (some c))), some (.inl u1), some (.inl u2), some (.inr (.inl (some o))), none] := by simp [pm_init, pm_put]
  rw [lg_entry_eq]
  rw [← hin] at seg0
  exact seg0 (fun i v hv => pm_put_ok [.inr (.inl (some c)), .inl u1, .inl u2, .inr (.inl (some o))] hok i v (pm_lg_app (pm_put [.inr (.inl (some c)), .inl u1, .inl u2, .inr (.inl (some o))]) _ i v hv)) (fun v hv => by cases hv) _ s.heap [] (pm_entry (as := [.inr (.inl (some c)), .inl u1, .inl u2, .inr (.inl (some o))]) (Nat.le_of_ble_eq_true rfl)) hH0 va_S.rf
def eL_part : pm_E := (cL_part, f0, fun _ => none, fun _ => none, fun _ => none, fun _ => none, some .int)
theorem zL_part_B : pm_eB eL_part = cL_part := rfl
theorem zL_part_F : pm_eF eL_part = f0 := rfl
theorem zL_part_R : pm_eR eL_part = some .int := rfl
theorem wk_part (l : Launch) (sk : Nat → Nat) (hlt : l.stackTraces = false) : pmx_COK l sk RL 4 57 3 (some 4) T_X4_part := px_cok (i := 4) (Ct_X4_part l sk hlt) ykX4_part (by decide) (by decide) rfl rfl (by decide) (by decide +kernel) (pm_WS_mem 977 (by decide +kernel) rfl)
set_option maxHeartbeats 4000000 in
set_option maxRecDepth 20000 in
theorem wc_part (l : Launch) (sk : Nat → Nat) (hlt : l.stackTraces = false) (sv : Nat → Nat) (G : va_G) (cI cJ : ClassId) (cR : Nat → ClassId) {c o : Nat} {u1 : Int} {u2 : Int} {f : pm_H} {P : pm_P} (hob : ∃ fs, f c = some (.inr (.inr (.inr (4, fs))))) (hex : wT T_X4_part cvI [("java/lang/IndexOutOfBoundsException", 1)] [.inr (.inl (some c)), .inl u1, .inl u2] o f P) (hok : ∀ v ∈ ([.inr (.inl (some c)), .inl u1, .inl u2, .inr (.inl (some o))] : List pm_V), pm_ok v) : vx_Met l yL_part (.codeWith yL_part cL_part 5 (some .int) [(0, 10, 13, 47)] :: pm_WS) (pm_rmx 4) (pw_Pc sk sv G cI cJ cR [.inr (.inl (some c)), .inl u1, .inl u2, .inr (.inl (some o))] f) (pm_Qc G cI cJ cR P f) (fun _ _ _ => False) 1 6 (pm_dom f) := by
  refine vx_ofWH (cc := cL_part) (maxL := 5) (ret := some .int) (hh := [(0, 10, 13, 47)]) (by decide) rfl ?_
  intro p e s m args below meth cd s₁ B hml hv
  obtain ⟨⟨rfl, hHd, hK, hSt⟩, hNC⟩ := hv
  have hx := B.exec
  have hb : cd.code = cL_part := B.bytes
  have hr := B.returns
  have hlocks := B.notSynchronized
  have hts := atoms_spec (ws := .codeWith yL_part cL_part 5 (some .int) [(0, 10, 13, 47)] :: pm_WS) B.pre
  have ok : ∀ w ∈ pm_WS, w.before _ s = true := fun w hw => hts w (List.mem_cons_of_mem _ hw)
  have hown : s.vm.findClass RL = some m.cls := findClass_of_methodNamed B.named
  have htab : cd.exceptionTable.toList = tableOf [(0, 10, 13, 47)] := vx_table (x := yL_part) B (hts _ List.mem_cons_self)
  have hH0 : pm_Hd G vwCl cI cJ cR (pm_dom f) f s.heap := fun a c0 hc => ⟨(hHd a c0 hc).1, ⟨c0, hc⟩, (hHd a c0 hc).2.2⟩
  have step := fun (pc : Nat) (lv : pm_L) (st : List pm_V) (f0 : pm_H) (h : pm_S eL_part P (fun _ _ => False) (pm_XW p l e (pm_rmx 4) s m _ below meth cd 0 0 (vx_MQ below (pm_Qc G cI cJ cR P f) (fun _ _ _ => False) _ s 1 6 (pm_dom f)) G vwCl cI cJ cR (pm_dom f) 5) pc lv st f0) => sg_S (d := 0) (sk := sk) (sv := sv) (own := RL) eL_part (Nat.zero_le _) (Nat.zero_le _) (Nat.zero_le _) (Nat.zero_le _) hx hb hml hown hts hK hSt (fun _ => rfl) (fun _ => rfl) (fun _ => rfl) (fun _ => rfl) (Or.inl rfl) (fun n k ci T h => by cases h) (fun pc z f1 ls H locs h1 _ hz hp h3 hS => W.widen (k := 1) (n := 6) (Nat.zero_le _) (Nat.zero_le _) (vx_ret (W.iret hx hb hr (fun t ht _ => ⟨⟨some (.inl z), f1, rfl, hp, fun w hw => by simp at hw; subst hw; exact hz, by rw [ht]; exact h3⟩, hS.F ht⟩) hS.2.2 h1))) h
  have seg0 : pm_XW p l e (pm_rmx 4) s m (List.map pm_cv [.inr (.inl (some c)), .inl u1, .inl u2, .inr (.inl (some o))]).toArray below meth cd 0 0 (vx_MQ below (pm_Qc G cI cJ cR P f) (fun _ _ _ => False) (List.map pm_cv [.inr (.inl (some c)), .inl u1, .inl u2, .inr (.inl (some o))]).toArray s 1 6 (pm_dom f)) G vwCl cI cJ cR (pm_dom f) 5 0 [some (.inr (.inl (some c))), some (.inl u1), some (.inl u2), some (.inr (.inl (some o))), none] [] f := by
   refine sg_on eL_part [5] 60 step ?_
   set_option maxRecDepth 100000 in simp (maxSteps := 2000000) only [pm_x_run, pm_x_rt, pm_x_rf, pm_z_S, pm_z_D, pm_z_cut0, pm_z_cut1, pm_z_cli, pm_z_clr, pm_z_cln, pm_z_cll, pm_z_up, pm_x_aload0, pm_x_aload3, pm_x_astore4, pm_x_c, pm_x_c2, pm_x_cn0, pm_x_cn1, pm_x_goto, pm_x_iload1, pm_x_iload2, pm_x_invv, pm_x_last, pm_x_lst, pm_x_v0, pm_x_v1, pm_x_x2, pm_z_cat0, pm_z_cati, pm_z_catl, pm_z_catr, pm_z_i2l, pm_z_iconst, pm_z_pop0, pm_z_pop1, zL_part_B, zL_part_F, zL_part_R, pm_z_ireti (zL_part_R), dL_part_0, dL_part_1, dL_part_2, dL_part_3, dL_part_4, dL_part_5, dL_part_8, dL_part_9, dL_part_10, dL_part_13, dL_part_15, dL_part_16, dL_part_17, dL_part_18, Bool.cond_true, Bool.cond_false, Bool.or_false, Bool.false_or, Bool.true_or, Bool.or_true, true_and, and_true, if_true, if_false, List.length_cons, List.length_nil, List.getElem?_cons_zero, List.getElem?_cons_succ, List.set_cons_zero, List.set_cons_succ, Option.toList_some, Option.toList_none, List.cons_append, List.nil_append, beq_self_eq_true, Option.isSome_some, Option.isSome_none, pm_tg_lit, ite_true, ite_false, Nat.reduceAdd, Nat.reduceBEq, Nat.reduceLT, Nat.reduceLeDiff, Nat.reduceEqDiff, Int.reduceAdd, Int.reduceSub, Int.reduceLE, Int.reduceLT, Int.reduceEq, Int.reduceToNat, Int.reduceNeg, Int.cast_ofNat_Int, Int.reduceNatCast, Int.reduceNatCast', Int.zero_add, Int.add_zero, Nat.zero_add, Nat.add_zero, and_self, decide_true, decide_false, true_or, or_true, or_false, false_or, eq_self, Int.toNat_natCast, b2_e0, b2_e1, b2_ok, b2_w, b2_v, b2_tt, b2_ff, Bool.true_eq_false, Bool.false_eq_true, Option.some.injEq, Int.one_mul, Int.mul_one, not_true_eq_false, not_false_eq_true, ite_not, decide_eq_false_iff_not, decide_eq_true_eq, Int.reduceMul, Int.reduceMod]
   intro ho hs ls H locs hl hH hS
   obtain ⟨P', PX', hT', hk, hkx⟩ := hex
   obtain ⟨fs, hfc⟩ := hob
   refine pmx_rule (d := 4) (R := pm_rmx 4) (as := [.inr (.inl (some c)), .inl u1, .inl u2]) (r := [.inl 0, .inr (.inl (some o))]) (Nat.le_refl _) (Nat.le_refl _) (Nat.le_refl _) (Nat.le_refl _) hx hb hml hown hts hK hSt (wk_part l sk hlt) dL_part_5 rfl (Or.inr ⟨c, fs, _, rfl, hfc⟩) (Nat.le_of_ble_eq_true rfl) hT' (fun v hv => hok v (by simp at hv ⊢; rcases hv with rfl | rfl | rfl <;> simp [*])) hl.1 hH hS ?_ ?_
   · intro v f' H' locs' hp hok' hH' hS'
     obtain ⟨z, g, rfl, hg, hP⟩ := hk v f' hp
     have hz : pm_ok (.inl z) := hok' (.inl z) (by simp)
     have seg : pm_XW p l e (pm_rmx 4) s m (List.map pm_cv [.inr (.inl (some c)), .inl u1, .inl u2, .inr (.inl (some o))]).toArray below meth cd 0 0 (vx_MQ below (pm_Qc G cI cJ cR P f) (fun _ _ _ => False) (List.map pm_cv [.inr (.inl (some c)), .inl u1, .inl u2, .inr (.inl (some o))]).toArray s 1 6 (pm_dom f)) G vwCl cI cJ cR (pm_dom f) 5 8 [some (.inr (.inl (some c))), some (.inl u1), some (.inl u2), some (.inr (.inl (some o))), none] [.inl z, .inl 0, .inr (.inl (some o))] f' := by
       refine sg_on eL_part [] 60 step ?_
       set_option maxRecDepth 100000 in simp (maxSteps := 2000000) only [pm_x_run, pm_x_rt, pm_x_rf, pm_z_S, pm_z_D, pm_z_cut0, pm_z_cut1, pm_z_cli, pm_z_clr, pm_z_cln, pm_z_cll, pm_z_up, pm_x_aload0, pm_x_aload3, pm_x_astore4, pm_x_c, pm_x_c2, pm_x_cn0, pm_x_cn1, pm_x_goto, pm_x_iload1, pm_x_iload2, pm_x_invv, pm_x_last, pm_x_lst, pm_x_v0, pm_x_v1, pm_x_x2, pm_z_cat0, pm_z_cati, pm_z_catl, pm_z_catr, pm_z_i2l, pm_z_iconst, pm_z_pop0, pm_z_pop1, zL_part_B, zL_part_F, zL_part_R, pm_z_ireti (zL_part_R), dL_part_0, dL_part_1, dL_part_2, dL_part_3, dL_part_4, dL_part_5, dL_part_8, dL_part_9, dL_part_10, dL_part_13, dL_part_15, dL_part_16, dL_part_17, dL_part_18, Bool.cond_true, Bool.cond_false, Bool.or_false, Bool.false_or, Bool.true_or, Bool.or_true, true_and, and_true, if_true, if_false, List.length_cons, List.length_nil, List.getElem?_cons_zero, List.getElem?_cons_succ, List.set_cons_zero, List.set_cons_succ, Option.toList_some, Option.toList_none, List.cons_append, List.nil_append, beq_self_eq_true, Option.isSome_some, Option.isSome_none, pm_tg_lit, ite_true, ite_false, Nat.reduceAdd, Nat.reduceBEq, Nat.reduceLT, Nat.reduceLeDiff, Nat.reduceEqDiff, Int.reduceAdd, Int.reduceSub, Int.reduceLE, Int.reduceLT, Int.reduceEq, Int.reduceToNat, Int.reduceNeg, Int.cast_ofNat_Int, Int.reduceNatCast, Int.reduceNatCast', Int.zero_add, Int.add_zero, Nat.zero_add, Nat.add_zero, and_self, decide_true, decide_false, true_or, or_true, or_false, false_or, eq_self, Int.toNat_natCast, b2_e0, b2_e1, b2_ok, b2_w, b2_v, b2_tt, b2_ff, Bool.true_eq_false, Bool.false_eq_true, Option.some.injEq, Int.one_mul, Int.mul_one, not_true_eq_false, not_false_eq_true, ite_not, decide_eq_false_iff_not, decide_eq_true_eq, Int.reduceMul, Int.reduceMod, hg]
       exact hP
     exact seg ho (fun v hv => by simp at hv; rcases hv with rfl | rfl | rfl; exact hz; exact pm_in0; trivial) ls H' locs' hl hH' hS'
   · intro x f' H' locs' q9 ce hp hH' hS' hcell hcv hcl
     obtain ⟨n, hn, hPn⟩ := hkx x f' hp
     · skip
       rw [List.mem_singleton, Prod.mk.injEq] at hn
       obtain ⟨rfl, rfl⟩ := hn
       refine vx_catch (name := "java/lang/IndexOutOfBoundsException") hown [] ⟨0, 10, 13, 47⟩ [] htab (fun z hz => by cases hz) (by decide) (by decide) (ok _ (ps_in (by decide +kernel))) (va_Nw.use rfl (hK.2 _ (List.mem_filter.mpr ⟨List.contains_iff_mem.mp (by decide +kernel), rfl⟩))) hcell hcv hcl ?_
       refine lv_astore hx hb dL_part_13 (pm_Lr_has hl) (by decide) rfl fun ls' hl' => ?_
       refine lv_iconst hx hb dL_part_15 rfl ?_
       exact vx_ret (W.iret hx hb hr (fun t ht _ => ⟨⟨some (.inl 1), f', rfl, hPn, fun w hw => by simp at hw; subst hw; unfold pm_ok pm_in; omega, by rw [ht]; exact hH'⟩, hS'.F ht⟩) hS'.2.2 dL_part_16)
  have hin : pm_init 5 [.inr (.inl (some c)), .inl u1, .inl u2, .inr (.inl (some o))] = [some (.inr (.inl (some c))), some (.inl u1), some (.inl u2), some (.inr (.inl (some o))), none] := by simp [pm_init, pm_put]
  rw [lg_entry_eq]
  rw [← hin] at seg0
  exact seg0 (fun i v hv => pm_put_ok [.inr (.inl (some c)), .inl u1, .inl u2, .inr (.inl (some o))] hok i v (pm_lg_app (pm_put [.inr (.inl (some c)), .inl u1, .inl u2, .inr (.inl (some o))]) _ i v hv)) (fun v hv => by cases hv) _ s.heap [] (pm_entry (as := [.inr (.inl (some c)), .inl u1, .inl u2, .inr (.inl (some o))]) (Nat.le_of_ble_eq_true rfl)) hH0 va_S.rf
def eL_level : pm_E := (cL_level, f0, fun _ => none, fun _ => none, fun _ => none, fun _ => none, some .int)
theorem zL_level_B : pm_eB eL_level = cL_level := rfl
theorem zL_level_F : pm_eF eL_level = f0 := rfl
theorem zL_level_R : pm_eR eL_level = some .int := rfl
theorem wk_level (l : Launch) (sk : Nat → Nat) (hlt : l.stackTraces = false) : pmx_COK l sk RL 3 60 3 (some 4) T_X4_level := px_cok (i := 4) (Ct_X4_level l sk hlt) ykX4_level (by decide) (by decide) rfl rfl (by decide) (by decide +kernel) (pm_WS_mem 989 (by decide +kernel) rfl)
set_option maxHeartbeats 4000000 in
set_option maxRecDepth 20000 in
theorem wc_level (l : Launch) (sk : Nat → Nat) (hlt : l.stackTraces = false) (sv : Nat → Nat) (G : va_G) (cI cJ : ClassId) (cR : Nat → ClassId) {c o : Nat} {u1 : Int} {u2 : Int} {f : pm_H} {P : pm_P} (hob : ∃ fs, f c = some (.inr (.inr (.inr (4, fs))))) (hex : wT T_X4_level cvI [("java/lang/IndexOutOfBoundsException", 1), ("java/util/NoSuchElementException", 2)] [.inr (.inl (some c)), .inl u1, .inl u2] o f P) (hok : ∀ v ∈ ([.inr (.inl (some c)), .inl u1, .inl u2, .inr (.inl (some o))] : List pm_V), pm_ok v) : vx_Met l yL_level (.codeWith yL_level cL_level 5 (some .int) [(0, 10, 13, 47), (0, 10, 17, 52)] :: pm_WS) (pm_rmx 3) (pw_Pc sk sv G cI cJ cR [.inr (.inl (some c)), .inl u1, .inl u2, .inr (.inl (some o))] f) (pm_Qc G cI cJ cR P f) (fun _ _ _ => False) 1 6 (pm_dom f) := by
  refine vx_ofWH (cc := cL_level) (maxL := 5) (ret := some .int) (hh := [(0, 10, 13, 47), (0, 10, 17, 52)]) (by decide) rfl ?_
  intro p e s m args below meth cd s₁ B hml hv
  obtain ⟨⟨rfl, hHd, hK, hSt⟩, hNC⟩ := hv
  have hx := B.exec
  have hb : cd.code = cL_level := B.bytes
  have hr := B.returns
  have hlocks := B.notSynchronized
  have hts := atoms_spec (ws := .codeWith yL_level cL_level 5 (some .int) [(0, 10, 13, 47), (0, 10, 17, 52)] :: pm_WS) B.pre
  have ok : ∀ w ∈ pm_WS, w.before _ s = true := fun w hw => hts w (List.mem_cons_of_mem _ hw)
  have hown : s.vm.findClass RL = some m.cls := findClass_of_methodNamed B.named
  have htab : cd.exceptionTable.toList = tableOf [(0, 10, 13, 47), (0, 10, 17, 52)] := vx_table (x := yL_level) B (hts _ List.mem_cons_self)
  have hH0 : pm_Hd G vwCl cI cJ cR (pm_dom f) f s.heap := fun a c0 hc => ⟨(hHd a c0 hc).1, ⟨c0, hc⟩, (hHd a c0 hc).2.2⟩
  have step := fun (pc : Nat) (lv : pm_L) (st : List pm_V) (f0 : pm_H) (h : pm_S eL_level P (fun _ _ => False) (pm_XW p l e (pm_rmx 3) s m _ below meth cd 0 0 (vx_MQ below (pm_Qc G cI cJ cR P f) (fun _ _ _ => False) _ s 1 6 (pm_dom f)) G vwCl cI cJ cR (pm_dom f) 5) pc lv st f0) => sg_S (d := 0) (sk := sk) (sv := sv) (own := RL) eL_level (Nat.zero_le _) (Nat.zero_le _) (Nat.zero_le _) (Nat.zero_le _) hx hb hml hown hts hK hSt (fun _ => rfl) (fun _ => rfl) (fun _ => rfl) (fun _ => rfl) (Or.inl rfl) (fun n k ci T h => by cases h) (fun pc z f1 ls H locs h1 _ hz hp h3 hS => W.widen (k := 1) (n := 6) (Nat.zero_le _) (Nat.zero_le _) (vx_ret (W.iret hx hb hr (fun t ht _ => ⟨⟨some (.inl z), f1, rfl, hp, fun w hw => by simp at hw; subst hw; exact hz, by rw [ht]; exact h3⟩, hS.F ht⟩) hS.2.2 h1))) h
  have seg0 : pm_XW p l e (pm_rmx 3) s m (List.map pm_cv [.inr (.inl (some c)), .inl u1, .inl u2, .inr (.inl (some o))]).toArray below meth cd 0 0 (vx_MQ below (pm_Qc G cI cJ cR P f) (fun _ _ _ => False) (List.map pm_cv [.inr (.inl (some c)), .inl u1, .inl u2, .inr (.inl (some o))]).toArray s 1 6 (pm_dom f)) G vwCl cI cJ cR (pm_dom f) 5 0 [some (.inr (.inl (some c))), some (.inl u1), some (.inl u2), some (.inr (.inl (some o))), none] [] f := by
   refine sg_on eL_level [5] 60 step ?_
   set_option maxRecDepth 100000 in simp (maxSteps := 2000000) only [pm_x_run, pm_x_rt, pm_x_rf, pm_z_S, pm_z_D, pm_z_cut0, pm_z_cut1, pm_z_cli, pm_z_clr, pm_z_cln, pm_z_cll, pm_z_up, pm_x_aload0, pm_x_aload3, pm_x_astore4, pm_x_c, pm_x_c2, pm_x_cn0, pm_x_cn1, pm_x_goto, pm_x_iload1, pm_x_iload2, pm_x_invv, pm_x_last, pm_x_lst, pm_x_v0, pm_x_v1, pm_x_x2, pm_z_cat0, pm_z_cati, pm_z_catl, pm_z_catr, pm_z_i2l, pm_z_iconst, pm_z_pop0, pm_z_pop1, zL_level_B, zL_level_F, zL_level_R, pm_z_ireti (zL_level_R), dL_level_0, dL_level_1, dL_level_2, dL_level_3, dL_level_4, dL_level_5, dL_level_8, dL_level_9, dL_level_10, dL_level_13, dL_level_15, dL_level_16, dL_level_17, dL_level_19, dL_level_20, dL_level_21, dL_level_22, Bool.cond_true, Bool.cond_false, Bool.or_false, Bool.false_or, Bool.true_or, Bool.or_true, true_and, and_true, if_true, if_false, List.length_cons, List.length_nil, List.getElem?_cons_zero, List.getElem?_cons_succ, List.set_cons_zero, List.set_cons_succ, Option.toList_some, Option.toList_none, List.cons_append, List.nil_append, beq_self_eq_true, Option.isSome_some, Option.isSome_none, pm_tg_lit, ite_true, ite_false, Nat.reduceAdd, Nat.reduceBEq, Nat.reduceLT, Nat.reduceLeDiff, Nat.reduceEqDiff, Int.reduceAdd, Int.reduceSub, Int.reduceLE, Int.reduceLT, Int.reduceEq, Int.reduceToNat, Int.reduceNeg, Int.cast_ofNat_Int, Int.reduceNatCast, Int.reduceNatCast', Int.zero_add, Int.add_zero, Nat.zero_add, Nat.add_zero, and_self, decide_true, decide_false, true_or, or_true, or_false, false_or, eq_self, Int.toNat_natCast, b2_e0, b2_e1, b2_ok, b2_w, b2_v, b2_tt, b2_ff, Bool.true_eq_false, Bool.false_eq_true, Option.some.injEq, Int.one_mul, Int.mul_one, not_true_eq_false, not_false_eq_true, ite_not, decide_eq_false_iff_not, decide_eq_true_eq, Int.reduceMul, Int.reduceMod]
   intro ho hs ls H locs hl hH hS
   obtain ⟨P', PX', hT', hk, hkx⟩ := hex
   obtain ⟨fs, hfc⟩ := hob
   refine pmx_rule (d := 3) (R := pm_rmx 3) (as := [.inr (.inl (some c)), .inl u1, .inl u2]) (r := [.inl 0, .inr (.inl (some o))]) (Nat.le_refl _) (Nat.le_refl _) (Nat.le_refl _) (Nat.le_refl _) hx hb hml hown hts hK hSt (wk_level l sk hlt) dL_level_5 rfl (Or.inr ⟨c, fs, _, rfl, hfc⟩) (Nat.le_of_ble_eq_true rfl) hT' (fun v hv => hok v (by simp at hv ⊢; rcases hv with rfl | rfl | rfl <;> simp [*])) hl.1 hH hS ?_ ?_
   · intro v f' H' locs' hp hok' hH' hS'
     obtain ⟨z, g, rfl, hg, hP⟩ := hk v f' hp
     have hz : pm_ok (.inl z) := hok' (.inl z) (by simp)
     have seg : pm_XW p l e (pm_rmx 3) s m (List.map pm_cv [.inr (.inl (some c)), .inl u1, .inl u2, .inr (.inl (some o))]).toArray below meth cd 0 0 (vx_MQ below (pm_Qc G cI cJ cR P f) (fun _ _ _ => False) (List.map pm_cv [.inr (.inl (some c)), .inl u1, .inl u2, .inr (.inl (some o))]).toArray s 1 6 (pm_dom f)) G vwCl cI cJ cR (pm_dom f) 5 8 [some (.inr (.inl (some c))), some (.inl u1), some (.inl u2), some (.inr (.inl (some o))), none] [.inl z, .inl 0, .inr (.inl (some o))] f' := by
       refine sg_on eL_level [] 60 step ?_
       set_option maxRecDepth 100000 in simp (maxSteps := 2000000) only [pm_x_run, pm_x_rt, pm_x_rf, pm_z_S, pm_z_D, pm_z_cut0, pm_z_cut1, pm_z_cli, pm_z_clr, pm_z_cln, pm_z_cll, pm_z_up, pm_x_aload0, pm_x_aload3, pm_x_astore4, pm_x_c, pm_x_c2, pm_x_cn0, pm_x_cn1, pm_x_goto, pm_x_iload1, pm_x_iload2, pm_x_invv, pm_x_last, pm_x_lst, pm_x_v0, pm_x_v1, pm_x_x2, pm_z_cat0, pm_z_cati, pm_z_catl, pm_z_catr, pm_z_i2l, pm_z_iconst, pm_z_pop0, pm_z_pop1, zL_level_B, zL_level_F, zL_level_R, pm_z_ireti (zL_level_R), dL_level_0, dL_level_1, dL_level_2, dL_level_3, dL_level_4, dL_level_5, dL_level_8, dL_level_9, dL_level_10, dL_level_13, dL_level_15, dL_level_16, dL_level_17, dL_level_19, dL_level_20, dL_level_21, dL_level_22, Bool.cond_true, Bool.cond_false, Bool.or_false, Bool.false_or, Bool.true_or, Bool.or_true, true_and, and_true, if_true, if_false, List.length_cons, List.length_nil, List.getElem?_cons_zero, List.getElem?_cons_succ, List.set_cons_zero, List.set_cons_succ, Option.toList_some, Option.toList_none, List.cons_append, List.nil_append, beq_self_eq_true, Option.isSome_some, Option.isSome_none, pm_tg_lit, ite_true, ite_false, Nat.reduceAdd, Nat.reduceBEq, Nat.reduceLT, Nat.reduceLeDiff, Nat.reduceEqDiff, Int.reduceAdd, Int.reduceSub, Int.reduceLE, Int.reduceLT, Int.reduceEq, Int.reduceToNat, Int.reduceNeg, Int.cast_ofNat_Int, Int.reduceNatCast, Int.reduceNatCast', Int.zero_add, Int.add_zero, Nat.zero_add, Nat.add_zero, and_self, decide_true, decide_false, true_or, or_true, or_false, false_or, eq_self, Int.toNat_natCast, b2_e0, b2_e1, b2_ok, b2_w, b2_v, b2_tt, b2_ff, Bool.true_eq_false, Bool.false_eq_true, Option.some.injEq, Int.one_mul, Int.mul_one, not_true_eq_false, not_false_eq_true, ite_not, decide_eq_false_iff_not, decide_eq_true_eq, Int.reduceMul, Int.reduceMod, hg]
       exact hP
     exact seg ho (fun v hv => by simp at hv; rcases hv with rfl | rfl | rfl; exact hz; exact pm_in0; trivial) ls H' locs' hl hH' hS'
   · intro x f' H' locs' q9 ce hp hH' hS' hcell hcv hcl
     obtain ⟨n, hn, hPn⟩ := hkx x f' hp
     · skip
       simp only [List.mem_cons, List.not_mem_nil, or_false, Prod.mk.injEq] at hn
       rcases hn with ⟨rfl, rfl⟩ | ⟨rfl, rfl⟩
       · refine vx_catch (name := "java/lang/IndexOutOfBoundsException") hown [] ⟨0, 10, 13, 47⟩ [⟨0, 10, 17, 52⟩] htab (fun z hz => by cases hz) (by decide) (by decide) (ok _ (ps_in (by decide +kernel))) (va_Nw.use rfl (hK.2 _ (List.mem_filter.mpr ⟨List.contains_iff_mem.mp (by decide +kernel), rfl⟩))) hcell hcv hcl ?_
         refine lv_astore hx hb dL_level_13 (pm_Lr_has hl) (by decide) rfl fun ls' hl' => ?_
         refine lv_iconst hx hb dL_level_15 rfl ?_
         exact vx_ret (W.iret hx hb hr (fun t ht _ => ⟨⟨some (.inl 1), f', rfl, hPn, fun w hw => by simp at hw; subst hw; unfold pm_ok pm_in; omega, by rw [ht]; exact hH'⟩, hS'.F ht⟩) hS'.2.2 dL_level_16)
       · refine vx_catch (name := "java/util/NoSuchElementException") hown [⟨0, 10, 13, 47⟩] ⟨0, 10, 17, 52⟩ [] htab (fun z hz => by
           simp only [List.mem_cons, List.not_mem_nil, or_false] at hz
           rcases hz with rfl
           · exact Or.inr ⟨by decide, "java/lang/IndexOutOfBoundsException", ok _ (ps_in (by decide +kernel)), hNC ("java/util/NoSuchElementException", "java/lang/IndexOutOfBoundsException") (by decide)⟩) (by decide) (by decide) (ok _ (ps_in (by decide +kernel))) (va_Nw.use rfl (hK.2 _ (List.mem_filter.mpr ⟨List.contains_iff_mem.mp (by decide +kernel), rfl⟩))) hcell hcv hcl ?_
         refine lv_astore hx hb dL_level_17 (pm_Lr_has hl) (by decide) rfl fun ls' hl' => ?_
         refine lv_iconst hx hb dL_level_19 rfl ?_
         exact vx_ret (W.iret hx hb hr (fun t ht _ => ⟨⟨some (.inl 2), f', rfl, hPn, fun w hw => by simp at hw; subst hw; unfold pm_ok pm_in; omega, by rw [ht]; exact hH'⟩, hS'.F ht⟩) hS'.2.2 dL_level_20)
  have hin : pm_init 5 [.inr (.inl (some c)), .inl u1, .inl u2, .inr (.inl (some o))] = [some (.inr (.inl (some c))), some (.inl u1), some (.inl u2), some (.inr (.inl (some o))), none] := by simp [pm_init, pm_put]
  rw [lg_entry_eq]
  rw [← hin] at seg0
  exact seg0 (fun i v hv => pm_put_ok [.inr (.inl (some c)), .inl u1, .inl u2, .inr (.inl (some o))] hok i v (pm_lg_app (pm_put [.inr (.inl (some c)), .inl u1, .inl u2, .inr (.inl (some o))]) _ i v hv)) (fun v hv => by cases hv) _ s.heap [] (pm_entry (as := [.inr (.inl (some c)), .inl u1, .inl u2, .inr (.inl (some o))]) (Nat.le_of_ble_eq_true rfl)) hH0 va_S.rf
def eL_tour : pm_E := (cL_tour, f0, fun _ => none, fun _ => none, fun _ => none, fun _ => none, some .int)
theorem zL_tour_B : pm_eB eL_tour = cL_tour := rfl
theorem zL_tour_F : pm_eF eL_tour = f0 := rfl
theorem zL_tour_R : pm_eR eL_tour = some .int := rfl
theorem wk_tour (l : Launch) (sk : Nat → Nat) (hlt : l.stackTraces = false) : pmx_COK l sk RL 4 63 4 (some 4) T_X4_tour := px_cok (i := 4) (Ct_X4_tour l sk hlt) ykX4_tour (by decide) (by decide) rfl rfl (by decide) (by decide +kernel) (pm_WS_mem 1006 (by decide +kernel) rfl)
set_option maxHeartbeats 4000000 in
set_option maxRecDepth 20000 in
theorem wc_tour (l : Launch) (sk : Nat → Nat) (hlt : l.stackTraces = false) (sv : Nat → Nat) (G : va_G) (cI cJ : ClassId) (cR : Nat → ClassId) {c o : Nat} {u1 : Int} {u2 : Int} {u3 : Int} {f : pm_H} {P : pm_P} (hob : ∃ fs, f c = some (.inr (.inr (.inr (4, fs))))) (hex : wT T_X4_tour cvI [("java/lang/IndexOutOfBoundsException", 1)] [.inr (.inl (some c)), .inl u1, .inl u2, .inl u3] o f P) (hok : ∀ v ∈ ([.inr (.inl (some c)), .inl u1, .inl u2, .inl u3, .inr (.inl (some o))] : List pm_V), pm_ok v) : vx_Met l yL_tour (.codeWith yL_tour cL_tour 6 (some .int) [(0, 12, 15, 47)] :: pm_WS) (pm_rmx 4) (pw_Pc sk sv G cI cJ cR [.inr (.inl (some c)), .inl u1, .inl u2, .inl u3, .inr (.inl (some o))] f) (pm_Qc G cI cJ cR P f) (fun _ _ _ => False) 1 6 (pm_dom f) := by
  refine vx_ofWH (cc := cL_tour) (maxL := 6) (ret := some .int) (hh := [(0, 12, 15, 47)]) (by decide) rfl ?_
  intro p e s m args below meth cd s₁ B hml hv
  obtain ⟨⟨rfl, hHd, hK, hSt⟩, hNC⟩ := hv
  have hx := B.exec
  have hb : cd.code = cL_tour := B.bytes
  have hr := B.returns
  have hlocks := B.notSynchronized
  have hts := atoms_spec (ws := .codeWith yL_tour cL_tour 6 (some .int) [(0, 12, 15, 47)] :: pm_WS) B.pre
  have ok : ∀ w ∈ pm_WS, w.before _ s = true := fun w hw => hts w (List.mem_cons_of_mem _ hw)
  have hown : s.vm.findClass RL = some m.cls := findClass_of_methodNamed B.named
  have htab : cd.exceptionTable.toList = tableOf [(0, 12, 15, 47)] := vx_table (x := yL_tour) B (hts _ List.mem_cons_self)
  have hH0 : pm_Hd G vwCl cI cJ cR (pm_dom f) f s.heap := fun a c0 hc => ⟨(hHd a c0 hc).1, ⟨c0, hc⟩, (hHd a c0 hc).2.2⟩
  have step := fun (pc : Nat) (lv : pm_L) (st : List pm_V) (f0 : pm_H) (h : pm_S eL_tour P (fun _ _ => False) (pm_XW p l e (pm_rmx 4) s m _ below meth cd 0 0 (vx_MQ below (pm_Qc G cI cJ cR P f) (fun _ _ _ => False) _ s 1 6 (pm_dom f)) G vwCl cI cJ cR (pm_dom f) 6) pc lv st f0) => sg_S (d := 0) (sk := sk) (sv := sv) (own := RL) eL_tour (Nat.zero_le _) (Nat.zero_le _) (Nat.zero_le _) (Nat.zero_le _) hx hb hml hown hts hK hSt (fun _ => rfl) (fun _ => rfl) (fun _ => rfl) (fun _ => rfl) (Or.inl rfl) (fun n k ci T h => by cases h) (fun pc z f1 ls H locs h1 _ hz hp h3 hS => W.widen (k := 1) (n := 6) (Nat.zero_le _) (Nat.zero_le _) (vx_ret (W.iret hx hb hr (fun t ht _ => ⟨⟨some (.inl z), f1, rfl, hp, fun w hw => by simp at hw; subst hw; exact hz, by rw [ht]; exact h3⟩, hS.F ht⟩) hS.2.2 h1))) h
  have seg0 : pm_XW p l e (pm_rmx 4) s m (List.map pm_cv [.inr (.inl (some c)), .inl u1, .inl u2, .inl u3, .inr (.inl (some o))]).toArray below meth cd 0 0 (vx_MQ below (pm_Qc G cI cJ cR P f) (fun _ _ _ => False) (List.map pm_cv [.inr (.inl (some c)), .inl u1, .inl u2, .inl u3, .inr (.inl (some o))]).toArray s 1 6 (pm_dom f)) G vwCl cI cJ cR (pm_dom f) 6 0 [some (.inr (.inl (some c))), some (.inl u1), some (.inl u2), some (.inl u3), some (.inr (.inl (some o))), none] [] f := by
   refine sg_on eL_tour [7] 60 step ?_
   set_option maxRecDepth 100000 in simp (maxSteps := 2000000) only [pm_x_run, pm_x_rt, pm_x_rf, pm_z_S, pm_z_D, pm_z_cut0, pm_z_cut1, pm_z_cli, pm_z_clr, pm_z_cln, pm_z_cll, pm_z_up, pm_x_aload0, pm_x_aload4, pm_x_astore5, pm_x_c, pm_x_c2, pm_x_cn0, pm_x_cn1, pm_x_goto, pm_x_iload1, pm_x_iload2, pm_x_iload3, pm_x_invv, pm_x_last, pm_x_lst, pm_x_v0, pm_x_v1, pm_x_x2, pm_z_cat0, pm_z_cati, pm_z_catl, pm_z_catr, pm_z_i2l, pm_z_iconst, pm_z_pop0, pm_z_pop1, zL_tour_B, zL_tour_F, zL_tour_R, pm_z_ireti (zL_tour_R), dL_tour_0, dL_tour_2, dL_tour_3, dL_tour_4, dL_tour_5, dL_tour_6, dL_tour_7, dL_tour_10, dL_tour_11, dL_tour_12, dL_tour_15, dL_tour_17, dL_tour_18, dL_tour_19, dL_tour_20, Bool.cond_true, Bool.cond_false, Bool.or_false, Bool.false_or, Bool.true_or, Bool.or_true, true_and, and_true, if_true, if_false, List.length_cons, List.length_nil, List.getElem?_cons_zero, List.getElem?_cons_succ, List.set_cons_zero, List.set_cons_succ, Option.toList_some, Option.toList_none, List.cons_append, List.nil_append, beq_self_eq_true, Option.isSome_some, Option.isSome_none, pm_tg_lit, ite_true, ite_false, Nat.reduceAdd, Nat.reduceBEq, Nat.reduceLT, Nat.reduceLeDiff, Nat.reduceEqDiff, Int.reduceAdd, Int.reduceSub, Int.reduceLE, Int.reduceLT, Int.reduceEq, Int.reduceToNat, Int.reduceNeg, Int.cast_ofNat_Int, Int.reduceNatCast, Int.reduceNatCast', Int.zero_add, Int.add_zero, Nat.zero_add, Nat.add_zero, and_self, decide_true, decide_false, true_or, or_true, or_false, false_or, eq_self, Int.toNat_natCast, b2_e0, b2_e1, b2_ok, b2_w, b2_v, b2_tt, b2_ff, Bool.true_eq_false, Bool.false_eq_true, Option.some.injEq, Int.one_mul, Int.mul_one, not_true_eq_false, not_false_eq_true, ite_not, decide_eq_false_iff_not, decide_eq_true_eq, Int.reduceMul, Int.reduceMod]
   intro ho hs ls H locs hl hH hS
   obtain ⟨P', PX', hT', hk, hkx⟩ := hex
   obtain ⟨fs, hfc⟩ := hob
   refine pmx_rule (d := 4) (R := pm_rmx 4) (as := [.inr (.inl (some c)), .inl u1, .inl u2, .inl u3]) (r := [.inl 0, .inr (.inl (some o))]) (Nat.le_refl _) (Nat.le_refl _) (Nat.le_refl _) (Nat.le_refl _) hx hb hml hown hts hK hSt (wk_tour l sk hlt) dL_tour_7 rfl (Or.inr ⟨c, fs, _, rfl, hfc⟩) (Nat.le_of_ble_eq_true rfl) hT' (fun v hv => hok v (by simp at hv ⊢; rcases hv with rfl | rfl | rfl | rfl <;> simp [*])) hl.1 hH hS ?_ ?_
   · intro v f' H' locs' hp hok' hH' hS'
     obtain ⟨z, g, rfl, hg, hP⟩ := hk v f' hp
     have hz : pm_ok (.inl z) := hok' (.inl z) (by simp)
     have seg : pm_XW p l e (pm_rmx 4) s m (List.map pm_cv [.inr (.inl (some c)), .inl u1, .inl u2, .inl u3, .inr (.inl (some o))]).toArray below meth cd 0 0 (vx_MQ below (pm_Qc G cI cJ cR P f) (fun _ _ _ => False) (List.map pm_cv [.inr (.inl (some c)), .inl u1, .inl u2, .inl u3, .inr (.inl (some o))]).toArray s 1 6 (pm_dom f)) G vwCl cI cJ cR (pm_dom f) 6 10 [some (.inr (.inl (some c))), some (.inl u1), some (.inl u2), some (.inl u3), some (.inr (.inl (some o))), none] [.inl z, .inl 0, .inr (.inl (some o))] f' := by
       refine sg_on eL_tour [] 60 step ?_
       set_option maxRecDepth 100000 in simp (maxSteps := 2000000) only [pm_x_run, pm_x_rt, pm_x_rf, pm_z_S, pm_z_D, pm_z_cut0, pm_z_cut1, pm_z_cli, pm_z_clr, pm_z_cln, pm_z_cll, pm_z_up, pm_x_aload0, pm_x_aload4, pm_x_astore5, pm_x_c, pm_x_c2, pm_x_cn0, pm_x_cn1, pm_x_goto, pm_x_iload1, pm_x_iload2, pm_x_iload3, pm_x_invv, pm_x_last, pm_x_lst, pm_x_v0, pm_x_v1, pm_x_x2, pm_z_cat0, pm_z_cati, pm_z_catl, pm_z_catr, pm_z_i2l, pm_z_iconst, pm_z_pop0, pm_z_pop1, zL_tour_B, zL_tour_F, zL_tour_R, pm_z_ireti (zL_tour_R), dL_tour_0, dL_tour_2, dL_tour_3, dL_tour_4, dL_tour_5, dL_tour_6, dL_tour_7, dL_tour_10, dL_tour_11, dL_tour_12, dL_tour_15, dL_tour_17, dL_tour_18, dL_tour_19, dL_tour_20, Bool.cond_true, Bool.cond_false, Bool.or_false, Bool.false_or, Bool.true_or, Bool.or_true, true_and, and_true, if_true, if_false, List.length_cons, List.length_nil, List.getElem?_cons_zero, List.getElem?_cons_succ, List.set_cons_zero, List.set_cons_succ, Option.toList_some, Option.toList_none, List.cons_append, List.nil_append, beq_self_eq_true, Option.isSome_some, Option.isSome_none, pm_tg_lit, ite_true, ite_false, Nat.reduceAdd, Nat.reduceBEq, Nat.reduceLT, Nat.reduceLeDiff, Nat.reduceEqDiff, Int.reduceAdd, Int.reduceSub, Int.reduceLE, Int.reduceLT, Int.reduceEq, Int.reduceToNat, Int.reduceNeg, Int.cast_ofNat_Int, Int.reduceNatCast, Int.reduceNatCast', Int.zero_add, Int.add_zero, Nat.zero_add, Nat.add_zero, and_self, decide_true, decide_false, true_or, or_true, or_false, false_or, eq_self, Int.toNat_natCast, b2_e0, b2_e1, b2_ok, b2_w, b2_v, b2_tt, b2_ff, Bool.true_eq_false, Bool.false_eq_true, Option.some.injEq, Int.one_mul, Int.mul_one, not_true_eq_false, not_false_eq_true, ite_not, decide_eq_false_iff_not, decide_eq_true_eq, Int.reduceMul, Int.reduceMod, hg]
       exact hP
     exact seg ho (fun v hv => by simp at hv; rcases hv with rfl | rfl | rfl; exact hz; exact pm_in0; trivial) ls H' locs' hl hH' hS'
   · intro x f' H' locs' q9 ce hp hH' hS' hcell hcv hcl
     obtain ⟨n, hn, hPn⟩ := hkx x f' hp
     · skip
       rw [List.mem_singleton, Prod.mk.injEq] at hn
       obtain ⟨rfl, rfl⟩ := hn
       refine vx_catch (name := "java/lang/IndexOutOfBoundsException") hown [] ⟨0, 12, 15, 47⟩ [] htab (fun z hz => by cases hz) (by decide) (by decide) (ok _ (ps_in (by decide +kernel))) (va_Nw.use rfl (hK.2 _ (List.mem_filter.mpr ⟨List.contains_iff_mem.mp (by decide +kernel), rfl⟩))) hcell hcv hcl ?_
       refine lv_astore hx hb dL_tour_15 (pm_Lr_has hl) (by decide) rfl fun ls' hl' => ?_
       refine lv_iconst hx hb dL_tour_17 rfl ?_
       exact vx_ret (W.iret hx hb hr (fun t ht _ => ⟨⟨some (.inl 1), f', rfl, hPn, fun w hw => by simp at hw; subst hw; unfold pm_ok pm_in; omega, by rw [ht]; exact hH'⟩, hS'.F ht⟩) hS'.2.2 dL_tour_18)
  have hin : pm_init 6 [.inr (.inl (some c)), .inl u1, .inl u2, .inl u3, .inr (.inl (some o))] = [some (.inr (.inl (some c))), some (.inl u1), some (.inl u2), some (.inl u3), some (.inr (.inl (some o))), none] := by simp [pm_init, pm_put]
  rw [lg_entry_eq]
  rw [← hin] at seg0
  exact seg0 (fun i v hv => pm_put_ok [.inr (.inl (some c)), .inl u1, .inl u2, .inl u3, .inr (.inl (some o))] hok i v (pm_lg_app (pm_put [.inr (.inl (some c)), .inl u1, .inl u2, .inl u3, .inr (.inl (some o))]) _ i v hv)) (fun v hv => by cases hv) _ s.heap [] (pm_entry (as := [.inr (.inl (some c)), .inl u1, .inl u2, .inl u3, .inr (.inl (some o))]) (Nat.le_of_ble_eq_true rfl)) hH0 va_S.rf
def eL_deep : pm_E := (cL_deep, f0, fun _ => none, fun _ => none, fun _ => none, fun _ => none, some .int)
theorem zL_deep_B : pm_eB eL_deep = cL_deep := rfl
theorem zL_deep_F : pm_eF eL_deep = f0 := rfl
theorem zL_deep_R : pm_eR eL_deep = some .int := rfl
theorem wk_deep (l : Launch) (sk : Nat → Nat) (hlt : l.stackTraces = false) : pmx_COK l sk RL 4 67 3 (some 4) T_X4_deep := px_cok (i := 4) (Ct_X4_deep l sk hlt) ykX4_deep (by decide) (by decide) rfl rfl (by decide) (by decide +kernel) (pm_WS_mem 1017 (by decide +kernel) rfl)
set_option maxHeartbeats 4000000 in
set_option maxRecDepth 20000 in
theorem wc_deep (l : Launch) (sk : Nat → Nat) (hlt : l.stackTraces = false) (sv : Nat → Nat) (G : va_G) (cI cJ : ClassId) (cR : Nat → ClassId) {c o : Nat} {u1 : Int} {u2 : Int} {f : pm_H} {P : pm_P} (hob : ∃ fs, f c = some (.inr (.inr (.inr (4, fs))))) (hex : wT T_X4_deep cvI [("java/lang/IndexOutOfBoundsException", 1)] [.inr (.inl (some c)), .inl u1, .inl u2] o f P) (hok : ∀ v ∈ ([.inr (.inl (some c)), .inl u1, .inl u2, .inr (.inl (some o))] : List pm_V), pm_ok v) : vx_Met l yL_deep (.codeWith yL_deep cL_deep 5 (some .int) [(0, 10, 13, 47)] :: pm_WS) (pm_rmx 4) (pw_Pc sk sv G cI cJ cR [.inr (.inl (some c)), .inl u1, .inl u2, .inr (.inl (some o))] f) (pm_Qc G cI cJ cR P f) (fun _ _ _ => False) 1 6 (pm_dom f) := by
  refine vx_ofWH (cc := cL_deep) (maxL := 5) (ret := some .int) (hh := [(0, 10, 13, 47)]) (by decide) rfl ?_
  intro p e s m args below meth cd s₁ B hml hv
  obtain ⟨⟨rfl, hHd, hK, hSt⟩, hNC⟩ := hv
  have hx := B.exec
  have hb : cd.code = cL_deep := B.bytes
  have hr := B.returns
  have hlocks := B.notSynchronized
  have hts := atoms_spec (ws := .codeWith yL_deep cL_deep 5 (some .int) [(0, 10, 13, 47)] :: pm_WS) B.pre
  have ok : ∀ w ∈ pm_WS, w.before _ s = true := fun w hw => hts w (List.mem_cons_of_mem _ hw)
  have hown : s.vm.findClass RL = some m.cls := findClass_of_methodNamed B.named
  have htab : cd.exceptionTable.toList = tableOf [(0, 10, 13, 47)] := vx_table (x := yL_deep) B (hts _ List.mem_cons_self)
  have hH0 : pm_Hd G vwCl cI cJ cR (pm_dom f) f s.heap := fun a c0 hc => ⟨(hHd a c0 hc).1, ⟨c0, hc⟩, (hHd a c0 hc).2.2⟩
  have step := fun (pc : Nat) (lv : pm_L) (st : List pm_V) (f0 : pm_H) (h : pm_S eL_deep P (fun _ _ => False) (pm_XW p l e (pm_rmx 4) s m _ below meth cd 0 0 (vx_MQ below (pm_Qc G cI cJ cR P f) (fun _ _ _ => False) _ s 1 6 (pm_dom f)) G vwCl cI cJ cR (pm_dom f) 5) pc lv st f0) => sg_S (d := 0) (sk := sk) (sv := sv) (own := RL) eL_deep (Nat.zero_le _) (Nat.zero_le _) (Nat.zero_le _) (Nat.zero_le _) hx hb hml hown hts hK hSt (fun _ => rfl) (fun _ => rfl) (fun _ => rfl) (fun _ => rfl) (Or.inl rfl) (fun n k ci T h => by cases h) (fun pc z f1 ls H locs h1 _ hz hp h3 hS => W.widen (k := 1) (n := 6) (Nat.zero_le _) (Nat.zero_le _) (vx_ret (W.iret hx hb hr (fun t ht _ => ⟨⟨some (.inl z), f1, rfl, hp, fun w hw => by simp at hw; subst hw; exact hz, by rw [ht]; exact h3⟩, hS.F ht⟩) hS.2.2 h1))) h
  have seg0 : pm_XW p l e (pm_rmx 4) s m (List.map pm_cv [.inr (.inl (some c)), .inl u1, .inl u2, .inr (.inl (some o))]).toArray below meth cd 0 0 (vx_MQ below (pm_Qc G cI cJ cR P f) (fun _ _ _ => False) (List.map pm_cv [.inr (.inl (some c)), .inl u1, .inl u2, .inr (.inl (some o))]).toArray s 1 6 (pm_dom f)) G vwCl cI cJ cR (pm_dom f) 5 0 [some (.inr (.inl (some c))), some (.inl u1), some (.inl u2), some (.inr (.inl (some o))), none] [] f := by
   refine sg_on eL_deep [5] 60 step ?_
   set_option maxRecDepth 100000 in simp (maxSteps := 2000000) only [pm_x_run, pm_x_rt, pm_x_rf, pm_z_S, pm_z_D, pm_z_cut0, pm_z_cut1, pm_z_cli, pm_z_clr, pm_z_cln, pm_z_cll, pm_z_up, pm_x_aload0, pm_x_aload3, pm_x_astore4, pm_x_c, pm_x_c2, pm_x_cn0, pm_x_cn1, pm_x_goto, pm_x_iload1, pm_x_iload2, pm_x_invv, pm_x_last, pm_x_lst, pm_x_v0, pm_x_v1, pm_x_x2, pm_z_cat0, pm_z_cati, pm_z_catl, pm_z_catr, pm_z_i2l, pm_z_iconst, pm_z_pop0, pm_z_pop1, zL_deep_B, zL_deep_F, zL_deep_R, pm_z_ireti (zL_deep_R), dL_deep_0, dL_deep_1, dL_deep_2, dL_deep_3, dL_deep_4, dL_deep_5, dL_deep_8, dL_deep_9, dL_deep_10, dL_deep_13, dL_deep_15, dL_deep_16, dL_deep_17, dL_deep_18, Bool.cond_true, Bool.cond_false, Bool.or_false, Bool.false_or, Bool.true_or, Bool.or_true, true_and, and_true, if_true, if_false, List.length_cons, List.length_nil, List.getElem?_cons_zero, List.getElem?_cons_succ, List.set_cons_zero, List.set_cons_succ, Option.toList_some, Option.toList_none, List.cons_append, List.nil_append, beq_self_eq_true, Option.isSome_some, Option.isSome_none, pm_tg_lit, ite_true, ite_false, Nat.reduceAdd, Nat.reduceBEq, Nat.reduceLT, Nat.reduceLeDiff, Nat.reduceEqDiff, Int.reduceAdd, Int.reduceSub, Int.reduceLE, Int.reduceLT, Int.reduceEq, Int.reduceToNat, Int.reduceNeg, Int.cast_ofNat_Int, Int.reduceNatCast, Int.reduceNatCast', Int.zero_add, Int.add_zero, Nat.zero_add, Nat.add_zero, and_self, decide_true, decide_false, true_or, or_true, or_false, false_or, eq_self, Int.toNat_natCast, b2_e0, b2_e1, b2_ok, b2_w, b2_v, b2_tt, b2_ff, Bool.true_eq_false, Bool.false_eq_true, Option.some.injEq, Int.one_mul, Int.mul_one, not_true_eq_false, not_false_eq_true, ite_not, decide_eq_false_iff_not, decide_eq_true_eq, Int.reduceMul, Int.reduceMod]
   intro ho hs ls H locs hl hH hS
   obtain ⟨P', PX', hT', hk, hkx⟩ := hex
   obtain ⟨fs, hfc⟩ := hob
   refine pmx_rule (d := 4) (R := pm_rmx 4) (as := [.inr (.inl (some c)), .inl u1, .inl u2]) (r := [.inl 0, .inr (.inl (some o))]) (Nat.le_refl _) (Nat.le_refl _) (Nat.le_refl _) (Nat.le_refl _) hx hb hml hown hts hK hSt (wk_deep l sk hlt) dL_deep_5 rfl (Or.inr ⟨c, fs, _, rfl, hfc⟩) (Nat.le_of_ble_eq_true rfl) hT' (fun v hv => hok v (by simp at hv ⊢; rcases hv with rfl | rfl | rfl <;> simp [*])) hl.1 hH hS ?_ ?_
   · intro v f' H' locs' hp hok' hH' hS'
     obtain ⟨z, g, rfl, hg, hP⟩ := hk v f' hp
     have hz : pm_ok (.inl z) := hok' (.inl z) (by simp)
     have seg : pm_XW p l e (pm_rmx 4) s m (List.map pm_cv [.inr (.inl (some c)), .inl u1, .inl u2, .inr (.inl (some o))]).toArray below meth cd 0 0 (vx_MQ below (pm_Qc G cI cJ cR P f) (fun _ _ _ => False) (List.map pm_cv [.inr (.inl (some c)), .inl u1, .inl u2, .inr (.inl (some o))]).toArray s 1 6 (pm_dom f)) G vwCl cI cJ cR (pm_dom f) 5 8 [some (.inr (.inl (some c))), some (.inl u1), some (.inl u2), some (.inr (.inl (some o))), none] [.inl z, .inl 0, .inr (.inl (some o))] f' := by
       refine sg_on eL_deep [] 60 step ?_
       set_option maxRecDepth 100000 in simp (maxSteps := 2000000) only [pm_x_run, pm_x_rt, pm_x_rf, pm_z_S, pm_z_D, pm_z_cut0, pm_z_cut1, pm_z_cli, pm_z_clr, pm_z_cln, pm_z_cll, pm_z_up, pm_x_aload0, pm_x_aload3, pm_x_astore4, pm_x_c, pm_x_c2, pm_x_cn0, pm_x_cn1, pm_x_goto, pm_x_iload1, pm_x_iload2, pm_x_invv, pm_x_last, pm_x_lst, pm_x_v0, pm_x_v1, pm_x_x2, pm_z_cat0, pm_z_cati, pm_z_catl, pm_z_catr, pm_z_i2l, pm_z_iconst, pm_z_pop0, pm_z_pop1, zL_deep_B, zL_deep_F, zL_deep_R, pm_z_ireti (zL_deep_R), dL_deep_0, dL_deep_1, dL_deep_2, dL_deep_3, dL_deep_4, dL_deep_5, dL_deep_8, dL_deep_9, dL_deep_10, dL_deep_13, dL_deep_15, dL_deep_16, dL_deep_17, dL_deep_18, Bool.cond_true, Bool.cond_false, Bool.or_false, Bool.false_or, Bool.true_or, Bool.or_true, true_and, and_true, if_true, if_false, List.length_cons, List.length_nil, List.getElem?_cons_zero, List.getElem?_cons_succ, List.set_cons_zero, List.set_cons_succ, Option.toList_some, Option.toList_none, List.cons_append, List.nil_append, beq_self_eq_true, Option.isSome_some, Option.isSome_none, pm_tg_lit, ite_true, ite_false, Nat.reduceAdd, Nat.reduceBEq, Nat.reduceLT, Nat.reduceLeDiff, Nat.reduceEqDiff, Int.reduceAdd, Int.reduceSub, Int.reduceLE, Int.reduceLT, Int.reduceEq, Int.reduceToNat, Int.reduceNeg, Int.cast_ofNat_Int, Int.reduceNatCast, Int.reduceNatCast', Int.zero_add, Int.add_zero, Nat.zero_add, Nat.add_zero, and_self, decide_true, decide_false, true_or, or_true, or_false, false_or, eq_self, Int.toNat_natCast, b2_e0, b2_e1, b2_ok, b2_w, b2_v, b2_tt, b2_ff, Bool.true_eq_false, Bool.false_eq_true, Option.some.injEq, Int.one_mul, Int.mul_one, not_true_eq_false, not_false_eq_true, ite_not, decide_eq_false_iff_not, decide_eq_true_eq, Int.reduceMul, Int.reduceMod, hg]
       exact hP
     exact seg ho (fun v hv => by simp at hv; rcases hv with rfl | rfl | rfl; exact hz; exact pm_in0; trivial) ls H' locs' hl hH' hS'
   · intro x f' H' locs' q9 ce hp hH' hS' hcell hcv hcl
     obtain ⟨n, hn, hPn⟩ := hkx x f' hp
     · skip
       rw [List.mem_singleton, Prod.mk.injEq] at hn
       obtain ⟨rfl, rfl⟩ := hn
       refine vx_catch (name := "java/lang/IndexOutOfBoundsException") hown [] ⟨0, 10, 13, 47⟩ [] htab (fun z hz => by cases hz) (by decide) (by decide) (ok _ (ps_in (by decide +kernel))) (va_Nw.use rfl (hK.2 _ (List.mem_filter.mpr ⟨List.contains_iff_mem.mp (by decide +kernel), rfl⟩))) hcell hcv hcl ?_
       refine lv_astore hx hb dL_deep_13 (pm_Lr_has hl) (by decide) rfl fun ls' hl' => ?_
       refine lv_iconst hx hb dL_deep_15 rfl ?_
       exact vx_ret (W.iret hx hb hr (fun t ht _ => ⟨⟨some (.inl 1), f', rfl, hPn, fun w hw => by simp at hw; subst hw; unfold pm_ok pm_in; omega, by rw [ht]; exact hH'⟩, hS'.F ht⟩) hS'.2.2 dL_deep_16)
  have hin : pm_init 5 [.inr (.inl (some c)), .inl u1, .inl u2, .inr (.inl (some o))] = [some (.inr (.inl (some c))), some (.inl u1), some (.inl u2), some (.inr (.inl (some o))), none] := by simp [pm_init, pm_put]
  rw [lg_entry_eq]
  rw [← hin] at seg0
  exact seg0 (fun i v hv => pm_put_ok [.inr (.inl (some c)), .inl u1, .inl u2, .inr (.inl (some o))] hok i v (pm_lg_app (pm_put [.inr (.inl (some c)), .inl u1, .inl u2, .inr (.inl (some o))]) _ i v hv)) (fun v hv => by cases hv) _ s.heap [] (pm_entry (as := [.inr (.inl (some c)), .inl u1, .inl u2, .inr (.inl (some o))]) (Nat.le_of_ble_eq_true rfl)) hH0 va_S.rf
def eL_way : pm_E := (cL_way, f0, fun _ => none, fun _ => none, fun _ => none, fun _ => none, some .int)
theorem zL_way_B : pm_eB eL_way = cL_way := rfl
theorem zL_way_F : pm_eF eL_way = f0 := rfl
theorem zL_way_R : pm_eR eL_way = some .int := rfl
theorem wk_way (l : Launch) (sk : Nat → Nat) (hlt : l.stackTraces = false) : pmx_COK l sk RL 6 70 4 (some 4) T_X4_way := px_cok (i := 4) (Ct_X4_way l sk hlt) ykX4_way (by decide) (by decide) rfl rfl (by decide) (by decide +kernel) (pm_WS_mem 1038 (by decide +kernel) rfl)
set_option maxHeartbeats 4000000 in
set_option maxRecDepth 20000 in
theorem wc_way (l : Launch) (sk : Nat → Nat) (hlt : l.stackTraces = false) (sv : Nat → Nat) (G : va_G) (cI cJ : ClassId) (cR : Nat → ClassId) {c o : Nat} {u1 : Int} {u2 : Int} {u3 : Int} {f : pm_H} {P : pm_P} (hob : ∃ fs, f c = some (.inr (.inr (.inr (4, fs))))) (hex : wT T_X4_way cvI [("java/lang/IndexOutOfBoundsException", 1)] [.inr (.inl (some c)), .inl u1, .inl u2, .inl u3] o f P) (hok : ∀ v ∈ ([.inr (.inl (some c)), .inl u1, .inl u2, .inl u3, .inr (.inl (some o))] : List pm_V), pm_ok v) : vx_Met l yL_way (.codeWith yL_way cL_way 6 (some .int) [(0, 12, 15, 47)] :: pm_WS) (pm_rmx 6) (pw_Pc sk sv G cI cJ cR [.inr (.inl (some c)), .inl u1, .inl u2, .inl u3, .inr (.inl (some o))] f) (pm_Qc G cI cJ cR P f) (fun _ _ _ => False) 1 6 (pm_dom f) := by
  refine vx_ofWH (cc := cL_way) (maxL := 6) (ret := some .int) (hh := [(0, 12, 15, 47)]) (by decide) rfl ?_
  intro p e s m args below meth cd s₁ B hml hv
  obtain ⟨⟨rfl, hHd, hK, hSt⟩, hNC⟩ := hv
  have hx := B.exec
  have hb : cd.code = cL_way := B.bytes
  have hr := B.returns
  have hlocks := B.notSynchronized
  have hts := atoms_spec (ws := .codeWith yL_way cL_way 6 (some .int) [(0, 12, 15, 47)] :: pm_WS) B.pre
  have ok : ∀ w ∈ pm_WS, w.before _ s = true := fun w hw => hts w (List.mem_cons_of_mem _ hw)
  have hown : s.vm.findClass RL = some m.cls := findClass_of_methodNamed B.named
  have htab : cd.exceptionTable.toList = tableOf [(0, 12, 15, 47)] := vx_table (x := yL_way) B (hts _ List.mem_cons_self)
  have hH0 : pm_Hd G vwCl cI cJ cR (pm_dom f) f s.heap := fun a c0 hc => ⟨(hHd a c0 hc).1, ⟨c0, hc⟩, (hHd a c0 hc).2.2⟩
  have step := fun (pc : Nat) (lv : pm_L) (st : List pm_V) (f0 : pm_H) (h : pm_S eL_way P (fun _ _ => False) (pm_XW p l e (pm_rmx 6) s m _ below meth cd 0 0 (vx_MQ below (pm_Qc G cI cJ cR P f) (fun _ _ _ => False) _ s 1 6 (pm_dom f)) G vwCl cI cJ cR (pm_dom f) 6) pc lv st f0) => sg_S (d := 0) (sk := sk) (sv := sv) (own := RL) eL_way (Nat.zero_le _) (Nat.zero_le _) (Nat.zero_le _) (Nat.zero_le _) hx hb hml hown hts hK hSt (fun _ => rfl) (fun _ => rfl) (fun _ => rfl) (fun _ => rfl) (Or.inl rfl) (fun n k ci T h => by cases h) (fun pc z f1 ls H locs h1 _ hz hp h3 hS => W.widen (k := 1) (n := 6) (Nat.zero_le _) (Nat.zero_le _) (vx_ret (W.iret hx hb hr (fun t ht _ => ⟨⟨some (.inl z), f1, rfl, hp, fun w hw => by simp at hw; subst hw; exact hz, by rw [ht]; exact h3⟩, hS.F ht⟩) hS.2.2 h1))) h
  have seg0 : pm_XW p l e (pm_rmx 6) s m (List.map pm_cv [.inr (.inl (some c)), .inl u1, .inl u2, .inl u3, .inr (.inl (some o))]).toArray below meth cd 0 0 (vx_MQ below (pm_Qc G cI cJ cR P f) (fun _ _ _ => False) (List.map pm_cv [.inr (.inl (some c)), .inl u1, .inl u2, .inl u3, .inr (.inl (some o))]).toArray s 1 6 (pm_dom f)) G vwCl cI cJ cR (pm_dom f) 6 0 [some (.inr (.inl (some c))), some (.inl u1), some (.inl u2), some (.inl u3), some (.inr (.inl (some o))), none] [] f := by
   refine sg_on eL_way [7] 60 step ?_
   set_option maxRecDepth 100000 in simp (maxSteps := 2000000) only [pm_x_run, pm_x_rt, pm_x_rf, pm_z_S, pm_z_D, pm_z_cut0, pm_z_cut1, pm_z_cli, pm_z_clr, pm_z_cln, pm_z_cll, pm_z_up, pm_x_aload0, pm_x_aload4, pm_x_astore5, pm_x_c, pm_x_c2, pm_x_cn0, pm_x_cn1, pm_x_goto, pm_x_iload1, pm_x_iload2, pm_x_iload3, pm_x_invv, pm_x_last, pm_x_lst, pm_x_v0, pm_x_v1, pm_x_x2, pm_z_cat0, pm_z_cati, pm_z_catl, pm_z_catr, pm_z_i2l, pm_z_iconst, pm_z_pop0, pm_z_pop1, zL_way_B, zL_way_F, zL_way_R, pm_z_ireti (zL_way_R), dL_way_0, dL_way_2, dL_way_3, dL_way_4, dL_way_5, dL_way_6, dL_way_7, dL_way_10, dL_way_11, dL_way_12, dL_way_15, dL_way_17, dL_way_18, dL_way_19, dL_way_20, Bool.cond_true, Bool.cond_false, Bool.or_false, Bool.false_or, Bool.true_or, Bool.or_true, true_and, and_true, if_true, if_false, List.length_cons, List.length_nil, List.getElem?_cons_zero, List.getElem?_cons_succ, List.set_cons_zero, List.set_cons_succ, Option.toList_some, Option.toList_none, List.cons_append, List.nil_append, beq_self_eq_true, Option.isSome_some, Option.isSome_none, pm_tg_lit, ite_true, ite_false, Nat.reduceAdd, Nat.reduceBEq, Nat.reduceLT, Nat.reduceLeDiff, Nat.reduceEqDiff, Int.reduceAdd, Int.reduceSub, Int.reduceLE, Int.reduceLT, Int.reduceEq, Int.reduceToNat, Int.reduceNeg, Int.cast_ofNat_Int, Int.reduceNatCast, Int.reduceNatCast', Int.zero_add, Int.add_zero, Nat.zero_add, Nat.add_zero, and_self, decide_true, decide_false, true_or, or_true, or_false, false_or, eq_self, Int.toNat_natCast, b2_e0, b2_e1, b2_ok, b2_w, b2_v, b2_tt, b2_ff, Bool.true_eq_false, Bool.false_eq_true, Option.some.injEq, Int.one_mul, Int.mul_one, not_true_eq_false, not_false_eq_true, ite_not, decide_eq_false_iff_not, decide_eq_true_eq, Int.reduceMul, Int.reduceMod]
   intro ho hs ls H locs hl hH hS
   obtain ⟨P', PX', hT', hk, hkx⟩ := hex
   obtain ⟨fs, hfc⟩ := hob
   refine pmx_rule (d := 6) (R := pm_rmx 6) (as := [.inr (.inl (some c)), .inl u1, .inl u2, .inl u3]) (r := [.inl 0, .inr (.inl (some o))]) (Nat.le_refl _) (Nat.le_refl _) (Nat.le_refl _) (Nat.le_refl _) hx hb hml hown hts hK hSt (wk_way l sk hlt) dL_way_7 rfl (Or.inr ⟨c, fs, _, rfl, hfc⟩) (Nat.le_of_ble_eq_true rfl) hT' (fun v hv => hok v (by simp at hv ⊢; rcases hv with rfl | rfl | rfl | rfl <;> simp [*])) hl.1 hH hS ?_ ?_
   · intro v f' H' locs' hp hok' hH' hS'
     obtain ⟨z, g, rfl, hg, hP⟩ := hk v f' hp
     have hz : pm_ok (.inl z) := hok' (.inl z) (by simp)
     have seg : pm_XW p l e (pm_rmx 6) s m (List.map pm_cv [.inr (.inl (some c)), .inl u1, .inl u2, .inl u3, .inr (.inl (some o))]).toArray below meth cd 0 0 (vx_MQ below (pm_Qc G cI cJ cR P f) (fun _ _ _ => False) (List.map pm_cv [.inr (.inl (some c)), .inl u1, .inl u2, .inl u3, .inr (.inl (some o))]).toArray s 1 6 (pm_dom f)) G vwCl cI cJ cR (pm_dom f) 6 10 [some (.inr (.inl (some c))), some (.inl u1), some (.inl u2), some (.inl u3), some (.inr (.inl (some o))), none] [.inl z, .inl 0, .inr (.inl (some o))] f' := by
       refine sg_on eL_way [] 60 step ?_
       set_option maxRecDepth 100000 in simp (maxSteps := 2000000) only [pm_x_run, pm_x_rt, pm_x_rf, pm_z_S, pm_z_D, pm_z_cut0, pm_z_cut1, pm_z_cli, pm_z_clr, pm_z_cln, pm_z_cll, pm_z_up, pm_x_aload0, pm_x_aload4, pm_x_astore5, pm_x_c, pm_x_c2, pm_x_cn0, pm_x_cn1, pm_x_goto, pm_x_iload1, pm_x_iload2, pm_x_iload3, pm_x_invv, pm_x_last, pm_x_lst, pm_x_v0, pm_x_v1, pm_x_x2, pm_z_cat0, pm_z_cati, pm_z_catl, pm_z_catr, pm_z_i2l, pm_z_iconst, pm_z_pop0, pm_z_pop1, zL_way_B, zL_way_F, zL_way_R, pm_z_ireti (zL_way_R), dL_way_0, dL_way_2, dL_way_3, dL_way_4, dL_way_5, dL_way_6, dL_way_7, dL_way_10, dL_way_11, dL_way_12, dL_way_15, dL_way_17, dL_way_18, dL_way_19, dL_way_20, Bool.cond_true, Bool.cond_false, Bool.or_false, Bool.false_or, Bool.true_or, Bool.or_true, true_and, and_true, if_true, if_false, List.length_cons, List.length_nil, List.getElem?_cons_zero, List.getElem?_cons_succ, List.set_cons_zero, List.set_cons_succ, Option.toList_some, Option.toList_none, List.cons_append, List.nil_append, beq_self_eq_true, Option.isSome_some, Option.isSome_none, pm_tg_lit, ite_true, ite_false, Nat.reduceAdd, Nat.reduceBEq, Nat.reduceLT, Nat.reduceLeDiff, Nat.reduceEqDiff, Int.reduceAdd, Int.reduceSub, Int.reduceLE, Int.reduceLT, Int.reduceEq, Int.reduceToNat, Int.reduceNeg, Int.cast_ofNat_Int, Int.reduceNatCast, Int.reduceNatCast', Int.zero_add, Int.add_zero, Nat.zero_add, Nat.add_zero, and_self, decide_true, decide_false, true_or, or_true, or_false, false_or, eq_self, Int.toNat_natCast, b2_e0, b2_e1, b2_ok, b2_w, b2_v, b2_tt, b2_ff, Bool.true_eq_false, Bool.false_eq_true, Option.some.injEq, Int.one_mul, Int.mul_one, not_true_eq_false, not_false_eq_true, ite_not, decide_eq_false_iff_not, decide_eq_true_eq, Int.reduceMul, Int.reduceMod, hg]
       exact hP
     exact seg ho (fun v hv => by simp at hv; rcases hv with rfl | rfl | rfl; exact hz; exact pm_in0; trivial) ls H' locs' hl hH' hS'
   · intro x f' H' locs' q9 ce hp hH' hS' hcell hcv hcl
     obtain ⟨n, hn, hPn⟩ := hkx x f' hp
     · skip
       rw [List.mem_singleton, Prod.mk.injEq] at hn
       obtain ⟨rfl, rfl⟩ := hn
       refine vx_catch (name := "java/lang/IndexOutOfBoundsException") hown [] ⟨0, 12, 15, 47⟩ [] htab (fun z hz => by cases hz) (by decide) (by decide) (ok _ (ps_in (by decide +kernel))) (va_Nw.use rfl (hK.2 _ (List.mem_filter.mpr ⟨List.contains_iff_mem.mp (by decide +kernel), rfl⟩))) hcell hcv hcl ?_
       refine lv_astore hx hb dL_way_15 (pm_Lr_has hl) (by decide) rfl fun ls' hl' => ?_
       refine lv_iconst hx hb dL_way_17 rfl ?_
       exact vx_ret (W.iret hx hb hr (fun t ht _ => ⟨⟨some (.inl 1), f', rfl, hPn, fun w hw => by simp at hw; subst hw; unfold pm_ok pm_in; omega, by rw [ht]; exact hH'⟩, hS'.F ht⟩) hS'.2.2 dL_way_18)
  have hin : pm_init 6 [.inr (.inl (some c)), .inl u1, .inl u2, .inl u3, .inr (.inl (some o))] = [some (.inr (.inl (some c))), some (.inl u1), some (.inl u2), some (.inl u3), some (.inr (.inl (some o))), none] := by simp [pm_init, pm_put]
  rw [lg_entry_eq]
  rw [← hin] at seg0
  exact seg0 (fun i v hv => pm_put_ok [.inr (.inl (some c)), .inl u1, .inl u2, .inl u3, .inr (.inl (some o))] hok i v (pm_lg_app (pm_put [.inr (.inl (some c)), .inl u1, .inl u2, .inl u3, .inr (.inl (some o))]) _ i v hv)) (fun v hv => by cases hv) _ s.heap [] (pm_entry (as := [.inr (.inl (some c)), .inl u1, .inl u2, .inl u3, .inr (.inl (some o))]) (Nat.le_of_ble_eq_true rfl)) hH0 va_S.rf
def eL_near : pm_E := (cL_near, f0, fun _ => none, fun _ => none, fun _ => none, fun _ => none, some .int)
theorem zL_near_B : pm_eB eL_near = cL_near := rfl
theorem zL_near_F : pm_eF eL_near = f0 := rfl
theorem zL_near_R : pm_eR eL_near = some .int := rfl
theorem wk_near (l : Launch) (sk : Nat → Nat) (hlt : l.stackTraces = false) : pmx_COK l sk RL 5 73 3 (some 4) T_X4_near := px_cok (i := 4) (Ct_X4_near l sk hlt) ykX4_near (by decide) (by decide) rfl rfl (by decide) (by decide +kernel) (pm_WS_mem 1058 (by decide +kernel) rfl)
set_option maxHeartbeats 4000000 in
set_option maxRecDepth 20000 in
theorem wc_near (l : Launch) (sk : Nat → Nat) (hlt : l.stackTraces = false) (sv : Nat → Nat) (G : va_G) (cI cJ : ClassId) (cR : Nat → ClassId) {c o : Nat} {u1 : Int} {u2 : Int} {f : pm_H} {P : pm_P} (hob : ∃ fs, f c = some (.inr (.inr (.inr (4, fs))))) (hex : wT T_X4_near cvI [("java/lang/IndexOutOfBoundsException", 1)] [.inr (.inl (some c)), .inl u1, .inl u2] o f P) (hok : ∀ v ∈ ([.inr (.inl (some c)), .inl u1, .inl u2, .inr (.inl (some o))] : List pm_V), pm_ok v) : vx_Met l yL_near (.codeWith yL_near cL_near 5 (some .int) [(0, 10, 13, 47)] :: pm_WS) (pm_rmx 5) (pw_Pc sk sv G cI cJ cR [.inr (.inl (some c)), .inl u1, .inl u2, .inr (.inl (some o))] f) (pm_Qc G cI cJ cR P f) (fun _ _ _ => False) 1 6 (pm_dom f) := by
  refine vx_ofWH (cc := cL_near) (maxL := 5) (ret := some .int) (hh := [(0, 10, 13, 47)]) (by decide) rfl ?_
  intro p e s m args below meth cd s₁ B hml hv
  obtain ⟨⟨rfl, hHd, hK, hSt⟩, hNC⟩ := hv
  have hx := B.exec
  have hb : cd.code = cL_near := B.bytes
  have hr := B.returns
  have hlocks := B.notSynchronized
  have hts := atoms_spec (ws := .codeWith yL_near cL_near 5 (some .int) [(0, 10, 13, 47)] :: pm_WS) B.pre
  have ok : ∀ w ∈ pm_WS, w.before _ s = true := fun w hw => hts w (List.mem_cons_of_mem _ hw)
  have hown : s.vm.findClass RL = some m.cls := findClass_of_methodNamed B.named
  have htab : cd.exceptionTable.toList = tableOf [(0, 10, 13, 47)] := vx_table (x := yL_near) B (hts _ List.mem_cons_self)
  have hH0 : pm_Hd G vwCl cI cJ cR (pm_dom f) f s.heap := fun a c0 hc => ⟨(hHd a c0 hc).1, ⟨c0, hc⟩, (hHd a c0 hc).2.2⟩
  have step := fun (pc : Nat) (lv : pm_L) (st : List pm_V) (f0 : pm_H) (h : pm_S eL_near P (fun _ _ => False) (pm_XW p l e (pm_rmx 5) s m _ below meth cd 0 0 (vx_MQ below (pm_Qc G cI cJ cR P f) (fun _ _ _ => False) _ s 1 6 (pm_dom f)) G vwCl cI cJ cR (pm_dom f) 5) pc lv st f0) => sg_S (d := 0) (sk := sk) (sv := sv) (own := RL) eL_near (Nat.zero_le _) (Nat.zero_le _) (Nat.zero_le _) (Nat.zero_le _) hx hb hml hown hts hK hSt (fun _ => rfl) (fun _ => rfl) (fun _ => rfl) (fun _ => rfl) (Or.inl rfl) (fun n k ci T h => by cases h) (fun pc z f1 ls H locs h1 _ hz hp h3 hS => W.widen (k := 1) (n := 6) (Nat.zero_le _) (Nat.zero_le _) (vx_ret (W.iret hx hb hr (fun t ht _ => ⟨⟨some (.inl z), f1, rfl, hp, fun w hw => by simp at hw; subst hw; exact hz, by rw [ht]; exact h3⟩, hS.F ht⟩) hS.2.2 h1))) h
  have seg0 : pm_XW p l e (pm_rmx 5) s m (List.map pm_cv [.inr (.inl (some c)), .inl u1, .inl u2, .inr (.inl (some o))]).toArray below meth cd 0 0 (vx_MQ below (pm_Qc G cI cJ cR P f) (fun _ _ _ => False) (List.map pm_cv [.inr (.inl (some c)), .inl u1, .inl u2, .inr (.inl (some o))]).toArray s 1 6 (pm_dom f)) G vwCl cI cJ cR (pm_dom f) 5 0 [some (.inr (.inl (some c))), some (.inl u1), some (.inl u2), some (.inr (.inl (some o))), none] [] f := by
   refine sg_on eL_near [5] 60 step ?_
   set_option maxRecDepth 100000 in simp (maxSteps := 2000000) only [pm_x_run, pm_x_rt, pm_x_rf, pm_z_S, pm_z_D, pm_z_cut0, pm_z_cut1, pm_z_cli, pm_z_clr, pm_z_cln, pm_z_cll, pm_z_up, pm_x_aload0, pm_x_aload3, pm_x_astore4, pm_x_c, pm_x_c2, pm_x_cn0, pm_x_cn1, pm_x_goto, pm_x_iload1, pm_x_iload2, pm_x_invv, pm_x_last, pm_x_lst, pm_x_v0, pm_x_v1, pm_x_x2, pm_z_cat0, pm_z_cati, pm_z_catl, pm_z_catr, pm_z_i2l, pm_z_iconst, pm_z_pop0, pm_z_pop1, zL_near_B, zL_near_F, zL_near_R, pm_z_ireti (zL_near_R), dL_near_0, dL_near_1, dL_near_2, dL_near_3, dL_near_4, dL_near_5, dL_near_8, dL_near_9, dL_near_10, dL_near_13, dL_near_15, dL_near_16, dL_near_17, dL_near_18, Bool.cond_true, Bool.cond_false, Bool.or_false, Bool.false_or, Bool.true_or, Bool.or_true, true_and, and_true, if_true, if_false, List.length_cons, List.length_nil, List.getElem?_cons_zero, List.getElem?_cons_succ, List.set_cons_zero, List.set_cons_succ, Option.toList_some, Option.toList_none, List.cons_append, List.nil_append, beq_self_eq_true, Option.isSome_some, Option.isSome_none, pm_tg_lit, ite_true, ite_false, Nat.reduceAdd, Nat.reduceBEq, Nat.reduceLT, Nat.reduceLeDiff, Nat.reduceEqDiff, Int.reduceAdd, Int.reduceSub, Int.reduceLE, Int.reduceLT, Int.reduceEq, Int.reduceToNat, Int.reduceNeg, Int.cast_ofNat_Int, Int.reduceNatCast, Int.reduceNatCast', Int.zero_add, Int.add_zero, Nat.zero_add, Nat.add_zero, and_self, decide_true, decide_false, true_or, or_true, or_false, false_or, eq_self, Int.toNat_natCast, b2_e0, b2_e1, b2_ok, b2_w, b2_v, b2_tt, b2_ff, Bool.true_eq_false, Bool.false_eq_true, Option.some.injEq, Int.one_mul, Int.mul_one, not_true_eq_false, not_false_eq_true, ite_not, decide_eq_false_iff_not, decide_eq_true_eq, Int.reduceMul, Int.reduceMod]
   intro ho hs ls H locs hl hH hS
   obtain ⟨P', PX', hT', hk, hkx⟩ := hex
   obtain ⟨fs, hfc⟩ := hob
   refine pmx_rule (d := 5) (R := pm_rmx 5) (as := [.inr (.inl (some c)), .inl u1, .inl u2]) (r := [.inl 0, .inr (.inl (some o))]) (Nat.le_refl _) (Nat.le_refl _) (Nat.le_refl _) (Nat.le_refl _) hx hb hml hown hts hK hSt (wk_near l sk hlt) dL_near_5 rfl (Or.inr ⟨c, fs, _, rfl, hfc⟩) (Nat.le_of_ble_eq_true rfl) hT' (fun v hv => hok v (by simp at hv ⊢; rcases hv with rfl | rfl | rfl <;> simp [*])) hl.1 hH hS ?_ ?_
   · intro v f' H' locs' hp hok' hH' hS'
     obtain ⟨z, g, rfl, hg, hP⟩ := hk v f' hp
     have hz : pm_ok (.inl z) := hok' (.inl z) (by simp)
     have seg : pm_XW p l e (pm_rmx 5) s m (List.map pm_cv [.inr (.inl (some c)), .inl u1, .inl u2, .inr (.inl (some o))]).toArray below meth cd 0 0 (vx_MQ below (pm_Qc G cI cJ cR P f) (fun _ _ _ => False) (List.map pm_cv [.inr (.inl (some c)), .inl u1, .inl u2, .inr (.inl (some o))]).toArray s 1 6 (pm_dom f)) G vwCl cI cJ cR (pm_dom f) 5 8 [some (.inr (.inl (some c))), some (.inl u1), some (.inl u2), some (.inr (.inl (some o))), none] [.inl z, .inl 0, .inr (.inl (some o))] f' := by
       refine sg_on eL_near [] 60 step ?_
       set_option maxRecDepth 100000 in simp (maxSteps := 2000000) only [pm_x_run, pm_x_rt, pm_x_rf, pm_z_S, pm_z_D, pm_z_cut0, pm_z_cut1, pm_z_cli, pm_z_clr, pm_z_cln, pm_z_cll, pm_z_up, pm_x_aload0, pm_x_aload3, pm_x_astore4, pm_x_c, pm_x_c2, pm_x_cn0, pm_x_cn1, pm_x_goto, pm_x_iload1, pm_x_iload2, pm_x_invv, pm_x_last, pm_x_lst, pm_x_v0, pm_x_v1, pm_x_x2, pm_z_cat0, pm_z_cati, pm_z_catl, pm_z_catr, pm_z_i2l, pm_z_iconst, pm_z_pop0, pm_z_pop1, zL_near_B, zL_near_F, zL_near_R, pm_z_ireti (zL_near_R), dL_near_0, dL_near_1, dL_near_2, dL_near_3, dL_near_4, dL_near_5, dL_near_8, dL_near_9, dL_near_10, dL_near_13, dL_near_15, dL_near_16, dL_near_17, dL_near_18, Bool.cond_true, Bool.cond_false, Bool.or_false, Bool.false_or, Bool.true_or, Bool.or_true, true_and, and_true, if_true, if_false, List.length_cons, List.length_nil, List.getElem?_cons_zero, List.getElem?_cons_succ, List.set_cons_zero, List.set_cons_succ, Option.toList_some, Option.toList_none, List.cons_append, List.nil_append, beq_self_eq_true, Option.isSome_some, Option.isSome_none, pm_tg_lit, ite_true, ite_false, Nat.reduceAdd, Nat.reduceBEq, Nat.reduceLT, Nat.reduceLeDiff, Nat.reduceEqDiff, Int.reduceAdd, Int.reduceSub, Int.reduceLE, Int.reduceLT, Int.reduceEq, Int.reduceToNat, Int.reduceNeg, Int.cast_ofNat_Int, Int.reduceNatCast, Int.reduceNatCast', Int.zero_add, Int.add_zero, Nat.zero_add, Nat.add_zero, and_self, decide_true, decide_false, true_or, or_true, or_false, false_or, eq_self, Int.toNat_natCast, b2_e0, b2_e1, b2_ok, b2_w, b2_v, b2_tt, b2_ff, Bool.true_eq_false, Bool.false_eq_true, Option.some.injEq, Int.one_mul, Int.mul_one, not_true_eq_false, not_false_eq_true, ite_not, decide_eq_false_iff_not, decide_eq_true_eq, Int.reduceMul, Int.reduceMod, hg]
       exact hP
     exact seg ho (fun v hv => by simp at hv; rcases hv with rfl | rfl | rfl; exact hz; exact pm_in0; trivial) ls H' locs' hl hH' hS'
   · intro x f' H' locs' q9 ce hp hH' hS' hcell hcv hcl
     obtain ⟨n, hn, hPn⟩ := hkx x f' hp
     · skip
       rw [List.mem_singleton, Prod.mk.injEq] at hn
       obtain ⟨rfl, rfl⟩ := hn
       refine vx_catch (name := "java/lang/IndexOutOfBoundsException") hown [] ⟨0, 10, 13, 47⟩ [] htab (fun z hz => by cases hz) (by decide) (by decide) (ok _ (ps_in (by decide +kernel))) (va_Nw.use rfl (hK.2 _ (List.mem_filter.mpr ⟨List.contains_iff_mem.mp (by decide +kernel), rfl⟩))) hcell hcv hcl ?_
       refine lv_astore hx hb dL_near_13 (pm_Lr_has hl) (by decide) rfl fun ls' hl' => ?_
       refine lv_iconst hx hb dL_near_15 rfl ?_
       exact vx_ret (W.iret hx hb hr (fun t ht _ => ⟨⟨some (.inl 1), f', rfl, hPn, fun w hw => by simp at hw; subst hw; unfold pm_ok pm_in; omega, by rw [ht]; exact hH'⟩, hS'.F ht⟩) hS'.2.2 dL_near_16)
  have hin : pm_init 5 [.inr (.inl (some c)), .inl u1, .inl u2, .inr (.inl (some o))] = [some (.inr (.inl (some c))), some (.inl u1), some (.inl u2), some (.inr (.inl (some o))), none] := by simp [pm_init, pm_put]
  rw [lg_entry_eq]
  rw [← hin] at seg0
  exact seg0 (fun i v hv => pm_put_ok [.inr (.inl (some c)), .inl u1, .inl u2, .inr (.inl (some o))] hok i v (pm_lg_app (pm_put [.inr (.inl (some c)), .inl u1, .inl u2, .inr (.inl (some o))]) _ i v hv)) (fun v hv => by cases hv) _ s.heap [] (pm_entry (as := [.inr (.inl (some c)), .inl u1, .inl u2, .inr (.inl (some o))]) (Nat.le_of_ble_eq_true rfl)) hH0 va_S.rf
def eL_heir : pm_E := (cL_heir, f0, fun _ => none, fun _ => none, fun _ => none, fun _ => none, some .int)
theorem zL_heir_B : pm_eB eL_heir = cL_heir := rfl
theorem zL_heir_F : pm_eF eL_heir = f0 := rfl
theorem zL_heir_R : pm_eR eL_heir = some .int := rfl
theorem wk_heir (l : Launch) (sk : Nat → Nat) (hlt : l.stackTraces = false) : pmx_COK l sk RL 6 76 2 (some 4) T_X4_heir := px_cok (i := 4) (Ct_X4_heir l sk hlt) ykX4_heir (by decide) (by decide) rfl rfl (by decide) (by decide +kernel) (pm_WS_mem 1069 (by decide +kernel) rfl)
set_option maxHeartbeats 4000000 in
set_option maxRecDepth 20000 in
theorem wc_heir (l : Launch) (sk : Nat → Nat) (hlt : l.stackTraces = false) (sv : Nat → Nat) (G : va_G) (cI cJ : ClassId) (cR : Nat → ClassId) {c o : Nat} {u1 : Int} {f : pm_H} {P : pm_P} (hob : ∃ fs, f c = some (.inr (.inr (.inr (4, fs))))) (hex : wT T_X4_heir cvI [("java/lang/IndexOutOfBoundsException", 1), ("java/lang/IllegalStateException", 2)] [.inr (.inl (some c)), .inl u1] o f P) (hok : ∀ v ∈ ([.inr (.inl (some c)), .inl u1, .inr (.inl (some o))] : List pm_V), pm_ok v) : vx_Met l yL_heir (.codeWith yL_heir cL_heir 4 (some .int) [(0, 9, 12, 47), (0, 9, 15, 23)] :: pm_WS) (pm_rmx 6) (pw_Pc sk sv G cI cJ cR [.inr (.inl (some c)), .inl u1, .inr (.inl (some o))] f) (pm_Qc G cI cJ cR P f) (fun _ _ _ => False) 1 6 (pm_dom f) := by
  refine vx_ofWH (cc := cL_heir) (maxL := 4) (ret := some .int) (hh := [(0, 9, 12, 47), (0, 9, 15, 23)]) (by decide) rfl ?_
  intro p e s m args below meth cd s₁ B hml hv
  obtain ⟨⟨rfl, hHd, hK, hSt⟩, hNC⟩ := hv
  have hx := B.exec
  have hb : cd.code = cL_heir := B.bytes
  have hr := B.returns
  have hlocks := B.notSynchronized
  have hts := atoms_spec (ws := .codeWith yL_heir cL_heir 4 (some .int) [(0, 9, 12, 47), (0, 9, 15, 23)] :: pm_WS) B.pre
  have ok : ∀ w ∈ pm_WS, w.before _ s = true := fun w hw => hts w (List.mem_cons_of_mem _ hw)
  have hown : s.vm.findClass RL = some m.cls := findClass_of_methodNamed B.named
  have htab : cd.exceptionTable.toList = tableOf [(0, 9, 12, 47), (0, 9, 15, 23)] := vx_table (x := yL_heir) B (hts _ List.mem_cons_self)
  have hH0 : pm_Hd G vwCl cI cJ cR (pm_dom f) f s.heap := fun a c0 hc => ⟨(hHd a c0 hc).1, ⟨c0, hc⟩, (hHd a c0 hc).2.2⟩
  have step := fun (pc : Nat) (lv : pm_L) (st : List pm_V) (f0 : pm_H) (h : pm_S eL_heir P (fun _ _ => False) (pm_XW p l e (pm_rmx 6) s m _ below meth cd 0 0 (vx_MQ below (pm_Qc G cI cJ cR P f) (fun _ _ _ => False) _ s 1 6 (pm_dom f)) G vwCl cI cJ cR (pm_dom f) 4) pc lv st f0) => sg_S (d := 0) (sk := sk) (sv := sv) (own := RL) eL_heir (Nat.zero_le _) (Nat.zero_le _) (Nat.zero_le _) (Nat.zero_le _) hx hb hml hown hts hK hSt (fun _ => rfl) (fun _ => rfl) (fun _ => rfl) (fun _ => rfl) (Or.inl rfl) (fun n k ci T h => by cases h) (fun pc z f1 ls H locs h1 _ hz hp h3 hS => W.widen (k := 1) (n := 6) (Nat.zero_le _) (Nat.zero_le _) (vx_ret (W.iret hx hb hr (fun t ht _ => ⟨⟨some (.inl z), f1, rfl, hp, fun w hw => by simp at hw; subst hw; exact hz, by rw [ht]; exact h3⟩, hS.F ht⟩) hS.2.2 h1))) h
  have seg0 : pm_XW p l e (pm_rmx 6) s m (List.map pm_cv [.inr (.inl (some c)), .inl u1, .inr (.inl (some o))]).toArray below meth cd 0 0 (vx_MQ below (pm_Qc G cI cJ cR P f) (fun _ _ _ => False) (List.map pm_cv [.inr (.inl (some c)), .inl u1, .inr (.inl (some o))]).toArray s 1 6 (pm_dom f)) G vwCl cI cJ cR (pm_dom f) 4 0 [some (.inr (.inl (some c))), some (.inl u1), some (.inr (.inl (some o))), none] [] f := by
   refine sg_on eL_heir [4] 60 step ?_
   set_option maxRecDepth 100000 in simp (maxSteps := 2000000) only [pm_x_run, pm_x_rt, pm_x_rf, pm_z_S, pm_z_D, pm_z_cut0, pm_z_cut1, pm_z_cli, pm_z_clr, pm_z_cln, pm_z_cll, pm_z_up, pm_x_aload0, pm_x_aload2, pm_x_astore3, pm_x_c, pm_x_c2, pm_x_cn0, pm_x_cn1, pm_x_goto, pm_x_iload1, pm_x_invv, pm_x_last, pm_x_lst, pm_x_v0, pm_x_v1, pm_x_x2, pm_z_cat0, pm_z_cati, pm_z_catl, pm_z_catr, pm_z_i2l, pm_z_iconst, pm_z_pop0, pm_z_pop1, zL_heir_B, zL_heir_F, zL_heir_R, pm_z_ireti (zL_heir_R), dL_heir_0, dL_heir_1, dL_heir_2, dL_heir_3, dL_heir_4, dL_heir_7, dL_heir_8, dL_heir_9, dL_heir_12, dL_heir_13, dL_heir_14, dL_heir_15, dL_heir_16, dL_heir_17, dL_heir_18, dL_heir_19, Bool.cond_true, Bool.cond_false, Bool.or_false, Bool.false_or, Bool.true_or, Bool.or_true, true_and, and_true, if_true, if_false, List.length_cons, List.length_nil, List.getElem?_cons_zero, List.getElem?_cons_succ, List.set_cons_zero, List.set_cons_succ, Option.toList_some, Option.toList_none, List.cons_append, List.nil_append, beq_self_eq_true, Option.isSome_some, Option.isSome_none, pm_tg_lit, ite_true, ite_false, Nat.reduceAdd, Nat.reduceBEq, Nat.reduceLT, Nat.reduceLeDiff, Nat.reduceEqDiff, Int.reduceAdd, Int.reduceSub, Int.reduceLE, Int.reduceLT, Int.reduceEq, Int.reduceToNat, Int.reduceNeg, Int.cast_ofNat_Int, Int.reduceNatCast, Int.reduceNatCast', Int.zero_add, Int.add_zero, Nat.zero_add, Nat.add_zero, and_self, decide_true, decide_false, true_or, or_true, or_false, false_or, eq_self, Int.toNat_natCast, b2_e0, b2_e1, b2_ok, b2_w, b2_v, b2_tt, b2_ff, Bool.true_eq_false, Bool.false_eq_true, Option.some.injEq, Int.one_mul, Int.mul_one, not_true_eq_false, not_false_eq_true, ite_not, decide_eq_false_iff_not, decide_eq_true_eq, Int.reduceMul, Int.reduceMod]
   intro ho hs ls H locs hl hH hS
   obtain ⟨P', PX', hT', hk, hkx⟩ := hex
   obtain ⟨fs, hfc⟩ := hob
   refine pmx_rule (d := 6) (R := pm_rmx 6) (as := [.inr (.inl (some c)), .inl u1]) (r := [.inl 0, .inr (.inl (some o))]) (Nat.le_refl _) (Nat.le_refl _) (Nat.le_refl _) (Nat.le_refl _) hx hb hml hown hts hK hSt (wk_heir l sk hlt) dL_heir_4 rfl (Or.inr ⟨c, fs, _, rfl, hfc⟩) (Nat.le_of_ble_eq_true rfl) hT' (fun v hv => hok v (by simp at hv ⊢; rcases hv with rfl | rfl <;> simp [*])) hl.1 hH hS ?_ ?_
   · intro v f' H' locs' hp hok' hH' hS'
     obtain ⟨z, g, rfl, hg, hP⟩ := hk v f' hp
     have hz : pm_ok (.inl z) := hok' (.inl z) (by simp)
     have seg : pm_XW p l e (pm_rmx 6) s m (List.map pm_cv [.inr (.inl (some c)), .inl u1, .inr (.inl (some o))]).toArray below meth cd 0 0 (vx_MQ below (pm_Qc G cI cJ cR P f) (fun _ _ _ => False) (List.map pm_cv [.inr (.inl (some c)), .inl u1, .inr (.inl (some o))]).toArray s 1 6 (pm_dom f)) G vwCl cI cJ cR (pm_dom f) 4 7 [some (.inr (.inl (some c))), some (.inl u1), some (.inr (.inl (some o))), none] [.inl z, .inl 0, .inr (.inl (some o))] f' := by
       refine sg_on eL_heir [] 60 step ?_
       set_option maxRecDepth 100000 in simp (maxSteps := 2000000) only [pm_x_run, pm_x_rt, pm_x_rf, pm_z_S, pm_z_D, pm_z_cut0, pm_z_cut1, pm_z_cli, pm_z_clr, pm_z_cln, pm_z_cll, pm_z_up, pm_x_aload0, pm_x_aload2, pm_x_astore3, pm_x_c, pm_x_c2, pm_x_cn0, pm_x_cn1, pm_x_goto, pm_x_iload1, pm_x_invv, pm_x_last, pm_x_lst, pm_x_v0, pm_x_v1, pm_x_x2, pm_z_cat0, pm_z_cati, pm_z_catl, pm_z_catr, pm_z_i2l, pm_z_iconst, pm_z_pop0, pm_z_pop1, zL_heir_B, zL_heir_F, zL_heir_R, pm_z_ireti (zL_heir_R), dL_heir_0, dL_heir_1, dL_heir_2, dL_heir_3, dL_heir_4, dL_heir_7, dL_heir_8, dL_heir_9, dL_heir_12, dL_heir_13, dL_heir_14, dL_heir_15, dL_heir_16, dL_heir_17, dL_heir_18, dL_heir_19, Bool.cond_true, Bool.cond_false, Bool.or_false, Bool.false_or, Bool.true_or, Bool.or_true, true_and, and_true, if_true, if_false, List.length_cons, List.length_nil, List.getElem?_cons_zero, List.getElem?_cons_succ, List.set_cons_zero, List.set_cons_succ, Option.toList_some, Option.toList_none, List.cons_append, List.nil_append, beq_self_eq_true, Option.isSome_some, Option.isSome_none, pm_tg_lit, ite_true, ite_false, Nat.reduceAdd, Nat.reduceBEq, Nat.reduceLT, Nat.reduceLeDiff, Nat.reduceEqDiff, Int.reduceAdd, Int.reduceSub, Int.reduceLE, Int.reduceLT, Int.reduceEq, Int.reduceToNat, Int.reduceNeg, Int.cast_ofNat_Int, Int.reduceNatCast, Int.reduceNatCast', Int.zero_add, Int.add_zero, Nat.zero_add, Nat.add_zero, and_self, decide_true, decide_false, true_or, or_true, or_false, false_or, eq_self, Int.toNat_natCast, b2_e0, b2_e1, b2_ok, b2_w, b2_v, b2_tt, b2_ff, Bool.true_eq_false, Bool.false_eq_true, Option.some.injEq, Int.one_mul, Int.mul_one, not_true_eq_false, not_false_eq_true, ite_not, decide_eq_false_iff_not, decide_eq_true_eq, Int.reduceMul, Int.reduceMod, hg]
       exact hP
     exact seg ho (fun v hv => by simp at hv; rcases hv with rfl | rfl | rfl; exact hz; exact pm_in0; trivial) ls H' locs' hl hH' hS'
   · intro x f' H' locs' q9 ce hp hH' hS' hcell hcv hcl
     obtain ⟨n, hn, hPn⟩ := hkx x f' hp
     · skip
       simp only [List.mem_cons, List.not_mem_nil, or_false, Prod.mk.injEq] at hn
       rcases hn with ⟨rfl, rfl⟩ | ⟨rfl, rfl⟩
       · refine vx_catch (name := "java/lang/IndexOutOfBoundsException") hown [] ⟨0, 9, 12, 47⟩ [⟨0, 9, 15, 23⟩] htab (fun z hz => by cases hz) (by decide) (by decide) (ok _ (ps_in (by decide +kernel))) (va_Nw.use rfl (hK.2 _ (List.mem_filter.mpr ⟨List.contains_iff_mem.mp (by decide +kernel), rfl⟩))) hcell hcv hcl ?_
         refine lv_astore_n hx hb dL_heir_12 rfl (pm_Lr_has hl) (by decide) rfl fun ls' hl' => ?_
         refine lv_iconst hx hb dL_heir_13 rfl ?_
         exact vx_ret (W.iret hx hb hr (fun t ht _ => ⟨⟨some (.inl 1), f', rfl, hPn, fun w hw => by simp at hw; subst hw; unfold pm_ok pm_in; omega, by rw [ht]; exact hH'⟩, hS'.F ht⟩) hS'.2.2 dL_heir_14)
       · refine vx_catch (name := "java/lang/IllegalStateException") hown [⟨0, 9, 12, 47⟩] ⟨0, 9, 15, 23⟩ [] htab (fun z hz => by
           simp only [List.mem_cons, List.not_mem_nil, or_false] at hz
           rcases hz with rfl
           · exact Or.inr ⟨by decide, "java/lang/IndexOutOfBoundsException", ok _ (ps_in (by decide +kernel)), hNC ("java/lang/IllegalStateException", "java/lang/IndexOutOfBoundsException") (by decide)⟩) (by decide) (by decide) (ok _ (ps_in (by decide +kernel))) (va_Nw.use rfl (hK.2 _ (List.mem_filter.mpr ⟨List.contains_iff_mem.mp (by decide +kernel), rfl⟩))) hcell hcv hcl ?_
         refine lv_astore_n hx hb dL_heir_15 rfl (pm_Lr_has hl) (by decide) rfl fun ls' hl' => ?_
         refine lv_iconst hx hb dL_heir_16 rfl ?_
         exact vx_ret (W.iret hx hb hr (fun t ht _ => ⟨⟨some (.inl 2), f', rfl, hPn, fun w hw => by simp at hw; subst hw; unfold pm_ok pm_in; omega, by rw [ht]; exact hH'⟩, hS'.F ht⟩) hS'.2.2 dL_heir_17)
  have hin : pm_init 4 [.inr (.inl (some c)), .inl u1, .inr (.inl (some o))] = [some (.inr (.inl (some c))), some (.inl u1), some (.inr (.inl (some o))), none] := by simp [pm_init, pm_put]
  rw [lg_entry_eq]
  rw [← hin] at seg0
  exact seg0 (fun i v hv => pm_put_ok [.inr (.inl (some c)), .inl u1, .inr (.inl (some o))] hok i v (pm_lg_app (pm_put [.inr (.inl (some c)), .inl u1, .inr (.inl (some o))]) _ i v hv)) (fun v hv => by cases hv) _ s.heap [] (pm_entry (as := [.inr (.inl (some c)), .inl u1, .inr (.inl (some o))]) (Nat.le_of_ble_eq_true rfl)) hH0 va_S.rf
def eL_would : pm_E := (cL_would, f0, fun _ => none, fun _ => none, fun _ => none, fun _ => none, some .int)
theorem zL_would_B : pm_eB eL_would = cL_would := rfl
theorem zL_would_F : pm_eF eL_would = f0 := rfl
theorem zL_would_R : pm_eR eL_would = some .int := rfl
theorem wk_would (l : Launch) (sk : Nat → Nat) (hlt : l.stackTraces = false) : pmx_COK l sk RL 6 79 3 (some 4) T_X4_would := px_cok (i := 4) (Ct_X4_would l sk hlt) ykX4_would (by decide) (by decide) rfl rfl (by decide) (by decide +kernel) (pm_WS_mem 1078 (by decide +kernel) rfl)
set_option maxHeartbeats 4000000 in
set_option maxRecDepth 20000 in
theorem wc_would (l : Launch) (sk : Nat → Nat) (hlt : l.stackTraces = false) (sv : Nat → Nat) (G : va_G) (cI cJ : ClassId) (cR : Nat → ClassId) {c o : Nat} {u1 : Int} {u2 : Int} {f : pm_H} {P : pm_P} (hob : ∃ fs, f c = some (.inr (.inr (.inr (4, fs))))) (hex : wT T_X4_would cvI [("java/lang/IndexOutOfBoundsException", 1), ("java/util/NoSuchElementException", 2), ("java/lang/IllegalStateException", 3)] [.inr (.inl (some c)), .inl u1, .inl u2] o f P) (hok : ∀ v ∈ ([.inr (.inl (some c)), .inl u1, .inl u2, .inr (.inl (some o))] : List pm_V), pm_ok v) : vx_Met l yL_would (.codeWith yL_would cL_would 5 (some .int) [(0, 10, 13, 47), (0, 10, 17, 52), (0, 10, 21, 23)] :: pm_WS) (pm_rmx 6) (pw_Pc sk sv G cI cJ cR [.inr (.inl (some c)), .inl u1, .inl u2, .inr (.inl (some o))] f) (pm_Qc G cI cJ cR P f) (fun _ _ _ => False) 1 6 (pm_dom f) := by
  refine vx_ofWH (cc := cL_would) (maxL := 5) (ret := some .int) (hh := [(0, 10, 13, 47), (0, 10, 17, 52), (0, 10, 21, 23)]) (by decide) rfl ?_
  intro p e s m args below meth cd s₁ B hml hv
  obtain ⟨⟨rfl, hHd, hK, hSt⟩, hNC⟩ := hv
  have hx := B.exec
  have hb : cd.code = cL_would := B.bytes
  have hr := B.returns
  have hlocks := B.notSynchronized
  have hts := atoms_spec (ws := .codeWith yL_would cL_would 5 (some .int) [(0, 10, 13, 47), (0, 10, 17, 52), (0, 10, 21, 23)] :: pm_WS) B.pre
  have ok : ∀ w ∈ pm_WS, w.before _ s = true := fun w hw => hts w (List.mem_cons_of_mem _ hw)
  have hown : s.vm.findClass RL = some m.cls := findClass_of_methodNamed B.named
  have htab : cd.exceptionTable.toList = tableOf [(0, 10, 13, 47), (0, 10, 17, 52), (0, 10, 21, 23)] := vx_table (x := yL_would) B (hts _ List.mem_cons_self)
  have hH0 : pm_Hd G vwCl cI cJ cR (pm_dom f) f s.heap := fun a c0 hc => ⟨(hHd a c0 hc).1, ⟨c0, hc⟩, (hHd a c0 hc).2.2⟩
  have step := fun (pc : Nat) (lv : pm_L) (st : List pm_V) (f0 : pm_H) (h : pm_S eL_would P (fun _ _ => False) (pm_XW p l e (pm_rmx 6) s m _ below meth cd 0 0 (vx_MQ below (pm_Qc G cI cJ cR P f) (fun _ _ _ => False) _ s 1 6 (pm_dom f)) G vwCl cI cJ cR (pm_dom f) 5) pc lv st f0) => sg_S (d := 0) (sk := sk) (sv := sv) (own := RL) eL_would (Nat.zero_le _) (Nat.zero_le _) (Nat.zero_le _) (Nat.zero_le _) hx hb hml hown hts hK hSt (fun _ => rfl) (fun _ => rfl) (fun _ => rfl) (fun _ => rfl) (Or.inl rfl) (fun n k ci T h => by cases h) (fun pc z f1 ls H locs h1 _ hz hp h3 hS => W.widen (k := 1) (n := 6) (Nat.zero_le _) (Nat.zero_le _) (vx_ret (W.iret hx hb hr (fun t ht _ => ⟨⟨some (.inl z), f1, rfl, hp, fun w hw => by simp at hw; subst hw; exact hz, by rw [ht]; exact h3⟩, hS.F ht⟩) hS.2.2 h1))) h
  have seg0 : pm_XW p l e (pm_rmx 6) s m (List.map pm_cv [.inr (.inl (some c)), .inl u1, .inl u2, .inr (.inl (some o))]).toArray below meth cd 0 0 (vx_MQ below (pm_Qc G cI cJ cR P f) (fun _ _ _ => False) (List.map pm_cv [.inr (.inl (some c)), .inl u1, .inl u2, .inr (.inl (some o))]).toArray s 1 6 (pm_dom f)) G vwCl cI cJ cR (pm_dom f) 5 0 [some (.inr (.inl (some c))), some (.inl u1), some (.inl u2), some (.inr (.inl (some o))), none] [] f := by
   refine sg_on eL_would [5] 60 step ?_
   set_option maxRecDepth 100000 in simp (maxSteps := 2000000) only [pm_x_run, pm_x_rt, pm_x_rf, pm_z_S, pm_z_D, pm_z_cut0, pm_z_cut1, pm_z_cli, pm_z_clr, pm_z_cln, pm_z_cll, pm_z_up, pm_x_aload0, pm_x_aload3, pm_x_astore4, pm_x_c, pm_x_c2, pm_x_cn0, pm_x_cn1, pm_x_goto, pm_x_iload1, pm_x_iload2, pm_x_invv, pm_x_last, pm_x_lst, pm_x_v0, pm_x_v1, pm_x_x2, pm_z_cat0, pm_z_cati, pm_z_catl, pm_z_catr, pm_z_i2l, pm_z_iconst, pm_z_pop0, pm_z_pop1, zL_would_B, zL_would_F, zL_would_R, pm_z_ireti (zL_would_R), dL_would_0, dL_would_1, dL_would_2, dL_would_3, dL_would_4, dL_would_5, dL_would_8, dL_would_9, dL_would_10, dL_would_13, dL_would_15, dL_would_16, dL_would_17, dL_would_19, dL_would_20, dL_would_21, dL_would_23, dL_would_24, dL_would_25, dL_would_26, Bool.cond_true, Bool.cond_false, Bool.or_false, Bool.false_or, Bool.true_or, Bool.or_true, true_and, and_true, if_true, if_false, List.length_cons, List.length_nil, List.getElem?_cons_zero, List.getElem?_cons_succ, List.set_cons_zero, List.set_cons_succ, Option.toList_some, Option.toList_none, List.cons_append, List.nil_append, beq_self_eq_true, Option.isSome_some, Option.isSome_none, pm_tg_lit, ite_true, ite_false, Nat.reduceAdd, Nat.reduceBEq, Nat.reduceLT, Nat.reduceLeDiff, Nat.reduceEqDiff, Int.reduceAdd, Int.reduceSub, Int.reduceLE, Int.reduceLT, Int.reduceEq, Int.reduceToNat, Int.reduceNeg, Int.cast_ofNat_Int, Int.reduceNatCast, Int.reduceNatCast', Int.zero_add, Int.add_zero, Nat.zero_add, Nat.add_zero, and_self, decide_true, decide_false, true_or, or_true, or_false, false_or, eq_self, Int.toNat_natCast, b2_e0, b2_e1, b2_ok, b2_w, b2_v, b2_tt, b2_ff, Bool.true_eq_false, Bool.false_eq_true, Option.some.injEq, Int.one_mul, Int.mul_one, not_true_eq_false, not_false_eq_true, ite_not, decide_eq_false_iff_not, decide_eq_true_eq, Int.reduceMul, Int.reduceMod]
   intro ho hs ls H locs hl hH hS
   obtain ⟨P', PX', hT', hk, hkx⟩ := hex
   obtain ⟨fs, hfc⟩ := hob
   refine pmx_rule (d := 6) (R := pm_rmx 6) (as := [.inr (.inl (some c)), .inl u1, .inl u2]) (r := [.inl 0, .inr (.inl (some o))]) (Nat.le_refl _) (Nat.le_refl _) (Nat.le_refl _) (Nat.le_refl _) hx hb hml hown hts hK hSt (wk_would l sk hlt) dL_would_5 rfl (Or.inr ⟨c, fs, _, rfl, hfc⟩) (Nat.le_of_ble_eq_true rfl) hT' (fun v hv => hok v (by simp at hv ⊢; rcases hv with rfl | rfl | rfl <;> simp [*])) hl.1 hH hS ?_ ?_
   · intro v f' H' locs' hp hok' hH' hS'
     obtain ⟨z, g, rfl, hg, hP⟩ := hk v f' hp
     have hz : pm_ok (.inl z) := hok' (.inl z) (by simp)
     have seg : pm_XW p l e (pm_rmx 6) s m (List.map pm_cv [.inr (.inl (some c)), .inl u1, .inl u2, .inr (.inl (some o))]).toArray below meth cd 0 0 (vx_MQ below (pm_Qc G cI cJ cR P f) (fun _ _ _ => False) (List.map pm_cv [.inr (.inl (some c)), .inl u1, .inl u2, .inr (.inl (some o))]).toArray s 1 6 (pm_dom f)) G vwCl cI cJ cR (pm_dom f) 5 8 [some (.inr (.inl (some c))), some (.inl u1), some (.inl u2), some (.inr (.inl (some o))), none] [.inl z, .inl 0, .inr (.inl (some o))] f' := by
       refine sg_on eL_would [] 60 step ?_
       set_option maxRecDepth 100000 in simp (maxSteps := 2000000) only [pm_x_run, pm_x_rt, pm_x_rf, pm_z_S, pm_z_D, pm_z_cut0, pm_z_cut1, pm_z_cli, pm_z_clr, pm_z_cln, pm_z_cll, pm_z_up, pm_x_aload0, pm_x_aload3, pm_x_astore4, pm_x_c, pm_x_c2, pm_x_cn0, pm_x_cn1, pm_x_goto, pm_x_iload1, pm_x_iload2, pm_x_invv, pm_x_last, pm_x_lst, pm_x_v0, pm_x_v1, pm_x_x2, pm_z_cat0, pm_z_cati, pm_z_catl, pm_z_catr, pm_z_i2l, pm_z_iconst, pm_z_pop0, pm_z_pop1, zL_would_B, zL_would_F, zL_would_R, pm_z_ireti (zL_would_R), dL_would_0, dL_would_1, dL_would_2, dL_would_3, dL_would_4, dL_would_5, dL_would_8, dL_would_9, dL_would_10, dL_would_13, dL_would_15, dL_would_16, dL_would_17, dL_would_19, dL_would_20, dL_would_21, dL_would_23, dL_would_24, dL_would_25, dL_would_26, Bool.cond_true, Bool.cond_false, Bool.or_false, Bool.false_or, Bool.true_or, Bool.or_true, true_and, and_true, if_true, if_false, List.length_cons, List.length_nil, List.getElem?_cons_zero, List.getElem?_cons_succ, List.set_cons_zero, List.set_cons_succ, Option.toList_some, Option.toList_none, List.cons_append, List.nil_append, beq_self_eq_true, Option.isSome_some, Option.isSome_none, pm_tg_lit, ite_true, ite_false, Nat.reduceAdd, Nat.reduceBEq, Nat.reduceLT, Nat.reduceLeDiff, Nat.reduceEqDiff, Int.reduceAdd, Int.reduceSub, Int.reduceLE, Int.reduceLT, Int.reduceEq, Int.reduceToNat, Int.reduceNeg, Int.cast_ofNat_Int, Int.reduceNatCast, Int.reduceNatCast', Int.zero_add, Int.add_zero, Nat.zero_add, Nat.add_zero, and_self, decide_true, decide_false, true_or, or_true, or_false, false_or, eq_self, Int.toNat_natCast, b2_e0, b2_e1, b2_ok, b2_w, b2_v, b2_tt, b2_ff, Bool.true_eq_false, Bool.false_eq_true, Option.some.injEq, Int.one_mul, Int.mul_one, not_true_eq_false, not_false_eq_true, ite_not, decide_eq_false_iff_not, decide_eq_true_eq, Int.reduceMul, Int.reduceMod, hg]
       exact hP
     exact seg ho (fun v hv => by simp at hv; rcases hv with rfl | rfl | rfl; exact hz; exact pm_in0; trivial) ls H' locs' hl hH' hS'
   · intro x f' H' locs' q9 ce hp hH' hS' hcell hcv hcl
     obtain ⟨n, hn, hPn⟩ := hkx x f' hp
     · skip
       simp only [List.mem_cons, List.not_mem_nil, or_false, Prod.mk.injEq] at hn
       rcases hn with ⟨rfl, rfl⟩ | ⟨rfl, rfl⟩ | ⟨rfl, rfl⟩
       · refine vx_catch (name := "java/lang/IndexOutOfBoundsException") hown [] ⟨0, 10, 13, 47⟩ [⟨0, 10, 17, 52⟩, ⟨0, 10, 21, 23⟩] htab (fun z hz => by cases hz) (by decide) (by decide) (ok _ (ps_in (by decide +kernel))) (va_Nw.use rfl (hK.2 _ (List.mem_filter.mpr ⟨List.contains_iff_mem.mp (by decide +kernel), rfl⟩))) hcell hcv hcl ?_
         refine lv_astore hx hb dL_would_13 (pm_Lr_has hl) (by decide) rfl fun ls' hl' => ?_
         refine lv_iconst hx hb dL_would_15 rfl ?_
         exact vx_ret (W.iret hx hb hr (fun t ht _ => ⟨⟨some (.inl 1), f', rfl, hPn, fun w hw => by simp at hw; subst hw; unfold pm_ok pm_in; omega, by rw [ht]; exact hH'⟩, hS'.F ht⟩) hS'.2.2 dL_would_16)
       · refine vx_catch (name := "java/util/NoSuchElementException") hown [⟨0, 10, 13, 47⟩] ⟨0, 10, 17, 52⟩ [⟨0, 10, 21, 23⟩] htab (fun z hz => by
           simp only [List.mem_cons, List.not_mem_nil, or_false] at hz
           rcases hz with rfl
           · exact Or.inr ⟨by decide, "java/lang/IndexOutOfBoundsException", ok _ (ps_in (by decide +kernel)), hNC ("java/util/NoSuchElementException", "java/lang/IndexOutOfBoundsException") (by decide)⟩) (by decide) (by decide) (ok _ (ps_in (by decide +kernel))) (va_Nw.use rfl (hK.2 _ (List.mem_filter.mpr ⟨List.contains_iff_mem.mp (by decide +kernel), rfl⟩))) hcell hcv hcl ?_
         refine lv_astore hx hb dL_would_17 (pm_Lr_has hl) (by decide) rfl fun ls' hl' => ?_
         refine lv_iconst hx hb dL_would_19 rfl ?_
         exact vx_ret (W.iret hx hb hr (fun t ht _ => ⟨⟨some (.inl 2), f', rfl, hPn, fun w hw => by simp at hw; subst hw; unfold pm_ok pm_in; omega, by rw [ht]; exact hH'⟩, hS'.F ht⟩) hS'.2.2 dL_would_20)
       · refine vx_catch (name := "java/lang/IllegalStateException") hown [⟨0, 10, 13, 47⟩, ⟨0, 10, 17, 52⟩] ⟨0, 10, 21, 23⟩ [] htab (fun z hz => by
           simp only [List.mem_cons, List.not_mem_nil, or_false] at hz
           rcases hz with rfl | rfl
           · exact Or.inr ⟨by decide, "java/lang/IndexOutOfBoundsException", ok _ (ps_in (by decide +kernel)), hNC ("java/lang/IllegalStateException", "java/lang/IndexOutOfBoundsException") (by decide)⟩
           · exact Or.inr ⟨by decide, "java/util/NoSuchElementException", ok _ (ps_in (by decide +kernel)), hNC ("java/lang/IllegalStateException", "java/util/NoSuchElementException") (by decide)⟩) (by decide) (by decide) (ok _ (ps_in (by decide +kernel))) (va_Nw.use rfl (hK.2 _ (List.mem_filter.mpr ⟨List.contains_iff_mem.mp (by decide +kernel), rfl⟩))) hcell hcv hcl ?_
         refine lv_astore hx hb dL_would_21 (pm_Lr_has hl) (by decide) rfl fun ls' hl' => ?_
         refine lv_iconst hx hb dL_would_23 rfl ?_
         exact vx_ret (W.iret hx hb hr (fun t ht _ => ⟨⟨some (.inl 3), f', rfl, hPn, fun w hw => by simp at hw; subst hw; unfold pm_ok pm_in; omega, by rw [ht]; exact hH'⟩, hS'.F ht⟩) hS'.2.2 dL_would_24)
  have hin : pm_init 5 [.inr (.inl (some c)), .inl u1, .inl u2, .inr (.inl (some o))] = [some (.inr (.inl (some c))), some (.inl u1), some (.inl u2), some (.inr (.inl (some o))), none] := by simp [pm_init, pm_put]
  rw [lg_entry_eq]
  rw [← hin] at seg0
  exact seg0 (fun i v hv => pm_put_ok [.inr (.inl (some c)), .inl u1, .inl u2, .inr (.inl (some o))] hok i v (pm_lg_app (pm_put [.inr (.inl (some c)), .inl u1, .inl u2, .inr (.inl (some o))]) _ i v hv)) (fun v hv => by cases hv) _ s.heap [] (pm_entry (as := [.inr (.inl (some c)), .inl u1, .inl u2, .inr (.inl (some o))]) (Nat.le_of_ble_eq_true rfl)) hH0 va_S.rf
def eL_bridge : pm_E := (cL_bridge, f0, fun _ => none, fun _ => none, fun _ => none, fun _ => none, some .int)
theorem zL_bridge_B : pm_eB eL_bridge = cL_bridge := rfl
theorem zL_bridge_F : pm_eF eL_bridge = f0 := rfl
theorem zL_bridge_R : pm_eR eL_bridge = some .int := rfl
theorem wk_bridge (l : Launch) (sk : Nat → Nat) (hlt : l.stackTraces = false) : pmx_COK l sk RL 6 82 2 (some 4) T_X4_bridge := px_cok (i := 4) (Ct_X4_bridge l sk hlt) ykX4_bridge (by decide) (by decide) rfl rfl (by decide) (by decide +kernel) (pm_WS_mem 1087 (by decide +kernel) rfl)
set_option maxHeartbeats 4000000 in
set_option maxRecDepth 20000 in
theorem wc_bridge (l : Launch) (sk : Nat → Nat) (hlt : l.stackTraces = false) (sv : Nat → Nat) (G : va_G) (cI cJ : ClassId) (cR : Nat → ClassId) {c o : Nat} {u1 : Int} {f : pm_H} {P : pm_P} (hob : ∃ fs, f c = some (.inr (.inr (.inr (4, fs))))) (hex : wT T_X4_bridge cvB [("java/lang/IndexOutOfBoundsException", 1)] [.inr (.inl (some c)), .inl u1] o f P) (hok : ∀ v ∈ ([.inr (.inl (some c)), .inl u1, .inr (.inl (some o))] : List pm_V), pm_ok v) : vx_Met l yL_bridge (.codeWith yL_bridge cL_bridge 4 (some .int) [(0, 16, 19, 47)] :: pm_WS) (pm_rmx 6) (pw_Pc sk sv G cI cJ cR [.inr (.inl (some c)), .inl u1, .inr (.inl (some o))] f) (pm_Qc G cI cJ cR P f) (fun _ _ _ => False) 1 6 (pm_dom f) := by
  refine vx_ofWH (cc := cL_bridge) (maxL := 4) (ret := some .int) (hh := [(0, 16, 19, 47)]) (by decide) rfl ?_
  intro p e s m args below meth cd s₁ B hml hv
  obtain ⟨⟨rfl, hHd, hK, hSt⟩, hNC⟩ := hv
  have hx := B.exec
  have hb : cd.code = cL_bridge := B.bytes
  have hr := B.returns
  have hlocks := B.notSynchronized
  have hts := atoms_spec (ws := .codeWith yL_bridge cL_bridge 4 (some .int) [(0, 16, 19, 47)] :: pm_WS) B.pre
  have ok : ∀ w ∈ pm_WS, w.before _ s = true := fun w hw => hts w (List.mem_cons_of_mem _ hw)
  have hown : s.vm.findClass RL = some m.cls := findClass_of_methodNamed B.named
  have htab : cd.exceptionTable.toList = tableOf [(0, 16, 19, 47)] := vx_table (x := yL_bridge) B (hts _ List.mem_cons_self)
  have hH0 : pm_Hd G vwCl cI cJ cR (pm_dom f) f s.heap := fun a c0 hc => ⟨(hHd a c0 hc).1, ⟨c0, hc⟩, (hHd a c0 hc).2.2⟩
  have step := fun (pc : Nat) (lv : pm_L) (st : List pm_V) (f0 : pm_H) (h : pm_S eL_bridge P (fun _ _ => False) (pm_XW p l e (pm_rmx 6) s m _ below meth cd 0 0 (vx_MQ below (pm_Qc G cI cJ cR P f) (fun _ _ _ => False) _ s 1 6 (pm_dom f)) G vwCl cI cJ cR (pm_dom f) 4) pc lv st f0) => sg_S (d := 0) (sk := sk) (sv := sv) (own := RL) eL_bridge (Nat.zero_le _) (Nat.zero_le _) (Nat.zero_le _) (Nat.zero_le _) hx hb hml hown hts hK hSt (fun _ => rfl) (fun _ => rfl) (fun _ => rfl) (fun _ => rfl) (Or.inl rfl) (fun n k ci T h => by cases h) (fun pc z f1 ls H locs h1 _ hz hp h3 hS => W.widen (k := 1) (n := 6) (Nat.zero_le _) (Nat.zero_le _) (vx_ret (W.iret hx hb hr (fun t ht _ => ⟨⟨some (.inl z), f1, rfl, hp, fun w hw => by simp at hw; subst hw; exact hz, by rw [ht]; exact h3⟩, hS.F ht⟩) hS.2.2 h1))) h
  have seg0 : pm_XW p l e (pm_rmx 6) s m (List.map pm_cv [.inr (.inl (some c)), .inl u1, .inr (.inl (some o))]).toArray below meth cd 0 0 (vx_MQ below (pm_Qc G cI cJ cR P f) (fun _ _ _ => False) (List.map pm_cv [.inr (.inl (some c)), .inl u1, .inr (.inl (some o))]).toArray s 1 6 (pm_dom f)) G vwCl cI cJ cR (pm_dom f) 4 0 [some (.inr (.inl (some c))), some (.inl u1), some (.inr (.inl (some o))), none] [] f := by
   refine sg_on eL_bridge [4] 60 step ?_
   set_option maxRecDepth 100000 in simp (maxSteps := 2000000) only [pm_x_run, pm_x_rt, pm_x_rf, pm_z_S, pm_z_D, pm_z_cut0, pm_z_cut1, pm_z_cli, pm_z_clr, pm_z_cln, pm_z_cll, pm_z_up, pm_x_aload0, pm_x_aload2, pm_x_astore3, pm_x_c, pm_x_c2, pm_x_cn0, pm_x_cn1, pm_x_goto, pm_x_if_eq, pm_x_iload1, pm_x_invv, pm_x_last, pm_x_lst, pm_x_v0, pm_x_v1, pm_x_x2, pm_z_cat0, pm_z_cati, pm_z_catl, pm_z_catr, pm_z_iconst, pm_z_lconst0, pm_z_lconst1, pm_z_pop0, pm_z_pop1, zL_bridge_B, zL_bridge_F, zL_bridge_R, pm_z_ireti (zL_bridge_R), dL_bridge_0, dL_bridge_1, dL_bridge_2, dL_bridge_3, dL_bridge_4, dL_bridge_7, dL_bridge_10, dL_bridge_11, dL_bridge_14, dL_bridge_15, dL_bridge_16, dL_bridge_19, dL_bridge_20, dL_bridge_21, dL_bridge_22, dL_bridge_23, Bool.cond_true, Bool.cond_false, Bool.or_false, Bool.false_or, Bool.true_or, Bool.or_true, true_and, and_true, if_true, if_false, List.length_cons, List.length_nil, List.getElem?_cons_zero, List.getElem?_cons_succ, List.set_cons_zero, List.set_cons_succ, Option.toList_some, Option.toList_none, List.cons_append, List.nil_append, beq_self_eq_true, Option.isSome_some, Option.isSome_none, pm_tg_lit, ite_true, ite_false, Nat.reduceAdd, Nat.reduceBEq, Nat.reduceLT, Nat.reduceLeDiff, Nat.reduceEqDiff, Int.reduceAdd, Int.reduceSub, Int.reduceLE, Int.reduceLT, Int.reduceEq, Int.reduceToNat, Int.reduceNeg, Int.cast_ofNat_Int, Int.reduceNatCast, Int.reduceNatCast', Int.zero_add, Int.add_zero, Nat.zero_add, Nat.add_zero, and_self, decide_true, decide_false, true_or, or_true, or_false, false_or, eq_self, Int.toNat_natCast, b2_e0, b2_e1, b2_ok, b2_w, b2_v, b2_tt, b2_ff, Bool.true_eq_false, Bool.false_eq_true, Option.some.injEq, Int.one_mul, Int.mul_one, not_true_eq_false, not_false_eq_true, ite_not, decide_eq_false_iff_not, decide_eq_true_eq, Int.reduceMul, Int.reduceMod]
   intro ho hs ls H locs hl hH hS
   obtain ⟨P', PX', hT', hk, hkx⟩ := hex
   obtain ⟨fs, hfc⟩ := hob
   refine pmx_rule (d := 6) (R := pm_rmx 6) (as := [.inr (.inl (some c)), .inl u1]) (r := [.inl 0, .inr (.inl (some o))]) (Nat.le_refl _) (Nat.le_refl _) (Nat.le_refl _) (Nat.le_refl _) hx hb hml hown hts hK hSt (wk_bridge l sk hlt) dL_bridge_4 rfl (Or.inr ⟨c, fs, _, rfl, hfc⟩) (Nat.le_of_ble_eq_true rfl) hT' (fun v hv => hok v (by simp at hv ⊢; rcases hv with rfl | rfl <;> simp [*])) hl.1 hH hS ?_ ?_
   · intro v f' H' locs' hp hok' hH' hS'
     obtain ⟨z, g, rfl, hg, hP⟩ := hk v f' hp
     have hz : pm_ok (.inl z) := hok' (.inl z) (by simp)
     have seg : pm_XW p l e (pm_rmx 6) s m (List.map pm_cv [.inr (.inl (some c)), .inl u1, .inr (.inl (some o))]).toArray below meth cd 0 0 (vx_MQ below (pm_Qc G cI cJ cR P f) (fun _ _ _ => False) (List.map pm_cv [.inr (.inl (some c)), .inl u1, .inr (.inl (some o))]).toArray s 1 6 (pm_dom f)) G vwCl cI cJ cR (pm_dom f) 4 7 [some (.inr (.inl (some c))), some (.inl u1), some (.inr (.inl (some o))), none] [.inl z, .inl 0, .inr (.inl (some o))] f' := by
       refine sg_on eL_bridge [] 60 step ?_
       by_cases z0 : z = 0
       · have ec : cvB z = Int64.ofNat 0 := by unfold cvB; rw [if_pos z0]
         rw [ec] at hP
         set_option maxRecDepth 100000 in simp (maxSteps := 2000000) only [pm_x_run, pm_x_rt, pm_x_rf, pm_z_S, pm_z_D, pm_z_cut0, pm_z_cut1, pm_z_cli, pm_z_clr, pm_z_cln, pm_z_cll, pm_z_up, pm_x_aload0, pm_x_aload2, pm_x_astore3, pm_x_c, pm_x_c2, pm_x_cn0, pm_x_cn1, pm_x_goto, pm_x_if_eq, pm_x_iload1, pm_x_invv, pm_x_last, pm_x_lst, pm_x_v0, pm_x_v1, pm_x_x2, pm_z_cat0, pm_z_cati, pm_z_catl, pm_z_catr, pm_z_iconst, pm_z_lconst0, pm_z_lconst1, pm_z_pop0, pm_z_pop1, zL_bridge_B, zL_bridge_F, zL_bridge_R, pm_z_ireti (zL_bridge_R), dL_bridge_0, dL_bridge_1, dL_bridge_2, dL_bridge_3, dL_bridge_4, dL_bridge_7, dL_bridge_10, dL_bridge_11, dL_bridge_14, dL_bridge_15, dL_bridge_16, dL_bridge_19, dL_bridge_20, dL_bridge_21, dL_bridge_22, dL_bridge_23, Bool.cond_true, Bool.cond_false, Bool.or_false, Bool.false_or, Bool.true_or, Bool.or_true, true_and, and_true, if_true, if_false, List.length_cons, List.length_nil, List.getElem?_cons_zero, List.getElem?_cons_succ, List.set_cons_zero, List.set_cons_succ, Option.toList_some, Option.toList_none, List.cons_append, List.nil_append, beq_self_eq_true, Option.isSome_some, Option.isSome_none, pm_tg_lit, ite_true, ite_false, Nat.reduceAdd, Nat.reduceBEq, Nat.reduceLT, Nat.reduceLeDiff, Nat.reduceEqDiff, Int.reduceAdd, Int.reduceSub, Int.reduceLE, Int.reduceLT, Int.reduceEq, Int.reduceToNat, Int.reduceNeg, Int.cast_ofNat_Int, Int.reduceNatCast, Int.reduceNatCast', Int.zero_add, Int.add_zero, Nat.zero_add, Nat.add_zero, and_self, decide_true, decide_false, true_or, or_true, or_false, false_or, eq_self, Int.toNat_natCast, b2_e0, b2_e1, b2_ok, b2_w, b2_v, b2_tt, b2_ff, Bool.true_eq_false, Bool.false_eq_true, Option.some.injEq, Int.one_mul, Int.mul_one, not_true_eq_false, not_false_eq_true, ite_not, decide_eq_false_iff_not, decide_eq_true_eq, Int.reduceMul, Int.reduceMod, hg, z0]
         exact hP
       · have ec : cvB z = Int64.ofNat 1 := by unfold cvB; rw [if_neg z0]
         rw [ec] at hP
         set_option maxRecDepth 100000 in simp (maxSteps := 2000000) only [pm_x_run, pm_x_rt, pm_x_rf, pm_z_S, pm_z_D, pm_z_cut0, pm_z_cut1, pm_z_cli, pm_z_clr, pm_z_cln, pm_z_cll, pm_z_up, pm_x_aload0, pm_x_aload2, pm_x_astore3, pm_x_c, pm_x_c2, pm_x_cn0, pm_x_cn1, pm_x_goto, pm_x_if_eq, pm_x_iload1, pm_x_invv, pm_x_last, pm_x_lst, pm_x_v0, pm_x_v1, pm_x_x2, pm_z_cat0, pm_z_cati, pm_z_catl, pm_z_catr, pm_z_iconst, pm_z_lconst0, pm_z_lconst1, pm_z_pop0, pm_z_pop1, zL_bridge_B, zL_bridge_F, zL_bridge_R, pm_z_ireti (zL_bridge_R), dL_bridge_0, dL_bridge_1, dL_bridge_2, dL_bridge_3, dL_bridge_4, dL_bridge_7, dL_bridge_10, dL_bridge_11, dL_bridge_14, dL_bridge_15, dL_bridge_16, dL_bridge_19, dL_bridge_20, dL_bridge_21, dL_bridge_22, dL_bridge_23, Bool.cond_true, Bool.cond_false, Bool.or_false, Bool.false_or, Bool.true_or, Bool.or_true, true_and, and_true, if_true, if_false, List.length_cons, List.length_nil, List.getElem?_cons_zero, List.getElem?_cons_succ, List.set_cons_zero, List.set_cons_succ, Option.toList_some, Option.toList_none, List.cons_append, List.nil_append, beq_self_eq_true, Option.isSome_some, Option.isSome_none, pm_tg_lit, ite_true, ite_false, Nat.reduceAdd, Nat.reduceBEq, Nat.reduceLT, Nat.reduceLeDiff, Nat.reduceEqDiff, Int.reduceAdd, Int.reduceSub, Int.reduceLE, Int.reduceLT, Int.reduceEq, Int.reduceToNat, Int.reduceNeg, Int.cast_ofNat_Int, Int.reduceNatCast, Int.reduceNatCast', Int.zero_add, Int.add_zero, Nat.zero_add, Nat.add_zero, and_self, decide_true, decide_false, true_or, or_true, or_false, false_or, eq_self, Int.toNat_natCast, b2_e0, b2_e1, b2_ok, b2_w, b2_v, b2_tt, b2_ff, Bool.true_eq_false, Bool.false_eq_true, Option.some.injEq, Int.one_mul, Int.mul_one, not_true_eq_false, not_false_eq_true, ite_not, decide_eq_false_iff_not, decide_eq_true_eq, Int.reduceMul, Int.reduceMod, hg, z0]
         exact hP
     exact seg ho (fun v hv => by simp at hv; rcases hv with rfl | rfl | rfl; exact hz; exact pm_in0; trivial) ls H' locs' hl hH' hS'
   · intro x f' H' locs' q9 ce hp hH' hS' hcell hcv hcl
     obtain ⟨n, hn, hPn⟩ := hkx x f' hp
     · skip
       rw [List.mem_singleton, Prod.mk.injEq] at hn
       obtain ⟨rfl, rfl⟩ := hn
       refine vx_catch (name := "java/lang/IndexOutOfBoundsException") hown [] ⟨0, 16, 19, 47⟩ [] htab (fun z hz => by cases hz) (by decide) (by decide) (ok _ (ps_in (by decide +kernel))) (va_Nw.use rfl (hK.2 _ (List.mem_filter.mpr ⟨List.contains_iff_mem.mp (by decide +kernel), rfl⟩))) hcell hcv hcl ?_
       refine lv_astore_n hx hb dL_bridge_19 rfl (pm_Lr_has hl) (by decide) rfl fun ls' hl' => ?_
       refine lv_iconst hx hb dL_bridge_20 rfl ?_
       exact vx_ret (W.iret hx hb hr (fun t ht _ => ⟨⟨some (.inl 1), f', rfl, hPn, fun w hw => by simp at hw; subst hw; unfold pm_ok pm_in; omega, by rw [ht]; exact hH'⟩, hS'.F ht⟩) hS'.2.2 dL_bridge_21)
  have hin : pm_init 4 [.inr (.inl (some c)), .inl u1, .inr (.inl (some o))] = [some (.inr (.inl (some c))), some (.inl u1), some (.inr (.inl (some o))), none] := by simp [pm_init, pm_put]
  rw [lg_entry_eq]
  rw [← hin] at seg0
  exact seg0 (fun i v hv => pm_put_ok [.inr (.inl (some c)), .inl u1, .inr (.inl (some o))] hok i v (pm_lg_app (pm_put [.inr (.inl (some c)), .inl u1, .inr (.inl (some o))]) _ i v hv)) (fun v hv => by cases hv) _ s.heap [] (pm_entry (as := [.inr (.inl (some c)), .inl u1, .inr (.inl (some o))]) (Nat.le_of_ble_eq_true rfl)) hH0 va_S.rf
def eL_kin : pm_E := (cL_kin, f0, fun _ => none, fun _ => none, fun _ => none, fun _ => none, some .int)
theorem zL_kin_B : pm_eB eL_kin = cL_kin := rfl
theorem zL_kin_F : pm_eF eL_kin = f0 := rfl
theorem zL_kin_R : pm_eR eL_kin = some .int := rfl
theorem wk_kin (l : Launch) (sk : Nat → Nat) (hlt : l.stackTraces = false) : pmx_COK l sk RL 5 86 4 (some 4) T_X4_kin := px_cok (i := 4) (Ct_X4_kin l sk hlt) ykX4_kin (by decide) (by decide) rfl rfl (by decide) (by decide +kernel) (pm_WS_mem 1094 (by decide +kernel) rfl)
set_option maxHeartbeats 4000000 in
set_option maxRecDepth 20000 in
theorem wc_kin (l : Launch) (sk : Nat → Nat) (hlt : l.stackTraces = false) (sv : Nat → Nat) (G : va_G) (cI cJ : ClassId) (cR : Nat → ClassId) {c o : Nat} {u1 : Int} {u2 : Int} {u3 : Int} {f : pm_H} {P : pm_P} (hob : ∃ fs, f c = some (.inr (.inr (.inr (4, fs))))) (hex : wT T_X4_kin cvI [("java/lang/IndexOutOfBoundsException", 1), ("java/util/NoSuchElementException", 2)] [.inr (.inl (some c)), .inl u1, .inl u2, .inl u3] o f P) (hok : ∀ v ∈ ([.inr (.inl (some c)), .inl u1, .inl u2, .inl u3, .inr (.inl (some o))] : List pm_V), pm_ok v) : vx_Met l yL_kin (.codeWith yL_kin cL_kin 6 (some .int) [(0, 12, 15, 47), (0, 12, 19, 52)] :: pm_WS) (pm_rmx 5) (pw_Pc sk sv G cI cJ cR [.inr (.inl (some c)), .inl u1, .inl u2, .inl u3, .inr (.inl (some o))] f) (pm_Qc G cI cJ cR P f) (fun _ _ _ => False) 1 6 (pm_dom f) := by
  refine vx_ofWH (cc := cL_kin) (maxL := 6) (ret := some .int) (hh := [(0, 12, 15, 47), (0, 12, 19, 52)]) (by decide) rfl ?_
  intro p e s m args below meth cd s₁ B hml hv
  obtain ⟨⟨rfl, hHd, hK, hSt⟩, hNC⟩ := hv
  have hx := B.exec
  have hb : cd.code = cL_kin := B.bytes
  have hr := B.returns
  have hlocks := B.notSynchronized
  have hts := atoms_spec (ws := .codeWith yL_kin cL_kin 6 (some .int) [(0, 12, 15, 47), (0, 12, 19, 52)] :: pm_WS) B.pre
  have ok : ∀ w ∈ pm_WS, w.before _ s = true := fun w hw => hts w (List.mem_cons_of_mem _ hw)
  have hown : s.vm.findClass RL = some m.cls := findClass_of_methodNamed B.named
  have htab : cd.exceptionTable.toList = tableOf [(0, 12, 15, 47), (0, 12, 19, 52)] := vx_table (x := yL_kin) B (hts _ List.mem_cons_self)
  have hH0 : pm_Hd G vwCl cI cJ cR (pm_dom f) f s.heap := fun a c0 hc => ⟨(hHd a c0 hc).1, ⟨c0, hc⟩, (hHd a c0 hc).2.2⟩
  have step := fun (pc : Nat) (lv : pm_L) (st : List pm_V) (f0 : pm_H) (h : pm_S eL_kin P (fun _ _ => False) (pm_XW p l e (pm_rmx 5) s m _ below meth cd 0 0 (vx_MQ below (pm_Qc G cI cJ cR P f) (fun _ _ _ => False) _ s 1 6 (pm_dom f)) G vwCl cI cJ cR (pm_dom f) 6) pc lv st f0) => sg_S (d := 0) (sk := sk) (sv := sv) (own := RL) eL_kin (Nat.zero_le _) (Nat.zero_le _) (Nat.zero_le _) (Nat.zero_le _) hx hb hml hown hts hK hSt (fun _ => rfl) (fun _ => rfl) (fun _ => rfl) (fun _ => rfl) (Or.inl rfl) (fun n k ci T h => by cases h) (fun pc z f1 ls H locs h1 _ hz hp h3 hS => W.widen (k := 1) (n := 6) (Nat.zero_le _) (Nat.zero_le _) (vx_ret (W.iret hx hb hr (fun t ht _ => ⟨⟨some (.inl z), f1, rfl, hp, fun w hw => by simp at hw; subst hw; exact hz, by rw [ht]; exact h3⟩, hS.F ht⟩) hS.2.2 h1))) h
  have seg0 : pm_XW p l e (pm_rmx 5) s m (List.map pm_cv [.inr (.inl (some c)), .inl u1, .inl u2, .inl u3, .inr (.inl (some o))]).toArray below meth cd 0 0 (vx_MQ below (pm_Qc G cI cJ cR P f) (fun _ _ _ => False) (List.map pm_cv [.inr (.inl (some c)), .inl u1, .inl u2, .inl u3, .inr (.inl (some o))]).toArray s 1 6 (pm_dom f)) G vwCl cI cJ cR (pm_dom f) 6 0 [some (.inr (.inl (some c))), some (.inl u1), some (.inl u2), some (.inl u3), some (.inr (.inl (some o))), none] [] f := by
   refine sg_on eL_kin [7] 60 step ?_
   set_option maxRecDepth 100000 in simp (maxSteps := 2000000) only [pm_x_run, pm_x_rt, pm_x_rf, pm_z_S, pm_z_D, pm_z_cut0, pm_z_cut1, pm_z_cli, pm_z_clr, pm_z_cln, pm_z_cll, pm_z_up, pm_x_aload0, pm_x_aload4, pm_x_astore5, pm_x_c, pm_x_c2, pm_x_cn0, pm_x_cn1, pm_x_goto, pm_x_iload1, pm_x_iload2, pm_x_iload3, pm_x_invv, pm_x_last, pm_x_lst, pm_x_v0, pm_x_v1, pm_x_x2, pm_z_cat0, pm_z_cati, pm_z_catl, pm_z_catr, pm_z_i2l, pm_z_iconst, pm_z_pop0, pm_z_pop1, zL_kin_B, zL_kin_F, zL_kin_R, pm_z_ireti (zL_kin_R), dL_kin_0, dL_kin_2, dL_kin_3, dL_kin_4, dL_kin_5, dL_kin_6, dL_kin_7, dL_kin_10, dL_kin_11, dL_kin_12, dL_kin_15, dL_kin_17, dL_kin_18, dL_kin_19, dL_kin_21, dL_kin_22, dL_kin_23, dL_kin_24, Bool.cond_true, Bool.cond_false, Bool.or_false, Bool.false_or, Bool.true_or, Bool.or_true, true_and, and_true, if_true, if_false, List.length_cons, List.length_nil, List.getElem?_cons_zero, List.getElem?_cons_succ, List.set_cons_zero, List.set_cons_succ, Option.toList_some, Option.toList_none, List.cons_append, List.nil_append, beq_self_eq_true, Option.isSome_some, Option.isSome_none, pm_tg_lit, ite_true, ite_false, Nat.reduceAdd, Nat.reduceBEq, Nat.reduceLT, Nat.reduceLeDiff, Nat.reduceEqDiff, Int.reduceAdd, Int.reduceSub, Int.reduceLE, Int.reduceLT, Int.reduceEq, Int.reduceToNat, Int.reduceNeg, Int.cast_ofNat_Int, Int.reduceNatCast, Int.reduceNatCast', Int.zero_add, Int.add_zero, Nat.zero_add, Nat.add_zero, and_self, decide_true, decide_false, true_or, or_true, or_false, false_or, eq_self, Int.toNat_natCast, b2_e0, b2_e1, b2_ok, b2_w, b2_v, b2_tt, b2_ff, Bool.true_eq_false, Bool.false_eq_true, Option.some.injEq, Int.one_mul, Int.mul_one, not_true_eq_false, not_false_eq_true, ite_not, decide_eq_false_iff_not, decide_eq_true_eq, Int.reduceMul, Int.reduceMod]
   intro ho hs ls H locs hl hH hS
   obtain ⟨P', PX', hT', hk, hkx⟩ := hex
   obtain ⟨fs, hfc⟩ := hob
   refine pmx_rule (d := 5) (R := pm_rmx 5) (as := [.inr (.inl (some c)), .inl u1, .inl u2, .inl u3]) (r := [.inl 0, .inr (.inl (some o))]) (Nat.le_refl _) (Nat.le_refl _) (Nat.le_refl _) (Nat.le_refl _) hx hb hml hown hts hK hSt (wk_kin l sk hlt) dL_kin_7 rfl (Or.inr ⟨c, fs, _, rfl, hfc⟩) (Nat.le_of_ble_eq_true rfl) hT' (fun v hv => hok v (by simp at hv ⊢; rcases hv with rfl | rfl | rfl | rfl <;> simp [*])) hl.1 hH hS ?_ ?_
   · intro v f' H' locs' hp hok' hH' hS'
     obtain ⟨z, g, rfl, hg, hP⟩ := hk v f' hp
     have hz : pm_ok (.inl z) := hok' (.inl z) (by simp)
     have seg : pm_XW p l e (pm_rmx 5) s m (List.map pm_cv [.inr (.inl (some c)), .inl u1, .inl u2, .inl u3, .inr (.inl (some o))]).toArray below meth cd 0 0 (vx_MQ below (pm_Qc G cI cJ cR P f) (fun _ _ _ => False) (List.map pm_cv [.inr (.inl (some c)), .inl u1, .inl u2, .inl u3, .inr (.inl (some o))]).toArray s 1 6 (pm_dom f)) G vwCl cI cJ cR (pm_dom f) 6 10 [some (.inr (.inl (some c))), some (.inl u1), some (.inl u2), some (.inl u3), some (.inr (.inl (some o))), none] [.inl z, .inl 0, .inr (.inl (some o))] f' := by
       refine sg_on eL_kin [] 60 step ?_
       set_option maxRecDepth 100000 in simp (maxSteps := 2000000) only [pm_x_run, pm_x_rt, pm_x_rf, pm_z_S, pm_z_D, pm_z_cut0, pm_z_cut1, pm_z_cli, pm_z_clr, pm_z_cln, pm_z_cll, pm_z_up, pm_x_aload0, pm_x_aload4, pm_x_astore5, pm_x_c, pm_x_c2, pm_x_cn0, pm_x_cn1, pm_x_goto, pm_x_iload1, pm_x_iload2, pm_x_iload3, pm_x_invv, pm_x_last, pm_x_lst, pm_x_v0, pm_x_v1, pm_x_x2, pm_z_cat0, pm_z_cati, pm_z_catl, pm_z_catr, pm_z_i2l, pm_z_iconst, pm_z_pop0, pm_z_pop1, zL_kin_B, zL_kin_F, zL_kin_R, pm_z_ireti (zL_kin_R), dL_kin_0, dL_kin_2, dL_kin_3, dL_kin_4, dL_kin_5, dL_kin_6, dL_kin_7, dL_kin_10, dL_kin_11, dL_kin_12, dL_kin_15, dL_kin_17, dL_kin_18, dL_kin_19, dL_kin_21, dL_kin_22, dL_kin_23, dL_kin_24, Bool.cond_true, Bool.cond_false, Bool.or_false, Bool.false_or, Bool.true_or, Bool.or_true, true_and, and_true, if_true, if_false, List.length_cons, List.length_nil, List.getElem?_cons_zero, List.getElem?_cons_succ, List.set_cons_zero, List.set_cons_succ, Option.toList_some, Option.toList_none, List.cons_append, List.nil_append, beq_self_eq_true, Option.isSome_some, Option.isSome_none, pm_tg_lit, ite_true, ite_false, Nat.reduceAdd, Nat.reduceBEq, Nat.reduceLT, Nat.reduceLeDiff, Nat.reduceEqDiff, Int.reduceAdd, Int.reduceSub, Int.reduceLE, Int.reduceLT, Int.reduceEq, Int.reduceToNat, Int.reduceNeg, Int.cast_ofNat_Int, Int.reduceNatCast, Int.reduceNatCast', Int.zero_add, Int.add_zero, Nat.zero_add, Nat.add_zero, and_self, decide_true, decide_false, true_or, or_true, or_false, false_or, eq_self, Int.toNat_natCast, b2_e0, b2_e1, b2_ok, b2_w, b2_v, b2_tt, b2_ff, Bool.true_eq_false, Bool.false_eq_true, Option.some.injEq, Int.one_mul, Int.mul_one, not_true_eq_false, not_false_eq_true, ite_not, decide_eq_false_iff_not, decide_eq_true_eq, Int.reduceMul, Int.reduceMod, hg]
       exact hP
     exact seg ho (fun v hv => by simp at hv; rcases hv with rfl | rfl | rfl; exact hz; exact pm_in0; trivial) ls H' locs' hl hH' hS'
   · intro x f' H' locs' q9 ce hp hH' hS' hcell hcv hcl
     obtain ⟨n, hn, hPn⟩ := hkx x f' hp
     · skip
       simp only [List.mem_cons, List.not_mem_nil, or_false, Prod.mk.injEq] at hn
       rcases hn with ⟨rfl, rfl⟩ | ⟨rfl, rfl⟩
       · refine vx_catch (name := "java/lang/IndexOutOfBoundsException") hown [] ⟨0, 12, 15, 47⟩ [⟨0, 12, 19, 52⟩] htab (fun z hz => by cases hz) (by decide) (by decide) (ok _ (ps_in (by decide +kernel))) (va_Nw.use rfl (hK.2 _ (List.mem_filter.mpr ⟨List.contains_iff_mem.mp (by decide +kernel), rfl⟩))) hcell hcv hcl ?_
         refine lv_astore hx hb dL_kin_15 (pm_Lr_has hl) (by decide) rfl fun ls' hl' => ?_
         refine lv_iconst hx hb dL_kin_17 rfl ?_
         exact vx_ret (W.iret hx hb hr (fun t ht _ => ⟨⟨some (.inl 1), f', rfl, hPn, fun w hw => by simp at hw; subst hw; unfold pm_ok pm_in; omega, by rw [ht]; exact hH'⟩, hS'.F ht⟩) hS'.2.2 dL_kin_18)
       · refine vx_catch (name := "java/util/NoSuchElementException") hown [⟨0, 12, 15, 47⟩] ⟨0, 12, 19, 52⟩ [] htab (fun z hz => by
           simp only [List.mem_cons, List.not_mem_nil, or_false] at hz
           rcases hz with rfl
           · exact Or.inr ⟨by decide, "java/lang/IndexOutOfBoundsException", ok _ (ps_in (by decide +kernel)), hNC ("java/util/NoSuchElementException", "java/lang/IndexOutOfBoundsException") (by decide)⟩) (by decide) (by decide) (ok _ (ps_in (by decide +kernel))) (va_Nw.use rfl (hK.2 _ (List.mem_filter.mpr ⟨List.contains_iff_mem.mp (by decide +kernel), rfl⟩))) hcell hcv hcl ?_
         refine lv_astore hx hb dL_kin_19 (pm_Lr_has hl) (by decide) rfl fun ls' hl' => ?_
         refine lv_iconst hx hb dL_kin_21 rfl ?_
         exact vx_ret (W.iret hx hb hr (fun t ht _ => ⟨⟨some (.inl 2), f', rfl, hPn, fun w hw => by simp at hw; subst hw; unfold pm_ok pm_in; omega, by rw [ht]; exact hH'⟩, hS'.F ht⟩) hS'.2.2 dL_kin_22)
  have hin : pm_init 6 [.inr (.inl (some c)), .inl u1, .inl u2, .inl u3, .inr (.inl (some o))] = [some (.inr (.inl (some c))), some (.inl u1), some (.inl u2), some (.inl u3), some (.inr (.inl (some o))), none] := by simp [pm_init, pm_put]
  rw [lg_entry_eq]
  rw [← hin] at seg0
  exact seg0 (fun i v hv => pm_put_ok [.inr (.inl (some c)), .inl u1, .inl u2, .inl u3, .inr (.inl (some o))] hok i v (pm_lg_app (pm_put [.inr (.inl (some c)), .inl u1, .inl u2, .inl u3, .inr (.inl (some o))]) _ i v hv)) (fun v hv => by cases hv) _ s.heap [] (pm_entry (as := [.inr (.inl (some c)), .inl u1, .inl u2, .inl u3, .inr (.inl (some o))]) (Nat.le_of_ble_eq_true rfl)) hH0 va_S.rf
def eL_meet : pm_E := (cL_meet, f0, fun _ => none, fun _ => none, fun _ => none, fun _ => none, some .int)
theorem zL_meet_B : pm_eB eL_meet = cL_meet := rfl
theorem zL_meet_F : pm_eF eL_meet = f0 := rfl
theorem zL_meet_R : pm_eR eL_meet = some .int := rfl
theorem wk_meet (l : Launch) (sk : Nat → Nat) (hlt : l.stackTraces = false) : pmx_COK l sk RL 6 89 4 (some 4) T_X4_meet := px_cok (i := 4) (Ct_X4_meet l sk hlt) ykX4_meet (by decide) (by decide) rfl rfl (by decide) (by decide +kernel) (pm_WS_mem 1116 (by decide +kernel) rfl)
set_option maxHeartbeats 4000000 in
set_option maxRecDepth 20000 in
theorem wc_meet (l : Launch) (sk : Nat → Nat) (hlt : l.stackTraces = false) (sv : Nat → Nat) (G : va_G) (cI cJ : ClassId) (cR : Nat → ClassId) {c o : Nat} {u1 : Int} {u2 : Int} {u3 : Int} {f : pm_H} {P : pm_P} (hob : ∃ fs, f c = some (.inr (.inr (.inr (4, fs))))) (hex : wT T_X4_meet cvI [("java/lang/IndexOutOfBoundsException", 1)] [.inr (.inl (some c)), .inl u1, .inl u2, .inl u3] o f P) (hok : ∀ v ∈ ([.inr (.inl (some c)), .inl u1, .inl u2, .inl u3, .inr (.inl (some o))] : List pm_V), pm_ok v) : vx_Met l yL_meet (.codeWith yL_meet cL_meet 6 (some .int) [(0, 12, 15, 47)] :: pm_WS) (pm_rmx 6) (pw_Pc sk sv G cI cJ cR [.inr (.inl (some c)), .inl u1, .inl u2, .inl u3, .inr (.inl (some o))] f) (pm_Qc G cI cJ cR P f) (fun _ _ _ => False) 1 6 (pm_dom f) := by
  refine vx_ofWH (cc := cL_meet) (maxL := 6) (ret := some .int) (hh := [(0, 12, 15, 47)]) (by decide) rfl ?_
  intro p e s m args below meth cd s₁ B hml hv
  obtain ⟨⟨rfl, hHd, hK, hSt⟩, hNC⟩ := hv
  have hx := B.exec
  have hb : cd.code = cL_meet := B.bytes
  have hr := B.returns
  have hlocks := B.notSynchronized
  have hts := atoms_spec (ws := .codeWith yL_meet cL_meet 6 (some .int) [(0, 12, 15, 47)] :: pm_WS) B.pre
  have ok : ∀ w ∈ pm_WS, w.before _ s = true := fun w hw => hts w (List.mem_cons_of_mem _ hw)
  have hown : s.vm.findClass RL = some m.cls := findClass_of_methodNamed B.named
  have htab : cd.exceptionTable.toList = tableOf [(0, 12, 15, 47)] := vx_table (x := yL_meet) B (hts _ List.mem_cons_self)
  have hH0 : pm_Hd G vwCl cI cJ cR (pm_dom f) f s.heap := fun a c0 hc => ⟨(hHd a c0 hc).1, ⟨c0, hc⟩, (hHd a c0 hc).2.2⟩
  have step := fun (pc : Nat) (lv : pm_L) (st : List pm_V) (f0 : pm_H) (h : pm_S eL_meet P (fun _ _ => False) (pm_XW p l e (pm_rmx 6) s m _ below meth cd 0 0 (vx_MQ below (pm_Qc G cI cJ cR P f) (fun _ _ _ => False) _ s 1 6 (pm_dom f)) G vwCl cI cJ cR (pm_dom f) 6) pc lv st f0) => sg_S (d := 0) (sk := sk) (sv := sv) (own := RL) eL_meet (Nat.zero_le _) (Nat.zero_le _) (Nat.zero_le _) (Nat.zero_le _) hx hb hml hown hts hK hSt (fun _ => rfl) (fun _ => rfl) (fun _ => rfl) (fun _ => rfl) (Or.inl rfl) (fun n k ci T h => by cases h) (fun pc z f1 ls H locs h1 _ hz hp h3 hS => W.widen (k := 1) (n := 6) (Nat.zero_le _) (Nat.zero_le _) (vx_ret (W.iret hx hb hr (fun t ht _ => ⟨⟨some (.inl z), f1, rfl, hp, fun w hw => by simp at hw; subst hw; exact hz, by rw [ht]; exact h3⟩, hS.F ht⟩) hS.2.2 h1))) h
  have seg0 : pm_XW p l e (pm_rmx 6) s m (List.map pm_cv [.inr (.inl (some c)), .inl u1, .inl u2, .inl u3, .inr (.inl (some o))]).toArray below meth cd 0 0 (vx_MQ below (pm_Qc G cI cJ cR P f) (fun _ _ _ => False) (List.map pm_cv [.inr (.inl (some c)), .inl u1, .inl u2, .inl u3, .inr (.inl (some o))]).toArray s 1 6 (pm_dom f)) G vwCl cI cJ cR (pm_dom f) 6 0 [some (.inr (.inl (some c))), some (.inl u1), some (.inl u2), some (.inl u3), some (.inr (.inl (some o))), none] [] f := by
   refine sg_on eL_meet [7] 60 step ?_
   set_option maxRecDepth 100000 in simp (maxSteps := 2000000) only [pm_x_run, pm_x_rt, pm_x_rf, pm_z_S, pm_z_D, pm_z_cut0, pm_z_cut1, pm_z_cli, pm_z_clr, pm_z_cln, pm_z_cll, pm_z_up, pm_x_aload0, pm_x_aload4, pm_x_astore5, pm_x_c, pm_x_c2, pm_x_cn0, pm_x_cn1, pm_x_goto, pm_x_iload1, pm_x_iload2, pm_x_iload3, pm_x_invv, pm_x_last, pm_x_lst, pm_x_v0, pm_x_v1, pm_x_x2, pm_z_cat0, pm_z_cati, pm_z_catl, pm_z_catr, pm_z_i2l, pm_z_iconst, pm_z_pop0, pm_z_pop1, zL_meet_B, zL_meet_F, zL_meet_R, pm_z_ireti (zL_meet_R), dL_meet_0, dL_meet_2, dL_meet_3, dL_meet_4, dL_meet_5, dL_meet_6, dL_meet_7, dL_meet_10, dL_meet_11, dL_meet_12, dL_meet_15, dL_meet_17, dL_meet_18, dL_meet_19, dL_meet_20, Bool.cond_true, Bool.cond_false, Bool.or_false, Bool.false_or, Bool.true_or, Bool.or_true, true_and, and_true, if_true, if_false, List.length_cons, List.length_nil, List.getElem?_cons_zero, List.getElem?_cons_succ, List.set_cons_zero, List.set_cons_succ, Option.toList_some, Option.toList_none, List.cons_append, List.nil_append, beq_self_eq_true, Option.isSome_some, Option.isSome_none, pm_tg_lit, ite_true, ite_false, Nat.reduceAdd, Nat.reduceBEq, Nat.reduceLT, Nat.reduceLeDiff, Nat.reduceEqDiff, Int.reduceAdd, Int.reduceSub, Int.reduceLE, Int.reduceLT, Int.reduceEq, Int.reduceToNat, Int.reduceNeg, Int.cast_ofNat_Int, Int.reduceNatCast, Int.reduceNatCast', Int.zero_add, Int.add_zero, Nat.zero_add, Nat.add_zero, and_self, decide_true, decide_false, true_or, or_true, or_false, false_or, eq_self, Int.toNat_natCast, b2_e0, b2_e1, b2_ok, b2_w, b2_v, b2_tt, b2_ff, Bool.true_eq_false, Bool.false_eq_true, Option.some.injEq, Int.one_mul, Int.mul_one, not_true_eq_false, not_false_eq_true, ite_not, decide_eq_false_iff_not, decide_eq_true_eq, Int.reduceMul, Int.reduceMod]
   intro ho hs ls H locs hl hH hS
   obtain ⟨P', PX', hT', hk, hkx⟩ := hex
   obtain ⟨fs, hfc⟩ := hob
   refine pmx_rule (d := 6) (R := pm_rmx 6) (as := [.inr (.inl (some c)), .inl u1, .inl u2, .inl u3]) (r := [.inl 0, .inr (.inl (some o))]) (Nat.le_refl _) (Nat.le_refl _) (Nat.le_refl _) (Nat.le_refl _) hx hb hml hown hts hK hSt (wk_meet l sk hlt) dL_meet_7 rfl (Or.inr ⟨c, fs, _, rfl, hfc⟩) (Nat.le_of_ble_eq_true rfl) hT' (fun v hv => hok v (by simp at hv ⊢; rcases hv with rfl | rfl | rfl | rfl <;> simp [*])) hl.1 hH hS ?_ ?_
   · intro v f' H' locs' hp hok' hH' hS'
     obtain ⟨z, g, rfl, hg, hP⟩ := hk v f' hp
     have hz : pm_ok (.inl z) := hok' (.inl z) (by simp)
     have seg : pm_XW p l e (pm_rmx 6) s m (List.map pm_cv [.inr (.inl (some c)), .inl u1, .inl u2, .inl u3, .inr (.inl (some o))]).toArray below meth cd 0 0 (vx_MQ below (pm_Qc G cI cJ cR P f) (fun _ _ _ => False) (List.map pm_cv [.inr (.inl (some c)), .inl u1, .inl u2, .inl u3, .inr (.inl (some o))]).toArray s 1 6 (pm_dom f)) G vwCl cI cJ cR (pm_dom f) 6 10 [some (.inr (.inl (some c))), some (.inl u1), some (.inl u2), some (.inl u3), some (.inr (.inl (some o))), none] [.inl z, .inl 0, .inr (.inl (some o))] f' := by
       refine sg_on eL_meet [] 60 step ?_
       set_option maxRecDepth 100000 in simp (maxSteps := 2000000) only [pm_x_run, pm_x_rt, pm_x_rf, pm_z_S, pm_z_D, pm_z_cut0, pm_z_cut1, pm_z_cli, pm_z_clr, pm_z_cln, pm_z_cll, pm_z_up, pm_x_aload0, pm_x_aload4, pm_x_astore5, pm_x_c, pm_x_c2, pm_x_cn0, pm_x_cn1, pm_x_goto, pm_x_iload1, pm_x_iload2, pm_x_iload3, pm_x_invv, pm_x_last, pm_x_lst, pm_x_v0, pm_x_v1, pm_x_x2, pm_z_cat0, pm_z_cati, pm_z_catl, pm_z_catr, pm_z_i2l, pm_z_iconst, pm_z_pop0, pm_z_pop1, zL_meet_B, zL_meet_F, zL_meet_R, pm_z_ireti (zL_meet_R), dL_meet_0, dL_meet_2, dL_meet_3, dL_meet_4, dL_meet_5, dL_meet_6, dL_meet_7, dL_meet_10, dL_meet_11, dL_meet_12, dL_meet_15, dL_meet_17, dL_meet_18, dL_meet_19, dL_meet_20, Bool.cond_true, Bool.cond_false, Bool.or_false, Bool.false_or, Bool.true_or, Bool.or_true, true_and, and_true, if_true, if_false, List.length_cons, List.length_nil, List.getElem?_cons_zero, List.getElem?_cons_succ, List.set_cons_zero, List.set_cons_succ, Option.toList_some, Option.toList_none, List.cons_append, List.nil_append, beq_self_eq_true, Option.isSome_some, Option.isSome_none, pm_tg_lit, ite_true, ite_false, Nat.reduceAdd, Nat.reduceBEq, Nat.reduceLT, Nat.reduceLeDiff, Nat.reduceEqDiff, Int.reduceAdd, Int.reduceSub, Int.reduceLE, Int.reduceLT, Int.reduceEq, Int.reduceToNat, Int.reduceNeg, Int.cast_ofNat_Int, Int.reduceNatCast, Int.reduceNatCast', Int.zero_add, Int.add_zero, Nat.zero_add, Nat.add_zero, and_self, decide_true, decide_false, true_or, or_true, or_false, false_or, eq_self, Int.toNat_natCast, b2_e0, b2_e1, b2_ok, b2_w, b2_v, b2_tt, b2_ff, Bool.true_eq_false, Bool.false_eq_true, Option.some.injEq, Int.one_mul, Int.mul_one, not_true_eq_false, not_false_eq_true, ite_not, decide_eq_false_iff_not, decide_eq_true_eq, Int.reduceMul, Int.reduceMod, hg]
       exact hP
     exact seg ho (fun v hv => by simp at hv; rcases hv with rfl | rfl | rfl; exact hz; exact pm_in0; trivial) ls H' locs' hl hH' hS'
   · intro x f' H' locs' q9 ce hp hH' hS' hcell hcv hcl
     obtain ⟨n, hn, hPn⟩ := hkx x f' hp
     · skip
       rw [List.mem_singleton, Prod.mk.injEq] at hn
       obtain ⟨rfl, rfl⟩ := hn
       refine vx_catch (name := "java/lang/IndexOutOfBoundsException") hown [] ⟨0, 12, 15, 47⟩ [] htab (fun z hz => by cases hz) (by decide) (by decide) (ok _ (ps_in (by decide +kernel))) (va_Nw.use rfl (hK.2 _ (List.mem_filter.mpr ⟨List.contains_iff_mem.mp (by decide +kernel), rfl⟩))) hcell hcv hcl ?_
       refine lv_astore hx hb dL_meet_15 (pm_Lr_has hl) (by decide) rfl fun ls' hl' => ?_
       refine lv_iconst hx hb dL_meet_17 rfl ?_
       exact vx_ret (W.iret hx hb hr (fun t ht _ => ⟨⟨some (.inl 1), f', rfl, hPn, fun w hw => by simp at hw; subst hw; unfold pm_ok pm_in; omega, by rw [ht]; exact hH'⟩, hS'.F ht⟩) hS'.2.2 dL_meet_18)
  have hin : pm_init 6 [.inr (.inl (some c)), .inl u1, .inl u2, .inl u3, .inr (.inl (some o))] = [some (.inr (.inl (some c))), some (.inl u1), some (.inl u2), some (.inl u3), some (.inr (.inl (some o))), none] := by simp [pm_init, pm_put]
  rw [lg_entry_eq]
  rw [← hin] at seg0
  exact seg0 (fun i v hv => pm_put_ok [.inr (.inl (some c)), .inl u1, .inl u2, .inl u3, .inr (.inl (some o))] hok i v (pm_lg_app (pm_put [.inr (.inl (some c)), .inl u1, .inl u2, .inl u3, .inr (.inl (some o))]) _ i v hv)) (fun v hv => by cases hv) _ s.heap [] (pm_entry (as := [.inr (.inl (some c)), .inl u1, .inl u2, .inl u3, .inr (.inl (some o))]) (Nat.le_of_ble_eq_true rfl)) hH0 va_S.rf
def eL_within : pm_E := (cL_within, f0, fun _ => none, fun _ => none, fun _ => none, fun _ => none, some .int)
theorem zL_within_B : pm_eB eL_within = cL_within := rfl
theorem zL_within_F : pm_eF eL_within = f0 := rfl
theorem zL_within_R : pm_eR eL_within = some .int := rfl
theorem wk_within (l : Launch) (sk : Nat → Nat) (hlt : l.stackTraces = false) : pmx_COK l sk RL 5 92 3 (some 4) T_X4_within := px_cok (i := 4) (Ct_X4_within l sk hlt) ykX4_within (by decide) (by decide) rfl rfl (by decide) (by decide +kernel) (pm_WS_mem 1129 (by decide +kernel) rfl)
set_option maxHeartbeats 4000000 in
set_option maxRecDepth 20000 in
theorem wc_within (l : Launch) (sk : Nat → Nat) (hlt : l.stackTraces = false) (sv : Nat → Nat) (G : va_G) (cI cJ : ClassId) (cR : Nat → ClassId) {c o : Nat} {u1 : Int} {u2 : Int} {f : pm_H} {P : pm_P} (hob : ∃ fs, f c = some (.inr (.inr (.inr (4, fs))))) (hex : wT T_X4_within cvI [("java/lang/IndexOutOfBoundsException", 1), ("java/lang/IllegalArgumentException", 2)] [.inr (.inl (some c)), .inl u1, .inl u2] o f P) (hok : ∀ v ∈ ([.inr (.inl (some c)), .inl u1, .inl u2, .inr (.inl (some o))] : List pm_V), pm_ok v) : vx_Met l yL_within (.codeWith yL_within cL_within 5 (some .int) [(0, 10, 13, 47), (0, 10, 17, 13)] :: pm_WS) (pm_rmx 5) (pw_Pc sk sv G cI cJ cR [.inr (.inl (some c)), .inl u1, .inl u2, .inr (.inl (some o))] f) (pm_Qc G cI cJ cR P f) (fun _ _ _ => False) 1 6 (pm_dom f) := by
  refine vx_ofWH (cc := cL_within) (maxL := 5) (ret := some .int) (hh := [(0, 10, 13, 47), (0, 10, 17, 13)]) (by decide) rfl ?_
  intro p e s m args below meth cd s₁ B hml hv
  obtain ⟨⟨rfl, hHd, hK, hSt⟩, hNC⟩ := hv
  have hx := B.exec
  have hb : cd.code = cL_within := B.bytes
  have hr := B.returns
  have hlocks := B.notSynchronized
  have hts := atoms_spec (ws := .codeWith yL_within cL_within 5 (some .int) [(0, 10, 13, 47), (0, 10, 17, 13)] :: pm_WS) B.pre
  have ok : ∀ w ∈ pm_WS, w.before _ s = true := fun w hw => hts w (List.mem_cons_of_mem _ hw)
  have hown : s.vm.findClass RL = some m.cls := findClass_of_methodNamed B.named
  have htab : cd.exceptionTable.toList = tableOf [(0, 10, 13, 47), (0, 10, 17, 13)] := vx_table (x := yL_within) B (hts _ List.mem_cons_self)
  have hH0 : pm_Hd G vwCl cI cJ cR (pm_dom f) f s.heap := fun a c0 hc => ⟨(hHd a c0 hc).1, ⟨c0, hc⟩, (hHd a c0 hc).2.2⟩
  have step := fun (pc : Nat) (lv : pm_L) (st : List pm_V) (f0 : pm_H) (h : pm_S eL_within P (fun _ _ => False) (pm_XW p l e (pm_rmx 5) s m _ below meth cd 0 0 (vx_MQ below (pm_Qc G cI cJ cR P f) (fun _ _ _ => False) _ s 1 6 (pm_dom f)) G vwCl cI cJ cR (pm_dom f) 5) pc lv st f0) => sg_S (d := 0) (sk := sk) (sv := sv) (own := RL) eL_within (Nat.zero_le _) (Nat.zero_le _) (Nat.zero_le _) (Nat.zero_le _) hx hb hml hown hts hK hSt (fun _ => rfl) (fun _ => rfl) (fun _ => rfl) (fun _ => rfl) (Or.inl rfl) (fun n k ci T h => by cases h) (fun pc z f1 ls H locs h1 _ hz hp h3 hS => W.widen (k := 1) (n := 6) (Nat.zero_le _) (Nat.zero_le _) (vx_ret (W.iret hx hb hr (fun t ht _ => ⟨⟨some (.inl z), f1, rfl, hp, fun w hw => by simp at hw; subst hw; exact hz, by rw [ht]; exact h3⟩, hS.F ht⟩) hS.2.2 h1))) h
  have seg0 : pm_XW p l e (pm_rmx 5) s m (List.map pm_cv [.inr (.inl (some c)), .inl u1, .inl u2, .inr (.inl (some o))]).toArray below meth cd 0 0 (vx_MQ below (pm_Qc G cI cJ cR P f) (fun _ _ _ => False) (List.map pm_cv [.inr (.inl (some c)), .inl u1, .inl u2, .inr (.inl (some o))]).toArray s 1 6 (pm_dom f)) G vwCl cI cJ cR (pm_dom f) 5 0 [some (.inr (.inl (some c))), some (.inl u1), some (.inl u2), some (.inr (.inl (some o))), none] [] f := by
   refine sg_on eL_within [5] 60 step ?_
   set_option maxRecDepth 100000 in simp (maxSteps := 2000000) only [pm_x_run, pm_x_rt, pm_x_rf, pm_z_S, pm_z_D, pm_z_cut0, pm_z_cut1, pm_z_cli, pm_z_clr, pm_z_cln, pm_z_cll, pm_z_up, pm_x_aload0, pm_x_aload3, pm_x_astore4, pm_x_c, pm_x_c2, pm_x_cn0, pm_x_cn1, pm_x_goto, pm_x_iload1, pm_x_iload2, pm_x_invv, pm_x_last, pm_x_lst, pm_x_v0, pm_x_v1, pm_x_x2, pm_z_cat0, pm_z_cati, pm_z_catl, pm_z_catr, pm_z_i2l, pm_z_iconst, pm_z_pop0, pm_z_pop1, zL_within_B, zL_within_F, zL_within_R, pm_z_ireti (zL_within_R), dL_within_0, dL_within_1, dL_within_2, dL_within_3, dL_within_4, dL_within_5, dL_within_8, dL_within_9, dL_within_10, dL_within_13, dL_within_15, dL_within_16, dL_within_17, dL_within_19, dL_within_20, dL_within_21, dL_within_22, Bool.cond_true, Bool.cond_false, Bool.or_false, Bool.false_or, Bool.true_or, Bool.or_true, true_and, and_true, if_true, if_false, List.length_cons, List.length_nil, List.getElem?_cons_zero, List.getElem?_cons_succ, List.set_cons_zero, List.set_cons_succ, Option.toList_some, Option.toList_none, List.cons_append, List.nil_append, beq_self_eq_true, Option.isSome_some, Option.isSome_none, pm_tg_lit, ite_true, ite_false, Nat.reduceAdd, Nat.reduceBEq, Nat.reduceLT, Nat.reduceLeDiff, Nat.reduceEqDiff, Int.reduceAdd, Int.reduceSub, Int.reduceLE, Int.reduceLT, Int.reduceEq, Int.reduceToNat, Int.reduceNeg, Int.cast_ofNat_Int, Int.reduceNatCast, Int.reduceNatCast', Int.zero_add, Int.add_zero, Nat.zero_add, Nat.add_zero, and_self, decide_true, decide_false, true_or, or_true, or_false, false_or, eq_self, Int.toNat_natCast, b2_e0, b2_e1, b2_ok, b2_w, b2_v, b2_tt, b2_ff, Bool.true_eq_false, Bool.false_eq_true, Option.some.injEq, Int.one_mul, Int.mul_one, not_true_eq_false, not_false_eq_true, ite_not, decide_eq_false_iff_not, decide_eq_true_eq, Int.reduceMul, Int.reduceMod]
   intro ho hs ls H locs hl hH hS
   obtain ⟨P', PX', hT', hk, hkx⟩ := hex
   obtain ⟨fs, hfc⟩ := hob
   refine pmx_rule (d := 5) (R := pm_rmx 5) (as := [.inr (.inl (some c)), .inl u1, .inl u2]) (r := [.inl 0, .inr (.inl (some o))]) (Nat.le_refl _) (Nat.le_refl _) (Nat.le_refl _) (Nat.le_refl _) hx hb hml hown hts hK hSt (wk_within l sk hlt) dL_within_5 rfl (Or.inr ⟨c, fs, _, rfl, hfc⟩) (Nat.le_of_ble_eq_true rfl) hT' (fun v hv => hok v (by simp at hv ⊢; rcases hv with rfl | rfl | rfl <;> simp [*])) hl.1 hH hS ?_ ?_
   · intro v f' H' locs' hp hok' hH' hS'
     obtain ⟨z, g, rfl, hg, hP⟩ := hk v f' hp
     have hz : pm_ok (.inl z) := hok' (.inl z) (by simp)
     have seg : pm_XW p l e (pm_rmx 5) s m (List.map pm_cv [.inr (.inl (some c)), .inl u1, .inl u2, .inr (.inl (some o))]).toArray below meth cd 0 0 (vx_MQ below (pm_Qc G cI cJ cR P f) (fun _ _ _ => False) (List.map pm_cv [.inr (.inl (some c)), .inl u1, .inl u2, .inr (.inl (some o))]).toArray s 1 6 (pm_dom f)) G vwCl cI cJ cR (pm_dom f) 5 8 [some (.inr (.inl (some c))), some (.inl u1), some (.inl u2), some (.inr (.inl (some o))), none] [.inl z, .inl 0, .inr (.inl (some o))] f' := by
       refine sg_on eL_within [] 60 step ?_
       set_option maxRecDepth 100000 in simp (maxSteps := 2000000) only [pm_x_run, pm_x_rt, pm_x_rf, pm_z_S, pm_z_D, pm_z_cut0, pm_z_cut1, pm_z_cli, pm_z_clr, pm_z_cln, pm_z_cll, pm_z_up, pm_x_aload0, pm_x_aload3, pm_x_astore4, pm_x_c, pm_x_c2, pm_x_cn0, pm_x_cn1, pm_x_goto, pm_x_iload1, pm_x_iload2, pm_x_invv, pm_x_last, pm_x_lst, pm_x_v0, pm_x_v1, pm_x_x2, pm_z_cat0, pm_z_cati, pm_z_catl, pm_z_catr, pm_z_i2l, pm_z_iconst, pm_z_pop0, pm_z_pop1, zL_within_B, zL_within_F, zL_within_R, pm_z_ireti (zL_within_R), dL_within_0, dL_within_1, dL_within_2, dL_within_3, dL_within_4, dL_within_5, dL_within_8, dL_within_9, dL_within_10, dL_within_13, dL_within_15, dL_within_16, dL_within_17, dL_within_19, dL_within_20, dL_within_21, dL_within_22, Bool.cond_true, Bool.cond_false, Bool.or_false, Bool.false_or, Bool.true_or, Bool.or_true, true_and, and_true, if_true, if_false, List.length_cons, List.length_nil, List.getElem?_cons_zero, List.getElem?_cons_succ, List.set_cons_zero, List.set_cons_succ, Option.toList_some, Option.toList_none, List.cons_append, List.nil_append, beq_self_eq_true, Option.isSome_some, Option.isSome_none, pm_tg_lit, ite_true, ite_false, Nat.reduceAdd, Nat.reduceBEq, Nat.reduceLT, Nat.reduceLeDiff, Nat.reduceEqDiff, Int.reduceAdd, Int.reduceSub, Int.reduceLE, Int.reduceLT, Int.reduceEq, Int.reduceToNat, Int.reduceNeg, Int.cast_ofNat_Int, Int.reduceNatCast, Int.reduceNatCast', Int.zero_add, Int.add_zero, Nat.zero_add, Nat.add_zero, and_self, decide_true, decide_false, true_or, or_true, or_false, false_or, eq_self, Int.toNat_natCast, b2_e0, b2_e1, b2_ok, b2_w, b2_v, b2_tt, b2_ff, Bool.true_eq_false, Bool.false_eq_true, Option.some.injEq, Int.one_mul, Int.mul_one, not_true_eq_false, not_false_eq_true, ite_not, decide_eq_false_iff_not, decide_eq_true_eq, Int.reduceMul, Int.reduceMod, hg]
       exact hP
     exact seg ho (fun v hv => by simp at hv; rcases hv with rfl | rfl | rfl; exact hz; exact pm_in0; trivial) ls H' locs' hl hH' hS'
   · intro x f' H' locs' q9 ce hp hH' hS' hcell hcv hcl
     obtain ⟨n, hn, hPn⟩ := hkx x f' hp
     · skip
       simp only [List.mem_cons, List.not_mem_nil, or_false, Prod.mk.injEq] at hn
       rcases hn with ⟨rfl, rfl⟩ | ⟨rfl, rfl⟩
       · refine vx_catch (name := "java/lang/IndexOutOfBoundsException") hown [] ⟨0, 10, 13, 47⟩ [⟨0, 10, 17, 13⟩] htab (fun z hz => by cases hz) (by decide) (by decide) (ok _ (ps_in (by decide +kernel))) (va_Nw.use rfl (hK.2 _ (List.mem_filter.mpr ⟨List.contains_iff_mem.mp (by decide +kernel), rfl⟩))) hcell hcv hcl ?_
         refine lv_astore hx hb dL_within_13 (pm_Lr_has hl) (by decide) rfl fun ls' hl' => ?_
         refine lv_iconst hx hb dL_within_15 rfl ?_
         exact vx_ret (W.iret hx hb hr (fun t ht _ => ⟨⟨some (.inl 1), f', rfl, hPn, fun w hw => by simp at hw; subst hw; unfold pm_ok pm_in; omega, by rw [ht]; exact hH'⟩, hS'.F ht⟩) hS'.2.2 dL_within_16)
       · refine vx_catch (name := "java/lang/IllegalArgumentException") hown [⟨0, 10, 13, 47⟩] ⟨0, 10, 17, 13⟩ [] htab (fun z hz => by
           simp only [List.mem_cons, List.not_mem_nil, or_false] at hz
           rcases hz with rfl
           · exact Or.inr ⟨by decide, "java/lang/IndexOutOfBoundsException", ok _ (ps_in (by decide +kernel)), hNC ("java/lang/IllegalArgumentException", "java/lang/IndexOutOfBoundsException") (by decide)⟩) (by decide) (by decide) (ok _ (ps_in (by decide +kernel))) (va_Nw.use rfl (hK.2 _ (List.mem_filter.mpr ⟨List.contains_iff_mem.mp (by decide +kernel), rfl⟩))) hcell hcv hcl ?_
         refine lv_astore hx hb dL_within_17 (pm_Lr_has hl) (by decide) rfl fun ls' hl' => ?_
         refine lv_iconst hx hb dL_within_19 rfl ?_
         exact vx_ret (W.iret hx hb hr (fun t ht _ => ⟨⟨some (.inl 2), f', rfl, hPn, fun w hw => by simp at hw; subst hw; unfold pm_ok pm_in; omega, by rw [ht]; exact hH'⟩, hS'.F ht⟩) hS'.2.2 dL_within_20)
  have hin : pm_init 5 [.inr (.inl (some c)), .inl u1, .inl u2, .inr (.inl (some o))] = [some (.inr (.inl (some c))), some (.inl u1), some (.inl u2), some (.inr (.inl (some o))), none] := by simp [pm_init, pm_put]
  rw [lg_entry_eq]
  rw [← hin] at seg0
  exact seg0 (fun i v hv => pm_put_ok [.inr (.inl (some c)), .inl u1, .inl u2, .inr (.inl (some o))] hok i v (pm_lg_app (pm_put [.inr (.inl (some c)), .inl u1, .inl u2, .inr (.inl (some o))]) _ i v hv)) (fun v hv => by cases hv) _ s.heap [] (pm_entry (as := [.inr (.inl (some c)), .inl u1, .inl u2, .inr (.inl (some o))]) (Nat.le_of_ble_eq_true rfl)) hH0 va_S.rf
def eL_odds : pm_E := (cL_odds, f0, fun _ => none, fun _ => none, fun _ => none, fun _ => none, some .int)
theorem zL_odds_B : pm_eB eL_odds = cL_odds := rfl
theorem zL_odds_F : pm_eF eL_odds = f0 := rfl
theorem zL_odds_R : pm_eR eL_odds = some .int := rfl
theorem wk_odds (l : Launch) (sk : Nat → Nat) (hlt : l.stackTraces = false) : pmx_COK l sk RL 19 95 3 (some 4) T_X4_odds := px_cok (i := 4) (Ct_X4_odds l sk hlt) ykX4_odds (by decide) (by decide) rfl rfl (by decide) (by decide +kernel) (pm_WS_mem 1141 (by decide +kernel) rfl)
set_option maxHeartbeats 4000000 in
set_option maxRecDepth 20000 in
theorem wc_odds (l : Launch) (sk : Nat → Nat) (hlt : l.stackTraces = false) (sv : Nat → Nat) (G : va_G) (cI cJ : ClassId) (cR : Nat → ClassId) {c o : Nat} {u1 : Int} {u2 : Int} {f : pm_H} {P : pm_P} (hob : ∃ fs, f c = some (.inr (.inr (.inr (4, fs))))) (hex : wT T_X4_odds cvI [("java/lang/IndexOutOfBoundsException", 1)] [.inr (.inl (some c)), .inl u1, .inl u2] o f P) (hok : ∀ v ∈ ([.inr (.inl (some c)), .inl u1, .inl u2, .inr (.inl (some o))] : List pm_V), pm_ok v) : vx_Met l yL_odds (.codeWith yL_odds cL_odds 5 (some .int) [(0, 10, 13, 47)] :: pm_WS) (pm_rmx 19) (pw_Pc sk sv G cI cJ cR [.inr (.inl (some c)), .inl u1, .inl u2, .inr (.inl (some o))] f) (pm_Qc G cI cJ cR P f) (fun _ _ _ => False) 1 6 (pm_dom f) := by
  refine vx_ofWH (cc := cL_odds) (maxL := 5) (ret := some .int) (hh := [(0, 10, 13, 47)]) (by decide) rfl ?_
  intro p e s m args below meth cd s₁ B hml hv
  obtain ⟨⟨rfl, hHd, hK, hSt⟩, hNC⟩ := hv
  have hx := B.exec
  have hb : cd.code = cL_odds := B.bytes
  have hr := B.returns
  have hlocks := B.notSynchronized
  have hts := atoms_spec (ws := .codeWith yL_odds cL_odds 5 (some .int) [(0, 10, 13, 47)] :: pm_WS) B.pre
  have ok : ∀ w ∈ pm_WS, w.before _ s = true := fun w hw => hts w (List.mem_cons_of_mem _ hw)
  have hown : s.vm.findClass RL = some m.cls := findClass_of_methodNamed B.named
  have htab : cd.exceptionTable.toList = tableOf [(0, 10, 13, 47)] := vx_table (x := yL_odds) B (hts _ List.mem_cons_self)
  have hH0 : pm_Hd G vwCl cI cJ cR (pm_dom f) f s.heap := fun a c0 hc => ⟨(hHd a c0 hc).1, ⟨c0, hc⟩, (hHd a c0 hc).2.2⟩
  have step := fun (pc : Nat) (lv : pm_L) (st : List pm_V) (f0 : pm_H) (h : pm_S eL_odds P (fun _ _ => False) (pm_XW p l e (pm_rmx 19) s m _ below meth cd 0 0 (vx_MQ below (pm_Qc G cI cJ cR P f) (fun _ _ _ => False) _ s 1 6 (pm_dom f)) G vwCl cI cJ cR (pm_dom f) 5) pc lv st f0) => sg_S (d := 0) (sk := sk) (sv := sv) (own := RL) eL_odds (Nat.zero_le _) (Nat.zero_le _) (Nat.zero_le _) (Nat.zero_le _) hx hb hml hown hts hK hSt (fun _ => rfl) (fun _ => rfl) (fun _ => rfl) (fun _ => rfl) (Or.inl rfl) (fun n k ci T h => by cases h) (fun pc z f1 ls H locs h1 _ hz hp h3 hS => W.widen (k := 1) (n := 6) (Nat.zero_le _) (Nat.zero_le _) (vx_ret (W.iret hx hb hr (fun t ht _ => ⟨⟨some (.inl z), f1, rfl, hp, fun w hw => by simp at hw; subst hw; exact hz, by rw [ht]; exact h3⟩, hS.F ht⟩) hS.2.2 h1))) h
  have seg0 : pm_XW p l e (pm_rmx 19) s m (List.map pm_cv [.inr (.inl (some c)), .inl u1, .inl u2, .inr (.inl (some o))]).toArray below meth cd 0 0 (vx_MQ below (pm_Qc G cI cJ cR P f) (fun _ _ _ => False) (List.map pm_cv [.inr (.inl (some c)), .inl u1, .inl u2, .inr (.inl (some o))]).toArray s 1 6 (pm_dom f)) G vwCl cI cJ cR (pm_dom f) 5 0 [some (.inr (.inl (some c))), some (.inl u1), some (.inl u2), some (.inr (.inl (some o))), none] [] f := by
   refine sg_on eL_odds [5] 60 step ?_
   set_option maxRecDepth 100000 in simp (maxSteps := 2000000) only [pm_x_run, pm_x_rt, pm_x_rf, pm_z_S, pm_z_D, pm_z_cut0, pm_z_cut1, pm_z_cli, pm_z_clr, pm_z_cln, pm_z_cll, pm_z_up, pm_x_aload0, pm_x_aload3, pm_x_astore4, pm_x_c, pm_x_c2, pm_x_cn0, pm_x_cn1, pm_x_goto, pm_x_iload1, pm_x_iload2, pm_x_invv, pm_x_last, pm_x_lst, pm_x_v0, pm_x_v1, pm_x_x2, pm_z_cat0, pm_z_cati, pm_z_catl, pm_z_catr, pm_z_i2l, pm_z_iconst, pm_z_pop0, pm_z_pop1, zL_odds_B, zL_odds_F, zL_odds_R, pm_z_ireti (zL_odds_R), dL_odds_0, dL_odds_1, dL_odds_2, dL_odds_3, dL_odds_4, dL_odds_5, dL_odds_8, dL_odds_9, dL_odds_10, dL_odds_13, dL_odds_15, dL_odds_16, dL_odds_17, dL_odds_18, Bool.cond_true, Bool.cond_false, Bool.or_false, Bool.false_or, Bool.true_or, Bool.or_true, true_and, and_true, if_true, if_false, List.length_cons, List.length_nil, List.getElem?_cons_zero, List.getElem?_cons_succ, List.set_cons_zero, List.set_cons_succ, Option.toList_some, Option.toList_none, List.cons_append, List.nil_append, beq_self_eq_true, Option.isSome_some, Option.isSome_none, pm_tg_lit, ite_true, ite_false, Nat.reduceAdd, Nat.reduceBEq, Nat.reduceLT, Nat.reduceLeDiff, Nat.reduceEqDiff, Int.reduceAdd, Int.reduceSub, Int.reduceLE, Int.reduceLT, Int.reduceEq, Int.reduceToNat, Int.reduceNeg, Int.cast_ofNat_Int, Int.reduceNatCast, Int.reduceNatCast', Int.zero_add, Int.add_zero, Nat.zero_add, Nat.add_zero, and_self, decide_true, decide_false, true_or, or_true, or_false, false_or, eq_self, Int.toNat_natCast, b2_e0, b2_e1, b2_ok, b2_w, b2_v, b2_tt, b2_ff, Bool.true_eq_false, Bool.false_eq_true, Option.some.injEq, Int.one_mul, Int.mul_one, not_true_eq_false, not_false_eq_true, ite_not, decide_eq_false_iff_not, decide_eq_true_eq, Int.reduceMul, Int.reduceMod]
   intro ho hs ls H locs hl hH hS
   obtain ⟨P', PX', hT', hk, hkx⟩ := hex
   obtain ⟨fs, hfc⟩ := hob
   refine pmx_rule (d := 19) (R := pm_rmx 19) (as := [.inr (.inl (some c)), .inl u1, .inl u2]) (r := [.inl 0, .inr (.inl (some o))]) (Nat.le_refl _) (Nat.le_refl _) (Nat.le_refl _) (Nat.le_refl _) hx hb hml hown hts hK hSt (wk_odds l sk hlt) dL_odds_5 rfl (Or.inr ⟨c, fs, _, rfl, hfc⟩) (Nat.le_of_ble_eq_true rfl) hT' (fun v hv => hok v (by simp at hv ⊢; rcases hv with rfl | rfl | rfl <;> simp [*])) hl.1 hH hS ?_ ?_
   · intro v f' H' locs' hp hok' hH' hS'
     obtain ⟨z, g, rfl, hg, hP⟩ := hk v f' hp
     have hz : pm_ok (.inl z) := hok' (.inl z) (by simp)
     have seg : pm_XW p l e (pm_rmx 19) s m (List.map pm_cv [.inr (.inl (some c)), .inl u1, .inl u2, .inr (.inl (some o))]).toArray below meth cd 0 0 (vx_MQ below (pm_Qc G cI cJ cR P f) (fun _ _ _ => False) (List.map pm_cv [.inr (.inl (some c)), .inl u1, .inl u2, .inr (.inl (some o))]).toArray s 1 6 (pm_dom f)) G vwCl cI cJ cR (pm_dom f) 5 8 [some (.inr (.inl (some c))), some (.inl u1), some (.inl u2), some (.inr (.inl (some o))), none] [.inl z, .inl 0, .inr (.inl (some o))] f' := by
       refine sg_on eL_odds [] 60 step ?_
       set_option maxRecDepth 100000 in simp (maxSteps := 2000000) only [pm_x_run, pm_x_rt, pm_x_rf, pm_z_S, pm_z_D, pm_z_cut0, pm_z_cut1, pm_z_cli, pm_z_clr, pm_z_cln, pm_z_cll, pm_z_up, pm_x_aload0, pm_x_aload3, pm_x_astore4, pm_x_c, pm_x_c2, pm_x_cn0, pm_x_cn1, pm_x_goto, pm_x_iload1, pm_x_iload2, pm_x_invv, pm_x_last, pm_x_lst, pm_x_v0, pm_x_v1, pm_x_x2, pm_z_cat0, pm_z_cati, pm_z_catl, pm_z_catr, pm_z_i2l, pm_z_iconst, pm_z_pop0, pm_z_pop1, zL_odds_B, zL_odds_F, zL_odds_R, pm_z_ireti (zL_odds_R), dL_odds_0, dL_odds_1, dL_odds_2, dL_odds_3, dL_odds_4, dL_odds_5, dL_odds_8, dL_odds_9, dL_odds_10, dL_odds_13, dL_odds_15, dL_odds_16, dL_odds_17, dL_odds_18, Bool.cond_true, Bool.cond_false, Bool.or_false, Bool.false_or, Bool.true_or, Bool.or_true, true_and, and_true, if_true, if_false, List.length_cons, List.length_nil, List.getElem?_cons_zero, List.getElem?_cons_succ, List.set_cons_zero, List.set_cons_succ, Option.toList_some, Option.toList_none, List.cons_append, List.nil_append, beq_self_eq_true, Option.isSome_some, Option.isSome_none, pm_tg_lit, ite_true, ite_false, Nat.reduceAdd, Nat.reduceBEq, Nat.reduceLT, Nat.reduceLeDiff, Nat.reduceEqDiff, Int.reduceAdd, Int.reduceSub, Int.reduceLE, Int.reduceLT, Int.reduceEq, Int.reduceToNat, Int.reduceNeg, Int.cast_ofNat_Int, Int.reduceNatCast, Int.reduceNatCast', Int.zero_add, Int.add_zero, Nat.zero_add, Nat.add_zero, and_self, decide_true, decide_false, true_or, or_true, or_false, false_or, eq_self, Int.toNat_natCast, b2_e0, b2_e1, b2_ok, b2_w, b2_v, b2_tt, b2_ff, Bool.true_eq_false, Bool.false_eq_true, Option.some.injEq, Int.one_mul, Int.mul_one, not_true_eq_false, not_false_eq_true, ite_not, decide_eq_false_iff_not, decide_eq_true_eq, Int.reduceMul, Int.reduceMod, hg]
       exact hP
     exact seg ho (fun v hv => by simp at hv; rcases hv with rfl | rfl | rfl; exact hz; exact pm_in0; trivial) ls H' locs' hl hH' hS'
   · intro x f' H' locs' q9 ce hp hH' hS' hcell hcv hcl
     obtain ⟨n, hn, hPn⟩ := hkx x f' hp
     · skip
       rw [List.mem_singleton, Prod.mk.injEq] at hn
       obtain ⟨rfl, rfl⟩ := hn
       refine vx_catch (name := "java/lang/IndexOutOfBoundsException") hown [] ⟨0, 10, 13, 47⟩ [] htab (fun z hz => by cases hz) (by decide) (by decide) (ok _ (ps_in (by decide +kernel))) (va_Nw.use rfl (hK.2 _ (List.mem_filter.mpr ⟨List.contains_iff_mem.mp (by decide +kernel), rfl⟩))) hcell hcv hcl ?_
       refine lv_astore hx hb dL_odds_13 (pm_Lr_has hl) (by decide) rfl fun ls' hl' => ?_
       refine lv_iconst hx hb dL_odds_15 rfl ?_
       exact vx_ret (W.iret hx hb hr (fun t ht _ => ⟨⟨some (.inl 1), f', rfl, hPn, fun w hw => by simp at hw; subst hw; unfold pm_ok pm_in; omega, by rw [ht]; exact hH'⟩, hS'.F ht⟩) hS'.2.2 dL_odds_16)
  have hin : pm_init 5 [.inr (.inl (some c)), .inl u1, .inl u2, .inr (.inl (some o))] = [some (.inr (.inl (some c))), some (.inl u1), some (.inl u2), some (.inr (.inl (some o))), none] := by simp [pm_init, pm_put]
  rw [lg_entry_eq]
  rw [← hin] at seg0
  exact seg0 (fun i v hv => pm_put_ok [.inr (.inl (some c)), .inl u1, .inl u2, .inr (.inl (some o))] hok i v (pm_lg_app (pm_put [.inr (.inl (some c)), .inl u1, .inl u2, .inr (.inl (some o))]) _ i v hv)) (fun v hv => by cases hv) _ s.heap [] (pm_entry (as := [.inr (.inl (some c)), .inl u1, .inl u2, .inr (.inl (some o))]) (Nat.le_of_ble_eq_true rfl)) hH0 va_S.rf
def eL_fare : pm_E := (cL_fare, f0, fun _ => none, fun _ => none, fun _ => none, fun _ => none, some .int)
theorem zL_fare_B : pm_eB eL_fare = cL_fare := rfl
theorem zL_fare_F : pm_eF eL_fare = f0 := rfl
theorem zL_fare_R : pm_eR eL_fare = some .int := rfl
theorem wk_fare (l : Launch) (sk : Nat → Nat) (hlt : l.stackTraces = false) : pmx_COK l sk RL 4 98 3 (some 4) T_X4_fare := px_cok (i := 4) (Ct_X4_fare l sk hlt) ykX4_fare (by decide) (by decide) rfl rfl (by decide) (by decide +kernel) (pm_WS_mem 1155 (by decide +kernel) rfl)
set_option maxHeartbeats 4000000 in
set_option maxRecDepth 20000 in
theorem wc_fare (l : Launch) (sk : Nat → Nat) (hlt : l.stackTraces = false) (sv : Nat → Nat) (G : va_G) (cI cJ : ClassId) (cR : Nat → ClassId) {c o : Nat} {u1 : Int} {u2 : Int} {f : pm_H} {P : pm_P} (hob : ∃ fs, f c = some (.inr (.inr (.inr (4, fs))))) (hex : wT T_X4_fare cvI [("java/lang/IndexOutOfBoundsException", 1)] [.inr (.inl (some c)), .inl u1, .inl u2] o f P) (hok : ∀ v ∈ ([.inr (.inl (some c)), .inl u1, .inl u2, .inr (.inl (some o))] : List pm_V), pm_ok v) : vx_Met l yL_fare (.codeWith yL_fare cL_fare 5 (some .int) [(0, 10, 13, 47)] :: pm_WS) (pm_rmx 4) (pw_Pc sk sv G cI cJ cR [.inr (.inl (some c)), .inl u1, .inl u2, .inr (.inl (some o))] f) (pm_Qc G cI cJ cR P f) (fun _ _ _ => False) 1 6 (pm_dom f) := by
  refine vx_ofWH (cc := cL_fare) (maxL := 5) (ret := some .int) (hh := [(0, 10, 13, 47)]) (by decide) rfl ?_
  intro p e s m args below meth cd s₁ B hml hv
  obtain ⟨⟨rfl, hHd, hK, hSt⟩, hNC⟩ := hv
  have hx := B.exec
  have hb : cd.code = cL_fare := B.bytes
  have hr := B.returns
  have hlocks := B.notSynchronized
  have hts := atoms_spec (ws := .codeWith yL_fare cL_fare 5 (some .int) [(0, 10, 13, 47)] :: pm_WS) B.pre
  have ok : ∀ w ∈ pm_WS, w.before _ s = true := fun w hw => hts w (List.mem_cons_of_mem _ hw)
  have hown : s.vm.findClass RL = some m.cls := findClass_of_methodNamed B.named
  have htab : cd.exceptionTable.toList = tableOf [(0, 10, 13, 47)] := vx_table (x := yL_fare) B (hts _ List.mem_cons_self)
  have hH0 : pm_Hd G vwCl cI cJ cR (pm_dom f) f s.heap := fun a c0 hc => ⟨(hHd a c0 hc).1, ⟨c0, hc⟩, (hHd a c0 hc).2.2⟩
  have step := fun (pc : Nat) (lv : pm_L) (st : List pm_V) (f0 : pm_H) (h : pm_S eL_fare P (fun _ _ => False) (pm_XW p l e (pm_rmx 4) s m _ below meth cd 0 0 (vx_MQ below (pm_Qc G cI cJ cR P f) (fun _ _ _ => False) _ s 1 6 (pm_dom f)) G vwCl cI cJ cR (pm_dom f) 5) pc lv st f0) => sg_S (d := 0) (sk := sk) (sv := sv) (own := RL) eL_fare (Nat.zero_le _) (Nat.zero_le _) (Nat.zero_le _) (Nat.zero_le _) hx hb hml hown hts hK hSt (fun _ => rfl) (fun _ => rfl) (fun _ => rfl) (fun _ => rfl) (Or.inl rfl) (fun n k ci T h => by cases h) (fun pc z f1 ls H locs h1 _ hz hp h3 hS => W.widen (k := 1) (n := 6) (Nat.zero_le _) (Nat.zero_le _) (vx_ret (W.iret hx hb hr (fun t ht _ => ⟨⟨some (.inl z), f1, rfl, hp, fun w hw => by simp at hw; subst hw; exact hz, by rw [ht]; exact h3⟩, hS.F ht⟩) hS.2.2 h1))) h
  have seg0 : pm_XW p l e (pm_rmx 4) s m (List.map pm_cv [.inr (.inl (some c)), .inl u1, .inl u2, .inr (.inl (some o))]).toArray below meth cd 0 0 (vx_MQ below (pm_Qc G cI cJ cR P f) (fun _ _ _ => False) (List.map pm_cv [.inr (.inl (some c)), .inl u1, .inl u2, .inr (.inl (some o))]).toArray s 1 6 (pm_dom f)) G vwCl cI cJ cR (pm_dom f) 5 0 [some (.inr (.inl (some c))), some (.inl u1), some (.inl u2), some (.inr (.inl (some o))), none] [] f := by
   refine sg_on eL_fare [5] 60 step ?_
   set_option maxRecDepth 100000 in simp (maxSteps := 2000000) only [pm_x_run, pm_x_rt, pm_x_rf, pm_z_S, pm_z_D, pm_z_cut0, pm_z_cut1, pm_z_cli, pm_z_clr, pm_z_cln, pm_z_cll, pm_z_up, pm_x_aload0, pm_x_aload3, pm_x_astore4, pm_x_c, pm_x_c2, pm_x_cn0, pm_x_cn1, pm_x_goto, pm_x_iload1, pm_x_iload2, pm_x_invv, pm_x_last, pm_x_lst, pm_x_v0, pm_x_v1, pm_x_x2, pm_z_cat0, pm_z_cati, pm_z_catl, pm_z_catr, pm_z_i2l, pm_z_iconst, pm_z_pop0, pm_z_pop1, zL_fare_B, zL_fare_F, zL_fare_R, pm_z_ireti (zL_fare_R), dL_fare_0, dL_fare_1, dL_fare_2, dL_fare_3, dL_fare_4, dL_fare_5, dL_fare_8, dL_fare_9, dL_fare_10, dL_fare_13, dL_fare_15, dL_fare_16, dL_fare_17, dL_fare_18, Bool.cond_true, Bool.cond_false, Bool.or_false, Bool.false_or, Bool.true_or, Bool.or_true, true_and, and_true, if_true, if_false, List.length_cons, List.length_nil, List.getElem?_cons_zero, List.getElem?_cons_succ, List.set_cons_zero, List.set_cons_succ, Option.toList_some, Option.toList_none, List.cons_append, List.nil_append, beq_self_eq_true, Option.isSome_some, Option.isSome_none, pm_tg_lit, ite_true, ite_false, Nat.reduceAdd, Nat.reduceBEq, Nat.reduceLT, Nat.reduceLeDiff, Nat.reduceEqDiff, Int.reduceAdd, Int.reduceSub, Int.reduceLE, Int.reduceLT, Int.reduceEq, Int.reduceToNat, Int.reduceNeg, Int.cast_ofNat_Int, Int.reduceNatCast, Int.reduceNatCast', Int.zero_add, Int.add_zero, Nat.zero_add, Nat.add_zero, and_self, decide_true, decide_false, true_or, or_true, or_false, false_or, eq_self, Int.toNat_natCast, b2_e0, b2_e1, b2_ok, b2_w, b2_v, b2_tt, b2_ff, Bool.true_eq_false, Bool.false_eq_true, Option.some.injEq, Int.one_mul, Int.mul_one, not_true_eq_false, not_false_eq_true, ite_not, decide_eq_false_iff_not, decide_eq_true_eq, Int.reduceMul, Int.reduceMod]
   intro ho hs ls H locs hl hH hS
   obtain ⟨P', PX', hT', hk, hkx⟩ := hex
   obtain ⟨fs, hfc⟩ := hob
   refine pmx_rule (d := 4) (R := pm_rmx 4) (as := [.inr (.inl (some c)), .inl u1, .inl u2]) (r := [.inl 0, .inr (.inl (some o))]) (Nat.le_refl _) (Nat.le_refl _) (Nat.le_refl _) (Nat.le_refl _) hx hb hml hown hts hK hSt (wk_fare l sk hlt) dL_fare_5 rfl (Or.inr ⟨c, fs, _, rfl, hfc⟩) (Nat.le_of_ble_eq_true rfl) hT' (fun v hv => hok v (by simp at hv ⊢; rcases hv with rfl | rfl | rfl <;> simp [*])) hl.1 hH hS ?_ ?_
   · intro v f' H' locs' hp hok' hH' hS'
     obtain ⟨z, g, rfl, hg, hP⟩ := hk v f' hp
     have hz : pm_ok (.inl z) := hok' (.inl z) (by simp)
     have seg : pm_XW p l e (pm_rmx 4) s m (List.map pm_cv [.inr (.inl (some c)), .inl u1, .inl u2, .inr (.inl (some o))]).toArray below meth cd 0 0 (vx_MQ below (pm_Qc G cI cJ cR P f) (fun _ _ _ => False) (List.map pm_cv [.inr (.inl (some c)), .inl u1, .inl u2, .inr (.inl (some o))]).toArray s 1 6 (pm_dom f)) G vwCl cI cJ cR (pm_dom f) 5 8 [some (.inr (.inl (some c))), some (.inl u1), some (.inl u2), some (.inr (.inl (some o))), none] [.inl z, .inl 0, .inr (.inl (some o))] f' := by
       refine sg_on eL_fare [] 60 step ?_
       set_option maxRecDepth 100000 in simp (maxSteps := 2000000) only [pm_x_run, pm_x_rt, pm_x_rf, pm_z_S, pm_z_D, pm_z_cut0, pm_z_cut1, pm_z_cli, pm_z_clr, pm_z_cln, pm_z_cll, pm_z_up, pm_x_aload0, pm_x_aload3, pm_x_astore4, pm_x_c, pm_x_c2, pm_x_cn0, pm_x_cn1, pm_x_goto, pm_x_iload1, pm_x_iload2, pm_x_invv, pm_x_last, pm_x_lst, pm_x_v0, pm_x_v1, pm_x_x2, pm_z_cat0, pm_z_cati, pm_z_catl, pm_z_catr, pm_z_i2l, pm_z_iconst, pm_z_pop0, pm_z_pop1, zL_fare_B, zL_fare_F, zL_fare_R, pm_z_ireti (zL_fare_R), dL_fare_0, dL_fare_1, dL_fare_2, dL_fare_3, dL_fare_4, dL_fare_5, dL_fare_8, dL_fare_9, dL_fare_10, dL_fare_13, dL_fare_15, dL_fare_16, dL_fare_17, dL_fare_18, Bool.cond_true, Bool.cond_false, Bool.or_false, Bool.false_or, Bool.true_or, Bool.or_true, true_and, and_true, if_true, if_false, List.length_cons, List.length_nil, List.getElem?_cons_zero, List.getElem?_cons_succ, List.set_cons_zero, List.set_cons_succ, Option.toList_some, Option.toList_none, List.cons_append, List.nil_append, beq_self_eq_true, Option.isSome_some, Option.isSome_none, pm_tg_lit, ite_true, ite_false, Nat.reduceAdd, Nat.reduceBEq, Nat.reduceLT, Nat.reduceLeDiff, Nat.reduceEqDiff, Int.reduceAdd, Int.reduceSub, Int.reduceLE, Int.reduceLT, Int.reduceEq, Int.reduceToNat, Int.reduceNeg, Int.cast_ofNat_Int, Int.reduceNatCast, Int.reduceNatCast', Int.zero_add, Int.add_zero, Nat.zero_add, Nat.add_zero, and_self, decide_true, decide_false, true_or, or_true, or_false, false_or, eq_self, Int.toNat_natCast, b2_e0, b2_e1, b2_ok, b2_w, b2_v, b2_tt, b2_ff, Bool.true_eq_false, Bool.false_eq_true, Option.some.injEq, Int.one_mul, Int.mul_one, not_true_eq_false, not_false_eq_true, ite_not, decide_eq_false_iff_not, decide_eq_true_eq, Int.reduceMul, Int.reduceMod, hg]
       exact hP
     exact seg ho (fun v hv => by simp at hv; rcases hv with rfl | rfl | rfl; exact hz; exact pm_in0; trivial) ls H' locs' hl hH' hS'
   · intro x f' H' locs' q9 ce hp hH' hS' hcell hcv hcl
     obtain ⟨n, hn, hPn⟩ := hkx x f' hp
     · skip
       rw [List.mem_singleton, Prod.mk.injEq] at hn
       obtain ⟨rfl, rfl⟩ := hn
       refine vx_catch (name := "java/lang/IndexOutOfBoundsException") hown [] ⟨0, 10, 13, 47⟩ [] htab (fun z hz => by cases hz) (by decide) (by decide) (ok _ (ps_in (by decide +kernel))) (va_Nw.use rfl (hK.2 _ (List.mem_filter.mpr ⟨List.contains_iff_mem.mp (by decide +kernel), rfl⟩))) hcell hcv hcl ?_
       refine lv_astore hx hb dL_fare_13 (pm_Lr_has hl) (by decide) rfl fun ls' hl' => ?_
       refine lv_iconst hx hb dL_fare_15 rfl ?_
       exact vx_ret (W.iret hx hb hr (fun t ht _ => ⟨⟨some (.inl 1), f', rfl, hPn, fun w hw => by simp at hw; subst hw; unfold pm_ok pm_in; omega, by rw [ht]; exact hH'⟩, hS'.F ht⟩) hS'.2.2 dL_fare_16)
  have hin : pm_init 5 [.inr (.inl (some c)), .inl u1, .inl u2, .inr (.inl (some o))] = [some (.inr (.inl (some c))), some (.inl u1), some (.inl u2), some (.inr (.inl (some o))), none] := by simp [pm_init, pm_put]
  rw [lg_entry_eq]
  rw [← hin] at seg0
  exact seg0 (fun i v hv => pm_put_ok [.inr (.inl (some c)), .inl u1, .inl u2, .inr (.inl (some o))] hok i v (pm_lg_app (pm_put [.inr (.inl (some c)), .inl u1, .inl u2, .inr (.inl (some o))]) _ i v hv)) (fun v hv => by cases hv) _ s.heap [] (pm_entry (as := [.inr (.inl (some c)), .inl u1, .inl u2, .inr (.inl (some o))]) (Nat.le_of_ble_eq_true rfl)) hH0 va_S.rf
def eL_log : pm_E := (cL_log, f0, fun _ => none, fun _ => none, fun _ => none, fun _ => none, some .int)
theorem zL_log_B : pm_eB eL_log = cL_log := rfl
theorem zL_log_F : pm_eF eL_log = f0 := rfl
theorem zL_log_R : pm_eR eL_log = some .int := rfl
theorem wk_log (l : Launch) (sk : Nat → Nat) (hlt : l.stackTraces = false) : pmx_COK l sk RL 2 101 3 (some 4) T_X4_log := px_cok (i := 4) (Ct_X4_log l sk hlt) ykX4_log (by decide) (by decide) rfl rfl (by decide) (by decide +kernel) (pm_WS_mem 1170 (by decide +kernel) rfl)
set_option maxHeartbeats 4000000 in
set_option maxRecDepth 20000 in
theorem wc_log (l : Launch) (sk : Nat → Nat) (hlt : l.stackTraces = false) (sv : Nat → Nat) (G : va_G) (cI cJ : ClassId) (cR : Nat → ClassId) {c o : Nat} {u1 : Int} {u2 : Int} {f : pm_H} {P : pm_P} (hob : ∃ fs, f c = some (.inr (.inr (.inr (4, fs))))) (hex : wT T_X4_log cvI [("java/util/NoSuchElementException", 1)] [.inr (.inl (some c)), .inl u1, .inl u2] o f P) (hok : ∀ v ∈ ([.inr (.inl (some c)), .inl u1, .inl u2, .inr (.inl (some o))] : List pm_V), pm_ok v) : vx_Met l yL_log (.codeWith yL_log cL_log 5 (some .int) [(0, 10, 13, 52)] :: pm_WS) (pm_rmx 2) (pw_Pc sk sv G cI cJ cR [.inr (.inl (some c)), .inl u1, .inl u2, .inr (.inl (some o))] f) (pm_Qc G cI cJ cR P f) (fun _ _ _ => False) 1 6 (pm_dom f) := by
  refine vx_ofWH (cc := cL_log) (maxL := 5) (ret := some .int) (hh := [(0, 10, 13, 52)]) (by decide) rfl ?_
  intro p e s m args below meth cd s₁ B hml hv
  obtain ⟨⟨rfl, hHd, hK, hSt⟩, hNC⟩ := hv
  have hx := B.exec
  have hb : cd.code = cL_log := B.bytes
  have hr := B.returns
  have hlocks := B.notSynchronized
  have hts := atoms_spec (ws := .codeWith yL_log cL_log 5 (some .int) [(0, 10, 13, 52)] :: pm_WS) B.pre
  have ok : ∀ w ∈ pm_WS, w.before _ s = true := fun w hw => hts w (List.mem_cons_of_mem _ hw)
  have hown : s.vm.findClass RL = some m.cls := findClass_of_methodNamed B.named
  have htab : cd.exceptionTable.toList = tableOf [(0, 10, 13, 52)] := vx_table (x := yL_log) B (hts _ List.mem_cons_self)
  have hH0 : pm_Hd G vwCl cI cJ cR (pm_dom f) f s.heap := fun a c0 hc => ⟨(hHd a c0 hc).1, ⟨c0, hc⟩, (hHd a c0 hc).2.2⟩
  have step := fun (pc : Nat) (lv : pm_L) (st : List pm_V) (f0 : pm_H) (h : pm_S eL_log P (fun _ _ => False) (pm_XW p l e (pm_rmx 2) s m _ below meth cd 0 0 (vx_MQ below (pm_Qc G cI cJ cR P f) (fun _ _ _ => False) _ s 1 6 (pm_dom f)) G vwCl cI cJ cR (pm_dom f) 5) pc lv st f0) => sg_S (d := 0) (sk := sk) (sv := sv) (own := RL) eL_log (Nat.zero_le _) (Nat.zero_le _) (Nat.zero_le _) (Nat.zero_le _) hx hb hml hown hts hK hSt (fun _ => rfl) (fun _ => rfl) (fun _ => rfl) (fun _ => rfl) (Or.inl rfl) (fun n k ci T h => by cases h) (fun pc z f1 ls H locs h1 _ hz hp h3 hS => W.widen (k := 1) (n := 6) (Nat.zero_le _) (Nat.zero_le _) (vx_ret (W.iret hx hb hr (fun t ht _ => ⟨⟨some (.inl z), f1, rfl, hp, fun w hw => by simp at hw; subst hw; exact hz, by rw [ht]; exact h3⟩, hS.F ht⟩) hS.2.2 h1))) h
  have seg0 : pm_XW p l e (pm_rmx 2) s m (List.map pm_cv [.inr (.inl (some c)), .inl u1, .inl u2, .inr (.inl (some o))]).toArray below meth cd 0 0 (vx_MQ below (pm_Qc G cI cJ cR P f) (fun _ _ _ => False) (List.map pm_cv [.inr (.inl (some c)), .inl u1, .inl u2, .inr (.inl (some o))]).toArray s 1 6 (pm_dom f)) G vwCl cI cJ cR (pm_dom f) 5 0 [some (.inr (.inl (some c))), some (.inl u1), some (.inl u2), some (.inr (.inl (some o))), none] [] f := by
   refine sg_on eL_log [5] 60 step ?_
   set_option maxRecDepth 100000 in simp (maxSteps := 2000000) only [pm_x_run, pm_x_rt, pm_x_rf, pm_z_S, pm_z_D, pm_z_cut0, pm_z_cut1, pm_z_cli, pm_z_clr, pm_z_cln, pm_z_cll, pm_z_up, pm_x_aload0, pm_x_aload3, pm_x_astore4, pm_x_c, pm_x_c2, pm_x_cn0, pm_x_cn1, pm_x_goto, pm_x_iload1, pm_x_iload2, pm_x_invv, pm_x_last, pm_x_lst, pm_x_v0, pm_x_v1, pm_x_x2, pm_z_cat0, pm_z_cati, pm_z_catl, pm_z_catr, pm_z_i2l, pm_z_iconst, pm_z_pop0, pm_z_pop1, zL_log_B, zL_log_F, zL_log_R, pm_z_ireti (zL_log_R), dL_log_0, dL_log_1, dL_log_2, dL_log_3, dL_log_4, dL_log_5, dL_log_8, dL_log_9, dL_log_10, dL_log_13, dL_log_15, dL_log_16, dL_log_17, dL_log_18, Bool.cond_true, Bool.cond_false, Bool.or_false, Bool.false_or, Bool.true_or, Bool.or_true, true_and, and_true, if_true, if_false, List.length_cons, List.length_nil, List.getElem?_cons_zero, List.getElem?_cons_succ, List.set_cons_zero, List.set_cons_succ, Option.toList_some, Option.toList_none, List.cons_append, List.nil_append, beq_self_eq_true, Option.isSome_some, Option.isSome_none, pm_tg_lit, ite_true, ite_false, Nat.reduceAdd, Nat.reduceBEq, Nat.reduceLT, Nat.reduceLeDiff, Nat.reduceEqDiff, Int.reduceAdd, Int.reduceSub, Int.reduceLE, Int.reduceLT, Int.reduceEq, Int.reduceToNat, Int.reduceNeg, Int.cast_ofNat_Int, Int.reduceNatCast, Int.reduceNatCast', Int.zero_add, Int.add_zero, Nat.zero_add, Nat.add_zero, and_self, decide_true, decide_false, true_or, or_true, or_false, false_or, eq_self, Int.toNat_natCast, b2_e0, b2_e1, b2_ok, b2_w, b2_v, b2_tt, b2_ff, Bool.true_eq_false, Bool.false_eq_true, Option.some.injEq, Int.one_mul, Int.mul_one, not_true_eq_false, not_false_eq_true, ite_not, decide_eq_false_iff_not, decide_eq_true_eq, Int.reduceMul, Int.reduceMod]
   intro ho hs ls H locs hl hH hS
   obtain ⟨P', PX', hT', hk, hkx⟩ := hex
   obtain ⟨fs, hfc⟩ := hob
   refine pmx_rule (d := 2) (R := pm_rmx 2) (as := [.inr (.inl (some c)), .inl u1, .inl u2]) (r := [.inl 0, .inr (.inl (some o))]) (Nat.le_refl _) (Nat.le_refl _) (Nat.le_refl _) (Nat.le_refl _) hx hb hml hown hts hK hSt (wk_log l sk hlt) dL_log_5 rfl (Or.inr ⟨c, fs, _, rfl, hfc⟩) (Nat.le_of_ble_eq_true rfl) hT' (fun v hv => hok v (by simp at hv ⊢; rcases hv with rfl | rfl | rfl <;> simp [*])) hl.1 hH hS ?_ ?_
   · intro v f' H' locs' hp hok' hH' hS'
     obtain ⟨z, g, rfl, hg, hP⟩ := hk v f' hp
     have hz : pm_ok (.inl z) := hok' (.inl z) (by simp)
     have seg : pm_XW p l e (pm_rmx 2) s m (List.map pm_cv [.inr (.inl (some c)), .inl u1, .inl u2, .inr (.inl (some o))]).toArray below meth cd 0 0 (vx_MQ below (pm_Qc G cI cJ cR P f) (fun _ _ _ => False) (List.map pm_cv [.inr (.inl (some c)), .inl u1, .inl u2, .inr (.inl (some o))]).toArray s 1 6 (pm_dom f)) G vwCl cI cJ cR (pm_dom f) 5 8 [some (.inr (.inl (some c))), some (.inl u1), some (.inl u2), some (.inr (.inl (some o))), none] [.inl z, .inl 0, .inr (.inl (some o))] f' := by
       refine sg_on eL_log [] 60 step ?_
       set_option maxRecDepth 100000 in simp (maxSteps := 2000000) only [pm_x_run, pm_x_rt, pm_x_rf, pm_z_S, pm_z_D, pm_z_cut0, pm_z_cut1, pm_z_cli, pm_z_clr, pm_z_cln, pm_z_cll, pm_z_up, pm_x_aload0, pm_x_aload3, pm_x_astore4, pm_x_c, pm_x_c2, pm_x_cn0, pm_x_cn1, pm_x_goto, pm_x_iload1, pm_x_iload2, pm_x_invv, pm_x_last, pm_x_lst, pm_x_v0, pm_x_v1, pm_x_x2, pm_z_cat0, pm_z_cati, pm_z_catl, pm_z_catr, pm_z_i2l, pm_z_iconst, pm_z_pop0, pm_z_pop1, zL_log_B, zL_log_F, zL_log_R, pm_z_ireti (zL_log_R), dL_log_0, dL_log_1, dL_log_2, dL_log_3, dL_log_4, dL_log_5, dL_log_8, dL_log_9, dL_log_10, dL_log_13, dL_log_15, dL_log_16, dL_log_17, dL_log_18, Bool.cond_true, Bool.cond_false, Bool.or_false, Bool.false_or, Bool.true_or, Bool.or_true, true_and, and_true, if_true, if_false, List.length_cons, List.length_nil, List.getElem?_cons_zero, List.getElem?_cons_succ, List.set_cons_zero, List.set_cons_succ, Option.toList_some, Option.toList_none, List.cons_append, List.nil_append, beq_self_eq_true, Option.isSome_some, Option.isSome_none, pm_tg_lit, ite_true, ite_false, Nat.reduceAdd, Nat.reduceBEq, Nat.reduceLT, Nat.reduceLeDiff, Nat.reduceEqDiff, Int.reduceAdd, Int.reduceSub, Int.reduceLE, Int.reduceLT, Int.reduceEq, Int.reduceToNat, Int.reduceNeg, Int.cast_ofNat_Int, Int.reduceNatCast, Int.reduceNatCast', Int.zero_add, Int.add_zero, Nat.zero_add, Nat.add_zero, and_self, decide_true, decide_false, true_or, or_true, or_false, false_or, eq_self, Int.toNat_natCast, b2_e0, b2_e1, b2_ok, b2_w, b2_v, b2_tt, b2_ff, Bool.true_eq_false, Bool.false_eq_true, Option.some.injEq, Int.one_mul, Int.mul_one, not_true_eq_false, not_false_eq_true, ite_not, decide_eq_false_iff_not, decide_eq_true_eq, Int.reduceMul, Int.reduceMod, hg]
       exact hP
     exact seg ho (fun v hv => by simp at hv; rcases hv with rfl | rfl | rfl; exact hz; exact pm_in0; trivial) ls H' locs' hl hH' hS'
   · intro x f' H' locs' q9 ce hp hH' hS' hcell hcv hcl
     obtain ⟨n, hn, hPn⟩ := hkx x f' hp
     · skip
       rw [List.mem_singleton, Prod.mk.injEq] at hn
       obtain ⟨rfl, rfl⟩ := hn
       refine vx_catch (name := "java/util/NoSuchElementException") hown [] ⟨0, 10, 13, 52⟩ [] htab (fun z hz => by cases hz) (by decide) (by decide) (ok _ (ps_in (by decide +kernel))) (va_Nw.use rfl (hK.2 _ (List.mem_filter.mpr ⟨List.contains_iff_mem.mp (by decide +kernel), rfl⟩))) hcell hcv hcl ?_
       refine lv_astore hx hb dL_log_13 (pm_Lr_has hl) (by decide) rfl fun ls' hl' => ?_
       refine lv_iconst hx hb dL_log_15 rfl ?_
       exact vx_ret (W.iret hx hb hr (fun t ht _ => ⟨⟨some (.inl 1), f', rfl, hPn, fun w hw => by simp at hw; subst hw; unfold pm_ok pm_in; omega, by rw [ht]; exact hH'⟩, hS'.F ht⟩) hS'.2.2 dL_log_16)
  have hin : pm_init 5 [.inr (.inl (some c)), .inl u1, .inl u2, .inr (.inl (some o))] = [some (.inr (.inl (some c))), some (.inl u1), some (.inl u2), some (.inr (.inl (some o))), none] := by simp [pm_init, pm_put]
  rw [lg_entry_eq]
  rw [← hin] at seg0
  exact seg0 (fun i v hv => pm_put_ok [.inr (.inl (some c)), .inl u1, .inl u2, .inr (.inl (some o))] hok i v (pm_lg_app (pm_put [.inr (.inl (some c)), .inl u1, .inl u2, .inr (.inl (some o))]) _ i v hv)) (fun v hv => by cases hv) _ s.heap [] (pm_entry (as := [.inr (.inl (some c)), .inl u1, .inl u2, .inr (.inl (some o))]) (Nat.le_of_ble_eq_true rfl)) hH0 va_S.rf
def eL_cut : pm_E := (cL_cut, f0, fun _ => none, fun _ => none, fun _ => none, fun _ => none, some .int)
theorem zL_cut_B : pm_eB eL_cut = cL_cut := rfl
theorem zL_cut_F : pm_eF eL_cut = f0 := rfl
theorem zL_cut_R : pm_eR eL_cut = some .int := rfl
theorem wk_cut (l : Launch) (sk : Nat → Nat) (hlt : l.stackTraces = false) : pmx_COK l sk RL 5 104 3 (some 4) T_X4_cut := px_cok (i := 4) (Ct_X4_cut l sk hlt) ykX4_cut (by decide) (by decide) rfl rfl (by decide) (by decide +kernel) (pm_WS_mem 1178 (by decide +kernel) rfl)
set_option maxHeartbeats 4000000 in
set_option maxRecDepth 20000 in
theorem wc_cut (l : Launch) (sk : Nat → Nat) (hlt : l.stackTraces = false) (sv : Nat → Nat) (G : va_G) (cI cJ : ClassId) (cR : Nat → ClassId) {c o : Nat} {u1 : Int} {u2 : Int} {f : pm_H} {P : pm_P} (hob : ∃ fs, f c = some (.inr (.inr (.inr (4, fs))))) (hex : wT T_X4_cut cvI [("java/lang/IndexOutOfBoundsException", 1)] [.inr (.inl (some c)), .inl u1, .inl u2] o f P) (hok : ∀ v ∈ ([.inr (.inl (some c)), .inl u1, .inl u2, .inr (.inl (some o))] : List pm_V), pm_ok v) : vx_Met l yL_cut (.codeWith yL_cut cL_cut 5 (some .int) [(0, 10, 13, 47)] :: pm_WS) (pm_rmx 5) (pw_Pc sk sv G cI cJ cR [.inr (.inl (some c)), .inl u1, .inl u2, .inr (.inl (some o))] f) (pm_Qc G cI cJ cR P f) (fun _ _ _ => False) 1 6 (pm_dom f) := by
  refine vx_ofWH (cc := cL_cut) (maxL := 5) (ret := some .int) (hh := [(0, 10, 13, 47)]) (by decide) rfl ?_
  intro p e s m args below meth cd s₁ B hml hv
  obtain ⟨⟨rfl, hHd, hK, hSt⟩, hNC⟩ := hv
  have hx := B.exec
  have hb : cd.code = cL_cut := B.bytes
  have hr := B.returns
  have hlocks := B.notSynchronized
  have hts := atoms_spec (ws := .codeWith yL_cut cL_cut 5 (some .int) [(0, 10, 13, 47)] :: pm_WS) B.pre
  have ok : ∀ w ∈ pm_WS, w.before _ s = true := fun w hw => hts w (List.mem_cons_of_mem _ hw)
  have hown : s.vm.findClass RL = some m.cls := findClass_of_methodNamed B.named
  have htab : cd.exceptionTable.toList = tableOf [(0, 10, 13, 47)] := vx_table (x := yL_cut) B (hts _ List.mem_cons_self)
  have hH0 : pm_Hd G vwCl cI cJ cR (pm_dom f) f s.heap := fun a c0 hc => ⟨(hHd a c0 hc).1, ⟨c0, hc⟩, (hHd a c0 hc).2.2⟩
  have step := fun (pc : Nat) (lv : pm_L) (st : List pm_V) (f0 : pm_H) (h : pm_S eL_cut P (fun _ _ => False) (pm_XW p l e (pm_rmx 5) s m _ below meth cd 0 0 (vx_MQ below (pm_Qc G cI cJ cR P f) (fun _ _ _ => False) _ s 1 6 (pm_dom f)) G vwCl cI cJ cR (pm_dom f) 5) pc lv st f0) => sg_S (d := 0) (sk := sk) (sv := sv) (own := RL) eL_cut (Nat.zero_le _) (Nat.zero_le _) (Nat.zero_le _) (Nat.zero_le _) hx hb hml hown hts hK hSt (fun _ => rfl) (fun _ => rfl) (fun _ => rfl) (fun _ => rfl) (Or.inl rfl) (fun n k ci T h => by cases h) (fun pc z f1 ls H locs h1 _ hz hp h3 hS => W.widen (k := 1) (n := 6) (Nat.zero_le _) (Nat.zero_le _) (vx_ret (W.iret hx hb hr (fun t ht _ => ⟨⟨some (.inl z), f1, rfl, hp, fun w hw => by simp at hw; subst hw; exact hz, by rw [ht]; exact h3⟩, hS.F ht⟩) hS.2.2 h1))) h
  have seg0 : pm_XW p l e (pm_rmx 5) s m (List.map pm_cv [.inr (.inl (some c)), .inl u1, .inl u2, .inr (.inl (some o))]).toArray below meth cd 0 0 (vx_MQ below (pm_Qc G cI cJ cR P f) (fun _ _ _ => False) (List.map pm_cv [.inr (.inl (some c)), .inl u1, .inl u2, .inr (.inl (some o))]).toArray s 1 6 (pm_dom f)) G vwCl cI cJ cR (pm_dom f) 5 0 [some (.inr (.inl (some c))), some (.inl u1), some (.inl u2), some (.inr (.inl (some o))), none] [] f := by
   refine sg_on eL_cut [5] 60 step ?_
   set_option maxRecDepth 100000 in simp (maxSteps := 2000000) only [pm_x_run, pm_x_rt, pm_x_rf, pm_z_S, pm_z_D, pm_z_cut0, pm_z_cut1, pm_z_cli, pm_z_clr, pm_z_cln, pm_z_cll, pm_z_up, pm_x_aload0, pm_x_aload3, pm_x_astore4, pm_x_c, pm_x_c2, pm_x_cn0, pm_x_cn1, pm_x_goto, pm_x_iload1, pm_x_iload2, pm_x_invv, pm_x_last, pm_x_lst, pm_x_v0, pm_x_v1, pm_x_x2, pm_z_cat0, pm_z_cati, pm_z_catl, pm_z_catr, pm_z_i2l, pm_z_iconst, pm_z_pop0, pm_z_pop1, zL_cut_B, zL_cut_F, zL_cut_R, pm_z_ireti (zL_cut_R), dL_cut_0, dL_cut_1, dL_cut_2, dL_cut_3, dL_cut_4, dL_cut_5, dL_cut_8, dL_cut_9, dL_cut_10, dL_cut_13, dL_cut_15, dL_cut_16, dL_cut_17, dL_cut_18, Bool.cond_true, Bool.cond_false, Bool.or_false, Bool.false_or, Bool.true_or, Bool.or_true, true_and, and_true, if_true, if_false, List.length_cons, List.length_nil, List.getElem?_cons_zero, List.getElem?_cons_succ, List.set_cons_zero, List.set_cons_succ, Option.toList_some, Option.toList_none, List.cons_append, List.nil_append, beq_self_eq_true, Option.isSome_some, Option.isSome_none, pm_tg_lit, ite_true, ite_false, Nat.reduceAdd, Nat.reduceBEq, Nat.reduceLT, Nat.reduceLeDiff, Nat.reduceEqDiff, Int.reduceAdd, Int.reduceSub, Int.reduceLE, Int.reduceLT, Int.reduceEq, Int.reduceToNat, Int.reduceNeg, Int.cast_ofNat_Int, Int.reduceNatCast, Int.reduceNatCast', Int.zero_add, Int.add_zero, Nat.zero_add, Nat.add_zero, and_self, decide_true, decide_false, true_or, or_true, or_false, false_or, eq_self, Int.toNat_natCast, b2_e0, b2_e1, b2_ok, b2_w, b2_v, b2_tt, b2_ff, Bool.true_eq_false, Bool.false_eq_true, Option.some.injEq, Int.one_mul, Int.mul_one, not_true_eq_false, not_false_eq_true, ite_not, decide_eq_false_iff_not, decide_eq_true_eq, Int.reduceMul, Int.reduceMod]
   intro ho hs ls H locs hl hH hS
   obtain ⟨P', PX', hT', hk, hkx⟩ := hex
   obtain ⟨fs, hfc⟩ := hob
   refine pmx_rule (d := 5) (R := pm_rmx 5) (as := [.inr (.inl (some c)), .inl u1, .inl u2]) (r := [.inl 0, .inr (.inl (some o))]) (Nat.le_refl _) (Nat.le_refl _) (Nat.le_refl _) (Nat.le_refl _) hx hb hml hown hts hK hSt (wk_cut l sk hlt) dL_cut_5 rfl (Or.inr ⟨c, fs, _, rfl, hfc⟩) (Nat.le_of_ble_eq_true rfl) hT' (fun v hv => hok v (by simp at hv ⊢; rcases hv with rfl | rfl | rfl <;> simp [*])) hl.1 hH hS ?_ ?_
   · intro v f' H' locs' hp hok' hH' hS'
     obtain ⟨z, g, rfl, hg, hP⟩ := hk v f' hp
     have hz : pm_ok (.inl z) := hok' (.inl z) (by simp)
     have seg : pm_XW p l e (pm_rmx 5) s m (List.map pm_cv [.inr (.inl (some c)), .inl u1, .inl u2, .inr (.inl (some o))]).toArray below meth cd 0 0 (vx_MQ below (pm_Qc G cI cJ cR P f) (fun _ _ _ => False) (List.map pm_cv [.inr (.inl (some c)), .inl u1, .inl u2, .inr (.inl (some o))]).toArray s 1 6 (pm_dom f)) G vwCl cI cJ cR (pm_dom f) 5 8 [some (.inr (.inl (some c))), some (.inl u1), some (.inl u2), some (.inr (.inl (some o))), none] [.inl z, .inl 0, .inr (.inl (some o))] f' := by
       refine sg_on eL_cut [] 60 step ?_
       set_option maxRecDepth 100000 in simp (maxSteps := 2000000) only [pm_x_run, pm_x_rt, pm_x_rf, pm_z_S, pm_z_D, pm_z_cut0, pm_z_cut1, pm_z_cli, pm_z_clr, pm_z_cln, pm_z_cll, pm_z_up, pm_x_aload0, pm_x_aload3, pm_x_astore4, pm_x_c, pm_x_c2, pm_x_cn0, pm_x_cn1, pm_x_goto, pm_x_iload1, pm_x_iload2, pm_x_invv, pm_x_last, pm_x_lst, pm_x_v0, pm_x_v1, pm_x_x2, pm_z_cat0, pm_z_cati, pm_z_catl, pm_z_catr, pm_z_i2l, pm_z_iconst, pm_z_pop0, pm_z_pop1, zL_cut_B, zL_cut_F, zL_cut_R, pm_z_ireti (zL_cut_R), dL_cut_0, dL_cut_1, dL_cut_2, dL_cut_3, dL_cut_4, dL_cut_5, dL_cut_8, dL_cut_9, dL_cut_10, dL_cut_13, dL_cut_15, dL_cut_16, dL_cut_17, dL_cut_18, Bool.cond_true, Bool.cond_false, Bool.or_false, Bool.false_or, Bool.true_or, Bool.or_true, true_and, and_true, if_true, if_false, List.length_cons, List.length_nil, List.getElem?_cons_zero, List.getElem?_cons_succ, List.set_cons_zero, List.set_cons_succ, Option.toList_some, Option.toList_none, List.cons_append, List.nil_append, beq_self_eq_true, Option.isSome_some, Option.isSome_none, pm_tg_lit, ite_true, ite_false, Nat.reduceAdd, Nat.reduceBEq, Nat.reduceLT, Nat.reduceLeDiff, Nat.reduceEqDiff, Int.reduceAdd, Int.reduceSub, Int.reduceLE, Int.reduceLT, Int.reduceEq, Int.reduceToNat, Int.reduceNeg, Int.cast_ofNat_Int, Int.reduceNatCast, Int.reduceNatCast', Int.zero_add, Int.add_zero, Nat.zero_add, Nat.add_zero, and_self, decide_true, decide_false, true_or, or_true, or_false, false_or, eq_self, Int.toNat_natCast, b2_e0, b2_e1, b2_ok, b2_w, b2_v, b2_tt, b2_ff, Bool.true_eq_false, Bool.false_eq_true, Option.some.injEq, Int.one_mul, Int.mul_one, not_true_eq_false, not_false_eq_true, ite_not, decide_eq_false_iff_not, decide_eq_true_eq, Int.reduceMul, Int.reduceMod, hg]
       exact hP
     exact seg ho (fun v hv => by simp at hv; rcases hv with rfl | rfl | rfl; exact hz; exact pm_in0; trivial) ls H' locs' hl hH' hS'
   · intro x f' H' locs' q9 ce hp hH' hS' hcell hcv hcl
     obtain ⟨n, hn, hPn⟩ := hkx x f' hp
     · skip
       rw [List.mem_singleton, Prod.mk.injEq] at hn
       obtain ⟨rfl, rfl⟩ := hn
       refine vx_catch (name := "java/lang/IndexOutOfBoundsException") hown [] ⟨0, 10, 13, 47⟩ [] htab (fun z hz => by cases hz) (by decide) (by decide) (ok _ (ps_in (by decide +kernel))) (va_Nw.use rfl (hK.2 _ (List.mem_filter.mpr ⟨List.contains_iff_mem.mp (by decide +kernel), rfl⟩))) hcell hcv hcl ?_
       refine lv_astore hx hb dL_cut_13 (pm_Lr_has hl) (by decide) rfl fun ls' hl' => ?_
       refine lv_iconst hx hb dL_cut_15 rfl ?_
       exact vx_ret (W.iret hx hb hr (fun t ht _ => ⟨⟨some (.inl 1), f', rfl, hPn, fun w hw => by simp at hw; subst hw; unfold pm_ok pm_in; omega, by rw [ht]; exact hH'⟩, hS'.F ht⟩) hS'.2.2 dL_cut_16)
  have hin : pm_init 5 [.inr (.inl (some c)), .inl u1, .inl u2, .inr (.inl (some o))] = [some (.inr (.inl (some c))), some (.inl u1), some (.inl u2), some (.inr (.inl (some o))), none] := by simp [pm_init, pm_put]
  rw [lg_entry_eq]
  rw [← hin] at seg0
  exact seg0 (fun i v hv => pm_put_ok [.inr (.inl (some c)), .inl u1, .inl u2, .inr (.inl (some o))] hok i v (pm_lg_app (pm_put [.inr (.inl (some c)), .inl u1, .inl u2, .inr (.inl (some o))]) _ i v hv)) (fun v hv => by cases hv) _ s.heap [] (pm_entry (as := [.inr (.inl (some c)), .inl u1, .inl u2, .inr (.inl (some o))]) (Nat.le_of_ble_eq_true rfl)) hH0 va_S.rf
