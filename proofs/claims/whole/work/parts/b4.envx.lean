theorem px_at {own : String} {ic : Nat} {x : String} (h : (vx_atS own ic x pm_nms).all (fun w => lw_tbl.contains w && (goodWord w || pm_isN w)) = true) : ∀ w ∈ vx_atS own ic x pm_nms, w ∈ pm_WS ∨ w ∈ pm_NW := by
  intro w hw
  have h1 := List.all_eq_true.mp h w hw
  rw [Bool.and_eq_true, Bool.or_eq_true] at h1
  rcases h1.2 with h2 | h2
  · exact Or.inl (List.mem_filter.mpr ⟨List.contains_iff_mem.mp h1.1, h2⟩)
  · exact Or.inr (List.mem_filter.mpr ⟨List.contains_iff_mem.mp h1.1, h2⟩)
theorem px_tabT {own : String} {cc : ByteArray} {l : List (Nat × String)} (h : ∀ q ∈ l, pm_TOK own cc q.1 q.2 ∨ pn_TOK own cc q.1 q.2) : ∀ pc x, pm_as l pc = some x → pm_TOK own cc pc x ∨ pn_TOK own cc pc x := fun pc x e => h _ (pm_as_mem e)
theorem px_tabX {la : Launch} {sk : Nat → Nat} {own : String} {d : Nat} {l : List (Nat × Nat × Option Nat × pm_TX)} (h : ∀ q ∈ l, pmx_COK la sk own d q.1 q.2.1 q.2.2.1 q.2.2.2) : ∀ n k ci T, pm_as l n = some (k, ci, T) → pmx_COK la sk own d n k ci T := fun n k ci T e => h _ (pm_as_mem e)
theorem px_cok {l : Launch} {sk : Nat → Nat} {own : String} {d d' n k i : Nat} {T : pm_TX} {y : MethodName} {cc : ByteArray} {maxL : Nat} {ret : Option FieldType} {q : vw_C} (hC : pmx_Ct l sk y cc maxL ret d' T) (hy : pm_YV y cc maxL ret) (hd : d' < d) (hm : maxL ≤ 40) (hq : vwCl[i]? = some q) (hc : y.cls = q.1) (hk : 0 < k) (hp : (parseMethodDescriptor y.desc).map (fun d => d.parameters.length) = some (k - 1)) (hl : Cond.methodLink own n y ∈ pm_WS) : pmx_COK l sk own d n k (some i) T :=
  ⟨y, cc, maxL, ret, d', i, q, hC, hd, hm, hy.1, hy.2.1, hy.2.2.1, rfl, hq, hc, hk, hp, hl, hy.2.2.2.1, hc ▸ hy.2.2.2.2⟩
theorem ykX4_acts : pm_YV yX4_acts cX4_acts 2 (some .int) := ⟨(pm_WS_mem 703 (by decide +kernel) rfl), (pm_WS_mem 125 (by decide +kernel) rfl), ⟨by decide +kernel, by decide +kernel⟩, (pm_WS_mem 701 (by decide +kernel) rfl), (pm_WS_mem 702 (by decide +kernel) rfl)⟩
def eX4_acts (sk : Nat → Nat) : pm_E := (cX4_acts, fX4, pm_as [(65, 1, some 4, T_X4_tellAside sk), (76, 2, some 1, T_X1_copyFrom)], fun _ => none, pm_as [(25, "java/lang/IllegalArgumentException")], fun _ => none, some .int)
theorem zX4_acts_B (sk : Nat → Nat) : pm_eB (eX4_acts sk) = cX4_acts := rfl
theorem zX4_acts_F (sk : Nat → Nat) : pm_eF (eX4_acts sk) = fX4 := rfl
theorem zX4_acts_R (sk : Nat → Nat) : pm_eR (eX4_acts sk) = some .int := rfl
theorem zX4_acts_C65 (sk : Nat → Nat) : pm_eC (eX4_acts sk) 65 = some (1, some 4, T_X4_tellAside sk) := rfl
theorem zX4_acts_X65 (sk : Nat → Nat) : pm_eX (eX4_acts sk) 65 = none := rfl
theorem zX4_acts_C76 (sk : Nat → Nat) : pm_eC (eX4_acts sk) 76 = some (2, some 1, T_X1_copyFrom) := rfl
theorem zX4_acts_X76 (sk : Nat → Nat) : pm_eX (eX4_acts sk) 76 = none := rfl
theorem zX4_acts_T25 (sk : Nat → Nat) : pm_eT (eX4_acts sk) 25 = some "java/lang/IllegalArgumentException" := rfl
def T_X4_acts (sk : Nat → Nat) : pm_TX := pmx_M (eX4_acts sk) 2
theorem Ct_X4_acts (l : Launch) (sk : Nat → Nat) (hlt : l.stackTraces = false) : pmx_Ct l sk yX4_acts cX4_acts 2 (some .int) 11 (T_X4_acts sk) := pmy_met hlt (eX4_acts sk) (by decide) rfl rfl (px_tabT (by
    intro q hq
    simp only [List.mem_cons, List.not_mem_nil, or_false] at hq
    rcases hq with rfl
    · dsimp only
      exact Or.inl ⟨69, 71, 73, 7, by decide +kernel, ps_in (by decide +kernel), ps_in (by decide +kernel), by decide +kernel, px_at (by decide +kernel), dX4_acts_25, dX4_acts_28, Or.inl ⟨dX4_acts_29, dX4_acts_31, dX4_acts_34⟩⟩)) (fun _ _ _ _ h => by cases h) fX4_ok (fun _ _ h => by cases h) (pm_tabC (by
    intro q hq
    simp only [List.mem_cons, List.not_mem_nil, or_false] at hq
    rcases hq with rfl | rfl
    · dsimp only
      exact pm_cokV (i := 4) (Ct_X4_tellAside l sk) ykX4_tellAside (by decide) (by decide) rfl rfl (by decide) (by decide +kernel) (pm_WS_mem 704 (by decide +kernel) rfl)
    · dsimp only
      exact pm_cokV (i := 1) (Ct_X1_copyFrom l sk) ykX1_copyFrom (by decide) (by decide) rfl rfl (by decide) (by decide +kernel) (pm_WS_mem 484 (by decide +kernel) rfl)))
theorem ix_X4_acts {sk : Nat → Nat} {a0 : Nat} {f : pm_H} {k : pm_P} {PX : pm_PX} (h : pm_W (eX4_acts sk) k PX 0 [some (.inr (.inl (some a0))), none] [] f) : pm_exX (T_X4_acts sk) [.inr (.inl (some a0))] f k PX := ⟨k, PX, ⟨by simp [pm_put], h⟩, fun _ _ h => h, fun _ _ h => h⟩
theorem ykX4_net : pm_YV yX4_net cX4_net 2 (some .int) := ⟨(pm_WS_mem 839 (by decide +kernel) rfl), (pm_WS_mem 125 (by decide +kernel) rfl), ⟨by decide +kernel, by decide +kernel⟩, (pm_WS_mem 837 (by decide +kernel) rfl), (pm_WS_mem 838 (by decide +kernel) rfl)⟩
def eX4_net : pm_E := (cX4_net, fX4, pm_as [(54, 2, some 1, T_X1_start)], fun _ => none, pm_as [(11, "java/lang/IllegalArgumentException")], fun _ => none, some .int)
theorem zX4_net_B : pm_eB eX4_net = cX4_net := rfl
theorem zX4_net_F : pm_eF eX4_net = fX4 := rfl
theorem zX4_net_R : pm_eR eX4_net = some .int := rfl
theorem zX4_net_C54 : pm_eC eX4_net 54 = some (2, some 1, T_X1_start) := rfl
theorem zX4_net_X54 : pm_eX eX4_net 54 = none := rfl
theorem zX4_net_T11 : pm_eT eX4_net 11 = some "java/lang/IllegalArgumentException" := rfl
def T_X4_net : pm_TX := pmx_M eX4_net 2
theorem Ct_X4_net (l : Launch) (sk : Nat → Nat) (hlt : l.stackTraces = false) : pmx_Ct l sk yX4_net cX4_net 2 (some .int) 4 (T_X4_net) := pmy_met hlt eX4_net (by decide) rfl rfl (px_tabT (by
    intro q hq
    simp only [List.mem_cons, List.not_mem_nil, or_false] at hq
    rcases hq with rfl
    · dsimp only
      exact Or.inl ⟨69, 83, 73, 8, by decide +kernel, ps_in (by decide +kernel), ps_in (by decide +kernel), by decide +kernel, px_at (by decide +kernel), dX4_net_11, dX4_net_14, Or.inl ⟨dX4_net_15, dX4_net_17, dX4_net_20⟩⟩)) (fun _ _ _ _ h => by cases h) fX4_ok (fun _ _ h => by cases h) (pm_tabC (by
    intro q hq
    simp only [List.mem_cons, List.not_mem_nil, or_false] at hq
    rcases hq with rfl
    · dsimp only
      exact pm_cokV (i := 1) (Ct_X1_start l sk) ykX1_start (by decide) (by decide) rfl rfl (by decide) (by decide +kernel) (pm_WS_mem 309 (by decide +kernel) rfl)))
theorem ix_X4_net {a0 : Nat} {a1 : Int} {f : pm_H} {k : pm_P} {PX : pm_PX} (h : pm_W eX4_net k PX 0 [some (.inr (.inl (some a0))), some (.inl a1)] [] f) : pm_exX T_X4_net [.inr (.inl (some a0)), .inl a1] f k PX := ⟨k, PX, ⟨by simp [pm_put], h⟩, fun _ _ h => h, fun _ _ h => h⟩
theorem ykX4_actByCall : pm_YV yX4_actByCall cX4_actByCall 4 (some .int) := ⟨(pm_WS_mem 379 (by decide +kernel) rfl), (pm_WS_mem 125 (by decide +kernel) rfl), ⟨by decide +kernel, by decide +kernel⟩, (pm_WS_mem 378 (by decide +kernel) rfl), (pm_WS_mem 1 (by decide +kernel) rfl)⟩
def eX4_actByCall : pm_E := (cX4_actByCall, fX4, pm_as [(285, 4, some 1, T_X1_refusal), (289, 1, some 4, T_X4_remember), (292, 4, some 1, T_X1_perform)], fun _ => none, pm_as [(21, "java/lang/IllegalStateException")], fun _ => none, some .int)
theorem zX4_actByCall_B : pm_eB eX4_actByCall = cX4_actByCall := rfl
theorem zX4_actByCall_F : pm_eF eX4_actByCall = fX4 := rfl
theorem zX4_actByCall_R : pm_eR eX4_actByCall = some .int := rfl
theorem zX4_actByCall_C285 : pm_eC eX4_actByCall 285 = some (4, some 1, T_X1_refusal) := rfl
theorem zX4_actByCall_X285 : pm_eX eX4_actByCall 285 = none := rfl
theorem zX4_actByCall_C289 : pm_eC eX4_actByCall 289 = some (1, some 4, T_X4_remember) := rfl
theorem zX4_actByCall_X289 : pm_eX eX4_actByCall 289 = none := rfl
theorem zX4_actByCall_C292 : pm_eC eX4_actByCall 292 = some (4, some 1, T_X1_perform) := rfl
theorem zX4_actByCall_X292 : pm_eX eX4_actByCall 292 = none := rfl
theorem zX4_actByCall_T21 : pm_eT eX4_actByCall 21 = some "java/lang/IllegalStateException" := rfl
def T_X4_actByCall : pm_TX := pmx_M eX4_actByCall 4
theorem Ct_X4_actByCall (l : Launch) (sk : Nat → Nat) (hlt : l.stackTraces = false) : pmx_Ct l sk yX4_actByCall cX4_actByCall 4 (some .int) 7 (T_X4_actByCall) := pmy_met hlt eX4_actByCall (by decide) rfl rfl (px_tabT (by
    intro q hq
    simp only [List.mem_cons, List.not_mem_nil, or_false] at hq
    rcases hq with rfl
    · dsimp only
      exact Or.inl ⟨103, 288, 107, 22, by decide +kernel, ps_in (by decide +kernel), ps_in (by decide +kernel), by decide +kernel, px_at (by decide +kernel), dX4_actByCall_21, dX4_actByCall_24, Or.inr ⟨dX4_actByCall_25, dX4_actByCall_28, dX4_actByCall_31⟩⟩)) (fun _ _ _ _ h => by cases h) fX4_ok (fun _ _ h => by cases h) (pm_tabC (by
    intro q hq
    simp only [List.mem_cons, List.not_mem_nil, or_false] at hq
    rcases hq with rfl | rfl | rfl
    · dsimp only
      exact pm_cokV (i := 1) (Ct_X1_refusal l sk) ykX1_refusal (by decide) (by decide) rfl rfl (by decide) (by decide +kernel) (pm_WS_mem 380 (by decide +kernel) rfl)
    · dsimp only
      exact pm_cokV (i := 4) (Ct_X4_remember l sk) ykX4_remember (by decide) (by decide) rfl rfl (by decide) (by decide +kernel) (pm_WS_mem 480 (by decide +kernel) rfl)
    · dsimp only
      exact pm_cokV (i := 1) (Ct_X1_perform l sk) ykX1_perform (by decide) (by decide) rfl rfl (by decide) (by decide +kernel) (pm_WS_mem 496 (by decide +kernel) rfl)))
theorem ix_X4_actByCall {a0 : Nat} {a1 : Int} {a2 : Int} {a3 : Int} {f : pm_H} {k : pm_P} {PX : pm_PX} (h : pm_W eX4_actByCall k PX 0 [some (.inr (.inl (some a0))), some (.inl a1), some (.inl a2), some (.inl a3)] [] f) : pm_exX T_X4_actByCall [.inr (.inl (some a0)), .inl a1, .inl a2, .inl a3] f k PX := ⟨k, PX, ⟨by simp [pm_put], h⟩, fun _ _ h => h, fun _ _ h => h⟩
theorem ykX4_lay : pm_YV yX4_lay cX4_lay 3 (some .int) := ⟨(pm_WS_mem 848 (by decide +kernel) rfl), (pm_WS_mem 125 (by decide +kernel) rfl), ⟨by decide +kernel, by decide +kernel⟩, (pm_WS_mem 846 (by decide +kernel) rfl), (pm_WS_mem 847 (by decide +kernel) rfl)⟩
def eX4_lay : pm_E := (cX4_lay, fX4, fun _ => none, fun _ => none, fun _ => none, pm_as [(88, 4, some 4, T_X4_actByCall)], some .int)
theorem zX4_lay_B : pm_eB eX4_lay = cX4_lay := rfl
theorem zX4_lay_F : pm_eF eX4_lay = fX4 := rfl
theorem zX4_lay_R : pm_eR eX4_lay = some .int := rfl
theorem zX4_lay_X88 : pm_eX eX4_lay 88 = some (4, some 4, T_X4_actByCall) := rfl
def T_X4_lay : pm_TX := pmx_M eX4_lay 3
theorem Ct_X4_lay (l : Launch) (sk : Nat → Nat) (hlt : l.stackTraces = false) : pmx_Ct l sk yX4_lay cX4_lay 3 (some .int) 8 (T_X4_lay) := pmy_met hlt eX4_lay (by decide) rfl rfl (fun _ _ h => by cases h) (px_tabX (by
    intro q hq
    simp only [List.mem_cons, List.not_mem_nil, or_false] at hq
    rcases hq with rfl
    · dsimp only
      exact px_cok (i := 4) (Ct_X4_actByCall l sk hlt) ykX4_actByCall (by decide) (by decide) rfl rfl (by decide) (by decide +kernel) (pm_WS_mem 376 (by decide +kernel) rfl))) fX4_ok (fun _ _ h => by cases h) (fun _ _ _ _ h => by cases h)
theorem ix_X4_lay {a0 : Nat} {a1 : Int} {a2 : Int} {f : pm_H} {k : pm_P} {PX : pm_PX} (h : pm_W eX4_lay k PX 0 [some (.inr (.inl (some a0))), some (.inl a1), some (.inl a2)] [] f) : pm_exX T_X4_lay [.inr (.inl (some a0)), .inl a1, .inl a2] f k PX := ⟨k, PX, ⟨by simp [pm_put], h⟩, fun _ _ h => h, fun _ _ h => h⟩
theorem ykX4_lift : pm_YV yX4_lift cX4_lift 2 (some .int) := ⟨(pm_WS_mem 855 (by decide +kernel) rfl), (pm_WS_mem 125 (by decide +kernel) rfl), ⟨by decide +kernel, by decide +kernel⟩, (pm_WS_mem 853 (by decide +kernel) rfl), (pm_WS_mem 854 (by decide +kernel) rfl)⟩
def eX4_lift : pm_E := (cX4_lift, fX4, fun _ => none, fun _ => none, fun _ => none, pm_as [(88, 4, some 4, T_X4_actByCall)], some .int)
theorem zX4_lift_B : pm_eB eX4_lift = cX4_lift := rfl
theorem zX4_lift_F : pm_eF eX4_lift = fX4 := rfl
theorem zX4_lift_R : pm_eR eX4_lift = some .int := rfl
theorem zX4_lift_X88 : pm_eX eX4_lift 88 = some (4, some 4, T_X4_actByCall) := rfl
def T_X4_lift : pm_TX := pmx_M eX4_lift 2
theorem Ct_X4_lift (l : Launch) (sk : Nat → Nat) (hlt : l.stackTraces = false) : pmx_Ct l sk yX4_lift cX4_lift 2 (some .int) 8 (T_X4_lift) := pmy_met hlt eX4_lift (by decide) rfl rfl (fun _ _ h => by cases h) (px_tabX (by
    intro q hq
    simp only [List.mem_cons, List.not_mem_nil, or_false] at hq
    rcases hq with rfl
    · dsimp only
      exact px_cok (i := 4) (Ct_X4_actByCall l sk hlt) ykX4_actByCall (by decide) (by decide) rfl rfl (by decide) (by decide +kernel) (pm_WS_mem 376 (by decide +kernel) rfl))) fX4_ok (fun _ _ h => by cases h) (fun _ _ _ _ h => by cases h)
theorem ix_X4_lift {a0 : Nat} {a1 : Int} {f : pm_H} {k : pm_P} {PX : pm_PX} (h : pm_W eX4_lift k PX 0 [some (.inr (.inl (some a0))), some (.inl a1)] [] f) : pm_exX T_X4_lift [.inr (.inl (some a0)), .inl a1] f k PX := ⟨k, PX, ⟨by simp [pm_put], h⟩, fun _ _ h => h, fun _ _ h => h⟩
theorem ykX4_cost : pm_YV yX4_cost cX4_cost 3 (some .int) := ⟨(pm_WS_mem 862 (by decide +kernel) rfl), (pm_WS_mem 125 (by decide +kernel) rfl), ⟨by decide +kernel, by decide +kernel⟩, (pm_WS_mem 860 (by decide +kernel) rfl), (pm_WS_mem 861 (by decide +kernel) rfl)⟩
def eX4_cost : pm_E := (cX4_cost, fX4, fun _ => none, fun _ => none, pm_as [(10, "java/lang/IllegalArgumentException")], pm_as [(88, 4, some 4, T_X4_actByCall)], some .int)
theorem zX4_cost_B : pm_eB eX4_cost = cX4_cost := rfl
theorem zX4_cost_F : pm_eF eX4_cost = fX4 := rfl
theorem zX4_cost_R : pm_eR eX4_cost = some .int := rfl
theorem zX4_cost_X88 : pm_eX eX4_cost 88 = some (4, some 4, T_X4_actByCall) := rfl
theorem zX4_cost_T10 : pm_eT eX4_cost 10 = some "java/lang/IllegalArgumentException" := rfl
def T_X4_cost : pm_TX := pmx_M eX4_cost 3
theorem Ct_X4_cost (l : Launch) (sk : Nat → Nat) (hlt : l.stackTraces = false) : pmx_Ct l sk yX4_cost cX4_cost 3 (some .int) 8 (T_X4_cost) := pmy_met hlt eX4_cost (by decide) rfl rfl (px_tabT (by
    intro q hq
    simp only [List.mem_cons, List.not_mem_nil, or_false] at hq
    rcases hq with rfl
    · dsimp only
      exact Or.inl ⟨69, 92, 73, 9, by decide +kernel, ps_in (by decide +kernel), ps_in (by decide +kernel), by decide +kernel, px_at (by decide +kernel), dX4_cost_10, dX4_cost_13, Or.inl ⟨dX4_cost_14, dX4_cost_16, dX4_cost_19⟩⟩)) (px_tabX (by
    intro q hq
    simp only [List.mem_cons, List.not_mem_nil, or_false] at hq
    rcases hq with rfl
    · dsimp only
      exact px_cok (i := 4) (Ct_X4_actByCall l sk hlt) ykX4_actByCall (by decide) (by decide) rfl rfl (by decide) (by decide +kernel) (pm_WS_mem 376 (by decide +kernel) rfl))) fX4_ok (fun _ _ h => by cases h) (fun _ _ _ _ h => by cases h)
theorem ix_X4_cost {a0 : Nat} {a1 : Int} {a2 : Int} {f : pm_H} {k : pm_P} {PX : pm_PX} (h : pm_W eX4_cost k PX 0 [some (.inr (.inl (some a0))), some (.inl a1), some (.inl a2)] [] f) : pm_exX T_X4_cost [.inr (.inl (some a0)), .inl a1, .inl a2] f k PX := ⟨k, PX, ⟨by simp [pm_put], h⟩, fun _ _ h => h, fun _ _ h => h⟩
theorem ykX4_tries : pm_YV yX4_tries cX4_tries 1 (some .int) := ⟨(pm_WS_mem 870 (by decide +kernel) rfl), (pm_WS_mem 125 (by decide +kernel) rfl), ⟨by decide +kernel, by decide +kernel⟩, (pm_WS_mem 868 (by decide +kernel) rfl), (pm_WS_mem 869 (by decide +kernel) rfl)⟩
def eX4_tries (sk : Nat → Nat) : pm_E := (cX4_tries, fX4, pm_as [(65, 1, some 4, T_X4_tellAside sk), (98, 1, some 0, T_X0_trees)], fun _ => none, pm_as [(8, "java/lang/IllegalArgumentException")], fun _ => none, some .int)
theorem zX4_tries_B (sk : Nat → Nat) : pm_eB (eX4_tries sk) = cX4_tries := rfl
theorem zX4_tries_F (sk : Nat → Nat) : pm_eF (eX4_tries sk) = fX4 := rfl
theorem zX4_tries_R (sk : Nat → Nat) : pm_eR (eX4_tries sk) = some .int := rfl
theorem zX4_tries_C65 (sk : Nat → Nat) : pm_eC (eX4_tries sk) 65 = some (1, some 4, T_X4_tellAside sk) := rfl
theorem zX4_tries_X65 (sk : Nat → Nat) : pm_eX (eX4_tries sk) 65 = none := rfl
theorem zX4_tries_C98 (sk : Nat → Nat) : pm_eC (eX4_tries sk) 98 = some (1, some 0, T_X0_trees) := rfl
theorem zX4_tries_X98 (sk : Nat → Nat) : pm_eX (eX4_tries sk) 98 = none := rfl
theorem zX4_tries_T8 (sk : Nat → Nat) : pm_eT (eX4_tries sk) 8 = some "java/lang/IllegalArgumentException" := rfl
def T_X4_tries (sk : Nat → Nat) : pm_TX := pmx_M (eX4_tries sk) 1
theorem Ct_X4_tries (l : Launch) (sk : Nat → Nat) (hlt : l.stackTraces = false) : pmx_Ct l sk yX4_tries cX4_tries 1 (some .int) 11 (T_X4_tries sk) := pmy_met hlt (eX4_tries sk) (by decide) rfl rfl (px_tabT (by
    intro q hq
    simp only [List.mem_cons, List.not_mem_nil, or_false] at hq
    rcases hq with rfl
    · dsimp only
      exact Or.inl ⟨69, 71, 73, 7, by decide +kernel, ps_in (by decide +kernel), ps_in (by decide +kernel), by decide +kernel, px_at (by decide +kernel), dX4_tries_8, dX4_tries_11, Or.inl ⟨dX4_tries_12, dX4_tries_14, dX4_tries_17⟩⟩)) (fun _ _ _ _ h => by cases h) fX4_ok (fun _ _ h => by cases h) (pm_tabC (by
    intro q hq
    simp only [List.mem_cons, List.not_mem_nil, or_false] at hq
    rcases hq with rfl | rfl
    · dsimp only
      exact pm_cokV (i := 4) (Ct_X4_tellAside l sk) ykX4_tellAside (by decide) (by decide) rfl rfl (by decide) (by decide +kernel) (pm_WS_mem 704 (by decide +kernel) rfl)
    · dsimp only
      exact pm_cokV (i := 0) (Ct_X0_trees l sk) ykX0_trees (by decide) (by decide) rfl rfl (by decide) (by decide +kernel) (pm_WS_mem 647 (by decide +kernel) rfl)))
theorem ix_X4_tries {sk : Nat → Nat} {a0 : Nat} {f : pm_H} {k : pm_P} {PX : pm_PX} (h : pm_W (eX4_tries sk) k PX 0 [some (.inr (.inl (some a0)))] [] f) : pm_exX (T_X4_tries sk) [.inr (.inl (some a0))] f k PX := ⟨k, PX, ⟨by simp [pm_put], h⟩, fun _ _ h => h, fun _ _ h => h⟩
theorem ykX4_swap : pm_YV yX4_swap cX4_swap 3 (some .int) := ⟨(pm_WS_mem 877 (by decide +kernel) rfl), (pm_WS_mem 125 (by decide +kernel) rfl), ⟨by decide +kernel, by decide +kernel⟩, (pm_WS_mem 875 (by decide +kernel) rfl), (pm_WS_mem 876 (by decide +kernel) rfl)⟩
def eX4_swap : pm_E := (cX4_swap, fX4, fun _ => none, fun _ => none, fun _ => none, pm_as [(88, 4, some 4, T_X4_actByCall)], some .int)
theorem zX4_swap_B : pm_eB eX4_swap = cX4_swap := rfl
theorem zX4_swap_F : pm_eF eX4_swap = fX4 := rfl
theorem zX4_swap_R : pm_eR eX4_swap = some .int := rfl
theorem zX4_swap_X88 : pm_eX eX4_swap 88 = some (4, some 4, T_X4_actByCall) := rfl
def T_X4_swap : pm_TX := pmx_M eX4_swap 3
theorem Ct_X4_swap (l : Launch) (sk : Nat → Nat) (hlt : l.stackTraces = false) : pmx_Ct l sk yX4_swap cX4_swap 3 (some .int) 8 (T_X4_swap) := pmy_met hlt eX4_swap (by decide) rfl rfl (fun _ _ h => by cases h) (px_tabX (by
    intro q hq
    simp only [List.mem_cons, List.not_mem_nil, or_false] at hq
    rcases hq with rfl
    · dsimp only
      exact px_cok (i := 4) (Ct_X4_actByCall l sk hlt) ykX4_actByCall (by decide) (by decide) rfl rfl (by decide) (by decide +kernel) (pm_WS_mem 376 (by decide +kernel) rfl))) fX4_ok (fun _ _ h => by cases h) (fun _ _ _ _ h => by cases h)
theorem ix_X4_swap {a0 : Nat} {a1 : Int} {a2 : Int} {f : pm_H} {k : pm_P} {PX : pm_PX} (h : pm_W eX4_swap k PX 0 [some (.inr (.inl (some a0))), some (.inl a1), some (.inl a2)] [] f) : pm_exX T_X4_swap [.inr (.inl (some a0)), .inl a1, .inl a2] f k PX := ⟨k, PX, ⟨by simp [pm_put], h⟩, fun _ _ h => h, fun _ _ h => h⟩
theorem ykX4_fail : pm_YV yX4_fail cX4_fail 2 (some .int) := ⟨(pm_WS_mem 884 (by decide +kernel) rfl), (pm_WS_mem 125 (by decide +kernel) rfl), ⟨by decide +kernel, by decide +kernel⟩, (pm_WS_mem 882 (by decide +kernel) rfl), (pm_WS_mem 883 (by decide +kernel) rfl)⟩
def eX4_fail : pm_E := (cX4_fail, fX4, fun _ => none, fun _ => none, fun _ => none, pm_as [(88, 4, some 4, T_X4_actByCall)], some .int)
theorem zX4_fail_B : pm_eB eX4_fail = cX4_fail := rfl
theorem zX4_fail_F : pm_eF eX4_fail = fX4 := rfl
theorem zX4_fail_R : pm_eR eX4_fail = some .int := rfl
theorem zX4_fail_X88 : pm_eX eX4_fail 88 = some (4, some 4, T_X4_actByCall) := rfl
def T_X4_fail : pm_TX := pmx_M eX4_fail 2
theorem Ct_X4_fail (l : Launch) (sk : Nat → Nat) (hlt : l.stackTraces = false) : pmx_Ct l sk yX4_fail cX4_fail 2 (some .int) 8 (T_X4_fail) := pmy_met hlt eX4_fail (by decide) rfl rfl (fun _ _ h => by cases h) (px_tabX (by
    intro q hq
    simp only [List.mem_cons, List.not_mem_nil, or_false] at hq
    rcases hq with rfl
    · dsimp only
      exact px_cok (i := 4) (Ct_X4_actByCall l sk hlt) ykX4_actByCall (by decide) (by decide) rfl rfl (by decide) (by decide +kernel) (pm_WS_mem 376 (by decide +kernel) rfl))) fX4_ok (fun _ _ h => by cases h) (fun _ _ _ _ h => by cases h)
theorem ix_X4_fail {a0 : Nat} {a1 : Int} {f : pm_H} {k : pm_P} {PX : pm_PX} (h : pm_W eX4_fail k PX 0 [some (.inr (.inl (some a0))), some (.inl a1)] [] f) : pm_exX T_X4_fail [.inr (.inl (some a0)), .inl a1] f k PX := ⟨k, PX, ⟨by simp [pm_put], h⟩, fun _ _ h => h, fun _ _ h => h⟩
theorem ykX4_tidy : pm_YV yX4_tidy cX4_tidy 1 (some .int) := ⟨(pm_WS_mem 375 (by decide +kernel) rfl), (pm_WS_mem 125 (by decide +kernel) rfl), ⟨by decide +kernel, by decide +kernel⟩, (pm_WS_mem 373 (by decide +kernel) rfl), (pm_WS_mem 374 (by decide +kernel) rfl)⟩
def eX4_tidy : pm_E := (cX4_tidy, fX4, fun _ => none, fun _ => none, fun _ => none, pm_as [(88, 4, some 4, T_X4_actByCall)], some .int)
theorem zX4_tidy_B : pm_eB eX4_tidy = cX4_tidy := rfl
theorem zX4_tidy_F : pm_eF eX4_tidy = fX4 := rfl
theorem zX4_tidy_R : pm_eR eX4_tidy = some .int := rfl
theorem zX4_tidy_X88 : pm_eX eX4_tidy 88 = some (4, some 4, T_X4_actByCall) := rfl
def T_X4_tidy : pm_TX := pmx_M eX4_tidy 1
theorem Ct_X4_tidy (l : Launch) (sk : Nat → Nat) (hlt : l.stackTraces = false) : pmx_Ct l sk yX4_tidy cX4_tidy 1 (some .int) 8 (T_X4_tidy) := pmy_met hlt eX4_tidy (by decide) rfl rfl (fun _ _ h => by cases h) (px_tabX (by
    intro q hq
    simp only [List.mem_cons, List.not_mem_nil, or_false] at hq
    rcases hq with rfl
    · dsimp only
      exact px_cok (i := 4) (Ct_X4_actByCall l sk hlt) ykX4_actByCall (by decide) (by decide) rfl rfl (by decide) (by decide +kernel) (pm_WS_mem 376 (by decide +kernel) rfl))) fX4_ok (fun _ _ h => by cases h) (fun _ _ _ _ h => by cases h)
theorem ix_X4_tidy {a0 : Nat} {f : pm_H} {k : pm_P} {PX : pm_PX} (h : pm_W eX4_tidy k PX 0 [some (.inr (.inl (some a0)))] [] f) : pm_exX T_X4_tidy [.inr (.inl (some a0))] f k PX := ⟨k, PX, ⟨by simp [pm_put], h⟩, fun _ _ h => h, fun _ _ h => h⟩
theorem ykX4_undo : pm_YV yX4_undo cX4_undo 1 (some .int) := ⟨(pm_WS_mem 891 (by decide +kernel) rfl), (pm_WS_mem 125 (by decide +kernel) rfl), ⟨by decide +kernel, by decide +kernel⟩, (pm_WS_mem 889 (by decide +kernel) rfl), (pm_WS_mem 890 (by decide +kernel) rfl)⟩
def eX4_undo : pm_E := (cX4_undo, fX4, pm_as [(76, 2, some 1, T_X1_copyFrom)], fun _ => none, pm_as [(7, "java/lang/IllegalStateException")], fun _ => none, some .int)
theorem zX4_undo_B : pm_eB eX4_undo = cX4_undo := rfl
theorem zX4_undo_F : pm_eF eX4_undo = fX4 := rfl
theorem zX4_undo_R : pm_eR eX4_undo = some .int := rfl
theorem zX4_undo_C76 : pm_eC eX4_undo 76 = some (2, some 1, T_X1_copyFrom) := rfl
theorem zX4_undo_X76 : pm_eX eX4_undo 76 = none := rfl
theorem zX4_undo_T7 : pm_eT eX4_undo 7 = some "java/lang/IllegalStateException" := rfl
def T_X4_undo : pm_TX := pmx_M eX4_undo 1
theorem Ct_X4_undo (l : Launch) (sk : Nat → Nat) (hlt : l.stackTraces = false) : pmx_Ct l sk yX4_undo cX4_undo 1 (some .int) 3 (T_X4_undo) := pmy_met hlt eX4_undo (by decide) rfl rfl (px_tabT (by
    intro q hq
    simp only [List.mem_cons, List.not_mem_nil, or_false] at hq
    rcases hq with rfl
    · dsimp only
      exact Or.inl ⟨103, 105, 107, 10, by decide +kernel, ps_in (by decide +kernel), ps_in (by decide +kernel), by decide +kernel, px_at (by decide +kernel), dX4_undo_7, dX4_undo_10, Or.inl ⟨dX4_undo_11, dX4_undo_13, dX4_undo_16⟩⟩)) (fun _ _ _ _ h => by cases h) fX4_ok (fun _ _ h => by cases h) (pm_tabC (by
    intro q hq
    simp only [List.mem_cons, List.not_mem_nil, or_false] at hq
    rcases hq with rfl
    · dsimp only
      exact pm_cokV (i := 1) (Ct_X1_copyFrom l sk) ykX1_copyFrom (by decide) (by decide) rfl rfl (by decide) (by decide +kernel) (pm_WS_mem 484 (by decide +kernel) rfl)))
theorem ix_X4_undo {a0 : Nat} {f : pm_H} {k : pm_P} {PX : pm_PX} (h : pm_W eX4_undo k PX 0 [some (.inr (.inl (some a0)))] [] f) : pm_exX T_X4_undo [.inr (.inl (some a0))] f k PX := ⟨k, PX, ⟨by simp [pm_put], h⟩, fun _ _ h => h, fun _ _ h => h⟩
theorem ykX4_needNode : pm_YV yX4_needNode cX4_needNode 2 (none) := ⟨(pm_WS_mem 904 (by decide +kernel) rfl), (pm_WS_mem 125 (by decide +kernel) rfl), ⟨by decide +kernel, by decide +kernel⟩, (pm_WS_mem 903 (by decide +kernel) rfl), (pm_WS_mem 39 (by decide +kernel) rfl)⟩
def eX4_needNode : pm_E := (cX4_needNode, fX4, pm_as [(272, 2, some 1, T_X1_isNode)], fun _ => none, pm_as [(11, "java/lang/IndexOutOfBoundsException")], fun _ => none, none)
theorem zX4_needNode_B : pm_eB eX4_needNode = cX4_needNode := rfl
theorem zX4_needNode_F : pm_eF eX4_needNode = fX4 := rfl
theorem zX4_needNode_R : pm_eR eX4_needNode = none := rfl
theorem zX4_needNode_C272 : pm_eC eX4_needNode 272 = some (2, some 1, T_X1_isNode) := rfl
theorem zX4_needNode_X272 : pm_eX eX4_needNode 272 = none := rfl
theorem zX4_needNode_T11 : pm_eT eX4_needNode 11 = some "java/lang/IndexOutOfBoundsException" := rfl
def T_X4_needNode : pm_TX := pmx_M eX4_needNode 2
theorem Ct_X4_needNode (l : Launch) (sk : Nat → Nat) (hlt : l.stackTraces = false) : pmx_Ct l sk yX4_needNode cX4_needNode 2 (none) 2 (T_X4_needNode) := pmy_met hlt eX4_needNode (by decide) rfl rfl (px_tabT (by
    intro q hq
    simp only [List.mem_cons, List.not_mem_nil, or_false] at hq
    rcases hq with rfl
    · dsimp only
      exact Or.inl ⟨276, 278, 280, 19, by decide +kernel, ps_in (by decide +kernel), ps_in (by decide +kernel), by decide +kernel, px_at (by decide +kernel), dX4_needNode_11, dX4_needNode_14, Or.inr ⟨dX4_needNode_15, dX4_needNode_18, dX4_needNode_21⟩⟩)) (fun _ _ _ _ h => by cases h) fX4_ok (fun _ _ h => by cases h) (pm_tabC (by
    intro q hq
    simp only [List.mem_cons, List.not_mem_nil, or_false] at hq
    rcases hq with rfl
    · dsimp only
      exact pm_cokV (i := 1) (Ct_X1_isNode l sk) ykX1_isNode (by decide) (by decide) rfl rfl (by decide) (by decide +kernel) (pm_WS_mem 905 (by decide +kernel) rfl)))
theorem ix_X4_needNode {a0 : Nat} {a1 : Int} {f : pm_H} {k : pm_P} {PX : pm_PX} (h : pm_W eX4_needNode k PX 0 [some (.inr (.inl (some a0))), some (.inl a1)] [] f) : pm_exX T_X4_needNode [.inr (.inl (some a0)), .inl a1] f k PX := ⟨k, PX, ⟨by simp [pm_put], h⟩, fun _ _ h => h, fun _ _ h => h⟩
theorem ykX4_connected : pm_YV yX4_connected cX4_connected 3 (some .boolean) := ⟨(pm_WS_mem 900 (by decide +kernel) rfl), (pm_WS_mem 125 (by decide +kernel) rfl), ⟨by decide +kernel, by decide +kernel⟩, (pm_WS_mem 898 (by decide +kernel) rfl), (pm_WS_mem 899 (by decide +kernel) rfl)⟩
def eX4_connected : pm_E := (cX4_connected, fX4, pm_as [(111, 2, some 0, T_X0_partOf), (114, 2, none, T_X4_holds)], fun _ => none, fun _ => none, pm_as [(108, 2, some 4, T_X4_needNode)], some .boolean)
theorem zX4_connected_B : pm_eB eX4_connected = cX4_connected := rfl
theorem zX4_connected_F : pm_eF eX4_connected = fX4 := rfl
theorem zX4_connected_R : pm_eR eX4_connected = some .boolean := rfl
theorem zX4_connected_C111 : pm_eC eX4_connected 111 = some (2, some 0, T_X0_partOf) := rfl
theorem zX4_connected_X111 : pm_eX eX4_connected 111 = none := rfl
theorem zX4_connected_C114 : pm_eC eX4_connected 114 = some (2, none, T_X4_holds) := rfl
theorem zX4_connected_X114 : pm_eX eX4_connected 114 = none := rfl
theorem zX4_connected_X108 : pm_eX eX4_connected 108 = some (2, some 4, T_X4_needNode) := rfl
def T_X4_connected : pm_TX := pmx_M eX4_connected 3
theorem Ct_X4_connected (l : Launch) (sk : Nat → Nat) (hlt : l.stackTraces = false) : pmx_Ct l sk yX4_connected cX4_connected 3 (some .boolean) 3 (T_X4_connected) := pmy_met hlt eX4_connected (by decide) rfl rfl (fun _ _ h => by cases h) (px_tabX (by
    intro q hq
    simp only [List.mem_cons, List.not_mem_nil, or_false] at hq
    rcases hq with rfl
    · dsimp only
      exact px_cok (i := 4) (Ct_X4_needNode l sk hlt) ykX4_needNode (by decide) (by decide) rfl rfl (by decide) (by decide +kernel) (pm_WS_mem 901 (by decide +kernel) rfl))) fX4_ok (fun _ _ h => by cases h) (pm_tabC (by
    intro q hq
    simp only [List.mem_cons, List.not_mem_nil, or_false] at hq
    rcases hq with rfl | rfl
    · dsimp only
      exact pm_cokV (i := 0) (Ct_X0_partOf l sk) ykX0_partOf (by decide) (by decide) rfl rfl (by decide) (by decide +kernel) (pm_WS_mem 922 (by decide +kernel) rfl)
    · dsimp only
      exact pm_cokS (Ct_X4_holds l sk) ykX4_holds (by decide) (by decide) (by decide +kernel) (Or.inl (pm_WS_mem 923 (by decide +kernel) rfl))))
theorem ix_X4_connected {a0 : Nat} {a1 : Int} {a2 : Int} {f : pm_H} {k : pm_P} {PX : pm_PX} (h : pm_W eX4_connected k PX 0 [some (.inr (.inl (some a0))), some (.inl a1), some (.inl a2)] [] f) : pm_exX T_X4_connected [.inr (.inl (some a0)), .inl a1, .inl a2] f k PX := ⟨k, PX, ⟨by simp [pm_put], h⟩, fun _ _ h => h, fun _ _ h => h⟩
theorem ykX4_node : pm_YV yX4_node cX4_node 3 (some .int) := ⟨(pm_WS_mem 931 (by decide +kernel) rfl), (pm_WS_mem 125 (by decide +kernel) rfl), ⟨by decide +kernel, by decide +kernel⟩, (pm_WS_mem 929 (by decide +kernel) rfl), (pm_WS_mem 930 (by decide +kernel) rfl)⟩
def eX4_node : pm_E := (cX4_node, fX4, pm_as [(111, 2, some 0, T_X0_partOf), (122, 3, some 1, T_X1_cablesAt), (126, 3, some 2, T_X2_spanOf), (130, 3, some 2, T_X2_islandOf)], fun _ => none, pm_as [(124, "java/util/NoSuchElementException")], pm_as [(108, 2, some 4, T_X4_needNode)], some .int)
theorem zX4_node_B : pm_eB eX4_node = cX4_node := rfl
theorem zX4_node_F : pm_eF eX4_node = fX4 := rfl
theorem zX4_node_R : pm_eR eX4_node = some .int := rfl
theorem zX4_node_C111 : pm_eC eX4_node 111 = some (2, some 0, T_X0_partOf) := rfl
theorem zX4_node_X111 : pm_eX eX4_node 111 = none := rfl
theorem zX4_node_C122 : pm_eC eX4_node 122 = some (3, some 1, T_X1_cablesAt) := rfl
theorem zX4_node_X122 : pm_eX eX4_node 122 = none := rfl
theorem zX4_node_C126 : pm_eC eX4_node 126 = some (3, some 2, T_X2_spanOf) := rfl
theorem zX4_node_X126 : pm_eX eX4_node 126 = none := rfl
theorem zX4_node_C130 : pm_eC eX4_node 130 = some (3, some 2, T_X2_islandOf) := rfl
theorem zX4_node_X130 : pm_eX eX4_node 130 = none := rfl
theorem zX4_node_X108 : pm_eX eX4_node 108 = some (2, some 4, T_X4_needNode) := rfl
theorem zX4_node_T124 : pm_eT eX4_node 124 = some "java/util/NoSuchElementException" := rfl
def T_X4_node : pm_TX := pmx_M eX4_node 3
theorem Ct_X4_node (l : Launch) (sk : Nat → Nat) (hlt : l.stackTraces = false) : pmx_Ct l sk yX4_node cX4_node 3 (some .int) 5 (T_X4_node) := pmy_met hlt eX4_node (by decide) rfl rfl (px_tabT (by
    intro q hq
    simp only [List.mem_cons, List.not_mem_nil, or_false] at hq
    rcases hq with rfl
    · dsimp only
      exact Or.inr ⟨rfl, 133, 135, 137, 11, ps_in (by decide +kernel), ps_in (by decide +kernel), by decide +kernel, pn_at (by decide +kernel), dX4_node_124, dX4_node_127, dX4_node_128, dX4_node_130, dX4_node_133⟩)) (px_tabX (by
    intro q hq
    simp only [List.mem_cons, List.not_mem_nil, or_false] at hq
    rcases hq with rfl
    · dsimp only
      exact px_cok (i := 4) (Ct_X4_needNode l sk hlt) ykX4_needNode (by decide) (by decide) rfl rfl (by decide) (by decide +kernel) (pm_WS_mem 901 (by decide +kernel) rfl))) fX4_ok (fun _ _ h => by cases h) (pm_tabC (by
    intro q hq
    simp only [List.mem_cons, List.not_mem_nil, or_false] at hq
    rcases hq with rfl | rfl | rfl | rfl
    · dsimp only
      exact pm_cokV (i := 0) (Ct_X0_partOf l sk) ykX0_partOf (by decide) (by decide) rfl rfl (by decide) (by decide +kernel) (pm_WS_mem 922 (by decide +kernel) rfl)
    · dsimp only
      exact pm_cokV (i := 1) (Ct_X1_cablesAt l sk) ykX1_cablesAt (by decide) (by decide) rfl rfl (by decide) (by decide +kernel) (pm_WS_mem 932 (by decide +kernel) rfl)
    · dsimp only
      exact pm_cokV (i := 2) (Ct_X2_spanOf l sk) ykX2_spanOf (by decide) (by decide) rfl rfl (by decide) (by decide +kernel) (pm_WS_mem 936 (by decide +kernel) rfl)
    · dsimp only
      exact pm_cokV (i := 2) (Ct_X2_islandOf l sk) ykX2_islandOf (by decide) (by decide) rfl rfl (by decide) (by decide +kernel) (pm_WS_mem 940 (by decide +kernel) rfl)))
theorem ix_X4_node {a0 : Nat} {a1 : Int} {a2 : Int} {f : pm_H} {k : pm_P} {PX : pm_PX} (h : pm_W eX4_node k PX 0 [some (.inr (.inl (some a0))), some (.inl a1), some (.inl a2)] [] f) : pm_exX T_X4_node [.inr (.inl (some a0)), .inl a1, .inl a2] f k PX := ⟨k, PX, ⟨by simp [pm_put], h⟩, fun _ _ h => h, fun _ _ h => h⟩
theorem ykX4_needCable : pm_YV yX4_needCable cX4_needCable 2 (none) := ⟨(pm_WS_mem 970 (by decide +kernel) rfl), (pm_WS_mem 125 (by decide +kernel) rfl), ⟨by decide +kernel, by decide +kernel⟩, (pm_WS_mem 969 (by decide +kernel) rfl), (pm_WS_mem 40 (by decide +kernel) rfl)⟩
def eX4_needCable : pm_E := (cX4_needCable, fX4, fun _ => none, fun _ => none, pm_as [(15, "java/lang/IndexOutOfBoundsException")], fun _ => none, none)
theorem zX4_needCable_B : pm_eB eX4_needCable = cX4_needCable := rfl
theorem zX4_needCable_F : pm_eF eX4_needCable = fX4 := rfl
theorem zX4_needCable_R : pm_eR eX4_needCable = none := rfl
theorem zX4_needCable_T15 : pm_eT eX4_needCable 15 = some "java/lang/IndexOutOfBoundsException" := rfl
def T_X4_needCable : pm_TX := pmx_M eX4_needCable 2
theorem Ct_X4_needCable (l : Launch) (sk : Nat → Nat) (hlt : l.stackTraces = false) : pmx_Ct l sk yX4_needCable cX4_needCable 2 (none) 1 (T_X4_needCable) := pmy_met hlt eX4_needCable (by decide) rfl rfl (px_tabT (by
    intro q hq
    simp only [List.mem_cons, List.not_mem_nil, or_false] at hq
    rcases hq with rfl
    · dsimp only
      exact Or.inl ⟨276, 281, 280, 20, by decide +kernel, ps_in (by decide +kernel), ps_in (by decide +kernel), by decide +kernel, px_at (by decide +kernel), dX4_needCable_15, dX4_needCable_18, Or.inr ⟨dX4_needCable_19, dX4_needCable_22, dX4_needCable_25⟩⟩)) (fun _ _ _ _ h => by cases h) fX4_ok (fun _ _ h => by cases h) (fun _ _ _ _ h => by cases h)
theorem ix_X4_needCable {a0 : Nat} {a1 : Int} {f : pm_H} {k : pm_P} {PX : pm_PX} (h : pm_W eX4_needCable k PX 0 [some (.inr (.inl (some a0))), some (.inl a1)] [] f) : pm_exX T_X4_needCable [.inr (.inl (some a0)), .inl a1] f k PX := ⟨k, PX, ⟨by simp [pm_put], h⟩, fun _ _ h => h, fun _ _ h => h⟩
theorem ykX4_cable : pm_YV yX4_cable cX4_cable 3 (some .int) := ⟨(pm_WS_mem 966 (by decide +kernel) rfl), (pm_WS_mem 125 (by decide +kernel) rfl), ⟨by decide +kernel, by decide +kernel⟩, (pm_WS_mem 964 (by decide +kernel) rfl), (pm_WS_mem 965 (by decide +kernel) rfl)⟩
def eX4_cable : pm_E := (cX4_cable, fX4, pm_as [(159, 3, some 2, T_X2_lossOf)], fun _ => none, pm_as [(121, "java/util/NoSuchElementException")], pm_as [(138, 2, some 4, T_X4_needCable)], some .int)
theorem zX4_cable_B : pm_eB eX4_cable = cX4_cable := rfl
theorem zX4_cable_F : pm_eF eX4_cable = fX4 := rfl
theorem zX4_cable_R : pm_eR eX4_cable = some .int := rfl
theorem zX4_cable_C159 : pm_eC eX4_cable 159 = some (3, some 2, T_X2_lossOf) := rfl
theorem zX4_cable_X159 : pm_eX eX4_cable 159 = none := rfl
theorem zX4_cable_X138 : pm_eX eX4_cable 138 = some (2, some 4, T_X4_needCable) := rfl
theorem zX4_cable_T121 : pm_eT eX4_cable 121 = some "java/util/NoSuchElementException" := rfl
def T_X4_cable : pm_TX := pmx_M eX4_cable 3
theorem Ct_X4_cable (l : Launch) (sk : Nat → Nat) (hlt : l.stackTraces = false) : pmx_Ct l sk yX4_cable cX4_cable 3 (some .int) 5 (T_X4_cable) := pmy_met hlt eX4_cable (by decide) rfl rfl (px_tabT (by
    intro q hq
    simp only [List.mem_cons, List.not_mem_nil, or_false] at hq
    rcases hq with rfl
    · dsimp only
      exact Or.inr ⟨rfl, 133, 162, 137, 12, ps_in (by decide +kernel), ps_in (by decide +kernel), by decide +kernel, pn_at (by decide +kernel), dX4_cable_121, dX4_cable_124, dX4_cable_125, dX4_cable_127, dX4_cable_130⟩)) (px_tabX (by
    intro q hq
    simp only [List.mem_cons, List.not_mem_nil, or_false] at hq
    rcases hq with rfl
    · dsimp only
      exact px_cok (i := 4) (Ct_X4_needCable l sk hlt) ykX4_needCable (by decide) (by decide) rfl rfl (by decide) (by decide +kernel) (pm_WS_mem 967 (by decide +kernel) rfl))) fX4_ok (fun _ _ h => by cases h) (pm_tabC (by
    intro q hq
    simp only [List.mem_cons, List.not_mem_nil, or_false] at hq
    rcases hq with rfl
    · dsimp only
      exact pm_cokV (i := 2) (Ct_X2_lossOf l sk) ykX2_lossOf (by decide) (by decide) rfl rfl (by decide) (by decide +kernel) (pm_WS_mem 972 (by decide +kernel) rfl)))
theorem ix_X4_cable {a0 : Nat} {a1 : Int} {a2 : Int} {f : pm_H} {k : pm_P} {PX : pm_PX} (h : pm_W eX4_cable k PX 0 [some (.inr (.inl (some a0))), some (.inl a1), some (.inl a2)] [] f) : pm_exX T_X4_cable [.inr (.inl (some a0)), .inl a1, .inl a2] f k PX := ⟨k, PX, ⟨by simp [pm_put], h⟩, fun _ _ h => h, fun _ _ h => h⟩
theorem ykX4_needLevel : pm_YV yX4_needLevel cX4_needLevel 2 (none) := ⟨(pm_WS_mem 984 (by decide +kernel) rfl), (pm_WS_mem 125 (by decide +kernel) rfl), ⟨by decide +kernel, by decide +kernel⟩, (pm_WS_mem 983 (by decide +kernel) rfl), (pm_WS_mem 41 (by decide +kernel) rfl)⟩
def eX4_needLevel : pm_E := (cX4_needLevel, fX4, fun _ => none, fun _ => none, pm_as [(15, "java/lang/IndexOutOfBoundsException")], fun _ => none, none)
theorem zX4_needLevel_B : pm_eB eX4_needLevel = cX4_needLevel := rfl
theorem zX4_needLevel_F : pm_eF eX4_needLevel = fX4 := rfl
theorem zX4_needLevel_R : pm_eR eX4_needLevel = none := rfl
theorem zX4_needLevel_T15 : pm_eT eX4_needLevel 15 = some "java/lang/IndexOutOfBoundsException" := rfl
def T_X4_needLevel : pm_TX := pmx_M eX4_needLevel 2
theorem Ct_X4_needLevel (l : Launch) (sk : Nat → Nat) (hlt : l.stackTraces = false) : pmx_Ct l sk yX4_needLevel cX4_needLevel 2 (none) 1 (T_X4_needLevel) := pmy_met hlt eX4_needLevel (by decide) rfl rfl (px_tabT (by
    intro q hq
    simp only [List.mem_cons, List.not_mem_nil, or_false] at hq
    rcases hq with rfl
    · dsimp only
      exact Or.inl ⟨276, 283, 280, 21, by decide +kernel, ps_in (by decide +kernel), ps_in (by decide +kernel), by decide +kernel, px_at (by decide +kernel), dX4_needLevel_15, dX4_needLevel_18, Or.inr ⟨dX4_needLevel_19, dX4_needLevel_22, dX4_needLevel_25⟩⟩)) (fun _ _ _ _ h => by cases h) fX4_ok (fun _ _ h => by cases h) (fun _ _ _ _ h => by cases h)
theorem ix_X4_needLevel {a0 : Nat} {a1 : Int} {f : pm_H} {k : pm_P} {PX : pm_PX} (h : pm_W eX4_needLevel k PX 0 [some (.inr (.inl (some a0))), some (.inl a1)] [] f) : pm_exX T_X4_needLevel [.inr (.inl (some a0)), .inl a1] f k PX := ⟨k, PX, ⟨by simp [pm_put], h⟩, fun _ _ h => h, fun _ _ h => h⟩
theorem ykX4_part : pm_YV yX4_part cX4_part 3 (some .int) := ⟨(pm_WS_mem 980 (by decide +kernel) rfl), (pm_WS_mem 125 (by decide +kernel) rfl), ⟨by decide +kernel, by decide +kernel⟩, (pm_WS_mem 978 (by decide +kernel) rfl), (pm_WS_mem 979 (by decide +kernel) rfl)⟩
def eX4_part : pm_E := (cX4_part, fX4, pm_as [(111, 2, some 0, T_X0_partOf)], fun _ => none, fun _ => none, pm_as [(164, 2, some 4, T_X4_needLevel), (108, 2, some 4, T_X4_needNode)], some .int)
theorem zX4_part_B : pm_eB eX4_part = cX4_part := rfl
theorem zX4_part_F : pm_eF eX4_part = fX4 := rfl
theorem zX4_part_R : pm_eR eX4_part = some .int := rfl
theorem zX4_part_C111 : pm_eC eX4_part 111 = some (2, some 0, T_X0_partOf) := rfl
theorem zX4_part_X111 : pm_eX eX4_part 111 = none := rfl
theorem zX4_part_X164 : pm_eX eX4_part 164 = some (2, some 4, T_X4_needLevel) := rfl
theorem zX4_part_X108 : pm_eX eX4_part 108 = some (2, some 4, T_X4_needNode) := rfl
def T_X4_part : pm_TX := pmx_M eX4_part 3
theorem Ct_X4_part (l : Launch) (sk : Nat → Nat) (hlt : l.stackTraces = false) : pmx_Ct l sk yX4_part cX4_part 3 (some .int) 3 (T_X4_part) := pmy_met hlt eX4_part (by decide) rfl rfl (fun _ _ h => by cases h) (px_tabX (by
    intro q hq
    simp only [List.mem_cons, List.not_mem_nil, or_false] at hq
    rcases hq with rfl | rfl
    · dsimp only
      exact px_cok (i := 4) (Ct_X4_needLevel l sk hlt) ykX4_needLevel (by decide) (by decide) rfl rfl (by decide) (by decide +kernel) (pm_WS_mem 981 (by decide +kernel) rfl)
    · dsimp only
      exact px_cok (i := 4) (Ct_X4_needNode l sk hlt) ykX4_needNode (by decide) (by decide) rfl rfl (by decide) (by decide +kernel) (pm_WS_mem 901 (by decide +kernel) rfl))) fX4_ok (fun _ _ h => by cases h) (pm_tabC (by
    intro q hq
    simp only [List.mem_cons, List.not_mem_nil, or_false] at hq
    rcases hq with rfl
    · dsimp only
      exact pm_cokV (i := 0) (Ct_X0_partOf l sk) ykX0_partOf (by decide) (by decide) rfl rfl (by decide) (by decide +kernel) (pm_WS_mem 922 (by decide +kernel) rfl)))
theorem ix_X4_part {a0 : Nat} {a1 : Int} {a2 : Int} {f : pm_H} {k : pm_P} {PX : pm_PX} (h : pm_W eX4_part k PX 0 [some (.inr (.inl (some a0))), some (.inl a1), some (.inl a2)] [] f) : pm_exX T_X4_part [.inr (.inl (some a0)), .inl a1, .inl a2] f k PX := ⟨k, PX, ⟨by simp [pm_put], h⟩, fun _ _ h => h, fun _ _ h => h⟩
theorem ykX4_level : pm_YV yX4_level cX4_level 3 (some .int) := ⟨(pm_WS_mem 992 (by decide +kernel) rfl), (pm_WS_mem 125 (by decide +kernel) rfl), ⟨by decide +kernel, by decide +kernel⟩, (pm_WS_mem 990 (by decide +kernel) rfl), (pm_WS_mem 991 (by decide +kernel) rfl)⟩
def eX4_level : pm_E := (cX4_level, fX4, pm_as [(98, 1, some 0, T_X0_trees), (167, 3, some 1, T_X1_cablesOn), (170, 1, some 0, T_X0_greatest)], fun _ => none, pm_as [(82, "java/util/NoSuchElementException")], pm_as [(164, 2, some 4, T_X4_needLevel)], some .int)
theorem zX4_level_B : pm_eB eX4_level = cX4_level := rfl
theorem zX4_level_F : pm_eF eX4_level = fX4 := rfl
theorem zX4_level_R : pm_eR eX4_level = some .int := rfl
theorem zX4_level_C98 : pm_eC eX4_level 98 = some (1, some 0, T_X0_trees) := rfl
theorem zX4_level_X98 : pm_eX eX4_level 98 = none := rfl
theorem zX4_level_C167 : pm_eC eX4_level 167 = some (3, some 1, T_X1_cablesOn) := rfl
theorem zX4_level_X167 : pm_eX eX4_level 167 = none := rfl
theorem zX4_level_C170 : pm_eC eX4_level 170 = some (1, some 0, T_X0_greatest) := rfl
theorem zX4_level_X170 : pm_eX eX4_level 170 = none := rfl
theorem zX4_level_X164 : pm_eX eX4_level 164 = some (2, some 4, T_X4_needLevel) := rfl
theorem zX4_level_T82 : pm_eT eX4_level 82 = some "java/util/NoSuchElementException" := rfl
def T_X4_level : pm_TX := pmx_M eX4_level 3
theorem Ct_X4_level (l : Launch) (sk : Nat → Nat) (hlt : l.stackTraces = false) : pmx_Ct l sk yX4_level cX4_level 3 (some .int) 2 (T_X4_level) := pmy_met hlt eX4_level (by decide) rfl rfl (px_tabT (by
    intro q hq
    simp only [List.mem_cons, List.not_mem_nil, or_false] at hq
    rcases hq with rfl
    · dsimp only
      exact Or.inr ⟨rfl, 133, 173, 137, 13, ps_in (by decide +kernel), ps_in (by decide +kernel), by decide +kernel, pn_at (by decide +kernel), dX4_level_82, dX4_level_85, dX4_level_86, dX4_level_88, dX4_level_91⟩)) (px_tabX (by
    intro q hq
    simp only [List.mem_cons, List.not_mem_nil, or_false] at hq
    rcases hq with rfl
    · dsimp only
      exact px_cok (i := 4) (Ct_X4_needLevel l sk hlt) ykX4_needLevel (by decide) (by decide) rfl rfl (by decide) (by decide +kernel) (pm_WS_mem 981 (by decide +kernel) rfl))) fX4_ok (fun _ _ h => by cases h) (pm_tabC (by
    intro q hq
    simp only [List.mem_cons, List.not_mem_nil, or_false] at hq
    rcases hq with rfl | rfl | rfl
    · dsimp only
      exact pm_cokV (i := 0) (Ct_X0_trees l sk) ykX0_trees (by decide) (by decide) rfl rfl (by decide) (by decide +kernel) (pm_WS_mem 647 (by decide +kernel) rfl)
    · dsimp only
      exact pm_cokV (i := 1) (Ct_X1_cablesOn l sk) ykX1_cablesOn (by decide) (by decide) rfl rfl (by decide) (by decide +kernel) (pm_WS_mem 993 (by decide +kernel) rfl)
    · dsimp only
      exact pm_cokV (i := 0) (Ct_X0_greatest l sk) ykX0_greatest (by decide) (by decide) rfl rfl (by decide) (by decide +kernel) (pm_WS_mem 997 (by decide +kernel) rfl)))
theorem ix_X4_level {a0 : Nat} {a1 : Int} {a2 : Int} {f : pm_H} {k : pm_P} {PX : pm_PX} (h : pm_W eX4_level k PX 0 [some (.inr (.inl (some a0))), some (.inl a1), some (.inl a2)] [] f) : pm_exX T_X4_level [.inr (.inl (some a0)), .inl a1, .inl a2] f k PX := ⟨k, PX, ⟨by simp [pm_put], h⟩, fun _ _ h => h, fun _ _ h => h⟩
theorem ykX4_tour : pm_YV yX4_tour cX4_tour 4 (some .int) := ⟨(pm_WS_mem 1009 (by decide +kernel) rfl), (pm_WS_mem 125 (by decide +kernel) rfl), ⟨by decide +kernel, by decide +kernel⟩, (pm_WS_mem 1007 (by decide +kernel) rfl), (pm_WS_mem 1008 (by decide +kernel) rfl)⟩
def eX4_tour : pm_E := (cX4_tour, fX4, pm_as [(175, 3, some 0, T_X0_itemOf)], fun _ => none, fun _ => none, pm_as [(164, 2, some 4, T_X4_needLevel), (108, 2, some 4, T_X4_needNode)], some .int)
theorem zX4_tour_B : pm_eB eX4_tour = cX4_tour := rfl
theorem zX4_tour_F : pm_eF eX4_tour = fX4 := rfl
theorem zX4_tour_R : pm_eR eX4_tour = some .int := rfl
theorem zX4_tour_C175 : pm_eC eX4_tour 175 = some (3, some 0, T_X0_itemOf) := rfl
theorem zX4_tour_X175 : pm_eX eX4_tour 175 = none := rfl
theorem zX4_tour_X164 : pm_eX eX4_tour 164 = some (2, some 4, T_X4_needLevel) := rfl
theorem zX4_tour_X108 : pm_eX eX4_tour 108 = some (2, some 4, T_X4_needNode) := rfl
def T_X4_tour : pm_TX := pmx_M eX4_tour 4
theorem Ct_X4_tour (l : Launch) (sk : Nat → Nat) (hlt : l.stackTraces = false) : pmx_Ct l sk yX4_tour cX4_tour 4 (some .int) 3 (T_X4_tour) := pmy_met hlt eX4_tour (by decide) rfl rfl (fun _ _ h => by cases h) (px_tabX (by
    intro q hq
    simp only [List.mem_cons, List.not_mem_nil, or_false] at hq
    rcases hq with rfl | rfl
    · dsimp only
      exact px_cok (i := 4) (Ct_X4_needLevel l sk hlt) ykX4_needLevel (by decide) (by decide) rfl rfl (by decide) (by decide +kernel) (pm_WS_mem 981 (by decide +kernel) rfl)
    · dsimp only
      exact px_cok (i := 4) (Ct_X4_needNode l sk hlt) ykX4_needNode (by decide) (by decide) rfl rfl (by decide) (by decide +kernel) (pm_WS_mem 901 (by decide +kernel) rfl))) fX4_ok (fun _ _ h => by cases h) (pm_tabC (by
    intro q hq
    simp only [List.mem_cons, List.not_mem_nil, or_false] at hq
    rcases hq with rfl
    · dsimp only
      exact pm_cokV (i := 0) (Ct_X0_itemOf l sk) ykX0_itemOf (by decide) (by decide) rfl rfl (by decide) (by decide +kernel) (pm_WS_mem 1010 (by decide +kernel) rfl)))
theorem ix_X4_tour {a0 : Nat} {a1 : Int} {a2 : Int} {a3 : Int} {f : pm_H} {k : pm_P} {PX : pm_PX} (h : pm_W eX4_tour k PX 0 [some (.inr (.inl (some a0))), some (.inl a1), some (.inl a2), some (.inl a3)] [] f) : pm_exX T_X4_tour [.inr (.inl (some a0)), .inl a1, .inl a2, .inl a3] f k PX := ⟨k, PX, ⟨by simp [pm_put], h⟩, fun _ _ h => h, fun _ _ h => h⟩
theorem ykX4_deep : pm_YV yX4_deep cX4_deep 3 (some .int) := ⟨(pm_WS_mem 1020 (by decide +kernel) rfl), (pm_WS_mem 125 (by decide +kernel) rfl), ⟨by decide +kernel, by decide +kernel⟩, (pm_WS_mem 1018 (by decide +kernel) rfl), (pm_WS_mem 1019 (by decide +kernel) rfl)⟩
def eX4_deep : pm_E := (cX4_deep, fX4, pm_as [(178, 2, some 0, T_X0_depthOf)], fun _ => none, fun _ => none, pm_as [(164, 2, some 4, T_X4_needLevel), (108, 2, some 4, T_X4_needNode)], some .int)
theorem zX4_deep_B : pm_eB eX4_deep = cX4_deep := rfl
theorem zX4_deep_F : pm_eF eX4_deep = fX4 := rfl
theorem zX4_deep_R : pm_eR eX4_deep = some .int := rfl
theorem zX4_deep_C178 : pm_eC eX4_deep 178 = some (2, some 0, T_X0_depthOf) := rfl
theorem zX4_deep_X178 : pm_eX eX4_deep 178 = none := rfl
theorem zX4_deep_X164 : pm_eX eX4_deep 164 = some (2, some 4, T_X4_needLevel) := rfl
theorem zX4_deep_X108 : pm_eX eX4_deep 108 = some (2, some 4, T_X4_needNode) := rfl
def T_X4_deep : pm_TX := pmx_M eX4_deep 3
theorem Ct_X4_deep (l : Launch) (sk : Nat → Nat) (hlt : l.stackTraces = false) : pmx_Ct l sk yX4_deep cX4_deep 3 (some .int) 3 (T_X4_deep) := pmy_met hlt eX4_deep (by decide) rfl rfl (fun _ _ h => by cases h) (px_tabX (by
    intro q hq
    simp only [List.mem_cons, List.not_mem_nil, or_false] at hq
    rcases hq with rfl | rfl
    · dsimp only
      exact px_cok (i := 4) (Ct_X4_needLevel l sk hlt) ykX4_needLevel (by decide) (by decide) rfl rfl (by decide) (by decide +kernel) (pm_WS_mem 981 (by decide +kernel) rfl)
    · dsimp only
      exact px_cok (i := 4) (Ct_X4_needNode l sk hlt) ykX4_needNode (by decide) (by decide) rfl rfl (by decide) (by decide +kernel) (pm_WS_mem 901 (by decide +kernel) rfl))) fX4_ok (fun _ _ h => by cases h) (pm_tabC (by
    intro q hq
    simp only [List.mem_cons, List.not_mem_nil, or_false] at hq
    rcases hq with rfl
    · dsimp only
      exact pm_cokV (i := 0) (Ct_X0_depthOf l sk) ykX0_depthOf (by decide) (by decide) rfl rfl (by decide) (by decide +kernel) (pm_WS_mem 1021 (by decide +kernel) rfl)))
theorem ix_X4_deep {a0 : Nat} {a1 : Int} {a2 : Int} {f : pm_H} {k : pm_P} {PX : pm_PX} (h : pm_W eX4_deep k PX 0 [some (.inr (.inl (some a0))), some (.inl a1), some (.inl a2)] [] f) : pm_exX T_X4_deep [.inr (.inl (some a0)), .inl a1, .inl a2] f k PX := ⟨k, PX, ⟨by simp [pm_put], h⟩, fun _ _ h => h, fun _ _ h => h⟩
theorem ykX4_way : pm_YV yX4_way cX4_way 4 (some .int) := ⟨(pm_WS_mem 1041 (by decide +kernel) rfl), (pm_WS_mem 125 (by decide +kernel) rfl), ⟨by decide +kernel, by decide +kernel⟩, (pm_WS_mem 1039 (by decide +kernel) rfl), (pm_WS_mem 1040 (by decide +kernel) rfl)⟩
def eX4_way : pm_E := (cX4_way, fX4, pm_as [(181, 4, some 2, T_X2_wayLength), (185, 5, some 2, T_X2_wayNode)], fun _ => none, fun _ => none, pm_as [(108, 2, some 4, T_X4_needNode)], some .int)
theorem zX4_way_B : pm_eB eX4_way = cX4_way := rfl
theorem zX4_way_F : pm_eF eX4_way = fX4 := rfl
theorem zX4_way_R : pm_eR eX4_way = some .int := rfl
theorem zX4_way_C181 : pm_eC eX4_way 181 = some (4, some 2, T_X2_wayLength) := rfl
theorem zX4_way_X181 : pm_eX eX4_way 181 = none := rfl
theorem zX4_way_C185 : pm_eC eX4_way 185 = some (5, some 2, T_X2_wayNode) := rfl
theorem zX4_way_X185 : pm_eX eX4_way 185 = none := rfl
theorem zX4_way_X108 : pm_eX eX4_way 108 = some (2, some 4, T_X4_needNode) := rfl
def T_X4_way : pm_TX := pmx_M eX4_way 4
theorem Ct_X4_way (l : Launch) (sk : Nat → Nat) (hlt : l.stackTraces = false) : pmx_Ct l sk yX4_way cX4_way 4 (some .int) 5 (T_X4_way) := pmy_met hlt eX4_way (by decide) rfl rfl (fun _ _ h => by cases h) (px_tabX (by
    intro q hq
    simp only [List.mem_cons, List.not_mem_nil, or_false] at hq
    rcases hq with rfl
    · dsimp only
      exact px_cok (i := 4) (Ct_X4_needNode l sk hlt) ykX4_needNode (by decide) (by decide) rfl rfl (by decide) (by decide +kernel) (pm_WS_mem 901 (by decide +kernel) rfl))) fX4_ok (fun _ _ h => by cases h) (pm_tabC (by
    intro q hq
    simp only [List.mem_cons, List.not_mem_nil, or_false] at hq
    rcases hq with rfl | rfl
    · dsimp only
      exact pm_cokV (i := 2) (Ct_X2_wayLength l sk) ykX2_wayLength (by decide) (by decide) rfl rfl (by decide) (by decide +kernel) (pm_WS_mem 1042 (by decide +kernel) rfl)
    · dsimp only
      exact pm_cokV (i := 2) (Ct_X2_wayNode l sk) ykX2_wayNode (by decide) (by decide) rfl rfl (by decide) (by decide +kernel) (pm_WS_mem 1050 (by decide +kernel) rfl)))
theorem ix_X4_way {a0 : Nat} {a1 : Int} {a2 : Int} {a3 : Int} {f : pm_H} {k : pm_P} {PX : pm_PX} (h : pm_W eX4_way k PX 0 [some (.inr (.inl (some a0))), some (.inl a1), some (.inl a2), some (.inl a3)] [] f) : pm_exX T_X4_way [.inr (.inl (some a0)), .inl a1, .inl a2, .inl a3] f k PX := ⟨k, PX, ⟨by simp [pm_put], h⟩, fun _ _ h => h, fun _ _ h => h⟩
theorem ykX4_near : pm_YV yX4_near cX4_near 3 (some .int) := ⟨(pm_WS_mem 1061 (by decide +kernel) rfl), (pm_WS_mem 125 (by decide +kernel) rfl), ⟨by decide +kernel, by decide +kernel⟩, (pm_WS_mem 1059 (by decide +kernel) rfl), (pm_WS_mem 1060 (by decide +kernel) rfl)⟩
def eX4_near : pm_E := (cX4_near, fX4, pm_as [(189, 4, some 2, T_X2_stepsBetween)], fun _ => none, fun _ => none, pm_as [(108, 2, some 4, T_X4_needNode)], some .int)
theorem zX4_near_B : pm_eB eX4_near = cX4_near := rfl
theorem zX4_near_F : pm_eF eX4_near = fX4 := rfl
theorem zX4_near_R : pm_eR eX4_near = some .int := rfl
theorem zX4_near_C189 : pm_eC eX4_near 189 = some (4, some 2, T_X2_stepsBetween) := rfl
theorem zX4_near_X189 : pm_eX eX4_near 189 = none := rfl
theorem zX4_near_X108 : pm_eX eX4_near 108 = some (2, some 4, T_X4_needNode) := rfl
def T_X4_near : pm_TX := pmx_M eX4_near 3
theorem Ct_X4_near (l : Launch) (sk : Nat → Nat) (hlt : l.stackTraces = false) : pmx_Ct l sk yX4_near cX4_near 3 (some .int) 4 (T_X4_near) := pmy_met hlt eX4_near (by decide) rfl rfl (fun _ _ h => by cases h) (px_tabX (by
    intro q hq
    simp only [List.mem_cons, List.not_mem_nil, or_false] at hq
    rcases hq with rfl
    · dsimp only
      exact px_cok (i := 4) (Ct_X4_needNode l sk hlt) ykX4_needNode (by decide) (by decide) rfl rfl (by decide) (by decide +kernel) (pm_WS_mem 901 (by decide +kernel) rfl))) fX4_ok (fun _ _ h => by cases h) (pm_tabC (by
    intro q hq
    simp only [List.mem_cons, List.not_mem_nil, or_false] at hq
    rcases hq with rfl
    · dsimp only
      exact pm_cokV (i := 2) (Ct_X2_stepsBetween l sk) ykX2_stepsBetween (by decide) (by decide) rfl rfl (by decide) (by decide +kernel) (pm_WS_mem 1062 (by decide +kernel) rfl)))
theorem ix_X4_near {a0 : Nat} {a1 : Int} {a2 : Int} {f : pm_H} {k : pm_P} {PX : pm_PX} (h : pm_W eX4_near k PX 0 [some (.inr (.inl (some a0))), some (.inl a1), some (.inl a2)] [] f) : pm_exX T_X4_near [.inr (.inl (some a0)), .inl a1, .inl a2] f k PX := ⟨k, PX, ⟨by simp [pm_put], h⟩, fun _ _ h => h, fun _ _ h => h⟩
theorem ykX4_heir : pm_YV yX4_heir cX4_heir 2 (some .int) := ⟨(pm_WS_mem 1072 (by decide +kernel) rfl), (pm_WS_mem 125 (by decide +kernel) rfl), ⟨by decide +kernel, by decide +kernel⟩, (pm_WS_mem 1070 (by decide +kernel) rfl), (pm_WS_mem 1071 (by decide +kernel) rfl)⟩
def eX4_heir : pm_E := (cX4_heir, fX4, pm_as [(76, 2, some 1, T_X1_copyFrom), (194, 2, some 1, T_X1_takeCable)], fun _ => none, pm_as [(17, "java/lang/IllegalStateException")], pm_as [(138, 2, some 4, T_X4_needCable)], some .int)
theorem zX4_heir_B : pm_eB eX4_heir = cX4_heir := rfl
theorem zX4_heir_F : pm_eF eX4_heir = fX4 := rfl
theorem zX4_heir_R : pm_eR eX4_heir = some .int := rfl
theorem zX4_heir_C76 : pm_eC eX4_heir 76 = some (2, some 1, T_X1_copyFrom) := rfl
theorem zX4_heir_X76 : pm_eX eX4_heir 76 = none := rfl
theorem zX4_heir_C194 : pm_eC eX4_heir 194 = some (2, some 1, T_X1_takeCable) := rfl
theorem zX4_heir_X194 : pm_eX eX4_heir 194 = none := rfl
theorem zX4_heir_X138 : pm_eX eX4_heir 138 = some (2, some 4, T_X4_needCable) := rfl
theorem zX4_heir_T17 : pm_eT eX4_heir 17 = some "java/lang/IllegalStateException" := rfl
def T_X4_heir : pm_TX := pmx_M eX4_heir 2
theorem Ct_X4_heir (l : Launch) (sk : Nat → Nat) (hlt : l.stackTraces = false) : pmx_Ct l sk yX4_heir cX4_heir 2 (some .int) 5 (T_X4_heir) := pmy_met hlt eX4_heir (by decide) rfl rfl (px_tabT (by
    intro q hq
    simp only [List.mem_cons, List.not_mem_nil, or_false] at hq
    rcases hq with rfl
    · dsimp only
      exact Or.inl ⟨103, 192, 107, 14, by decide +kernel, ps_in (by decide +kernel), ps_in (by decide +kernel), by decide +kernel, px_at (by decide +kernel), dX4_heir_17, dX4_heir_20, Or.inl ⟨dX4_heir_21, dX4_heir_23, dX4_heir_26⟩⟩)) (px_tabX (by
    intro q hq
    simp only [List.mem_cons, List.not_mem_nil, or_false] at hq
    rcases hq with rfl
    · dsimp only
      exact px_cok (i := 4) (Ct_X4_needCable l sk hlt) ykX4_needCable (by decide) (by decide) rfl rfl (by decide) (by decide +kernel) (pm_WS_mem 967 (by decide +kernel) rfl))) fX4_ok (fun _ _ h => by cases h) (pm_tabC (by
    intro q hq
    simp only [List.mem_cons, List.not_mem_nil, or_false] at hq
    rcases hq with rfl | rfl
    · dsimp only
      exact pm_cokV (i := 1) (Ct_X1_copyFrom l sk) ykX1_copyFrom (by decide) (by decide) rfl rfl (by decide) (by decide +kernel) (pm_WS_mem 484 (by decide +kernel) rfl)
    · dsimp only
      exact pm_cokV (i := 1) (Ct_X1_takeCable l sk) ykX1_takeCable (by decide) (by decide) rfl rfl (by decide) (by decide +kernel) (pm_WS_mem 1074 (by decide +kernel) rfl)))
theorem ix_X4_heir {a0 : Nat} {a1 : Int} {f : pm_H} {k : pm_P} {PX : pm_PX} (h : pm_W eX4_heir k PX 0 [some (.inr (.inl (some a0))), some (.inl a1)] [] f) : pm_exX T_X4_heir [.inr (.inl (some a0)), .inl a1] f k PX := ⟨k, PX, ⟨by simp [pm_put], h⟩, fun _ _ h => h, fun _ _ h => h⟩
theorem ykX4_would : pm_YV yX4_would cX4_would 3 (some .int) := ⟨(pm_WS_mem 1081 (by decide +kernel) rfl), (pm_WS_mem 125 (by decide +kernel) rfl), ⟨by decide +kernel, by decide +kernel⟩, (pm_WS_mem 1079 (by decide +kernel) rfl), (pm_WS_mem 1080 (by decide +kernel) rfl)⟩
def eX4_would : pm_E := (cX4_would, fX4, pm_as [(76, 2, some 1, T_X1_copyFrom), (194, 2, some 1, T_X1_takeCable)], fun _ => none, pm_as [(14, "java/util/NoSuchElementException"), (37, "java/lang/IllegalStateException")], pm_as [(138, 2, some 4, T_X4_needCable)], some .int)
theorem zX4_would_B : pm_eB eX4_would = cX4_would := rfl
theorem zX4_would_F : pm_eF eX4_would = fX4 := rfl
theorem zX4_would_R : pm_eR eX4_would = some .int := rfl
theorem zX4_would_C76 : pm_eC eX4_would 76 = some (2, some 1, T_X1_copyFrom) := rfl
theorem zX4_would_X76 : pm_eX eX4_would 76 = none := rfl
theorem zX4_would_C194 : pm_eC eX4_would 194 = some (2, some 1, T_X1_takeCable) := rfl
theorem zX4_would_X194 : pm_eX eX4_would 194 = none := rfl
theorem zX4_would_X138 : pm_eX eX4_would 138 = some (2, some 4, T_X4_needCable) := rfl
theorem zX4_would_T14 : pm_eT eX4_would 14 = some "java/util/NoSuchElementException" := rfl
theorem zX4_would_T37 : pm_eT eX4_would 37 = some "java/lang/IllegalStateException" := rfl
def T_X4_would : pm_TX := pmx_M eX4_would 3
theorem Ct_X4_would (l : Launch) (sk : Nat → Nat) (hlt : l.stackTraces = false) : pmx_Ct l sk yX4_would cX4_would 3 (some .int) 5 (T_X4_would) := pmy_met hlt eX4_would (by decide) rfl rfl (px_tabT (by
    intro q hq
    simp only [List.mem_cons, List.not_mem_nil, or_false] at hq
    rcases hq with rfl | rfl
    · dsimp only
      exact Or.inr ⟨rfl, 133, 197, 137, 15, ps_in (by decide +kernel), ps_in (by decide +kernel), by decide +kernel, pn_at (by decide +kernel), dX4_would_14, dX4_would_17, dX4_would_18, dX4_would_20, dX4_would_23⟩
    · dsimp only
      exact Or.inl ⟨103, 199, 107, 16, by decide +kernel, ps_in (by decide +kernel), ps_in (by decide +kernel), by decide +kernel, px_at (by decide +kernel), dX4_would_37, dX4_would_40, Or.inl ⟨dX4_would_41, dX4_would_43, dX4_would_46⟩⟩)) (px_tabX (by
    intro q hq
    simp only [List.mem_cons, List.not_mem_nil, or_false] at hq
    rcases hq with rfl
    · dsimp only
      exact px_cok (i := 4) (Ct_X4_needCable l sk hlt) ykX4_needCable (by decide) (by decide) rfl rfl (by decide) (by decide +kernel) (pm_WS_mem 967 (by decide +kernel) rfl))) fX4_ok (fun _ _ h => by cases h) (pm_tabC (by
    intro q hq
    simp only [List.mem_cons, List.not_mem_nil, or_false] at hq
    rcases hq with rfl | rfl
    · dsimp only
      exact pm_cokV (i := 1) (Ct_X1_copyFrom l sk) ykX1_copyFrom (by decide) (by decide) rfl rfl (by decide) (by decide +kernel) (pm_WS_mem 484 (by decide +kernel) rfl)
    · dsimp only
      exact pm_cokV (i := 1) (Ct_X1_takeCable l sk) ykX1_takeCable (by decide) (by decide) rfl rfl (by decide) (by decide +kernel) (pm_WS_mem 1074 (by decide +kernel) rfl)))
theorem ix_X4_would {a0 : Nat} {a1 : Int} {a2 : Int} {f : pm_H} {k : pm_P} {PX : pm_PX} (h : pm_W eX4_would k PX 0 [some (.inr (.inl (some a0))), some (.inl a1), some (.inl a2)] [] f) : pm_exX T_X4_would [.inr (.inl (some a0)), .inl a1, .inl a2] f k PX := ⟨k, PX, ⟨by simp [pm_put], h⟩, fun _ _ h => h, fun _ _ h => h⟩
theorem ykX4_bridge : pm_YV yX4_bridge cX4_bridge 2 (some .boolean) := ⟨(pm_WS_mem 1090 (by decide +kernel) rfl), (pm_WS_mem 125 (by decide +kernel) rfl), ⟨by decide +kernel, by decide +kernel⟩, (pm_WS_mem 1088 (by decide +kernel) rfl), (pm_WS_mem 1089 (by decide +kernel) rfl)⟩
def eX4_bridge : pm_E := (cX4_bridge, fX4, pm_as [(159, 3, some 2, T_X2_lossOf)], fun _ => none, fun _ => none, pm_as [(138, 2, some 4, T_X4_needCable)], some .boolean)
theorem zX4_bridge_B : pm_eB eX4_bridge = cX4_bridge := rfl
theorem zX4_bridge_F : pm_eF eX4_bridge = fX4 := rfl
theorem zX4_bridge_R : pm_eR eX4_bridge = some .boolean := rfl
theorem zX4_bridge_C159 : pm_eC eX4_bridge 159 = some (3, some 2, T_X2_lossOf) := rfl
theorem zX4_bridge_X159 : pm_eX eX4_bridge 159 = none := rfl
theorem zX4_bridge_X138 : pm_eX eX4_bridge 138 = some (2, some 4, T_X4_needCable) := rfl
def T_X4_bridge : pm_TX := pmx_M eX4_bridge 2
theorem Ct_X4_bridge (l : Launch) (sk : Nat → Nat) (hlt : l.stackTraces = false) : pmx_Ct l sk yX4_bridge cX4_bridge 2 (some .boolean) 5 (T_X4_bridge) := pmy_met hlt eX4_bridge (by decide) rfl rfl (fun _ _ h => by cases h) (px_tabX (by
    intro q hq
    simp only [List.mem_cons, List.not_mem_nil, or_false] at hq
    rcases hq with rfl
    · dsimp only
      exact px_cok (i := 4) (Ct_X4_needCable l sk hlt) ykX4_needCable (by decide) (by decide) rfl rfl (by decide) (by decide +kernel) (pm_WS_mem 967 (by decide +kernel) rfl))) fX4_ok (fun _ _ h => by cases h) (pm_tabC (by
    intro q hq
    simp only [List.mem_cons, List.not_mem_nil, or_false] at hq
    rcases hq with rfl
    · dsimp only
      exact pm_cokV (i := 2) (Ct_X2_lossOf l sk) ykX2_lossOf (by decide) (by decide) rfl rfl (by decide) (by decide +kernel) (pm_WS_mem 972 (by decide +kernel) rfl)))
theorem ix_X4_bridge {a0 : Nat} {a1 : Int} {f : pm_H} {k : pm_P} {PX : pm_PX} (h : pm_W eX4_bridge k PX 0 [some (.inr (.inl (some a0))), some (.inl a1)] [] f) : pm_exX T_X4_bridge [.inr (.inl (some a0)), .inl a1] f k PX := ⟨k, PX, ⟨by simp [pm_put], h⟩, fun _ _ h => h, fun _ _ h => h⟩
theorem ykX4_kin : pm_YV yX4_kin cX4_kin 4 (some .int) := ⟨(pm_WS_mem 1097 (by decide +kernel) rfl), (pm_WS_mem 125 (by decide +kernel) rfl), ⟨by decide +kernel, by decide +kernel⟩, (pm_WS_mem 1095 (by decide +kernel) rfl), (pm_WS_mem 1096 (by decide +kernel) rfl)⟩
def eX4_kin : pm_E := (cX4_kin, fX4, pm_as [(207, 3, some 1, T_X1_aboveOf), (210, 2, some 0, T_X0_belowOf)], fun _ => none, pm_as [(60, "java/util/NoSuchElementException")], pm_as [(164, 2, some 4, T_X4_needLevel), (108, 2, some 4, T_X4_needNode)], some .int)
theorem zX4_kin_B : pm_eB eX4_kin = cX4_kin := rfl
theorem zX4_kin_F : pm_eF eX4_kin = fX4 := rfl
theorem zX4_kin_R : pm_eR eX4_kin = some .int := rfl
theorem zX4_kin_C207 : pm_eC eX4_kin 207 = some (3, some 1, T_X1_aboveOf) := rfl
theorem zX4_kin_X207 : pm_eX eX4_kin 207 = none := rfl
theorem zX4_kin_C210 : pm_eC eX4_kin 210 = some (2, some 0, T_X0_belowOf) := rfl
theorem zX4_kin_X210 : pm_eX eX4_kin 210 = none := rfl
theorem zX4_kin_X164 : pm_eX eX4_kin 164 = some (2, some 4, T_X4_needLevel) := rfl
theorem zX4_kin_X108 : pm_eX eX4_kin 108 = some (2, some 4, T_X4_needNode) := rfl
theorem zX4_kin_T60 : pm_eT eX4_kin 60 = some "java/util/NoSuchElementException" := rfl
def T_X4_kin : pm_TX := pmx_M eX4_kin 4
theorem Ct_X4_kin (l : Launch) (sk : Nat → Nat) (hlt : l.stackTraces = false) : pmx_Ct l sk yX4_kin cX4_kin 4 (some .int) 4 (T_X4_kin) := pmy_met hlt eX4_kin (by decide) rfl rfl (px_tabT (by
    intro q hq
    simp only [List.mem_cons, List.not_mem_nil, or_false] at hq
    rcases hq with rfl
    · dsimp only
      exact Or.inr ⟨rfl, 133, 197, 137, 15, ps_in (by decide +kernel), ps_in (by decide +kernel), by decide +kernel, pn_at (by decide +kernel), dX4_kin_60, dX4_kin_63, dX4_kin_64, dX4_kin_66, dX4_kin_69⟩)) (px_tabX (by
    intro q hq
    simp only [List.mem_cons, List.not_mem_nil, or_false] at hq
    rcases hq with rfl | rfl
    · dsimp only
      exact px_cok (i := 4) (Ct_X4_needLevel l sk hlt) ykX4_needLevel (by decide) (by decide) rfl rfl (by decide) (by decide +kernel) (pm_WS_mem 981 (by decide +kernel) rfl)
    · dsimp only
      exact px_cok (i := 4) (Ct_X4_needNode l sk hlt) ykX4_needNode (by decide) (by decide) rfl rfl (by decide) (by decide +kernel) (pm_WS_mem 901 (by decide +kernel) rfl))) fX4_ok (fun _ _ h => by cases h) (pm_tabC (by
    intro q hq
    simp only [List.mem_cons, List.not_mem_nil, or_false] at hq
    rcases hq with rfl | rfl
    · dsimp only
      exact pm_cokV (i := 1) (Ct_X1_aboveOf l sk) ykX1_aboveOf (by decide) (by decide) rfl rfl (by decide) (by decide +kernel) (pm_WS_mem 1098 (by decide +kernel) rfl)
    · dsimp only
      exact pm_cokV (i := 0) (Ct_X0_belowOf l sk) ykX0_belowOf (by decide) (by decide) rfl rfl (by decide) (by decide +kernel) (pm_WS_mem 1106 (by decide +kernel) rfl)))
theorem ix_X4_kin {a0 : Nat} {a1 : Int} {a2 : Int} {a3 : Int} {f : pm_H} {k : pm_P} {PX : pm_PX} (h : pm_W eX4_kin k PX 0 [some (.inr (.inl (some a0))), some (.inl a1), some (.inl a2), some (.inl a3)] [] f) : pm_exX T_X4_kin [.inr (.inl (some a0)), .inl a1, .inl a2, .inl a3] f k PX := ⟨k, PX, ⟨by simp [pm_put], h⟩, fun _ _ h => h, fun _ _ h => h⟩
theorem ykX4_meet : pm_YV yX4_meet cX4_meet 4 (some .int) := ⟨(pm_WS_mem 1119 (by decide +kernel) rfl), (pm_WS_mem 125 (by decide +kernel) rfl), ⟨by decide +kernel, by decide +kernel⟩, (pm_WS_mem 1117 (by decide +kernel) rfl), (pm_WS_mem 1118 (by decide +kernel) rfl)⟩
def eX4_meet : pm_E := (cX4_meet, fX4, pm_as [(213, 4, some 1, T_X1_meetingOf)], fun _ => none, fun _ => none, pm_as [(164, 2, some 4, T_X4_needLevel), (108, 2, some 4, T_X4_needNode)], some .int)
theorem zX4_meet_B : pm_eB eX4_meet = cX4_meet := rfl
theorem zX4_meet_F : pm_eF eX4_meet = fX4 := rfl
theorem zX4_meet_R : pm_eR eX4_meet = some .int := rfl
theorem zX4_meet_C213 : pm_eC eX4_meet 213 = some (4, some 1, T_X1_meetingOf) := rfl
theorem zX4_meet_X213 : pm_eX eX4_meet 213 = none := rfl
theorem zX4_meet_X164 : pm_eX eX4_meet 164 = some (2, some 4, T_X4_needLevel) := rfl
theorem zX4_meet_X108 : pm_eX eX4_meet 108 = some (2, some 4, T_X4_needNode) := rfl
def T_X4_meet : pm_TX := pmx_M eX4_meet 4
theorem Ct_X4_meet (l : Launch) (sk : Nat → Nat) (hlt : l.stackTraces = false) : pmx_Ct l sk yX4_meet cX4_meet 4 (some .int) 5 (T_X4_meet) := pmy_met hlt eX4_meet (by decide) rfl rfl (fun _ _ h => by cases h) (px_tabX (by
    intro q hq
    simp only [List.mem_cons, List.not_mem_nil, or_false] at hq
    rcases hq with rfl | rfl
    · dsimp only
      exact px_cok (i := 4) (Ct_X4_needLevel l sk hlt) ykX4_needLevel (by decide) (by decide) rfl rfl (by decide) (by decide +kernel) (pm_WS_mem 981 (by decide +kernel) rfl)
    · dsimp only
      exact px_cok (i := 4) (Ct_X4_needNode l sk hlt) ykX4_needNode (by decide) (by decide) rfl rfl (by decide) (by decide +kernel) (pm_WS_mem 901 (by decide +kernel) rfl))) fX4_ok (fun _ _ h => by cases h) (pm_tabC (by
    intro q hq
    simp only [List.mem_cons, List.not_mem_nil, or_false] at hq
    rcases hq with rfl
    · dsimp only
      exact pm_cokV (i := 1) (Ct_X1_meetingOf l sk) ykX1_meetingOf (by decide) (by decide) rfl rfl (by decide) (by decide +kernel) (pm_WS_mem 1120 (by decide +kernel) rfl)))
theorem ix_X4_meet {a0 : Nat} {a1 : Int} {a2 : Int} {a3 : Int} {f : pm_H} {k : pm_P} {PX : pm_PX} (h : pm_W eX4_meet k PX 0 [some (.inr (.inl (some a0))), some (.inl a1), some (.inl a2), some (.inl a3)] [] f) : pm_exX T_X4_meet [.inr (.inl (some a0)), .inl a1, .inl a2, .inl a3] f k PX := ⟨k, PX, ⟨by simp [pm_put], h⟩, fun _ _ h => h, fun _ _ h => h⟩
theorem ykX4_within : pm_YV yX4_within cX4_within 3 (some .int) := ⟨(pm_WS_mem 1132 (by decide +kernel) rfl), (pm_WS_mem 125 (by decide +kernel) rfl), ⟨by decide +kernel, by decide +kernel⟩, (pm_WS_mem 1130 (by decide +kernel) rfl), (pm_WS_mem 1131 (by decide +kernel) rfl)⟩
def eX4_within : pm_E := (cX4_within, fX4, pm_as [(218, 4, some 2, T_X2_nodesWithin)], fun _ => none, pm_as [(15, "java/lang/IllegalArgumentException")], pm_as [(108, 2, some 4, T_X4_needNode)], some .int)
theorem zX4_within_B : pm_eB eX4_within = cX4_within := rfl
theorem zX4_within_F : pm_eF eX4_within = fX4 := rfl
theorem zX4_within_R : pm_eR eX4_within = some .int := rfl
theorem zX4_within_C218 : pm_eC eX4_within 218 = some (4, some 2, T_X2_nodesWithin) := rfl
theorem zX4_within_X218 : pm_eX eX4_within 218 = none := rfl
theorem zX4_within_X108 : pm_eX eX4_within 108 = some (2, some 4, T_X4_needNode) := rfl
theorem zX4_within_T15 : pm_eT eX4_within 15 = some "java/lang/IllegalArgumentException" := rfl
def T_X4_within : pm_TX := pmx_M eX4_within 3
theorem Ct_X4_within (l : Launch) (sk : Nat → Nat) (hlt : l.stackTraces = false) : pmx_Ct l sk yX4_within cX4_within 3 (some .int) 4 (T_X4_within) := pmy_met hlt eX4_within (by decide) rfl rfl (px_tabT (by
    intro q hq
    simp only [List.mem_cons, List.not_mem_nil, or_false] at hq
    rcases hq with rfl
    · dsimp only
      exact Or.inl ⟨69, 216, 73, 17, by decide +kernel, ps_in (by decide +kernel), ps_in (by decide +kernel), by decide +kernel, px_at (by decide +kernel), dX4_within_15, dX4_within_18, Or.inl ⟨dX4_within_19, dX4_within_21, dX4_within_24⟩⟩)) (px_tabX (by
    intro q hq
    simp only [List.mem_cons, List.not_mem_nil, or_false] at hq
    rcases hq with rfl
    · dsimp only
      exact px_cok (i := 4) (Ct_X4_needNode l sk hlt) ykX4_needNode (by decide) (by decide) rfl rfl (by decide) (by decide +kernel) (pm_WS_mem 901 (by decide +kernel) rfl))) fX4_ok (fun _ _ h => by cases h) (pm_tabC (by
    intro q hq
    simp only [List.mem_cons, List.not_mem_nil, or_false] at hq
    rcases hq with rfl
    · dsimp only
      exact pm_cokV (i := 2) (Ct_X2_nodesWithin l sk) ykX2_nodesWithin (by decide) (by decide) rfl rfl (by decide) (by decide +kernel) (pm_WS_mem 1134 (by decide +kernel) rfl)))
theorem ix_X4_within {a0 : Nat} {a1 : Int} {a2 : Int} {f : pm_H} {k : pm_P} {PX : pm_PX} (h : pm_W eX4_within k PX 0 [some (.inr (.inl (some a0))), some (.inl a1), some (.inl a2)] [] f) : pm_exX T_X4_within [.inr (.inl (some a0)), .inl a1, .inl a2] f k PX := ⟨k, PX, ⟨by simp [pm_put], h⟩, fun _ _ h => h, fun _ _ h => h⟩
theorem ykX4_odds : pm_YV yX4_odds cX4_odds 3 (some .int) := ⟨(pm_WS_mem 1144 (by decide +kernel) rfl), (pm_WS_mem 125 (by decide +kernel) rfl), ⟨by decide +kernel, by decide +kernel⟩, (pm_WS_mem 1142 (by decide +kernel) rfl), (pm_WS_mem 1143 (by decide +kernel) rfl)⟩
def eX4_odds : pm_E := (cX4_odds, fX4, pm_as [(221, 4, some 2, T_X2_setsThatTie)], fun _ => none, fun _ => none, pm_as [(108, 2, some 4, T_X4_needNode)], some .int)
theorem zX4_odds_B : pm_eB eX4_odds = cX4_odds := rfl
theorem zX4_odds_F : pm_eF eX4_odds = fX4 := rfl
theorem zX4_odds_R : pm_eR eX4_odds = some .int := rfl
theorem zX4_odds_C221 : pm_eC eX4_odds 221 = some (4, some 2, T_X2_setsThatTie) := rfl
theorem zX4_odds_X221 : pm_eX eX4_odds 221 = none := rfl
theorem zX4_odds_X108 : pm_eX eX4_odds 108 = some (2, some 4, T_X4_needNode) := rfl
def T_X4_odds : pm_TX := pmx_M eX4_odds 3
theorem Ct_X4_odds (l : Launch) (sk : Nat → Nat) (hlt : l.stackTraces = false) : pmx_Ct l sk yX4_odds cX4_odds 3 (some .int) 18 (T_X4_odds) := pmy_met hlt eX4_odds (by decide) rfl rfl (fun _ _ h => by cases h) (px_tabX (by
    intro q hq
    simp only [List.mem_cons, List.not_mem_nil, or_false] at hq
    rcases hq with rfl
    · dsimp only
      exact px_cok (i := 4) (Ct_X4_needNode l sk hlt) ykX4_needNode (by decide) (by decide) rfl rfl (by decide) (by decide +kernel) (pm_WS_mem 901 (by decide +kernel) rfl))) fX4_ok (fun _ _ h => by cases h) (pm_tabC (by
    intro q hq
    simp only [List.mem_cons, List.not_mem_nil, or_false] at hq
    rcases hq with rfl
    · dsimp only
      exact pm_cokV (i := 2) (Ct_X2_setsThatTie l sk) ykX2_setsThatTie (by decide) (by decide) rfl rfl (by decide) (by decide +kernel) (pm_WS_mem 1145 (by decide +kernel) rfl)))
theorem ix_X4_odds {a0 : Nat} {a1 : Int} {a2 : Int} {f : pm_H} {k : pm_P} {PX : pm_PX} (h : pm_W eX4_odds k PX 0 [some (.inr (.inl (some a0))), some (.inl a1), some (.inl a2)] [] f) : pm_exX T_X4_odds [.inr (.inl (some a0)), .inl a1, .inl a2] f k PX := ⟨k, PX, ⟨by simp [pm_put], h⟩, fun _ _ h => h, fun _ _ h => h⟩
theorem ykX4_fare : pm_YV yX4_fare cX4_fare 3 (some .int) := ⟨(pm_WS_mem 1158 (by decide +kernel) rfl), (pm_WS_mem 125 (by decide +kernel) rfl), ⟨by decide +kernel, by decide +kernel⟩, (pm_WS_mem 1156 (by decide +kernel) rfl), (pm_WS_mem 1157 (by decide +kernel) rfl)⟩
def eX4_fare : pm_E := (cX4_fare, fX4, pm_as [(224, 4, some 2, T_X2_leastFare)], fun _ => none, fun _ => none, pm_as [(108, 2, some 4, T_X4_needNode)], some .int)
theorem zX4_fare_B : pm_eB eX4_fare = cX4_fare := rfl
theorem zX4_fare_F : pm_eF eX4_fare = fX4 := rfl
theorem zX4_fare_R : pm_eR eX4_fare = some .int := rfl
theorem zX4_fare_C224 : pm_eC eX4_fare 224 = some (4, some 2, T_X2_leastFare) := rfl
theorem zX4_fare_X224 : pm_eX eX4_fare 224 = none := rfl
theorem zX4_fare_X108 : pm_eX eX4_fare 108 = some (2, some 4, T_X4_needNode) := rfl
def T_X4_fare : pm_TX := pmx_M eX4_fare 3
theorem Ct_X4_fare (l : Launch) (sk : Nat → Nat) (hlt : l.stackTraces = false) : pmx_Ct l sk yX4_fare cX4_fare 3 (some .int) 3 (T_X4_fare) := pmy_met hlt eX4_fare (by decide) rfl rfl (fun _ _ h => by cases h) (px_tabX (by
    intro q hq
    simp only [List.mem_cons, List.not_mem_nil, or_false] at hq
    rcases hq with rfl
    · dsimp only
      exact px_cok (i := 4) (Ct_X4_needNode l sk hlt) ykX4_needNode (by decide) (by decide) rfl rfl (by decide) (by decide +kernel) (pm_WS_mem 901 (by decide +kernel) rfl))) fX4_ok (fun _ _ h => by cases h) (pm_tabC (by
    intro q hq
    simp only [List.mem_cons, List.not_mem_nil, or_false] at hq
    rcases hq with rfl
    · dsimp only
      exact pm_cokV (i := 2) (Ct_X2_leastFare l sk) ykX2_leastFare (by decide) (by decide) rfl rfl (by decide) (by decide +kernel) (pm_WS_mem 1159 (by decide +kernel) rfl)))
theorem ix_X4_fare {a0 : Nat} {a1 : Int} {a2 : Int} {f : pm_H} {k : pm_P} {PX : pm_PX} (h : pm_W eX4_fare k PX 0 [some (.inr (.inl (some a0))), some (.inl a1), some (.inl a2)] [] f) : pm_exX T_X4_fare [.inr (.inl (some a0)), .inl a1, .inl a2] f k PX := ⟨k, PX, ⟨by simp [pm_put], h⟩, fun _ _ h => h, fun _ _ h => h⟩
theorem ykX4_log : pm_YV yX4_log cX4_log 3 (some .int) := ⟨(pm_WS_mem 1173 (by decide +kernel) rfl), (pm_WS_mem 125 (by decide +kernel) rfl), ⟨by decide +kernel, by decide +kernel⟩, (pm_WS_mem 1171 (by decide +kernel) rfl), (pm_WS_mem 1172 (by decide +kernel) rfl)⟩
def eX4_log : pm_E := (cX4_log, fX4, fun _ => none, fun _ => none, pm_as [(9, "java/util/NoSuchElementException")], fun _ => none, some .int)
theorem zX4_log_B : pm_eB eX4_log = cX4_log := rfl
theorem zX4_log_F : pm_eF eX4_log = fX4 := rfl
theorem zX4_log_R : pm_eR eX4_log = some .int := rfl
theorem zX4_log_T9 : pm_eT eX4_log 9 = some "java/util/NoSuchElementException" := rfl
def T_X4_log : pm_TX := pmx_M eX4_log 3
theorem Ct_X4_log (l : Launch) (sk : Nat → Nat) (hlt : l.stackTraces = false) : pmx_Ct l sk yX4_log cX4_log 3 (some .int) 1 (T_X4_log) := pmy_met hlt eX4_log (by decide) rfl rfl (px_tabT (by
    intro q hq
    simp only [List.mem_cons, List.not_mem_nil, or_false] at hq
    rcases hq with rfl
    · dsimp only
      exact Or.inr ⟨rfl, 133, 230, 137, 18, ps_in (by decide +kernel), ps_in (by decide +kernel), by decide +kernel, pn_at (by decide +kernel), dX4_log_9, dX4_log_12, dX4_log_13, dX4_log_15, dX4_log_18⟩)) (fun _ _ _ _ h => by cases h) fX4_ok (fun _ _ h => by cases h) (fun _ _ _ _ h => by cases h)
theorem ix_X4_log {a0 : Nat} {a1 : Int} {a2 : Int} {f : pm_H} {k : pm_P} {PX : pm_PX} (h : pm_W eX4_log k PX 0 [some (.inr (.inl (some a0))), some (.inl a1), some (.inl a2)] [] f) : pm_exX T_X4_log [.inr (.inl (some a0)), .inl a1, .inl a2] f k PX := ⟨k, PX, ⟨by simp [pm_put], h⟩, fun _ _ h => h, fun _ _ h => h⟩
theorem ykX4_cut : pm_YV yX4_cut cX4_cut 3 (some .int) := ⟨(pm_WS_mem 1181 (by decide +kernel) rfl), (pm_WS_mem 125 (by decide +kernel) rfl), ⟨by decide +kernel, by decide +kernel⟩, (pm_WS_mem 1179 (by decide +kernel) rfl), (pm_WS_mem 1180 (by decide +kernel) rfl)⟩
def eX4_cut : pm_E := (cX4_cut, fX4, pm_as [(245, 4, some 2, T_X2_fewestBetween)], fun _ => none, fun _ => none, pm_as [(108, 2, some 4, T_X4_needNode)], some .int)
theorem zX4_cut_B : pm_eB eX4_cut = cX4_cut := rfl
theorem zX4_cut_F : pm_eF eX4_cut = fX4 := rfl
theorem zX4_cut_R : pm_eR eX4_cut = some .int := rfl
theorem zX4_cut_C245 : pm_eC eX4_cut 245 = some (4, some 2, T_X2_fewestBetween) := rfl
theorem zX4_cut_X245 : pm_eX eX4_cut 245 = none := rfl
theorem zX4_cut_X108 : pm_eX eX4_cut 108 = some (2, some 4, T_X4_needNode) := rfl
def T_X4_cut : pm_TX := pmx_M eX4_cut 3
theorem Ct_X4_cut (l : Launch) (sk : Nat → Nat) (hlt : l.stackTraces = false) : pmx_Ct l sk yX4_cut cX4_cut 3 (some .int) 4 (T_X4_cut) := pmy_met hlt eX4_cut (by decide) rfl rfl (fun _ _ h => by cases h) (px_tabX (by
    intro q hq
    simp only [List.mem_cons, List.not_mem_nil, or_false] at hq
    rcases hq with rfl
    · dsimp only
      exact px_cok (i := 4) (Ct_X4_needNode l sk hlt) ykX4_needNode (by decide) (by decide) rfl rfl (by decide) (by decide +kernel) (pm_WS_mem 901 (by decide +kernel) rfl))) fX4_ok (fun _ _ h => by cases h) (pm_tabC (by
    intro q hq
    simp only [List.mem_cons, List.not_mem_nil, or_false] at hq
    rcases hq with rfl
    · dsimp only
      exact pm_cokV (i := 2) (Ct_X2_fewestBetween l sk) ykX2_fewestBetween (by decide) (by decide) rfl rfl (by decide) (by decide +kernel) (pm_WS_mem 1182 (by decide +kernel) rfl)))
theorem ix_X4_cut {a0 : Nat} {a1 : Int} {a2 : Int} {f : pm_H} {k : pm_P} {PX : pm_PX} (h : pm_W eX4_cut k PX 0 [some (.inr (.inl (some a0))), some (.inl a1), some (.inl a2)] [] f) : pm_exX T_X4_cut [.inr (.inl (some a0)), .inl a1, .inl a2] f k PX := ⟨k, PX, ⟨by simp [pm_put], h⟩, fun _ _ h => h, fun _ _ h => h⟩
