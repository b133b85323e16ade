theorem ykX0_plant : pm_YV yX0_plant cX0_plant 3 (none) := ⟨(pm_WS_mem 320 (by decide +kernel) rfl), (pm_WS_mem 127 (by decide +kernel) rfl), ⟨by decide +kernel, by decide +kernel⟩, (pm_WS_mem 318 (by decide +kernel) rfl), (pm_WS_mem 319 (by decide +kernel) rfl)⟩
def eX0_plant : pm_E := (cX0_plant, fX0, fun _ => none, fun _ => none, fun _ => none, fun _ => none, none)
theorem zX0_plant_B : pm_eB eX0_plant = cX0_plant := rfl
theorem zX0_plant_F : pm_eF eX0_plant = fX0 := rfl
theorem zX0_plant_R : pm_eR eX0_plant = none := rfl
theorem zX0_plant_X (n : Nat) : pm_eX eX0_plant n = none := rfl
def T_X0_plant : pm_T := pm_M eX0_plant 3
theorem Ct_X0_plant (l : Launch) (sk : Nat → Nat) : pm_Ct l sk yX0_plant cX0_plant 3 (none) 1 (T_X0_plant) := pm_met eX0_plant (by decide) rfl rfl (fun _ => rfl) (fun _ => rfl) fX0_ok (fun _ _ h => by cases h) (fun _ _ _ _ h => by cases h)
theorem ykX0_copyFrom : pm_YV yX0_copyFrom cX0_copyFrom 2 (none) := ⟨(pm_WS_mem 494 (by decide +kernel) rfl), (pm_WS_mem 127 (by decide +kernel) rfl), ⟨by decide +kernel, by decide +kernel⟩, (pm_WS_mem 492 (by decide +kernel) rfl), (pm_WS_mem 493 (by decide +kernel) rfl)⟩
def eX0_copyFrom : pm_E := (cX0_copyFrom, fX0, pm_as [(19, 5, none, pm_acp)], fun _ => none, fun _ => none, fun _ => none, none)
theorem zX0_copyFrom_B : pm_eB eX0_copyFrom = cX0_copyFrom := rfl
theorem zX0_copyFrom_F : pm_eF eX0_copyFrom = fX0 := rfl
theorem zX0_copyFrom_R : pm_eR eX0_copyFrom = none := rfl
theorem zX0_copyFrom_X (n : Nat) : pm_eX eX0_copyFrom n = none := rfl
theorem zX0_copyFrom_C19 : pm_eC eX0_copyFrom 19 = some (5, none, pm_acp) := rfl
def T_X0_copyFrom : pm_T := pm_M eX0_copyFrom 2
theorem Ct_X0_copyFrom (l : Launch) (sk : Nat → Nat) : pm_Ct l sk yX0_copyFrom cX0_copyFrom 2 (none) 1 (T_X0_copyFrom) := pm_met eX0_copyFrom (by decide) rfl rfl (fun _ => rfl) (fun _ => rfl) fX0_ok (fun _ _ h => by cases h) (pm_tabC (by
    intro q hq
    simp only [List.mem_cons, List.not_mem_nil, or_false] at hq
    rcases hq with rfl
    · exact pm_cokA (by decide) (pm_WS_mem 495 (by decide +kernel) rfl)))
theorem ykX0_placeOf : pm_YV yX0_placeOf cX0_placeOf 4 (some .int) := ⟨(pm_WS_mem 403 (by decide +kernel) rfl), (pm_WS_mem 127 (by decide +kernel) rfl), ⟨by decide +kernel, by decide +kernel⟩, (pm_WS_mem 402 (by decide +kernel) rfl), (pm_WS_mem 3 (by decide +kernel) rfl)⟩
def eX0_placeOf : pm_E := (cX0_placeOf, fX0, fun _ => none, fun _ => none, fun _ => none, fun _ => none, some .int)
theorem zX0_placeOf_B : pm_eB eX0_placeOf = cX0_placeOf := rfl
theorem zX0_placeOf_F : pm_eF eX0_placeOf = fX0 := rfl
theorem zX0_placeOf_R : pm_eR eX0_placeOf = some .int := rfl
theorem zX0_placeOf_X (n : Nat) : pm_eX eX0_placeOf n = none := rfl
def T_X0_placeOf : pm_T := pm_M eX0_placeOf 4
theorem Ct_X0_placeOf (l : Launch) (sk : Nat → Nat) : pm_Ct l sk yX0_placeOf cX0_placeOf 4 (some .int) 1 (T_X0_placeOf) := pm_met eX0_placeOf (by decide) rfl rfl (fun _ => rfl) (fun _ => rfl) fX0_ok (fun _ _ h => by cases h) (fun _ _ _ _ h => by cases h)
theorem ykX0_beginOf : pm_YV yX0_beginOf cX0_beginOf 3 (some .int) := ⟨(pm_WS_mem 512 (by decide +kernel) rfl), (pm_WS_mem 127 (by decide +kernel) rfl), ⟨by decide +kernel, by decide +kernel⟩, (pm_WS_mem 511 (by decide +kernel) rfl), (pm_WS_mem 8 (by decide +kernel) rfl)⟩
def eX0_beginOf : pm_E := (cX0_beginOf, fX0, fun _ => none, fun _ => none, fun _ => none, fun _ => none, some .int)
theorem zX0_beginOf_B : pm_eB eX0_beginOf = cX0_beginOf := rfl
theorem zX0_beginOf_F : pm_eF eX0_beginOf = fX0 := rfl
theorem zX0_beginOf_R : pm_eR eX0_beginOf = some .int := rfl
theorem zX0_beginOf_X (n : Nat) : pm_eX eX0_beginOf n = none := rfl
def T_X0_beginOf : pm_T := pm_M eX0_beginOf 3
theorem Ct_X0_beginOf (l : Launch) (sk : Nat → Nat) : pm_Ct l sk yX0_beginOf cX0_beginOf 3 (some .int) 1 (T_X0_beginOf) := pm_met eX0_beginOf (by decide) rfl rfl (fun _ => rfl) (fun _ => rfl) fX0_ok (fun _ _ h => by cases h) (fun _ _ _ _ h => by cases h)
theorem ykX0_endOf : pm_YV yX0_endOf cX0_endOf 3 (some .int) := ⟨(pm_WS_mem 516 (by decide +kernel) rfl), (pm_WS_mem 127 (by decide +kernel) rfl), ⟨by decide +kernel, by decide +kernel⟩, (pm_WS_mem 515 (by decide +kernel) rfl), (pm_WS_mem 9 (by decide +kernel) rfl)⟩
def eX0_endOf : pm_E := (cX0_endOf, fX0, fun _ => none, fun _ => none, fun _ => none, fun _ => none, some .int)
theorem zX0_endOf_B : pm_eB eX0_endOf = cX0_endOf := rfl
theorem zX0_endOf_F : pm_eF eX0_endOf = fX0 := rfl
theorem zX0_endOf_R : pm_eR eX0_endOf = some .int := rfl
theorem zX0_endOf_X (n : Nat) : pm_eX eX0_endOf n = none := rfl
def T_X0_endOf : pm_T := pm_M eX0_endOf 3
theorem Ct_X0_endOf (l : Launch) (sk : Nat → Nat) : pm_Ct l sk yX0_endOf cX0_endOf 3 (some .int) 1 (T_X0_endOf) := pm_met eX0_endOf (by decide) rfl rfl (fun _ => rfl) (fun _ => rfl) fX0_ok (fun _ _ h => by cases h) (fun _ _ _ _ h => by cases h)
theorem ykX0_nodesIn : pm_YV yX0_nodesIn cX0_nodesIn 5 (some .int) := ⟨(pm_WS_mem 407 (by decide +kernel) rfl), (pm_WS_mem 127 (by decide +kernel) rfl), ⟨by decide +kernel, by decide +kernel⟩, (pm_WS_mem 406 (by decide +kernel) rfl), (pm_WS_mem 4 (by decide +kernel) rfl)⟩
def eX0_nodesIn : pm_E := (cX0_nodesIn, fX0, fun _ => none, fun _ => none, fun _ => none, fun _ => none, some .int)
theorem zX0_nodesIn_B : pm_eB eX0_nodesIn = cX0_nodesIn := rfl
theorem zX0_nodesIn_F : pm_eF eX0_nodesIn = fX0 := rfl
theorem zX0_nodesIn_R : pm_eR eX0_nodesIn = some .int := rfl
theorem zX0_nodesIn_X (n : Nat) : pm_eX eX0_nodesIn n = none := rfl
def T_X0_nodesIn : pm_T := pm_M eX0_nodesIn 5
theorem Ct_X0_nodesIn (l : Launch) (sk : Nat → Nat) : pm_Ct l sk yX0_nodesIn cX0_nodesIn 5 (some .int) 1 (T_X0_nodesIn) := pm_met eX0_nodesIn (by decide) rfl rfl (fun _ => rfl) (fun _ => rfl) fX0_ok (fun _ _ h => by cases h) (fun _ _ _ _ h => by cases h)
theorem ykX0_partOf : pm_YV yX0_partOf cX0_partOf 3 (some .int) := ⟨(pm_WS_mem 508 (by decide +kernel) rfl), (pm_WS_mem 127 (by decide +kernel) rfl), ⟨by decide +kernel, by decide +kernel⟩, (pm_WS_mem 506 (by decide +kernel) rfl), (pm_WS_mem 507 (by decide +kernel) rfl)⟩
def eX0_partOf : pm_E := (cX0_partOf, fX0, pm_as [(25, 3, some 0, T_X0_placeOf), (29, 2, some 0, T_X0_beginOf), (33, 2, some 0, T_X0_endOf), (36, 3, some 0, T_X0_nodesIn)], fun _ => none, fun _ => none, fun _ => none, some .int)
theorem zX0_partOf_B : pm_eB eX0_partOf = cX0_partOf := rfl
theorem zX0_partOf_F : pm_eF eX0_partOf = fX0 := rfl
theorem zX0_partOf_R : pm_eR eX0_partOf = some .int := rfl
theorem zX0_partOf_X (n : Nat) : pm_eX eX0_partOf n = none := rfl
theorem zX0_partOf_C25 : pm_eC eX0_partOf 25 = some (3, some 0, T_X0_placeOf) := rfl
theorem zX0_partOf_C29 : pm_eC eX0_partOf 29 = some (2, some 0, T_X0_beginOf) := rfl
theorem zX0_partOf_C33 : pm_eC eX0_partOf 33 = some (2, some 0, T_X0_endOf) := rfl
theorem zX0_partOf_C36 : pm_eC eX0_partOf 36 = some (3, some 0, T_X0_nodesIn) := rfl
def T_X0_partOf : pm_T := pm_M eX0_partOf 3
theorem Ct_X0_partOf (l : Launch) (sk : Nat → Nat) : pm_Ct l sk yX0_partOf cX0_partOf 3 (some .int) 2 (T_X0_partOf) := pm_met eX0_partOf (by decide) rfl rfl (fun _ => rfl) (fun _ => rfl) fX0_ok (fun _ _ h => by cases h) (pm_tabC (by
    intro q hq
    simp only [List.mem_cons, List.not_mem_nil, or_false] at hq
    rcases hq with rfl | rfl | rfl | rfl
    · exact pm_cokV (i := 0) (Ct_X0_placeOf l sk) ykX0_placeOf (by decide) (by decide) rfl rfl (by decide) (by decide +kernel) (pm_WS_mem 400 (by decide +kernel) rfl)
    · exact pm_cokV (i := 0) (Ct_X0_beginOf l sk) ykX0_beginOf (by decide) (by decide) rfl rfl (by decide) (by decide +kernel) (pm_WS_mem 509 (by decide +kernel) rfl)
    · exact pm_cokV (i := 0) (Ct_X0_endOf l sk) ykX0_endOf (by decide) (by decide) rfl rfl (by decide) (by decide +kernel) (pm_WS_mem 513 (by decide +kernel) rfl)
    · exact pm_cokV (i := 0) (Ct_X0_nodesIn l sk) ykX0_nodesIn (by decide) (by decide) rfl rfl (by decide) (by decide +kernel) (pm_WS_mem 404 (by decide +kernel) rfl)))
theorem ykX0_trees : pm_YV yX0_trees cX0_trees 3 (some .int) := ⟨(pm_WS_mem 650 (by decide +kernel) rfl), (pm_WS_mem 127 (by decide +kernel) rfl), ⟨by decide +kernel, by decide +kernel⟩, (pm_WS_mem 648 (by decide +kernel) rfl), (pm_WS_mem 649 (by decide +kernel) rfl)⟩
def eX0_trees : pm_E := (cX0_trees, fX0, fun _ => none, fun _ => none, fun _ => none, fun _ => none, some .int)
theorem zX0_trees_B : pm_eB eX0_trees = cX0_trees := rfl
theorem zX0_trees_F : pm_eF eX0_trees = fX0 := rfl
theorem zX0_trees_R : pm_eR eX0_trees = some .int := rfl
theorem zX0_trees_X (n : Nat) : pm_eX eX0_trees n = none := rfl
def T_X0_trees : pm_T := pm_M eX0_trees 3
theorem Ct_X0_trees (l : Launch) (sk : Nat → Nat) : pm_Ct l sk yX0_trees cX0_trees 3 (some .int) 1 (T_X0_trees) := pm_met eX0_trees (by decide) rfl rfl (fun _ => rfl) (fun _ => rfl) fX0_ok (fun _ _ h => by cases h) (fun _ _ _ _ h => by cases h)
theorem ykX0_greatest : pm_YV yX0_greatest cX0_greatest 4 (some .int) := ⟨(pm_WS_mem 1000 (by decide +kernel) rfl), (pm_WS_mem 127 (by decide +kernel) rfl), ⟨by decide +kernel, by decide +kernel⟩, (pm_WS_mem 998 (by decide +kernel) rfl), (pm_WS_mem 999 (by decide +kernel) rfl)⟩
def eX0_greatest : pm_E := (cX0_greatest, fX0, pm_as [(39, 2, none, pm_tmax)], fun _ => none, fun _ => none, fun _ => none, some .int)
theorem zX0_greatest_B : pm_eB eX0_greatest = cX0_greatest := rfl
theorem zX0_greatest_F : pm_eF eX0_greatest = fX0 := rfl
theorem zX0_greatest_R : pm_eR eX0_greatest = some .int := rfl
theorem zX0_greatest_X (n : Nat) : pm_eX eX0_greatest n = none := rfl
theorem zX0_greatest_C39 : pm_eC eX0_greatest 39 = some (2, none, pm_tmax) := rfl
def T_X0_greatest : pm_T := pm_M eX0_greatest 4
theorem Ct_X0_greatest (l : Launch) (sk : Nat → Nat) : pm_Ct l sk yX0_greatest cX0_greatest 4 (some .int) 1 (T_X0_greatest) := pm_met eX0_greatest (by decide) rfl rfl (fun _ => rfl) (fun _ => rfl) fX0_ok (fun _ _ h => by cases h) (pm_tabC (by
    intro q hq
    simp only [List.mem_cons, List.not_mem_nil, or_false] at hq
    rcases hq with rfl
    · exact pm_cokX (by decide) (pm_WS_mem 1001 (by decide +kernel) rfl)))
theorem ykX0_itemOf : pm_YV yX0_itemOf cX0_itemOf 7 (some .int) := ⟨(pm_WS_mem 1013 (by decide +kernel) rfl), (pm_WS_mem 127 (by decide +kernel) rfl), ⟨by decide +kernel, by decide +kernel⟩, (pm_WS_mem 1011 (by decide +kernel) rfl), (pm_WS_mem 1012 (by decide +kernel) rfl)⟩
def eX0_itemOf : pm_E := (cX0_itemOf, fX0, pm_as [(25, 3, some 0, T_X0_placeOf), (29, 2, some 0, T_X0_beginOf), (33, 2, some 0, T_X0_endOf)], fun _ => none, fun _ => none, fun _ => none, some .int)
theorem zX0_itemOf_B : pm_eB eX0_itemOf = cX0_itemOf := rfl
theorem zX0_itemOf_F : pm_eF eX0_itemOf = fX0 := rfl
theorem zX0_itemOf_R : pm_eR eX0_itemOf = some .int := rfl
theorem zX0_itemOf_X (n : Nat) : pm_eX eX0_itemOf n = none := rfl
theorem zX0_itemOf_C25 : pm_eC eX0_itemOf 25 = some (3, some 0, T_X0_placeOf) := rfl
theorem zX0_itemOf_C29 : pm_eC eX0_itemOf 29 = some (2, some 0, T_X0_beginOf) := rfl
theorem zX0_itemOf_C33 : pm_eC eX0_itemOf 33 = some (2, some 0, T_X0_endOf) := rfl
def T_X0_itemOf : pm_T := pm_M eX0_itemOf 7
theorem Ct_X0_itemOf (l : Launch) (sk : Nat → Nat) : pm_Ct l sk yX0_itemOf cX0_itemOf 7 (some .int) 2 (T_X0_itemOf) := pm_met eX0_itemOf (by decide) rfl rfl (fun _ => rfl) (fun _ => rfl) fX0_ok (fun _ _ h => by cases h) (pm_tabC (by
    intro q hq
    simp only [List.mem_cons, List.not_mem_nil, or_false] at hq
    rcases hq with rfl | rfl | rfl
    · exact pm_cokV (i := 0) (Ct_X0_placeOf l sk) ykX0_placeOf (by decide) (by decide) rfl rfl (by decide) (by decide +kernel) (pm_WS_mem 400 (by decide +kernel) rfl)
    · exact pm_cokV (i := 0) (Ct_X0_beginOf l sk) ykX0_beginOf (by decide) (by decide) rfl rfl (by decide) (by decide +kernel) (pm_WS_mem 509 (by decide +kernel) rfl)
    · exact pm_cokV (i := 0) (Ct_X0_endOf l sk) ykX0_endOf (by decide) (by decide) rfl rfl (by decide) (by decide +kernel) (pm_WS_mem 513 (by decide +kernel) rfl)))
theorem ykX0_openAt : pm_YV yX0_openAt cX0_openAt 5 (some .long) := ⟨(pm_WS_mem 1028 (by decide +kernel) rfl), (pm_WS_mem 127 (by decide +kernel) rfl), ⟨by decide +kernel, by decide +kernel⟩, (pm_WS_mem 1027 (by decide +kernel) rfl), (pm_WS_mem 42 (by decide +kernel) rfl)⟩
def eX0_openAt : pm_E := (cX0_openAt, fX0, fun _ => none, fun _ => none, fun _ => none, fun _ => none, some .long)
theorem zX0_openAt_B : pm_eB eX0_openAt = cX0_openAt := rfl
theorem zX0_openAt_F : pm_eF eX0_openAt = fX0 := rfl
theorem zX0_openAt_R : pm_eR eX0_openAt = some .long := rfl
theorem zX0_openAt_X (n : Nat) : pm_eX eX0_openAt n = none := rfl
def T_X0_openAt : pm_T := pm_M eX0_openAt 5
theorem Ct_X0_openAt (l : Launch) (sk : Nat → Nat) : pm_Ct l sk yX0_openAt cX0_openAt 5 (some .long) 1 (T_X0_openAt) := pm_met eX0_openAt (by decide) rfl rfl (fun _ => rfl) (fun _ => rfl) fX0_ok (fun _ _ h => by cases h) (fun _ _ _ _ h => by cases h)
theorem ykJ13_bitCount_95d88 : pm_YS yJ13_bitCount_95d88 cJ13_bitCount_95d88 2 (some .int) := ⟨(pm_WS_mem 1031 (by decide +kernel) rfl), (pm_WS_mem 146 (by decide +kernel) rfl), ⟨by decide +kernel, by decide +kernel⟩, (pm_WS_mem 1030 (by decide +kernel) rfl)⟩
def eJ13_bitCount_95d88 : pm_E := (cJ13_bitCount_95d88, f0, fun _ => none, pm_as [(314, .inr (.inr (6148914691236517205))), (316, .inr (.inr (3689348814741910323))), (318, .inr (.inr (1085102592571150095)))], fun _ => none, fun _ => none, some .int)
theorem zJ13_bitCount_95d88_B : pm_eB eJ13_bitCount_95d88 = cJ13_bitCount_95d88 := rfl
theorem zJ13_bitCount_95d88_F : pm_eF eJ13_bitCount_95d88 = f0 := rfl
theorem zJ13_bitCount_95d88_R : pm_eR eJ13_bitCount_95d88 = some .int := rfl
theorem zJ13_bitCount_95d88_X (n : Nat) : pm_eX eJ13_bitCount_95d88 n = none := rfl
theorem zJ13_bitCount_95d88_K314 : pm_eK eJ13_bitCount_95d88 314 = some (.inr (.inr (6148914691236517205))) := rfl
theorem zJ13_bitCount_95d88_K316 : pm_eK eJ13_bitCount_95d88 316 = some (.inr (.inr (3689348814741910323))) := rfl
theorem zJ13_bitCount_95d88_K318 : pm_eK eJ13_bitCount_95d88 318 = some (.inr (.inr (1085102592571150095))) := rfl
def T_J13_bitCount_95d88 : pm_T := pm_M eJ13_bitCount_95d88 2
theorem Ct_J13_bitCount_95d88 (l : Launch) (sk : Nat → Nat) : pm_Ct l sk yJ13_bitCount_95d88 cJ13_bitCount_95d88 2 (some .int) 1 (T_J13_bitCount_95d88) := pm_met eJ13_bitCount_95d88 (by decide) rfl rfl (fun _ => rfl) (fun _ => rfl) f0_ok (pm_tabK (by
    intro q hq
    simp only [List.mem_cons, List.not_mem_nil, or_false] at hq
    rcases hq with rfl | rfl | rfl
    · exact Or.inr (Or.inr ⟨6148914691236517205, rfl, (pm_WS_mem 1032 (by decide +kernel) rfl)⟩)
    · exact Or.inr (Or.inr ⟨3689348814741910323, rfl, (pm_WS_mem 1033 (by decide +kernel) rfl)⟩)
    · exact Or.inr (Or.inr ⟨1085102592571150095, rfl, (pm_WS_mem 1034 (by decide +kernel) rfl)⟩))) (fun _ _ _ _ h => by cases h)
theorem ykX0_depthOf : pm_YV yX0_depthOf cX0_depthOf 3 (some .int) := ⟨(pm_WS_mem 1024 (by decide +kernel) rfl), (pm_WS_mem 127 (by decide +kernel) rfl), ⟨by decide +kernel, by decide +kernel⟩, (pm_WS_mem 1022 (by decide +kernel) rfl), (pm_WS_mem 1023 (by decide +kernel) rfl)⟩
def eX0_depthOf : pm_E := (cX0_depthOf, fX0, pm_as [(25, 3, some 0, T_X0_placeOf), (44, 2, some 0, T_X0_openAt), (48, 1, none, T_J13_bitCount_95d88)], fun _ => none, fun _ => none, fun _ => none, some .int)
theorem zX0_depthOf_B : pm_eB eX0_depthOf = cX0_depthOf := rfl
theorem zX0_depthOf_F : pm_eF eX0_depthOf = fX0 := rfl
theorem zX0_depthOf_R : pm_eR eX0_depthOf = some .int := rfl
theorem zX0_depthOf_X (n : Nat) : pm_eX eX0_depthOf n = none := rfl
theorem zX0_depthOf_C25 : pm_eC eX0_depthOf 25 = some (3, some 0, T_X0_placeOf) := rfl
theorem zX0_depthOf_C44 : pm_eC eX0_depthOf 44 = some (2, some 0, T_X0_openAt) := rfl
theorem zX0_depthOf_C48 : pm_eC eX0_depthOf 48 = some (1, none, T_J13_bitCount_95d88) := rfl
def T_X0_depthOf : pm_T := pm_M eX0_depthOf 3
theorem Ct_X0_depthOf (l : Launch) (sk : Nat → Nat) : pm_Ct l sk yX0_depthOf cX0_depthOf 3 (some .int) 2 (T_X0_depthOf) := pm_met eX0_depthOf (by decide) rfl rfl (fun _ => rfl) (fun _ => rfl) fX0_ok (fun _ _ h => by cases h) (pm_tabC (by
    intro q hq
    simp only [List.mem_cons, List.not_mem_nil, or_false] at hq
    rcases hq with rfl | rfl | rfl
    · exact pm_cokV (i := 0) (Ct_X0_placeOf l sk) ykX0_placeOf (by decide) (by decide) rfl rfl (by decide) (by decide +kernel) (pm_WS_mem 400 (by decide +kernel) rfl)
    · exact pm_cokV (i := 0) (Ct_X0_openAt l sk) ykX0_openAt (by decide) (by decide) rfl rfl (by decide) (by decide +kernel) (pm_WS_mem 1025 (by decide +kernel) rfl)
    · exact pm_cokS (Ct_J13_bitCount_95d88 l sk) ykJ13_bitCount_95d88 (by decide) (by decide) (by decide +kernel) (Or.inl (pm_WS_mem 1029 (by decide +kernel) rfl))))
theorem ykX0_innermostOf : pm_YV yX0_innermostOf cX0_innermostOf 6 (some .int) := ⟨(pm_WS_mem 1105 (by decide +kernel) rfl), (pm_WS_mem 127 (by decide +kernel) rfl), ⟨by decide +kernel, by decide +kernel⟩, (pm_WS_mem 1103 (by decide +kernel) rfl), (pm_WS_mem 1104 (by decide +kernel) rfl)⟩
def eX0_innermostOf : pm_E := (cX0_innermostOf, fX0, pm_as [(25, 3, some 0, T_X0_placeOf), (44, 2, some 0, T_X0_openAt)], fun _ => none, fun _ => none, fun _ => none, some .int)
theorem zX0_innermostOf_B : pm_eB eX0_innermostOf = cX0_innermostOf := rfl
theorem zX0_innermostOf_F : pm_eF eX0_innermostOf = fX0 := rfl
theorem zX0_innermostOf_R : pm_eR eX0_innermostOf = some .int := rfl
theorem zX0_innermostOf_X (n : Nat) : pm_eX eX0_innermostOf n = none := rfl
theorem zX0_innermostOf_C25 : pm_eC eX0_innermostOf 25 = some (3, some 0, T_X0_placeOf) := rfl
theorem zX0_innermostOf_C44 : pm_eC eX0_innermostOf 44 = some (2, some 0, T_X0_openAt) := rfl
def T_X0_innermostOf : pm_T := pm_M eX0_innermostOf 6
theorem Ct_X0_innermostOf (l : Launch) (sk : Nat → Nat) : pm_Ct l sk yX0_innermostOf cX0_innermostOf 6 (some .int) 2 (T_X0_innermostOf) := pm_met eX0_innermostOf (by decide) rfl rfl (fun _ => rfl) (fun _ => rfl) fX0_ok (fun _ _ h => by cases h) (pm_tabC (by
    intro q hq
    simp only [List.mem_cons, List.not_mem_nil, or_false] at hq
    rcases hq with rfl | rfl
    · exact pm_cokV (i := 0) (Ct_X0_placeOf l sk) ykX0_placeOf (by decide) (by decide) rfl rfl (by decide) (by decide +kernel) (pm_WS_mem 400 (by decide +kernel) rfl)
    · exact pm_cokV (i := 0) (Ct_X0_openAt l sk) ykX0_openAt (by decide) (by decide) rfl rfl (by decide) (by decide +kernel) (pm_WS_mem 1025 (by decide +kernel) rfl)))
theorem ykX0_insideOf : pm_YV yX0_insideOf cX0_insideOf 4 (some .int) := ⟨(pm_WS_mem 399 (by decide +kernel) rfl), (pm_WS_mem 127 (by decide +kernel) rfl), ⟨by decide +kernel, by decide +kernel⟩, (pm_WS_mem 397 (by decide +kernel) rfl), (pm_WS_mem 398 (by decide +kernel) rfl)⟩
def eX0_insideOf : pm_E := (cX0_insideOf, fX0, pm_as [(25, 3, some 0, T_X0_placeOf), (36, 3, some 0, T_X0_nodesIn)], fun _ => none, fun _ => none, fun _ => none, some .int)
theorem zX0_insideOf_B : pm_eB eX0_insideOf = cX0_insideOf := rfl
theorem zX0_insideOf_F : pm_eF eX0_insideOf = fX0 := rfl
theorem zX0_insideOf_R : pm_eR eX0_insideOf = some .int := rfl
theorem zX0_insideOf_X (n : Nat) : pm_eX eX0_insideOf n = none := rfl
theorem zX0_insideOf_C25 : pm_eC eX0_insideOf 25 = some (3, some 0, T_X0_placeOf) := rfl
theorem zX0_insideOf_C36 : pm_eC eX0_insideOf 36 = some (3, some 0, T_X0_nodesIn) := rfl
def T_X0_insideOf : pm_T := pm_M eX0_insideOf 4
theorem Ct_X0_insideOf (l : Launch) (sk : Nat → Nat) : pm_Ct l sk yX0_insideOf cX0_insideOf 4 (some .int) 2 (T_X0_insideOf) := pm_met eX0_insideOf (by decide) rfl rfl (fun _ => rfl) (fun _ => rfl) fX0_ok (fun _ _ h => by cases h) (pm_tabC (by
    intro q hq
    simp only [List.mem_cons, List.not_mem_nil, or_false] at hq
    rcases hq with rfl | rfl
    · exact pm_cokV (i := 0) (Ct_X0_placeOf l sk) ykX0_placeOf (by decide) (by decide) rfl rfl (by decide) (by decide +kernel) (pm_WS_mem 400 (by decide +kernel) rfl)
    · exact pm_cokV (i := 0) (Ct_X0_nodesIn l sk) ykX0_nodesIn (by decide) (by decide) rfl rfl (by decide) (by decide +kernel) (pm_WS_mem 404 (by decide +kernel) rfl)))
theorem ykX0_belowOf : pm_YV yX0_belowOf cX0_belowOf 3 (some .int) := ⟨(pm_WS_mem 1109 (by decide +kernel) rfl), (pm_WS_mem 127 (by decide +kernel) rfl), ⟨by decide +kernel, by decide +kernel⟩, (pm_WS_mem 1107 (by decide +kernel) rfl), (pm_WS_mem 1108 (by decide +kernel) rfl)⟩
def eX0_belowOf : pm_E := (cX0_belowOf, fX0, pm_as [(54, 2, some 0, T_X0_innermostOf), (57, 2, some 0, T_X0_partOf), (60, 2, some 0, T_X0_insideOf)], fun _ => none, fun _ => none, fun _ => none, some .int)
theorem zX0_belowOf_B : pm_eB eX0_belowOf = cX0_belowOf := rfl
theorem zX0_belowOf_F : pm_eF eX0_belowOf = fX0 := rfl
theorem zX0_belowOf_R : pm_eR eX0_belowOf = some .int := rfl
theorem zX0_belowOf_X (n : Nat) : pm_eX eX0_belowOf n = none := rfl
theorem zX0_belowOf_C54 : pm_eC eX0_belowOf 54 = some (2, some 0, T_X0_innermostOf) := rfl
theorem zX0_belowOf_C57 : pm_eC eX0_belowOf 57 = some (2, some 0, T_X0_partOf) := rfl
theorem zX0_belowOf_C60 : pm_eC eX0_belowOf 60 = some (2, some 0, T_X0_insideOf) := rfl
def T_X0_belowOf : pm_T := pm_M eX0_belowOf 3
theorem Ct_X0_belowOf (l : Launch) (sk : Nat → Nat) : pm_Ct l sk yX0_belowOf cX0_belowOf 3 (some .int) 3 (T_X0_belowOf) := pm_met eX0_belowOf (by decide) rfl rfl (fun _ => rfl) (fun _ => rfl) fX0_ok (fun _ _ h => by cases h) (pm_tabC (by
    intro q hq
    simp only [List.mem_cons, List.not_mem_nil, or_false] at hq
    rcases hq with rfl | rfl | rfl
    · exact pm_cokV (i := 0) (Ct_X0_innermostOf l sk) ykX0_innermostOf (by decide) (by decide) rfl rfl (by decide) (by decide +kernel) (pm_WS_mem 1110 (by decide +kernel) rfl)
    · exact pm_cokV (i := 0) (Ct_X0_partOf l sk) ykX0_partOf (by decide) (by decide) rfl rfl (by decide) (by decide +kernel) (pm_WS_mem 1111 (by decide +kernel) rfl)
    · exact pm_cokV (i := 0) (Ct_X0_insideOf l sk) ykX0_insideOf (by decide) (by decide) rfl rfl (by decide) (by decide +kernel) (pm_WS_mem 1112 (by decide +kernel) rfl)))
theorem ykX0_copyTo : pm_YV yX0_copyTo cX0_copyTo 7 (some .int) := ⟨(pm_WS_mem 545 (by decide +kernel) rfl), (pm_WS_mem 127 (by decide +kernel) rfl), ⟨by decide +kernel, by decide +kernel⟩, (pm_WS_mem 544 (by decide +kernel) rfl), (pm_WS_mem 13 (by decide +kernel) rfl)⟩
def eX0_copyTo : pm_E := (cX0_copyTo, fX0, fun _ => none, fun _ => none, fun _ => none, fun _ => none, some .int)
theorem zX0_copyTo_B : pm_eB eX0_copyTo = cX0_copyTo := rfl
theorem zX0_copyTo_F : pm_eF eX0_copyTo = fX0 := rfl
theorem zX0_copyTo_R : pm_eR eX0_copyTo = some .int := rfl
theorem zX0_copyTo_X (n : Nat) : pm_eX eX0_copyTo n = none := rfl
def T_X0_copyTo : pm_T := pm_M eX0_copyTo 7
theorem Ct_X0_copyTo (l : Launch) (sk : Nat → Nat) : pm_Ct l sk yX0_copyTo cX0_copyTo 7 (some .int) 1 (T_X0_copyTo) := pm_met eX0_copyTo (by decide) rfl rfl (fun _ => rfl) (fun _ => rfl) fX0_ok (fun _ _ h => by cases h) (fun _ _ _ _ h => by cases h)
theorem ykX0_putTo : pm_YV yX0_putTo cX0_putTo 4 (some .int) := ⟨(pm_WS_mem 549 (by decide +kernel) rfl), (pm_WS_mem 127 (by decide +kernel) rfl), ⟨by decide +kernel, by decide +kernel⟩, (pm_WS_mem 548 (by decide +kernel) rfl), (pm_WS_mem 14 (by decide +kernel) rfl)⟩
def eX0_putTo : pm_E := (cX0_putTo, fX0, fun _ => none, fun _ => none, fun _ => none, fun _ => none, some .int)
theorem zX0_putTo_B : pm_eB eX0_putTo = cX0_putTo := rfl
theorem zX0_putTo_F : pm_eF eX0_putTo = fX0 := rfl
theorem zX0_putTo_R : pm_eR eX0_putTo = some .int := rfl
theorem zX0_putTo_X (n : Nat) : pm_eX eX0_putTo n = none := rfl
def T_X0_putTo : pm_T := pm_M eX0_putTo 4
theorem Ct_X0_putTo (l : Launch) (sk : Nat → Nat) : pm_Ct l sk yX0_putTo cX0_putTo 4 (some .int) 1 (T_X0_putTo) := pm_met eX0_putTo (by decide) rfl rfl (fun _ => rfl) (fun _ => rfl) fX0_ok (fun _ _ h => by cases h) (fun _ _ _ _ h => by cases h)
theorem ykX0_takeFrom : pm_YV yX0_takeFrom cX0_takeFrom 4 (none) := ⟨(pm_WS_mem 553 (by decide +kernel) rfl), (pm_WS_mem 127 (by decide +kernel) rfl), ⟨by decide +kernel, by decide +kernel⟩, (pm_WS_mem 552 (by decide +kernel) rfl), (pm_WS_mem 15 (by decide +kernel) rfl)⟩
def eX0_takeFrom : pm_E := (cX0_takeFrom, fX0, fun _ => none, fun _ => none, fun _ => none, fun _ => none, none)
theorem zX0_takeFrom_B : pm_eB eX0_takeFrom = cX0_takeFrom := rfl
theorem zX0_takeFrom_F : pm_eF eX0_takeFrom = fX0 := rfl
theorem zX0_takeFrom_R : pm_eR eX0_takeFrom = none := rfl
theorem zX0_takeFrom_X (n : Nat) : pm_eX eX0_takeFrom n = none := rfl
def T_X0_takeFrom : pm_T := pm_M eX0_takeFrom 4
theorem Ct_X0_takeFrom (l : Launch) (sk : Nat → Nat) : pm_Ct l sk yX0_takeFrom cX0_takeFrom 4 (none) 1 (T_X0_takeFrom) := pm_met eX0_takeFrom (by decide) rfl rfl (fun _ => rfl) (fun _ => rfl) fX0_ok (fun _ _ h => by cases h) (fun _ _ _ _ h => by cases h)
theorem ykX0_join : pm_YV yX0_join cX0_join 13 (none) := ⟨(pm_WS_mem 541 (by decide +kernel) rfl), (pm_WS_mem 127 (by decide +kernel) rfl), ⟨by decide +kernel, by decide +kernel⟩, (pm_WS_mem 539 (by decide +kernel) rfl), (pm_WS_mem 540 (by decide +kernel) rfl)⟩
def eX0_join : pm_E := (cX0_join, fX0, pm_as [(25, 3, some 0, T_X0_placeOf), (29, 2, some 0, T_X0_beginOf), (33, 2, some 0, T_X0_endOf), (63, 5, some 0, T_X0_copyTo), (67, 4, some 0, T_X0_putTo), (71, 3, some 0, T_X0_takeFrom)], fun _ => none, fun _ => none, fun _ => none, none)
theorem zX0_join_B : pm_eB eX0_join = cX0_join := rfl
theorem zX0_join_F : pm_eF eX0_join = fX0 := rfl
theorem zX0_join_R : pm_eR eX0_join = none := rfl
theorem zX0_join_X (n : Nat) : pm_eX eX0_join n = none := rfl
theorem zX0_join_C25 : pm_eC eX0_join 25 = some (3, some 0, T_X0_placeOf) := rfl
theorem zX0_join_C29 : pm_eC eX0_join 29 = some (2, some 0, T_X0_beginOf) := rfl
theorem zX0_join_C33 : pm_eC eX0_join 33 = some (2, some 0, T_X0_endOf) := rfl
theorem zX0_join_C63 : pm_eC eX0_join 63 = some (5, some 0, T_X0_copyTo) := rfl
theorem zX0_join_C67 : pm_eC eX0_join 67 = some (4, some 0, T_X0_putTo) := rfl
theorem zX0_join_C71 : pm_eC eX0_join 71 = some (3, some 0, T_X0_takeFrom) := rfl
def T_X0_join : pm_T := pm_M eX0_join 13
theorem Ct_X0_join (l : Launch) (sk : Nat → Nat) : pm_Ct l sk yX0_join cX0_join 13 (none) 2 (T_X0_join) := pm_met eX0_join (by decide) rfl rfl (fun _ => rfl) (fun _ => rfl) fX0_ok (fun _ _ h => by cases h) (pm_tabC (by
    intro q hq
    simp only [List.mem_cons, List.not_mem_nil, or_false] at hq
    rcases hq with rfl | rfl | rfl | rfl | rfl | rfl
    · exact pm_cokV (i := 0) (Ct_X0_placeOf l sk) ykX0_placeOf (by decide) (by decide) rfl rfl (by decide) (by decide +kernel) (pm_WS_mem 400 (by decide +kernel) rfl)
    · exact pm_cokV (i := 0) (Ct_X0_beginOf l sk) ykX0_beginOf (by decide) (by decide) rfl rfl (by decide) (by decide +kernel) (pm_WS_mem 509 (by decide +kernel) rfl)
    · exact pm_cokV (i := 0) (Ct_X0_endOf l sk) ykX0_endOf (by decide) (by decide) rfl rfl (by decide) (by decide +kernel) (pm_WS_mem 513 (by decide +kernel) rfl)
    · exact pm_cokV (i := 0) (Ct_X0_copyTo l sk) ykX0_copyTo (by decide) (by decide) rfl rfl (by decide) (by decide +kernel) (pm_WS_mem 542 (by decide +kernel) rfl)
    · exact pm_cokV (i := 0) (Ct_X0_putTo l sk) ykX0_putTo (by decide) (by decide) rfl rfl (by decide) (by decide +kernel) (pm_WS_mem 546 (by decide +kernel) rfl)
    · exact pm_cokV (i := 0) (Ct_X0_takeFrom l sk) ykX0_takeFrom (by decide) (by decide) rfl rfl (by decide) (by decide +kernel) (pm_WS_mem 550 (by decide +kernel) rfl)))
theorem ykX0_split : pm_YV yX0_split cX0_split 8 (none) := ⟨(pm_WS_mem 561 (by decide +kernel) rfl), (pm_WS_mem 127 (by decide +kernel) rfl), ⟨by decide +kernel, by decide +kernel⟩, (pm_WS_mem 559 (by decide +kernel) rfl), (pm_WS_mem 560 (by decide +kernel) rfl)⟩
def eX0_split : pm_E := (cX0_split, fX0, pm_as [(25, 3, some 0, T_X0_placeOf), (29, 2, some 0, T_X0_beginOf), (33, 2, some 0, T_X0_endOf), (63, 5, some 0, T_X0_copyTo), (67, 4, some 0, T_X0_putTo), (71, 3, some 0, T_X0_takeFrom)], fun _ => none, fun _ => none, fun _ => none, none)
theorem zX0_split_B : pm_eB eX0_split = cX0_split := rfl
theorem zX0_split_F : pm_eF eX0_split = fX0 := rfl
theorem zX0_split_R : pm_eR eX0_split = none := rfl
theorem zX0_split_X (n : Nat) : pm_eX eX0_split n = none := rfl
theorem zX0_split_C25 : pm_eC eX0_split 25 = some (3, some 0, T_X0_placeOf) := rfl
theorem zX0_split_C29 : pm_eC eX0_split 29 = some (2, some 0, T_X0_beginOf) := rfl
theorem zX0_split_C33 : pm_eC eX0_split 33 = some (2, some 0, T_X0_endOf) := rfl
theorem zX0_split_C63 : pm_eC eX0_split 63 = some (5, some 0, T_X0_copyTo) := rfl
theorem zX0_split_C67 : pm_eC eX0_split 67 = some (4, some 0, T_X0_putTo) := rfl
theorem zX0_split_C71 : pm_eC eX0_split 71 = some (3, some 0, T_X0_takeFrom) := rfl
def T_X0_split : pm_T := pm_M eX0_split 8
theorem Ct_X0_split (l : Launch) (sk : Nat → Nat) : pm_Ct l sk yX0_split cX0_split 8 (none) 2 (T_X0_split) := pm_met eX0_split (by decide) rfl rfl (fun _ => rfl) (fun _ => rfl) fX0_ok (fun _ _ h => by cases h) (pm_tabC (by
    intro q hq
    simp only [List.mem_cons, List.not_mem_nil, or_false] at hq
    rcases hq with rfl | rfl | rfl | rfl | rfl | rfl
    · exact pm_cokV (i := 0) (Ct_X0_placeOf l sk) ykX0_placeOf (by decide) (by decide) rfl rfl (by decide) (by decide +kernel) (pm_WS_mem 400 (by decide +kernel) rfl)
    · exact pm_cokV (i := 0) (Ct_X0_beginOf l sk) ykX0_beginOf (by decide) (by decide) rfl rfl (by decide) (by decide +kernel) (pm_WS_mem 509 (by decide +kernel) rfl)
    · exact pm_cokV (i := 0) (Ct_X0_endOf l sk) ykX0_endOf (by decide) (by decide) rfl rfl (by decide) (by decide +kernel) (pm_WS_mem 513 (by decide +kernel) rfl)
    · exact pm_cokV (i := 0) (Ct_X0_copyTo l sk) ykX0_copyTo (by decide) (by decide) rfl rfl (by decide) (by decide +kernel) (pm_WS_mem 542 (by decide +kernel) rfl)
    · exact pm_cokV (i := 0) (Ct_X0_putTo l sk) ykX0_putTo (by decide) (by decide) rfl rfl (by decide) (by decide +kernel) (pm_WS_mem 546 (by decide +kernel) rfl)
    · exact pm_cokV (i := 0) (Ct_X0_takeFrom l sk) ykX0_takeFrom (by decide) (by decide) rfl rfl (by decide) (by decide +kernel) (pm_WS_mem 550 (by decide +kernel) rfl)))
theorem ykX1_copyFrom : pm_YV yX1_copyFrom cX1_copyFrom 3 (none) := ⟨(pm_WS_mem 487 (by decide +kernel) rfl), (pm_WS_mem 126 (by decide +kernel) rfl), ⟨by decide +kernel, by decide +kernel⟩, (pm_WS_mem 485 (by decide +kernel) rfl), (pm_WS_mem 486 (by decide +kernel) rfl)⟩
def eX1_copyFrom : pm_E := (cX1_copyFrom, fX1, pm_as [(68, 5, none, pm_acp), (74, 2, some 0, T_X0_copyFrom)], fun _ => none, fun _ => none, fun _ => none, none)
theorem zX1_copyFrom_B : pm_eB eX1_copyFrom = cX1_copyFrom := rfl
theorem zX1_copyFrom_F : pm_eF eX1_copyFrom = fX1 := rfl
theorem zX1_copyFrom_R : pm_eR eX1_copyFrom = none := rfl
theorem zX1_copyFrom_X (n : Nat) : pm_eX eX1_copyFrom n = none := rfl
theorem zX1_copyFrom_C68 : pm_eC eX1_copyFrom 68 = some (5, none, pm_acp) := rfl
theorem zX1_copyFrom_C74 : pm_eC eX1_copyFrom 74 = some (2, some 0, T_X0_copyFrom) := rfl
def T_X1_copyFrom : pm_T := pm_M eX1_copyFrom 3
theorem Ct_X1_copyFrom (l : Launch) (sk : Nat → Nat) : pm_Ct l sk yX1_copyFrom cX1_copyFrom 3 (none) 2 (T_X1_copyFrom) := pm_met eX1_copyFrom (by decide) rfl rfl (fun _ => rfl) (fun _ => rfl) fX1_ok (fun _ _ h => by cases h) (pm_tabC (by
    intro q hq
    simp only [List.mem_cons, List.not_mem_nil, or_false] at hq
    rcases hq with rfl | rfl
    · exact pm_cokA (by decide) (pm_WS_mem 488 (by decide +kernel) rfl)
    · exact pm_cokV (i := 0) (Ct_X0_copyFrom l sk) ykX0_copyFrom (by decide) (by decide) rfl rfl (by decide) (by decide +kernel) (pm_WS_mem 491 (by decide +kernel) rfl)))
theorem ykX1_plantAll : pm_YV yX1_plantAll cX1_plantAll 2 (none) := ⟨(pm_WS_mem 316 (by decide +kernel) rfl), (pm_WS_mem 126 (by decide +kernel) rfl), ⟨by decide +kernel, by decide +kernel⟩, (pm_WS_mem 315 (by decide +kernel) rfl), (pm_WS_mem 0 (by decide +kernel) rfl)⟩
def eX1_plantAll : pm_E := (cX1_plantAll, fX1, pm_as [(157, 2, some 0, T_X0_plant)], fun _ => none, fun _ => none, fun _ => none, none)
theorem zX1_plantAll_B : pm_eB eX1_plantAll = cX1_plantAll := rfl
theorem zX1_plantAll_F : pm_eF eX1_plantAll = fX1 := rfl
theorem zX1_plantAll_R : pm_eR eX1_plantAll = none := rfl
theorem zX1_plantAll_X (n : Nat) : pm_eX eX1_plantAll n = none := rfl
theorem zX1_plantAll_C157 : pm_eC eX1_plantAll 157 = some (2, some 0, T_X0_plant) := rfl
def T_X1_plantAll : pm_T := pm_M eX1_plantAll 2
theorem Ct_X1_plantAll (l : Launch) (sk : Nat → Nat) : pm_Ct l sk yX1_plantAll cX1_plantAll 2 (none) 2 (T_X1_plantAll) := pm_met eX1_plantAll (by decide) rfl rfl (fun _ => rfl) (fun _ => rfl) fX1_ok (fun _ _ h => by cases h) (pm_tabC (by
    intro q hq
    simp only [List.mem_cons, List.not_mem_nil, or_false] at hq
    rcases hq with rfl
    · exact pm_cokV (i := 0) (Ct_X0_plant l sk) ykX0_plant (by decide) (by decide) rfl rfl (by decide) (by decide +kernel) (pm_WS_mem 317 (by decide +kernel) rfl)))
theorem ykX1_start : pm_YV yX1_start cX1_start 3 (some .int) := ⟨(pm_WS_mem 312 (by decide +kernel) rfl), (pm_WS_mem 126 (by decide +kernel) rfl), ⟨by decide +kernel, by decide +kernel⟩, (pm_WS_mem 310 (by decide +kernel) rfl), (pm_WS_mem 311 (by decide +kernel) rfl)⟩
def eX1_start : pm_E := (cX1_start, fX1, pm_as [(78, 1, some 1, T_X1_plantAll)], fun _ => none, fun _ => none, fun _ => none, some .int)
theorem zX1_start_B : pm_eB eX1_start = cX1_start := rfl
theorem zX1_start_F : pm_eF eX1_start = fX1 := rfl
theorem zX1_start_R : pm_eR eX1_start = some .int := rfl
theorem zX1_start_X (n : Nat) : pm_eX eX1_start n = none := rfl
theorem zX1_start_C78 : pm_eC eX1_start 78 = some (1, some 1, T_X1_plantAll) := rfl
def T_X1_start : pm_T := pm_M eX1_start 3
theorem Ct_X1_start (l : Launch) (sk : Nat → Nat) : pm_Ct l sk yX1_start cX1_start 3 (some .int) 3 (T_X1_start) := pm_met eX1_start (by decide) rfl rfl (fun _ => rfl) (fun _ => rfl) fX1_ok (fun _ _ h => by cases h) (pm_tabC (by
    intro q hq
    simp only [List.mem_cons, List.not_mem_nil, or_false] at hq
    rcases hq with rfl
    · exact pm_cokV (i := 1) (Ct_X1_plantAll l sk) ykX1_plantAll (by decide) (by decide) rfl rfl (by decide) (by decide +kernel) (pm_WS_mem 313 (by decide +kernel) rfl)))
theorem ykX1_isNode : pm_YV yX1_isNode cX1_isNode 2 (some .boolean) := ⟨(pm_WS_mem 387 (by decide +kernel) rfl), (pm_WS_mem 126 (by decide +kernel) rfl), ⟨by decide +kernel, by decide +kernel⟩, (pm_WS_mem 385 (by decide +kernel) rfl), (pm_WS_mem 386 (by decide +kernel) rfl)⟩
def eX1_isNode : pm_E := (cX1_isNode, fX1, fun _ => none, fun _ => none, fun _ => none, fun _ => none, some .boolean)
theorem zX1_isNode_B : pm_eB eX1_isNode = cX1_isNode := rfl
theorem zX1_isNode_F : pm_eF eX1_isNode = fX1 := rfl
theorem zX1_isNode_R : pm_eR eX1_isNode = some .boolean := rfl
theorem zX1_isNode_X (n : Nat) : pm_eX eX1_isNode n = none := rfl
def T_X1_isNode : pm_T := pm_M eX1_isNode 2
theorem Ct_X1_isNode (l : Launch) (sk : Nat → Nat) : pm_Ct l sk yX1_isNode cX1_isNode 2 (some .boolean) 1 (T_X1_isNode) := pm_met eX1_isNode (by decide) rfl rfl (fun _ => rfl) (fun _ => rfl) fX1_ok (fun _ _ h => by cases h) (fun _ _ _ _ h => by cases h)
theorem ykX1_isThere : pm_YV yX1_isThere cX1_isThere 2 (some .boolean) := ⟨(pm_WS_mem 391 (by decide +kernel) rfl), (pm_WS_mem 126 (by decide +kernel) rfl), ⟨by decide +kernel, by decide +kernel⟩, (pm_WS_mem 389 (by decide +kernel) rfl), (pm_WS_mem 390 (by decide +kernel) rfl)⟩
def eX1_isThere : pm_E := (cX1_isThere, fX1, fun _ => none, fun _ => none, fun _ => none, fun _ => none, some .boolean)
theorem zX1_isThere_B : pm_eB eX1_isThere = cX1_isThere := rfl
theorem zX1_isThere_F : pm_eF eX1_isThere = fX1 := rfl
theorem zX1_isThere_R : pm_eR eX1_isThere = some .boolean := rfl
theorem zX1_isThere_X (n : Nat) : pm_eX eX1_isThere n = none := rfl
def T_X1_isThere : pm_T := pm_M eX1_isThere 2
theorem Ct_X1_isThere (l : Launch) (sk : Nat → Nat) : pm_Ct l sk yX1_isThere cX1_isThere 2 (some .boolean) 1 (T_X1_isThere) := pm_met eX1_isThere (by decide) rfl rfl (fun _ => rfl) (fun _ => rfl) fX1_ok (fun _ _ h => by cases h) (fun _ _ _ _ h => by cases h)
theorem ykX1_touches : pm_YV yX1_touches cX1_touches 3 (some .boolean) := ⟨(pm_WS_mem 601 (by decide +kernel) rfl), (pm_WS_mem 126 (by decide +kernel) rfl), ⟨by decide +kernel, by decide +kernel⟩, (pm_WS_mem 599 (by decide +kernel) rfl), (pm_WS_mem 600 (by decide +kernel) rfl)⟩
def eX1_touches : pm_E := (cX1_touches, fX1, fun _ => none, fun _ => none, fun _ => none, fun _ => none, some .boolean)
theorem zX1_touches_B : pm_eB eX1_touches = cX1_touches := rfl
theorem zX1_touches_F : pm_eF eX1_touches = fX1 := rfl
theorem zX1_touches_R : pm_eR eX1_touches = some .boolean := rfl
theorem zX1_touches_X (n : Nat) : pm_eX eX1_touches n = none := rfl
def T_X1_touches : pm_T := pm_M eX1_touches 3
theorem Ct_X1_touches (l : Launch) (sk : Nat → Nat) : pm_Ct l sk yX1_touches cX1_touches 3 (some .boolean) 1 (T_X1_touches) := pm_met eX1_touches (by decide) rfl rfl (fun _ => rfl) (fun _ => rfl) fX1_ok (fun _ _ h => by cases h) (fun _ _ _ _ h => by cases h)
theorem ykX4_holds : pm_YS yX4_holds cX4_holds 2 (some .boolean) := ⟨(pm_WS_mem 410 (by decide +kernel) rfl), (pm_WS_mem 125 (by decide +kernel) rfl), ⟨by decide +kernel, by decide +kernel⟩, (pm_WS_mem 409 (by decide +kernel) rfl)⟩
def eX4_holds : pm_E := (cX4_holds, fX4, fun _ => none, fun _ => none, fun _ => none, fun _ => none, some .boolean)
theorem zX4_holds_B : pm_eB eX4_holds = cX4_holds := rfl
theorem zX4_holds_F : pm_eF eX4_holds = fX4 := rfl
theorem zX4_holds_R : pm_eR eX4_holds = some .boolean := rfl
theorem zX4_holds_X (n : Nat) : pm_eX eX4_holds n = none := rfl
def T_X4_holds : pm_T := pm_M eX4_holds 2
theorem Ct_X4_holds (l : Launch) (sk : Nat → Nat) : pm_Ct l sk yX4_holds cX4_holds 2 (some .boolean) 1 (T_X4_holds) := pm_met eX4_holds (by decide) rfl rfl (fun _ => rfl) (fun _ => rfl) fX4_ok (fun _ _ h => by cases h) (fun _ _ _ _ h => by cases h)
theorem ykX1_canExchange : pm_YV yX1_canExchange cX1_canExchange 4 (some .boolean) := ⟨(pm_WS_mem 395 (by decide +kernel) rfl), (pm_WS_mem 126 (by decide +kernel) rfl), ⟨by decide +kernel, by decide +kernel⟩, (pm_WS_mem 394 (by decide +kernel) rfl), (pm_WS_mem 2 (by decide +kernel) rfl)⟩
def eX1_canExchange : pm_E := (cX1_canExchange, fX1, pm_as [(85, 2, some 1, T_X1_isThere), (137, 2, some 0, T_X0_insideOf), (140, 2, none, T_X4_holds)], fun _ => none, fun _ => none, fun _ => none, some .boolean)
theorem zX1_canExchange_B : pm_eB eX1_canExchange = cX1_canExchange := rfl
theorem zX1_canExchange_F : pm_eF eX1_canExchange = fX1 := rfl
theorem zX1_canExchange_R : pm_eR eX1_canExchange = some .boolean := rfl
theorem zX1_canExchange_X (n : Nat) : pm_eX eX1_canExchange n = none := rfl
theorem zX1_canExchange_C85 : pm_eC eX1_canExchange 85 = some (2, some 1, T_X1_isThere) := rfl
theorem zX1_canExchange_C137 : pm_eC eX1_canExchange 137 = some (2, some 0, T_X0_insideOf) := rfl
theorem zX1_canExchange_C140 : pm_eC eX1_canExchange 140 = some (2, none, T_X4_holds) := rfl
def T_X1_canExchange : pm_T := pm_M eX1_canExchange 4
theorem Ct_X1_canExchange (l : Launch) (sk : Nat → Nat) : pm_Ct l sk yX1_canExchange cX1_canExchange 4 (some .boolean) 3 (T_X1_canExchange) := pm_met eX1_canExchange (by decide) rfl rfl (fun _ => rfl) (fun _ => rfl) fX1_ok (fun _ _ h => by cases h) (pm_tabC (by
    intro q hq
    simp only [List.mem_cons, List.not_mem_nil, or_false] at hq
    rcases hq with rfl | rfl | rfl
    · exact pm_cokV (i := 1) (Ct_X1_isThere l sk) ykX1_isThere (by decide) (by decide) rfl rfl (by decide) (by decide +kernel) (pm_WS_mem 388 (by decide +kernel) rfl)
    · exact pm_cokV (i := 0) (Ct_X0_insideOf l sk) ykX0_insideOf (by decide) (by decide) rfl rfl (by decide) (by decide +kernel) (pm_WS_mem 396 (by decide +kernel) rfl)
    · exact pm_cokS (Ct_X4_holds l sk) ykX4_holds (by decide) (by decide) (by decide +kernel) (Or.inr ⟨"CableForest", pm_NW_mem 408 (by decide +kernel) rfl⟩)))
theorem ykX1_refusal : pm_YV yX1_refusal cX1_refusal 4 (some .int) := ⟨(pm_WS_mem 383 (by decide +kernel) rfl), (pm_WS_mem 126 (by decide +kernel) rfl), ⟨by decide +kernel, by decide +kernel⟩, (pm_WS_mem 381 (by decide +kernel) rfl), (pm_WS_mem 382 (by decide +kernel) rfl)⟩
def eX1_refusal : pm_E := (cX1_refusal, fX1, pm_as [(81, 2, some 1, T_X1_isNode), (85, 2, some 1, T_X1_isThere), (88, 3, some 1, T_X1_canExchange)], fun _ => none, fun _ => none, fun _ => none, some .int)
theorem zX1_refusal_B : pm_eB eX1_refusal = cX1_refusal := rfl
theorem zX1_refusal_F : pm_eF eX1_refusal = fX1 := rfl
theorem zX1_refusal_R : pm_eR eX1_refusal = some .int := rfl
theorem zX1_refusal_X (n : Nat) : pm_eX eX1_refusal n = none := rfl
theorem zX1_refusal_C81 : pm_eC eX1_refusal 81 = some (2, some 1, T_X1_isNode) := rfl
theorem zX1_refusal_C85 : pm_eC eX1_refusal 85 = some (2, some 1, T_X1_isThere) := rfl
theorem zX1_refusal_C88 : pm_eC eX1_refusal 88 = some (3, some 1, T_X1_canExchange) := rfl
def T_X1_refusal : pm_T := pm_M eX1_refusal 4
theorem Ct_X1_refusal (l : Launch) (sk : Nat → Nat) : pm_Ct l sk yX1_refusal cX1_refusal 4 (some .int) 4 (T_X1_refusal) := pm_met eX1_refusal (by decide) rfl rfl (fun _ => rfl) (fun _ => rfl) fX1_ok (fun _ _ h => by cases h) (pm_tabC (by
    intro q hq
    simp only [List.mem_cons, List.not_mem_nil, or_false] at hq
    rcases hq with rfl | rfl | rfl
    · exact pm_cokV (i := 1) (Ct_X1_isNode l sk) ykX1_isNode (by decide) (by decide) rfl rfl (by decide) (by decide +kernel) (pm_WS_mem 384 (by decide +kernel) rfl)
    · exact pm_cokV (i := 1) (Ct_X1_isThere l sk) ykX1_isThere (by decide) (by decide) rfl rfl (by decide) (by decide +kernel) (pm_WS_mem 388 (by decide +kernel) rfl)
    · exact pm_cokV (i := 1) (Ct_X1_canExchange l sk) ykX1_canExchange (by decide) (by decide) rfl rfl (by decide) (by decide +kernel) (pm_WS_mem 392 (by decide +kernel) rfl)))
theorem ykX1_note : pm_YV yX1_note cX1_note 5 (none) := ⟨(pm_WS_mem 520 (by decide +kernel) rfl), (pm_WS_mem 126 (by decide +kernel) rfl), ⟨by decide +kernel, by decide +kernel⟩, (pm_WS_mem 519 (by decide +kernel) rfl), (pm_WS_mem 10 (by decide +kernel) rfl)⟩
def eX1_note : pm_E := (cX1_note, fX1, fun _ => none, fun _ => none, fun _ => none, fun _ => none, none)
theorem zX1_note_B : pm_eB eX1_note = cX1_note := rfl
theorem zX1_note_F : pm_eF eX1_note = fX1 := rfl
theorem zX1_note_R : pm_eR eX1_note = none := rfl
theorem zX1_note_X (n : Nat) : pm_eX eX1_note n = none := rfl
def T_X1_note : pm_T := pm_M eX1_note 5
theorem Ct_X1_note (l : Launch) (sk : Nat → Nat) : pm_Ct l sk yX1_note cX1_note 5 (none) 1 (T_X1_note) := pm_met eX1_note (by decide) rfl rfl (fun _ => rfl) (fun _ => rfl) fX1_ok (fun _ _ h => by cases h) (fun _ _ _ _ h => by cases h)
theorem ykJ6_bitCount_0f7a4 : pm_YS yJ6_bitCount_0f7a4 cJ6_bitCount_0f7a4 1 (some .int) := ⟨(pm_WS_mem 527 (by decide +kernel) rfl), (pm_WS_mem 137 (by decide +kernel) rfl), ⟨by decide +kernel, by decide +kernel⟩, (pm_WS_mem 526 (by decide +kernel) rfl)⟩
def eJ6_bitCount_0f7a4 : pm_E := (cJ6_bitCount_0f7a4, f0, fun _ => none, pm_as [(265, .inl (1431655765)), (266, .inl (858993459)), (267, .inl (252645135))], fun _ => none, fun _ => none, some .int)
theorem zJ6_bitCount_0f7a4_B : pm_eB eJ6_bitCount_0f7a4 = cJ6_bitCount_0f7a4 := rfl
theorem zJ6_bitCount_0f7a4_F : pm_eF eJ6_bitCount_0f7a4 = f0 := rfl
theorem zJ6_bitCount_0f7a4_R : pm_eR eJ6_bitCount_0f7a4 = some .int := rfl
theorem zJ6_bitCount_0f7a4_X (n : Nat) : pm_eX eJ6_bitCount_0f7a4 n = none := rfl
theorem zJ6_bitCount_0f7a4_K265 : pm_eK eJ6_bitCount_0f7a4 265 = some (.inl (1431655765)) := rfl
theorem zJ6_bitCount_0f7a4_K266 : pm_eK eJ6_bitCount_0f7a4 266 = some (.inl (858993459)) := rfl
theorem zJ6_bitCount_0f7a4_K267 : pm_eK eJ6_bitCount_0f7a4 267 = some (.inl (252645135)) := rfl
def T_J6_bitCount_0f7a4 : pm_T := pm_M eJ6_bitCount_0f7a4 1
theorem Ct_J6_bitCount_0f7a4 (l : Launch) (sk : Nat → Nat) : pm_Ct l sk yJ6_bitCount_0f7a4 cJ6_bitCount_0f7a4 1 (some .int) 1 (T_J6_bitCount_0f7a4) := pm_met eJ6_bitCount_0f7a4 (by decide) rfl rfl (fun _ => rfl) (fun _ => rfl) f0_ok (pm_tabK (by
    intro q hq
    simp only [List.mem_cons, List.not_mem_nil, or_false] at hq
    rcases hq with rfl | rfl | rfl
    · exact Or.inr (Or.inl ⟨1431655765, rfl, ⟨by decide, by decide⟩, (pm_WS_mem 528 (by decide +kernel) rfl)⟩)
    · exact Or.inr (Or.inl ⟨858993459, rfl, ⟨by decide, by decide⟩, (pm_WS_mem 529 (by decide +kernel) rfl)⟩)
    · exact Or.inr (Or.inl ⟨252645135, rfl, ⟨by decide, by decide⟩, (pm_WS_mem 530 (by decide +kernel) rfl)⟩))) (fun _ _ _ _ h => by cases h)
theorem ykX1_giveName : pm_YV yX1_giveName cX1_giveName 4 (none) := ⟨(pm_WS_mem 537 (by decide +kernel) rfl), (pm_WS_mem 126 (by decide +kernel) rfl), ⟨by decide +kernel, by decide +kernel⟩, (pm_WS_mem 536 (by decide +kernel) rfl), (pm_WS_mem 12 (by decide +kernel) rfl)⟩
def eX1_giveName : pm_E := (cX1_giveName, fX1, pm_as [(140, 2, none, T_X4_holds)], fun _ => none, fun _ => none, fun _ => none, none)
theorem zX1_giveName_B : pm_eB eX1_giveName = cX1_giveName := rfl
theorem zX1_giveName_F : pm_eF eX1_giveName = fX1 := rfl
theorem zX1_giveName_R : pm_eR eX1_giveName = none := rfl
theorem zX1_giveName_X (n : Nat) : pm_eX eX1_giveName n = none := rfl
theorem zX1_giveName_C140 : pm_eC eX1_giveName 140 = some (2, none, T_X4_holds) := rfl
def T_X1_giveName : pm_T := pm_M eX1_giveName 4
theorem Ct_X1_giveName (l : Launch) (sk : Nat → Nat) : pm_Ct l sk yX1_giveName cX1_giveName 4 (none) 2 (T_X1_giveName) := pm_met eX1_giveName (by decide) rfl rfl (fun _ => rfl) (fun _ => rfl) fX1_ok (fun _ _ h => by cases h) (pm_tabC (by
    intro q hq
    simp only [List.mem_cons, List.not_mem_nil, or_false] at hq
    rcases hq with rfl
    · exact pm_cokS (Ct_X4_holds l sk) ykX4_holds (by decide) (by decide) (by decide +kernel) (Or.inr ⟨"CableForest", pm_NW_mem 408 (by decide +kernel) rfl⟩)))
theorem ykX1_nameTheJoined : pm_YV yX1_nameTheJoined cX1_nameTheJoined 7 (none) := ⟨(pm_WS_mem 524 (by decide +kernel) rfl), (pm_WS_mem 126 (by decide +kernel) rfl), ⟨by decide +kernel, by decide +kernel⟩, (pm_WS_mem 523 (by decide +kernel) rfl), (pm_WS_mem 11 (by decide +kernel) rfl)⟩
def eX1_nameTheJoined : pm_E := (cX1_nameTheJoined, fX1, pm_as [(175, 1, none, T_J6_bitCount_0f7a4), (183, 2, none, pm_tmin), (186, 3, some 1, T_X1_giveName)], fun _ => none, fun _ => none, fun _ => none, none)
theorem zX1_nameTheJoined_B : pm_eB eX1_nameTheJoined = cX1_nameTheJoined := rfl
theorem zX1_nameTheJoined_F : pm_eF eX1_nameTheJoined = fX1 := rfl
theorem zX1_nameTheJoined_R : pm_eR eX1_nameTheJoined = none := rfl
theorem zX1_nameTheJoined_X (n : Nat) : pm_eX eX1_nameTheJoined n = none := rfl
theorem zX1_nameTheJoined_C175 : pm_eC eX1_nameTheJoined 175 = some (1, none, T_J6_bitCount_0f7a4) := rfl
theorem zX1_nameTheJoined_C183 : pm_eC eX1_nameTheJoined 183 = some (2, none, pm_tmin) := rfl
theorem zX1_nameTheJoined_C186 : pm_eC eX1_nameTheJoined 186 = some (3, some 1, T_X1_giveName) := rfl
def T_X1_nameTheJoined : pm_T := pm_M eX1_nameTheJoined 7
theorem Ct_X1_nameTheJoined (l : Launch) (sk : Nat → Nat) : pm_Ct l sk yX1_nameTheJoined cX1_nameTheJoined 7 (none) 3 (T_X1_nameTheJoined) := pm_met eX1_nameTheJoined (by decide) rfl rfl (fun _ => rfl) (fun _ => rfl) fX1_ok (fun _ _ h => by cases h) (pm_tabC (by
    intro q hq
    simp only [List.mem_cons, List.not_mem_nil, or_false] at hq
    rcases hq with rfl | rfl | rfl
    · exact pm_cokS (Ct_J6_bitCount_0f7a4 l sk) ykJ6_bitCount_0f7a4 (by decide) (by decide) (by decide +kernel) (Or.inl (pm_WS_mem 525 (by decide +kernel) rfl))
    · exact pm_cokM (by decide) (pm_WS_mem 531 (by decide +kernel) rfl)
    · exact pm_cokV (i := 1) (Ct_X1_giveName l sk) ykX1_giveName (by decide) (by decide) rfl rfl (by decide) (by decide +kernel) (pm_WS_mem 534 (by decide +kernel) rfl)))
theorem ykX1_addCable : pm_YV yX1_addCable cX1_addCable 5 (some .int) := ⟨(pm_WS_mem 504 (by decide +kernel) rfl), (pm_WS_mem 126 (by decide +kernel) rfl), ⟨by decide +kernel, by decide +kernel⟩, (pm_WS_mem 503 (by decide +kernel) rfl), (pm_WS_mem 7 (by decide +kernel) rfl)⟩
def eX1_addCable : pm_E := (cX1_addCable, fX1, pm_as [(161, 2, some 0, T_X0_partOf), (140, 2, none, T_X4_holds), (116, 4, some 1, T_X1_note), (164, 5, some 1, T_X1_nameTheJoined), (168, 5, some 0, T_X0_join)], fun _ => none, fun _ => none, fun _ => none, some .int)
theorem zX1_addCable_B : pm_eB eX1_addCable = cX1_addCable := rfl
theorem zX1_addCable_F : pm_eF eX1_addCable = fX1 := rfl
theorem zX1_addCable_R : pm_eR eX1_addCable = some .int := rfl
theorem zX1_addCable_X (n : Nat) : pm_eX eX1_addCable n = none := rfl
theorem zX1_addCable_C161 : pm_eC eX1_addCable 161 = some (2, some 0, T_X0_partOf) := rfl
theorem zX1_addCable_C140 : pm_eC eX1_addCable 140 = some (2, none, T_X4_holds) := rfl
theorem zX1_addCable_C116 : pm_eC eX1_addCable 116 = some (4, some 1, T_X1_note) := rfl
theorem zX1_addCable_C164 : pm_eC eX1_addCable 164 = some (5, some 1, T_X1_nameTheJoined) := rfl
theorem zX1_addCable_C168 : pm_eC eX1_addCable 168 = some (5, some 0, T_X0_join) := rfl
def T_X1_addCable : pm_T := pm_M eX1_addCable 5
theorem Ct_X1_addCable (l : Launch) (sk : Nat → Nat) : pm_Ct l sk yX1_addCable cX1_addCable 5 (some .int) 4 (T_X1_addCable) := pm_met eX1_addCable (by decide) rfl rfl (fun _ => rfl) (fun _ => rfl) fX1_ok (fun _ _ h => by cases h) (pm_tabC (by
    intro q hq
    simp only [List.mem_cons, List.not_mem_nil, or_false] at hq
    rcases hq with rfl | rfl | rfl | rfl | rfl
    · exact pm_cokV (i := 0) (Ct_X0_partOf l sk) ykX0_partOf (by decide) (by decide) rfl rfl (by decide) (by decide +kernel) (pm_WS_mem 505 (by decide +kernel) rfl)
    · exact pm_cokS (Ct_X4_holds l sk) ykX4_holds (by decide) (by decide) (by decide +kernel) (Or.inr ⟨"CableForest", pm_NW_mem 408 (by decide +kernel) rfl⟩)
    · exact pm_cokV (i := 1) (Ct_X1_note l sk) ykX1_note (by decide) (by decide) rfl rfl (by decide) (by decide +kernel) (pm_WS_mem 517 (by decide +kernel) rfl)
    · exact pm_cokV (i := 1) (Ct_X1_nameTheJoined l sk) ykX1_nameTheJoined (by decide) (by decide) rfl rfl (by decide) (by decide +kernel) (pm_WS_mem 521 (by decide +kernel) rfl)
    · exact pm_cokV (i := 0) (Ct_X0_join l sk) ykX0_join (by decide) (by decide) rfl rfl (by decide) (by decide +kernel) (pm_WS_mem 538 (by decide +kernel) rfl)))
theorem ykX1_raise : pm_YV yX1_raise cX1_raise 2 (none) := ⟨(pm_WS_mem 569 (by decide +kernel) rfl), (pm_WS_mem 126 (by decide +kernel) rfl), ⟨by decide +kernel, by decide +kernel⟩, (pm_WS_mem 568 (by decide +kernel) rfl), (pm_WS_mem 17 (by decide +kernel) rfl)⟩
def eX1_raise : pm_E := (cX1_raise, fX1, pm_as [(116, 4, some 1, T_X1_note)], fun _ => none, fun _ => none, fun _ => none, none)
theorem zX1_raise_B : pm_eB eX1_raise = cX1_raise := rfl
theorem zX1_raise_F : pm_eF eX1_raise = fX1 := rfl
theorem zX1_raise_R : pm_eR eX1_raise = none := rfl
theorem zX1_raise_X (n : Nat) : pm_eX eX1_raise n = none := rfl
theorem zX1_raise_C116 : pm_eC eX1_raise 116 = some (4, some 1, T_X1_note) := rfl
def T_X1_raise : pm_T := pm_M eX1_raise 2
theorem Ct_X1_raise (l : Launch) (sk : Nat → Nat) : pm_Ct l sk yX1_raise cX1_raise 2 (none) 2 (T_X1_raise) := pm_met eX1_raise (by decide) rfl rfl (fun _ => rfl) (fun _ => rfl) fX1_ok (fun _ _ h => by cases h) (pm_tabC (by
    intro q hq
    simp only [List.mem_cons, List.not_mem_nil, or_false] at hq
    rcases hq with rfl
    · exact pm_cokV (i := 1) (Ct_X1_note l sk) ykX1_note (by decide) (by decide) rfl rfl (by decide) (by decide +kernel) (pm_WS_mem 517 (by decide +kernel) rfl)))
theorem ykX1_searchOn : pm_YV yX1_searchOn cX1_searchOn 10 (some .int) := ⟨(pm_WS_mem 565 (by decide +kernel) rfl), (pm_WS_mem 126 (by decide +kernel) rfl), ⟨by decide +kernel, by decide +kernel⟩, (pm_WS_mem 564 (by decide +kernel) rfl), (pm_WS_mem 16 (by decide +kernel) rfl)⟩
def eX1_searchOn : pm_E := (cX1_searchOn, fX1, pm_as [(161, 2, some 0, T_X0_partOf), (175, 1, none, T_J6_bitCount_0f7a4), (140, 2, none, T_X4_holds), (180, 2, some 1, T_X1_raise), (168, 5, some 0, T_X0_join)], fun _ => none, fun _ => none, fun _ => none, some .int)
theorem zX1_searchOn_B : pm_eB eX1_searchOn = cX1_searchOn := rfl
theorem zX1_searchOn_F : pm_eF eX1_searchOn = fX1 := rfl
theorem zX1_searchOn_R : pm_eR eX1_searchOn = some .int := rfl
theorem zX1_searchOn_X (n : Nat) : pm_eX eX1_searchOn n = none := rfl
theorem zX1_searchOn_C161 : pm_eC eX1_searchOn 161 = some (2, some 0, T_X0_partOf) := rfl
theorem zX1_searchOn_C175 : pm_eC eX1_searchOn 175 = some (1, none, T_J6_bitCount_0f7a4) := rfl
theorem zX1_searchOn_C140 : pm_eC eX1_searchOn 140 = some (2, none, T_X4_holds) := rfl
theorem zX1_searchOn_C180 : pm_eC eX1_searchOn 180 = some (2, some 1, T_X1_raise) := rfl
theorem zX1_searchOn_C168 : pm_eC eX1_searchOn 168 = some (5, some 0, T_X0_join) := rfl
def T_X1_searchOn : pm_T := pm_M eX1_searchOn 10
theorem Ct_X1_searchOn (l : Launch) (sk : Nat → Nat) : pm_Ct l sk yX1_searchOn cX1_searchOn 10 (some .int) 3 (T_X1_searchOn) := pm_met eX1_searchOn (by decide) rfl rfl (fun _ => rfl) (fun _ => rfl) fX1_ok (fun _ _ h => by cases h) (pm_tabC (by
    intro q hq
    simp only [List.mem_cons, List.not_mem_nil, or_false] at hq
    rcases hq with rfl | rfl | rfl | rfl | rfl
    · exact pm_cokV (i := 0) (Ct_X0_partOf l sk) ykX0_partOf (by decide) (by decide) rfl rfl (by decide) (by decide +kernel) (pm_WS_mem 505 (by decide +kernel) rfl)
    · exact pm_cokS (Ct_J6_bitCount_0f7a4 l sk) ykJ6_bitCount_0f7a4 (by decide) (by decide) (by decide +kernel) (Or.inl (pm_WS_mem 525 (by decide +kernel) rfl))
    · exact pm_cokS (Ct_X4_holds l sk) ykX4_holds (by decide) (by decide) (by decide +kernel) (Or.inr ⟨"CableForest", pm_NW_mem 408 (by decide +kernel) rfl⟩)
    · exact pm_cokV (i := 1) (Ct_X1_raise l sk) ykX1_raise (by decide) (by decide) rfl rfl (by decide) (by decide +kernel) (pm_WS_mem 566 (by decide +kernel) rfl)
    · exact pm_cokV (i := 0) (Ct_X0_join l sk) ykX0_join (by decide) (by decide) rfl rfl (by decide) (by decide +kernel) (pm_WS_mem 538 (by decide +kernel) rfl)))
theorem ykX1_putInPlace : pm_YV yX1_putInPlace cX1_putInPlace 4 (none) := ⟨(pm_WS_mem 573 (by decide +kernel) rfl), (pm_WS_mem 126 (by decide +kernel) rfl), ⟨by decide +kernel, by decide +kernel⟩, (pm_WS_mem 572 (by decide +kernel) rfl), (pm_WS_mem 18 (by decide +kernel) rfl)⟩
def eX1_putInPlace : pm_E := (cX1_putInPlace, fX1, pm_as [(168, 5, some 0, T_X0_join), (116, 4, some 1, T_X1_note)], fun _ => none, fun _ => none, fun _ => none, none)
theorem zX1_putInPlace_B : pm_eB eX1_putInPlace = cX1_putInPlace := rfl
theorem zX1_putInPlace_F : pm_eF eX1_putInPlace = fX1 := rfl
theorem zX1_putInPlace_R : pm_eR eX1_putInPlace = none := rfl
theorem zX1_putInPlace_X (n : Nat) : pm_eX eX1_putInPlace n = none := rfl
theorem zX1_putInPlace_C168 : pm_eC eX1_putInPlace 168 = some (5, some 0, T_X0_join) := rfl
theorem zX1_putInPlace_C116 : pm_eC eX1_putInPlace 116 = some (4, some 1, T_X1_note) := rfl
def T_X1_putInPlace : pm_T := pm_M eX1_putInPlace 4
theorem Ct_X1_putInPlace (l : Launch) (sk : Nat → Nat) : pm_Ct l sk yX1_putInPlace cX1_putInPlace 4 (none) 3 (T_X1_putInPlace) := pm_met eX1_putInPlace (by decide) rfl rfl (fun _ => rfl) (fun _ => rfl) fX1_ok (fun _ _ h => by cases h) (pm_tabC (by
    intro q hq
    simp only [List.mem_cons, List.not_mem_nil, or_false] at hq
    rcases hq with rfl | rfl
    · exact pm_cokV (i := 0) (Ct_X0_join l sk) ykX0_join (by decide) (by decide) rfl rfl (by decide) (by decide +kernel) (pm_WS_mem 538 (by decide +kernel) rfl)
    · exact pm_cokV (i := 1) (Ct_X1_note l sk) ykX1_note (by decide) (by decide) rfl rfl (by decide) (by decide +kernel) (pm_WS_mem 517 (by decide +kernel) rfl)))
theorem ykJ6_numberOfTrailingZeros_0f7a4 : pm_YS yJ6_numberOfTrailingZeros_0f7a4 cJ6_numberOfTrailingZeros_0f7a4 2 (some .int) := ⟨(pm_WS_mem 584 (by decide +kernel) rfl), (pm_WS_mem 137 (by decide +kernel) rfl), ⟨by decide +kernel, by decide +kernel⟩, (pm_WS_mem 583 (by decide +kernel) rfl)⟩
def eJ6_numberOfTrailingZeros_0f7a4 : pm_E := (cJ6_numberOfTrailingZeros_0f7a4, f0, fun _ => none, pm_as [(264, .inl (65536))], fun _ => none, fun _ => none, some .int)
theorem zJ6_numberOfTrailingZeros_0f7a4_B : pm_eB eJ6_numberOfTrailingZeros_0f7a4 = cJ6_numberOfTrailingZeros_0f7a4 := rfl
theorem zJ6_numberOfTrailingZeros_0f7a4_F : pm_eF eJ6_numberOfTrailingZeros_0f7a4 = f0 := rfl
theorem zJ6_numberOfTrailingZeros_0f7a4_R : pm_eR eJ6_numberOfTrailingZeros_0f7a4 = some .int := rfl
theorem zJ6_numberOfTrailingZeros_0f7a4_X (n : Nat) : pm_eX eJ6_numberOfTrailingZeros_0f7a4 n = none := rfl
theorem zJ6_numberOfTrailingZeros_0f7a4_K264 : pm_eK eJ6_numberOfTrailingZeros_0f7a4 264 = some (.inl (65536)) := rfl
def T_J6_numberOfTrailingZeros_0f7a4 : pm_T := pm_M eJ6_numberOfTrailingZeros_0f7a4 2
theorem Ct_J6_numberOfTrailingZeros_0f7a4 (l : Launch) (sk : Nat → Nat) : pm_Ct l sk yJ6_numberOfTrailingZeros_0f7a4 cJ6_numberOfTrailingZeros_0f7a4 2 (some .int) 1 (T_J6_numberOfTrailingZeros_0f7a4) := pm_met eJ6_numberOfTrailingZeros_0f7a4 (by decide) rfl rfl (fun _ => rfl) (fun _ => rfl) f0_ok (pm_tabK (by
    intro q hq
    simp only [List.mem_cons, List.not_mem_nil, or_false] at hq
    rcases hq with rfl
    · exact Or.inr (Or.inl ⟨65536, rfl, ⟨by decide, by decide⟩, (pm_WS_mem 585 (by decide +kernel) rfl)⟩))) (fun _ _ _ _ h => by cases h)
theorem ykX1_freeName : pm_YV yX1_freeName cX1_freeName 4 (some .int) := ⟨(pm_WS_mem 581 (by decide +kernel) rfl), (pm_WS_mem 126 (by decide +kernel) rfl), ⟨by decide +kernel, by decide +kernel⟩, (pm_WS_mem 580 (by decide +kernel) rfl), (pm_WS_mem 20 (by decide +kernel) rfl)⟩
def eX1_freeName : pm_E := (cX1_freeName, fX1, pm_as [(140, 2, none, T_X4_holds), (192, 1, none, T_J6_numberOfTrailingZeros_0f7a4)], fun _ => none, fun _ => none, fun _ => none, some .int)
theorem zX1_freeName_B : pm_eB eX1_freeName = cX1_freeName := rfl
theorem zX1_freeName_F : pm_eF eX1_freeName = fX1 := rfl
theorem zX1_freeName_R : pm_eR eX1_freeName = some .int := rfl
theorem zX1_freeName_X (n : Nat) : pm_eX eX1_freeName n = none := rfl
theorem zX1_freeName_C140 : pm_eC eX1_freeName 140 = some (2, none, T_X4_holds) := rfl
theorem zX1_freeName_C192 : pm_eC eX1_freeName 192 = some (1, none, T_J6_numberOfTrailingZeros_0f7a4) := rfl
def T_X1_freeName : pm_T := pm_M eX1_freeName 4
theorem Ct_X1_freeName (l : Launch) (sk : Nat → Nat) : pm_Ct l sk yX1_freeName cX1_freeName 4 (some .int) 2 (T_X1_freeName) := pm_met eX1_freeName (by decide) rfl rfl (fun _ => rfl) (fun _ => rfl) fX1_ok (fun _ _ h => by cases h) (pm_tabC (by
    intro q hq
    simp only [List.mem_cons, List.not_mem_nil, or_false] at hq
    rcases hq with rfl | rfl
    · exact pm_cokS (Ct_X4_holds l sk) ykX4_holds (by decide) (by decide) (by decide +kernel) (Or.inr ⟨"CableForest", pm_NW_mem 408 (by decide +kernel) rfl⟩)
    · exact pm_cokS (Ct_J6_numberOfTrailingZeros_0f7a4 l sk) ykJ6_numberOfTrailingZeros_0f7a4 (by decide) (by decide) (by decide +kernel) (Or.inl (pm_WS_mem 582 (by decide +kernel) rfl))))
theorem ykX1_nameTheParted : pm_YV yX1_nameTheParted cX1_nameTheParted 6 (none) := ⟨(pm_WS_mem 577 (by decide +kernel) rfl), (pm_WS_mem 126 (by decide +kernel) rfl), ⟨by decide +kernel, by decide +kernel⟩, (pm_WS_mem 576 (by decide +kernel) rfl), (pm_WS_mem 19 (by decide +kernel) rfl)⟩
def eX1_nameTheParted : pm_E := (cX1_nameTheParted, fX1, pm_as [(161, 2, some 0, T_X0_partOf), (175, 1, none, T_J6_bitCount_0f7a4), (189, 2, some 1, T_X1_freeName), (186, 3, some 1, T_X1_giveName)], fun _ => none, fun _ => none, fun _ => none, none)
theorem zX1_nameTheParted_B : pm_eB eX1_nameTheParted = cX1_nameTheParted := rfl
theorem zX1_nameTheParted_F : pm_eF eX1_nameTheParted = fX1 := rfl
theorem zX1_nameTheParted_R : pm_eR eX1_nameTheParted = none := rfl
theorem zX1_nameTheParted_X (n : Nat) : pm_eX eX1_nameTheParted n = none := rfl
theorem zX1_nameTheParted_C161 : pm_eC eX1_nameTheParted 161 = some (2, some 0, T_X0_partOf) := rfl
theorem zX1_nameTheParted_C175 : pm_eC eX1_nameTheParted 175 = some (1, none, T_J6_bitCount_0f7a4) := rfl
theorem zX1_nameTheParted_C189 : pm_eC eX1_nameTheParted 189 = some (2, some 1, T_X1_freeName) := rfl
theorem zX1_nameTheParted_C186 : pm_eC eX1_nameTheParted 186 = some (3, some 1, T_X1_giveName) := rfl
def T_X1_nameTheParted : pm_T := pm_M eX1_nameTheParted 6
theorem Ct_X1_nameTheParted (l : Launch) (sk : Nat → Nat) : pm_Ct l sk yX1_nameTheParted cX1_nameTheParted 6 (none) 3 (T_X1_nameTheParted) := pm_met eX1_nameTheParted (by decide) rfl rfl (fun _ => rfl) (fun _ => rfl) fX1_ok (fun _ _ h => by cases h) (pm_tabC (by
    intro q hq
    simp only [List.mem_cons, List.not_mem_nil, or_false] at hq
    rcases hq with rfl | rfl | rfl | rfl
    · exact pm_cokV (i := 0) (Ct_X0_partOf l sk) ykX0_partOf (by decide) (by decide) rfl rfl (by decide) (by decide +kernel) (pm_WS_mem 505 (by decide +kernel) rfl)
    · exact pm_cokS (Ct_J6_bitCount_0f7a4 l sk) ykJ6_bitCount_0f7a4 (by decide) (by decide) (by decide +kernel) (Or.inl (pm_WS_mem 525 (by decide +kernel) rfl))
    · exact pm_cokV (i := 1) (Ct_X1_freeName l sk) ykX1_freeName (by decide) (by decide) rfl rfl (by decide) (by decide +kernel) (pm_WS_mem 578 (by decide +kernel) rfl)
    · exact pm_cokV (i := 1) (Ct_X1_giveName l sk) ykX1_giveName (by decide) (by decide) rfl rfl (by decide) (by decide +kernel) (pm_WS_mem 534 (by decide +kernel) rfl)))
theorem ykX1_takeCable : pm_YV yX1_takeCable cX1_takeCable 6 (some .int) := ⟨(pm_WS_mem 557 (by decide +kernel) rfl), (pm_WS_mem 126 (by decide +kernel) rfl), ⟨by decide +kernel, by decide +kernel⟩, (pm_WS_mem 555 (by decide +kernel) rfl), (pm_WS_mem 556 (by decide +kernel) rfl)⟩
def eX1_takeCable : pm_E := (cX1_takeCable, fX1, pm_as [(116, 4, some 1, T_X1_note), (120, 3, some 0, T_X0_split), (124, 3, some 1, T_X1_searchOn), (127, 3, some 1, T_X1_putInPlace), (131, 3, some 1, T_X1_nameTheParted)], fun _ => none, fun _ => none, fun _ => none, some .int)
theorem zX1_takeCable_B : pm_eB eX1_takeCable = cX1_takeCable := rfl
theorem zX1_takeCable_F : pm_eF eX1_takeCable = fX1 := rfl
theorem zX1_takeCable_R : pm_eR eX1_takeCable = some .int := rfl
theorem zX1_takeCable_X (n : Nat) : pm_eX eX1_takeCable n = none := rfl
theorem zX1_takeCable_C116 : pm_eC eX1_takeCable 116 = some (4, some 1, T_X1_note) := rfl
theorem zX1_takeCable_C120 : pm_eC eX1_takeCable 120 = some (3, some 0, T_X0_split) := rfl
theorem zX1_takeCable_C124 : pm_eC eX1_takeCable 124 = some (3, some 1, T_X1_searchOn) := rfl
theorem zX1_takeCable_C127 : pm_eC eX1_takeCable 127 = some (3, some 1, T_X1_putInPlace) := rfl
theorem zX1_takeCable_C131 : pm_eC eX1_takeCable 131 = some (3, some 1, T_X1_nameTheParted) := rfl
def T_X1_takeCable : pm_T := pm_M eX1_takeCable 6
theorem Ct_X1_takeCable (l : Launch) (sk : Nat → Nat) : pm_Ct l sk yX1_takeCable cX1_takeCable 6 (some .int) 4 (T_X1_takeCable) := pm_met eX1_takeCable (by decide) rfl rfl (fun _ => rfl) (fun _ => rfl) fX1_ok (fun _ _ h => by cases h) (pm_tabC (by
    intro q hq
    simp only [List.mem_cons, List.not_mem_nil, or_false] at hq
    rcases hq with rfl | rfl | rfl | rfl | rfl
    · exact pm_cokV (i := 1) (Ct_X1_note l sk) ykX1_note (by decide) (by decide) rfl rfl (by decide) (by decide +kernel) (pm_WS_mem 517 (by decide +kernel) rfl)
    · exact pm_cokV (i := 0) (Ct_X0_split l sk) ykX0_split (by decide) (by decide) rfl rfl (by decide) (by decide +kernel) (pm_WS_mem 558 (by decide +kernel) rfl)
    · exact pm_cokV (i := 1) (Ct_X1_searchOn l sk) ykX1_searchOn (by decide) (by decide) rfl rfl (by decide) (by decide +kernel) (pm_WS_mem 562 (by decide +kernel) rfl)
    · exact pm_cokV (i := 1) (Ct_X1_putInPlace l sk) ykX1_putInPlace (by decide) (by decide) rfl rfl (by decide) (by decide +kernel) (pm_WS_mem 570 (by decide +kernel) rfl)
    · exact pm_cokV (i := 1) (Ct_X1_nameTheParted l sk) ykX1_nameTheParted (by decide) (by decide) rfl rfl (by decide) (by decide +kernel) (pm_WS_mem 574 (by decide +kernel) rfl)))
theorem ykX1_cablesOf : pm_YV yX1_cablesOf cX1_cablesOf 4 (some .int) := ⟨(pm_WS_mem 593 (by decide +kernel) rfl), (pm_WS_mem 126 (by decide +kernel) rfl), ⟨by decide +kernel, by decide +kernel⟩, (pm_WS_mem 591 (by decide +kernel) rfl), (pm_WS_mem 592 (by decide +kernel) rfl)⟩
def eX1_cablesOf : pm_E := (cX1_cablesOf, fX1, fun _ => none, fun _ => none, fun _ => none, fun _ => none, some .int)
theorem zX1_cablesOf_B : pm_eB eX1_cablesOf = cX1_cablesOf := rfl
theorem zX1_cablesOf_F : pm_eF eX1_cablesOf = fX1 := rfl
theorem zX1_cablesOf_R : pm_eR eX1_cablesOf = some .int := rfl
theorem zX1_cablesOf_X (n : Nat) : pm_eX eX1_cablesOf n = none := rfl
def T_X1_cablesOf : pm_T := pm_M eX1_cablesOf 4
theorem Ct_X1_cablesOf (l : Launch) (sk : Nat → Nat) : pm_Ct l sk yX1_cablesOf cX1_cablesOf 4 (some .int) 1 (T_X1_cablesOf) := pm_met eX1_cablesOf (by decide) rfl rfl (fun _ => rfl) (fun _ => rfl) fX1_ok (fun _ _ h => by cases h) (fun _ _ _ _ h => by cases h)
theorem ykX1_exchange : pm_YV yX1_exchange cX1_exchange 3 (some .int) := ⟨(pm_WS_mem 589 (by decide +kernel) rfl), (pm_WS_mem 126 (by decide +kernel) rfl), ⟨by decide +kernel, by decide +kernel⟩, (pm_WS_mem 588 (by decide +kernel) rfl), (pm_WS_mem 21 (by decide +kernel) rfl)⟩
def eX1_exchange : pm_E := (cX1_exchange, fX1, pm_as [(120, 3, some 0, T_X0_split), (168, 5, some 0, T_X0_join), (172, 2, some 1, T_X1_cablesOf)], fun _ => none, fun _ => none, fun _ => none, some .int)
theorem zX1_exchange_B : pm_eB eX1_exchange = cX1_exchange := rfl
theorem zX1_exchange_F : pm_eF eX1_exchange = fX1 := rfl
theorem zX1_exchange_R : pm_eR eX1_exchange = some .int := rfl
theorem zX1_exchange_X (n : Nat) : pm_eX eX1_exchange n = none := rfl
theorem zX1_exchange_C120 : pm_eC eX1_exchange 120 = some (3, some 0, T_X0_split) := rfl
theorem zX1_exchange_C168 : pm_eC eX1_exchange 168 = some (5, some 0, T_X0_join) := rfl
theorem zX1_exchange_C172 : pm_eC eX1_exchange 172 = some (2, some 1, T_X1_cablesOf) := rfl
def T_X1_exchange : pm_T := pm_M eX1_exchange 3
theorem Ct_X1_exchange (l : Launch) (sk : Nat → Nat) : pm_Ct l sk yX1_exchange cX1_exchange 3 (some .int) 3 (T_X1_exchange) := pm_met eX1_exchange (by decide) rfl rfl (fun _ => rfl) (fun _ => rfl) fX1_ok (fun _ _ h => by cases h) (pm_tabC (by
    intro q hq
    simp only [List.mem_cons, List.not_mem_nil, or_false] at hq
    rcases hq with rfl | rfl | rfl
    · exact pm_cokV (i := 0) (Ct_X0_split l sk) ykX0_split (by decide) (by decide) rfl rfl (by decide) (by decide +kernel) (pm_WS_mem 558 (by decide +kernel) rfl)
    · exact pm_cokV (i := 0) (Ct_X0_join l sk) ykX0_join (by decide) (by decide) rfl rfl (by decide) (by decide +kernel) (pm_WS_mem 538 (by decide +kernel) rfl)
    · exact pm_cokV (i := 1) (Ct_X1_cablesOf l sk) ykX1_cablesOf (by decide) (by decide) rfl rfl (by decide) (by decide +kernel) (pm_WS_mem 590 (by decide +kernel) rfl)))
theorem ykX1_failNode : pm_YV yX1_failNode cX1_failNode 4 (some .int) := ⟨(pm_WS_mem 597 (by decide +kernel) rfl), (pm_WS_mem 126 (by decide +kernel) rfl), ⟨by decide +kernel, by decide +kernel⟩, (pm_WS_mem 596 (by decide +kernel) rfl), (pm_WS_mem 22 (by decide +kernel) rfl)⟩
def eX1_failNode : pm_E := (cX1_failNode, fX1, pm_as [(149, 3, some 1, T_X1_touches), (100, 2, some 1, T_X1_takeCable)], fun _ => none, fun _ => none, fun _ => none, some .int)
theorem zX1_failNode_B : pm_eB eX1_failNode = cX1_failNode := rfl
theorem zX1_failNode_F : pm_eF eX1_failNode = fX1 := rfl
theorem zX1_failNode_R : pm_eR eX1_failNode = some .int := rfl
theorem zX1_failNode_X (n : Nat) : pm_eX eX1_failNode n = none := rfl
theorem zX1_failNode_C149 : pm_eC eX1_failNode 149 = some (3, some 1, T_X1_touches) := rfl
theorem zX1_failNode_C100 : pm_eC eX1_failNode 100 = some (2, some 1, T_X1_takeCable) := rfl
def T_X1_failNode : pm_T := pm_M eX1_failNode 4
theorem Ct_X1_failNode (l : Launch) (sk : Nat → Nat) : pm_Ct l sk yX1_failNode cX1_failNode 4 (some .int) 5 (T_X1_failNode) := pm_met eX1_failNode (by decide) rfl rfl (fun _ => rfl) (fun _ => rfl) fX1_ok (fun _ _ h => by cases h) (pm_tabC (by
    intro q hq
    simp only [List.mem_cons, List.not_mem_nil, or_false] at hq
    rcases hq with rfl | rfl
    · exact pm_cokV (i := 1) (Ct_X1_touches l sk) ykX1_touches (by decide) (by decide) rfl rfl (by decide) (by decide +kernel) (pm_WS_mem 598 (by decide +kernel) rfl)
    · exact pm_cokV (i := 1) (Ct_X1_takeCable l sk) ykX1_takeCable (by decide) (by decide) rfl rfl (by decide) (by decide +kernel) (pm_WS_mem 554 (by decide +kernel) rfl)))
