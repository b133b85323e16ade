theorem ykX5_way : pm_YV yX5_way cX5_way 6 (some .int) := ⟨(pm_WS_mem 1627 (by decide +kernel) rfl), (pm_WS_mem 130 (by decide +kernel) rfl), ⟨by decide +kernel, by decide +kernel⟩, (pm_WS_mem 1625 (by decide +kernel) rfl), (pm_WS_mem 1626 (by decide +kernel) rfl)⟩
def eX5_way : pm_E := (cX5_way, fX5, pm_as [(105, 2, some 5, T_X5_isNode), (279, 5, some 5, T_X5_spreads), (61, 3, none, T_X5_isIn)], fun _ => none, fun _ => none, fun _ => none, some .int)
theorem zX5_way_B : pm_eB eX5_way = cX5_way := rfl
theorem zX5_way_F : pm_eF eX5_way = fX5 := rfl
theorem zX5_way_R : pm_eR eX5_way = some .int := rfl
theorem zX5_way_X (n : Nat) : pm_eX eX5_way n = none := rfl
theorem zX5_way_C105 : pm_eC eX5_way 105 = some (2, some 5, T_X5_isNode) := rfl
theorem zX5_way_C279 : pm_eC eX5_way 279 = some (5, some 5, T_X5_spreads) := rfl
theorem zX5_way_C61 : pm_eC eX5_way 61 = some (3, none, T_X5_isIn) := rfl
def T_X5_way : pm_T := pm_M eX5_way 6
theorem Ct_X5_way (l : Launch) (sk : Nat → Nat) : pm_Ct l sk yX5_way cX5_way 6 (some .int) 5 (T_X5_way) := pm_met eX5_way (by decide) rfl rfl (fun _ => rfl) (fun _ => rfl) fX5_ok (fun _ _ h => by cases h) (pm_tabC (by
    intro q hq
    simp only [List.mem_cons, List.not_mem_nil, or_false] at hq
    rcases hq with rfl | rfl | rfl
    · exact pm_cokV (i := 5) (Ct_X5_isNode l sk) ykX5_isNode (by decide) (by decide) rfl rfl (by decide) (by decide +kernel) (pm_WS_mem 1358 (by decide +kernel) rfl)
    · exact pm_cokV (i := 5) (Ct_X5_spreads l sk) ykX5_spreads (by decide) (by decide) rfl rfl (by decide) (by decide +kernel) (pm_WS_mem 1568 (by decide +kernel) rfl)
    · exact pm_cokS (Ct_X5_isIn l sk) ykX5_isIn (by decide) (by decide) (by decide +kernel) (Or.inl (pm_WS_mem 1303 (by decide +kernel) rfl))))
theorem ykX5_near : pm_YV yX5_near cX5_near 3 (some .int) := ⟨(pm_WS_mem 1631 (by decide +kernel) rfl), (pm_WS_mem 130 (by decide +kernel) rfl), ⟨by decide +kernel, by decide +kernel⟩, (pm_WS_mem 1629 (by decide +kernel) rfl), (pm_WS_mem 1630 (by decide +kernel) rfl)⟩
def eX5_near : pm_E := (cX5_near, fX5, pm_as [(105, 2, some 5, T_X5_isNode), (279, 5, some 5, T_X5_spreads)], fun _ => none, fun _ => none, fun _ => none, some .int)
theorem zX5_near_B : pm_eB eX5_near = cX5_near := rfl
theorem zX5_near_F : pm_eF eX5_near = fX5 := rfl
theorem zX5_near_R : pm_eR eX5_near = some .int := rfl
theorem zX5_near_X (n : Nat) : pm_eX eX5_near n = none := rfl
theorem zX5_near_C105 : pm_eC eX5_near 105 = some (2, some 5, T_X5_isNode) := rfl
theorem zX5_near_C279 : pm_eC eX5_near 279 = some (5, some 5, T_X5_spreads) := rfl
def T_X5_near : pm_T := pm_M eX5_near 3
theorem Ct_X5_near (l : Launch) (sk : Nat → Nat) : pm_Ct l sk yX5_near cX5_near 3 (some .int) 5 (T_X5_near) := pm_met eX5_near (by decide) rfl rfl (fun _ => rfl) (fun _ => rfl) fX5_ok (fun _ _ h => by cases h) (pm_tabC (by
    intro q hq
    simp only [List.mem_cons, List.not_mem_nil, or_false] at hq
    rcases hq with rfl | rfl
    · exact pm_cokV (i := 5) (Ct_X5_isNode l sk) ykX5_isNode (by decide) (by decide) rfl rfl (by decide) (by decide +kernel) (pm_WS_mem 1358 (by decide +kernel) rfl)
    · exact pm_cokV (i := 5) (Ct_X5_spreads l sk) ykX5_spreads (by decide) (by decide) rfl rfl (by decide) (by decide +kernel) (pm_WS_mem 1568 (by decide +kernel) rfl)))
theorem ykX5_triesLift : pm_YV yX5_triesLift cX5_triesLift 4 (some .int) := ⟨(pm_WS_mem 1639 (by decide +kernel) rfl), (pm_WS_mem 130 (by decide +kernel) rfl), ⟨by decide +kernel, by decide +kernel⟩, (pm_WS_mem 1638 (by decide +kernel) rfl), (pm_WS_mem 105 (by decide +kernel) rfl)⟩
def eX5_triesLift : pm_E := (cX5_triesLift, fX5, pm_as [(163, 2, some 5, T_X5_lift0)], fun _ => none, fun _ => none, fun _ => none, some .int)
theorem zX5_triesLift_B : pm_eB eX5_triesLift = cX5_triesLift := rfl
theorem zX5_triesLift_F : pm_eF eX5_triesLift = fX5 := rfl
theorem zX5_triesLift_R : pm_eR eX5_triesLift = some .int := rfl
theorem zX5_triesLift_X (n : Nat) : pm_eX eX5_triesLift n = none := rfl
theorem zX5_triesLift_C163 : pm_eC eX5_triesLift 163 = some (2, some 5, T_X5_lift0) := rfl
def T_X5_triesLift : pm_T := pm_M eX5_triesLift 4
theorem Ct_X5_triesLift (l : Launch) (sk : Nat → Nat) : pm_Ct l sk yX5_triesLift cX5_triesLift 4 (some .int) 7 (T_X5_triesLift) := pm_met eX5_triesLift (by decide) rfl rfl (fun _ => rfl) (fun _ => rfl) fX5_ok (fun _ _ h => by cases h) (pm_tabC (by
    intro q hq
    simp only [List.mem_cons, List.not_mem_nil, or_false] at hq
    rcases hq with rfl
    · exact pm_cokV (i := 5) (Ct_X5_lift0 l sk) ykX5_lift0 (by decide) (by decide) rfl rfl (by decide) (by decide +kernel) (pm_WS_mem 1417 (by decide +kernel) rfl)))
theorem ykX5_heir : pm_YV yX5_heir cX5_heir 2 (some .int) := ⟨(pm_WS_mem 1635 (by decide +kernel) rfl), (pm_WS_mem 130 (by decide +kernel) rfl), ⟨by decide +kernel, by decide +kernel⟩, (pm_WS_mem 1633 (by decide +kernel) rfl), (pm_WS_mem 1634 (by decide +kernel) rfl)⟩
def eX5_heir : pm_E := (cX5_heir, fX5, pm_as [(65, 2, some 5, T_X5_isLaid), (133, 2, some 5, T_X5_isTree), (314, 2, some 5, T_X5_triesLift)], fun _ => none, fun _ => none, fun _ => none, some .int)
theorem zX5_heir_B : pm_eB eX5_heir = cX5_heir := rfl
theorem zX5_heir_F : pm_eF eX5_heir = fX5 := rfl
theorem zX5_heir_R : pm_eR eX5_heir = some .int := rfl
theorem zX5_heir_X (n : Nat) : pm_eX eX5_heir n = none := rfl
theorem zX5_heir_C65 : pm_eC eX5_heir 65 = some (2, some 5, T_X5_isLaid) := rfl
theorem zX5_heir_C133 : pm_eC eX5_heir 133 = some (2, some 5, T_X5_isTree) := rfl
theorem zX5_heir_C314 : pm_eC eX5_heir 314 = some (2, some 5, T_X5_triesLift) := rfl
def T_X5_heir : pm_T := pm_M eX5_heir 2
theorem Ct_X5_heir (l : Launch) (sk : Nat → Nat) : pm_Ct l sk yX5_heir cX5_heir 2 (some .int) 8 (T_X5_heir) := pm_met eX5_heir (by decide) rfl rfl (fun _ => rfl) (fun _ => rfl) fX5_ok (fun _ _ h => by cases h) (pm_tabC (by
    intro q hq
    simp only [List.mem_cons, List.not_mem_nil, or_false] at hq
    rcases hq with rfl | rfl | rfl
    · exact pm_cokV (i := 5) (Ct_X5_isLaid l sk) ykX5_isLaid (by decide) (by decide) rfl rfl (by decide) (by decide +kernel) (pm_WS_mem 1425 (by decide +kernel) rfl)
    · exact pm_cokV (i := 5) (Ct_X5_isTree l sk) ykX5_isTree (by decide) (by decide) rfl rfl (by decide) (by decide +kernel) (pm_WS_mem 1429 (by decide +kernel) rfl)
    · exact pm_cokV (i := 5) (Ct_X5_triesLift l sk) ykX5_triesLift (by decide) (by decide) rfl rfl (by decide) (by decide +kernel) (pm_WS_mem 1636 (by decide +kernel) rfl)))
theorem ykX5_would : pm_YV yX5_would cX5_would 4 (some .int) := ⟨(pm_WS_mem 1643 (by decide +kernel) rfl), (pm_WS_mem 130 (by decide +kernel) rfl), ⟨by decide +kernel, by decide +kernel⟩, (pm_WS_mem 1641 (by decide +kernel) rfl), (pm_WS_mem 1642 (by decide +kernel) rfl)⟩
def eX5_would : pm_E := (cX5_would, fX5, pm_as [(65, 2, some 5, T_X5_isLaid), (61, 3, none, T_X5_isIn), (142, 2, some 5, T_X5_isThere), (314, 2, some 5, T_X5_triesLift)], fun _ => none, fun _ => none, fun _ => none, some .int)
theorem zX5_would_B : pm_eB eX5_would = cX5_would := rfl
theorem zX5_would_F : pm_eF eX5_would = fX5 := rfl
theorem zX5_would_R : pm_eR eX5_would = some .int := rfl
theorem zX5_would_X (n : Nat) : pm_eX eX5_would n = none := rfl
theorem zX5_would_C65 : pm_eC eX5_would 65 = some (2, some 5, T_X5_isLaid) := rfl
theorem zX5_would_C61 : pm_eC eX5_would 61 = some (3, none, T_X5_isIn) := rfl
theorem zX5_would_C142 : pm_eC eX5_would 142 = some (2, some 5, T_X5_isThere) := rfl
theorem zX5_would_C314 : pm_eC eX5_would 314 = some (2, some 5, T_X5_triesLift) := rfl
def T_X5_would : pm_T := pm_M eX5_would 4
theorem Ct_X5_would (l : Launch) (sk : Nat → Nat) : pm_Ct l sk yX5_would cX5_would 4 (some .int) 8 (T_X5_would) := pm_met eX5_would (by decide) rfl rfl (fun _ => rfl) (fun _ => rfl) fX5_ok (fun _ _ h => by cases h) (pm_tabC (by
    intro q hq
    simp only [List.mem_cons, List.not_mem_nil, or_false] at hq
    rcases hq with rfl | rfl | rfl | rfl
    · exact pm_cokV (i := 5) (Ct_X5_isLaid l sk) ykX5_isLaid (by decide) (by decide) rfl rfl (by decide) (by decide +kernel) (pm_WS_mem 1425 (by decide +kernel) rfl)
    · exact pm_cokS (Ct_X5_isIn l sk) ykX5_isIn (by decide) (by decide) (by decide +kernel) (Or.inl (pm_WS_mem 1303 (by decide +kernel) rfl))
    · exact pm_cokV (i := 5) (Ct_X5_isThere l sk) ykX5_isThere (by decide) (by decide) rfl rfl (by decide) (by decide +kernel) (pm_WS_mem 1421 (by decide +kernel) rfl)
    · exact pm_cokV (i := 5) (Ct_X5_triesLift l sk) ykX5_triesLift (by decide) (by decide) rfl rfl (by decide) (by decide +kernel) (pm_WS_mem 1636 (by decide +kernel) rfl)))
theorem ykX5_bridge : pm_YV yX5_bridge cX5_bridge 2 (some .boolean) := ⟨(pm_WS_mem 1647 (by decide +kernel) rfl), (pm_WS_mem 130 (by decide +kernel) rfl), ⟨by decide +kernel, by decide +kernel⟩, (pm_WS_mem 1645 (by decide +kernel) rfl), (pm_WS_mem 1646 (by decide +kernel) rfl)⟩
def eX5_bridge : pm_E := (cX5_bridge, fX5, pm_as [(65, 2, some 5, T_X5_isLaid), (317, 2, some 5, T_X5_isBridge)], fun _ => none, fun _ => none, fun _ => none, some .boolean)
theorem zX5_bridge_B : pm_eB eX5_bridge = cX5_bridge := rfl
theorem zX5_bridge_F : pm_eF eX5_bridge = fX5 := rfl
theorem zX5_bridge_R : pm_eR eX5_bridge = some .boolean := rfl
theorem zX5_bridge_X (n : Nat) : pm_eX eX5_bridge n = none := rfl
theorem zX5_bridge_C65 : pm_eC eX5_bridge 65 = some (2, some 5, T_X5_isLaid) := rfl
theorem zX5_bridge_C317 : pm_eC eX5_bridge 317 = some (2, some 5, T_X5_isBridge) := rfl
def T_X5_bridge : pm_T := pm_M eX5_bridge 2
theorem Ct_X5_bridge (l : Launch) (sk : Nat → Nat) : pm_Ct l sk yX5_bridge cX5_bridge 2 (some .boolean) 6 (T_X5_bridge) := pm_met eX5_bridge (by decide) rfl rfl (fun _ => rfl) (fun _ => rfl) fX5_ok (fun _ _ h => by cases h) (pm_tabC (by
    intro q hq
    simp only [List.mem_cons, List.not_mem_nil, or_false] at hq
    rcases hq with rfl | rfl
    · exact pm_cokV (i := 5) (Ct_X5_isLaid l sk) ykX5_isLaid (by decide) (by decide) rfl rfl (by decide) (by decide +kernel) (pm_WS_mem 1425 (by decide +kernel) rfl)
    · exact pm_cokV (i := 5) (Ct_X5_isBridge l sk) ykX5_isBridge (by decide) (by decide) rfl rfl (by decide) (by decide +kernel) (pm_WS_mem 1580 (by decide +kernel) rfl)))
theorem ykX5_isHinge : pm_YV yX5_isHinge cX5_isHinge 5 (some .boolean) := ⟨(pm_WS_mem 1655 (by decide +kernel) rfl), (pm_WS_mem 130 (by decide +kernel) rfl), ⟨by decide +kernel, by decide +kernel⟩, (pm_WS_mem 1654 (by decide +kernel) rfl), (pm_WS_mem 106 (by decide +kernel) rfl)⟩
def eX5_isHinge : pm_E := (cX5_isHinge, fX5, pm_as [(116, 3, some 5, T_X5_partOf), (101, 2, none, T_X5_isOf), (279, 5, some 5, T_X5_spreads)], fun _ => none, fun _ => none, fun _ => none, some .boolean)
theorem zX5_isHinge_B : pm_eB eX5_isHinge = cX5_isHinge := rfl
theorem zX5_isHinge_F : pm_eF eX5_isHinge = fX5 := rfl
theorem zX5_isHinge_R : pm_eR eX5_isHinge = some .boolean := rfl
theorem zX5_isHinge_X (n : Nat) : pm_eX eX5_isHinge n = none := rfl
theorem zX5_isHinge_C116 : pm_eC eX5_isHinge 116 = some (3, some 5, T_X5_partOf) := rfl
theorem zX5_isHinge_C101 : pm_eC eX5_isHinge 101 = some (2, none, T_X5_isOf) := rfl
theorem zX5_isHinge_C279 : pm_eC eX5_isHinge 279 = some (5, some 5, T_X5_spreads) := rfl
def T_X5_isHinge : pm_T := pm_M eX5_isHinge 5
theorem Ct_X5_isHinge (l : Launch) (sk : Nat → Nat) : pm_Ct l sk yX5_isHinge cX5_isHinge 5 (some .boolean) 5 (T_X5_isHinge) := pm_met eX5_isHinge (by decide) rfl rfl (fun _ => rfl) (fun _ => rfl) fX5_ok (fun _ _ h => by cases h) (pm_tabC (by
    intro q hq
    simp only [List.mem_cons, List.not_mem_nil, or_false] at hq
    rcases hq with rfl | rfl | rfl
    · exact pm_cokV (i := 5) (Ct_X5_partOf l sk) ykX5_partOf (by decide) (by decide) rfl rfl (by decide) (by decide +kernel) (pm_WS_mem 1382 (by decide +kernel) rfl)
    · exact pm_cokS (Ct_X5_isOf l sk) ykX5_isOf (by decide) (by decide) (by decide +kernel) (Or.inl (pm_WS_mem 1409 (by decide +kernel) rfl))
    · exact pm_cokV (i := 5) (Ct_X5_spreads l sk) ykX5_spreads (by decide) (by decide) rfl rfl (by decide) (by decide +kernel) (pm_WS_mem 1568 (by decide +kernel) rfl)))
theorem ykX5_hinges : pm_YV yX5_hinges cX5_hinges 3 (some .int) := ⟨(pm_WS_mem 1651 (by decide +kernel) rfl), (pm_WS_mem 130 (by decide +kernel) rfl), ⟨by decide +kernel, by decide +kernel⟩, (pm_WS_mem 1649 (by decide +kernel) rfl), (pm_WS_mem 1650 (by decide +kernel) rfl)⟩
def eX5_hinges : pm_E := (cX5_hinges, fX5, pm_as [(320, 2, some 5, T_X5_isHinge)], fun _ => none, fun _ => none, fun _ => none, some .int)
theorem zX5_hinges_B : pm_eB eX5_hinges = cX5_hinges := rfl
theorem zX5_hinges_F : pm_eF eX5_hinges = fX5 := rfl
theorem zX5_hinges_R : pm_eR eX5_hinges = some .int := rfl
theorem zX5_hinges_X (n : Nat) : pm_eX eX5_hinges n = none := rfl
theorem zX5_hinges_C320 : pm_eC eX5_hinges 320 = some (2, some 5, T_X5_isHinge) := rfl
def T_X5_hinges : pm_T := pm_M eX5_hinges 3
theorem Ct_X5_hinges (l : Launch) (sk : Nat → Nat) : pm_Ct l sk yX5_hinges cX5_hinges 3 (some .int) 6 (T_X5_hinges) := pm_met eX5_hinges (by decide) rfl rfl (fun _ => rfl) (fun _ => rfl) fX5_ok (fun _ _ h => by cases h) (pm_tabC (by
    intro q hq
    simp only [List.mem_cons, List.not_mem_nil, or_false] at hq
    rcases hq with rfl
    · exact pm_cokV (i := 5) (Ct_X5_isHinge l sk) ykX5_isHinge (by decide) (by decide) rfl rfl (by decide) (by decide +kernel) (pm_WS_mem 1652 (by decide +kernel) rfl)))
theorem ykX5_carries : pm_YV yX5_carries cX5_carries 3 (some .boolean) := ⟨(pm_WS_mem 1671 (by decide +kernel) rfl), (pm_WS_mem 130 (by decide +kernel) rfl), ⟨by decide +kernel, by decide +kernel⟩, (pm_WS_mem 1670 (by decide +kernel) rfl), (pm_WS_mem 109 (by decide +kernel) rfl)⟩
def eX5_carries : pm_E := (cX5_carries, fX5, pm_as [(142, 2, some 5, T_X5_isThere), (273, 3, some 5, T_X5_hasEnd), (69, 3, some 5, T_X5_of)], fun _ => none, fun _ => none, fun _ => none, some .boolean)
theorem zX5_carries_B : pm_eB eX5_carries = cX5_carries := rfl
theorem zX5_carries_F : pm_eF eX5_carries = fX5 := rfl
theorem zX5_carries_R : pm_eR eX5_carries = some .boolean := rfl
theorem zX5_carries_X (n : Nat) : pm_eX eX5_carries n = none := rfl
theorem zX5_carries_C142 : pm_eC eX5_carries 142 = some (2, some 5, T_X5_isThere) := rfl
theorem zX5_carries_C273 : pm_eC eX5_carries 273 = some (3, some 5, T_X5_hasEnd) := rfl
theorem zX5_carries_C69 : pm_eC eX5_carries 69 = some (3, some 5, T_X5_of) := rfl
def T_X5_carries : pm_T := pm_M eX5_carries 3
theorem Ct_X5_carries (l : Launch) (sk : Nat → Nat) : pm_Ct l sk yX5_carries cX5_carries 3 (some .boolean) 4 (T_X5_carries) := pm_met eX5_carries (by decide) rfl rfl (fun _ => rfl) (fun _ => rfl) fX5_ok (fun _ _ h => by cases h) (pm_tabC (by
    intro q hq
    simp only [List.mem_cons, List.not_mem_nil, or_false] at hq
    rcases hq with rfl | rfl | rfl
    · exact pm_cokV (i := 5) (Ct_X5_isThere l sk) ykX5_isThere (by decide) (by decide) rfl rfl (by decide) (by decide +kernel) (pm_WS_mem 1421 (by decide +kernel) rfl)
    · exact pm_cokV (i := 5) (Ct_X5_hasEnd l sk) ykX5_hasEnd (by decide) (by decide) rfl rfl (by decide) (by decide +kernel) (pm_WS_mem 1560 (by decide +kernel) rfl)
    · exact pm_cokV (i := 5) (Ct_X5_of l sk) ykX5_of (by decide) (by decide) rfl rfl (by decide) (by decide +kernel) (pm_WS_mem 1374 (by decide +kernel) rfl)))
theorem ykX5_comes : pm_YV yX5_comes cX5_comes 4 (some .boolean) := ⟨(pm_WS_mem 1667 (by decide +kernel) rfl), (pm_WS_mem 130 (by decide +kernel) rfl), ⟨by decide +kernel, by decide +kernel⟩, (pm_WS_mem 1666 (by decide +kernel) rfl), (pm_WS_mem 108 (by decide +kernel) rfl)⟩
def eX5_comes : pm_E := (cX5_comes, fX5, pm_as [(326, 3, some 5, T_X5_carries)], fun _ => none, fun _ => none, fun _ => none, some .boolean)
theorem zX5_comes_B : pm_eB eX5_comes = cX5_comes := rfl
theorem zX5_comes_F : pm_eF eX5_comes = fX5 := rfl
theorem zX5_comes_R : pm_eR eX5_comes = some .boolean := rfl
theorem zX5_comes_X (n : Nat) : pm_eX eX5_comes n = none := rfl
theorem zX5_comes_C326 : pm_eC eX5_comes 326 = some (3, some 5, T_X5_carries) := rfl
def T_X5_comes : pm_T := pm_M eX5_comes 4
theorem Ct_X5_comes (l : Launch) (sk : Nat → Nat) : pm_Ct l sk yX5_comes cX5_comes 4 (some .boolean) 5 (T_X5_comes) := pm_met eX5_comes (by decide) rfl rfl (fun _ => rfl) (fun _ => rfl) fX5_ok (fun _ _ h => by cases h) (pm_tabC (by
    intro q hq
    simp only [List.mem_cons, List.not_mem_nil, or_false] at hq
    rcases hq with rfl
    · exact pm_cokV (i := 5) (Ct_X5_carries l sk) ykX5_carries (by decide) (by decide) rfl rfl (by decide) (by decide +kernel) (pm_WS_mem 1668 (by decide +kernel) rfl)))
theorem ykX5_oneMore : pm_YV yX5_oneMore cX5_oneMore 7 (some .boolean) := ⟨(pm_WS_mem 1663 (by decide +kernel) rfl), (pm_WS_mem 130 (by decide +kernel) rfl), ⟨by decide +kernel, by decide +kernel⟩, (pm_WS_mem 1662 (by decide +kernel) rfl), (pm_WS_mem 107 (by decide +kernel) rfl)⟩
def eX5_oneMore : pm_E := (cX5_oneMore, fX5, pm_as [(69, 3, some 5, T_X5_of), (323, 4, some 5, T_X5_comes)], fun _ => none, fun _ => none, fun _ => none, some .boolean)
theorem zX5_oneMore_B : pm_eB eX5_oneMore = cX5_oneMore := rfl
theorem zX5_oneMore_F : pm_eF eX5_oneMore = fX5 := rfl
theorem zX5_oneMore_R : pm_eR eX5_oneMore = some .boolean := rfl
theorem zX5_oneMore_X (n : Nat) : pm_eX eX5_oneMore n = none := rfl
theorem zX5_oneMore_C69 : pm_eC eX5_oneMore 69 = some (3, some 5, T_X5_of) := rfl
theorem zX5_oneMore_C323 : pm_eC eX5_oneMore 323 = some (4, some 5, T_X5_comes) := rfl
def T_X5_oneMore : pm_T := pm_M eX5_oneMore 7
theorem Ct_X5_oneMore (l : Launch) (sk : Nat → Nat) : pm_Ct l sk yX5_oneMore cX5_oneMore 7 (some .boolean) 6 (T_X5_oneMore) := pm_met eX5_oneMore (by decide) rfl rfl (fun _ => rfl) (fun _ => rfl) fX5_ok (fun _ _ h => by cases h) (pm_tabC (by
    intro q hq
    simp only [List.mem_cons, List.not_mem_nil, or_false] at hq
    rcases hq with rfl | rfl
    · exact pm_cokV (i := 5) (Ct_X5_of l sk) ykX5_of (by decide) (by decide) rfl rfl (by decide) (by decide +kernel) (pm_WS_mem 1374 (by decide +kernel) rfl)
    · exact pm_cokV (i := 5) (Ct_X5_comes l sk) ykX5_comes (by decide) (by decide) rfl rfl (by decide) (by decide +kernel) (pm_WS_mem 1664 (by decide +kernel) rfl)))
theorem ykX5_cut : pm_YV yX5_cut cX5_cut 4 (some .int) := ⟨(pm_WS_mem 1659 (by decide +kernel) rfl), (pm_WS_mem 130 (by decide +kernel) rfl), ⟨by decide +kernel, by decide +kernel⟩, (pm_WS_mem 1657 (by decide +kernel) rfl), (pm_WS_mem 1658 (by decide +kernel) rfl)⟩
def eX5_cut : pm_E := (cX5_cut, fX5, pm_as [(105, 2, some 5, T_X5_isNode), (329, 3, some 5, T_X5_oneMore)], fun _ => none, fun _ => none, fun _ => none, some .int)
theorem zX5_cut_B : pm_eB eX5_cut = cX5_cut := rfl
theorem zX5_cut_F : pm_eF eX5_cut = fX5 := rfl
theorem zX5_cut_R : pm_eR eX5_cut = some .int := rfl
theorem zX5_cut_X (n : Nat) : pm_eX eX5_cut n = none := rfl
theorem zX5_cut_C105 : pm_eC eX5_cut 105 = some (2, some 5, T_X5_isNode) := rfl
theorem zX5_cut_C329 : pm_eC eX5_cut 329 = some (3, some 5, T_X5_oneMore) := rfl
def T_X5_cut : pm_T := pm_M eX5_cut 4
theorem Ct_X5_cut (l : Launch) (sk : Nat → Nat) : pm_Ct l sk yX5_cut cX5_cut 4 (some .int) 7 (T_X5_cut) := pm_met eX5_cut (by decide) rfl rfl (fun _ => rfl) (fun _ => rfl) fX5_ok (fun _ _ h => by cases h) (pm_tabC (by
    intro q hq
    simp only [List.mem_cons, List.not_mem_nil, or_false] at hq
    rcases hq with rfl | rfl
    · exact pm_cokV (i := 5) (Ct_X5_isNode l sk) ykX5_isNode (by decide) (by decide) rfl rfl (by decide) (by decide +kernel) (pm_WS_mem 1358 (by decide +kernel) rfl)
    · exact pm_cokV (i := 5) (Ct_X5_oneMore l sk) ykX5_oneMore (by decide) (by decide) rfl rfl (by decide) (by decide +kernel) (pm_WS_mem 1660 (by decide +kernel) rfl)))
theorem ykX5_key : pm_YV yX5_key cX5_key 5 (some .int) := ⟨(pm_WS_mem 1763 (by decide +kernel) rfl), (pm_WS_mem 130 (by decide +kernel) rfl), ⟨by decide +kernel, by decide +kernel⟩, (pm_WS_mem 1762 (by decide +kernel) rfl), (pm_WS_mem 122 (by decide +kernel) rfl)⟩
def eX5_key : pm_E := (cX5_key, fX5, pm_as [(293, 2, some 5, T_X5_lossOf)], fun _ => none, fun _ => none, fun _ => none, some .int)
theorem zX5_key_B : pm_eB eX5_key = cX5_key := rfl
theorem zX5_key_F : pm_eF eX5_key = fX5 := rfl
theorem zX5_key_R : pm_eR eX5_key = some .int := rfl
theorem zX5_key_X (n : Nat) : pm_eX eX5_key n = none := rfl
theorem zX5_key_C293 : pm_eC eX5_key 293 = some (2, some 5, T_X5_lossOf) := rfl
def T_X5_key : pm_T := pm_M eX5_key 5
theorem Ct_X5_key (l : Launch) (sk : Nat → Nat) : pm_Ct l sk yX5_key cX5_key 5 (some .int) 7 (T_X5_key) := pm_met eX5_key (by decide) rfl rfl (fun _ => rfl) (fun _ => rfl) fX5_ok (fun _ _ h => by cases h) (pm_tabC (by
    intro q hq
    simp only [List.mem_cons, List.not_mem_nil, or_false] at hq
    rcases hq with rfl
    · exact pm_cokV (i := 5) (Ct_X5_lossOf l sk) ykX5_lossOf (by decide) (by decide) rfl rfl (by decide) (by decide +kernel) (pm_WS_mem 1588 (by decide +kernel) rfl)))
theorem ykX5_within : pm_YV yX5_within cX5_within 5 (some .int) := ⟨(pm_WS_mem 1675 (by decide +kernel) rfl), (pm_WS_mem 130 (by decide +kernel) rfl), ⟨by decide +kernel, by decide +kernel⟩, (pm_WS_mem 1673 (by decide +kernel) rfl), (pm_WS_mem 1674 (by decide +kernel) rfl)⟩
def eX5_within : pm_E := (cX5_within, fX5, pm_as [(105, 2, some 5, T_X5_isNode), (61, 3, none, T_X5_isIn), (279, 5, some 5, T_X5_spreads)], fun _ => none, fun _ => none, fun _ => none, some .int)
theorem zX5_within_B : pm_eB eX5_within = cX5_within := rfl
theorem zX5_within_F : pm_eF eX5_within = fX5 := rfl
theorem zX5_within_R : pm_eR eX5_within = some .int := rfl
theorem zX5_within_X (n : Nat) : pm_eX eX5_within n = none := rfl
theorem zX5_within_C105 : pm_eC eX5_within 105 = some (2, some 5, T_X5_isNode) := rfl
theorem zX5_within_C61 : pm_eC eX5_within 61 = some (3, none, T_X5_isIn) := rfl
theorem zX5_within_C279 : pm_eC eX5_within 279 = some (5, some 5, T_X5_spreads) := rfl
def T_X5_within : pm_T := pm_M eX5_within 5
theorem Ct_X5_within (l : Launch) (sk : Nat → Nat) : pm_Ct l sk yX5_within cX5_within 5 (some .int) 5 (T_X5_within) := pm_met eX5_within (by decide) rfl rfl (fun _ => rfl) (fun _ => rfl) fX5_ok (fun _ _ h => by cases h) (pm_tabC (by
    intro q hq
    simp only [List.mem_cons, List.not_mem_nil, or_false] at hq
    rcases hq with rfl | rfl | rfl
    · exact pm_cokV (i := 5) (Ct_X5_isNode l sk) ykX5_isNode (by decide) (by decide) rfl rfl (by decide) (by decide +kernel) (pm_WS_mem 1358 (by decide +kernel) rfl)
    · exact pm_cokS (Ct_X5_isIn l sk) ykX5_isIn (by decide) (by decide) (by decide +kernel) (Or.inl (pm_WS_mem 1303 (by decide +kernel) rfl))
    · exact pm_cokV (i := 5) (Ct_X5_spreads l sk) ykX5_spreads (by decide) (by decide) rfl rfl (by decide) (by decide +kernel) (pm_WS_mem 1568 (by decide +kernel) rfl)))
theorem ykX5_doTie : pm_YV yX5_doTie cX5_doTie 9 (some .boolean) := ⟨(pm_WS_mem 1687 (by decide +kernel) rfl), (pm_WS_mem 130 (by decide +kernel) rfl), ⟨by decide +kernel, by decide +kernel⟩, (pm_WS_mem 1686 (by decide +kernel) rfl), (pm_WS_mem 111 (by decide +kernel) rfl)⟩
def eX5_doTie : pm_E := (cX5_doTie, fX5, pm_as [(101, 2, none, T_X5_isOf), (69, 3, some 5, T_X5_of)], fun _ => none, fun _ => none, fun _ => none, some .boolean)
theorem zX5_doTie_B : pm_eB eX5_doTie = cX5_doTie := rfl
theorem zX5_doTie_F : pm_eF eX5_doTie = fX5 := rfl
theorem zX5_doTie_R : pm_eR eX5_doTie = some .boolean := rfl
theorem zX5_doTie_X (n : Nat) : pm_eX eX5_doTie n = none := rfl
theorem zX5_doTie_C101 : pm_eC eX5_doTie 101 = some (2, none, T_X5_isOf) := rfl
theorem zX5_doTie_C69 : pm_eC eX5_doTie 69 = some (3, some 5, T_X5_of) := rfl
def T_X5_doTie : pm_T := pm_M eX5_doTie 9
theorem Ct_X5_doTie (l : Launch) (sk : Nat → Nat) : pm_Ct l sk yX5_doTie cX5_doTie 9 (some .boolean) 2 (T_X5_doTie) := pm_met eX5_doTie (by decide) rfl rfl (fun _ => rfl) (fun _ => rfl) fX5_ok (fun _ _ h => by cases h) (pm_tabC (by
    intro q hq
    simp only [List.mem_cons, List.not_mem_nil, or_false] at hq
    rcases hq with rfl | rfl
    · exact pm_cokS (Ct_X5_isOf l sk) ykX5_isOf (by decide) (by decide) (by decide +kernel) (Or.inl (pm_WS_mem 1409 (by decide +kernel) rfl))
    · exact pm_cokV (i := 5) (Ct_X5_of l sk) ykX5_of (by decide) (by decide) rfl rfl (by decide) (by decide +kernel) (pm_WS_mem 1374 (by decide +kernel) rfl)))
theorem ykX5_cablesThere : pm_YV yX5_cablesThere cX5_cablesThere 3 (some .int) := ⟨(pm_WS_mem 1683 (by decide +kernel) rfl), (pm_WS_mem 130 (by decide +kernel) rfl), ⟨by decide +kernel, by decide +kernel⟩, (pm_WS_mem 1682 (by decide +kernel) rfl), (pm_WS_mem 110 (by decide +kernel) rfl)⟩
def eX5_cablesThere : pm_E := (cX5_cablesThere, fX5, pm_as [(142, 2, some 5, T_X5_isThere)], fun _ => none, fun _ => none, fun _ => none, some .int)
theorem zX5_cablesThere_B : pm_eB eX5_cablesThere = cX5_cablesThere := rfl
theorem zX5_cablesThere_F : pm_eF eX5_cablesThere = fX5 := rfl
theorem zX5_cablesThere_R : pm_eR eX5_cablesThere = some .int := rfl
theorem zX5_cablesThere_X (n : Nat) : pm_eX eX5_cablesThere n = none := rfl
theorem zX5_cablesThere_C142 : pm_eC eX5_cablesThere 142 = some (2, some 5, T_X5_isThere) := rfl
def T_X5_cablesThere : pm_T := pm_M eX5_cablesThere 3
theorem Ct_X5_cablesThere (l : Launch) (sk : Nat → Nat) : pm_Ct l sk yX5_cablesThere cX5_cablesThere 3 (some .int) 4 (T_X5_cablesThere) := pm_met eX5_cablesThere (by decide) rfl rfl (fun _ => rfl) (fun _ => rfl) fX5_ok (fun _ _ h => by cases h) (pm_tabC (by
    intro q hq
    simp only [List.mem_cons, List.not_mem_nil, or_false] at hq
    rcases hq with rfl
    · exact pm_cokV (i := 5) (Ct_X5_isThere l sk) ykX5_isThere (by decide) (by decide) rfl rfl (by decide) (by decide +kernel) (pm_WS_mem 1421 (by decide +kernel) rfl)))
theorem ykX5_odds : pm_YV yX5_odds cX5_odds 7 (some .int) := ⟨(pm_WS_mem 1679 (by decide +kernel) rfl), (pm_WS_mem 130 (by decide +kernel) rfl), ⟨by decide +kernel, by decide +kernel⟩, (pm_WS_mem 1677 (by decide +kernel) rfl), (pm_WS_mem 1678 (by decide +kernel) rfl)⟩
def eX5_odds : pm_E := (cX5_odds, fX5, pm_as [(105, 2, some 5, T_X5_isNode), (332, 1, some 5, T_X5_cablesThere), (142, 2, some 5, T_X5_isThere), (335, 5, some 5, T_X5_doTie)], fun _ => none, fun _ => none, fun _ => none, some .int)
theorem zX5_odds_B : pm_eB eX5_odds = cX5_odds := rfl
theorem zX5_odds_F : pm_eF eX5_odds = fX5 := rfl
theorem zX5_odds_R : pm_eR eX5_odds = some .int := rfl
theorem zX5_odds_X (n : Nat) : pm_eX eX5_odds n = none := rfl
theorem zX5_odds_C105 : pm_eC eX5_odds 105 = some (2, some 5, T_X5_isNode) := rfl
theorem zX5_odds_C332 : pm_eC eX5_odds 332 = some (1, some 5, T_X5_cablesThere) := rfl
theorem zX5_odds_C142 : pm_eC eX5_odds 142 = some (2, some 5, T_X5_isThere) := rfl
theorem zX5_odds_C335 : pm_eC eX5_odds 335 = some (5, some 5, T_X5_doTie) := rfl
def T_X5_odds : pm_T := pm_M eX5_odds 7
theorem Ct_X5_odds (l : Launch) (sk : Nat → Nat) : pm_Ct l sk yX5_odds cX5_odds 7 (some .int) 5 (T_X5_odds) := pm_met eX5_odds (by decide) rfl rfl (fun _ => rfl) (fun _ => rfl) fX5_ok (fun _ _ h => by cases h) (pm_tabC (by
    intro q hq
    simp only [List.mem_cons, List.not_mem_nil, or_false] at hq
    rcases hq with rfl | rfl | rfl | rfl
    · exact pm_cokV (i := 5) (Ct_X5_isNode l sk) ykX5_isNode (by decide) (by decide) rfl rfl (by decide) (by decide +kernel) (pm_WS_mem 1358 (by decide +kernel) rfl)
    · exact pm_cokV (i := 5) (Ct_X5_cablesThere l sk) ykX5_cablesThere (by decide) (by decide) rfl rfl (by decide) (by decide +kernel) (pm_WS_mem 1680 (by decide +kernel) rfl)
    · exact pm_cokV (i := 5) (Ct_X5_isThere l sk) ykX5_isThere (by decide) (by decide) rfl rfl (by decide) (by decide +kernel) (pm_WS_mem 1421 (by decide +kernel) rfl)
    · exact pm_cokV (i := 5) (Ct_X5_doTie l sk) ykX5_doTie (by decide) (by decide) rfl rfl (by decide) (by decide +kernel) (pm_WS_mem 1684 (by decide +kernel) rfl)))
theorem ykX5_cheapest : pm_YV yX5_cheapest cX5_cheapest 7 (some .int) := ⟨(pm_WS_mem 1767 (by decide +kernel) rfl), (pm_WS_mem 130 (by decide +kernel) rfl), ⟨by decide +kernel, by decide +kernel⟩, (pm_WS_mem 1766 (by decide +kernel) rfl), (pm_WS_mem 123 (by decide +kernel) rfl)⟩
def eX5_cheapest : pm_E := (cX5_cheapest, fX5, pm_as [(142, 2, some 5, T_X5_isThere), (69, 3, some 5, T_X5_of)], fun _ => none, fun _ => none, fun _ => none, some .int)
theorem zX5_cheapest_B : pm_eB eX5_cheapest = cX5_cheapest := rfl
theorem zX5_cheapest_F : pm_eF eX5_cheapest = fX5 := rfl
theorem zX5_cheapest_R : pm_eR eX5_cheapest = some .int := rfl
theorem zX5_cheapest_X (n : Nat) : pm_eX eX5_cheapest n = none := rfl
theorem zX5_cheapest_C142 : pm_eC eX5_cheapest 142 = some (2, some 5, T_X5_isThere) := rfl
theorem zX5_cheapest_C69 : pm_eC eX5_cheapest 69 = some (3, some 5, T_X5_of) := rfl
def T_X5_cheapest : pm_T := pm_M eX5_cheapest 7
theorem Ct_X5_cheapest (l : Launch) (sk : Nat → Nat) : pm_Ct l sk yX5_cheapest cX5_cheapest 7 (some .int) 4 (T_X5_cheapest) := pm_met eX5_cheapest (by decide) rfl rfl (fun _ => rfl) (fun _ => rfl) fX5_ok (fun _ _ h => by cases h) (pm_tabC (by
    intro q hq
    simp only [List.mem_cons, List.not_mem_nil, or_false] at hq
    rcases hq with rfl | rfl
    · exact pm_cokV (i := 5) (Ct_X5_isThere l sk) ykX5_isThere (by decide) (by decide) rfl rfl (by decide) (by decide +kernel) (pm_WS_mem 1421 (by decide +kernel) rfl)
    · exact pm_cokV (i := 5) (Ct_X5_of l sk) ykX5_of (by decide) (by decide) rfl rfl (by decide) (by decide +kernel) (pm_WS_mem 1374 (by decide +kernel) rfl)))
theorem ykX5_pays : pm_YV yX5_pays cX5_pays 4 (none) := ⟨(pm_WS_mem 1695 (by decide +kernel) rfl), (pm_WS_mem 130 (by decide +kernel) rfl), ⟨by decide +kernel, by decide +kernel⟩, (pm_WS_mem 1694 (by decide +kernel) rfl), (pm_WS_mem 112 (by decide +kernel) rfl)⟩
def eX5_pays : pm_E := (cX5_pays, fX5, fun _ => none, fun _ => none, fun _ => none, fun _ => none, none)
theorem zX5_pays_B : pm_eB eX5_pays = cX5_pays := rfl
theorem zX5_pays_F : pm_eF eX5_pays = fX5 := rfl
theorem zX5_pays_R : pm_eR eX5_pays = none := rfl
theorem zX5_pays_X (n : Nat) : pm_eX eX5_pays n = none := rfl
def T_X5_pays : pm_T := pm_M eX5_pays 4
theorem Ct_X5_pays (l : Launch) (sk : Nat → Nat) : pm_Ct l sk yX5_pays cX5_pays 4 (none) 1 (T_X5_pays) := pm_met eX5_pays (by decide) rfl rfl (fun _ => rfl) (fun _ => rfl) fX5_ok (fun _ _ h => by cases h) (fun _ _ _ _ h => by cases h)
theorem ykX5_fare : pm_YV yX5_fare cX5_fare 5 (some .int) := ⟨(pm_WS_mem 1691 (by decide +kernel) rfl), (pm_WS_mem 130 (by decide +kernel) rfl), ⟨by decide +kernel, by decide +kernel⟩, (pm_WS_mem 1689 (by decide +kernel) rfl), (pm_WS_mem 1690 (by decide +kernel) rfl)⟩
def eX5_fare : pm_E := (cX5_fare, fX5, pm_as [(105, 2, some 5, T_X5_isNode), (142, 2, some 5, T_X5_isThere), (69, 3, some 5, T_X5_of), (339, 4, some 5, T_X5_pays)], fun _ => none, fun _ => none, fun _ => none, some .int)
theorem zX5_fare_B : pm_eB eX5_fare = cX5_fare := rfl
theorem zX5_fare_F : pm_eF eX5_fare = fX5 := rfl
theorem zX5_fare_R : pm_eR eX5_fare = some .int := rfl
theorem zX5_fare_X (n : Nat) : pm_eX eX5_fare n = none := rfl
theorem zX5_fare_C105 : pm_eC eX5_fare 105 = some (2, some 5, T_X5_isNode) := rfl
theorem zX5_fare_C142 : pm_eC eX5_fare 142 = some (2, some 5, T_X5_isThere) := rfl
theorem zX5_fare_C69 : pm_eC eX5_fare 69 = some (3, some 5, T_X5_of) := rfl
theorem zX5_fare_C339 : pm_eC eX5_fare 339 = some (4, some 5, T_X5_pays) := rfl
def T_X5_fare : pm_T := pm_M eX5_fare 5
theorem Ct_X5_fare (l : Launch) (sk : Nat → Nat) : pm_Ct l sk yX5_fare cX5_fare 5 (some .int) 4 (T_X5_fare) := pm_met eX5_fare (by decide) rfl rfl (fun _ => rfl) (fun _ => rfl) fX5_ok (fun _ _ h => by cases h) (pm_tabC (by
    intro q hq
    simp only [List.mem_cons, List.not_mem_nil, or_false] at hq
    rcases hq with rfl | rfl | rfl | rfl
    · exact pm_cokV (i := 5) (Ct_X5_isNode l sk) ykX5_isNode (by decide) (by decide) rfl rfl (by decide) (by decide +kernel) (pm_WS_mem 1358 (by decide +kernel) rfl)
    · exact pm_cokV (i := 5) (Ct_X5_isThere l sk) ykX5_isThere (by decide) (by decide) rfl rfl (by decide) (by decide +kernel) (pm_WS_mem 1421 (by decide +kernel) rfl)
    · exact pm_cokV (i := 5) (Ct_X5_of l sk) ykX5_of (by decide) (by decide) rfl rfl (by decide) (by decide +kernel) (pm_WS_mem 1374 (by decide +kernel) rfl)
    · exact pm_cokV (i := 5) (Ct_X5_pays l sk) ykX5_pays (by decide) (by decide) rfl rfl (by decide) (by decide +kernel) (pm_WS_mem 1692 (by decide +kernel) rfl)))
theorem ykX5_named : pm_YV yX5_named cX5_named 3 (some .int) := ⟨(pm_WS_mem 1699 (by decide +kernel) rfl), (pm_WS_mem 130 (by decide +kernel) rfl), ⟨by decide +kernel, by decide +kernel⟩, (pm_WS_mem 1697 (by decide +kernel) rfl), (pm_WS_mem 1698 (by decide +kernel) rfl)⟩
def eX5_named : pm_E := (cX5_named, fX5, fun _ => none, fun _ => none, fun _ => none, fun _ => none, some .int)
theorem zX5_named_B : pm_eB eX5_named = cX5_named := rfl
theorem zX5_named_F : pm_eF eX5_named = fX5 := rfl
theorem zX5_named_R : pm_eR eX5_named = some .int := rfl
theorem zX5_named_X (n : Nat) : pm_eX eX5_named n = none := rfl
def T_X5_named : pm_T := pm_M eX5_named 3
theorem Ct_X5_named (l : Launch) (sk : Nat → Nat) : pm_Ct l sk yX5_named cX5_named 3 (some .int) 1 (T_X5_named) := pm_met eX5_named (by decide) rfl rfl (fun _ => rfl) (fun _ => rfl) fX5_ok (fun _ _ h => by cases h) (fun _ _ _ _ h => by cases h)
theorem ykX5_bracketOf : pm_YV yX5_bracketOf cX5_bracketOf 7 (some .int) := ⟨(pm_WS_mem 1711 (by decide +kernel) rfl), (pm_WS_mem 130 (by decide +kernel) rfl), ⟨by decide +kernel, by decide +kernel⟩, (pm_WS_mem 1710 (by decide +kernel) rfl), (pm_WS_mem 114 (by decide +kernel) rfl)⟩
def eX5_bracketOf : pm_E := (cX5_bracketOf, fX5, pm_as [(80, 3, some 5, T_X5_slotOf), (76, 3, none, T_X5_placeOf), (305, 4, some 5, T_X5_opens)], fun _ => none, fun _ => none, fun _ => none, some .int)
theorem zX5_bracketOf_B : pm_eB eX5_bracketOf = cX5_bracketOf := rfl
theorem zX5_bracketOf_F : pm_eF eX5_bracketOf = fX5 := rfl
theorem zX5_bracketOf_R : pm_eR eX5_bracketOf = some .int := rfl
theorem zX5_bracketOf_X (n : Nat) : pm_eX eX5_bracketOf n = none := rfl
theorem zX5_bracketOf_C80 : pm_eC eX5_bracketOf 80 = some (3, some 5, T_X5_slotOf) := rfl
theorem zX5_bracketOf_C76 : pm_eC eX5_bracketOf 76 = some (3, none, T_X5_placeOf) := rfl
theorem zX5_bracketOf_C305 : pm_eC eX5_bracketOf 305 = some (4, some 5, T_X5_opens) := rfl
def T_X5_bracketOf : pm_T := pm_M eX5_bracketOf 7
theorem Ct_X5_bracketOf (l : Launch) (sk : Nat → Nat) : pm_Ct l sk yX5_bracketOf cX5_bracketOf 7 (some .int) 3 (T_X5_bracketOf) := pm_met eX5_bracketOf (by decide) rfl rfl (fun _ => rfl) (fun _ => rfl) fX5_ok (fun _ _ h => by cases h) (pm_tabC (by
    intro q hq
    simp only [List.mem_cons, List.not_mem_nil, or_false] at hq
    rcases hq with rfl | rfl | rfl
    · exact pm_cokV (i := 5) (Ct_X5_slotOf l sk) ykX5_slotOf (by decide) (by decide) rfl rfl (by decide) (by decide +kernel) (pm_WS_mem 1370 (by decide +kernel) rfl)
    · exact pm_cokS (Ct_X5_placeOf l sk) ykX5_placeOf (by decide) (by decide) (by decide +kernel) (Or.inl (pm_WS_mem 1209 (by decide +kernel) rfl))
    · exact pm_cokV (i := 5) (Ct_X5_opens l sk) ykX5_opens (by decide) (by decide) rfl rfl (by decide) (by decide +kernel) (pm_WS_mem 1616 (by decide +kernel) rfl)))
theorem ykX5_aboveOf : pm_YV yX5_aboveOf cX5_aboveOf 4 (some .int) := ⟨(pm_WS_mem 1707 (by decide +kernel) rfl), (pm_WS_mem 130 (by decide +kernel) rfl), ⟨by decide +kernel, by decide +kernel⟩, (pm_WS_mem 1706 (by decide +kernel) rfl), (pm_WS_mem 113 (by decide +kernel) rfl)⟩
def eX5_aboveOf : pm_E := (cX5_aboveOf, fX5, pm_as [(342, 3, some 5, T_X5_bracketOf), (69, 3, some 5, T_X5_of)], fun _ => none, fun _ => none, fun _ => none, some .int)
theorem zX5_aboveOf_B : pm_eB eX5_aboveOf = cX5_aboveOf := rfl
theorem zX5_aboveOf_F : pm_eF eX5_aboveOf = fX5 := rfl
theorem zX5_aboveOf_R : pm_eR eX5_aboveOf = some .int := rfl
theorem zX5_aboveOf_X (n : Nat) : pm_eX eX5_aboveOf n = none := rfl
theorem zX5_aboveOf_C342 : pm_eC eX5_aboveOf 342 = some (3, some 5, T_X5_bracketOf) := rfl
theorem zX5_aboveOf_C69 : pm_eC eX5_aboveOf 69 = some (3, some 5, T_X5_of) := rfl
def T_X5_aboveOf : pm_T := pm_M eX5_aboveOf 4
theorem Ct_X5_aboveOf (l : Launch) (sk : Nat → Nat) : pm_Ct l sk yX5_aboveOf cX5_aboveOf 4 (some .int) 4 (T_X5_aboveOf) := pm_met eX5_aboveOf (by decide) rfl rfl (fun _ => rfl) (fun _ => rfl) fX5_ok (fun _ _ h => by cases h) (pm_tabC (by
    intro q hq
    simp only [List.mem_cons, List.not_mem_nil, or_false] at hq
    rcases hq with rfl | rfl
    · exact pm_cokV (i := 5) (Ct_X5_bracketOf l sk) ykX5_bracketOf (by decide) (by decide) rfl rfl (by decide) (by decide +kernel) (pm_WS_mem 1708 (by decide +kernel) rfl)
    · exact pm_cokV (i := 5) (Ct_X5_of l sk) ykX5_of (by decide) (by decide) rfl rfl (by decide) (by decide +kernel) (pm_WS_mem 1374 (by decide +kernel) rfl)))
theorem ykX5_isBelow : pm_YV yX5_isBelow cX5_isBelow 5 (some .boolean) := ⟨(pm_WS_mem 1719 (by decide +kernel) rfl), (pm_WS_mem 130 (by decide +kernel) rfl), ⟨by decide +kernel, by decide +kernel⟩, (pm_WS_mem 1718 (by decide +kernel) rfl), (pm_WS_mem 116 (by decide +kernel) rfl)⟩
def eX5_isBelow : pm_E := (cX5_isBelow, fX5, pm_as [(345, 3, some 5, T_X5_aboveOf)], fun _ => none, fun _ => none, fun _ => none, some .boolean)
theorem zX5_isBelow_B : pm_eB eX5_isBelow = cX5_isBelow := rfl
theorem zX5_isBelow_F : pm_eF eX5_isBelow = fX5 := rfl
theorem zX5_isBelow_R : pm_eR eX5_isBelow = some .boolean := rfl
theorem zX5_isBelow_X (n : Nat) : pm_eX eX5_isBelow n = none := rfl
theorem zX5_isBelow_C345 : pm_eC eX5_isBelow 345 = some (3, some 5, T_X5_aboveOf) := rfl
def T_X5_isBelow : pm_T := pm_M eX5_isBelow 5
theorem Ct_X5_isBelow (l : Launch) (sk : Nat → Nat) : pm_Ct l sk yX5_isBelow cX5_isBelow 5 (some .boolean) 5 (T_X5_isBelow) := pm_met eX5_isBelow (by decide) rfl rfl (fun _ => rfl) (fun _ => rfl) fX5_ok (fun _ _ h => by cases h) (pm_tabC (by
    intro q hq
    simp only [List.mem_cons, List.not_mem_nil, or_false] at hq
    rcases hq with rfl
    · exact pm_cokV (i := 5) (Ct_X5_aboveOf l sk) ykX5_aboveOf (by decide) (by decide) rfl rfl (by decide) (by decide +kernel) (pm_WS_mem 1704 (by decide +kernel) rfl)))
theorem ykX5_belowOf : pm_YV yX5_belowOf cX5_belowOf 5 (some .int) := ⟨(pm_WS_mem 1715 (by decide +kernel) rfl), (pm_WS_mem 130 (by decide +kernel) rfl), ⟨by decide +kernel, by decide +kernel⟩, (pm_WS_mem 1714 (by decide +kernel) rfl), (pm_WS_mem 115 (by decide +kernel) rfl)⟩
def eX5_belowOf : pm_E := (cX5_belowOf, fX5, pm_as [(98, 4, some 5, T_X5_areOne), (348, 4, some 5, T_X5_isBelow)], fun _ => none, fun _ => none, fun _ => none, some .int)
theorem zX5_belowOf_B : pm_eB eX5_belowOf = cX5_belowOf := rfl
theorem zX5_belowOf_F : pm_eF eX5_belowOf = fX5 := rfl
theorem zX5_belowOf_R : pm_eR eX5_belowOf = some .int := rfl
theorem zX5_belowOf_X (n : Nat) : pm_eX eX5_belowOf n = none := rfl
theorem zX5_belowOf_C98 : pm_eC eX5_belowOf 98 = some (4, some 5, T_X5_areOne) := rfl
theorem zX5_belowOf_C348 : pm_eC eX5_belowOf 348 = some (4, some 5, T_X5_isBelow) := rfl
def T_X5_belowOf : pm_T := pm_M eX5_belowOf 5
theorem Ct_X5_belowOf (l : Launch) (sk : Nat → Nat) : pm_Ct l sk yX5_belowOf cX5_belowOf 5 (some .int) 6 (T_X5_belowOf) := pm_met eX5_belowOf (by decide) rfl rfl (fun _ => rfl) (fun _ => rfl) fX5_ok (fun _ _ h => by cases h) (pm_tabC (by
    intro q hq
    simp only [List.mem_cons, List.not_mem_nil, or_false] at hq
    rcases hq with rfl | rfl
    · exact pm_cokV (i := 5) (Ct_X5_areOne l sk) ykX5_areOne (by decide) (by decide) rfl rfl (by decide) (by decide +kernel) (pm_WS_mem 1366 (by decide +kernel) rfl)
    · exact pm_cokV (i := 5) (Ct_X5_isBelow l sk) ykX5_isBelow (by decide) (by decide) rfl rfl (by decide) (by decide +kernel) (pm_WS_mem 1716 (by decide +kernel) rfl)))
theorem ykX5_kin : pm_YV yX5_kin cX5_kin 4 (some .int) := ⟨(pm_WS_mem 1703 (by decide +kernel) rfl), (pm_WS_mem 130 (by decide +kernel) rfl), ⟨by decide +kernel, by decide +kernel⟩, (pm_WS_mem 1701 (by decide +kernel) rfl), (pm_WS_mem 1702 (by decide +kernel) rfl)⟩
def eX5_kin : pm_E := (cX5_kin, fX5, pm_as [(296, 2, some 5, T_X5_isLevel), (105, 2, some 5, T_X5_isNode), (61, 3, none, T_X5_isIn), (345, 3, some 5, T_X5_aboveOf), (351, 3, some 5, T_X5_belowOf)], fun _ => none, fun _ => none, fun _ => none, some .int)
theorem zX5_kin_B : pm_eB eX5_kin = cX5_kin := rfl
theorem zX5_kin_F : pm_eF eX5_kin = fX5 := rfl
theorem zX5_kin_R : pm_eR eX5_kin = some .int := rfl
theorem zX5_kin_X (n : Nat) : pm_eX eX5_kin n = none := rfl
theorem zX5_kin_C296 : pm_eC eX5_kin 296 = some (2, some 5, T_X5_isLevel) := rfl
theorem zX5_kin_C105 : pm_eC eX5_kin 105 = some (2, some 5, T_X5_isNode) := rfl
theorem zX5_kin_C61 : pm_eC eX5_kin 61 = some (3, none, T_X5_isIn) := rfl
theorem zX5_kin_C345 : pm_eC eX5_kin 345 = some (3, some 5, T_X5_aboveOf) := rfl
theorem zX5_kin_C351 : pm_eC eX5_kin 351 = some (3, some 5, T_X5_belowOf) := rfl
def T_X5_kin : pm_T := pm_M eX5_kin 4
theorem Ct_X5_kin (l : Launch) (sk : Nat → Nat) : pm_Ct l sk yX5_kin cX5_kin 4 (some .int) 7 (T_X5_kin) := pm_met eX5_kin (by decide) rfl rfl (fun _ => rfl) (fun _ => rfl) fX5_ok (fun _ _ h => by cases h) (pm_tabC (by
    intro q hq
    simp only [List.mem_cons, List.not_mem_nil, or_false] at hq
    rcases hq with rfl | rfl | rfl | rfl | rfl
    · exact pm_cokV (i := 5) (Ct_X5_isLevel l sk) ykX5_isLevel (by decide) (by decide) rfl rfl (by decide) (by decide +kernel) (pm_WS_mem 1596 (by decide +kernel) rfl)
    · exact pm_cokV (i := 5) (Ct_X5_isNode l sk) ykX5_isNode (by decide) (by decide) rfl rfl (by decide) (by decide +kernel) (pm_WS_mem 1358 (by decide +kernel) rfl)
    · exact pm_cokS (Ct_X5_isIn l sk) ykX5_isIn (by decide) (by decide) (by decide +kernel) (Or.inl (pm_WS_mem 1303 (by decide +kernel) rfl))
    · exact pm_cokV (i := 5) (Ct_X5_aboveOf l sk) ykX5_aboveOf (by decide) (by decide) rfl rfl (by decide) (by decide +kernel) (pm_WS_mem 1704 (by decide +kernel) rfl)
    · exact pm_cokV (i := 5) (Ct_X5_belowOf l sk) ykX5_belowOf (by decide) (by decide) rfl rfl (by decide) (by decide +kernel) (pm_WS_mem 1712 (by decide +kernel) rfl)))
theorem ykX5_meet : pm_YV yX5_meet cX5_meet 5 (some .int) := ⟨(pm_WS_mem 1723 (by decide +kernel) rfl), (pm_WS_mem 130 (by decide +kernel) rfl), ⟨by decide +kernel, by decide +kernel⟩, (pm_WS_mem 1721 (by decide +kernel) rfl), (pm_WS_mem 1722 (by decide +kernel) rfl)⟩
def eX5_meet : pm_E := (cX5_meet, fX5, pm_as [(296, 2, some 5, T_X5_isLevel), (105, 2, some 5, T_X5_isNode), (348, 4, some 5, T_X5_isBelow), (345, 3, some 5, T_X5_aboveOf)], fun _ => none, fun _ => none, fun _ => none, some .int)
theorem zX5_meet_B : pm_eB eX5_meet = cX5_meet := rfl
theorem zX5_meet_F : pm_eF eX5_meet = fX5 := rfl
theorem zX5_meet_R : pm_eR eX5_meet = some .int := rfl
theorem zX5_meet_X (n : Nat) : pm_eX eX5_meet n = none := rfl
theorem zX5_meet_C296 : pm_eC eX5_meet 296 = some (2, some 5, T_X5_isLevel) := rfl
theorem zX5_meet_C105 : pm_eC eX5_meet 105 = some (2, some 5, T_X5_isNode) := rfl
theorem zX5_meet_C348 : pm_eC eX5_meet 348 = some (4, some 5, T_X5_isBelow) := rfl
theorem zX5_meet_C345 : pm_eC eX5_meet 345 = some (3, some 5, T_X5_aboveOf) := rfl
def T_X5_meet : pm_T := pm_M eX5_meet 5
theorem Ct_X5_meet (l : Launch) (sk : Nat → Nat) : pm_Ct l sk yX5_meet cX5_meet 5 (some .int) 6 (T_X5_meet) := pm_met eX5_meet (by decide) rfl rfl (fun _ => rfl) (fun _ => rfl) fX5_ok (fun _ _ h => by cases h) (pm_tabC (by
    intro q hq
    simp only [List.mem_cons, List.not_mem_nil, or_false] at hq
    rcases hq with rfl | rfl | rfl | rfl
    · exact pm_cokV (i := 5) (Ct_X5_isLevel l sk) ykX5_isLevel (by decide) (by decide) rfl rfl (by decide) (by decide +kernel) (pm_WS_mem 1596 (by decide +kernel) rfl)
    · exact pm_cokV (i := 5) (Ct_X5_isNode l sk) ykX5_isNode (by decide) (by decide) rfl rfl (by decide) (by decide +kernel) (pm_WS_mem 1358 (by decide +kernel) rfl)
    · exact pm_cokV (i := 5) (Ct_X5_isBelow l sk) ykX5_isBelow (by decide) (by decide) rfl rfl (by decide) (by decide +kernel) (pm_WS_mem 1716 (by decide +kernel) rfl)
    · exact pm_cokV (i := 5) (Ct_X5_aboveOf l sk) ykX5_aboveOf (by decide) (by decide) rfl rfl (by decide) (by decide +kernel) (pm_WS_mem 1704 (by decide +kernel) rfl)))
theorem ykX5_log : pm_YV yX5_log cX5_log 3 (some .int) := ⟨(pm_WS_mem 1727 (by decide +kernel) rfl), (pm_WS_mem 130 (by decide +kernel) rfl), ⟨by decide +kernel, by decide +kernel⟩, (pm_WS_mem 1725 (by decide +kernel) rfl), (pm_WS_mem 1726 (by decide +kernel) rfl)⟩
def eX5_log : pm_E := (cX5_log, fX5, pm_as [(61, 3, none, T_X5_isIn)], fun _ => none, fun _ => none, fun _ => none, some .int)
theorem zX5_log_B : pm_eB eX5_log = cX5_log := rfl
theorem zX5_log_F : pm_eF eX5_log = fX5 := rfl
theorem zX5_log_R : pm_eR eX5_log = some .int := rfl
theorem zX5_log_X (n : Nat) : pm_eX eX5_log n = none := rfl
theorem zX5_log_C61 : pm_eC eX5_log 61 = some (3, none, T_X5_isIn) := rfl
def T_X5_log : pm_T := pm_M eX5_log 3
theorem Ct_X5_log (l : Launch) (sk : Nat → Nat) : pm_Ct l sk yX5_log cX5_log 3 (some .int) 2 (T_X5_log) := pm_met eX5_log (by decide) rfl rfl (fun _ => rfl) (fun _ => rfl) fX5_ok (fun _ _ h => by cases h) (pm_tabC (by
    intro q hq
    simp only [List.mem_cons, List.not_mem_nil, or_false] at hq
    rcases hq with rfl
    · exact pm_cokS (Ct_X5_isIn l sk) ykX5_isIn (by decide) (by decide) (by decide +kernel) (Or.inl (pm_WS_mem 1303 (by decide +kernel) rfl))))
theorem ykX5_image : pm_YV yX5_image cX5_image 2 (none) := ⟨(pm_WS_mem 1731 (by decide +kernel) rfl), (pm_WS_mem 130 (by decide +kernel) rfl), ⟨by decide +kernel, by decide +kernel⟩, (pm_WS_mem 1729 (by decide +kernel) rfl), (pm_WS_mem 1730 (by decide +kernel) rfl)⟩
def eX5_image : pm_E := (cX5_image, fX5, fun _ => none, fun _ => none, fun _ => none, fun _ => none, none)
theorem zX5_image_B : pm_eB eX5_image = cX5_image := rfl
theorem zX5_image_F : pm_eF eX5_image = fX5 := rfl
theorem zX5_image_R : pm_eR eX5_image = none := rfl
theorem zX5_image_X (n : Nat) : pm_eX eX5_image n = none := rfl
def T_X5_image : pm_T := pm_M eX5_image 2
theorem Ct_X5_image (l : Launch) (sk : Nat → Nat) : pm_Ct l sk yX5_image cX5_image 2 (none) 1 (T_X5_image) := pm_met eX5_image (by decide) rfl rfl (fun _ => rfl) (fun _ => rfl) fX5_ok (fun _ _ h => by cases h) (fun _ _ _ _ h => by cases h)
theorem ykX5_back : pm_YV yX5_back cX5_back 2 (some .boolean) := ⟨(pm_WS_mem 1735 (by decide +kernel) rfl), (pm_WS_mem 130 (by decide +kernel) rfl), ⟨by decide +kernel, by decide +kernel⟩, (pm_WS_mem 1733 (by decide +kernel) rfl), (pm_WS_mem 1734 (by decide +kernel) rfl)⟩
def eX5_back : pm_E := (cX5_back, fX5, fun _ => none, fun _ => none, fun _ => none, fun _ => none, some .boolean)
theorem zX5_back_B : pm_eB eX5_back = cX5_back := rfl
theorem zX5_back_F : pm_eF eX5_back = fX5 := rfl
theorem zX5_back_R : pm_eR eX5_back = some .boolean := rfl
theorem zX5_back_X (n : Nat) : pm_eX eX5_back n = none := rfl
def T_X5_back : pm_T := pm_M eX5_back 2
theorem Ct_X5_back (l : Launch) (sk : Nat → Nat) : pm_Ct l sk yX5_back cX5_back 2 (some .boolean) 1 (T_X5_back) := pm_met eX5_back (by decide) rfl rfl (fun _ => rfl) (fun _ => rfl) fX5_ok (fun _ _ h => by cases h) (fun _ _ _ _ h => by cases h)
theorem ykX5_bridges : pm_YV yX5_bridges cX5_bridges 3 (some .int) := ⟨(pm_WS_mem 1743 (by decide +kernel) rfl), (pm_WS_mem 130 (by decide +kernel) rfl), ⟨by decide +kernel, by decide +kernel⟩, (pm_WS_mem 1742 (by decide +kernel) rfl), (pm_WS_mem 117 (by decide +kernel) rfl)⟩
def eX5_bridges : pm_E := (cX5_bridges, fX5, pm_as [(317, 2, some 5, T_X5_isBridge)], fun _ => none, fun _ => none, fun _ => none, some .int)
theorem zX5_bridges_B : pm_eB eX5_bridges = cX5_bridges := rfl
theorem zX5_bridges_F : pm_eF eX5_bridges = fX5 := rfl
theorem zX5_bridges_R : pm_eR eX5_bridges = some .int := rfl
theorem zX5_bridges_X (n : Nat) : pm_eX eX5_bridges n = none := rfl
theorem zX5_bridges_C317 : pm_eC eX5_bridges 317 = some (2, some 5, T_X5_isBridge) := rfl
def T_X5_bridges : pm_T := pm_M eX5_bridges 3
theorem Ct_X5_bridges (l : Launch) (sk : Nat → Nat) : pm_Ct l sk yX5_bridges cX5_bridges 3 (some .int) 6 (T_X5_bridges) := pm_met eX5_bridges (by decide) rfl rfl (fun _ => rfl) (fun _ => rfl) fX5_ok (fun _ _ h => by cases h) (pm_tabC (by
    intro q hq
    simp only [List.mem_cons, List.not_mem_nil, or_false] at hq
    rcases hq with rfl
    · exact pm_cokV (i := 5) (Ct_X5_isBridge l sk) ykX5_isBridge (by decide) (by decide) rfl rfl (by decide) (by decide +kernel) (pm_WS_mem 1580 (by decide +kernel) rfl)))
theorem ykX5_width : pm_YV yX5_width cX5_width 4 (some .int) := ⟨(pm_WS_mem 1747 (by decide +kernel) rfl), (pm_WS_mem 130 (by decide +kernel) rfl), ⟨by decide +kernel, by decide +kernel⟩, (pm_WS_mem 1746 (by decide +kernel) rfl), (pm_WS_mem 118 (by decide +kernel) rfl)⟩
def eX5_width : pm_E := (cX5_width, fX5, pm_as [(287, 2, some 5, T_X5_span)], fun _ => none, fun _ => none, fun _ => none, some .int)
theorem zX5_width_B : pm_eB eX5_width = cX5_width := rfl
theorem zX5_width_F : pm_eF eX5_width = fX5 := rfl
theorem zX5_width_R : pm_eR eX5_width = some .int := rfl
theorem zX5_width_X (n : Nat) : pm_eX eX5_width n = none := rfl
theorem zX5_width_C287 : pm_eC eX5_width 287 = some (2, some 5, T_X5_span) := rfl
def T_X5_width : pm_T := pm_M eX5_width 4
theorem Ct_X5_width (l : Launch) (sk : Nat → Nat) : pm_Ct l sk yX5_width cX5_width 4 (some .int) 6 (T_X5_width) := pm_met eX5_width (by decide) rfl rfl (fun _ => rfl) (fun _ => rfl) fX5_ok (fun _ _ h => by cases h) (pm_tabC (by
    intro q hq
    simp only [List.mem_cons, List.not_mem_nil, or_false] at hq
    rcases hq with rfl
    · exact pm_cokV (i := 5) (Ct_X5_span l sk) ykX5_span (by decide) (by decide) rfl rfl (by decide) (by decide +kernel) (pm_WS_mem 1564 (by decide +kernel) rfl)))
theorem ykX5_areAlike : pm_YV yX5_areAlike cX5_areAlike 3 (some .boolean) := ⟨(pm_WS_mem 1755 (by decide +kernel) rfl), (pm_WS_mem 130 (by decide +kernel) rfl), ⟨by decide +kernel, by decide +kernel⟩, (pm_WS_mem 1754 (by decide +kernel) rfl), (pm_WS_mem 120 (by decide +kernel) rfl)⟩
def eX5_areAlike : pm_E := (cX5_areAlike, fX5, pm_as [(69, 3, some 5, T_X5_of)], fun _ => none, fun _ => none, fun _ => none, some .boolean)
theorem zX5_areAlike_B : pm_eB eX5_areAlike = cX5_areAlike := rfl
theorem zX5_areAlike_F : pm_eF eX5_areAlike = fX5 := rfl
theorem zX5_areAlike_R : pm_eR eX5_areAlike = some .boolean := rfl
theorem zX5_areAlike_X (n : Nat) : pm_eX eX5_areAlike n = none := rfl
theorem zX5_areAlike_C69 : pm_eC eX5_areAlike 69 = some (3, some 5, T_X5_of) := rfl
def T_X5_areAlike : pm_T := pm_M eX5_areAlike 3
theorem Ct_X5_areAlike (l : Launch) (sk : Nat → Nat) : pm_Ct l sk yX5_areAlike cX5_areAlike 3 (some .boolean) 2 (T_X5_areAlike) := pm_met eX5_areAlike (by decide) rfl rfl (fun _ => rfl) (fun _ => rfl) fX5_ok (fun _ _ h => by cases h) (pm_tabC (by
    intro q hq
    simp only [List.mem_cons, List.not_mem_nil, or_false] at hq
    rcases hq with rfl
    · exact pm_cokV (i := 5) (Ct_X5_of l sk) ykX5_of (by decide) (by decide) rfl rfl (by decide) (by decide +kernel) (pm_WS_mem 1374 (by decide +kernel) rfl)))
theorem ykX5_doubles : pm_YV yX5_doubles cX5_doubles 4 (some .int) := ⟨(pm_WS_mem 1751 (by decide +kernel) rfl), (pm_WS_mem 130 (by decide +kernel) rfl), ⟨by decide +kernel, by decide +kernel⟩, (pm_WS_mem 1750 (by decide +kernel) rfl), (pm_WS_mem 119 (by decide +kernel) rfl)⟩
def eX5_doubles : pm_E := (cX5_doubles, fX5, pm_as [(142, 2, some 5, T_X5_isThere), (358, 3, some 5, T_X5_areAlike)], fun _ => none, fun _ => none, fun _ => none, some .int)
theorem zX5_doubles_B : pm_eB eX5_doubles = cX5_doubles := rfl
theorem zX5_doubles_F : pm_eF eX5_doubles = fX5 := rfl
theorem zX5_doubles_R : pm_eR eX5_doubles = some .int := rfl
theorem zX5_doubles_X (n : Nat) : pm_eX eX5_doubles n = none := rfl
theorem zX5_doubles_C142 : pm_eC eX5_doubles 142 = some (2, some 5, T_X5_isThere) := rfl
theorem zX5_doubles_C358 : pm_eC eX5_doubles 358 = some (3, some 5, T_X5_areAlike) := rfl
def T_X5_doubles : pm_T := pm_M eX5_doubles 4
theorem Ct_X5_doubles (l : Launch) (sk : Nat → Nat) : pm_Ct l sk yX5_doubles cX5_doubles 4 (some .int) 4 (T_X5_doubles) := pm_met eX5_doubles (by decide) rfl rfl (fun _ => rfl) (fun _ => rfl) fX5_ok (fun _ _ h => by cases h) (pm_tabC (by
    intro q hq
    simp only [List.mem_cons, List.not_mem_nil, or_false] at hq
    rcases hq with rfl | rfl
    · exact pm_cokV (i := 5) (Ct_X5_isThere l sk) ykX5_isThere (by decide) (by decide) rfl rfl (by decide) (by decide +kernel) (pm_WS_mem 1421 (by decide +kernel) rfl)
    · exact pm_cokV (i := 5) (Ct_X5_areAlike l sk) ykX5_areAlike (by decide) (by decide) rfl rfl (by decide) (by decide +kernel) (pm_WS_mem 1752 (by decide +kernel) rfl)))
theorem ykX5_highest : pm_YV yX5_highest cX5_highest 3 (some .int) := ⟨(pm_WS_mem 1759 (by decide +kernel) rfl), (pm_WS_mem 130 (by decide +kernel) rfl), ⟨by decide +kernel, by decide +kernel⟩, (pm_WS_mem 1758 (by decide +kernel) rfl), (pm_WS_mem 121 (by decide +kernel) rfl)⟩
def eX5_highest : pm_E := (cX5_highest, fX5, pm_as [(142, 2, some 5, T_X5_isThere), (69, 3, some 5, T_X5_of)], fun _ => none, fun _ => none, fun _ => none, some .int)
theorem zX5_highest_B : pm_eB eX5_highest = cX5_highest := rfl
theorem zX5_highest_F : pm_eF eX5_highest = fX5 := rfl
theorem zX5_highest_R : pm_eR eX5_highest = some .int := rfl
theorem zX5_highest_X (n : Nat) : pm_eX eX5_highest n = none := rfl
theorem zX5_highest_C142 : pm_eC eX5_highest 142 = some (2, some 5, T_X5_isThere) := rfl
theorem zX5_highest_C69 : pm_eC eX5_highest 69 = some (3, some 5, T_X5_of) := rfl
def T_X5_highest : pm_T := pm_M eX5_highest 3
theorem Ct_X5_highest (l : Launch) (sk : Nat → Nat) : pm_Ct l sk yX5_highest cX5_highest 3 (some .int) 4 (T_X5_highest) := pm_met eX5_highest (by decide) rfl rfl (fun _ => rfl) (fun _ => rfl) fX5_ok (fun _ _ h => by cases h) (pm_tabC (by
    intro q hq
    simp only [List.mem_cons, List.not_mem_nil, or_false] at hq
    rcases hq with rfl | rfl
    · exact pm_cokV (i := 5) (Ct_X5_isThere l sk) ykX5_isThere (by decide) (by decide) rfl rfl (by decide) (by decide +kernel) (pm_WS_mem 1421 (by decide +kernel) rfl)
    · exact pm_cokV (i := 5) (Ct_X5_of l sk) ykX5_of (by decide) (by decide) rfl rfl (by decide) (by decide +kernel) (pm_WS_mem 1374 (by decide +kernel) rfl)))
theorem ykX5_count : pm_YV yX5_count cX5_count 2 (some .int) := ⟨(pm_WS_mem 1739 (by decide +kernel) rfl), (pm_WS_mem 130 (by decide +kernel) rfl), ⟨by decide +kernel, by decide +kernel⟩, (pm_WS_mem 1737 (by decide +kernel) rfl), (pm_WS_mem 1738 (by decide +kernel) rfl)⟩
def eX5_count : pm_E := (cX5_count, fX5, pm_as [(129, 1, some 5, T_X5_height), (332, 1, some 5, T_X5_cablesThere), (270, 1, some 5, T_X5_treeCables), (264, 2, some 5, T_X5_treesOn), (361, 1, some 5, T_X5_bridges), (364, 1, some 5, T_X5_width), (367, 1, some 5, T_X5_doubles), (370, 1, some 5, T_X5_highest), (373, 1, some 5, T_X5_key), (376, 1, some 5, T_X5_cheapest)], fun _ => none, fun _ => none, fun _ => none, some .int)
theorem zX5_count_B : pm_eB eX5_count = cX5_count := rfl
theorem zX5_count_F : pm_eF eX5_count = fX5 := rfl
theorem zX5_count_R : pm_eR eX5_count = some .int := rfl
theorem zX5_count_X (n : Nat) : pm_eX eX5_count n = none := rfl
theorem zX5_count_C129 : pm_eC eX5_count 129 = some (1, some 5, T_X5_height) := rfl
theorem zX5_count_C332 : pm_eC eX5_count 332 = some (1, some 5, T_X5_cablesThere) := rfl
theorem zX5_count_C270 : pm_eC eX5_count 270 = some (1, some 5, T_X5_treeCables) := rfl
theorem zX5_count_C264 : pm_eC eX5_count 264 = some (2, some 5, T_X5_treesOn) := rfl
theorem zX5_count_C361 : pm_eC eX5_count 361 = some (1, some 5, T_X5_bridges) := rfl
theorem zX5_count_C364 : pm_eC eX5_count 364 = some (1, some 5, T_X5_width) := rfl
theorem zX5_count_C367 : pm_eC eX5_count 367 = some (1, some 5, T_X5_doubles) := rfl
theorem zX5_count_C370 : pm_eC eX5_count 370 = some (1, some 5, T_X5_highest) := rfl
theorem zX5_count_C373 : pm_eC eX5_count 373 = some (1, some 5, T_X5_key) := rfl
theorem zX5_count_C376 : pm_eC eX5_count 376 = some (1, some 5, T_X5_cheapest) := rfl
def T_X5_count : pm_T := pm_M eX5_count 2
theorem Ct_X5_count (l : Launch) (sk : Nat → Nat) : pm_Ct l sk yX5_count cX5_count 2 (some .int) 8 (T_X5_count) := pm_met eX5_count (by decide) rfl rfl (fun _ => rfl) (fun _ => rfl) fX5_ok (fun _ _ h => by cases h) (pm_tabC (by
    intro q hq
    simp only [List.mem_cons, List.not_mem_nil, or_false] at hq
    rcases hq with rfl | rfl | rfl | rfl | rfl | rfl | rfl | rfl | rfl | rfl
    · exact pm_cokV (i := 5) (Ct_X5_height l sk) ykX5_height (by decide) (by decide) rfl rfl (by decide) (by decide +kernel) (pm_WS_mem 1444 (by decide +kernel) rfl)
    · exact pm_cokV (i := 5) (Ct_X5_cablesThere l sk) ykX5_cablesThere (by decide) (by decide) rfl rfl (by decide) (by decide +kernel) (pm_WS_mem 1680 (by decide +kernel) rfl)
    · exact pm_cokV (i := 5) (Ct_X5_treeCables l sk) ykX5_treeCables (by decide) (by decide) rfl rfl (by decide) (by decide +kernel) (pm_WS_mem 1532 (by decide +kernel) rfl)
    · exact pm_cokV (i := 5) (Ct_X5_treesOn l sk) ykX5_treesOn (by decide) (by decide) rfl rfl (by decide) (by decide +kernel) (pm_WS_mem 1492 (by decide +kernel) rfl)
    · exact pm_cokV (i := 5) (Ct_X5_bridges l sk) ykX5_bridges (by decide) (by decide) rfl rfl (by decide) (by decide +kernel) (pm_WS_mem 1740 (by decide +kernel) rfl)
    · exact pm_cokV (i := 5) (Ct_X5_width l sk) ykX5_width (by decide) (by decide) rfl rfl (by decide) (by decide +kernel) (pm_WS_mem 1744 (by decide +kernel) rfl)
    · exact pm_cokV (i := 5) (Ct_X5_doubles l sk) ykX5_doubles (by decide) (by decide) rfl rfl (by decide) (by decide +kernel) (pm_WS_mem 1748 (by decide +kernel) rfl)
    · exact pm_cokV (i := 5) (Ct_X5_highest l sk) ykX5_highest (by decide) (by decide) rfl rfl (by decide) (by decide +kernel) (pm_WS_mem 1756 (by decide +kernel) rfl)
    · exact pm_cokV (i := 5) (Ct_X5_key l sk) ykX5_key (by decide) (by decide) rfl rfl (by decide) (by decide +kernel) (pm_WS_mem 1760 (by decide +kernel) rfl)
    · exact pm_cokV (i := 5) (Ct_X5_cheapest l sk) ykX5_cheapest (by decide) (by decide) rfl rfl (by decide) (by decide +kernel) (pm_WS_mem 1764 (by decide +kernel) rfl)))
