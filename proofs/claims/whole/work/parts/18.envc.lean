theorem ykX4_feed : pm_YV yX4_feed cX4_feed 6 (some .int) := ⟨(pm_WS_mem 355 (by decide +kernel) rfl), (pm_WS_mem 125 (by decide +kernel) rfl), ⟨by decide +kernel, by decide +kernel⟩, (pm_WS_mem 353 (by decide +kernel) rfl), (pm_WS_mem 354 (by decide +kernel) rfl)⟩
def eX4_feed : pm_E := (cX4_feed, fX4, pm_as [(61, 2, some 3, T_X3_addBytes)], fun _ => none, fun _ => none, fun _ => none, some .int)
theorem zX4_feed_B : pm_eB eX4_feed = cX4_feed := rfl
theorem zX4_feed_F : pm_eF eX4_feed = fX4 := rfl
theorem zX4_feed_R : pm_eR eX4_feed = some .int := rfl
theorem zX4_feed_X (n : Nat) : pm_eX eX4_feed n = none := rfl
theorem zX4_feed_C61 : pm_eC eX4_feed 61 = some (2, some 3, T_X3_addBytes) := rfl
def T_X4_feed : pm_T := pm_M eX4_feed 6
theorem Ct_X4_feed (l : Launch) (sk : Nat → Nat) : pm_Ct l sk yX4_feed cX4_feed 6 (some .int) 2 (T_X4_feed) := pm_met eX4_feed (by decide) rfl rfl (fun _ => rfl) (fun _ => rfl) fX4_ok (fun _ _ h => by cases h) (pm_tabC (by
    intro q hq
    simp only [List.mem_cons, List.not_mem_nil, or_false] at hq
    rcases hq with rfl
    · exact pm_cokV (i := 3) (Ct_X3_addBytes l sk) ykX3_addBytes (by decide) (by decide) rfl rfl (by decide) (by decide +kernel) (pm_WS_mem 356 (by decide +kernel) rfl)))
theorem ykX4_end : pm_YV yX4_end cX4_end 2 (some .boolean) := ⟨(pm_WS_mem 363 (by decide +kernel) rfl), (pm_WS_mem 125 (by decide +kernel) rfl), ⟨by decide +kernel, by decide +kernel⟩, (pm_WS_mem 361 (by decide +kernel) rfl), (pm_WS_mem 362 (by decide +kernel) rfl)⟩
def eX4_end : pm_E := (cX4_end, fX4, fun _ => none, fun _ => none, fun _ => none, fun _ => none, some .boolean)
theorem zX4_end_B : pm_eB eX4_end = cX4_end := rfl
theorem zX4_end_F : pm_eF eX4_end = fX4 := rfl
theorem zX4_end_R : pm_eR eX4_end = some .boolean := rfl
theorem zX4_end_X (n : Nat) : pm_eX eX4_end n = none := rfl
def T_X4_end : pm_T := pm_M eX4_end 2
theorem Ct_X4_end (l : Launch) (sk : Nat → Nat) : pm_Ct l sk yX4_end cX4_end 2 (some .boolean) 1 (T_X4_end) := pm_met eX4_end (by decide) rfl rfl (fun _ => rfl) (fun _ => rfl) fX4_ok (fun _ _ h => by cases h) (fun _ _ _ _ h => by cases h)
theorem ykX4_fault : pm_YV yX4_fault cX4_fault 1 (some .int) := ⟨(pm_WS_mem 367 (by decide +kernel) rfl), (pm_WS_mem 125 (by decide +kernel) rfl), ⟨by decide +kernel, by decide +kernel⟩, (pm_WS_mem 365 (by decide +kernel) rfl), (pm_WS_mem 366 (by decide +kernel) rfl)⟩
def eX4_fault : pm_E := (cX4_fault, fX4, fun _ => none, fun _ => none, fun _ => none, fun _ => none, some .int)
theorem zX4_fault_B : pm_eB eX4_fault = cX4_fault := rfl
theorem zX4_fault_F : pm_eF eX4_fault = fX4 := rfl
theorem zX4_fault_R : pm_eR eX4_fault = some .int := rfl
theorem zX4_fault_X (n : Nat) : pm_eX eX4_fault n = none := rfl
def T_X4_fault : pm_T := pm_M eX4_fault 1
theorem Ct_X4_fault (l : Launch) (sk : Nat → Nat) : pm_Ct l sk yX4_fault cX4_fault 1 (some .int) 1 (T_X4_fault) := pm_met eX4_fault (by decide) rfl rfl (fun _ => rfl) (fun _ => rfl) fX4_ok (fun _ _ h => by cases h) (fun _ _ _ _ h => by cases h)
theorem ykX4_why : pm_YV yX4_why cX4_why 1 (some .int) := ⟨(pm_WS_mem 371 (by decide +kernel) rfl), (pm_WS_mem 125 (by decide +kernel) rfl), ⟨by decide +kernel, by decide +kernel⟩, (pm_WS_mem 369 (by decide +kernel) rfl), (pm_WS_mem 370 (by decide +kernel) rfl)⟩
def eX4_why : pm_E := (cX4_why, fX4, fun _ => none, fun _ => none, fun _ => none, fun _ => none, some .int)
theorem zX4_why_B : pm_eB eX4_why = cX4_why := rfl
theorem zX4_why_F : pm_eF eX4_why = fX4 := rfl
theorem zX4_why_R : pm_eR eX4_why = some .int := rfl
theorem zX4_why_X (n : Nat) : pm_eX eX4_why n = none := rfl
def T_X4_why : pm_T := pm_M eX4_why 1
theorem Ct_X4_why (l : Launch) (sk : Nat → Nat) : pm_Ct l sk yX4_why cX4_why 1 (some .int) 1 (T_X4_why) := pm_met eX4_why (by decide) rfl rfl (fun _ => rfl) (fun _ => rfl) fX4_ok (fun _ _ h => by cases h) (fun _ _ _ _ h => by cases h)
theorem ykX4_named : pm_YV yX4_named cX4_named 3 (some .int) := ⟨(pm_WS_mem 613 (by decide +kernel) rfl), (pm_WS_mem 125 (by decide +kernel) rfl), ⟨by decide +kernel, by decide +kernel⟩, (pm_WS_mem 611 (by decide +kernel) rfl), (pm_WS_mem 612 (by decide +kernel) rfl)⟩
def eX4_named : pm_E := (cX4_named, fX4, fun _ => none, fun _ => none, fun _ => none, fun _ => none, some .int)
theorem zX4_named_B : pm_eB eX4_named = cX4_named := rfl
theorem zX4_named_F : pm_eF eX4_named = fX4 := rfl
theorem zX4_named_R : pm_eR eX4_named = some .int := rfl
theorem zX4_named_X (n : Nat) : pm_eX eX4_named n = none := rfl
def T_X4_named : pm_T := pm_M eX4_named 3
theorem Ct_X4_named (l : Launch) (sk : Nat → Nat) : pm_Ct l sk yX4_named cX4_named 3 (some .int) 1 (T_X4_named) := pm_met eX4_named (by decide) rfl rfl (fun _ => rfl) (fun _ => rfl) fX4_ok (fun _ _ h => by cases h) (fun _ _ _ _ h => by cases h)
theorem ykX4_hinges : pm_YV yX4_hinges cX4_hinges 1 (some .int) := ⟨(pm_WS_mem 617 (by decide +kernel) rfl), (pm_WS_mem 125 (by decide +kernel) rfl), ⟨by decide +kernel, by decide +kernel⟩, (pm_WS_mem 615 (by decide +kernel) rfl), (pm_WS_mem 616 (by decide +kernel) rfl)⟩
def eX4_hinges : pm_E := (cX4_hinges, fX4, pm_as [(241, 2, some 2, T_X2_hingesOf)], fun _ => none, fun _ => none, fun _ => none, some .int)
theorem zX4_hinges_B : pm_eB eX4_hinges = cX4_hinges := rfl
theorem zX4_hinges_F : pm_eF eX4_hinges = fX4 := rfl
theorem zX4_hinges_R : pm_eR eX4_hinges = some .int := rfl
theorem zX4_hinges_X (n : Nat) : pm_eX eX4_hinges n = none := rfl
theorem zX4_hinges_C241 : pm_eC eX4_hinges 241 = some (2, some 2, T_X2_hingesOf) := rfl
def T_X4_hinges : pm_T := pm_M eX4_hinges 1
theorem Ct_X4_hinges (l : Launch) (sk : Nat → Nat) : pm_Ct l sk yX4_hinges cX4_hinges 1 (some .int) 4 (T_X4_hinges) := pm_met eX4_hinges (by decide) rfl rfl (fun _ => rfl) (fun _ => rfl) fX4_ok (fun _ _ h => by cases h) (pm_tabC (by
    intro q hq
    simp only [List.mem_cons, List.not_mem_nil, or_false] at hq
    rcases hq with rfl
    · exact pm_cokV (i := 2) (Ct_X2_hingesOf l sk) ykX2_hingesOf (by decide) (by decide) rfl rfl (by decide) (by decide +kernel) (pm_WS_mem 618 (by decide +kernel) rfl)))
theorem ykX4_image : pm_YV yX4_image cX4_image 1 (none) := ⟨(pm_WS_mem 637 (by decide +kernel) rfl), (pm_WS_mem 125 (by decide +kernel) rfl), ⟨by decide +kernel, by decide +kernel⟩, (pm_WS_mem 635 (by decide +kernel) rfl), (pm_WS_mem 636 (by decide +kernel) rfl)⟩
def eX4_image : pm_E := (cX4_image, fX4, pm_as [(76, 2, some 1, T_X1_copyFrom)], fun _ => none, fun _ => none, fun _ => none, none)
theorem zX4_image_B : pm_eB eX4_image = cX4_image := rfl
theorem zX4_image_F : pm_eF eX4_image = fX4 := rfl
theorem zX4_image_R : pm_eR eX4_image = none := rfl
theorem zX4_image_X (n : Nat) : pm_eX eX4_image n = none := rfl
theorem zX4_image_C76 : pm_eC eX4_image 76 = some (2, some 1, T_X1_copyFrom) := rfl
def T_X4_image : pm_T := pm_M eX4_image 1
theorem Ct_X4_image (l : Launch) (sk : Nat → Nat) : pm_Ct l sk yX4_image cX4_image 1 (none) 3 (T_X4_image) := pm_met eX4_image (by decide) rfl rfl (fun _ => rfl) (fun _ => rfl) fX4_ok (fun _ _ h => by cases h) (pm_tabC (by
    intro q hq
    simp only [List.mem_cons, List.not_mem_nil, or_false] at hq
    rcases hq with rfl
    · exact pm_cokV (i := 1) (Ct_X1_copyFrom l sk) ykX1_copyFrom (by decide) (by decide) rfl rfl (by decide) (by decide +kernel) (pm_WS_mem 484 (by decide +kernel) rfl)))
theorem ykX4_back : pm_YV yX4_back cX4_back 1 (some .boolean) := ⟨(pm_WS_mem 641 (by decide +kernel) rfl), (pm_WS_mem 125 (by decide +kernel) rfl), ⟨by decide +kernel, by decide +kernel⟩, (pm_WS_mem 639 (by decide +kernel) rfl), (pm_WS_mem 640 (by decide +kernel) rfl)⟩
def eX4_back : pm_E := (cX4_back, fX4, pm_as [(76, 2, some 1, T_X1_copyFrom)], fun _ => none, fun _ => none, fun _ => none, some .boolean)
theorem zX4_back_B : pm_eB eX4_back = cX4_back := rfl
theorem zX4_back_F : pm_eF eX4_back = fX4 := rfl
theorem zX4_back_R : pm_eR eX4_back = some .boolean := rfl
theorem zX4_back_X (n : Nat) : pm_eX eX4_back n = none := rfl
theorem zX4_back_C76 : pm_eC eX4_back 76 = some (2, some 1, T_X1_copyFrom) := rfl
def T_X4_back : pm_T := pm_M eX4_back 1
theorem Ct_X4_back (l : Launch) (sk : Nat → Nat) : pm_Ct l sk yX4_back cX4_back 1 (some .boolean) 3 (T_X4_back) := pm_met eX4_back (by decide) rfl rfl (fun _ => rfl) (fun _ => rfl) fX4_ok (fun _ _ h => by cases h) (pm_tabC (by
    intro q hq
    simp only [List.mem_cons, List.not_mem_nil, or_false] at hq
    rcases hq with rfl
    · exact pm_cokV (i := 1) (Ct_X1_copyFrom l sk) ykX1_copyFrom (by decide) (by decide) rfl rfl (by decide) (by decide +kernel) (pm_WS_mem 484 (by decide +kernel) rfl)))
theorem ykX4_count : pm_YV yX4_count cX4_count 2 (some .int) := ⟨(pm_WS_mem 645 (by decide +kernel) rfl), (pm_WS_mem 125 (by decide +kernel) rfl), ⟨by decide +kernel, by decide +kernel⟩, (pm_WS_mem 643 (by decide +kernel) rfl), (pm_WS_mem 644 (by decide +kernel) rfl)⟩
def eX4_count : pm_E := (cX4_count, fX4, pm_as [(251, 2, some 1, T_X1_cablesOf), (98, 1, some 0, T_X0_trees), (254, 2, some 2, T_X2_bridgesOf), (257, 2, some 2, T_X2_widthOf), (260, 1, some 1, T_X1_likePairs), (263, 1, some 1, T_X1_greatestLevel), (266, 2, some 2, T_X2_keyOf), (269, 2, some 2, T_X2_cheapestOf)], fun _ => none, fun _ => none, fun _ => none, some .int)
theorem zX4_count_B : pm_eB eX4_count = cX4_count := rfl
theorem zX4_count_F : pm_eF eX4_count = fX4 := rfl
theorem zX4_count_R : pm_eR eX4_count = some .int := rfl
theorem zX4_count_X (n : Nat) : pm_eX eX4_count n = none := rfl
theorem zX4_count_C251 : pm_eC eX4_count 251 = some (2, some 1, T_X1_cablesOf) := rfl
theorem zX4_count_C98 : pm_eC eX4_count 98 = some (1, some 0, T_X0_trees) := rfl
theorem zX4_count_C254 : pm_eC eX4_count 254 = some (2, some 2, T_X2_bridgesOf) := rfl
theorem zX4_count_C257 : pm_eC eX4_count 257 = some (2, some 2, T_X2_widthOf) := rfl
theorem zX4_count_C260 : pm_eC eX4_count 260 = some (1, some 1, T_X1_likePairs) := rfl
theorem zX4_count_C263 : pm_eC eX4_count 263 = some (1, some 1, T_X1_greatestLevel) := rfl
theorem zX4_count_C266 : pm_eC eX4_count 266 = some (2, some 2, T_X2_keyOf) := rfl
theorem zX4_count_C269 : pm_eC eX4_count 269 = some (2, some 2, T_X2_cheapestOf) := rfl
def T_X4_count : pm_T := pm_M eX4_count 2
theorem Ct_X4_count (l : Launch) (sk : Nat → Nat) : pm_Ct l sk yX4_count cX4_count 2 (some .int) 6 (T_X4_count) := pm_met eX4_count (by decide) rfl rfl (fun _ => rfl) (fun _ => rfl) fX4_ok (fun _ _ h => by cases h) (pm_tabC (by
    intro q hq
    simp only [List.mem_cons, List.not_mem_nil, or_false] at hq
    rcases hq with rfl | rfl | rfl | rfl | rfl | rfl | rfl | rfl
    · exact pm_cokV (i := 1) (Ct_X1_cablesOf l sk) ykX1_cablesOf (by decide) (by decide) rfl rfl (by decide) (by decide +kernel) (pm_WS_mem 646 (by decide +kernel) rfl)
    · exact pm_cokV (i := 0) (Ct_X0_trees l sk) ykX0_trees (by decide) (by decide) rfl rfl (by decide) (by decide +kernel) (pm_WS_mem 647 (by decide +kernel) rfl)
    · exact pm_cokV (i := 2) (Ct_X2_bridgesOf l sk) ykX2_bridgesOf (by decide) (by decide) rfl rfl (by decide) (by decide +kernel) (pm_WS_mem 651 (by decide +kernel) rfl)
    · exact pm_cokV (i := 2) (Ct_X2_widthOf l sk) ykX2_widthOf (by decide) (by decide) rfl rfl (by decide) (by decide +kernel) (pm_WS_mem 664 (by decide +kernel) rfl)
    · exact pm_cokV (i := 1) (Ct_X1_likePairs l sk) ykX1_likePairs (by decide) (by decide) rfl rfl (by decide) (by decide +kernel) (pm_WS_mem 675 (by decide +kernel) rfl)
    · exact pm_cokV (i := 1) (Ct_X1_greatestLevel l sk) ykX1_greatestLevel (by decide) (by decide) rfl rfl (by decide) (by decide +kernel) (pm_WS_mem 679 (by decide +kernel) rfl)
    · exact pm_cokV (i := 2) (Ct_X2_keyOf l sk) ykX2_keyOf (by decide) (by decide) rfl rfl (by decide) (by decide +kernel) (pm_WS_mem 684 (by decide +kernel) rfl)
    · exact pm_cokV (i := 2) (Ct_X2_cheapestOf l sk) ykX2_cheapestOf (by decide) (by decide) rfl rfl (by decide) (by decide +kernel) (pm_WS_mem 688 (by decide +kernel) rfl)))
theorem ykX4_remember : pm_YV yX4_remember cX4_remember 3 (none) := ⟨(pm_WS_mem 483 (by decide +kernel) rfl), (pm_WS_mem 125 (by decide +kernel) rfl), ⟨by decide +kernel, by decide +kernel⟩, (pm_WS_mem 482 (by decide +kernel) rfl), (pm_WS_mem 6 (by decide +kernel) rfl)⟩
def eX4_remember : pm_E := (cX4_remember, fX4, pm_as [(76, 2, some 1, T_X1_copyFrom)], fun _ => none, fun _ => none, fun _ => none, none)
theorem zX4_remember_B : pm_eB eX4_remember = cX4_remember := rfl
theorem zX4_remember_F : pm_eF eX4_remember = fX4 := rfl
theorem zX4_remember_R : pm_eR eX4_remember = none := rfl
theorem zX4_remember_X (n : Nat) : pm_eX eX4_remember n = none := rfl
theorem zX4_remember_C76 : pm_eC eX4_remember 76 = some (2, some 1, T_X1_copyFrom) := rfl
def T_X4_remember : pm_T := pm_M eX4_remember 3
theorem Ct_X4_remember (l : Launch) (sk : Nat → Nat) : pm_Ct l sk yX4_remember cX4_remember 3 (none) 3 (T_X4_remember) := pm_met eX4_remember (by decide) rfl rfl (fun _ => rfl) (fun _ => rfl) fX4_ok (fun _ _ h => by cases h) (pm_tabC (by
    intro q hq
    simp only [List.mem_cons, List.not_mem_nil, or_false] at hq
    rcases hq with rfl
    · exact pm_cokV (i := 1) (Ct_X1_copyFrom l sk) ykX1_copyFrom (by decide) (by decide) rfl rfl (by decide) (by decide +kernel) (pm_WS_mem 484 (by decide +kernel) rfl)))
theorem ykX5_thrown : pm_YV yX5_thrown cX5_thrown 1 (some .int) := ⟨(pm_WS_mem 1294 (by decide +kernel) rfl), (pm_WS_mem 130 (by decide +kernel) rfl), ⟨by decide +kernel, by decide +kernel⟩, (pm_WS_mem 1292 (by decide +kernel) rfl), (pm_WS_mem 1293 (by decide +kernel) rfl)⟩
def eX5_thrown : pm_E := (cX5_thrown, fX5, fun _ => none, fun _ => none, fun _ => none, fun _ => none, some .int)
theorem zX5_thrown_B : pm_eB eX5_thrown = cX5_thrown := rfl
theorem zX5_thrown_F : pm_eF eX5_thrown = fX5 := rfl
theorem zX5_thrown_R : pm_eR eX5_thrown = some .int := rfl
theorem zX5_thrown_X (n : Nat) : pm_eX eX5_thrown n = none := rfl
def T_X5_thrown : pm_T := pm_M eX5_thrown 1
theorem Ct_X5_thrown (l : Launch) (sk : Nat → Nat) : pm_Ct l sk yX5_thrown cX5_thrown 1 (some .int) 1 (T_X5_thrown) := pm_met eX5_thrown (by decide) rfl rfl (fun _ => rfl) (fun _ => rfl) fX5_ok (fun _ _ h => by cases h) (fun _ _ _ _ h => by cases h)
theorem ykX5_isIn : pm_YS yX5_isIn cX5_isIn 3 (some .boolean) := ⟨(pm_WS_mem 1305 (by decide +kernel) rfl), (pm_WS_mem 130 (by decide +kernel) rfl), ⟨by decide +kernel, by decide +kernel⟩, (pm_WS_mem 1304 (by decide +kernel) rfl)⟩
def eX5_isIn : pm_E := (cX5_isIn, fX5, fun _ => none, fun _ => none, fun _ => none, fun _ => none, some .boolean)
theorem zX5_isIn_B : pm_eB eX5_isIn = cX5_isIn := rfl
theorem zX5_isIn_F : pm_eF eX5_isIn = fX5 := rfl
theorem zX5_isIn_R : pm_eR eX5_isIn = some .boolean := rfl
theorem zX5_isIn_X (n : Nat) : pm_eX eX5_isIn n = none := rfl
def T_X5_isIn : pm_T := pm_M eX5_isIn 3
theorem Ct_X5_isIn (l : Launch) (sk : Nat → Nat) : pm_Ct l sk yX5_isIn cX5_isIn 3 (some .boolean) 1 (T_X5_isIn) := pm_met eX5_isIn (by decide) rfl rfl (fun _ => rfl) (fun _ => rfl) fX5_ok (fun _ _ h => by cases h) (fun _ _ _ _ h => by cases h)
theorem ykX5_height : pm_YV yX5_height cX5_height 2 (some .int) := ⟨(pm_WS_mem 1447 (by decide +kernel) rfl), (pm_WS_mem 130 (by decide +kernel) rfl), ⟨by decide +kernel, by decide +kernel⟩, (pm_WS_mem 1446 (by decide +kernel) rfl), (pm_WS_mem 79 (by decide +kernel) rfl)⟩
def eX5_height : pm_E := (cX5_height, fX5, fun _ => none, fun _ => none, fun _ => none, fun _ => none, some .int)
theorem zX5_height_B : pm_eB eX5_height = cX5_height := rfl
theorem zX5_height_F : pm_eF eX5_height = fX5 := rfl
theorem zX5_height_R : pm_eR eX5_height = some .int := rfl
theorem zX5_height_X (n : Nat) : pm_eX eX5_height n = none := rfl
def T_X5_height : pm_T := pm_M eX5_height 2
theorem Ct_X5_height (l : Launch) (sk : Nat → Nat) : pm_Ct l sk yX5_height cX5_height 2 (some .int) 1 (T_X5_height) := pm_met eX5_height (by decide) rfl rfl (fun _ => rfl) (fun _ => rfl) fX5_ok (fun _ _ h => by cases h) (fun _ _ _ _ h => by cases h)
theorem ykX5_isNode : pm_YV yX5_isNode cX5_isNode 2 (some .boolean) := ⟨(pm_WS_mem 1361 (by decide +kernel) rfl), (pm_WS_mem 130 (by decide +kernel) rfl), ⟨by decide +kernel, by decide +kernel⟩, (pm_WS_mem 1360 (by decide +kernel) rfl), (pm_WS_mem 60 (by decide +kernel) rfl)⟩
def eX5_isNode : pm_E := (cX5_isNode, fX5, pm_as [(61, 3, none, T_X5_isIn)], fun _ => none, fun _ => none, fun _ => none, some .boolean)
theorem zX5_isNode_B : pm_eB eX5_isNode = cX5_isNode := rfl
theorem zX5_isNode_F : pm_eF eX5_isNode = fX5 := rfl
theorem zX5_isNode_R : pm_eR eX5_isNode = some .boolean := rfl
theorem zX5_isNode_X (n : Nat) : pm_eX eX5_isNode n = none := rfl
theorem zX5_isNode_C61 : pm_eC eX5_isNode 61 = some (3, none, T_X5_isIn) := rfl
def T_X5_isNode : pm_T := pm_M eX5_isNode 2
theorem Ct_X5_isNode (l : Launch) (sk : Nat → Nat) : pm_Ct l sk yX5_isNode cX5_isNode 2 (some .boolean) 2 (T_X5_isNode) := pm_met eX5_isNode (by decide) rfl rfl (fun _ => rfl) (fun _ => rfl) fX5_ok (fun _ _ h => by cases h) (pm_tabC (by
    intro q hq
    simp only [List.mem_cons, List.not_mem_nil, or_false] at hq
    rcases hq with rfl
    · exact pm_cokS (Ct_X5_isIn l sk) ykX5_isIn (by decide) (by decide) (by decide +kernel) (Or.inl (pm_WS_mem 1303 (by decide +kernel) rfl))))
theorem ykX5_isLaid : pm_YV yX5_isLaid cX5_isLaid 2 (some .boolean) := ⟨(pm_WS_mem 1428 (by decide +kernel) rfl), (pm_WS_mem 130 (by decide +kernel) rfl), ⟨by decide +kernel, by decide +kernel⟩, (pm_WS_mem 1427 (by decide +kernel) rfl), (pm_WS_mem 75 (by decide +kernel) rfl)⟩
def eX5_isLaid : pm_E := (cX5_isLaid, fX5, pm_as [(61, 3, none, T_X5_isIn)], fun _ => none, fun _ => none, fun _ => none, some .boolean)
theorem zX5_isLaid_B : pm_eB eX5_isLaid = cX5_isLaid := rfl
theorem zX5_isLaid_F : pm_eF eX5_isLaid = fX5 := rfl
theorem zX5_isLaid_R : pm_eR eX5_isLaid = some .boolean := rfl
theorem zX5_isLaid_X (n : Nat) : pm_eX eX5_isLaid n = none := rfl
theorem zX5_isLaid_C61 : pm_eC eX5_isLaid 61 = some (3, none, T_X5_isIn) := rfl
def T_X5_isLaid : pm_T := pm_M eX5_isLaid 2
theorem Ct_X5_isLaid (l : Launch) (sk : Nat → Nat) : pm_Ct l sk yX5_isLaid cX5_isLaid 2 (some .boolean) 2 (T_X5_isLaid) := pm_met eX5_isLaid (by decide) rfl rfl (fun _ => rfl) (fun _ => rfl) fX5_ok (fun _ _ h => by cases h) (pm_tabC (by
    intro q hq
    simp only [List.mem_cons, List.not_mem_nil, or_false] at hq
    rcases hq with rfl
    · exact pm_cokS (Ct_X5_isIn l sk) ykX5_isIn (by decide) (by decide) (by decide +kernel) (Or.inl (pm_WS_mem 1303 (by decide +kernel) rfl))))
theorem ykX5_of : pm_YV yX5_of cX5_of 3 (some .int) := ⟨(pm_WS_mem 1377 (by decide +kernel) rfl), (pm_WS_mem 130 (by decide +kernel) rfl), ⟨by decide +kernel, by decide +kernel⟩, (pm_WS_mem 1376 (by decide +kernel) rfl), (pm_WS_mem 64 (by decide +kernel) rfl)⟩
def eX5_of : pm_E := (cX5_of, fX5, fun _ => none, fun _ => none, fun _ => none, fun _ => none, some .int)
theorem zX5_of_B : pm_eB eX5_of = cX5_of := rfl
theorem zX5_of_F : pm_eF eX5_of = fX5 := rfl
theorem zX5_of_R : pm_eR eX5_of = some .int := rfl
theorem zX5_of_X (n : Nat) : pm_eX eX5_of n = none := rfl
def T_X5_of : pm_T := pm_M eX5_of 3
theorem Ct_X5_of (l : Launch) (sk : Nat → Nat) : pm_Ct l sk yX5_of cX5_of 3 (some .int) 1 (T_X5_of) := pm_met eX5_of (by decide) rfl rfl (fun _ => rfl) (fun _ => rfl) fX5_ok (fun _ _ h => by cases h) (fun _ _ _ _ h => by cases h)
theorem ykX5_sets : pm_YV yX5_sets cX5_sets 4 (none) := ⟨(pm_WS_mem 1365 (by decide +kernel) rfl), (pm_WS_mem 130 (by decide +kernel) rfl), ⟨by decide +kernel, by decide +kernel⟩, (pm_WS_mem 1364 (by decide +kernel) rfl), (pm_WS_mem 61 (by decide +kernel) rfl)⟩
def eX5_sets : pm_E := (cX5_sets, fX5, fun _ => none, fun _ => none, fun _ => none, fun _ => none, none)
theorem zX5_sets_B : pm_eB eX5_sets = cX5_sets := rfl
theorem zX5_sets_F : pm_eF eX5_sets = fX5 := rfl
theorem zX5_sets_R : pm_eR eX5_sets = none := rfl
theorem zX5_sets_X (n : Nat) : pm_eX eX5_sets n = none := rfl
def T_X5_sets : pm_T := pm_M eX5_sets 4
theorem Ct_X5_sets (l : Launch) (sk : Nat → Nat) : pm_Ct l sk yX5_sets cX5_sets 4 (none) 1 (T_X5_sets) := pm_met eX5_sets (by decide) rfl rfl (fun _ => rfl) (fun _ => rfl) fX5_ok (fun _ _ h => by cases h) (fun _ _ _ _ h => by cases h)
theorem ykX5_isThere : pm_YV yX5_isThere cX5_isThere 2 (some .boolean) := ⟨(pm_WS_mem 1424 (by decide +kernel) rfl), (pm_WS_mem 130 (by decide +kernel) rfl), ⟨by decide +kernel, by decide +kernel⟩, (pm_WS_mem 1423 (by decide +kernel) rfl), (pm_WS_mem 74 (by decide +kernel) rfl)⟩
def eX5_isThere : pm_E := (cX5_isThere, fX5, pm_as [(65, 2, some 5, T_X5_isLaid), (69, 3, some 5, T_X5_of)], fun _ => none, fun _ => none, fun _ => none, some .boolean)
theorem zX5_isThere_B : pm_eB eX5_isThere = cX5_isThere := rfl
theorem zX5_isThere_F : pm_eF eX5_isThere = fX5 := rfl
theorem zX5_isThere_R : pm_eR eX5_isThere = some .boolean := rfl
theorem zX5_isThere_X (n : Nat) : pm_eX eX5_isThere n = none := rfl
theorem zX5_isThere_C65 : pm_eC eX5_isThere 65 = some (2, some 5, T_X5_isLaid) := rfl
theorem zX5_isThere_C69 : pm_eC eX5_isThere 69 = some (3, some 5, T_X5_of) := rfl
def T_X5_isThere : pm_T := pm_M eX5_isThere 2
theorem Ct_X5_isThere (l : Launch) (sk : Nat → Nat) : pm_Ct l sk yX5_isThere cX5_isThere 2 (some .boolean) 3 (T_X5_isThere) := pm_met eX5_isThere (by decide) rfl rfl (fun _ => rfl) (fun _ => rfl) fX5_ok (fun _ _ h => by cases h) (pm_tabC (by
    intro q hq
    simp only [List.mem_cons, List.not_mem_nil, or_false] at hq
    rcases hq with rfl | rfl
    · exact pm_cokV (i := 5) (Ct_X5_isLaid l sk) ykX5_isLaid (by decide) (by decide) rfl rfl (by decide) (by decide +kernel) (pm_WS_mem 1425 (by decide +kernel) rfl)
    · exact pm_cokV (i := 5) (Ct_X5_of l sk) ykX5_of (by decide) (by decide) rfl rfl (by decide) (by decide +kernel) (pm_WS_mem 1374 (by decide +kernel) rfl)))
theorem ykX5_isTree : pm_YV yX5_isTree cX5_isTree 2 (some .boolean) := ⟨(pm_WS_mem 1432 (by decide +kernel) rfl), (pm_WS_mem 130 (by decide +kernel) rfl), ⟨by decide +kernel, by decide +kernel⟩, (pm_WS_mem 1431 (by decide +kernel) rfl), (pm_WS_mem 76 (by decide +kernel) rfl)⟩
def eX5_isTree : pm_E := (cX5_isTree, fX5, pm_as [(65, 2, some 5, T_X5_isLaid), (69, 3, some 5, T_X5_of)], fun _ => none, fun _ => none, fun _ => none, some .boolean)
theorem zX5_isTree_B : pm_eB eX5_isTree = cX5_isTree := rfl
theorem zX5_isTree_F : pm_eF eX5_isTree = fX5 := rfl
theorem zX5_isTree_R : pm_eR eX5_isTree = some .boolean := rfl
theorem zX5_isTree_X (n : Nat) : pm_eX eX5_isTree n = none := rfl
theorem zX5_isTree_C65 : pm_eC eX5_isTree 65 = some (2, some 5, T_X5_isLaid) := rfl
theorem zX5_isTree_C69 : pm_eC eX5_isTree 69 = some (3, some 5, T_X5_of) := rfl
def T_X5_isTree : pm_T := pm_M eX5_isTree 2
theorem Ct_X5_isTree (l : Launch) (sk : Nat → Nat) : pm_Ct l sk yX5_isTree cX5_isTree 2 (some .boolean) 3 (T_X5_isTree) := pm_met eX5_isTree (by decide) rfl rfl (fun _ => rfl) (fun _ => rfl) fX5_ok (fun _ _ h => by cases h) (pm_tabC (by
    intro q hq
    simp only [List.mem_cons, List.not_mem_nil, or_false] at hq
    rcases hq with rfl | rfl
    · exact pm_cokV (i := 5) (Ct_X5_isLaid l sk) ykX5_isLaid (by decide) (by decide) rfl rfl (by decide) (by decide +kernel) (pm_WS_mem 1425 (by decide +kernel) rfl)
    · exact pm_cokV (i := 5) (Ct_X5_of l sk) ykX5_of (by decide) (by decide) rfl rfl (by decide) (by decide +kernel) (pm_WS_mem 1374 (by decide +kernel) rfl)))
theorem ykX5_slotOf : pm_YV yX5_slotOf cX5_slotOf 3 (some .int) := ⟨(pm_WS_mem 1373 (by decide +kernel) rfl), (pm_WS_mem 130 (by decide +kernel) rfl), ⟨by decide +kernel, by decide +kernel⟩, (pm_WS_mem 1372 (by decide +kernel) rfl), (pm_WS_mem 63 (by decide +kernel) rfl)⟩
def eX5_slotOf : pm_E := (cX5_slotOf, fX5, fun _ => none, fun _ => none, fun _ => none, fun _ => none, some .int)
theorem zX5_slotOf_B : pm_eB eX5_slotOf = cX5_slotOf := rfl
theorem zX5_slotOf_F : pm_eF eX5_slotOf = fX5 := rfl
theorem zX5_slotOf_R : pm_eR eX5_slotOf = some .int := rfl
theorem zX5_slotOf_X (n : Nat) : pm_eX eX5_slotOf n = none := rfl
def T_X5_slotOf : pm_T := pm_M eX5_slotOf 3
theorem Ct_X5_slotOf (l : Launch) (sk : Nat → Nat) : pm_Ct l sk yX5_slotOf cX5_slotOf 3 (some .int) 1 (T_X5_slotOf) := pm_met eX5_slotOf (by decide) rfl rfl (fun _ => rfl) (fun _ => rfl) fX5_ok (fun _ _ h => by cases h) (fun _ _ _ _ h => by cases h)
theorem ykX5_longOf : pm_YV yX5_longOf cX5_longOf 3 (some .int) := ⟨(pm_WS_mem 1400 (by decide +kernel) rfl), (pm_WS_mem 130 (by decide +kernel) rfl), ⟨by decide +kernel, by decide +kernel⟩, (pm_WS_mem 1399 (by decide +kernel) rfl), (pm_WS_mem 69 (by decide +kernel) rfl)⟩
def eX5_longOf : pm_E := (cX5_longOf, fX5, fun _ => none, fun _ => none, fun _ => none, fun _ => none, some .int)
theorem zX5_longOf_B : pm_eB eX5_longOf = cX5_longOf := rfl
theorem zX5_longOf_F : pm_eF eX5_longOf = fX5 := rfl
theorem zX5_longOf_R : pm_eR eX5_longOf = some .int := rfl
theorem zX5_longOf_X (n : Nat) : pm_eX eX5_longOf n = none := rfl
def T_X5_longOf : pm_T := pm_M eX5_longOf 3
theorem Ct_X5_longOf (l : Launch) (sk : Nat → Nat) : pm_Ct l sk yX5_longOf cX5_longOf 3 (some .int) 1 (T_X5_longOf) := pm_met eX5_longOf (by decide) rfl rfl (fun _ => rfl) (fun _ => rfl) fX5_ok (fun _ _ h => by cases h) (fun _ _ _ _ h => by cases h)
theorem ykX5_placeOf : pm_YS yX5_placeOf cX5_placeOf 3 (some .int) := ⟨(pm_WS_mem 1211 (by decide +kernel) rfl), (pm_WS_mem 130 (by decide +kernel) rfl), ⟨by decide +kernel, by decide +kernel⟩, (pm_WS_mem 1210 (by decide +kernel) rfl)⟩
def eX5_placeOf : pm_E := (cX5_placeOf, fX5, fun _ => none, fun _ => none, fun _ => none, fun _ => none, some .int)
theorem zX5_placeOf_B : pm_eB eX5_placeOf = cX5_placeOf := rfl
theorem zX5_placeOf_F : pm_eF eX5_placeOf = fX5 := rfl
theorem zX5_placeOf_R : pm_eR eX5_placeOf = some .int := rfl
theorem zX5_placeOf_X (n : Nat) : pm_eX eX5_placeOf n = none := rfl
def T_X5_placeOf : pm_T := pm_M eX5_placeOf 3
theorem Ct_X5_placeOf (l : Launch) (sk : Nat → Nat) : pm_Ct l sk yX5_placeOf cX5_placeOf 3 (some .int) 1 (T_X5_placeOf) := pm_met eX5_placeOf (by decide) rfl rfl (fun _ => rfl) (fun _ => rfl) fX5_ok (fun _ _ h => by cases h) (fun _ _ _ _ h => by cases h)
theorem ykX5_singles : pm_YV yX5_singles cX5_singles 3 (none) := ⟨(pm_WS_mem 1208 (by decide +kernel) rfl), (pm_WS_mem 130 (by decide +kernel) rfl), ⟨by decide +kernel, by decide +kernel⟩, (pm_WS_mem 1207 (by decide +kernel) rfl), (pm_WS_mem 48 (by decide +kernel) rfl)⟩
def eX5_singles : pm_E := (cX5_singles, fX5, pm_as [(76, 3, none, T_X5_placeOf)], fun _ => none, fun _ => none, fun _ => none, none)
theorem zX5_singles_B : pm_eB eX5_singles = cX5_singles := rfl
theorem zX5_singles_F : pm_eF eX5_singles = fX5 := rfl
theorem zX5_singles_R : pm_eR eX5_singles = none := rfl
theorem zX5_singles_X (n : Nat) : pm_eX eX5_singles n = none := rfl
theorem zX5_singles_C76 : pm_eC eX5_singles 76 = some (3, none, T_X5_placeOf) := rfl
def T_X5_singles : pm_T := pm_M eX5_singles 3
theorem Ct_X5_singles (l : Launch) (sk : Nat → Nat) : pm_Ct l sk yX5_singles cX5_singles 3 (none) 2 (T_X5_singles) := pm_met eX5_singles (by decide) rfl rfl (fun _ => rfl) (fun _ => rfl) fX5_ok (fun _ _ h => by cases h) (pm_tabC (by
    intro q hq
    simp only [List.mem_cons, List.not_mem_nil, or_false] at hq
    rcases hq with rfl
    · exact pm_cokS (Ct_X5_placeOf l sk) ykX5_placeOf (by decide) (by decide) (by decide +kernel) (Or.inl (pm_WS_mem 1209 (by decide +kernel) rfl))))
theorem ykX5_nets : pm_YV yX5_nets cX5_nets 3 (none) := ⟨(pm_WS_mem 1204 (by decide +kernel) rfl), (pm_WS_mem 130 (by decide +kernel) rfl), ⟨by decide +kernel, by decide +kernel⟩, (pm_WS_mem 1203 (by decide +kernel) rfl), (pm_WS_mem 47 (by decide +kernel) rfl)⟩
def eX5_nets : pm_E := (cX5_nets, fX5, pm_as [(73, 1, some 5, T_X5_singles)], fun _ => none, fun _ => none, fun _ => none, none)
theorem zX5_nets_B : pm_eB eX5_nets = cX5_nets := rfl
theorem zX5_nets_F : pm_eF eX5_nets = fX5 := rfl
theorem zX5_nets_R : pm_eR eX5_nets = none := rfl
theorem zX5_nets_X (n : Nat) : pm_eX eX5_nets n = none := rfl
theorem zX5_nets_C73 : pm_eC eX5_nets 73 = some (1, some 5, T_X5_singles) := rfl
def T_X5_nets : pm_T := pm_M eX5_nets 3
theorem Ct_X5_nets (l : Launch) (sk : Nat → Nat) : pm_Ct l sk yX5_nets cX5_nets 3 (none) 3 (T_X5_nets) := pm_met eX5_nets (by decide) rfl rfl (fun _ => rfl) (fun _ => rfl) fX5_ok (fun _ _ h => by cases h) (pm_tabC (by
    intro q hq
    simp only [List.mem_cons, List.not_mem_nil, or_false] at hq
    rcases hq with rfl
    · exact pm_cokV (i := 5) (Ct_X5_singles l sk) ykX5_singles (by decide) (by decide) rfl rfl (by decide) (by decide +kernel) (pm_WS_mem 1205 (by decide +kernel) rfl)))
theorem ykX5_turns : pm_YV yX5_turns cX5_turns 8 (some .int) := ⟨(pm_WS_mem 1396 (by decide +kernel) rfl), (pm_WS_mem 130 (by decide +kernel) rfl), ⟨by decide +kernel, by decide +kernel⟩, (pm_WS_mem 1395 (by decide +kernel) rfl), (pm_WS_mem 68 (by decide +kernel) rfl)⟩
def eX5_turns : pm_E := (cX5_turns, fX5, pm_as [(80, 3, some 5, T_X5_slotOf), (83, 3, some 5, T_X5_longOf), (76, 3, none, T_X5_placeOf)], fun _ => none, fun _ => none, fun _ => none, some .int)
theorem zX5_turns_B : pm_eB eX5_turns = cX5_turns := rfl
theorem zX5_turns_F : pm_eF eX5_turns = fX5 := rfl
theorem zX5_turns_R : pm_eR eX5_turns = some .int := rfl
theorem zX5_turns_X (n : Nat) : pm_eX eX5_turns n = none := rfl
theorem zX5_turns_C80 : pm_eC eX5_turns 80 = some (3, some 5, T_X5_slotOf) := rfl
theorem zX5_turns_C83 : pm_eC eX5_turns 83 = some (3, some 5, T_X5_longOf) := rfl
theorem zX5_turns_C76 : pm_eC eX5_turns 76 = some (3, none, T_X5_placeOf) := rfl
def T_X5_turns : pm_T := pm_M eX5_turns 8
theorem Ct_X5_turns (l : Launch) (sk : Nat → Nat) : pm_Ct l sk yX5_turns cX5_turns 8 (some .int) 2 (T_X5_turns) := pm_met eX5_turns (by decide) rfl rfl (fun _ => rfl) (fun _ => rfl) fX5_ok (fun _ _ h => by cases h) (pm_tabC (by
    intro q hq
    simp only [List.mem_cons, List.not_mem_nil, or_false] at hq
    rcases hq with rfl | rfl | rfl
    · exact pm_cokV (i := 5) (Ct_X5_slotOf l sk) ykX5_slotOf (by decide) (by decide) rfl rfl (by decide) (by decide +kernel) (pm_WS_mem 1370 (by decide +kernel) rfl)
    · exact pm_cokV (i := 5) (Ct_X5_longOf l sk) ykX5_longOf (by decide) (by decide) rfl rfl (by decide) (by decide +kernel) (pm_WS_mem 1397 (by decide +kernel) rfl)
    · exact pm_cokS (Ct_X5_placeOf l sk) ykX5_placeOf (by decide) (by decide) (by decide +kernel) (Or.inl (pm_WS_mem 1209 (by decide +kernel) rfl))))
theorem ykX5_lays : pm_YV yX5_lays cX5_lays 7 (none) := ⟨(pm_WS_mem 1404 (by decide +kernel) rfl), (pm_WS_mem 130 (by decide +kernel) rfl), ⟨by decide +kernel, by decide +kernel⟩, (pm_WS_mem 1403 (by decide +kernel) rfl), (pm_WS_mem 70 (by decide +kernel) rfl)⟩
def eX5_lays : pm_E := (cX5_lays, fX5, pm_as [(76, 3, none, T_X5_placeOf)], fun _ => none, fun _ => none, fun _ => none, none)
theorem zX5_lays_B : pm_eB eX5_lays = cX5_lays := rfl
theorem zX5_lays_F : pm_eF eX5_lays = fX5 := rfl
theorem zX5_lays_R : pm_eR eX5_lays = none := rfl
theorem zX5_lays_X (n : Nat) : pm_eX eX5_lays n = none := rfl
theorem zX5_lays_C76 : pm_eC eX5_lays 76 = some (3, none, T_X5_placeOf) := rfl
def T_X5_lays : pm_T := pm_M eX5_lays 7
theorem Ct_X5_lays (l : Launch) (sk : Nat → Nat) : pm_Ct l sk yX5_lays cX5_lays 7 (none) 2 (T_X5_lays) := pm_met eX5_lays (by decide) rfl rfl (fun _ => rfl) (fun _ => rfl) fX5_ok (fun _ _ h => by cases h) (pm_tabC (by
    intro q hq
    simp only [List.mem_cons, List.not_mem_nil, or_false] at hq
    rcases hq with rfl
    · exact pm_cokS (Ct_X5_placeOf l sk) ykX5_placeOf (by decide) (by decide) (by decide +kernel) (Or.inl (pm_WS_mem 1209 (by decide +kernel) rfl))))
theorem ykX5_joins : pm_YV yX5_joins cX5_joins 7 (none) := ⟨(pm_WS_mem 1392 (by decide +kernel) rfl), (pm_WS_mem 130 (by decide +kernel) rfl), ⟨by decide +kernel, by decide +kernel⟩, (pm_WS_mem 1391 (by decide +kernel) rfl), (pm_WS_mem 67 (by decide +kernel) rfl)⟩
def eX5_joins : pm_E := (cX5_joins, fX5, pm_as [(69, 3, some 5, T_X5_of), (80, 3, some 5, T_X5_slotOf), (86, 4, some 5, T_X5_turns), (90, 6, some 5, T_X5_lays)], fun _ => none, fun _ => none, fun _ => none, none)
theorem zX5_joins_B : pm_eB eX5_joins = cX5_joins := rfl
theorem zX5_joins_F : pm_eF eX5_joins = fX5 := rfl
theorem zX5_joins_R : pm_eR eX5_joins = none := rfl
theorem zX5_joins_X (n : Nat) : pm_eX eX5_joins n = none := rfl
theorem zX5_joins_C69 : pm_eC eX5_joins 69 = some (3, some 5, T_X5_of) := rfl
theorem zX5_joins_C80 : pm_eC eX5_joins 80 = some (3, some 5, T_X5_slotOf) := rfl
theorem zX5_joins_C86 : pm_eC eX5_joins 86 = some (4, some 5, T_X5_turns) := rfl
theorem zX5_joins_C90 : pm_eC eX5_joins 90 = some (6, some 5, T_X5_lays) := rfl
def T_X5_joins : pm_T := pm_M eX5_joins 7
theorem Ct_X5_joins (l : Launch) (sk : Nat → Nat) : pm_Ct l sk yX5_joins cX5_joins 7 (none) 3 (T_X5_joins) := pm_met eX5_joins (by decide) rfl rfl (fun _ => rfl) (fun _ => rfl) fX5_ok (fun _ _ h => by cases h) (pm_tabC (by
    intro q hq
    simp only [List.mem_cons, List.not_mem_nil, or_false] at hq
    rcases hq with rfl | rfl | rfl | rfl
    · exact pm_cokV (i := 5) (Ct_X5_of l sk) ykX5_of (by decide) (by decide) rfl rfl (by decide) (by decide +kernel) (pm_WS_mem 1374 (by decide +kernel) rfl)
    · exact pm_cokV (i := 5) (Ct_X5_slotOf l sk) ykX5_slotOf (by decide) (by decide) rfl rfl (by decide) (by decide +kernel) (pm_WS_mem 1370 (by decide +kernel) rfl)
    · exact pm_cokV (i := 5) (Ct_X5_turns l sk) ykX5_turns (by decide) (by decide) rfl rfl (by decide) (by decide +kernel) (pm_WS_mem 1393 (by decide +kernel) rfl)
    · exact pm_cokV (i := 5) (Ct_X5_lays l sk) ykX5_lays (by decide) (by decide) rfl rfl (by decide) (by decide +kernel) (pm_WS_mem 1401 (by decide +kernel) rfl)))
theorem ykX5_slotIn : pm_YS yX5_slotIn cX5_slotIn 4 (some .int) := ⟨(pm_WS_mem 1439 (by decide +kernel) rfl), (pm_WS_mem 130 (by decide +kernel) rfl), ⟨by decide +kernel, by decide +kernel⟩, (pm_WS_mem 1438 (by decide +kernel) rfl)⟩
def eX5_slotIn : pm_E := (cX5_slotIn, fX5, fun _ => none, fun _ => none, fun _ => none, fun _ => none, some .int)
theorem zX5_slotIn_B : pm_eB eX5_slotIn = cX5_slotIn := rfl
theorem zX5_slotIn_F : pm_eF eX5_slotIn = fX5 := rfl
theorem zX5_slotIn_R : pm_eR eX5_slotIn = some .int := rfl
theorem zX5_slotIn_X (n : Nat) : pm_eX eX5_slotIn n = none := rfl
def T_X5_slotIn : pm_T := pm_M eX5_slotIn 4
theorem Ct_X5_slotIn (l : Launch) (sk : Nat → Nat) : pm_Ct l sk yX5_slotIn cX5_slotIn 4 (some .int) 1 (T_X5_slotIn) := pm_met eX5_slotIn (by decide) rfl rfl (fun _ => rfl) (fun _ => rfl) fX5_ok (fun _ _ h => by cases h) (fun _ _ _ _ h => by cases h)
theorem ykX5_splits : pm_YV yX5_splits cX5_splits 10 (none) := ⟨(pm_WS_mem 1436 (by decide +kernel) rfl), (pm_WS_mem 130 (by decide +kernel) rfl), ⟨by decide +kernel, by decide +kernel⟩, (pm_WS_mem 1435 (by decide +kernel) rfl), (pm_WS_mem 77 (by decide +kernel) rfl)⟩
def eX5_splits : pm_E := (cX5_splits, fX5, pm_as [(69, 3, some 5, T_X5_of), (80, 3, some 5, T_X5_slotOf), (83, 3, some 5, T_X5_longOf), (76, 3, none, T_X5_placeOf), (94, 2, none, T_X5_slotIn), (90, 6, some 5, T_X5_lays)], fun _ => none, fun _ => none, fun _ => none, none)
theorem zX5_splits_B : pm_eB eX5_splits = cX5_splits := rfl
theorem zX5_splits_F : pm_eF eX5_splits = fX5 := rfl
theorem zX5_splits_R : pm_eR eX5_splits = none := rfl
theorem zX5_splits_X (n : Nat) : pm_eX eX5_splits n = none := rfl
theorem zX5_splits_C69 : pm_eC eX5_splits 69 = some (3, some 5, T_X5_of) := rfl
theorem zX5_splits_C80 : pm_eC eX5_splits 80 = some (3, some 5, T_X5_slotOf) := rfl
theorem zX5_splits_C83 : pm_eC eX5_splits 83 = some (3, some 5, T_X5_longOf) := rfl
theorem zX5_splits_C76 : pm_eC eX5_splits 76 = some (3, none, T_X5_placeOf) := rfl
theorem zX5_splits_C94 : pm_eC eX5_splits 94 = some (2, none, T_X5_slotIn) := rfl
theorem zX5_splits_C90 : pm_eC eX5_splits 90 = some (6, some 5, T_X5_lays) := rfl
def T_X5_splits : pm_T := pm_M eX5_splits 10
theorem Ct_X5_splits (l : Launch) (sk : Nat → Nat) : pm_Ct l sk yX5_splits cX5_splits 10 (none) 3 (T_X5_splits) := pm_met eX5_splits (by decide) rfl rfl (fun _ => rfl) (fun _ => rfl) fX5_ok (fun _ _ h => by cases h) (pm_tabC (by
    intro q hq
    simp only [List.mem_cons, List.not_mem_nil, or_false] at hq
    rcases hq with rfl | rfl | rfl | rfl | rfl | rfl
    · exact pm_cokV (i := 5) (Ct_X5_of l sk) ykX5_of (by decide) (by decide) rfl rfl (by decide) (by decide +kernel) (pm_WS_mem 1374 (by decide +kernel) rfl)
    · exact pm_cokV (i := 5) (Ct_X5_slotOf l sk) ykX5_slotOf (by decide) (by decide) rfl rfl (by decide) (by decide +kernel) (pm_WS_mem 1370 (by decide +kernel) rfl)
    · exact pm_cokV (i := 5) (Ct_X5_longOf l sk) ykX5_longOf (by decide) (by decide) rfl rfl (by decide) (by decide +kernel) (pm_WS_mem 1397 (by decide +kernel) rfl)
    · exact pm_cokS (Ct_X5_placeOf l sk) ykX5_placeOf (by decide) (by decide) (by decide +kernel) (Or.inl (pm_WS_mem 1209 (by decide +kernel) rfl))
    · exact pm_cokS (Ct_X5_slotIn l sk) ykX5_slotIn (by decide) (by decide) (by decide +kernel) (Or.inl (pm_WS_mem 1437 (by decide +kernel) rfl))
    · exact pm_cokV (i := 5) (Ct_X5_lays l sk) ykX5_lays (by decide) (by decide) rfl rfl (by decide) (by decide +kernel) (pm_WS_mem 1401 (by decide +kernel) rfl)))
theorem ykX5_areOne : pm_YV yX5_areOne cX5_areOne 4 (some .boolean) := ⟨(pm_WS_mem 1369 (by decide +kernel) rfl), (pm_WS_mem 130 (by decide +kernel) rfl), ⟨by decide +kernel, by decide +kernel⟩, (pm_WS_mem 1368 (by decide +kernel) rfl), (pm_WS_mem 62 (by decide +kernel) rfl)⟩
def eX5_areOne : pm_E := (cX5_areOne, fX5, pm_as [(80, 3, some 5, T_X5_slotOf)], fun _ => none, fun _ => none, fun _ => none, some .boolean)
theorem zX5_areOne_B : pm_eB eX5_areOne = cX5_areOne := rfl
theorem zX5_areOne_F : pm_eF eX5_areOne = fX5 := rfl
theorem zX5_areOne_R : pm_eR eX5_areOne = some .boolean := rfl
theorem zX5_areOne_X (n : Nat) : pm_eX eX5_areOne n = none := rfl
theorem zX5_areOne_C80 : pm_eC eX5_areOne 80 = some (3, some 5, T_X5_slotOf) := rfl
def T_X5_areOne : pm_T := pm_M eX5_areOne 4
theorem Ct_X5_areOne (l : Launch) (sk : Nat → Nat) : pm_Ct l sk yX5_areOne cX5_areOne 4 (some .boolean) 2 (T_X5_areOne) := pm_met eX5_areOne (by decide) rfl rfl (fun _ => rfl) (fun _ => rfl) fX5_ok (fun _ _ h => by cases h) (pm_tabC (by
    intro q hq
    simp only [List.mem_cons, List.not_mem_nil, or_false] at hq
    rcases hq with rfl
    · exact pm_cokV (i := 5) (Ct_X5_slotOf l sk) ykX5_slotOf (by decide) (by decide) rfl rfl (by decide) (by decide +kernel) (pm_WS_mem 1370 (by decide +kernel) rfl)))
theorem ykX5_partOf : pm_YV yX5_partOf cX5_partOf 5 (some .int) := ⟨(pm_WS_mem 1385 (by decide +kernel) rfl), (pm_WS_mem 130 (by decide +kernel) rfl), ⟨by decide +kernel, by decide +kernel⟩, (pm_WS_mem 1384 (by decide +kernel) rfl), (pm_WS_mem 66 (by decide +kernel) rfl)⟩
def eX5_partOf : pm_E := (cX5_partOf, fX5, pm_as [(98, 4, some 5, T_X5_areOne)], fun _ => none, fun _ => none, fun _ => none, some .int)
theorem zX5_partOf_B : pm_eB eX5_partOf = cX5_partOf := rfl
theorem zX5_partOf_F : pm_eF eX5_partOf = fX5 := rfl
theorem zX5_partOf_R : pm_eR eX5_partOf = some .int := rfl
theorem zX5_partOf_X (n : Nat) : pm_eX eX5_partOf n = none := rfl
theorem zX5_partOf_C98 : pm_eC eX5_partOf 98 = some (4, some 5, T_X5_areOne) := rfl
def T_X5_partOf : pm_T := pm_M eX5_partOf 5
theorem Ct_X5_partOf (l : Launch) (sk : Nat → Nat) : pm_Ct l sk yX5_partOf cX5_partOf 5 (some .int) 3 (T_X5_partOf) := pm_met eX5_partOf (by decide) rfl rfl (fun _ => rfl) (fun _ => rfl) fX5_ok (fun _ _ h => by cases h) (pm_tabC (by
    intro q hq
    simp only [List.mem_cons, List.not_mem_nil, or_false] at hq
    rcases hq with rfl
    · exact pm_cokV (i := 5) (Ct_X5_areOne l sk) ykX5_areOne (by decide) (by decide) rfl rfl (by decide) (by decide +kernel) (pm_WS_mem 1366 (by decide +kernel) rfl)))
theorem ykX5_members : pm_YS yX5_members cX5_members 3 (some .int) := ⟨(pm_WS_mem 1388 (by decide +kernel) rfl), (pm_WS_mem 130 (by decide +kernel) rfl), ⟨by decide +kernel, by decide +kernel⟩, (pm_WS_mem 1387 (by decide +kernel) rfl)⟩
def eX5_members : pm_E := (cX5_members, fX5, fun _ => none, fun _ => none, fun _ => none, fun _ => none, some .int)
theorem zX5_members_B : pm_eB eX5_members = cX5_members := rfl
theorem zX5_members_F : pm_eF eX5_members = fX5 := rfl
theorem zX5_members_R : pm_eR eX5_members = some .int := rfl
theorem zX5_members_X (n : Nat) : pm_eX eX5_members n = none := rfl
def T_X5_members : pm_T := pm_M eX5_members 3
theorem Ct_X5_members (l : Launch) (sk : Nat → Nat) : pm_Ct l sk yX5_members cX5_members 3 (some .int) 1 (T_X5_members) := pm_met eX5_members (by decide) rfl rfl (fun _ => rfl) (fun _ => rfl) fX5_ok (fun _ _ h => by cases h) (fun _ _ _ _ h => by cases h)
theorem ykX5_isOf : pm_YS yX5_isOf cX5_isOf 2 (some .boolean) := ⟨(pm_WS_mem 1411 (by decide +kernel) rfl), (pm_WS_mem 130 (by decide +kernel) rfl), ⟨by decide +kernel, by decide +kernel⟩, (pm_WS_mem 1410 (by decide +kernel) rfl)⟩
def eX5_isOf : pm_E := (cX5_isOf, fX5, fun _ => none, fun _ => none, fun _ => none, fun _ => none, some .boolean)
theorem zX5_isOf_B : pm_eB eX5_isOf = cX5_isOf := rfl
theorem zX5_isOf_F : pm_eF eX5_isOf = fX5 := rfl
theorem zX5_isOf_R : pm_eR eX5_isOf = some .boolean := rfl
theorem zX5_isOf_X (n : Nat) : pm_eX eX5_isOf n = none := rfl
def T_X5_isOf : pm_T := pm_M eX5_isOf 2
theorem Ct_X5_isOf (l : Launch) (sk : Nat → Nat) : pm_Ct l sk yX5_isOf cX5_isOf 2 (some .boolean) 1 (T_X5_isOf) := pm_met eX5_isOf (by decide) rfl rfl (fun _ => rfl) (fun _ => rfl) fX5_ok (fun _ _ h => by cases h) (fun _ _ _ _ h => by cases h)
theorem ykX5_names : pm_YV yX5_names cX5_names 4 (none) := ⟨(pm_WS_mem 1408 (by decide +kernel) rfl), (pm_WS_mem 130 (by decide +kernel) rfl), ⟨by decide +kernel, by decide +kernel⟩, (pm_WS_mem 1407 (by decide +kernel) rfl), (pm_WS_mem 71 (by decide +kernel) rfl)⟩
def eX5_names : pm_E := (cX5_names, fX5, pm_as [(101, 2, none, T_X5_isOf)], fun _ => none, fun _ => none, fun _ => none, none)
theorem zX5_names_B : pm_eB eX5_names = cX5_names := rfl
theorem zX5_names_F : pm_eF eX5_names = fX5 := rfl
theorem zX5_names_R : pm_eR eX5_names = none := rfl
theorem zX5_names_X (n : Nat) : pm_eX eX5_names n = none := rfl
theorem zX5_names_C101 : pm_eC eX5_names 101 = some (2, none, T_X5_isOf) := rfl
def T_X5_names : pm_T := pm_M eX5_names 4
theorem Ct_X5_names (l : Launch) (sk : Nat → Nat) : pm_Ct l sk yX5_names cX5_names 4 (none) 2 (T_X5_names) := pm_met eX5_names (by decide) rfl rfl (fun _ => rfl) (fun _ => rfl) fX5_ok (fun _ _ h => by cases h) (pm_tabC (by
    intro q hq
    simp only [List.mem_cons, List.not_mem_nil, or_false] at hq
    rcases hq with rfl
    · exact pm_cokS (Ct_X5_isOf l sk) ykX5_isOf (by decide) (by decide) (by decide +kernel) (Or.inl (pm_WS_mem 1409 (by decide +kernel) rfl))))
theorem ykX5_logs : pm_YV yX5_logs cX5_logs 4 (none) := ⟨(pm_WS_mem 1381 (by decide +kernel) rfl), (pm_WS_mem 130 (by decide +kernel) rfl), ⟨by decide +kernel, by decide +kernel⟩, (pm_WS_mem 1380 (by decide +kernel) rfl), (pm_WS_mem 65 (by decide +kernel) rfl)⟩
def eX5_logs : pm_E := (cX5_logs, fX5, pm_as [(69, 3, some 5, T_X5_of)], fun _ => none, fun _ => none, fun _ => none, none)
theorem zX5_logs_B : pm_eB eX5_logs = cX5_logs := rfl
theorem zX5_logs_F : pm_eF eX5_logs = fX5 := rfl
theorem zX5_logs_R : pm_eR eX5_logs = none := rfl
theorem zX5_logs_X (n : Nat) : pm_eX eX5_logs n = none := rfl
theorem zX5_logs_C69 : pm_eC eX5_logs 69 = some (3, some 5, T_X5_of) := rfl
def T_X5_logs : pm_T := pm_M eX5_logs 4
theorem Ct_X5_logs (l : Launch) (sk : Nat → Nat) : pm_Ct l sk yX5_logs cX5_logs 4 (none) 2 (T_X5_logs) := pm_met eX5_logs (by decide) rfl rfl (fun _ => rfl) (fun _ => rfl) fX5_ok (fun _ _ h => by cases h) (pm_tabC (by
    intro q hq
    simp only [List.mem_cons, List.not_mem_nil, or_false] at hq
    rcases hq with rfl
    · exact pm_cokV (i := 5) (Ct_X5_of l sk) ykX5_of (by decide) (by decide) rfl rfl (by decide) (by decide +kernel) (pm_WS_mem 1374 (by decide +kernel) rfl)))
theorem ykX5_lay0 : pm_YV yX5_lay0 cX5_lay0 8 (some .int) := ⟨(pm_WS_mem 1357 (by decide +kernel) rfl), (pm_WS_mem 130 (by decide +kernel) rfl), ⟨by decide +kernel, by decide +kernel⟩, (pm_WS_mem 1356 (by decide +kernel) rfl), (pm_WS_mem 59 (by decide +kernel) rfl)⟩
def eX5_lay0 : pm_E := (cX5_lay0, fX5, pm_as [(105, 2, some 5, T_X5_isNode), (108, 4, some 5, T_X5_sets), (98, 4, some 5, T_X5_areOne), (69, 3, some 5, T_X5_of), (112, 3, some 5, T_X5_logs), (116, 3, some 5, T_X5_partOf), (119, 1, none, T_X5_members), (123, 3, some 5, T_X5_joins), (126, 3, some 5, T_X5_names)], fun _ => none, fun _ => none, fun _ => none, some .int)
theorem zX5_lay0_B : pm_eB eX5_lay0 = cX5_lay0 := rfl
theorem zX5_lay0_F : pm_eF eX5_lay0 = fX5 := rfl
theorem zX5_lay0_R : pm_eR eX5_lay0 = some .int := rfl
theorem zX5_lay0_X (n : Nat) : pm_eX eX5_lay0 n = none := rfl
theorem zX5_lay0_C105 : pm_eC eX5_lay0 105 = some (2, some 5, T_X5_isNode) := rfl
theorem zX5_lay0_C108 : pm_eC eX5_lay0 108 = some (4, some 5, T_X5_sets) := rfl
theorem zX5_lay0_C98 : pm_eC eX5_lay0 98 = some (4, some 5, T_X5_areOne) := rfl
theorem zX5_lay0_C69 : pm_eC eX5_lay0 69 = some (3, some 5, T_X5_of) := rfl
theorem zX5_lay0_C112 : pm_eC eX5_lay0 112 = some (3, some 5, T_X5_logs) := rfl
theorem zX5_lay0_C116 : pm_eC eX5_lay0 116 = some (3, some 5, T_X5_partOf) := rfl
theorem zX5_lay0_C119 : pm_eC eX5_lay0 119 = some (1, none, T_X5_members) := rfl
theorem zX5_lay0_C123 : pm_eC eX5_lay0 123 = some (3, some 5, T_X5_joins) := rfl
theorem zX5_lay0_C126 : pm_eC eX5_lay0 126 = some (3, some 5, T_X5_names) := rfl
def T_X5_lay0 : pm_T := pm_M eX5_lay0 8
theorem Ct_X5_lay0 (l : Launch) (sk : Nat → Nat) : pm_Ct l sk yX5_lay0 cX5_lay0 8 (some .int) 4 (T_X5_lay0) := pm_met eX5_lay0 (by decide) rfl rfl (fun _ => rfl) (fun _ => rfl) fX5_ok (fun _ _ h => by cases h) (pm_tabC (by
    intro q hq
    simp only [List.mem_cons, List.not_mem_nil, or_false] at hq
    rcases hq with rfl | rfl | rfl | rfl | rfl | rfl | rfl | rfl | rfl
    · exact pm_cokV (i := 5) (Ct_X5_isNode l sk) ykX5_isNode (by decide) (by decide) rfl rfl (by decide) (by decide +kernel) (pm_WS_mem 1358 (by decide +kernel) rfl)
    · exact pm_cokV (i := 5) (Ct_X5_sets l sk) ykX5_sets (by decide) (by decide) rfl rfl (by decide) (by decide +kernel) (pm_WS_mem 1362 (by decide +kernel) rfl)
    · exact pm_cokV (i := 5) (Ct_X5_areOne l sk) ykX5_areOne (by decide) (by decide) rfl rfl (by decide) (by decide +kernel) (pm_WS_mem 1366 (by decide +kernel) rfl)
    · exact pm_cokV (i := 5) (Ct_X5_of l sk) ykX5_of (by decide) (by decide) rfl rfl (by decide) (by decide +kernel) (pm_WS_mem 1374 (by decide +kernel) rfl)
    · exact pm_cokV (i := 5) (Ct_X5_logs l sk) ykX5_logs (by decide) (by decide) rfl rfl (by decide) (by decide +kernel) (pm_WS_mem 1378 (by decide +kernel) rfl)
    · exact pm_cokV (i := 5) (Ct_X5_partOf l sk) ykX5_partOf (by decide) (by decide) rfl rfl (by decide) (by decide +kernel) (pm_WS_mem 1382 (by decide +kernel) rfl)
    · exact pm_cokS (Ct_X5_members l sk) ykX5_members (by decide) (by decide) (by decide +kernel) (Or.inl (pm_WS_mem 1386 (by decide +kernel) rfl))
    · exact pm_cokV (i := 5) (Ct_X5_joins l sk) ykX5_joins (by decide) (by decide) rfl rfl (by decide) (by decide +kernel) (pm_WS_mem 1389 (by decide +kernel) rfl)
    · exact pm_cokV (i := 5) (Ct_X5_names l sk) ykX5_names (by decide) (by decide) rfl rfl (by decide) (by decide +kernel) (pm_WS_mem 1405 (by decide +kernel) rfl)))
theorem ykX5_rises : pm_YV yX5_rises cX5_rises 3 (none) := ⟨(pm_WS_mem 1451 (by decide +kernel) rfl), (pm_WS_mem 130 (by decide +kernel) rfl), ⟨by decide +kernel, by decide +kernel⟩, (pm_WS_mem 1450 (by decide +kernel) rfl), (pm_WS_mem 80 (by decide +kernel) rfl)⟩
def eX5_rises : pm_E := (cX5_rises, fX5, pm_as [(69, 3, some 5, T_X5_of), (108, 4, some 5, T_X5_sets), (112, 3, some 5, T_X5_logs), (123, 3, some 5, T_X5_joins)], fun _ => none, fun _ => none, fun _ => none, none)
theorem zX5_rises_B : pm_eB eX5_rises = cX5_rises := rfl
theorem zX5_rises_F : pm_eF eX5_rises = fX5 := rfl
theorem zX5_rises_R : pm_eR eX5_rises = none := rfl
theorem zX5_rises_X (n : Nat) : pm_eX eX5_rises n = none := rfl
theorem zX5_rises_C69 : pm_eC eX5_rises 69 = some (3, some 5, T_X5_of) := rfl
theorem zX5_rises_C108 : pm_eC eX5_rises 108 = some (4, some 5, T_X5_sets) := rfl
theorem zX5_rises_C112 : pm_eC eX5_rises 112 = some (3, some 5, T_X5_logs) := rfl
theorem zX5_rises_C123 : pm_eC eX5_rises 123 = some (3, some 5, T_X5_joins) := rfl
def T_X5_rises : pm_T := pm_M eX5_rises 3
theorem Ct_X5_rises (l : Launch) (sk : Nat → Nat) : pm_Ct l sk yX5_rises cX5_rises 3 (none) 4 (T_X5_rises) := pm_met eX5_rises (by decide) rfl rfl (fun _ => rfl) (fun _ => rfl) fX5_ok (fun _ _ h => by cases h) (pm_tabC (by
    intro q hq
    simp only [List.mem_cons, List.not_mem_nil, or_false] at hq
    rcases hq with rfl | rfl | rfl | rfl
    · exact pm_cokV (i := 5) (Ct_X5_of l sk) ykX5_of (by decide) (by decide) rfl rfl (by decide) (by decide +kernel) (pm_WS_mem 1374 (by decide +kernel) rfl)
    · exact pm_cokV (i := 5) (Ct_X5_sets l sk) ykX5_sets (by decide) (by decide) rfl rfl (by decide) (by decide +kernel) (pm_WS_mem 1362 (by decide +kernel) rfl)
    · exact pm_cokV (i := 5) (Ct_X5_logs l sk) ykX5_logs (by decide) (by decide) rfl rfl (by decide) (by decide +kernel) (pm_WS_mem 1378 (by decide +kernel) rfl)
    · exact pm_cokV (i := 5) (Ct_X5_joins l sk) ykX5_joins (by decide) (by decide) rfl rfl (by decide) (by decide +kernel) (pm_WS_mem 1389 (by decide +kernel) rfl)))
theorem ykX5_searches : pm_YV yX5_searches cX5_searches 11 (some .boolean) := ⟨(pm_WS_mem 1443 (by decide +kernel) rfl), (pm_WS_mem 130 (by decide +kernel) rfl), ⟨by decide +kernel, by decide +kernel⟩, (pm_WS_mem 1442 (by decide +kernel) rfl), (pm_WS_mem 78 (by decide +kernel) rfl)⟩
def eX5_searches : pm_E := (cX5_searches, fX5, pm_as [(69, 3, some 5, T_X5_of), (116, 3, some 5, T_X5_partOf), (119, 1, none, T_X5_members), (129, 1, some 5, T_X5_height), (133, 2, some 5, T_X5_isTree), (101, 2, none, T_X5_isOf), (136, 2, some 5, T_X5_rises), (108, 4, some 5, T_X5_sets), (112, 3, some 5, T_X5_logs), (123, 3, some 5, T_X5_joins)], fun _ => none, fun _ => none, fun _ => none, some .boolean)
theorem zX5_searches_B : pm_eB eX5_searches = cX5_searches := rfl
theorem zX5_searches_F : pm_eF eX5_searches = fX5 := rfl
theorem zX5_searches_R : pm_eR eX5_searches = some .boolean := rfl
theorem zX5_searches_X (n : Nat) : pm_eX eX5_searches n = none := rfl
theorem zX5_searches_C69 : pm_eC eX5_searches 69 = some (3, some 5, T_X5_of) := rfl
theorem zX5_searches_C116 : pm_eC eX5_searches 116 = some (3, some 5, T_X5_partOf) := rfl
theorem zX5_searches_C119 : pm_eC eX5_searches 119 = some (1, none, T_X5_members) := rfl
theorem zX5_searches_C129 : pm_eC eX5_searches 129 = some (1, some 5, T_X5_height) := rfl
theorem zX5_searches_C133 : pm_eC eX5_searches 133 = some (2, some 5, T_X5_isTree) := rfl
theorem zX5_searches_C101 : pm_eC eX5_searches 101 = some (2, none, T_X5_isOf) := rfl
theorem zX5_searches_C136 : pm_eC eX5_searches 136 = some (2, some 5, T_X5_rises) := rfl
theorem zX5_searches_C108 : pm_eC eX5_searches 108 = some (4, some 5, T_X5_sets) := rfl
theorem zX5_searches_C112 : pm_eC eX5_searches 112 = some (3, some 5, T_X5_logs) := rfl
theorem zX5_searches_C123 : pm_eC eX5_searches 123 = some (3, some 5, T_X5_joins) := rfl
def T_X5_searches : pm_T := pm_M eX5_searches 11
theorem Ct_X5_searches (l : Launch) (sk : Nat → Nat) : pm_Ct l sk yX5_searches cX5_searches 11 (some .boolean) 5 (T_X5_searches) := pm_met eX5_searches (by decide) rfl rfl (fun _ => rfl) (fun _ => rfl) fX5_ok (fun _ _ h => by cases h) (pm_tabC (by
    intro q hq
    simp only [List.mem_cons, List.not_mem_nil, or_false] at hq
    rcases hq with rfl | rfl | rfl | rfl | rfl | rfl | rfl | rfl | rfl | rfl
    · exact pm_cokV (i := 5) (Ct_X5_of l sk) ykX5_of (by decide) (by decide) rfl rfl (by decide) (by decide +kernel) (pm_WS_mem 1374 (by decide +kernel) rfl)
    · exact pm_cokV (i := 5) (Ct_X5_partOf l sk) ykX5_partOf (by decide) (by decide) rfl rfl (by decide) (by decide +kernel) (pm_WS_mem 1382 (by decide +kernel) rfl)
    · exact pm_cokS (Ct_X5_members l sk) ykX5_members (by decide) (by decide) (by decide +kernel) (Or.inl (pm_WS_mem 1386 (by decide +kernel) rfl))
    · exact pm_cokV (i := 5) (Ct_X5_height l sk) ykX5_height (by decide) (by decide) rfl rfl (by decide) (by decide +kernel) (pm_WS_mem 1444 (by decide +kernel) rfl)
    · exact pm_cokV (i := 5) (Ct_X5_isTree l sk) ykX5_isTree (by decide) (by decide) rfl rfl (by decide) (by decide +kernel) (pm_WS_mem 1429 (by decide +kernel) rfl)
    · exact pm_cokS (Ct_X5_isOf l sk) ykX5_isOf (by decide) (by decide) (by decide +kernel) (Or.inl (pm_WS_mem 1409 (by decide +kernel) rfl))
    · exact pm_cokV (i := 5) (Ct_X5_rises l sk) ykX5_rises (by decide) (by decide) rfl rfl (by decide) (by decide +kernel) (pm_WS_mem 1448 (by decide +kernel) rfl)
    · exact pm_cokV (i := 5) (Ct_X5_sets l sk) ykX5_sets (by decide) (by decide) rfl rfl (by decide) (by decide +kernel) (pm_WS_mem 1362 (by decide +kernel) rfl)
    · exact pm_cokV (i := 5) (Ct_X5_logs l sk) ykX5_logs (by decide) (by decide) rfl rfl (by decide) (by decide +kernel) (pm_WS_mem 1378 (by decide +kernel) rfl)
    · exact pm_cokV (i := 5) (Ct_X5_joins l sk) ykX5_joins (by decide) (by decide) rfl rfl (by decide) (by decide +kernel) (pm_WS_mem 1389 (by decide +kernel) rfl)))
theorem ykX5_leastName : pm_YV yX5_leastName cX5_leastName 5 (some .int) := ⟨(pm_WS_mem 1455 (by decide +kernel) rfl), (pm_WS_mem 130 (by decide +kernel) rfl), ⟨by decide +kernel, by decide +kernel⟩, (pm_WS_mem 1454 (by decide +kernel) rfl), (pm_WS_mem 81 (by decide +kernel) rfl)⟩
def eX5_leastName : pm_E := (cX5_leastName, fX5, pm_as [(101, 2, none, T_X5_isOf)], fun _ => none, fun _ => none, fun _ => none, some .int)
theorem zX5_leastName_B : pm_eB eX5_leastName = cX5_leastName := rfl
theorem zX5_leastName_F : pm_eF eX5_leastName = fX5 := rfl
theorem zX5_leastName_R : pm_eR eX5_leastName = some .int := rfl
theorem zX5_leastName_X (n : Nat) : pm_eX eX5_leastName n = none := rfl
theorem zX5_leastName_C101 : pm_eC eX5_leastName 101 = some (2, none, T_X5_isOf) := rfl
def T_X5_leastName : pm_T := pm_M eX5_leastName 5
theorem Ct_X5_leastName (l : Launch) (sk : Nat → Nat) : pm_Ct l sk yX5_leastName cX5_leastName 5 (some .int) 2 (T_X5_leastName) := pm_met eX5_leastName (by decide) rfl rfl (fun _ => rfl) (fun _ => rfl) fX5_ok (fun _ _ h => by cases h) (pm_tabC (by
    intro q hq
    simp only [List.mem_cons, List.not_mem_nil, or_false] at hq
    rcases hq with rfl
    · exact pm_cokS (Ct_X5_isOf l sk) ykX5_isOf (by decide) (by decide) (by decide +kernel) (Or.inl (pm_WS_mem 1409 (by decide +kernel) rfl))))
theorem ykX5_lift0 : pm_YV yX5_lift0 cX5_lift0 8 (some .int) := ⟨(pm_WS_mem 1420 (by decide +kernel) rfl), (pm_WS_mem 130 (by decide +kernel) rfl), ⟨by decide +kernel, by decide +kernel⟩, (pm_WS_mem 1419 (by decide +kernel) rfl), (pm_WS_mem 73 (by decide +kernel) rfl)⟩
def eX5_lift0 : pm_E := (cX5_lift0, fX5, pm_as [(142, 2, some 5, T_X5_isThere), (133, 2, some 5, T_X5_isTree), (108, 4, some 5, T_X5_sets), (112, 3, some 5, T_X5_logs), (69, 3, some 5, T_X5_of), (145, 3, some 5, T_X5_splits), (148, 3, some 5, T_X5_searches), (116, 3, some 5, T_X5_partOf), (119, 1, none, T_X5_members), (151, 2, some 5, T_X5_leastName), (126, 3, some 5, T_X5_names)], fun _ => none, fun _ => none, fun _ => none, some .int)
theorem zX5_lift0_B : pm_eB eX5_lift0 = cX5_lift0 := rfl
theorem zX5_lift0_F : pm_eF eX5_lift0 = fX5 := rfl
theorem zX5_lift0_R : pm_eR eX5_lift0 = some .int := rfl
theorem zX5_lift0_X (n : Nat) : pm_eX eX5_lift0 n = none := rfl
theorem zX5_lift0_C142 : pm_eC eX5_lift0 142 = some (2, some 5, T_X5_isThere) := rfl
theorem zX5_lift0_C133 : pm_eC eX5_lift0 133 = some (2, some 5, T_X5_isTree) := rfl
theorem zX5_lift0_C108 : pm_eC eX5_lift0 108 = some (4, some 5, T_X5_sets) := rfl
theorem zX5_lift0_C112 : pm_eC eX5_lift0 112 = some (3, some 5, T_X5_logs) := rfl
theorem zX5_lift0_C69 : pm_eC eX5_lift0 69 = some (3, some 5, T_X5_of) := rfl
theorem zX5_lift0_C145 : pm_eC eX5_lift0 145 = some (3, some 5, T_X5_splits) := rfl
theorem zX5_lift0_C148 : pm_eC eX5_lift0 148 = some (3, some 5, T_X5_searches) := rfl
theorem zX5_lift0_C116 : pm_eC eX5_lift0 116 = some (3, some 5, T_X5_partOf) := rfl
theorem zX5_lift0_C119 : pm_eC eX5_lift0 119 = some (1, none, T_X5_members) := rfl
theorem zX5_lift0_C151 : pm_eC eX5_lift0 151 = some (2, some 5, T_X5_leastName) := rfl
theorem zX5_lift0_C126 : pm_eC eX5_lift0 126 = some (3, some 5, T_X5_names) := rfl
def T_X5_lift0 : pm_T := pm_M eX5_lift0 8
theorem Ct_X5_lift0 (l : Launch) (sk : Nat → Nat) : pm_Ct l sk yX5_lift0 cX5_lift0 8 (some .int) 6 (T_X5_lift0) := pm_met eX5_lift0 (by decide) rfl rfl (fun _ => rfl) (fun _ => rfl) fX5_ok (fun _ _ h => by cases h) (pm_tabC (by
    intro q hq
    simp only [List.mem_cons, List.not_mem_nil, or_false] at hq
    rcases hq with rfl | rfl | rfl | rfl | rfl | rfl | rfl | rfl | rfl | rfl | rfl
    · exact pm_cokV (i := 5) (Ct_X5_isThere l sk) ykX5_isThere (by decide) (by decide) rfl rfl (by decide) (by decide +kernel) (pm_WS_mem 1421 (by decide +kernel) rfl)
    · exact pm_cokV (i := 5) (Ct_X5_isTree l sk) ykX5_isTree (by decide) (by decide) rfl rfl (by decide) (by decide +kernel) (pm_WS_mem 1429 (by decide +kernel) rfl)
    · exact pm_cokV (i := 5) (Ct_X5_sets l sk) ykX5_sets (by decide) (by decide) rfl rfl (by decide) (by decide +kernel) (pm_WS_mem 1362 (by decide +kernel) rfl)
    · exact pm_cokV (i := 5) (Ct_X5_logs l sk) ykX5_logs (by decide) (by decide) rfl rfl (by decide) (by decide +kernel) (pm_WS_mem 1378 (by decide +kernel) rfl)
    · exact pm_cokV (i := 5) (Ct_X5_of l sk) ykX5_of (by decide) (by decide) rfl rfl (by decide) (by decide +kernel) (pm_WS_mem 1374 (by decide +kernel) rfl)
    · exact pm_cokV (i := 5) (Ct_X5_splits l sk) ykX5_splits (by decide) (by decide) rfl rfl (by decide) (by decide +kernel) (pm_WS_mem 1433 (by decide +kernel) rfl)
    · exact pm_cokV (i := 5) (Ct_X5_searches l sk) ykX5_searches (by decide) (by decide) rfl rfl (by decide) (by decide +kernel) (pm_WS_mem 1440 (by decide +kernel) rfl)
    · exact pm_cokV (i := 5) (Ct_X5_partOf l sk) ykX5_partOf (by decide) (by decide) rfl rfl (by decide) (by decide +kernel) (pm_WS_mem 1382 (by decide +kernel) rfl)
    · exact pm_cokS (Ct_X5_members l sk) ykX5_members (by decide) (by decide) (by decide +kernel) (Or.inl (pm_WS_mem 1386 (by decide +kernel) rfl))
    · exact pm_cokV (i := 5) (Ct_X5_leastName l sk) ykX5_leastName (by decide) (by decide) rfl rfl (by decide) (by decide +kernel) (pm_WS_mem 1452 (by decide +kernel) rfl)
    · exact pm_cokV (i := 5) (Ct_X5_names l sk) ykX5_names (by decide) (by decide) rfl rfl (by decide) (by decide +kernel) (pm_WS_mem 1405 (by decide +kernel) rfl)))
theorem ykX5_tiedWithout : pm_YV yX5_tiedWithout cX5_tiedWithout 6 (some .int) := ⟨(pm_WS_mem 1468 (by decide +kernel) rfl), (pm_WS_mem 130 (by decide +kernel) rfl), ⟨by decide +kernel, by decide +kernel⟩, (pm_WS_mem 1467 (by decide +kernel) rfl), (pm_WS_mem 84 (by decide +kernel) rfl)⟩
def eX5_tiedWithout : pm_E := (cX5_tiedWithout, fX5, pm_as [(133, 2, some 5, T_X5_isTree), (69, 3, some 5, T_X5_of), (101, 2, none, T_X5_isOf)], fun _ => none, fun _ => none, fun _ => none, some .int)
theorem zX5_tiedWithout_B : pm_eB eX5_tiedWithout = cX5_tiedWithout := rfl
theorem zX5_tiedWithout_F : pm_eF eX5_tiedWithout = fX5 := rfl
theorem zX5_tiedWithout_R : pm_eR eX5_tiedWithout = some .int := rfl
theorem zX5_tiedWithout_X (n : Nat) : pm_eX eX5_tiedWithout n = none := rfl
theorem zX5_tiedWithout_C133 : pm_eC eX5_tiedWithout 133 = some (2, some 5, T_X5_isTree) := rfl
theorem zX5_tiedWithout_C69 : pm_eC eX5_tiedWithout 69 = some (3, some 5, T_X5_of) := rfl
theorem zX5_tiedWithout_C101 : pm_eC eX5_tiedWithout 101 = some (2, none, T_X5_isOf) := rfl
def T_X5_tiedWithout : pm_T := pm_M eX5_tiedWithout 6
theorem Ct_X5_tiedWithout (l : Launch) (sk : Nat → Nat) : pm_Ct l sk yX5_tiedWithout cX5_tiedWithout 6 (some .int) 4 (T_X5_tiedWithout) := pm_met eX5_tiedWithout (by decide) rfl rfl (fun _ => rfl) (fun _ => rfl) fX5_ok (fun _ _ h => by cases h) (pm_tabC (by
    intro q hq
    simp only [List.mem_cons, List.not_mem_nil, or_false] at hq
    rcases hq with rfl | rfl | rfl
    · exact pm_cokV (i := 5) (Ct_X5_isTree l sk) ykX5_isTree (by decide) (by decide) rfl rfl (by decide) (by decide +kernel) (pm_WS_mem 1429 (by decide +kernel) rfl)
    · exact pm_cokV (i := 5) (Ct_X5_of l sk) ykX5_of (by decide) (by decide) rfl rfl (by decide) (by decide +kernel) (pm_WS_mem 1374 (by decide +kernel) rfl)
    · exact pm_cokS (Ct_X5_isOf l sk) ykX5_isOf (by decide) (by decide) (by decide +kernel) (Or.inl (pm_WS_mem 1409 (by decide +kernel) rfl))))
theorem ykX5_isOnWay : pm_YV yX5_isOnWay cX5_isOnWay 4 (some .boolean) := ⟨(pm_WS_mem 1464 (by decide +kernel) rfl), (pm_WS_mem 130 (by decide +kernel) rfl), ⟨by decide +kernel, by decide +kernel⟩, (pm_WS_mem 1463 (by decide +kernel) rfl), (pm_WS_mem 83 (by decide +kernel) rfl)⟩
def eX5_isOnWay : pm_E := (cX5_isOnWay, fX5, pm_as [(154, 3, some 5, T_X5_tiedWithout), (101, 2, none, T_X5_isOf)], fun _ => none, fun _ => none, fun _ => none, some .boolean)
theorem zX5_isOnWay_B : pm_eB eX5_isOnWay = cX5_isOnWay := rfl
theorem zX5_isOnWay_F : pm_eF eX5_isOnWay = fX5 := rfl
theorem zX5_isOnWay_R : pm_eR eX5_isOnWay = some .boolean := rfl
theorem zX5_isOnWay_X (n : Nat) : pm_eX eX5_isOnWay n = none := rfl
theorem zX5_isOnWay_C154 : pm_eC eX5_isOnWay 154 = some (3, some 5, T_X5_tiedWithout) := rfl
theorem zX5_isOnWay_C101 : pm_eC eX5_isOnWay 101 = some (2, none, T_X5_isOf) := rfl
def T_X5_isOnWay : pm_T := pm_M eX5_isOnWay 4
theorem Ct_X5_isOnWay (l : Launch) (sk : Nat → Nat) : pm_Ct l sk yX5_isOnWay cX5_isOnWay 4 (some .boolean) 5 (T_X5_isOnWay) := pm_met eX5_isOnWay (by decide) rfl rfl (fun _ => rfl) (fun _ => rfl) fX5_ok (fun _ _ h => by cases h) (pm_tabC (by
    intro q hq
    simp only [List.mem_cons, List.not_mem_nil, or_false] at hq
    rcases hq with rfl | rfl
    · exact pm_cokV (i := 5) (Ct_X5_tiedWithout l sk) ykX5_tiedWithout (by decide) (by decide) rfl rfl (by decide) (by decide +kernel) (pm_WS_mem 1465 (by decide +kernel) rfl)
    · exact pm_cokS (Ct_X5_isOf l sk) ykX5_isOf (by decide) (by decide) (by decide +kernel) (Or.inl (pm_WS_mem 1409 (by decide +kernel) rfl))))
theorem ykX5_swap0 : pm_YV yX5_swap0 cX5_swap0 3 (some .int) := ⟨(pm_WS_mem 1460 (by decide +kernel) rfl), (pm_WS_mem 130 (by decide +kernel) rfl), ⟨by decide +kernel, by decide +kernel⟩, (pm_WS_mem 1459 (by decide +kernel) rfl), (pm_WS_mem 82 (by decide +kernel) rfl)⟩
def eX5_swap0 : pm_E := (cX5_swap0, fX5, pm_as [(133, 2, some 5, T_X5_isTree), (142, 2, some 5, T_X5_isThere), (69, 3, some 5, T_X5_of), (157, 4, some 5, T_X5_isOnWay), (98, 4, some 5, T_X5_areOne), (145, 3, some 5, T_X5_splits), (108, 4, some 5, T_X5_sets), (123, 3, some 5, T_X5_joins)], fun _ => none, fun _ => none, fun _ => none, some .int)
theorem zX5_swap0_B : pm_eB eX5_swap0 = cX5_swap0 := rfl
theorem zX5_swap0_F : pm_eF eX5_swap0 = fX5 := rfl
theorem zX5_swap0_R : pm_eR eX5_swap0 = some .int := rfl
theorem zX5_swap0_X (n : Nat) : pm_eX eX5_swap0 n = none := rfl
theorem zX5_swap0_C133 : pm_eC eX5_swap0 133 = some (2, some 5, T_X5_isTree) := rfl
theorem zX5_swap0_C142 : pm_eC eX5_swap0 142 = some (2, some 5, T_X5_isThere) := rfl
theorem zX5_swap0_C69 : pm_eC eX5_swap0 69 = some (3, some 5, T_X5_of) := rfl
theorem zX5_swap0_C157 : pm_eC eX5_swap0 157 = some (4, some 5, T_X5_isOnWay) := rfl
theorem zX5_swap0_C98 : pm_eC eX5_swap0 98 = some (4, some 5, T_X5_areOne) := rfl
theorem zX5_swap0_C145 : pm_eC eX5_swap0 145 = some (3, some 5, T_X5_splits) := rfl
theorem zX5_swap0_C108 : pm_eC eX5_swap0 108 = some (4, some 5, T_X5_sets) := rfl
theorem zX5_swap0_C123 : pm_eC eX5_swap0 123 = some (3, some 5, T_X5_joins) := rfl
def T_X5_swap0 : pm_T := pm_M eX5_swap0 3
theorem Ct_X5_swap0 (l : Launch) (sk : Nat → Nat) : pm_Ct l sk yX5_swap0 cX5_swap0 3 (some .int) 6 (T_X5_swap0) := pm_met eX5_swap0 (by decide) rfl rfl (fun _ => rfl) (fun _ => rfl) fX5_ok (fun _ _ h => by cases h) (pm_tabC (by
    intro q hq
    simp only [List.mem_cons, List.not_mem_nil, or_false] at hq
    rcases hq with rfl | rfl | rfl | rfl | rfl | rfl | rfl | rfl
    · exact pm_cokV (i := 5) (Ct_X5_isTree l sk) ykX5_isTree (by decide) (by decide) rfl rfl (by decide) (by decide +kernel) (pm_WS_mem 1429 (by decide +kernel) rfl)
    · exact pm_cokV (i := 5) (Ct_X5_isThere l sk) ykX5_isThere (by decide) (by decide) rfl rfl (by decide) (by decide +kernel) (pm_WS_mem 1421 (by decide +kernel) rfl)
    · exact pm_cokV (i := 5) (Ct_X5_of l sk) ykX5_of (by decide) (by decide) rfl rfl (by decide) (by decide +kernel) (pm_WS_mem 1374 (by decide +kernel) rfl)
    · exact pm_cokV (i := 5) (Ct_X5_isOnWay l sk) ykX5_isOnWay (by decide) (by decide) rfl rfl (by decide) (by decide +kernel) (pm_WS_mem 1461 (by decide +kernel) rfl)
    · exact pm_cokV (i := 5) (Ct_X5_areOne l sk) ykX5_areOne (by decide) (by decide) rfl rfl (by decide) (by decide +kernel) (pm_WS_mem 1366 (by decide +kernel) rfl)
    · exact pm_cokV (i := 5) (Ct_X5_splits l sk) ykX5_splits (by decide) (by decide) rfl rfl (by decide) (by decide +kernel) (pm_WS_mem 1433 (by decide +kernel) rfl)
    · exact pm_cokV (i := 5) (Ct_X5_sets l sk) ykX5_sets (by decide) (by decide) rfl rfl (by decide) (by decide +kernel) (pm_WS_mem 1362 (by decide +kernel) rfl)
    · exact pm_cokV (i := 5) (Ct_X5_joins l sk) ykX5_joins (by decide) (by decide) rfl rfl (by decide) (by decide +kernel) (pm_WS_mem 1389 (by decide +kernel) rfl)))
theorem ykX5_fail0 : pm_YV yX5_fail0 cX5_fail0 4 (some .int) := ⟨(pm_WS_mem 1473 (by decide +kernel) rfl), (pm_WS_mem 130 (by decide +kernel) rfl), ⟨by decide +kernel, by decide +kernel⟩, (pm_WS_mem 1472 (by decide +kernel) rfl), (pm_WS_mem 85 (by decide +kernel) rfl)⟩
def eX5_fail0 : pm_E := (cX5_fail0, fX5, pm_as [(105, 2, some 5, T_X5_isNode), (142, 2, some 5, T_X5_isThere), (69, 3, some 5, T_X5_of), (163, 2, some 5, T_X5_lift0)], fun _ => none, fun _ => none, fun _ => none, some .int)
theorem zX5_fail0_B : pm_eB eX5_fail0 = cX5_fail0 := rfl
theorem zX5_fail0_F : pm_eF eX5_fail0 = fX5 := rfl
theorem zX5_fail0_R : pm_eR eX5_fail0 = some .int := rfl
theorem zX5_fail0_X (n : Nat) : pm_eX eX5_fail0 n = none := rfl
theorem zX5_fail0_C105 : pm_eC eX5_fail0 105 = some (2, some 5, T_X5_isNode) := rfl
theorem zX5_fail0_C142 : pm_eC eX5_fail0 142 = some (2, some 5, T_X5_isThere) := rfl
theorem zX5_fail0_C69 : pm_eC eX5_fail0 69 = some (3, some 5, T_X5_of) := rfl
theorem zX5_fail0_C163 : pm_eC eX5_fail0 163 = some (2, some 5, T_X5_lift0) := rfl
def T_X5_fail0 : pm_T := pm_M eX5_fail0 4
theorem Ct_X5_fail0 (l : Launch) (sk : Nat → Nat) : pm_Ct l sk yX5_fail0 cX5_fail0 4 (some .int) 7 (T_X5_fail0) := pm_met eX5_fail0 (by decide) rfl rfl (fun _ => rfl) (fun _ => rfl) fX5_ok (fun _ _ h => by cases h) (pm_tabC (by
    intro q hq
    simp only [List.mem_cons, List.not_mem_nil, or_false] at hq
    rcases hq with rfl | rfl | rfl | rfl
    · exact pm_cokV (i := 5) (Ct_X5_isNode l sk) ykX5_isNode (by decide) (by decide) rfl rfl (by decide) (by decide +kernel) (pm_WS_mem 1358 (by decide +kernel) rfl)
    · exact pm_cokV (i := 5) (Ct_X5_isThere l sk) ykX5_isThere (by decide) (by decide) rfl rfl (by decide) (by decide +kernel) (pm_WS_mem 1421 (by decide +kernel) rfl)
    · exact pm_cokV (i := 5) (Ct_X5_of l sk) ykX5_of (by decide) (by decide) rfl rfl (by decide) (by decide +kernel) (pm_WS_mem 1374 (by decide +kernel) rfl)
    · exact pm_cokV (i := 5) (Ct_X5_lift0 l sk) ykX5_lift0 (by decide) (by decide) rfl rfl (by decide) (by decide +kernel) (pm_WS_mem 1417 (by decide +kernel) rfl)))
theorem ykX5_cost0 : pm_YV yX5_cost0 cX5_cost0 3 (some .int) := ⟨(pm_WS_mem 1478 (by decide +kernel) rfl), (pm_WS_mem 130 (by decide +kernel) rfl), ⟨by decide +kernel, by decide +kernel⟩, (pm_WS_mem 1477 (by decide +kernel) rfl), (pm_WS_mem 86 (by decide +kernel) rfl)⟩
def eX5_cost0 : pm_E := (cX5_cost0, fX5, pm_as [(142, 2, some 5, T_X5_isThere), (108, 4, some 5, T_X5_sets)], fun _ => none, fun _ => none, fun _ => none, some .int)
theorem zX5_cost0_B : pm_eB eX5_cost0 = cX5_cost0 := rfl
theorem zX5_cost0_F : pm_eF eX5_cost0 = fX5 := rfl
theorem zX5_cost0_R : pm_eR eX5_cost0 = some .int := rfl
theorem zX5_cost0_X (n : Nat) : pm_eX eX5_cost0 n = none := rfl
theorem zX5_cost0_C142 : pm_eC eX5_cost0 142 = some (2, some 5, T_X5_isThere) := rfl
theorem zX5_cost0_C108 : pm_eC eX5_cost0 108 = some (4, some 5, T_X5_sets) := rfl
def T_X5_cost0 : pm_T := pm_M eX5_cost0 3
theorem Ct_X5_cost0 (l : Launch) (sk : Nat → Nat) : pm_Ct l sk yX5_cost0 cX5_cost0 3 (some .int) 4 (T_X5_cost0) := pm_met eX5_cost0 (by decide) rfl rfl (fun _ => rfl) (fun _ => rfl) fX5_ok (fun _ _ h => by cases h) (pm_tabC (by
    intro q hq
    simp only [List.mem_cons, List.not_mem_nil, or_false] at hq
    rcases hq with rfl | rfl
    · exact pm_cokV (i := 5) (Ct_X5_isThere l sk) ykX5_isThere (by decide) (by decide) rfl rfl (by decide) (by decide +kernel) (pm_WS_mem 1421 (by decide +kernel) rfl)
    · exact pm_cokV (i := 5) (Ct_X5_sets l sk) ykX5_sets (by decide) (by decide) rfl rfl (by decide) (by decide +kernel) (pm_WS_mem 1362 (by decide +kernel) rfl)))
