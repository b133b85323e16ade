theorem ykX1_layAnew : pm_YV yX1_layAnew cX1_layAnew 4 (some .int) := ⟨(pm_WS_mem 605 (by decide +kernel) rfl), (pm_WS_mem 126 (by decide +kernel) rfl), ⟨by decide +kernel, by decide +kernel⟩, (pm_WS_mem 604 (by decide +kernel) rfl), (pm_WS_mem 23 (by decide +kernel) rfl)⟩
def eX1_layAnew : pm_E := (cX1_layAnew, fX1, pm_as [(78, 1, some 1, T_X1_plantAll), (161, 2, some 0, T_X0_partOf), (140, 2, none, T_X4_holds), (168, 5, some 0, T_X0_join)], fun _ => none, fun _ => none, fun _ => none, some .int)
theorem zX1_layAnew_B : pm_eB eX1_layAnew = cX1_layAnew := rfl
theorem zX1_layAnew_F : pm_eF eX1_layAnew = fX1 := rfl
theorem zX1_layAnew_R : pm_eR eX1_layAnew = some .int := rfl
theorem zX1_layAnew_X (n : Nat) : pm_eX eX1_layAnew n = none := rfl
theorem zX1_layAnew_C78 : pm_eC eX1_layAnew 78 = some (1, some 1, T_X1_plantAll) := rfl
theorem zX1_layAnew_C161 : pm_eC eX1_layAnew 161 = some (2, some 0, T_X0_partOf) := rfl
theorem zX1_layAnew_C140 : pm_eC eX1_layAnew 140 = some (2, none, T_X4_holds) := rfl
theorem zX1_layAnew_C168 : pm_eC eX1_layAnew 168 = some (5, some 0, T_X0_join) := rfl
def T_X1_layAnew : pm_T := pm_M eX1_layAnew 4
theorem Ct_X1_layAnew (l : Launch) (sk : Nat → Nat) : pm_Ct l sk yX1_layAnew cX1_layAnew 4 (some .int) 3 (T_X1_layAnew) := pm_met eX1_layAnew (by decide) rfl rfl (fun _ => rfl) (fun _ => rfl) fX1_ok (fun _ _ h => by cases h) (pm_tabC (by
    intro q hq
    simp only [List.mem_cons, List.not_mem_nil, or_false] at hq
    rcases hq with rfl | rfl | rfl | rfl
    · exact pm_cokV (i := 1) (Ct_X1_plantAll l sk) ykX1_plantAll (by decide) (by decide) rfl rfl (by decide) (by decide +kernel) (pm_WS_mem 313 (by decide +kernel) rfl)
    · exact pm_cokV (i := 0) (Ct_X0_partOf l sk) ykX0_partOf (by decide) (by decide) rfl rfl (by decide) (by decide +kernel) (pm_WS_mem 505 (by decide +kernel) rfl)
    · exact pm_cokS (Ct_X4_holds l sk) ykX4_holds (by decide) (by decide) (by decide +kernel) (Or.inr ⟨"CableForest", pm_NW_mem 408 (by decide +kernel) rfl⟩)
    · exact pm_cokV (i := 0) (Ct_X0_join l sk) ykX0_join (by decide) (by decide) rfl rfl (by decide) (by decide +kernel) (pm_WS_mem 538 (by decide +kernel) rfl)))
theorem ykX1_setCost : pm_YV yX1_setCost cX1_setCost 4 (some .int) := ⟨(pm_WS_mem 609 (by decide +kernel) rfl), (pm_WS_mem 126 (by decide +kernel) rfl), ⟨by decide +kernel, by decide +kernel⟩, (pm_WS_mem 608 (by decide +kernel) rfl), (pm_WS_mem 24 (by decide +kernel) rfl)⟩
def eX1_setCost : pm_E := (cX1_setCost, fX1, fun _ => none, fun _ => none, fun _ => none, fun _ => none, some .int)
theorem zX1_setCost_B : pm_eB eX1_setCost = cX1_setCost := rfl
theorem zX1_setCost_F : pm_eF eX1_setCost = fX1 := rfl
theorem zX1_setCost_R : pm_eR eX1_setCost = some .int := rfl
theorem zX1_setCost_X (n : Nat) : pm_eX eX1_setCost n = none := rfl
def T_X1_setCost : pm_T := pm_M eX1_setCost 4
theorem Ct_X1_setCost (l : Launch) (sk : Nat → Nat) : pm_Ct l sk yX1_setCost cX1_setCost 4 (some .int) 1 (T_X1_setCost) := pm_met eX1_setCost (by decide) rfl rfl (fun _ => rfl) (fun _ => rfl) fX1_ok (fun _ _ h => by cases h) (fun _ _ _ _ h => by cases h)
theorem ykX1_perform : pm_YV yX1_perform cX1_perform 4 (some .int) := ⟨(pm_WS_mem 499 (by decide +kernel) rfl), (pm_WS_mem 126 (by decide +kernel) rfl), ⟨by decide +kernel, by decide +kernel⟩, (pm_WS_mem 497 (by decide +kernel) rfl), (pm_WS_mem 498 (by decide +kernel) rfl)⟩
def eX1_perform : pm_E := (cX1_perform, fX1, pm_as [(92, 2, some 1, T_X1_start), (96, 3, some 1, T_X1_addCable), (100, 2, some 1, T_X1_takeCable), (103, 3, some 1, T_X1_exchange), (106, 2, some 1, T_X1_failNode), (109, 1, some 1, T_X1_layAnew), (113, 3, some 1, T_X1_setCost)], fun _ => none, fun _ => none, fun _ => none, some .int)
theorem zX1_perform_B : pm_eB eX1_perform = cX1_perform := rfl
theorem zX1_perform_F : pm_eF eX1_perform = fX1 := rfl
theorem zX1_perform_R : pm_eR eX1_perform = some .int := rfl
theorem zX1_perform_X (n : Nat) : pm_eX eX1_perform n = none := rfl
theorem zX1_perform_C92 : pm_eC eX1_perform 92 = some (2, some 1, T_X1_start) := rfl
theorem zX1_perform_C96 : pm_eC eX1_perform 96 = some (3, some 1, T_X1_addCable) := rfl
theorem zX1_perform_C100 : pm_eC eX1_perform 100 = some (2, some 1, T_X1_takeCable) := rfl
theorem zX1_perform_C103 : pm_eC eX1_perform 103 = some (3, some 1, T_X1_exchange) := rfl
theorem zX1_perform_C106 : pm_eC eX1_perform 106 = some (2, some 1, T_X1_failNode) := rfl
theorem zX1_perform_C109 : pm_eC eX1_perform 109 = some (1, some 1, T_X1_layAnew) := rfl
theorem zX1_perform_C113 : pm_eC eX1_perform 113 = some (3, some 1, T_X1_setCost) := rfl
def T_X1_perform : pm_T := pm_M eX1_perform 4
theorem Ct_X1_perform (l : Launch) (sk : Nat → Nat) : pm_Ct l sk yX1_perform cX1_perform 4 (some .int) 6 (T_X1_perform) := pm_met eX1_perform (by decide) rfl rfl (fun _ => rfl) (fun _ => rfl) fX1_ok (fun _ _ h => by cases h) (pm_tabC (by
    intro q hq
    simp only [List.mem_cons, List.not_mem_nil, or_false] at hq
    rcases hq with rfl | rfl | rfl | rfl | rfl | rfl | rfl
    · exact pm_cokV (i := 1) (Ct_X1_start l sk) ykX1_start (by decide) (by decide) rfl rfl (by decide) (by decide +kernel) (pm_WS_mem 500 (by decide +kernel) rfl)
    · exact pm_cokV (i := 1) (Ct_X1_addCable l sk) ykX1_addCable (by decide) (by decide) rfl rfl (by decide) (by decide +kernel) (pm_WS_mem 501 (by decide +kernel) rfl)
    · exact pm_cokV (i := 1) (Ct_X1_takeCable l sk) ykX1_takeCable (by decide) (by decide) rfl rfl (by decide) (by decide +kernel) (pm_WS_mem 554 (by decide +kernel) rfl)
    · exact pm_cokV (i := 1) (Ct_X1_exchange l sk) ykX1_exchange (by decide) (by decide) rfl rfl (by decide) (by decide +kernel) (pm_WS_mem 586 (by decide +kernel) rfl)
    · exact pm_cokV (i := 1) (Ct_X1_failNode l sk) ykX1_failNode (by decide) (by decide) rfl rfl (by decide) (by decide +kernel) (pm_WS_mem 594 (by decide +kernel) rfl)
    · exact pm_cokV (i := 1) (Ct_X1_layAnew l sk) ykX1_layAnew (by decide) (by decide) rfl rfl (by decide) (by decide +kernel) (pm_WS_mem 602 (by decide +kernel) rfl)
    · exact pm_cokV (i := 1) (Ct_X1_setCost l sk) ykX1_setCost (by decide) (by decide) rfl rfl (by decide) (by decide +kernel) (pm_WS_mem 606 (by decide +kernel) rfl)))
theorem ykX1_aboveOf : pm_YV yX1_aboveOf cX1_aboveOf 4 (some .int) := ⟨(pm_WS_mem 1101 (by decide +kernel) rfl), (pm_WS_mem 126 (by decide +kernel) rfl), ⟨by decide +kernel, by decide +kernel⟩, (pm_WS_mem 1099 (by decide +kernel) rfl), (pm_WS_mem 1100 (by decide +kernel) rfl)⟩
def eX1_aboveOf : pm_E := (cX1_aboveOf, fX1, pm_as [(134, 2, some 0, T_X0_innermostOf), (137, 2, some 0, T_X0_insideOf), (140, 2, none, T_X4_holds)], fun _ => none, fun _ => none, fun _ => none, some .int)
theorem zX1_aboveOf_B : pm_eB eX1_aboveOf = cX1_aboveOf := rfl
theorem zX1_aboveOf_F : pm_eF eX1_aboveOf = fX1 := rfl
theorem zX1_aboveOf_R : pm_eR eX1_aboveOf = some .int := rfl
theorem zX1_aboveOf_X (n : Nat) : pm_eX eX1_aboveOf n = none := rfl
theorem zX1_aboveOf_C134 : pm_eC eX1_aboveOf 134 = some (2, some 0, T_X0_innermostOf) := rfl
theorem zX1_aboveOf_C137 : pm_eC eX1_aboveOf 137 = some (2, some 0, T_X0_insideOf) := rfl
theorem zX1_aboveOf_C140 : pm_eC eX1_aboveOf 140 = some (2, none, T_X4_holds) := rfl
def T_X1_aboveOf : pm_T := pm_M eX1_aboveOf 4
theorem Ct_X1_aboveOf (l : Launch) (sk : Nat → Nat) : pm_Ct l sk yX1_aboveOf cX1_aboveOf 4 (some .int) 3 (T_X1_aboveOf) := pm_met eX1_aboveOf (by decide) rfl rfl (fun _ => rfl) (fun _ => rfl) fX1_ok (fun _ _ h => by cases h) (pm_tabC (by
    intro q hq
    simp only [List.mem_cons, List.not_mem_nil, or_false] at hq
    rcases hq with rfl | rfl | rfl
    · exact pm_cokV (i := 0) (Ct_X0_innermostOf l sk) ykX0_innermostOf (by decide) (by decide) rfl rfl (by decide) (by decide +kernel) (pm_WS_mem 1102 (by decide +kernel) rfl)
    · exact pm_cokV (i := 0) (Ct_X0_insideOf l sk) ykX0_insideOf (by decide) (by decide) rfl rfl (by decide) (by decide +kernel) (pm_WS_mem 396 (by decide +kernel) rfl)
    · exact pm_cokS (Ct_X4_holds l sk) ykX4_holds (by decide) (by decide) (by decide +kernel) (Or.inr ⟨"CableForest", pm_NW_mem 408 (by decide +kernel) rfl⟩)))
theorem ykX1_meetingOf : pm_YV yX1_meetingOf cX1_meetingOf 6 (some .int) := ⟨(pm_WS_mem 1123 (by decide +kernel) rfl), (pm_WS_mem 126 (by decide +kernel) rfl), ⟨by decide +kernel, by decide +kernel⟩, (pm_WS_mem 1121 (by decide +kernel) rfl), (pm_WS_mem 1122 (by decide +kernel) rfl)⟩
def eX1_meetingOf : pm_E := (cX1_meetingOf, fX1, pm_as [(143, 2, some 0, T_X0_belowOf), (140, 2, none, T_X4_holds), (146, 3, some 1, T_X1_aboveOf)], fun _ => none, fun _ => none, fun _ => none, some .int)
theorem zX1_meetingOf_B : pm_eB eX1_meetingOf = cX1_meetingOf := rfl
theorem zX1_meetingOf_F : pm_eF eX1_meetingOf = fX1 := rfl
theorem zX1_meetingOf_R : pm_eR eX1_meetingOf = some .int := rfl
theorem zX1_meetingOf_X (n : Nat) : pm_eX eX1_meetingOf n = none := rfl
theorem zX1_meetingOf_C143 : pm_eC eX1_meetingOf 143 = some (2, some 0, T_X0_belowOf) := rfl
theorem zX1_meetingOf_C140 : pm_eC eX1_meetingOf 140 = some (2, none, T_X4_holds) := rfl
theorem zX1_meetingOf_C146 : pm_eC eX1_meetingOf 146 = some (3, some 1, T_X1_aboveOf) := rfl
def T_X1_meetingOf : pm_T := pm_M eX1_meetingOf 6
theorem Ct_X1_meetingOf (l : Launch) (sk : Nat → Nat) : pm_Ct l sk yX1_meetingOf cX1_meetingOf 6 (some .int) 4 (T_X1_meetingOf) := pm_met eX1_meetingOf (by decide) rfl rfl (fun _ => rfl) (fun _ => rfl) fX1_ok (fun _ _ h => by cases h) (pm_tabC (by
    intro q hq
    simp only [List.mem_cons, List.not_mem_nil, or_false] at hq
    rcases hq with rfl | rfl | rfl
    · exact pm_cokV (i := 0) (Ct_X0_belowOf l sk) ykX0_belowOf (by decide) (by decide) rfl rfl (by decide) (by decide +kernel) (pm_WS_mem 1124 (by decide +kernel) rfl)
    · exact pm_cokS (Ct_X4_holds l sk) ykX4_holds (by decide) (by decide) (by decide +kernel) (Or.inr ⟨"CableForest", pm_NW_mem 408 (by decide +kernel) rfl⟩)
    · exact pm_cokV (i := 1) (Ct_X1_aboveOf l sk) ykX1_aboveOf (by decide) (by decide) rfl rfl (by decide) (by decide +kernel) (pm_WS_mem 1125 (by decide +kernel) rfl)))
theorem ykX1_cablesOn : pm_YV yX1_cablesOn cX1_cablesOn 5 (some .int) := ⟨(pm_WS_mem 996 (by decide +kernel) rfl), (pm_WS_mem 126 (by decide +kernel) rfl), ⟨by decide +kernel, by decide +kernel⟩, (pm_WS_mem 994 (by decide +kernel) rfl), (pm_WS_mem 995 (by decide +kernel) rfl)⟩
def eX1_cablesOn : pm_E := (cX1_cablesOn, fX1, fun _ => none, fun _ => none, fun _ => none, fun _ => none, some .int)
theorem zX1_cablesOn_B : pm_eB eX1_cablesOn = cX1_cablesOn := rfl
theorem zX1_cablesOn_F : pm_eF eX1_cablesOn = fX1 := rfl
theorem zX1_cablesOn_R : pm_eR eX1_cablesOn = some .int := rfl
theorem zX1_cablesOn_X (n : Nat) : pm_eX eX1_cablesOn n = none := rfl
def T_X1_cablesOn : pm_T := pm_M eX1_cablesOn 5
theorem Ct_X1_cablesOn (l : Launch) (sk : Nat → Nat) : pm_Ct l sk yX1_cablesOn cX1_cablesOn 5 (some .int) 1 (T_X1_cablesOn) := pm_met eX1_cablesOn (by decide) rfl rfl (fun _ => rfl) (fun _ => rfl) fX1_ok (fun _ _ h => by cases h) (fun _ _ _ _ h => by cases h)
theorem ykX1_cablesAt : pm_YV yX1_cablesAt cX1_cablesAt 5 (some .int) := ⟨(pm_WS_mem 935 (by decide +kernel) rfl), (pm_WS_mem 126 (by decide +kernel) rfl), ⟨by decide +kernel, by decide +kernel⟩, (pm_WS_mem 933 (by decide +kernel) rfl), (pm_WS_mem 934 (by decide +kernel) rfl)⟩
def eX1_cablesAt : pm_E := (cX1_cablesAt, fX1, pm_as [(149, 3, some 1, T_X1_touches)], fun _ => none, fun _ => none, fun _ => none, some .int)
theorem zX1_cablesAt_B : pm_eB eX1_cablesAt = cX1_cablesAt := rfl
theorem zX1_cablesAt_F : pm_eF eX1_cablesAt = fX1 := rfl
theorem zX1_cablesAt_R : pm_eR eX1_cablesAt = some .int := rfl
theorem zX1_cablesAt_X (n : Nat) : pm_eX eX1_cablesAt n = none := rfl
theorem zX1_cablesAt_C149 : pm_eC eX1_cablesAt 149 = some (3, some 1, T_X1_touches) := rfl
def T_X1_cablesAt : pm_T := pm_M eX1_cablesAt 5
theorem Ct_X1_cablesAt (l : Launch) (sk : Nat → Nat) : pm_Ct l sk yX1_cablesAt cX1_cablesAt 5 (some .int) 2 (T_X1_cablesAt) := pm_met eX1_cablesAt (by decide) rfl rfl (fun _ => rfl) (fun _ => rfl) fX1_ok (fun _ _ h => by cases h) (pm_tabC (by
    intro q hq
    simp only [List.mem_cons, List.not_mem_nil, or_false] at hq
    rcases hq with rfl
    · exact pm_cokV (i := 1) (Ct_X1_touches l sk) ykX1_touches (by decide) (by decide) rfl rfl (by decide) (by decide +kernel) (pm_WS_mem 598 (by decide +kernel) rfl)))
theorem ykX1_likePairs : pm_YV yX1_likePairs cX1_likePairs 4 (some .int) := ⟨(pm_WS_mem 678 (by decide +kernel) rfl), (pm_WS_mem 126 (by decide +kernel) rfl), ⟨by decide +kernel, by decide +kernel⟩, (pm_WS_mem 676 (by decide +kernel) rfl), (pm_WS_mem 677 (by decide +kernel) rfl)⟩
def eX1_likePairs : pm_E := (cX1_likePairs, fX1, pm_as [(85, 2, some 1, T_X1_isThere), (149, 3, some 1, T_X1_touches)], fun _ => none, fun _ => none, fun _ => none, some .int)
theorem zX1_likePairs_B : pm_eB eX1_likePairs = cX1_likePairs := rfl
theorem zX1_likePairs_F : pm_eF eX1_likePairs = fX1 := rfl
theorem zX1_likePairs_R : pm_eR eX1_likePairs = some .int := rfl
theorem zX1_likePairs_X (n : Nat) : pm_eX eX1_likePairs n = none := rfl
theorem zX1_likePairs_C85 : pm_eC eX1_likePairs 85 = some (2, some 1, T_X1_isThere) := rfl
theorem zX1_likePairs_C149 : pm_eC eX1_likePairs 149 = some (3, some 1, T_X1_touches) := rfl
def T_X1_likePairs : pm_T := pm_M eX1_likePairs 4
theorem Ct_X1_likePairs (l : Launch) (sk : Nat → Nat) : pm_Ct l sk yX1_likePairs cX1_likePairs 4 (some .int) 2 (T_X1_likePairs) := pm_met eX1_likePairs (by decide) rfl rfl (fun _ => rfl) (fun _ => rfl) fX1_ok (fun _ _ h => by cases h) (pm_tabC (by
    intro q hq
    simp only [List.mem_cons, List.not_mem_nil, or_false] at hq
    rcases hq with rfl | rfl
    · exact pm_cokV (i := 1) (Ct_X1_isThere l sk) ykX1_isThere (by decide) (by decide) rfl rfl (by decide) (by decide +kernel) (pm_WS_mem 388 (by decide +kernel) rfl)
    · exact pm_cokV (i := 1) (Ct_X1_touches l sk) ykX1_touches (by decide) (by decide) rfl rfl (by decide) (by decide +kernel) (pm_WS_mem 598 (by decide +kernel) rfl)))
theorem ykX1_greatestLevel : pm_YV yX1_greatestLevel cX1_greatestLevel 3 (some .int) := ⟨(pm_WS_mem 682 (by decide +kernel) rfl), (pm_WS_mem 126 (by decide +kernel) rfl), ⟨by decide +kernel, by decide +kernel⟩, (pm_WS_mem 680 (by decide +kernel) rfl), (pm_WS_mem 681 (by decide +kernel) rfl)⟩
def eX1_greatestLevel : pm_E := (cX1_greatestLevel, fX1, pm_as [(152, 2, none, pm_tmax)], fun _ => none, fun _ => none, fun _ => none, some .int)
theorem zX1_greatestLevel_B : pm_eB eX1_greatestLevel = cX1_greatestLevel := rfl
theorem zX1_greatestLevel_F : pm_eF eX1_greatestLevel = fX1 := rfl
theorem zX1_greatestLevel_R : pm_eR eX1_greatestLevel = some .int := rfl
theorem zX1_greatestLevel_X (n : Nat) : pm_eX eX1_greatestLevel n = none := rfl
theorem zX1_greatestLevel_C152 : pm_eC eX1_greatestLevel 152 = some (2, none, pm_tmax) := rfl
def T_X1_greatestLevel : pm_T := pm_M eX1_greatestLevel 3
theorem Ct_X1_greatestLevel (l : Launch) (sk : Nat → Nat) : pm_Ct l sk yX1_greatestLevel cX1_greatestLevel 3 (some .int) 1 (T_X1_greatestLevel) := pm_met eX1_greatestLevel (by decide) rfl rfl (fun _ => rfl) (fun _ => rfl) fX1_ok (fun _ _ h => by cases h) (pm_tabC (by
    intro q hq
    simp only [List.mem_cons, List.not_mem_nil, or_false] at hq
    rcases hq with rfl
    · exact pm_cokX (by decide) (pm_WS_mem 683 (by decide +kernel) rfl)))
theorem ykJ7_fill_53178 : pm_YS yJ7_fill_53178 cJ7_fill_53178 4 (none) := ⟨(pm_WS_mem 628 (by decide +kernel) rfl), (pm_WS_mem 144 (by decide +kernel) rfl), ⟨by decide +kernel, by decide +kernel⟩, (pm_WS_mem 627 (by decide +kernel) rfl)⟩
def eJ7_fill_53178 : pm_E := (cJ7_fill_53178, f0, fun _ => none, fun _ => none, fun _ => none, fun _ => none, none)
theorem zJ7_fill_53178_B : pm_eB eJ7_fill_53178 = cJ7_fill_53178 := rfl
theorem zJ7_fill_53178_F : pm_eF eJ7_fill_53178 = f0 := rfl
theorem zJ7_fill_53178_R : pm_eR eJ7_fill_53178 = none := rfl
theorem zJ7_fill_53178_X (n : Nat) : pm_eX eJ7_fill_53178 n = none := rfl
def T_J7_fill_53178 : pm_T := pm_M eJ7_fill_53178 4
theorem Ct_J7_fill_53178 (l : Launch) (sk : Nat → Nat) : pm_Ct l sk yJ7_fill_53178 cJ7_fill_53178 4 (none) 1 (T_J7_fill_53178) := pm_met eJ7_fill_53178 (by decide) rfl rfl (fun _ => rfl) (fun _ => rfl) f0_ok (fun _ _ h => by cases h) (fun _ _ _ _ h => by cases h)
theorem ykX2_linkAll : pm_YV yX2_linkAll cX2_linkAll 4 (none) := ⟨(pm_WS_mem 625 (by decide +kernel) rfl), (pm_WS_mem 128 (by decide +kernel) rfl), ⟨by decide +kernel, by decide +kernel⟩, (pm_WS_mem 624 (by decide +kernel) rfl), (pm_WS_mem 25 (by decide +kernel) rfl)⟩
def eX2_linkAll : pm_E := (cX2_linkAll, fX2, pm_as [(86, 2, none, T_J7_fill_53178)], fun _ => none, fun _ => none, fun _ => none, none)
theorem zX2_linkAll_B : pm_eB eX2_linkAll = cX2_linkAll := rfl
theorem zX2_linkAll_F : pm_eF eX2_linkAll = fX2 := rfl
theorem zX2_linkAll_R : pm_eR eX2_linkAll = none := rfl
theorem zX2_linkAll_X (n : Nat) : pm_eX eX2_linkAll n = none := rfl
theorem zX2_linkAll_C86 : pm_eC eX2_linkAll 86 = some (2, none, T_J7_fill_53178) := rfl
def T_X2_linkAll : pm_T := pm_M eX2_linkAll 4
theorem Ct_X2_linkAll (l : Launch) (sk : Nat → Nat) : pm_Ct l sk yX2_linkAll cX2_linkAll 4 (none) 2 (T_X2_linkAll) := pm_met eX2_linkAll (by decide) rfl rfl (fun _ => rfl) (fun _ => rfl) fX2_ok (fun _ _ h => by cases h) (pm_tabC (by
    intro q hq
    simp only [List.mem_cons, List.not_mem_nil, or_false] at hq
    rcases hq with rfl
    · exact pm_cokS (Ct_J7_fill_53178 l sk) ykJ7_fill_53178 (by decide) (by decide) (by decide +kernel) (Or.inl (pm_WS_mem 626 (by decide +kernel) rfl))))
theorem ykX2_spread : pm_YV yX2_spread cX2_spread 8 (some .int) := ⟨(pm_WS_mem 632 (by decide +kernel) rfl), (pm_WS_mem 128 (by decide +kernel) rfl), ⟨by decide +kernel, by decide +kernel⟩, (pm_WS_mem 631 (by decide +kernel) rfl), (pm_WS_mem 26 (by decide +kernel) rfl)⟩
def eX2_spread : pm_E := (cX2_spread, fX2, pm_as [(51, 2, none, T_X4_holds)], fun _ => none, fun _ => none, fun _ => none, some .int)
theorem zX2_spread_B : pm_eB eX2_spread = cX2_spread := rfl
theorem zX2_spread_F : pm_eF eX2_spread = fX2 := rfl
theorem zX2_spread_R : pm_eR eX2_spread = some .int := rfl
theorem zX2_spread_X (n : Nat) : pm_eX eX2_spread n = none := rfl
theorem zX2_spread_C51 : pm_eC eX2_spread 51 = some (2, none, T_X4_holds) := rfl
def T_X2_spread : pm_T := pm_M eX2_spread 8
theorem Ct_X2_spread (l : Launch) (sk : Nat → Nat) : pm_Ct l sk yX2_spread cX2_spread 8 (some .int) 2 (T_X2_spread) := pm_met eX2_spread (by decide) rfl rfl (fun _ => rfl) (fun _ => rfl) fX2_ok (fun _ _ h => by cases h) (pm_tabC (by
    intro q hq
    simp only [List.mem_cons, List.not_mem_nil, or_false] at hq
    rcases hq with rfl
    · exact pm_cokS (Ct_X4_holds l sk) ykX4_holds (by decide) (by decide) (by decide +kernel) (Or.inr ⟨"CableForest", pm_NW_mem 633 (by decide +kernel) rfl⟩)))
theorem ykX2_spanByLinks : pm_YV yX2_spanByLinks cX2_spanByLinks 5 (some .int) := ⟨(pm_WS_mem 671 (by decide +kernel) rfl), (pm_WS_mem 128 (by decide +kernel) rfl), ⟨by decide +kernel, by decide +kernel⟩, (pm_WS_mem 670 (by decide +kernel) rfl), (pm_WS_mem 28 (by decide +kernel) rfl)⟩
def eX2_spanByLinks : pm_E := (cX2_spanByLinks, fX2, pm_as [(47, 4, some 2, T_X2_spread)], fun _ => none, fun _ => none, fun _ => none, some .int)
theorem zX2_spanByLinks_B : pm_eB eX2_spanByLinks = cX2_spanByLinks := rfl
theorem zX2_spanByLinks_F : pm_eF eX2_spanByLinks = fX2 := rfl
theorem zX2_spanByLinks_R : pm_eR eX2_spanByLinks = some .int := rfl
theorem zX2_spanByLinks_X (n : Nat) : pm_eX eX2_spanByLinks n = none := rfl
theorem zX2_spanByLinks_C47 : pm_eC eX2_spanByLinks 47 = some (4, some 2, T_X2_spread) := rfl
def T_X2_spanByLinks : pm_T := pm_M eX2_spanByLinks 5
theorem Ct_X2_spanByLinks (l : Launch) (sk : Nat → Nat) : pm_Ct l sk yX2_spanByLinks cX2_spanByLinks 5 (some .int) 3 (T_X2_spanByLinks) := pm_met eX2_spanByLinks (by decide) rfl rfl (fun _ => rfl) (fun _ => rfl) fX2_ok (fun _ _ h => by cases h) (pm_tabC (by
    intro q hq
    simp only [List.mem_cons, List.not_mem_nil, or_false] at hq
    rcases hq with rfl
    · exact pm_cokV (i := 2) (Ct_X2_spread l sk) ykX2_spread (by decide) (by decide) rfl rfl (by decide) (by decide +kernel) (pm_WS_mem 629 (by decide +kernel) rfl)))
theorem ykX2_spanOf : pm_YV yX2_spanOf cX2_spanOf 3 (some .int) := ⟨(pm_WS_mem 939 (by decide +kernel) rfl), (pm_WS_mem 128 (by decide +kernel) rfl), ⟨by decide +kernel, by decide +kernel⟩, (pm_WS_mem 937 (by decide +kernel) rfl), (pm_WS_mem 938 (by decide +kernel) rfl)⟩
def eX2_spanOf : pm_E := (cX2_spanOf, fX2, pm_as [(27, 3, some 2, T_X2_linkAll), (31, 2, some 2, T_X2_spanByLinks)], fun _ => none, fun _ => none, fun _ => none, some .int)
theorem zX2_spanOf_B : pm_eB eX2_spanOf = cX2_spanOf := rfl
theorem zX2_spanOf_F : pm_eF eX2_spanOf = fX2 := rfl
theorem zX2_spanOf_R : pm_eR eX2_spanOf = some .int := rfl
theorem zX2_spanOf_X (n : Nat) : pm_eX eX2_spanOf n = none := rfl
theorem zX2_spanOf_C27 : pm_eC eX2_spanOf 27 = some (3, some 2, T_X2_linkAll) := rfl
theorem zX2_spanOf_C31 : pm_eC eX2_spanOf 31 = some (2, some 2, T_X2_spanByLinks) := rfl
def T_X2_spanOf : pm_T := pm_M eX2_spanOf 3
theorem Ct_X2_spanOf (l : Launch) (sk : Nat → Nat) : pm_Ct l sk yX2_spanOf cX2_spanOf 3 (some .int) 4 (T_X2_spanOf) := pm_met eX2_spanOf (by decide) rfl rfl (fun _ => rfl) (fun _ => rfl) fX2_ok (fun _ _ h => by cases h) (pm_tabC (by
    intro q hq
    simp only [List.mem_cons, List.not_mem_nil, or_false] at hq
    rcases hq with rfl | rfl
    · exact pm_cokV (i := 2) (Ct_X2_linkAll l sk) ykX2_linkAll (by decide) (by decide) rfl rfl (by decide) (by decide +kernel) (pm_WS_mem 622 (by decide +kernel) rfl)
    · exact pm_cokV (i := 2) (Ct_X2_spanByLinks l sk) ykX2_spanByLinks (by decide) (by decide) rfl rfl (by decide) (by decide +kernel) (pm_WS_mem 668 (by decide +kernel) rfl)))
theorem ykX2_widthOf : pm_YV yX2_widthOf cX2_widthOf 4 (some .int) := ⟨(pm_WS_mem 667 (by decide +kernel) rfl), (pm_WS_mem 128 (by decide +kernel) rfl), ⟨by decide +kernel, by decide +kernel⟩, (pm_WS_mem 665 (by decide +kernel) rfl), (pm_WS_mem 666 (by decide +kernel) rfl)⟩
def eX2_widthOf : pm_E := (cX2_widthOf, fX2, pm_as [(27, 3, some 2, T_X2_linkAll), (31, 2, some 2, T_X2_spanByLinks), (41, 2, none, pm_tmax)], fun _ => none, fun _ => none, fun _ => none, some .int)
theorem zX2_widthOf_B : pm_eB eX2_widthOf = cX2_widthOf := rfl
theorem zX2_widthOf_F : pm_eF eX2_widthOf = fX2 := rfl
theorem zX2_widthOf_R : pm_eR eX2_widthOf = some .int := rfl
theorem zX2_widthOf_X (n : Nat) : pm_eX eX2_widthOf n = none := rfl
theorem zX2_widthOf_C27 : pm_eC eX2_widthOf 27 = some (3, some 2, T_X2_linkAll) := rfl
theorem zX2_widthOf_C31 : pm_eC eX2_widthOf 31 = some (2, some 2, T_X2_spanByLinks) := rfl
theorem zX2_widthOf_C41 : pm_eC eX2_widthOf 41 = some (2, none, pm_tmax) := rfl
def T_X2_widthOf : pm_T := pm_M eX2_widthOf 4
theorem Ct_X2_widthOf (l : Launch) (sk : Nat → Nat) : pm_Ct l sk yX2_widthOf cX2_widthOf 4 (some .int) 4 (T_X2_widthOf) := pm_met eX2_widthOf (by decide) rfl rfl (fun _ => rfl) (fun _ => rfl) fX2_ok (fun _ _ h => by cases h) (pm_tabC (by
    intro q hq
    simp only [List.mem_cons, List.not_mem_nil, or_false] at hq
    rcases hq with rfl | rfl | rfl
    · exact pm_cokV (i := 2) (Ct_X2_linkAll l sk) ykX2_linkAll (by decide) (by decide) rfl rfl (by decide) (by decide +kernel) (pm_WS_mem 622 (by decide +kernel) rfl)
    · exact pm_cokV (i := 2) (Ct_X2_spanByLinks l sk) ykX2_spanByLinks (by decide) (by decide) rfl rfl (by decide) (by decide +kernel) (pm_WS_mem 668 (by decide +kernel) rfl)
    · exact pm_cokX (by decide) (pm_WS_mem 672 (by decide +kernel) rfl)))
theorem ykX2_stepsBetween : pm_YV yX2_stepsBetween cX2_stepsBetween 5 (some .int) := ⟨(pm_WS_mem 1065 (by decide +kernel) rfl), (pm_WS_mem 128 (by decide +kernel) rfl), ⟨by decide +kernel, by decide +kernel⟩, (pm_WS_mem 1063 (by decide +kernel) rfl), (pm_WS_mem 1064 (by decide +kernel) rfl)⟩
def eX2_stepsBetween : pm_E := (cX2_stepsBetween, fX2, pm_as [(27, 3, some 2, T_X2_linkAll), (47, 4, some 2, T_X2_spread), (51, 2, none, T_X4_holds)], fun _ => none, fun _ => none, fun _ => none, some .int)
theorem zX2_stepsBetween_B : pm_eB eX2_stepsBetween = cX2_stepsBetween := rfl
theorem zX2_stepsBetween_F : pm_eF eX2_stepsBetween = fX2 := rfl
theorem zX2_stepsBetween_R : pm_eR eX2_stepsBetween = some .int := rfl
theorem zX2_stepsBetween_X (n : Nat) : pm_eX eX2_stepsBetween n = none := rfl
theorem zX2_stepsBetween_C27 : pm_eC eX2_stepsBetween 27 = some (3, some 2, T_X2_linkAll) := rfl
theorem zX2_stepsBetween_C47 : pm_eC eX2_stepsBetween 47 = some (4, some 2, T_X2_spread) := rfl
theorem zX2_stepsBetween_C51 : pm_eC eX2_stepsBetween 51 = some (2, none, T_X4_holds) := rfl
def T_X2_stepsBetween : pm_T := pm_M eX2_stepsBetween 5
theorem Ct_X2_stepsBetween (l : Launch) (sk : Nat → Nat) : pm_Ct l sk yX2_stepsBetween cX2_stepsBetween 5 (some .int) 3 (T_X2_stepsBetween) := pm_met eX2_stepsBetween (by decide) rfl rfl (fun _ => rfl) (fun _ => rfl) fX2_ok (fun _ _ h => by cases h) (pm_tabC (by
    intro q hq
    simp only [List.mem_cons, List.not_mem_nil, or_false] at hq
    rcases hq with rfl | rfl | rfl
    · exact pm_cokV (i := 2) (Ct_X2_linkAll l sk) ykX2_linkAll (by decide) (by decide) rfl rfl (by decide) (by decide +kernel) (pm_WS_mem 622 (by decide +kernel) rfl)
    · exact pm_cokV (i := 2) (Ct_X2_spread l sk) ykX2_spread (by decide) (by decide) rfl rfl (by decide) (by decide +kernel) (pm_WS_mem 629 (by decide +kernel) rfl)
    · exact pm_cokS (Ct_X4_holds l sk) ykX4_holds (by decide) (by decide) (by decide +kernel) (Or.inr ⟨"CableForest", pm_NW_mem 633 (by decide +kernel) rfl⟩)))
theorem ykX2_nodesWithin : pm_YV yX2_nodesWithin cX2_nodesWithin 4 (some .int) := ⟨(pm_WS_mem 1137 (by decide +kernel) rfl), (pm_WS_mem 128 (by decide +kernel) rfl), ⟨by decide +kernel, by decide +kernel⟩, (pm_WS_mem 1135 (by decide +kernel) rfl), (pm_WS_mem 1136 (by decide +kernel) rfl)⟩
def eX2_nodesWithin : pm_E := (cX2_nodesWithin, fX2, pm_as [(27, 3, some 2, T_X2_linkAll), (47, 4, some 2, T_X2_spread)], fun _ => none, fun _ => none, fun _ => none, some .int)
theorem zX2_nodesWithin_B : pm_eB eX2_nodesWithin = cX2_nodesWithin := rfl
theorem zX2_nodesWithin_F : pm_eF eX2_nodesWithin = fX2 := rfl
theorem zX2_nodesWithin_R : pm_eR eX2_nodesWithin = some .int := rfl
theorem zX2_nodesWithin_X (n : Nat) : pm_eX eX2_nodesWithin n = none := rfl
theorem zX2_nodesWithin_C27 : pm_eC eX2_nodesWithin 27 = some (3, some 2, T_X2_linkAll) := rfl
theorem zX2_nodesWithin_C47 : pm_eC eX2_nodesWithin 47 = some (4, some 2, T_X2_spread) := rfl
def T_X2_nodesWithin : pm_T := pm_M eX2_nodesWithin 4
theorem Ct_X2_nodesWithin (l : Launch) (sk : Nat → Nat) : pm_Ct l sk yX2_nodesWithin cX2_nodesWithin 4 (some .int) 3 (T_X2_nodesWithin) := pm_met eX2_nodesWithin (by decide) rfl rfl (fun _ => rfl) (fun _ => rfl) fX2_ok (fun _ _ h => by cases h) (pm_tabC (by
    intro q hq
    simp only [List.mem_cons, List.not_mem_nil, or_false] at hq
    rcases hq with rfl | rfl
    · exact pm_cokV (i := 2) (Ct_X2_linkAll l sk) ykX2_linkAll (by decide) (by decide) rfl rfl (by decide) (by decide +kernel) (pm_WS_mem 622 (by decide +kernel) rfl)
    · exact pm_cokV (i := 2) (Ct_X2_spread l sk) ykX2_spread (by decide) (by decide) rfl rfl (by decide) (by decide +kernel) (pm_WS_mem 629 (by decide +kernel) rfl)))
theorem ykX2_reach : pm_YV yX2_reach cX2_reach 4 (some .int) := ⟨(pm_WS_mem 662 (by decide +kernel) rfl), (pm_WS_mem 128 (by decide +kernel) rfl), ⟨by decide +kernel, by decide +kernel⟩, (pm_WS_mem 661 (by decide +kernel) rfl), (pm_WS_mem 27 (by decide +kernel) rfl)⟩
def eX2_reach : pm_E := (cX2_reach, fX2, pm_as [(27, 3, some 2, T_X2_linkAll), (47, 4, some 2, T_X2_spread)], fun _ => none, fun _ => none, fun _ => none, some .int)
theorem zX2_reach_B : pm_eB eX2_reach = cX2_reach := rfl
theorem zX2_reach_F : pm_eF eX2_reach = fX2 := rfl
theorem zX2_reach_R : pm_eR eX2_reach = some .int := rfl
theorem zX2_reach_X (n : Nat) : pm_eX eX2_reach n = none := rfl
theorem zX2_reach_C27 : pm_eC eX2_reach 27 = some (3, some 2, T_X2_linkAll) := rfl
theorem zX2_reach_C47 : pm_eC eX2_reach 47 = some (4, some 2, T_X2_spread) := rfl
def T_X2_reach : pm_T := pm_M eX2_reach 4
theorem Ct_X2_reach (l : Launch) (sk : Nat → Nat) : pm_Ct l sk yX2_reach cX2_reach 4 (some .int) 3 (T_X2_reach) := pm_met eX2_reach (by decide) rfl rfl (fun _ => rfl) (fun _ => rfl) fX2_ok (fun _ _ h => by cases h) (pm_tabC (by
    intro q hq
    simp only [List.mem_cons, List.not_mem_nil, or_false] at hq
    rcases hq with rfl | rfl
    · exact pm_cokV (i := 2) (Ct_X2_linkAll l sk) ykX2_linkAll (by decide) (by decide) rfl rfl (by decide) (by decide +kernel) (pm_WS_mem 622 (by decide +kernel) rfl)
    · exact pm_cokV (i := 2) (Ct_X2_spread l sk) ykX2_spread (by decide) (by decide) rfl rfl (by decide) (by decide +kernel) (pm_WS_mem 629 (by decide +kernel) rfl)))
theorem ykX2_islandOf : pm_YV yX2_islandOf cX2_islandOf 5 (some .int) := ⟨(pm_WS_mem 943 (by decide +kernel) rfl), (pm_WS_mem 128 (by decide +kernel) rfl), ⟨by decide +kernel, by decide +kernel⟩, (pm_WS_mem 941 (by decide +kernel) rfl), (pm_WS_mem 942 (by decide +kernel) rfl)⟩
def eX2_islandOf : pm_E := (cX2_islandOf, fX2, pm_as [(55, 4, some 2, T_X2_reach)], fun _ => none, fun _ => none, fun _ => none, some .int)
theorem zX2_islandOf_B : pm_eB eX2_islandOf = cX2_islandOf := rfl
theorem zX2_islandOf_F : pm_eF eX2_islandOf = fX2 := rfl
theorem zX2_islandOf_R : pm_eR eX2_islandOf = some .int := rfl
theorem zX2_islandOf_X (n : Nat) : pm_eX eX2_islandOf n = none := rfl
theorem zX2_islandOf_C55 : pm_eC eX2_islandOf 55 = some (4, some 2, T_X2_reach) := rfl
def T_X2_islandOf : pm_T := pm_M eX2_islandOf 5
theorem Ct_X2_islandOf (l : Launch) (sk : Nat → Nat) : pm_Ct l sk yX2_islandOf cX2_islandOf 5 (some .int) 4 (T_X2_islandOf) := pm_met eX2_islandOf (by decide) rfl rfl (fun _ => rfl) (fun _ => rfl) fX2_ok (fun _ _ h => by cases h) (pm_tabC (by
    intro q hq
    simp only [List.mem_cons, List.not_mem_nil, or_false] at hq
    rcases hq with rfl
    · exact pm_cokV (i := 2) (Ct_X2_reach l sk) ykX2_reach (by decide) (by decide) rfl rfl (by decide) (by decide +kernel) (pm_WS_mem 659 (by decide +kernel) rfl)))
theorem ykX2_lossOf : pm_YV yX2_lossOf cX2_lossOf 4 (some .int) := ⟨(pm_WS_mem 658 (by decide +kernel) rfl), (pm_WS_mem 128 (by decide +kernel) rfl), ⟨by decide +kernel, by decide +kernel⟩, (pm_WS_mem 656 (by decide +kernel) rfl), (pm_WS_mem 657 (by decide +kernel) rfl)⟩
def eX2_lossOf : pm_E := (cX2_lossOf, fX2, pm_as [(55, 4, some 2, T_X2_reach), (51, 2, none, T_X4_holds), (71, 1, none, T_J6_bitCount_0f7a4)], fun _ => none, fun _ => none, fun _ => none, some .int)
theorem zX2_lossOf_B : pm_eB eX2_lossOf = cX2_lossOf := rfl
theorem zX2_lossOf_F : pm_eF eX2_lossOf = fX2 := rfl
theorem zX2_lossOf_R : pm_eR eX2_lossOf = some .int := rfl
theorem zX2_lossOf_X (n : Nat) : pm_eX eX2_lossOf n = none := rfl
theorem zX2_lossOf_C55 : pm_eC eX2_lossOf 55 = some (4, some 2, T_X2_reach) := rfl
theorem zX2_lossOf_C51 : pm_eC eX2_lossOf 51 = some (2, none, T_X4_holds) := rfl
theorem zX2_lossOf_C71 : pm_eC eX2_lossOf 71 = some (1, none, T_J6_bitCount_0f7a4) := rfl
def T_X2_lossOf : pm_T := pm_M eX2_lossOf 4
theorem Ct_X2_lossOf (l : Launch) (sk : Nat → Nat) : pm_Ct l sk yX2_lossOf cX2_lossOf 4 (some .int) 4 (T_X2_lossOf) := pm_met eX2_lossOf (by decide) rfl rfl (fun _ => rfl) (fun _ => rfl) fX2_ok (fun _ _ h => by cases h) (pm_tabC (by
    intro q hq
    simp only [List.mem_cons, List.not_mem_nil, or_false] at hq
    rcases hq with rfl | rfl | rfl
    · exact pm_cokV (i := 2) (Ct_X2_reach l sk) ykX2_reach (by decide) (by decide) rfl rfl (by decide) (by decide +kernel) (pm_WS_mem 659 (by decide +kernel) rfl)
    · exact pm_cokS (Ct_X4_holds l sk) ykX4_holds (by decide) (by decide) (by decide +kernel) (Or.inr ⟨"CableForest", pm_NW_mem 633 (by decide +kernel) rfl⟩)
    · exact pm_cokS (Ct_J6_bitCount_0f7a4 l sk) ykJ6_bitCount_0f7a4 (by decide) (by decide) (by decide +kernel) (Or.inl (pm_WS_mem 663 (by decide +kernel) rfl))))
theorem ykX2_bridgesOf : pm_YV yX2_bridgesOf cX2_bridgesOf 4 (some .int) := ⟨(pm_WS_mem 654 (by decide +kernel) rfl), (pm_WS_mem 128 (by decide +kernel) rfl), ⟨by decide +kernel, by decide +kernel⟩, (pm_WS_mem 652 (by decide +kernel) rfl), (pm_WS_mem 653 (by decide +kernel) rfl)⟩
def eX2_bridgesOf : pm_E := (cX2_bridgesOf, fX2, pm_as [(76, 3, some 2, T_X2_lossOf)], fun _ => none, fun _ => none, fun _ => none, some .int)
theorem zX2_bridgesOf_B : pm_eB eX2_bridgesOf = cX2_bridgesOf := rfl
theorem zX2_bridgesOf_F : pm_eF eX2_bridgesOf = fX2 := rfl
theorem zX2_bridgesOf_R : pm_eR eX2_bridgesOf = some .int := rfl
theorem zX2_bridgesOf_X (n : Nat) : pm_eX eX2_bridgesOf n = none := rfl
theorem zX2_bridgesOf_C76 : pm_eC eX2_bridgesOf 76 = some (3, some 2, T_X2_lossOf) := rfl
def T_X2_bridgesOf : pm_T := pm_M eX2_bridgesOf 4
theorem Ct_X2_bridgesOf (l : Launch) (sk : Nat → Nat) : pm_Ct l sk yX2_bridgesOf cX2_bridgesOf 4 (some .int) 5 (T_X2_bridgesOf) := pm_met eX2_bridgesOf (by decide) rfl rfl (fun _ => rfl) (fun _ => rfl) fX2_ok (fun _ _ h => by cases h) (pm_tabC (by
    intro q hq
    simp only [List.mem_cons, List.not_mem_nil, or_false] at hq
    rcases hq with rfl
    · exact pm_cokV (i := 2) (Ct_X2_lossOf l sk) ykX2_lossOf (by decide) (by decide) rfl rfl (by decide) (by decide +kernel) (pm_WS_mem 655 (by decide +kernel) rfl)))
theorem ykX2_keyOf : pm_YV yX2_keyOf cX2_keyOf 6 (some .int) := ⟨(pm_WS_mem 687 (by decide +kernel) rfl), (pm_WS_mem 128 (by decide +kernel) rfl), ⟨by decide +kernel, by decide +kernel⟩, (pm_WS_mem 685 (by decide +kernel) rfl), (pm_WS_mem 686 (by decide +kernel) rfl)⟩
def eX2_keyOf : pm_E := (cX2_keyOf, fX2, pm_as [(76, 3, some 2, T_X2_lossOf)], fun _ => none, fun _ => none, fun _ => none, some .int)
theorem zX2_keyOf_B : pm_eB eX2_keyOf = cX2_keyOf := rfl
theorem zX2_keyOf_F : pm_eF eX2_keyOf = fX2 := rfl
theorem zX2_keyOf_R : pm_eR eX2_keyOf = some .int := rfl
theorem zX2_keyOf_X (n : Nat) : pm_eX eX2_keyOf n = none := rfl
theorem zX2_keyOf_C76 : pm_eC eX2_keyOf 76 = some (3, some 2, T_X2_lossOf) := rfl
def T_X2_keyOf : pm_T := pm_M eX2_keyOf 6
theorem Ct_X2_keyOf (l : Launch) (sk : Nat → Nat) : pm_Ct l sk yX2_keyOf cX2_keyOf 6 (some .int) 5 (T_X2_keyOf) := pm_met eX2_keyOf (by decide) rfl rfl (fun _ => rfl) (fun _ => rfl) fX2_ok (fun _ _ h => by cases h) (pm_tabC (by
    intro q hq
    simp only [List.mem_cons, List.not_mem_nil, or_false] at hq
    rcases hq with rfl
    · exact pm_cokV (i := 2) (Ct_X2_lossOf l sk) ykX2_lossOf (by decide) (by decide) rfl rfl (by decide) (by decide +kernel) (pm_WS_mem 655 (by decide +kernel) rfl)))
theorem ykX2_hingesOf : pm_YV yX2_hingesOf cX2_hingesOf 5 (some .int) := ⟨(pm_WS_mem 621 (by decide +kernel) rfl), (pm_WS_mem 128 (by decide +kernel) rfl), ⟨by decide +kernel, by decide +kernel⟩, (pm_WS_mem 619 (by decide +kernel) rfl), (pm_WS_mem 620 (by decide +kernel) rfl)⟩
def eX2_hingesOf : pm_E := (cX2_hingesOf, fX2, pm_as [(27, 3, some 2, T_X2_linkAll), (47, 4, some 2, T_X2_spread)], fun _ => none, fun _ => none, fun _ => none, some .int)
theorem zX2_hingesOf_B : pm_eB eX2_hingesOf = cX2_hingesOf := rfl
theorem zX2_hingesOf_F : pm_eF eX2_hingesOf = fX2 := rfl
theorem zX2_hingesOf_R : pm_eR eX2_hingesOf = some .int := rfl
theorem zX2_hingesOf_X (n : Nat) : pm_eX eX2_hingesOf n = none := rfl
theorem zX2_hingesOf_C27 : pm_eC eX2_hingesOf 27 = some (3, some 2, T_X2_linkAll) := rfl
theorem zX2_hingesOf_C47 : pm_eC eX2_hingesOf 47 = some (4, some 2, T_X2_spread) := rfl
def T_X2_hingesOf : pm_T := pm_M eX2_hingesOf 5
theorem Ct_X2_hingesOf (l : Launch) (sk : Nat → Nat) : pm_Ct l sk yX2_hingesOf cX2_hingesOf 5 (some .int) 3 (T_X2_hingesOf) := pm_met eX2_hingesOf (by decide) rfl rfl (fun _ => rfl) (fun _ => rfl) fX2_ok (fun _ _ h => by cases h) (pm_tabC (by
    intro q hq
    simp only [List.mem_cons, List.not_mem_nil, or_false] at hq
    rcases hq with rfl | rfl
    · exact pm_cokV (i := 2) (Ct_X2_linkAll l sk) ykX2_linkAll (by decide) (by decide) rfl rfl (by decide) (by decide +kernel) (pm_WS_mem 622 (by decide +kernel) rfl)
    · exact pm_cokV (i := 2) (Ct_X2_spread l sk) ykX2_spread (by decide) (by decide) rfl rfl (by decide) (by decide +kernel) (pm_WS_mem 629 (by decide +kernel) rfl)))
theorem ykX2_markWay : pm_YV yX2_markWay cX2_markWay 7 (none) := ⟨(pm_WS_mem 1049 (by decide +kernel) rfl), (pm_WS_mem 128 (by decide +kernel) rfl), ⟨by decide +kernel, by decide +kernel⟩, (pm_WS_mem 1048 (by decide +kernel) rfl), (pm_WS_mem 43 (by decide +kernel) rfl)⟩
def eX2_markWay : pm_E := (cX2_markWay, fX2, pm_as [(86, 2, none, T_J7_fill_53178)], fun _ => none, fun _ => none, fun _ => none, none)
theorem zX2_markWay_B : pm_eB eX2_markWay = cX2_markWay := rfl
theorem zX2_markWay_F : pm_eF eX2_markWay = fX2 := rfl
theorem zX2_markWay_R : pm_eR eX2_markWay = none := rfl
theorem zX2_markWay_X (n : Nat) : pm_eX eX2_markWay n = none := rfl
theorem zX2_markWay_C86 : pm_eC eX2_markWay 86 = some (2, none, T_J7_fill_53178) := rfl
def T_X2_markWay : pm_T := pm_M eX2_markWay 7
theorem Ct_X2_markWay (l : Launch) (sk : Nat → Nat) : pm_Ct l sk yX2_markWay cX2_markWay 7 (none) 2 (T_X2_markWay) := pm_met eX2_markWay (by decide) rfl rfl (fun _ => rfl) (fun _ => rfl) fX2_ok (fun _ _ h => by cases h) (pm_tabC (by
    intro q hq
    simp only [List.mem_cons, List.not_mem_nil, or_false] at hq
    rcases hq with rfl
    · exact pm_cokS (Ct_J7_fill_53178 l sk) ykJ7_fill_53178 (by decide) (by decide) (by decide +kernel) (Or.inl (pm_WS_mem 626 (by decide +kernel) rfl))))
theorem ykX2_wayLength : pm_YV yX2_wayLength cX2_wayLength 6 (some .int) := ⟨(pm_WS_mem 1045 (by decide +kernel) rfl), (pm_WS_mem 128 (by decide +kernel) rfl), ⟨by decide +kernel, by decide +kernel⟩, (pm_WS_mem 1043 (by decide +kernel) rfl), (pm_WS_mem 1044 (by decide +kernel) rfl)⟩
def eX2_wayLength : pm_E := (cX2_wayLength, fX2, pm_as [(80, 3, some 2, T_X2_markWay)], fun _ => none, fun _ => none, fun _ => none, some .int)
theorem zX2_wayLength_B : pm_eB eX2_wayLength = cX2_wayLength := rfl
theorem zX2_wayLength_F : pm_eF eX2_wayLength = fX2 := rfl
theorem zX2_wayLength_R : pm_eR eX2_wayLength = some .int := rfl
theorem zX2_wayLength_X (n : Nat) : pm_eX eX2_wayLength n = none := rfl
theorem zX2_wayLength_C80 : pm_eC eX2_wayLength 80 = some (3, some 2, T_X2_markWay) := rfl
def T_X2_wayLength : pm_T := pm_M eX2_wayLength 6
theorem Ct_X2_wayLength (l : Launch) (sk : Nat → Nat) : pm_Ct l sk yX2_wayLength cX2_wayLength 6 (some .int) 3 (T_X2_wayLength) := pm_met eX2_wayLength (by decide) rfl rfl (fun _ => rfl) (fun _ => rfl) fX2_ok (fun _ _ h => by cases h) (pm_tabC (by
    intro q hq
    simp only [List.mem_cons, List.not_mem_nil, or_false] at hq
    rcases hq with rfl
    · exact pm_cokV (i := 2) (Ct_X2_markWay l sk) ykX2_markWay (by decide) (by decide) rfl rfl (by decide) (by decide +kernel) (pm_WS_mem 1046 (by decide +kernel) rfl)))
theorem ykX2_wayNode : pm_YV yX2_wayNode cX2_wayNode 8 (some .int) := ⟨(pm_WS_mem 1053 (by decide +kernel) rfl), (pm_WS_mem 128 (by decide +kernel) rfl), ⟨by decide +kernel, by decide +kernel⟩, (pm_WS_mem 1051 (by decide +kernel) rfl), (pm_WS_mem 1052 (by decide +kernel) rfl)⟩
def eX2_wayNode : pm_E := (cX2_wayNode, fX2, pm_as [(83, 4, some 2, T_X2_wayLength)], fun _ => none, fun _ => none, fun _ => none, some .int)
theorem zX2_wayNode_B : pm_eB eX2_wayNode = cX2_wayNode := rfl
theorem zX2_wayNode_F : pm_eF eX2_wayNode = fX2 := rfl
theorem zX2_wayNode_R : pm_eR eX2_wayNode = some .int := rfl
theorem zX2_wayNode_X (n : Nat) : pm_eX eX2_wayNode n = none := rfl
theorem zX2_wayNode_C83 : pm_eC eX2_wayNode 83 = some (4, some 2, T_X2_wayLength) := rfl
def T_X2_wayNode : pm_T := pm_M eX2_wayNode 8
theorem Ct_X2_wayNode (l : Launch) (sk : Nat → Nat) : pm_Ct l sk yX2_wayNode cX2_wayNode 8 (some .int) 4 (T_X2_wayNode) := pm_met eX2_wayNode (by decide) rfl rfl (fun _ => rfl) (fun _ => rfl) fX2_ok (fun _ _ h => by cases h) (pm_tabC (by
    intro q hq
    simp only [List.mem_cons, List.not_mem_nil, or_false] at hq
    rcases hq with rfl
    · exact pm_cokV (i := 2) (Ct_X2_wayLength l sk) ykX2_wayLength (by decide) (by decide) rfl rfl (by decide) (by decide +kernel) (pm_WS_mem 1054 (by decide +kernel) rfl)))
theorem ykX2_cheapen : pm_YV yX2_cheapen cX2_cheapen 4 (none) := ⟨(pm_WS_mem 1166 (by decide +kernel) rfl), (pm_WS_mem 128 (by decide +kernel) rfl), ⟨by decide +kernel, by decide +kernel⟩, (pm_WS_mem 1165 (by decide +kernel) rfl), (pm_WS_mem 44 (by decide +kernel) rfl)⟩
def eX2_cheapen : pm_E := (cX2_cheapen, fX2, fun _ => none, fun _ => none, fun _ => none, fun _ => none, none)
theorem zX2_cheapen_B : pm_eB eX2_cheapen = cX2_cheapen := rfl
theorem zX2_cheapen_F : pm_eF eX2_cheapen = fX2 := rfl
theorem zX2_cheapen_R : pm_eR eX2_cheapen = none := rfl
theorem zX2_cheapen_X (n : Nat) : pm_eX eX2_cheapen n = none := rfl
def T_X2_cheapen : pm_T := pm_M eX2_cheapen 4
theorem Ct_X2_cheapen (l : Launch) (sk : Nat → Nat) : pm_Ct l sk yX2_cheapen cX2_cheapen 4 (none) 1 (T_X2_cheapen) := pm_met eX2_cheapen (by decide) rfl rfl (fun _ => rfl) (fun _ => rfl) fX2_ok (fun _ _ h => by cases h) (fun _ _ _ _ h => by cases h)
theorem ykX2_leastFare : pm_YV yX2_leastFare cX2_leastFare 6 (some .int) := ⟨(pm_WS_mem 1162 (by decide +kernel) rfl), (pm_WS_mem 128 (by decide +kernel) rfl), ⟨by decide +kernel, by decide +kernel⟩, (pm_WS_mem 1160 (by decide +kernel) rfl), (pm_WS_mem 1161 (by decide +kernel) rfl)⟩
def eX2_leastFare : pm_E := (cX2_leastFare, fX2, pm_as [(86, 2, none, T_J7_fill_53178), (95, 4, some 2, T_X2_cheapen)], fun _ => none, fun _ => none, fun _ => none, some .int)
theorem zX2_leastFare_B : pm_eB eX2_leastFare = cX2_leastFare := rfl
theorem zX2_leastFare_F : pm_eF eX2_leastFare = fX2 := rfl
theorem zX2_leastFare_R : pm_eR eX2_leastFare = some .int := rfl
theorem zX2_leastFare_X (n : Nat) : pm_eX eX2_leastFare n = none := rfl
theorem zX2_leastFare_C86 : pm_eC eX2_leastFare 86 = some (2, none, T_J7_fill_53178) := rfl
theorem zX2_leastFare_C95 : pm_eC eX2_leastFare 95 = some (4, some 2, T_X2_cheapen) := rfl
def T_X2_leastFare : pm_T := pm_M eX2_leastFare 6
theorem Ct_X2_leastFare (l : Launch) (sk : Nat → Nat) : pm_Ct l sk yX2_leastFare cX2_leastFare 6 (some .int) 2 (T_X2_leastFare) := pm_met eX2_leastFare (by decide) rfl rfl (fun _ => rfl) (fun _ => rfl) fX2_ok (fun _ _ h => by cases h) (pm_tabC (by
    intro q hq
    simp only [List.mem_cons, List.not_mem_nil, or_false] at hq
    rcases hq with rfl | rfl
    · exact pm_cokS (Ct_J7_fill_53178 l sk) ykJ7_fill_53178 (by decide) (by decide) (by decide +kernel) (Or.inl (pm_WS_mem 626 (by decide +kernel) rfl))
    · exact pm_cokV (i := 2) (Ct_X2_cheapen l sk) ykX2_cheapen (by decide) (by decide) rfl rfl (by decide) (by decide +kernel) (pm_WS_mem 1163 (by decide +kernel) rfl)))
theorem ykX2_cheapestLeaving : pm_YV yX2_cheapestLeaving cX2_cheapestLeaving 6 (some .int) := ⟨(pm_WS_mem 695 (by decide +kernel) rfl), (pm_WS_mem 128 (by decide +kernel) rfl), ⟨by decide +kernel, by decide +kernel⟩, (pm_WS_mem 694 (by decide +kernel) rfl), (pm_WS_mem 29 (by decide +kernel) rfl)⟩
def eX2_cheapestLeaving : pm_E := (cX2_cheapestLeaving, fX2, pm_as [(51, 2, none, T_X4_holds)], fun _ => none, fun _ => none, fun _ => none, some .int)
theorem zX2_cheapestLeaving_B : pm_eB eX2_cheapestLeaving = cX2_cheapestLeaving := rfl
theorem zX2_cheapestLeaving_F : pm_eF eX2_cheapestLeaving = fX2 := rfl
theorem zX2_cheapestLeaving_R : pm_eR eX2_cheapestLeaving = some .int := rfl
theorem zX2_cheapestLeaving_X (n : Nat) : pm_eX eX2_cheapestLeaving n = none := rfl
theorem zX2_cheapestLeaving_C51 : pm_eC eX2_cheapestLeaving 51 = some (2, none, T_X4_holds) := rfl
def T_X2_cheapestLeaving : pm_T := pm_M eX2_cheapestLeaving 6
theorem Ct_X2_cheapestLeaving (l : Launch) (sk : Nat → Nat) : pm_Ct l sk yX2_cheapestLeaving cX2_cheapestLeaving 6 (some .int) 2 (T_X2_cheapestLeaving) := pm_met eX2_cheapestLeaving (by decide) rfl rfl (fun _ => rfl) (fun _ => rfl) fX2_ok (fun _ _ h => by cases h) (pm_tabC (by
    intro q hq
    simp only [List.mem_cons, List.not_mem_nil, or_false] at hq
    rcases hq with rfl
    · exact pm_cokS (Ct_X4_holds l sk) ykX4_holds (by decide) (by decide) (by decide +kernel) (Or.inr ⟨"CableForest", pm_NW_mem 633 (by decide +kernel) rfl⟩)))
theorem ykX2_cheapestOf : pm_YV yX2_cheapestOf cX2_cheapestOf 6 (some .int) := ⟨(pm_WS_mem 691 (by decide +kernel) rfl), (pm_WS_mem 128 (by decide +kernel) rfl), ⟨by decide +kernel, by decide +kernel⟩, (pm_WS_mem 689 (by decide +kernel) rfl), (pm_WS_mem 690 (by decide +kernel) rfl)⟩
def eX2_cheapestOf : pm_E := (cX2_cheapestOf, fX2, pm_as [(99, 3, some 2, T_X2_cheapestLeaving)], fun _ => none, fun _ => none, fun _ => none, some .int)
theorem zX2_cheapestOf_B : pm_eB eX2_cheapestOf = cX2_cheapestOf := rfl
theorem zX2_cheapestOf_F : pm_eF eX2_cheapestOf = fX2 := rfl
theorem zX2_cheapestOf_R : pm_eR eX2_cheapestOf = some .int := rfl
theorem zX2_cheapestOf_X (n : Nat) : pm_eX eX2_cheapestOf n = none := rfl
theorem zX2_cheapestOf_C99 : pm_eC eX2_cheapestOf 99 = some (3, some 2, T_X2_cheapestLeaving) := rfl
def T_X2_cheapestOf : pm_T := pm_M eX2_cheapestOf 6
theorem Ct_X2_cheapestOf (l : Launch) (sk : Nat → Nat) : pm_Ct l sk yX2_cheapestOf cX2_cheapestOf 6 (some .int) 3 (T_X2_cheapestOf) := pm_met eX2_cheapestOf (by decide) rfl rfl (fun _ => rfl) (fun _ => rfl) fX2_ok (fun _ _ h => by cases h) (pm_tabC (by
    intro q hq
    simp only [List.mem_cons, List.not_mem_nil, or_false] at hq
    rcases hq with rfl
    · exact pm_cokV (i := 2) (Ct_X2_cheapestLeaving l sk) ykX2_cheapestLeaving (by decide) (by decide) rfl rfl (by decide) (by decide +kernel) (pm_WS_mem 692 (by decide +kernel) rfl)))
theorem ykX2_findRoom : pm_YV yX2_findRoom cX2_findRoom 7 (some .boolean) := ⟨(pm_WS_mem 1189 (by decide +kernel) rfl), (pm_WS_mem 128 (by decide +kernel) rfl), ⟨by decide +kernel, by decide +kernel⟩, (pm_WS_mem 1188 (by decide +kernel) rfl), (pm_WS_mem 45 (by decide +kernel) rfl)⟩
def eX2_findRoom : pm_E := (cX2_findRoom, fX2, pm_as [(86, 2, none, T_J7_fill_53178)], fun _ => none, fun _ => none, fun _ => none, some .boolean)
theorem zX2_findRoom_B : pm_eB eX2_findRoom = cX2_findRoom := rfl
theorem zX2_findRoom_F : pm_eF eX2_findRoom = fX2 := rfl
theorem zX2_findRoom_R : pm_eR eX2_findRoom = some .boolean := rfl
theorem zX2_findRoom_X (n : Nat) : pm_eX eX2_findRoom n = none := rfl
theorem zX2_findRoom_C86 : pm_eC eX2_findRoom 86 = some (2, none, T_J7_fill_53178) := rfl
def T_X2_findRoom : pm_T := pm_M eX2_findRoom 7
theorem Ct_X2_findRoom (l : Launch) (sk : Nat → Nat) : pm_Ct l sk yX2_findRoom cX2_findRoom 7 (some .boolean) 2 (T_X2_findRoom) := pm_met eX2_findRoom (by decide) rfl rfl (fun _ => rfl) (fun _ => rfl) fX2_ok (fun _ _ h => by cases h) (pm_tabC (by
    intro q hq
    simp only [List.mem_cons, List.not_mem_nil, or_false] at hq
    rcases hq with rfl
    · exact pm_cokS (Ct_J7_fill_53178 l sk) ykJ7_fill_53178 (by decide) (by decide) (by decide +kernel) (Or.inl (pm_WS_mem 626 (by decide +kernel) rfl))))
theorem ykX2_sendOne : pm_YV yX2_sendOne cX2_sendOne 6 (none) := ⟨(pm_WS_mem 1193 (by decide +kernel) rfl), (pm_WS_mem 128 (by decide +kernel) rfl), ⟨by decide +kernel, by decide +kernel⟩, (pm_WS_mem 1192 (by decide +kernel) rfl), (pm_WS_mem 46 (by decide +kernel) rfl)⟩
def eX2_sendOne : pm_E := (cX2_sendOne, fX2, fun _ => none, fun _ => none, fun _ => none, fun _ => none, none)
theorem zX2_sendOne_B : pm_eB eX2_sendOne = cX2_sendOne := rfl
theorem zX2_sendOne_F : pm_eF eX2_sendOne = fX2 := rfl
theorem zX2_sendOne_R : pm_eR eX2_sendOne = none := rfl
theorem zX2_sendOne_X (n : Nat) : pm_eX eX2_sendOne n = none := rfl
def T_X2_sendOne : pm_T := pm_M eX2_sendOne 6
theorem Ct_X2_sendOne (l : Launch) (sk : Nat → Nat) : pm_Ct l sk yX2_sendOne cX2_sendOne 6 (none) 1 (T_X2_sendOne) := pm_met eX2_sendOne (by decide) rfl rfl (fun _ => rfl) (fun _ => rfl) fX2_ok (fun _ _ h => by cases h) (fun _ _ _ _ h => by cases h)
theorem ykX2_fewestBetween : pm_YV yX2_fewestBetween cX2_fewestBetween 5 (some .int) := ⟨(pm_WS_mem 1185 (by decide +kernel) rfl), (pm_WS_mem 128 (by decide +kernel) rfl), ⟨by decide +kernel, by decide +kernel⟩, (pm_WS_mem 1183 (by decide +kernel) rfl), (pm_WS_mem 1184 (by decide +kernel) rfl)⟩
def eX2_fewestBetween : pm_E := (cX2_fewestBetween, fX2, pm_as [(86, 2, none, T_J7_fill_53178), (102, 3, some 2, T_X2_findRoom), (105, 3, some 2, T_X2_sendOne)], fun _ => none, fun _ => none, fun _ => none, some .int)
theorem zX2_fewestBetween_B : pm_eB eX2_fewestBetween = cX2_fewestBetween := rfl
theorem zX2_fewestBetween_F : pm_eF eX2_fewestBetween = fX2 := rfl
theorem zX2_fewestBetween_R : pm_eR eX2_fewestBetween = some .int := rfl
theorem zX2_fewestBetween_X (n : Nat) : pm_eX eX2_fewestBetween n = none := rfl
theorem zX2_fewestBetween_C86 : pm_eC eX2_fewestBetween 86 = some (2, none, T_J7_fill_53178) := rfl
theorem zX2_fewestBetween_C102 : pm_eC eX2_fewestBetween 102 = some (3, some 2, T_X2_findRoom) := rfl
theorem zX2_fewestBetween_C105 : pm_eC eX2_fewestBetween 105 = some (3, some 2, T_X2_sendOne) := rfl
def T_X2_fewestBetween : pm_T := pm_M eX2_fewestBetween 5
theorem Ct_X2_fewestBetween (l : Launch) (sk : Nat → Nat) : pm_Ct l sk yX2_fewestBetween cX2_fewestBetween 5 (some .int) 3 (T_X2_fewestBetween) := pm_met eX2_fewestBetween (by decide) rfl rfl (fun _ => rfl) (fun _ => rfl) fX2_ok (fun _ _ h => by cases h) (pm_tabC (by
    intro q hq
    simp only [List.mem_cons, List.not_mem_nil, or_false] at hq
    rcases hq with rfl | rfl | rfl
    · exact pm_cokS (Ct_J7_fill_53178 l sk) ykJ7_fill_53178 (by decide) (by decide) (by decide +kernel) (Or.inl (pm_WS_mem 626 (by decide +kernel) rfl))
    · exact pm_cokV (i := 2) (Ct_X2_findRoom l sk) ykX2_findRoom (by decide) (by decide) rfl rfl (by decide) (by decide +kernel) (pm_WS_mem 1186 (by decide +kernel) rfl)
    · exact pm_cokV (i := 2) (Ct_X2_sendOne l sk) ykX2_sendOne (by decide) (by decide) rfl rfl (by decide) (by decide +kernel) (pm_WS_mem 1190 (by decide +kernel) rfl)))
theorem ykX2_tying : pm_YS yX2_tying cX2_tying 8 (some .int) := ⟨(pm_WS_mem 1151 (by decide +kernel) rfl), (pm_WS_mem 128 (by decide +kernel) rfl), ⟨by decide +kernel, by decide +kernel⟩, (pm_WS_mem 1150 (by decide +kernel) rfl)⟩
theorem wpX2_tying : (parseMethodDescriptor yX2_tying.desc).map (fun d => d.parameters.length) = some 5 := by decide +kernel
theorem wlX2_tying : Cond.methodLink RX2 109 yX2_tying ∈ pm_WS := (pm_WS_mem 1149 (by decide +kernel) rfl)
def eX2_tying (T : pm_T) : pm_E := (cX2_tying, fX2, pm_as [(51, 2, none, T_X4_holds), (71, 1, none, T_J6_bitCount_0f7a4), (109, 5, none, T)], fun _ => none, fun _ => none, fun _ => none, some .int)
theorem zX2_tying_B (T : pm_T) : pm_eB (eX2_tying T) = cX2_tying := rfl
theorem zX2_tying_F (T : pm_T) : pm_eF (eX2_tying T) = fX2 := rfl
theorem zX2_tying_R (T : pm_T) : pm_eR (eX2_tying T) = some .int := rfl
theorem zX2_tying_X (T : pm_T) (n : Nat) : pm_eX (eX2_tying T) n = none := rfl
theorem zX2_tying_C51 (T : pm_T) : pm_eC (eX2_tying T) 51 = some (2, none, T_X4_holds) := rfl
theorem zX2_tying_C71 (T : pm_T) : pm_eC (eX2_tying T) 71 = some (1, none, T_J6_bitCount_0f7a4) := rfl
theorem zX2_tying_C109 (T : pm_T) : pm_eC (eX2_tying T) 109 = some (5, none, T) := rfl
def T_X2_tying : Nat → pm_T
  | 0 => fun _ _ _ => False
  | n + 1 => pm_M (eX2_tying (T_X2_tying n)) 8
theorem Ct_X2_tying (l : Launch) (sk : Nat → Nat) : ∀ n : Nat, pm_Ct l sk yX2_tying cX2_tying 8 (some .int) (2 + n) (T_X2_tying n)
  | 0 => fun _ _ _ _ _ _ _ _ h => h.elim
  | n + 1 => by
    have hT := Ct_X2_tying l sk n
    have h2 : 2 ≤ 2 + (n + 1) := by omega
    exact pm_met (eX2_tying (T_X2_tying n)) (by decide) rfl rfl (fun _ => rfl) (fun _ => rfl) fX2_ok (fun _ _ h => by cases h) (pm_tabC (by
        intro q hq
        simp only [List.mem_cons, List.not_mem_nil, or_false] at hq
        rcases hq with rfl | rfl | rfl
        · exact pm_cokS (Ct_X4_holds l sk) ykX4_holds (by omega) (by decide) (by decide +kernel) (Or.inr ⟨"CableForest", pm_NW_mem 633 (by decide +kernel) rfl⟩)
        · exact pm_cokS (Ct_J6_bitCount_0f7a4 l sk) ykJ6_bitCount_0f7a4 (by omega) (by decide) (by decide +kernel) (Or.inl (pm_WS_mem 663 (by decide +kernel) rfl))
        · exact pm_cokS hT ykX2_tying (Nat.lt_succ_self _) (by decide) wpX2_tying (Or.inl wlX2_tying)))
theorem ykX2_setsThatTie : pm_YV yX2_setsThatTie cX2_setsThatTie 6 (some .int) := ⟨(pm_WS_mem 1148 (by decide +kernel) rfl), (pm_WS_mem 128 (by decide +kernel) rfl), ⟨by decide +kernel, by decide +kernel⟩, (pm_WS_mem 1146 (by decide +kernel) rfl), (pm_WS_mem 1147 (by decide +kernel) rfl)⟩
def eX2_setsThatTie : pm_E := (cX2_setsThatTie, fX2, pm_as [(109, 5, none, (T_X2_tying 14))], fun _ => none, fun _ => none, fun _ => none, some .int)
theorem zX2_setsThatTie_B : pm_eB eX2_setsThatTie = cX2_setsThatTie := rfl
theorem zX2_setsThatTie_F : pm_eF eX2_setsThatTie = fX2 := rfl
theorem zX2_setsThatTie_R : pm_eR eX2_setsThatTie = some .int := rfl
theorem zX2_setsThatTie_X (n : Nat) : pm_eX eX2_setsThatTie n = none := rfl
theorem zX2_setsThatTie_C109 : pm_eC eX2_setsThatTie 109 = some (5, none, (T_X2_tying 14)) := rfl
def T_X2_setsThatTie : pm_T := pm_M eX2_setsThatTie 6
theorem Ct_X2_setsThatTie (l : Launch) (sk : Nat → Nat) : pm_Ct l sk yX2_setsThatTie cX2_setsThatTie 6 (some .int) 17 (T_X2_setsThatTie) := pm_met eX2_setsThatTie (by decide) rfl rfl (fun _ => rfl) (fun _ => rfl) fX2_ok (fun _ _ h => by cases h) (pm_tabC (by
    intro q hq
    simp only [List.mem_cons, List.not_mem_nil, or_false] at hq
    rcases hq with rfl
    · exact pm_cokS (Ct_X2_tying l sk 14) ykX2_tying (by decide) (by decide) (by decide +kernel) (Or.inl (pm_WS_mem 1149 (by decide +kernel) rfl))))
theorem ykX3_addBytes : pm_YV yX3_addBytes cX3_addBytes 3 (none) := ⟨(pm_WS_mem 359 (by decide +kernel) rfl), (pm_WS_mem 129 (by decide +kernel) rfl), ⟨by decide +kernel, by decide +kernel⟩, (pm_WS_mem 357 (by decide +kernel) rfl), (pm_WS_mem 358 (by decide +kernel) rfl)⟩
def eX3_addBytes : pm_E := (cX3_addBytes, fX3, fun _ => none, fun _ => none, fun _ => none, fun _ => none, none)
theorem zX3_addBytes_B : pm_eB eX3_addBytes = cX3_addBytes := rfl
theorem zX3_addBytes_F : pm_eF eX3_addBytes = fX3 := rfl
theorem zX3_addBytes_R : pm_eR eX3_addBytes = none := rfl
theorem zX3_addBytes_X (n : Nat) : pm_eX eX3_addBytes n = none := rfl
def T_X3_addBytes : pm_T := pm_M eX3_addBytes 3
theorem Ct_X3_addBytes (l : Launch) (sk : Nat → Nat) : pm_Ct l sk yX3_addBytes cX3_addBytes 3 (none) 1 (T_X3_addBytes) := pm_met eX3_addBytes (by decide) rfl rfl (fun _ => rfl) (fun _ => rfl) fX3_ok (fun _ _ h => by cases h) (fun _ _ _ _ h => by cases h)
theorem ykX3_skipBlanks : pm_YV yX3_skipBlanks cX3_skipBlanks 1 (none) := ⟨(pm_WS_mem 715 (by decide +kernel) rfl), (pm_WS_mem 129 (by decide +kernel) rfl), ⟨by decide +kernel, by decide +kernel⟩, (pm_WS_mem 714 (by decide +kernel) rfl), (pm_WS_mem 31 (by decide +kernel) rfl)⟩
def eX3_skipBlanks : pm_E := (cX3_skipBlanks, fX3, fun _ => none, fun _ => none, fun _ => none, fun _ => none, none)
theorem zX3_skipBlanks_B : pm_eB eX3_skipBlanks = cX3_skipBlanks := rfl
theorem zX3_skipBlanks_F : pm_eF eX3_skipBlanks = fX3 := rfl
theorem zX3_skipBlanks_R : pm_eR eX3_skipBlanks = none := rfl
theorem zX3_skipBlanks_X (n : Nat) : pm_eX eX3_skipBlanks n = none := rfl
def T_X3_skipBlanks : pm_T := pm_M eX3_skipBlanks 1
theorem Ct_X3_skipBlanks (l : Launch) (sk : Nat → Nat) : pm_Ct l sk yX3_skipBlanks cX3_skipBlanks 1 (none) 1 (T_X3_skipBlanks) := pm_met eX3_skipBlanks (by decide) rfl rfl (fun _ => rfl) (fun _ => rfl) fX3_ok (fun _ _ h => by cases h) (fun _ _ _ _ h => by cases h)
theorem ykX3_rewind : pm_YV yX3_rewind cX3_rewind 1 (none) := ⟨(pm_WS_mem 711 (by decide +kernel) rfl), (pm_WS_mem 129 (by decide +kernel) rfl), ⟨by decide +kernel, by decide +kernel⟩, (pm_WS_mem 709 (by decide +kernel) rfl), (pm_WS_mem 710 (by decide +kernel) rfl)⟩
def eX3_rewind : pm_E := (cX3_rewind, fX3, pm_as [(37, 1, some 3, T_X3_skipBlanks)], fun _ => none, fun _ => none, fun _ => none, none)
theorem zX3_rewind_B : pm_eB eX3_rewind = cX3_rewind := rfl
theorem zX3_rewind_F : pm_eF eX3_rewind = fX3 := rfl
theorem zX3_rewind_R : pm_eR eX3_rewind = none := rfl
theorem zX3_rewind_X (n : Nat) : pm_eX eX3_rewind n = none := rfl
theorem zX3_rewind_C37 : pm_eC eX3_rewind 37 = some (1, some 3, T_X3_skipBlanks) := rfl
def T_X3_rewind : pm_T := pm_M eX3_rewind 1
theorem Ct_X3_rewind (l : Launch) (sk : Nat → Nat) : pm_Ct l sk yX3_rewind cX3_rewind 1 (none) 2 (T_X3_rewind) := pm_met eX3_rewind (by decide) rfl rfl (fun _ => rfl) (fun _ => rfl) fX3_ok (fun _ _ h => by cases h) (pm_tabC (by
    intro q hq
    simp only [List.mem_cons, List.not_mem_nil, or_false] at hq
    rcases hq with rfl
    · exact pm_cokV (i := 3) (Ct_X3_skipBlanks l sk) ykX3_skipBlanks (by decide) (by decide) rfl rfl (by decide) (by decide +kernel) (pm_WS_mem 712 (by decide +kernel) rfl)))
theorem ykX3_atEnd : pm_YV yX3_atEnd cX3_atEnd 1 (some .boolean) := ⟨(pm_WS_mem 719 (by decide +kernel) rfl), (pm_WS_mem 129 (by decide +kernel) rfl), ⟨by decide +kernel, by decide +kernel⟩, (pm_WS_mem 717 (by decide +kernel) rfl), (pm_WS_mem 718 (by decide +kernel) rfl)⟩
def eX3_atEnd : pm_E := (cX3_atEnd, fX3, fun _ => none, fun _ => none, fun _ => none, fun _ => none, some .boolean)
theorem zX3_atEnd_B : pm_eB eX3_atEnd = cX3_atEnd := rfl
theorem zX3_atEnd_F : pm_eF eX3_atEnd = fX3 := rfl
theorem zX3_atEnd_R : pm_eR eX3_atEnd = some .boolean := rfl
theorem zX3_atEnd_X (n : Nat) : pm_eX eX3_atEnd n = none := rfl
def T_X3_atEnd : pm_T := pm_M eX3_atEnd 1
theorem Ct_X3_atEnd (l : Launch) (sk : Nat → Nat) : pm_Ct l sk yX3_atEnd cX3_atEnd 1 (some .boolean) 1 (T_X3_atEnd) := pm_met eX3_atEnd (by decide) rfl rfl (fun _ => rfl) (fun _ => rfl) fX3_ok (fun _ _ h => by cases h) (fun _ _ _ _ h => by cases h)
theorem ykX3_operands : pm_YV yX3_operands cX3_operands 1 (some .int) := ⟨(pm_WS_mem 794 (by decide +kernel) rfl), (pm_WS_mem 129 (by decide +kernel) rfl), ⟨by decide +kernel, by decide +kernel⟩, (pm_WS_mem 793 (by decide +kernel) rfl), (pm_WS_mem 35 (by decide +kernel) rfl)⟩
def eX3_operands : pm_E := (cX3_operands, fX3, fun _ => none, fun _ => none, fun _ => none, fun _ => none, some .int)
theorem zX3_operands_B : pm_eB eX3_operands = cX3_operands := rfl
theorem zX3_operands_F : pm_eF eX3_operands = fX3 := rfl
theorem zX3_operands_R : pm_eR eX3_operands = some .int := rfl
theorem zX3_operands_X (n : Nat) : pm_eX eX3_operands n = none := rfl
def T_X3_operands : pm_T := pm_M eX3_operands 1
theorem Ct_X3_operands (l : Launch) (sk : Nat → Nat) : pm_Ct l sk yX3_operands cX3_operands 1 (some .int) 1 (T_X3_operands) := pm_met eX3_operands (by decide) rfl rfl (fun _ => rfl) (fun _ => rfl) fX3_ok (fun _ _ h => by cases h) (fun _ _ _ _ h => by cases h)
theorem ykX3_numberOf : pm_YV yX3_numberOf cX3_numberOf 5 (some .int) := ⟨(pm_WS_mem 811 (by decide +kernel) rfl), (pm_WS_mem 129 (by decide +kernel) rfl), ⟨by decide +kernel, by decide +kernel⟩, (pm_WS_mem 809 (by decide +kernel) rfl), (pm_WS_mem 810 (by decide +kernel) rfl)⟩
def eX3_numberOf : pm_E := (cX3_numberOf, fX3, pm_as [(40, 1, some 3, T_X3_operands)], fun _ => none, fun _ => none, fun _ => none, some .int)
theorem zX3_numberOf_B : pm_eB eX3_numberOf = cX3_numberOf := rfl
theorem zX3_numberOf_F : pm_eF eX3_numberOf = fX3 := rfl
theorem zX3_numberOf_R : pm_eR eX3_numberOf = some .int := rfl
theorem zX3_numberOf_X (n : Nat) : pm_eX eX3_numberOf n = none := rfl
theorem zX3_numberOf_C40 : pm_eC eX3_numberOf 40 = some (1, some 3, T_X3_operands) := rfl
def T_X3_numberOf : pm_T := pm_M eX3_numberOf 5
theorem Ct_X3_numberOf (l : Launch) (sk : Nat → Nat) : pm_Ct l sk yX3_numberOf cX3_numberOf 5 (some .int) 2 (T_X3_numberOf) := pm_met eX3_numberOf (by decide) rfl rfl (fun _ => rfl) (fun _ => rfl) fX3_ok (fun _ _ h => by cases h) (pm_tabC (by
    intro q hq
    simp only [List.mem_cons, List.not_mem_nil, or_false] at hq
    rcases hq with rfl
    · exact pm_cokV (i := 3) (Ct_X3_operands l sk) ykX3_operands (by decide) (by decide) rfl rfl (by decide) (by decide +kernel) (pm_WS_mem 791 (by decide +kernel) rfl)))
theorem ykX3_takeSign : pm_YV yX3_takeSign cX3_takeSign 2 (some .boolean) := ⟨(pm_WS_mem 807 (by decide +kernel) rfl), (pm_WS_mem 129 (by decide +kernel) rfl), ⟨by decide +kernel, by decide +kernel⟩, (pm_WS_mem 806 (by decide +kernel) rfl), (pm_WS_mem 38 (by decide +kernel) rfl)⟩
def eX3_takeSign : pm_E := (cX3_takeSign, fX3, pm_as [(37, 1, some 3, T_X3_skipBlanks)], fun _ => none, fun _ => none, fun _ => none, some .boolean)
theorem zX3_takeSign_B : pm_eB eX3_takeSign = cX3_takeSign := rfl
theorem zX3_takeSign_F : pm_eF eX3_takeSign = fX3 := rfl
theorem zX3_takeSign_R : pm_eR eX3_takeSign = some .boolean := rfl
theorem zX3_takeSign_X (n : Nat) : pm_eX eX3_takeSign n = none := rfl
theorem zX3_takeSign_C37 : pm_eC eX3_takeSign 37 = some (1, some 3, T_X3_skipBlanks) := rfl
def T_X3_takeSign : pm_T := pm_M eX3_takeSign 2
theorem Ct_X3_takeSign (l : Launch) (sk : Nat → Nat) : pm_Ct l sk yX3_takeSign cX3_takeSign 2 (some .boolean) 2 (T_X3_takeSign) := pm_met eX3_takeSign (by decide) rfl rfl (fun _ => rfl) (fun _ => rfl) fX3_ok (fun _ _ h => by cases h) (pm_tabC (by
    intro q hq
    simp only [List.mem_cons, List.not_mem_nil, or_false] at hq
    rcases hq with rfl
    · exact pm_cokV (i := 3) (Ct_X3_skipBlanks l sk) ykX3_skipBlanks (by decide) (by decide) rfl rfl (by decide) (by decide +kernel) (pm_WS_mem 712 (by decide +kernel) rfl)))
theorem ykX3_readNext : pm_YV yX3_readNext cX3_readNext 1 (some .boolean) := ⟨(pm_WS_mem 815 (by decide +kernel) rfl), (pm_WS_mem 129 (by decide +kernel) rfl), ⟨by decide +kernel, by decide +kernel⟩, (pm_WS_mem 813 (by decide +kernel) rfl), (pm_WS_mem 814 (by decide +kernel) rfl)⟩
def eX3_readNext : pm_E := (cX3_readNext, fX3, pm_as [(55, 1, some 3, T_X3_atEnd), (51, 2, some 3, T_X3_takeSign)], fun _ => none, fun _ => none, fun _ => none, some .boolean)
theorem zX3_readNext_B : pm_eB eX3_readNext = cX3_readNext := rfl
theorem zX3_readNext_F : pm_eF eX3_readNext = fX3 := rfl
theorem zX3_readNext_R : pm_eR eX3_readNext = some .boolean := rfl
theorem zX3_readNext_X (n : Nat) : pm_eX eX3_readNext n = none := rfl
theorem zX3_readNext_C55 : pm_eC eX3_readNext 55 = some (1, some 3, T_X3_atEnd) := rfl
theorem zX3_readNext_C51 : pm_eC eX3_readNext 51 = some (2, some 3, T_X3_takeSign) := rfl
def T_X3_readNext : pm_T := pm_M eX3_readNext 1
theorem Ct_X3_readNext (l : Launch) (sk : Nat → Nat) : pm_Ct l sk yX3_readNext cX3_readNext 1 (some .boolean) 3 (T_X3_readNext) := pm_met eX3_readNext (by decide) rfl rfl (fun _ => rfl) (fun _ => rfl) fX3_ok (fun _ _ h => by cases h) (pm_tabC (by
    intro q hq
    simp only [List.mem_cons, List.not_mem_nil, or_false] at hq
    rcases hq with rfl | rfl
    · exact pm_cokV (i := 3) (Ct_X3_atEnd l sk) ykX3_atEnd (by decide) (by decide) rfl rfl (by decide) (by decide +kernel) (pm_WS_mem 816 (by decide +kernel) rfl)
    · exact pm_cokV (i := 3) (Ct_X3_takeSign l sk) ykX3_takeSign (by decide) (by decide) rfl rfl (by decide) (by decide +kernel) (pm_WS_mem 804 (by decide +kernel) rfl)))
theorem ykX3_mostOf : pm_YV yX3_mostOf cX3_mostOf 2 (some .int) := ⟨(pm_WS_mem 803 (by decide +kernel) rfl), (pm_WS_mem 129 (by decide +kernel) rfl), ⟨by decide +kernel, by decide +kernel⟩, (pm_WS_mem 802 (by decide +kernel) rfl), (pm_WS_mem 37 (by decide +kernel) rfl)⟩
def eX3_mostOf : pm_E := (cX3_mostOf, fX3, fun _ => none, fun _ => none, fun _ => none, fun _ => none, some .int)
theorem zX3_mostOf_B : pm_eB eX3_mostOf = cX3_mostOf := rfl
theorem zX3_mostOf_F : pm_eF eX3_mostOf = fX3 := rfl
theorem zX3_mostOf_R : pm_eR eX3_mostOf = some .int := rfl
theorem zX3_mostOf_X (n : Nat) : pm_eX eX3_mostOf n = none := rfl
def T_X3_mostOf : pm_T := pm_M eX3_mostOf 2
theorem Ct_X3_mostOf (l : Launch) (sk : Nat → Nat) : pm_Ct l sk yX3_mostOf cX3_mostOf 2 (some .int) 1 (T_X3_mostOf) := pm_met eX3_mostOf (by decide) rfl rfl (fun _ => rfl) (fun _ => rfl) fX3_ok (fun _ _ h => by cases h) (fun _ _ _ _ h => by cases h)
theorem ykX3_readNumber : pm_YV yX3_readNumber cX3_readNumber 6 (some .boolean) := ⟨(pm_WS_mem 798 (by decide +kernel) rfl), (pm_WS_mem 129 (by decide +kernel) rfl), ⟨by decide +kernel, by decide +kernel⟩, (pm_WS_mem 797 (by decide +kernel) rfl), (pm_WS_mem 36 (by decide +kernel) rfl)⟩
def eX3_readNumber : pm_E := (cX3_readNumber, fX3, pm_as [(89, 2, none, pm_tmin), (95, 2, some 3, T_X3_mostOf), (37, 1, some 3, T_X3_skipBlanks)], fun _ => none, fun _ => none, fun _ => none, some .boolean)
theorem zX3_readNumber_B : pm_eB eX3_readNumber = cX3_readNumber := rfl
theorem zX3_readNumber_F : pm_eF eX3_readNumber = fX3 := rfl
theorem zX3_readNumber_R : pm_eR eX3_readNumber = some .boolean := rfl
theorem zX3_readNumber_X (n : Nat) : pm_eX eX3_readNumber n = none := rfl
theorem zX3_readNumber_C89 : pm_eC eX3_readNumber 89 = some (2, none, pm_tmin) := rfl
theorem zX3_readNumber_C95 : pm_eC eX3_readNumber 95 = some (2, some 3, T_X3_mostOf) := rfl
theorem zX3_readNumber_C37 : pm_eC eX3_readNumber 37 = some (1, some 3, T_X3_skipBlanks) := rfl
def T_X3_readNumber : pm_T := pm_M eX3_readNumber 6
theorem Ct_X3_readNumber (l : Launch) (sk : Nat → Nat) : pm_Ct l sk yX3_readNumber cX3_readNumber 6 (some .boolean) 2 (T_X3_readNumber) := pm_met eX3_readNumber (by decide) rfl rfl (fun _ => rfl) (fun _ => rfl) fX3_ok (fun _ _ h => by cases h) (pm_tabC (by
    intro q hq
    simp only [List.mem_cons, List.not_mem_nil, or_false] at hq
    rcases hq with rfl | rfl | rfl
    · exact pm_cokM (by decide) (pm_WS_mem 799 (by decide +kernel) rfl)
    · exact pm_cokV (i := 3) (Ct_X3_mostOf l sk) ykX3_mostOf (by decide) (by decide) rfl rfl (by decide) (by decide +kernel) (pm_WS_mem 800 (by decide +kernel) rfl)
    · exact pm_cokV (i := 3) (Ct_X3_skipBlanks l sk) ykX3_skipBlanks (by decide) (by decide) rfl rfl (by decide) (by decide +kernel) (pm_WS_mem 712 (by decide +kernel) rfl)))
