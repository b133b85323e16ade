theorem ykX3_wordOf : pm_YV yX3_wordOf cX3_wordOf 2 (some (.object "java/lang/String")) := ⟨(pm_WS_mem 731 (by decide +kernel) rfl), (pm_WS_mem 129 (by decide +kernel) rfl), ⟨by decide +kernel, by decide +kernel⟩, (pm_WS_mem 730 (by decide +kernel) rfl), (pm_WS_mem 33 (by decide +kernel) rfl)⟩
def eX3_wordOf (sk : Nat → Nat) : pm_E := (cX3_wordOf, fX3, fun _ => none, pm_as [(67, .inr (.inl (some (sk 0)))), (69, .inr (.inl (some (sk 1)))), (71, .inr (.inl (some (sk 2)))), (73, .inr (.inl (some (sk 3)))), (75, .inr (.inl (some (sk 4)))), (77, .inr (.inl (some (sk 5)))), (79, .inr (.inl (some (sk 6))))], fun _ => none, fun _ => none, some (.object "java/lang/String"))
theorem zX3_wordOf_B (sk : Nat → Nat) : pm_eB (eX3_wordOf sk) = cX3_wordOf := rfl
theorem zX3_wordOf_F (sk : Nat → Nat) : pm_eF (eX3_wordOf sk) = fX3 := rfl
theorem zX3_wordOf_R (sk : Nat → Nat) : pm_eR (eX3_wordOf sk) = some (.object "java/lang/String") := rfl
theorem zX3_wordOf_X (sk : Nat → Nat) (n : Nat) : pm_eX (eX3_wordOf sk) n = none := rfl
theorem zX3_wordOf_K67 (sk : Nat → Nat) : pm_eK (eX3_wordOf sk) 67 = some (.inr (.inl (some (sk 0)))) := rfl
theorem zX3_wordOf_K69 (sk : Nat → Nat) : pm_eK (eX3_wordOf sk) 69 = some (.inr (.inl (some (sk 1)))) := rfl
theorem zX3_wordOf_K71 (sk : Nat → Nat) : pm_eK (eX3_wordOf sk) 71 = some (.inr (.inl (some (sk 2)))) := rfl
theorem zX3_wordOf_K73 (sk : Nat → Nat) : pm_eK (eX3_wordOf sk) 73 = some (.inr (.inl (some (sk 3)))) := rfl
theorem zX3_wordOf_K75 (sk : Nat → Nat) : pm_eK (eX3_wordOf sk) 75 = some (.inr (.inl (some (sk 4)))) := rfl
theorem zX3_wordOf_K77 (sk : Nat → Nat) : pm_eK (eX3_wordOf sk) 77 = some (.inr (.inl (some (sk 5)))) := rfl
theorem zX3_wordOf_K79 (sk : Nat → Nat) : pm_eK (eX3_wordOf sk) 79 = some (.inr (.inl (some (sk 6)))) := rfl
def T_X3_wordOf (sk : Nat → Nat) : pm_T := pm_M (eX3_wordOf sk) 2
theorem Ct_X3_wordOf (l : Launch) (sk : Nat → Nat) : pm_Ct l sk yX3_wordOf cX3_wordOf 2 (some (.object "java/lang/String")) 1 (T_X3_wordOf sk) := pm_met (eX3_wordOf sk) (by decide) rfl rfl (fun _ => rfl) (fun _ => rfl) fX3_ok (pm_tabK (by
    intro q hq
    simp only [List.mem_cons, List.not_mem_nil, or_false] at hq
    rcases hq with rfl | rfl | rfl | rfl | rfl | rfl | rfl
    · dsimp only
      exact Or.inl ⟨0, rfl, by decide⟩
    · dsimp only
      exact Or.inl ⟨1, rfl, by decide⟩
    · dsimp only
      exact Or.inl ⟨2, rfl, by decide⟩
    · dsimp only
      exact Or.inl ⟨3, rfl, by decide⟩
    · dsimp only
      exact Or.inl ⟨4, rfl, by decide⟩
    · dsimp only
      exact Or.inl ⟨5, rfl, by decide⟩
    · dsimp only
      exact Or.inl ⟨6, rfl, by decide⟩)) (fun _ _ _ _ h => by cases h)
theorem ykX3_isWord : pm_YV yX3_isWord cX3_isWord 5 (some .boolean) := ⟨(pm_WS_mem 742 (by decide +kernel) rfl), (pm_WS_mem 129 (by decide +kernel) rfl), ⟨by decide +kernel, by decide +kernel⟩, (pm_WS_mem 741 (by decide +kernel) rfl), (pm_WS_mem 34 (by decide +kernel) rfl)⟩
def eX3_isWord (sk : Nat → Nat) : pm_E := (cX3_isWord, fX3, pm_as [(81, 1, some 9, pm_slen sk), (85, 2, some 9, pm_sat sk)], fun _ => none, fun _ => none, fun _ => none, some .boolean)
theorem zX3_isWord_B (sk : Nat → Nat) : pm_eB (eX3_isWord sk) = cX3_isWord := rfl
theorem zX3_isWord_F (sk : Nat → Nat) : pm_eF (eX3_isWord sk) = fX3 := rfl
theorem zX3_isWord_R (sk : Nat → Nat) : pm_eR (eX3_isWord sk) = some .boolean := rfl
theorem zX3_isWord_X (sk : Nat → Nat) (n : Nat) : pm_eX (eX3_isWord sk) n = none := rfl
theorem zX3_isWord_C81 (sk : Nat → Nat) : pm_eC (eX3_isWord sk) 81 = some (1, some 9, pm_slen sk) := rfl
theorem zX3_isWord_C85 (sk : Nat → Nat) : pm_eC (eX3_isWord sk) 85 = some (2, some 9, pm_sat sk) := rfl
def T_X3_isWord (sk : Nat → Nat) : pm_T := pm_M (eX3_isWord sk) 5
theorem Ct_X3_isWord (l : Launch) (sk : Nat → Nat) : pm_Ct l sk yX3_isWord cX3_isWord 5 (some .boolean) 7 (T_X3_isWord sk) := pm_met (eX3_isWord sk) (by decide) rfl rfl (fun _ => rfl) (fun _ => rfl) fX3_ok (fun _ _ h => by cases h) (pm_tabC (by
    intro q hq
    simp only [List.mem_cons, List.not_mem_nil, or_false] at hq
    rcases hq with rfl | rfl
    · dsimp only
      exact pm_slen_ok (by decide) (pm_WS_mem 743 (by decide +kernel) rfl)
    · dsimp only
      exact pm_sat_ok (by decide) (pm_WS_mem 753 (by decide +kernel) rfl)))
theorem ykX3_readWord : pm_YV yX3_readWord cX3_readWord 3 (some .int) := ⟨(pm_WS_mem 727 (by decide +kernel) rfl), (pm_WS_mem 129 (by decide +kernel) rfl), ⟨by decide +kernel, by decide +kernel⟩, (pm_WS_mem 726 (by decide +kernel) rfl), (pm_WS_mem 32 (by decide +kernel) rfl)⟩
def eX3_readWord (sk : Nat → Nat) : pm_E := (cX3_readWord, fX3, pm_as [(59, 2, some 3, T_X3_wordOf sk), (63, 4, some 3, T_X3_isWord sk), (37, 1, some 3, T_X3_skipBlanks)], fun _ => none, fun _ => none, fun _ => none, some .int)
theorem zX3_readWord_B (sk : Nat → Nat) : pm_eB (eX3_readWord sk) = cX3_readWord := rfl
theorem zX3_readWord_F (sk : Nat → Nat) : pm_eF (eX3_readWord sk) = fX3 := rfl
theorem zX3_readWord_R (sk : Nat → Nat) : pm_eR (eX3_readWord sk) = some .int := rfl
theorem zX3_readWord_X (sk : Nat → Nat) (n : Nat) : pm_eX (eX3_readWord sk) n = none := rfl
theorem zX3_readWord_C59 (sk : Nat → Nat) : pm_eC (eX3_readWord sk) 59 = some (2, some 3, T_X3_wordOf sk) := rfl
theorem zX3_readWord_C63 (sk : Nat → Nat) : pm_eC (eX3_readWord sk) 63 = some (4, some 3, T_X3_isWord sk) := rfl
theorem zX3_readWord_C37 (sk : Nat → Nat) : pm_eC (eX3_readWord sk) 37 = some (1, some 3, T_X3_skipBlanks) := rfl
def T_X3_readWord (sk : Nat → Nat) : pm_T := pm_M (eX3_readWord sk) 3
theorem Ct_X3_readWord (l : Launch) (sk : Nat → Nat) : pm_Ct l sk yX3_readWord cX3_readWord 3 (some .int) 8 (T_X3_readWord sk) := pm_met (eX3_readWord sk) (by decide) rfl rfl (fun _ => rfl) (fun _ => rfl) fX3_ok (fun _ _ h => by cases h) (pm_tabC (by
    intro q hq
    simp only [List.mem_cons, List.not_mem_nil, or_false] at hq
    rcases hq with rfl | rfl | rfl
    · dsimp only
      exact pm_cokV (i := 3) (Ct_X3_wordOf l sk) ykX3_wordOf (by decide) (by decide) rfl rfl (by decide) (by decide +kernel) (pm_WS_mem 728 (by decide +kernel) rfl)
    · dsimp only
      exact pm_cokV (i := 3) (Ct_X3_isWord l sk) ykX3_isWord (by decide) (by decide) rfl rfl (by decide) (by decide +kernel) (pm_WS_mem 739 (by decide +kernel) rfl)
    · dsimp only
      exact pm_cokV (i := 3) (Ct_X3_skipBlanks l sk) ykX3_skipBlanks (by decide) (by decide) rfl rfl (by decide) (by decide +kernel) (pm_WS_mem 712 (by decide +kernel) rfl)))
theorem ykX3_readAct : pm_YV yX3_readAct cX3_readAct 5 (some .boolean) := ⟨(pm_WS_mem 723 (by decide +kernel) rfl), (pm_WS_mem 129 (by decide +kernel) rfl), ⟨by decide +kernel, by decide +kernel⟩, (pm_WS_mem 721 (by decide +kernel) rfl), (pm_WS_mem 722 (by decide +kernel) rfl)⟩
def eX3_readAct (sk : Nat → Nat) : pm_E := (cX3_readAct, fX3, pm_as [(44, 1, some 3, T_X3_readWord sk), (40, 1, some 3, T_X3_operands), (47, 2, some 3, T_X3_readNumber), (51, 2, some 3, T_X3_takeSign)], fun _ => none, fun _ => none, fun _ => none, some .boolean)
theorem zX3_readAct_B (sk : Nat → Nat) : pm_eB (eX3_readAct sk) = cX3_readAct := rfl
theorem zX3_readAct_F (sk : Nat → Nat) : pm_eF (eX3_readAct sk) = fX3 := rfl
theorem zX3_readAct_R (sk : Nat → Nat) : pm_eR (eX3_readAct sk) = some .boolean := rfl
theorem zX3_readAct_X (sk : Nat → Nat) (n : Nat) : pm_eX (eX3_readAct sk) n = none := rfl
theorem zX3_readAct_C44 (sk : Nat → Nat) : pm_eC (eX3_readAct sk) 44 = some (1, some 3, T_X3_readWord sk) := rfl
theorem zX3_readAct_C40 (sk : Nat → Nat) : pm_eC (eX3_readAct sk) 40 = some (1, some 3, T_X3_operands) := rfl
theorem zX3_readAct_C47 (sk : Nat → Nat) : pm_eC (eX3_readAct sk) 47 = some (2, some 3, T_X3_readNumber) := rfl
theorem zX3_readAct_C51 (sk : Nat → Nat) : pm_eC (eX3_readAct sk) 51 = some (2, some 3, T_X3_takeSign) := rfl
def T_X3_readAct (sk : Nat → Nat) : pm_T := pm_M (eX3_readAct sk) 5
theorem Ct_X3_readAct (l : Launch) (sk : Nat → Nat) : pm_Ct l sk yX3_readAct cX3_readAct 5 (some .boolean) 9 (T_X3_readAct sk) := pm_met (eX3_readAct sk) (by decide) rfl rfl (fun _ => rfl) (fun _ => rfl) fX3_ok (fun _ _ h => by cases h) (pm_tabC (by
    intro q hq
    simp only [List.mem_cons, List.not_mem_nil, or_false] at hq
    rcases hq with rfl | rfl | rfl | rfl
    · dsimp only
      exact pm_cokV (i := 3) (Ct_X3_readWord l sk) ykX3_readWord (by decide) (by decide) rfl rfl (by decide) (by decide +kernel) (pm_WS_mem 724 (by decide +kernel) rfl)
    · dsimp only
      exact pm_cokV (i := 3) (Ct_X3_operands l sk) ykX3_operands (by decide) (by decide) rfl rfl (by decide) (by decide +kernel) (pm_WS_mem 791 (by decide +kernel) rfl)
    · dsimp only
      exact pm_cokV (i := 3) (Ct_X3_readNumber l sk) ykX3_readNumber (by decide) (by decide) rfl rfl (by decide) (by decide +kernel) (pm_WS_mem 795 (by decide +kernel) rfl)
    · dsimp only
      exact pm_cokV (i := 3) (Ct_X3_takeSign l sk) ykX3_takeSign (by decide) (by decide) rfl rfl (by decide) (by decide +kernel) (pm_WS_mem 804 (by decide +kernel) rfl)))
theorem ykX4_tellAside : pm_YV yX4_tellAside cX4_tellAside 6 (some .int) := ⟨(pm_WS_mem 707 (by decide +kernel) rfl), (pm_WS_mem 125 (by decide +kernel) rfl), ⟨by decide +kernel, by decide +kernel⟩, (pm_WS_mem 706 (by decide +kernel) rfl), (pm_WS_mem 30 (by decide +kernel) rfl)⟩
def eX4_tellAside (sk : Nat → Nat) : pm_E := (cX4_tellAside, fX4, pm_as [(76, 2, some 1, T_X1_copyFrom), (295, 1, some 3, T_X3_rewind), (298, 1, some 3, T_X3_atEnd), (305, 1, some 3, T_X3_readAct sk), (314, 3, some 3, T_X3_numberOf), (285, 4, some 1, T_X1_refusal), (292, 4, some 1, T_X1_perform), (317, 1, some 3, T_X3_readNext)], fun _ => none, fun _ => none, fun _ => none, some .int)
theorem zX4_tellAside_B (sk : Nat → Nat) : pm_eB (eX4_tellAside sk) = cX4_tellAside := rfl
theorem zX4_tellAside_F (sk : Nat → Nat) : pm_eF (eX4_tellAside sk) = fX4 := rfl
theorem zX4_tellAside_R (sk : Nat → Nat) : pm_eR (eX4_tellAside sk) = some .int := rfl
theorem zX4_tellAside_X (sk : Nat → Nat) (n : Nat) : pm_eX (eX4_tellAside sk) n = none := rfl
theorem zX4_tellAside_C76 (sk : Nat → Nat) : pm_eC (eX4_tellAside sk) 76 = some (2, some 1, T_X1_copyFrom) := rfl
theorem zX4_tellAside_C295 (sk : Nat → Nat) : pm_eC (eX4_tellAside sk) 295 = some (1, some 3, T_X3_rewind) := rfl
theorem zX4_tellAside_C298 (sk : Nat → Nat) : pm_eC (eX4_tellAside sk) 298 = some (1, some 3, T_X3_atEnd) := rfl
theorem zX4_tellAside_C305 (sk : Nat → Nat) : pm_eC (eX4_tellAside sk) 305 = some (1, some 3, T_X3_readAct sk) := rfl
theorem zX4_tellAside_C314 (sk : Nat → Nat) : pm_eC (eX4_tellAside sk) 314 = some (3, some 3, T_X3_numberOf) := rfl
theorem zX4_tellAside_C285 (sk : Nat → Nat) : pm_eC (eX4_tellAside sk) 285 = some (4, some 1, T_X1_refusal) := rfl
theorem zX4_tellAside_C292 (sk : Nat → Nat) : pm_eC (eX4_tellAside sk) 292 = some (4, some 1, T_X1_perform) := rfl
theorem zX4_tellAside_C317 (sk : Nat → Nat) : pm_eC (eX4_tellAside sk) 317 = some (1, some 3, T_X3_readNext) := rfl
def T_X4_tellAside (sk : Nat → Nat) : pm_T := pm_M (eX4_tellAside sk) 6
theorem Ct_X4_tellAside (l : Launch) (sk : Nat → Nat) : pm_Ct l sk yX4_tellAside cX4_tellAside 6 (some .int) 10 (T_X4_tellAside sk) := pm_met (eX4_tellAside sk) (by decide) rfl rfl (fun _ => rfl) (fun _ => rfl) fX4_ok (fun _ _ h => by cases h) (pm_tabC (by
    intro q hq
    simp only [List.mem_cons, List.not_mem_nil, or_false] at hq
    rcases hq with rfl | rfl | rfl | rfl | rfl | rfl | rfl | rfl
    · dsimp only
      exact pm_cokV (i := 1) (Ct_X1_copyFrom l sk) ykX1_copyFrom (by decide) (by decide) rfl rfl (by decide) (by decide +kernel) (pm_WS_mem 484 (by decide +kernel) rfl)
    · dsimp only
      exact pm_cokV (i := 3) (Ct_X3_rewind l sk) ykX3_rewind (by decide) (by decide) rfl rfl (by decide) (by decide +kernel) (pm_WS_mem 708 (by decide +kernel) rfl)
    · dsimp only
      exact pm_cokV (i := 3) (Ct_X3_atEnd l sk) ykX3_atEnd (by decide) (by decide) rfl rfl (by decide) (by decide +kernel) (pm_WS_mem 716 (by decide +kernel) rfl)
    · dsimp only
      exact pm_cokV (i := 3) (Ct_X3_readAct l sk) ykX3_readAct (by decide) (by decide) rfl rfl (by decide) (by decide +kernel) (pm_WS_mem 720 (by decide +kernel) rfl)
    · dsimp only
      exact pm_cokV (i := 3) (Ct_X3_numberOf l sk) ykX3_numberOf (by decide) (by decide) rfl rfl (by decide) (by decide +kernel) (pm_WS_mem 808 (by decide +kernel) rfl)
    · dsimp only
      exact pm_cokV (i := 1) (Ct_X1_refusal l sk) ykX1_refusal (by decide) (by decide) rfl rfl (by decide) (by decide +kernel) (pm_WS_mem 380 (by decide +kernel) rfl)
    · dsimp only
      exact pm_cokV (i := 1) (Ct_X1_perform l sk) ykX1_perform (by decide) (by decide) rfl rfl (by decide) (by decide +kernel) (pm_WS_mem 496 (by decide +kernel) rfl)
    · dsimp only
      exact pm_cokV (i := 3) (Ct_X3_readNext l sk) ykX3_readNext (by decide) (by decide) rfl rfl (by decide) (by decide +kernel) (pm_WS_mem 812 (by decide +kernel) rfl)))
theorem ykX5_has : pm_YV yX5_has cX5_has 4 (some .boolean) := ⟨(pm_WS_mem 1334 (by decide +kernel) rfl), (pm_WS_mem 130 (by decide +kernel) rfl), ⟨by decide +kernel, by decide +kernel⟩, (pm_WS_mem 1333 (by decide +kernel) rfl), (pm_WS_mem 54 (by decide +kernel) rfl)⟩
def eX5_has (sk : Nat → Nat) : pm_E := (cX5_has, fX5, pm_as [(184, 1, some 5, T_X5_here), (61, 3, none, T_X5_isIn), (187, 1, some 9, pm_slen sk), (192, 2, some 9, pm_sat sk)], fun _ => none, fun _ => none, fun _ => none, some .boolean)
theorem zX5_has_B (sk : Nat → Nat) : pm_eB (eX5_has sk) = cX5_has := rfl
theorem zX5_has_F (sk : Nat → Nat) : pm_eF (eX5_has sk) = fX5 := rfl
theorem zX5_has_R (sk : Nat → Nat) : pm_eR (eX5_has sk) = some .boolean := rfl
theorem zX5_has_X (sk : Nat → Nat) (n : Nat) : pm_eX (eX5_has sk) n = none := rfl
theorem zX5_has_C184 (sk : Nat → Nat) : pm_eC (eX5_has sk) 184 = some (1, some 5, T_X5_here) := rfl
theorem zX5_has_C61 (sk : Nat → Nat) : pm_eC (eX5_has sk) 61 = some (3, none, T_X5_isIn) := rfl
theorem zX5_has_C187 (sk : Nat → Nat) : pm_eC (eX5_has sk) 187 = some (1, some 9, pm_slen sk) := rfl
theorem zX5_has_C192 (sk : Nat → Nat) : pm_eC (eX5_has sk) 192 = some (2, some 9, pm_sat sk) := rfl
def T_X5_has (sk : Nat → Nat) : pm_T := pm_M (eX5_has sk) 4
theorem Ct_X5_has (l : Launch) (sk : Nat → Nat) : pm_Ct l sk yX5_has cX5_has 4 (some .boolean) 7 (T_X5_has sk) := pm_met (eX5_has sk) (by decide) rfl rfl (fun _ => rfl) (fun _ => rfl) fX5_ok (fun _ _ h => by cases h) (pm_tabC (by
    intro q hq
    simp only [List.mem_cons, List.not_mem_nil, or_false] at hq
    rcases hq with rfl | rfl | rfl | rfl
    · dsimp only
      exact pm_cokV (i := 5) (Ct_X5_here l sk) ykX5_here (by decide) (by decide) rfl rfl (by decide) (by decide +kernel) (pm_WS_mem 1318 (by decide +kernel) rfl)
    · dsimp only
      exact pm_cokS (Ct_X5_isIn l sk) ykX5_isIn (by decide) (by decide) (by decide +kernel) (Or.inl (pm_WS_mem 1303 (by decide +kernel) rfl))
    · dsimp only
      exact pm_slen_ok (by decide) (pm_WS_mem 1335 (by decide +kernel) rfl)
    · dsimp only
      exact pm_sat_ok (by decide) (pm_WS_mem 1336 (by decide +kernel) rfl)))
theorem ykX5_act : pm_YV yX5_act cX5_act 5 (some .int) := ⟨(pm_WS_mem 1329 (by decide +kernel) rfl), (pm_WS_mem 130 (by decide +kernel) rfl), ⟨by decide +kernel, by decide +kernel⟩, (pm_WS_mem 1328 (by decide +kernel) rfl), (pm_WS_mem 53 (by decide +kernel) rfl)⟩
def eX5_act (sk : Nat → Nat) : pm_E := (cX5_act, fX5, pm_as [(184, 1, some 5, T_X5_here), (218, 2, some 5, T_X5_has sk), (202, 3, some 5, T_X5_number), (54, 2, some 5, T_X5_nets), (224, 1, some 5, T_X5_layText), (229, 1, some 5, T_X5_liftText), (234, 3, some 5, T_X5_swap0), (239, 2, some 5, T_X5_fail0), (244, 3, some 5, T_X5_cost0), (249, 1, some 5, T_X5_tidy0), (196, 2, some 5, T_X5_wrong)], pm_as [(216, .inr (.inl (some (sk 0)))), (222, .inr (.inl (some (sk 1)))), (227, .inr (.inl (some (sk 2)))), (232, .inr (.inl (some (sk 3)))), (237, .inr (.inl (some (sk 4)))), (242, .inr (.inl (some (sk 6)))), (247, .inr (.inl (some (sk 5))))], fun _ => none, fun _ => none, some .int)
theorem zX5_act_B (sk : Nat → Nat) : pm_eB (eX5_act sk) = cX5_act := rfl
theorem zX5_act_F (sk : Nat → Nat) : pm_eF (eX5_act sk) = fX5 := rfl
theorem zX5_act_R (sk : Nat → Nat) : pm_eR (eX5_act sk) = some .int := rfl
theorem zX5_act_X (sk : Nat → Nat) (n : Nat) : pm_eX (eX5_act sk) n = none := rfl
theorem zX5_act_C184 (sk : Nat → Nat) : pm_eC (eX5_act sk) 184 = some (1, some 5, T_X5_here) := rfl
theorem zX5_act_C218 (sk : Nat → Nat) : pm_eC (eX5_act sk) 218 = some (2, some 5, T_X5_has sk) := rfl
theorem zX5_act_C202 (sk : Nat → Nat) : pm_eC (eX5_act sk) 202 = some (3, some 5, T_X5_number) := rfl
theorem zX5_act_C54 (sk : Nat → Nat) : pm_eC (eX5_act sk) 54 = some (2, some 5, T_X5_nets) := rfl
theorem zX5_act_C224 (sk : Nat → Nat) : pm_eC (eX5_act sk) 224 = some (1, some 5, T_X5_layText) := rfl
theorem zX5_act_C229 (sk : Nat → Nat) : pm_eC (eX5_act sk) 229 = some (1, some 5, T_X5_liftText) := rfl
theorem zX5_act_C234 (sk : Nat → Nat) : pm_eC (eX5_act sk) 234 = some (3, some 5, T_X5_swap0) := rfl
theorem zX5_act_C239 (sk : Nat → Nat) : pm_eC (eX5_act sk) 239 = some (2, some 5, T_X5_fail0) := rfl
theorem zX5_act_C244 (sk : Nat → Nat) : pm_eC (eX5_act sk) 244 = some (3, some 5, T_X5_cost0) := rfl
theorem zX5_act_C249 (sk : Nat → Nat) : pm_eC (eX5_act sk) 249 = some (1, some 5, T_X5_tidy0) := rfl
theorem zX5_act_C196 (sk : Nat → Nat) : pm_eC (eX5_act sk) 196 = some (2, some 5, T_X5_wrong) := rfl
theorem zX5_act_K216 (sk : Nat → Nat) : pm_eK (eX5_act sk) 216 = some (.inr (.inl (some (sk 0)))) := rfl
theorem zX5_act_K222 (sk : Nat → Nat) : pm_eK (eX5_act sk) 222 = some (.inr (.inl (some (sk 1)))) := rfl
theorem zX5_act_K227 (sk : Nat → Nat) : pm_eK (eX5_act sk) 227 = some (.inr (.inl (some (sk 2)))) := rfl
theorem zX5_act_K232 (sk : Nat → Nat) : pm_eK (eX5_act sk) 232 = some (.inr (.inl (some (sk 3)))) := rfl
theorem zX5_act_K237 (sk : Nat → Nat) : pm_eK (eX5_act sk) 237 = some (.inr (.inl (some (sk 4)))) := rfl
theorem zX5_act_K242 (sk : Nat → Nat) : pm_eK (eX5_act sk) 242 = some (.inr (.inl (some (sk 6)))) := rfl
theorem zX5_act_K247 (sk : Nat → Nat) : pm_eK (eX5_act sk) 247 = some (.inr (.inl (some (sk 5)))) := rfl
def T_X5_act (sk : Nat → Nat) : pm_T := pm_M (eX5_act sk) 5
theorem Ct_X5_act (l : Launch) (sk : Nat → Nat) : pm_Ct l sk yX5_act cX5_act 5 (some .int) 8 (T_X5_act sk) := pm_met (eX5_act sk) (by decide) rfl rfl (fun _ => rfl) (fun _ => rfl) fX5_ok (pm_tabK (by
    intro q hq
    simp only [List.mem_cons, List.not_mem_nil, or_false] at hq
    rcases hq with rfl | rfl | rfl | rfl | rfl | rfl | rfl
    · dsimp only
      exact Or.inl ⟨0, rfl, by decide⟩
    · dsimp only
      exact Or.inl ⟨1, rfl, by decide⟩
    · dsimp only
      exact Or.inl ⟨2, rfl, by decide⟩
    · dsimp only
      exact Or.inl ⟨3, rfl, by decide⟩
    · dsimp only
      exact Or.inl ⟨4, rfl, by decide⟩
    · dsimp only
      exact Or.inl ⟨6, rfl, by decide⟩
    · dsimp only
      exact Or.inl ⟨5, rfl, by decide⟩)) (pm_tabC (by
    intro q hq
    simp only [List.mem_cons, List.not_mem_nil, or_false] at hq
    rcases hq with rfl | rfl | rfl | rfl | rfl | rfl | rfl | rfl | rfl | rfl | rfl
    · dsimp only
      exact pm_cokV (i := 5) (Ct_X5_here l sk) ykX5_here (by decide) (by decide) rfl rfl (by decide) (by decide +kernel) (pm_WS_mem 1318 (by decide +kernel) rfl)
    · dsimp only
      exact pm_cokV (i := 5) (Ct_X5_has l sk) ykX5_has (by decide) (by decide) rfl rfl (by decide) (by decide +kernel) (pm_WS_mem 1331 (by decide +kernel) rfl)
    · dsimp only
      exact pm_cokV (i := 5) (Ct_X5_number l sk) ykX5_number (by decide) (by decide) rfl rfl (by decide) (by decide +kernel) (pm_WS_mem 1337 (by decide +kernel) rfl)
    · dsimp only
      exact pm_cokV (i := 5) (Ct_X5_nets l sk) ykX5_nets (by decide) (by decide) rfl rfl (by decide) (by decide +kernel) (pm_WS_mem 1201 (by decide +kernel) rfl)
    · dsimp only
      exact pm_cokV (i := 5) (Ct_X5_layText l sk) ykX5_layText (by decide) (by decide) rfl rfl (by decide) (by decide +kernel) (pm_WS_mem 1342 (by decide +kernel) rfl)
    · dsimp only
      exact pm_cokV (i := 5) (Ct_X5_liftText l sk) ykX5_liftText (by decide) (by decide) rfl rfl (by decide) (by decide +kernel) (pm_WS_mem 1413 (by decide +kernel) rfl)
    · dsimp only
      exact pm_cokV (i := 5) (Ct_X5_swap0 l sk) ykX5_swap0 (by decide) (by decide) rfl rfl (by decide) (by decide +kernel) (pm_WS_mem 1457 (by decide +kernel) rfl)
    · dsimp only
      exact pm_cokV (i := 5) (Ct_X5_fail0 l sk) ykX5_fail0 (by decide) (by decide) rfl rfl (by decide) (by decide +kernel) (pm_WS_mem 1470 (by decide +kernel) rfl)
    · dsimp only
      exact pm_cokV (i := 5) (Ct_X5_cost0 l sk) ykX5_cost0 (by decide) (by decide) rfl rfl (by decide) (by decide +kernel) (pm_WS_mem 1475 (by decide +kernel) rfl)
    · dsimp only
      exact pm_cokV (i := 5) (Ct_X5_tidy0 l sk) ykX5_tidy0 (by decide) (by decide) rfl rfl (by decide) (by decide +kernel) (pm_WS_mem 1480 (by decide +kernel) rfl)
    · dsimp only
      exact pm_cokV (i := 5) (Ct_X5_wrong l sk) ykX5_wrong (by decide) (by decide) rfl rfl (by decide) (by decide +kernel) (pm_WS_mem 1322 (by decide +kernel) rfl)))
theorem ykX5_readsActs : pm_YV yX5_readsActs cX5_readsActs 4 (some .int) := ⟨(pm_WS_mem 1313 (by decide +kernel) rfl), (pm_WS_mem 130 (by decide +kernel) rfl), ⟨by decide +kernel, by decide +kernel⟩, (pm_WS_mem 1312 (by decide +kernel) rfl), (pm_WS_mem 49 (by decide +kernel) rfl)⟩
def eX5_readsActs (sk : Nat → Nat) : pm_E := (cX5_readsActs, fX5, pm_as [(252, 1, some 5, T_X5_putsAside), (184, 1, some 5, T_X5_here), (196, 2, some 5, T_X5_wrong), (255, 1, some 5, T_X5_act sk)], fun _ => none, fun _ => none, fun _ => none, some .int)
theorem zX5_readsActs_B (sk : Nat → Nat) : pm_eB (eX5_readsActs sk) = cX5_readsActs := rfl
theorem zX5_readsActs_F (sk : Nat → Nat) : pm_eF (eX5_readsActs sk) = fX5 := rfl
theorem zX5_readsActs_R (sk : Nat → Nat) : pm_eR (eX5_readsActs sk) = some .int := rfl
theorem zX5_readsActs_X (sk : Nat → Nat) (n : Nat) : pm_eX (eX5_readsActs sk) n = none := rfl
theorem zX5_readsActs_C252 (sk : Nat → Nat) : pm_eC (eX5_readsActs sk) 252 = some (1, some 5, T_X5_putsAside) := rfl
theorem zX5_readsActs_C184 (sk : Nat → Nat) : pm_eC (eX5_readsActs sk) 184 = some (1, some 5, T_X5_here) := rfl
theorem zX5_readsActs_C196 (sk : Nat → Nat) : pm_eC (eX5_readsActs sk) 196 = some (2, some 5, T_X5_wrong) := rfl
theorem zX5_readsActs_C255 (sk : Nat → Nat) : pm_eC (eX5_readsActs sk) 255 = some (1, some 5, T_X5_act sk) := rfl
def T_X5_readsActs (sk : Nat → Nat) : pm_T := pm_M (eX5_readsActs sk) 4
theorem Ct_X5_readsActs (l : Launch) (sk : Nat → Nat) : pm_Ct l sk yX5_readsActs cX5_readsActs 4 (some .int) 9 (T_X5_readsActs sk) := pm_met (eX5_readsActs sk) (by decide) rfl rfl (fun _ => rfl) (fun _ => rfl) fX5_ok (fun _ _ h => by cases h) (pm_tabC (by
    intro q hq
    simp only [List.mem_cons, List.not_mem_nil, or_false] at hq
    rcases hq with rfl | rfl | rfl | rfl
    · dsimp only
      exact pm_cokV (i := 5) (Ct_X5_putsAside l sk) ykX5_putsAside (by decide) (by decide) rfl rfl (by decide) (by decide +kernel) (pm_WS_mem 1314 (by decide +kernel) rfl)
    · dsimp only
      exact pm_cokV (i := 5) (Ct_X5_here l sk) ykX5_here (by decide) (by decide) rfl rfl (by decide) (by decide +kernel) (pm_WS_mem 1318 (by decide +kernel) rfl)
    · dsimp only
      exact pm_cokV (i := 5) (Ct_X5_wrong l sk) ykX5_wrong (by decide) (by decide) rfl rfl (by decide) (by decide +kernel) (pm_WS_mem 1322 (by decide +kernel) rfl)
    · dsimp only
      exact pm_cokV (i := 5) (Ct_X5_act l sk) ykX5_act (by decide) (by decide) rfl rfl (by decide) (by decide +kernel) (pm_WS_mem 1326 (by decide +kernel) rfl)))
theorem ykX5_acts : pm_YV yX5_acts cX5_acts 2 (some .int) := ⟨(pm_WS_mem 1309 (by decide +kernel) rfl), (pm_WS_mem 130 (by decide +kernel) rfl), ⟨by decide +kernel, by decide +kernel⟩, (pm_WS_mem 1307 (by decide +kernel) rfl), (pm_WS_mem 1308 (by decide +kernel) rfl)⟩
def eX5_acts (sk : Nat → Nat) : pm_E := (cX5_acts, fX5, pm_as [(258, 1, some 5, T_X5_readsActs sk), (261, 1, some 5, T_X5_putsBack)], fun _ => none, fun _ => none, fun _ => none, some .int)
theorem zX5_acts_B (sk : Nat → Nat) : pm_eB (eX5_acts sk) = cX5_acts := rfl
theorem zX5_acts_F (sk : Nat → Nat) : pm_eF (eX5_acts sk) = fX5 := rfl
theorem zX5_acts_R (sk : Nat → Nat) : pm_eR (eX5_acts sk) = some .int := rfl
theorem zX5_acts_X (sk : Nat → Nat) (n : Nat) : pm_eX (eX5_acts sk) n = none := rfl
theorem zX5_acts_C258 (sk : Nat → Nat) : pm_eC (eX5_acts sk) 258 = some (1, some 5, T_X5_readsActs sk) := rfl
theorem zX5_acts_C261 (sk : Nat → Nat) : pm_eC (eX5_acts sk) 261 = some (1, some 5, T_X5_putsBack) := rfl
def T_X5_acts (sk : Nat → Nat) : pm_T := pm_M (eX5_acts sk) 2
theorem Ct_X5_acts (l : Launch) (sk : Nat → Nat) : pm_Ct l sk yX5_acts cX5_acts 2 (some .int) 10 (T_X5_acts sk) := pm_met (eX5_acts sk) (by decide) rfl rfl (fun _ => rfl) (fun _ => rfl) fX5_ok (fun _ _ h => by cases h) (pm_tabC (by
    intro q hq
    simp only [List.mem_cons, List.not_mem_nil, or_false] at hq
    rcases hq with rfl | rfl
    · dsimp only
      exact pm_cokV (i := 5) (Ct_X5_readsActs l sk) ykX5_readsActs (by decide) (by decide) rfl rfl (by decide) (by decide +kernel) (pm_WS_mem 1310 (by decide +kernel) rfl)
    · dsimp only
      exact pm_cokV (i := 5) (Ct_X5_putsBack l sk) ykX5_putsBack (by decide) (by decide) rfl rfl (by decide) (by decide +kernel) (pm_WS_mem 1484 (by decide +kernel) rfl)))
theorem ykX5_tries : pm_YV yX5_tries cX5_tries 4 (some .int) := ⟨(pm_WS_mem 1491 (by decide +kernel) rfl), (pm_WS_mem 130 (by decide +kernel) rfl), ⟨by decide +kernel, by decide +kernel⟩, (pm_WS_mem 1489 (by decide +kernel) rfl), (pm_WS_mem 1490 (by decide +kernel) rfl)⟩
def eX5_tries (sk : Nat → Nat) : pm_E := (cX5_tries, fX5, pm_as [(258, 1, some 5, T_X5_readsActs sk), (264, 2, some 5, T_X5_treesOn), (261, 1, some 5, T_X5_putsBack)], fun _ => none, fun _ => none, fun _ => none, some .int)
theorem zX5_tries_B (sk : Nat → Nat) : pm_eB (eX5_tries sk) = cX5_tries := rfl
theorem zX5_tries_F (sk : Nat → Nat) : pm_eF (eX5_tries sk) = fX5 := rfl
theorem zX5_tries_R (sk : Nat → Nat) : pm_eR (eX5_tries sk) = some .int := rfl
theorem zX5_tries_X (sk : Nat → Nat) (n : Nat) : pm_eX (eX5_tries sk) n = none := rfl
theorem zX5_tries_C258 (sk : Nat → Nat) : pm_eC (eX5_tries sk) 258 = some (1, some 5, T_X5_readsActs sk) := rfl
theorem zX5_tries_C264 (sk : Nat → Nat) : pm_eC (eX5_tries sk) 264 = some (2, some 5, T_X5_treesOn) := rfl
theorem zX5_tries_C261 (sk : Nat → Nat) : pm_eC (eX5_tries sk) 261 = some (1, some 5, T_X5_putsBack) := rfl
def T_X5_tries (sk : Nat → Nat) : pm_T := pm_M (eX5_tries sk) 4
theorem Ct_X5_tries (l : Launch) (sk : Nat → Nat) : pm_Ct l sk yX5_tries cX5_tries 4 (some .int) 10 (T_X5_tries sk) := pm_met (eX5_tries sk) (by decide) rfl rfl (fun _ => rfl) (fun _ => rfl) fX5_ok (fun _ _ h => by cases h) (pm_tabC (by
    intro q hq
    simp only [List.mem_cons, List.not_mem_nil, or_false] at hq
    rcases hq with rfl | rfl | rfl
    · dsimp only
      exact pm_cokV (i := 5) (Ct_X5_readsActs l sk) ykX5_readsActs (by decide) (by decide) rfl rfl (by decide) (by decide +kernel) (pm_WS_mem 1310 (by decide +kernel) rfl)
    · dsimp only
      exact pm_cokV (i := 5) (Ct_X5_treesOn l sk) ykX5_treesOn (by decide) (by decide) rfl rfl (by decide) (by decide +kernel) (pm_WS_mem 1492 (by decide +kernel) rfl)
    · dsimp only
      exact pm_cokV (i := 5) (Ct_X5_putsBack l sk) ykX5_putsBack (by decide) (by decide) rfl rfl (by decide) (by decide +kernel) (pm_WS_mem 1484 (by decide +kernel) rfl)))
