theorem ykX5_tidy0 : pm_YV yX5_tidy0 cX5_tidy0 4 (some .int) := ⟨(pm_WS_mem 1483 (by decide +kernel) rfl), (pm_WS_mem 130 (by decide +kernel) rfl), ⟨by decide +kernel, by decide +kernel⟩, (pm_WS_mem 1482 (by decide +kernel) rfl), (pm_WS_mem 87 (by decide +kernel) rfl)⟩
def eX5_tidy0 : pm_E := (cX5_tidy0, fX5, pm_as [(73, 1, some 5, T_X5_singles), (142, 2, some 5, T_X5_isThere), (69, 3, some 5, T_X5_of), (98, 4, some 5, T_X5_areOne), (108, 4, some 5, T_X5_sets), (123, 3, some 5, T_X5_joins)], fun _ => none, fun _ => none, fun _ => none, some .int)
theorem zX5_tidy0_B : pm_eB eX5_tidy0 = cX5_tidy0 := rfl
theorem zX5_tidy0_F : pm_eF eX5_tidy0 = fX5 := rfl
theorem zX5_tidy0_R : pm_eR eX5_tidy0 = some .int := rfl
theorem zX5_tidy0_X (n : Nat) : pm_eX eX5_tidy0 n = none := rfl
theorem zX5_tidy0_C73 : pm_eC eX5_tidy0 73 = some (1, some 5, T_X5_singles) := rfl
theorem zX5_tidy0_C142 : pm_eC eX5_tidy0 142 = some (2, some 5, T_X5_isThere) := rfl
theorem zX5_tidy0_C69 : pm_eC eX5_tidy0 69 = some (3, some 5, T_X5_of) := rfl
theorem zX5_tidy0_C98 : pm_eC eX5_tidy0 98 = some (4, some 5, T_X5_areOne) := rfl
theorem zX5_tidy0_C108 : pm_eC eX5_tidy0 108 = some (4, some 5, T_X5_sets) := rfl
theorem zX5_tidy0_C123 : pm_eC eX5_tidy0 123 = some (3, some 5, T_X5_joins) := rfl
def T_X5_tidy0 : pm_T := pm_M eX5_tidy0 4
theorem Ct_X5_tidy0 (l : Launch) (sk : Nat → Nat) : pm_Ct l sk yX5_tidy0 cX5_tidy0 4 (some .int) 4 (T_X5_tidy0) := pm_met eX5_tidy0 (by decide) rfl rfl (fun _ => rfl) (fun _ => rfl) fX5_ok (fun _ _ h => by cases h) (pm_tabC (by
    intro q hq
    simp only [List.mem_cons, List.not_mem_nil, or_false] at hq
    rcases hq with rfl | rfl | rfl | rfl | rfl | rfl
    · exact pm_cokV (i := 5) (Ct_X5_singles l sk) ykX5_singles (by decide) (by decide) rfl rfl (by decide) (by decide +kernel) (pm_WS_mem 1205 (by decide +kernel) rfl)
    · exact pm_cokV (i := 5) (Ct_X5_isThere l sk) ykX5_isThere (by decide) (by decide) rfl rfl (by decide) (by decide +kernel) (pm_WS_mem 1421 (by decide +kernel) rfl)
    · exact pm_cokV (i := 5) (Ct_X5_of l sk) ykX5_of (by decide) (by decide) rfl rfl (by decide) (by decide +kernel) (pm_WS_mem 1374 (by decide +kernel) rfl)
    · exact pm_cokV (i := 5) (Ct_X5_areOne l sk) ykX5_areOne (by decide) (by decide) rfl rfl (by decide) (by decide +kernel) (pm_WS_mem 1366 (by decide +kernel) rfl)
    · exact pm_cokV (i := 5) (Ct_X5_sets l sk) ykX5_sets (by decide) (by decide) rfl rfl (by decide) (by decide +kernel) (pm_WS_mem 1362 (by decide +kernel) rfl)
    · exact pm_cokV (i := 5) (Ct_X5_joins l sk) ykX5_joins (by decide) (by decide) rfl rfl (by decide) (by decide +kernel) (pm_WS_mem 1389 (by decide +kernel) rfl)))
theorem ykX5_putsAside : pm_YV yX5_putsAside cX5_putsAside 2 (none) := ⟨(pm_WS_mem 1317 (by decide +kernel) rfl), (pm_WS_mem 130 (by decide +kernel) rfl), ⟨by decide +kernel, by decide +kernel⟩, (pm_WS_mem 1316 (by decide +kernel) rfl), (pm_WS_mem 50 (by decide +kernel) rfl)⟩
def eX5_putsAside : pm_E := (cX5_putsAside, fX5, fun _ => none, fun _ => none, fun _ => none, fun _ => none, none)
theorem zX5_putsAside_B : pm_eB eX5_putsAside = cX5_putsAside := rfl
theorem zX5_putsAside_F : pm_eF eX5_putsAside = fX5 := rfl
theorem zX5_putsAside_R : pm_eR eX5_putsAside = none := rfl
theorem zX5_putsAside_X (n : Nat) : pm_eX eX5_putsAside n = none := rfl
def T_X5_putsAside : pm_T := pm_M eX5_putsAside 2
theorem Ct_X5_putsAside (l : Launch) (sk : Nat → Nat) : pm_Ct l sk yX5_putsAside cX5_putsAside 2 (none) 1 (T_X5_putsAside) := pm_met eX5_putsAside (by decide) rfl rfl (fun _ => rfl) (fun _ => rfl) fX5_ok (fun _ _ h => by cases h) (fun _ _ _ _ h => by cases h)
theorem ykX5_remembers : pm_YV yX5_remembers cX5_remembers 2 (none) := ⟨(pm_WS_mem 1519 (by decide +kernel) rfl), (pm_WS_mem 130 (by decide +kernel) rfl), ⟨by decide +kernel, by decide +kernel⟩, (pm_WS_mem 1518 (by decide +kernel) rfl), (pm_WS_mem 91 (by decide +kernel) rfl)⟩
def eX5_remembers : pm_E := (cX5_remembers, fX5, fun _ => none, fun _ => none, fun _ => none, fun _ => none, none)
theorem zX5_remembers_B : pm_eB eX5_remembers = cX5_remembers := rfl
theorem zX5_remembers_F : pm_eF eX5_remembers = fX5 := rfl
theorem zX5_remembers_R : pm_eR eX5_remembers = none := rfl
theorem zX5_remembers_X (n : Nat) : pm_eX eX5_remembers n = none := rfl
def T_X5_remembers : pm_T := pm_M eX5_remembers 2
theorem Ct_X5_remembers (l : Launch) (sk : Nat → Nat) : pm_Ct l sk yX5_remembers cX5_remembers 2 (none) 1 (T_X5_remembers) := pm_met eX5_remembers (by decide) rfl rfl (fun _ => rfl) (fun _ => rfl) fX5_ok (fun _ _ h => by cases h) (fun _ _ _ _ h => by cases h)
theorem ykX5_isDone : pm_YV yX5_isDone cX5_isDone 2 (some .boolean) := ⟨(pm_WS_mem 1515 (by decide +kernel) rfl), (pm_WS_mem 130 (by decide +kernel) rfl), ⟨by decide +kernel, by decide +kernel⟩, (pm_WS_mem 1514 (by decide +kernel) rfl), (pm_WS_mem 90 (by decide +kernel) rfl)⟩
def eX5_isDone : pm_E := (cX5_isDone, fX5, pm_as [(172, 1, some 5, T_X5_remembers)], fun _ => none, fun _ => none, fun _ => none, some .boolean)
theorem zX5_isDone_B : pm_eB eX5_isDone = cX5_isDone := rfl
theorem zX5_isDone_F : pm_eF eX5_isDone = fX5 := rfl
theorem zX5_isDone_R : pm_eR eX5_isDone = some .boolean := rfl
theorem zX5_isDone_X (n : Nat) : pm_eX eX5_isDone n = none := rfl
theorem zX5_isDone_C172 : pm_eC eX5_isDone 172 = some (1, some 5, T_X5_remembers) := rfl
def T_X5_isDone : pm_T := pm_M eX5_isDone 2
theorem Ct_X5_isDone (l : Launch) (sk : Nat → Nat) : pm_Ct l sk yX5_isDone cX5_isDone 2 (some .boolean) 2 (T_X5_isDone) := pm_met eX5_isDone (by decide) rfl rfl (fun _ => rfl) (fun _ => rfl) fX5_ok (fun _ _ h => by cases h) (pm_tabC (by
    intro q hq
    simp only [List.mem_cons, List.not_mem_nil, or_false] at hq
    rcases hq with rfl
    · exact pm_cokV (i := 5) (Ct_X5_remembers l sk) ykX5_remembers (by decide) (by decide) rfl rfl (by decide) (by decide +kernel) (pm_WS_mem 1516 (by decide +kernel) rfl)))
theorem ykX5_feed : pm_YV yX5_feed cX5_feed 8 (some .int) := ⟨(pm_WS_mem 1298 (by decide +kernel) rfl), (pm_WS_mem 130 (by decide +kernel) rfl), ⟨by decide +kernel, by decide +kernel⟩, (pm_WS_mem 1296 (by decide +kernel) rfl), (pm_WS_mem 1297 (by decide +kernel) rfl)⟩
def eX5_feed : pm_E := (cX5_feed, fX5, fun _ => none, fun _ => none, fun _ => none, fun _ => none, some .int)
theorem zX5_feed_B : pm_eB eX5_feed = cX5_feed := rfl
theorem zX5_feed_F : pm_eF eX5_feed = fX5 := rfl
theorem zX5_feed_R : pm_eR eX5_feed = some .int := rfl
theorem zX5_feed_X (n : Nat) : pm_eX eX5_feed n = none := rfl
def T_X5_feed : pm_T := pm_M eX5_feed 8
theorem Ct_X5_feed (l : Launch) (sk : Nat → Nat) : pm_Ct l sk yX5_feed cX5_feed 8 (some .int) 1 (T_X5_feed) := pm_met eX5_feed (by decide) rfl rfl (fun _ => rfl) (fun _ => rfl) fX5_ok (fun _ _ h => by cases h) (fun _ _ _ _ h => by cases h)
theorem ykX5_end : pm_YV yX5_end cX5_end 2 (some .boolean) := ⟨(pm_WS_mem 1302 (by decide +kernel) rfl), (pm_WS_mem 130 (by decide +kernel) rfl), ⟨by decide +kernel, by decide +kernel⟩, (pm_WS_mem 1300 (by decide +kernel) rfl), (pm_WS_mem 1301 (by decide +kernel) rfl)⟩
def eX5_end : pm_E := (cX5_end, fX5, pm_as [(61, 3, none, T_X5_isIn)], fun _ => none, fun _ => none, fun _ => none, some .boolean)
theorem zX5_end_B : pm_eB eX5_end = cX5_end := rfl
theorem zX5_end_F : pm_eF eX5_end = fX5 := rfl
theorem zX5_end_R : pm_eR eX5_end = some .boolean := rfl
theorem zX5_end_X (n : Nat) : pm_eX eX5_end n = none := rfl
theorem zX5_end_C61 : pm_eC eX5_end 61 = some (3, none, T_X5_isIn) := rfl
def T_X5_end : pm_T := pm_M eX5_end 2
theorem Ct_X5_end (l : Launch) (sk : Nat → Nat) : pm_Ct l sk yX5_end cX5_end 2 (some .boolean) 2 (T_X5_end) := pm_met eX5_end (by decide) rfl rfl (fun _ => rfl) (fun _ => rfl) fX5_ok (fun _ _ h => by cases h) (pm_tabC (by
    intro q hq
    simp only [List.mem_cons, List.not_mem_nil, or_false] at hq
    rcases hq with rfl
    · exact pm_cokS (Ct_X5_isIn l sk) ykX5_isIn (by decide) (by decide) (by decide +kernel) (Or.inl (pm_WS_mem 1303 (by decide +kernel) rfl))))
theorem ykX5_here : pm_YV yX5_here cX5_here 1 (some .int) := ⟨(pm_WS_mem 1321 (by decide +kernel) rfl), (pm_WS_mem 130 (by decide +kernel) rfl), ⟨by decide +kernel, by decide +kernel⟩, (pm_WS_mem 1320 (by decide +kernel) rfl), (pm_WS_mem 51 (by decide +kernel) rfl)⟩
def eX5_here : pm_E := (cX5_here, fX5, fun _ => none, fun _ => none, fun _ => none, fun _ => none, some .int)
theorem zX5_here_B : pm_eB eX5_here = cX5_here := rfl
theorem zX5_here_F : pm_eF eX5_here = fX5 := rfl
theorem zX5_here_R : pm_eR eX5_here = some .int := rfl
theorem zX5_here_X (n : Nat) : pm_eX eX5_here n = none := rfl
def T_X5_here : pm_T := pm_M eX5_here 1
theorem Ct_X5_here (l : Launch) (sk : Nat → Nat) : pm_Ct l sk yX5_here cX5_here 1 (some .int) 1 (T_X5_here) := pm_met eX5_here (by decide) rfl rfl (fun _ => rfl) (fun _ => rfl) fX5_ok (fun _ _ h => by cases h) (fun _ _ _ _ h => by cases h)
theorem ykX5_wrong : pm_YV yX5_wrong cX5_wrong 2 (none) := ⟨(pm_WS_mem 1325 (by decide +kernel) rfl), (pm_WS_mem 130 (by decide +kernel) rfl), ⟨by decide +kernel, by decide +kernel⟩, (pm_WS_mem 1324 (by decide +kernel) rfl), (pm_WS_mem 52 (by decide +kernel) rfl)⟩
def eX5_wrong : pm_E := (cX5_wrong, fX5, fun _ => none, fun _ => none, fun _ => none, fun _ => none, none)
theorem zX5_wrong_B : pm_eB eX5_wrong = cX5_wrong := rfl
theorem zX5_wrong_F : pm_eF eX5_wrong = fX5 := rfl
theorem zX5_wrong_R : pm_eR eX5_wrong = none := rfl
theorem zX5_wrong_X (n : Nat) : pm_eX eX5_wrong n = none := rfl
def T_X5_wrong : pm_T := pm_M eX5_wrong 2
theorem Ct_X5_wrong (l : Launch) (sk : Nat → Nat) : pm_Ct l sk yX5_wrong cX5_wrong 2 (none) 1 (T_X5_wrong) := pm_met eX5_wrong (by decide) rfl rfl (fun _ => rfl) (fun _ => rfl) fX5_ok (fun _ _ h => by cases h) (fun _ _ _ _ h => by cases h)
theorem ykX5_number : pm_YV yX5_number cX5_number 5 (some .int) := ⟨(pm_WS_mem 1340 (by decide +kernel) rfl), (pm_WS_mem 130 (by decide +kernel) rfl), ⟨by decide +kernel, by decide +kernel⟩, (pm_WS_mem 1339 (by decide +kernel) rfl), (pm_WS_mem 55 (by decide +kernel) rfl)⟩
def eX5_number : pm_E := (cX5_number, fX5, pm_as [(184, 1, some 5, T_X5_here), (61, 3, none, T_X5_isIn), (196, 2, some 5, T_X5_wrong)], fun _ => none, fun _ => none, fun _ => none, some .int)
theorem zX5_number_B : pm_eB eX5_number = cX5_number := rfl
theorem zX5_number_F : pm_eF eX5_number = fX5 := rfl
theorem zX5_number_R : pm_eR eX5_number = some .int := rfl
theorem zX5_number_X (n : Nat) : pm_eX eX5_number n = none := rfl
theorem zX5_number_C184 : pm_eC eX5_number 184 = some (1, some 5, T_X5_here) := rfl
theorem zX5_number_C61 : pm_eC eX5_number 61 = some (3, none, T_X5_isIn) := rfl
theorem zX5_number_C196 : pm_eC eX5_number 196 = some (2, some 5, T_X5_wrong) := rfl
def T_X5_number : pm_T := pm_M eX5_number 5
theorem Ct_X5_number (l : Launch) (sk : Nat → Nat) : pm_Ct l sk yX5_number cX5_number 5 (some .int) 2 (T_X5_number) := pm_met eX5_number (by decide) rfl rfl (fun _ => rfl) (fun _ => rfl) fX5_ok (fun _ _ h => by cases h) (pm_tabC (by
    intro q hq
    simp only [List.mem_cons, List.not_mem_nil, or_false] at hq
    rcases hq with rfl | rfl | rfl
    · exact pm_cokV (i := 5) (Ct_X5_here l sk) ykX5_here (by decide) (by decide) rfl rfl (by decide) (by decide +kernel) (pm_WS_mem 1318 (by decide +kernel) rfl)
    · exact pm_cokS (Ct_X5_isIn l sk) ykX5_isIn (by decide) (by decide) (by decide +kernel) (Or.inl (pm_WS_mem 1303 (by decide +kernel) rfl))
    · exact pm_cokV (i := 5) (Ct_X5_wrong l sk) ykX5_wrong (by decide) (by decide) rfl rfl (by decide) (by decide +kernel) (pm_WS_mem 1322 (by decide +kernel) rfl)))
theorem ykX5_passesComma : pm_YV yX5_passesComma cX5_passesComma 1 (some .boolean) := ⟨(pm_WS_mem 1353 (by decide +kernel) rfl), (pm_WS_mem 130 (by decide +kernel) rfl), ⟨by decide +kernel, by decide +kernel⟩, (pm_WS_mem 1352 (by decide +kernel) rfl), (pm_WS_mem 58 (by decide +kernel) rfl)⟩
def eX5_passesComma : pm_E := (cX5_passesComma, fX5, pm_as [(184, 1, some 5, T_X5_here)], fun _ => none, fun _ => none, fun _ => none, some .boolean)
theorem zX5_passesComma_B : pm_eB eX5_passesComma = cX5_passesComma := rfl
theorem zX5_passesComma_F : pm_eF eX5_passesComma = fX5 := rfl
theorem zX5_passesComma_R : pm_eR eX5_passesComma = some .boolean := rfl
theorem zX5_passesComma_X (n : Nat) : pm_eX eX5_passesComma n = none := rfl
theorem zX5_passesComma_C184 : pm_eC eX5_passesComma 184 = some (1, some 5, T_X5_here) := rfl
def T_X5_passesComma : pm_T := pm_M eX5_passesComma 1
theorem Ct_X5_passesComma (l : Launch) (sk : Nat → Nat) : pm_Ct l sk yX5_passesComma cX5_passesComma 1 (some .boolean) 2 (T_X5_passesComma) := pm_met eX5_passesComma (by decide) rfl rfl (fun _ => rfl) (fun _ => rfl) fX5_ok (fun _ _ h => by cases h) (pm_tabC (by
    intro q hq
    simp only [List.mem_cons, List.not_mem_nil, or_false] at hq
    rcases hq with rfl
    · exact pm_cokV (i := 5) (Ct_X5_here l sk) ykX5_here (by decide) (by decide) rfl rfl (by decide) (by decide +kernel) (pm_WS_mem 1318 (by decide +kernel) rfl)))
theorem ykX5_reads : pm_YV yX5_reads cX5_reads 3 (none) := ⟨(pm_WS_mem 1349 (by decide +kernel) rfl), (pm_WS_mem 130 (by decide +kernel) rfl), ⟨by decide +kernel, by decide +kernel⟩, (pm_WS_mem 1348 (by decide +kernel) rfl), (pm_WS_mem 57 (by decide +kernel) rfl)⟩
def eX5_reads : pm_E := (cX5_reads, fX5, pm_as [(202, 3, some 5, T_X5_number), (205, 1, some 5, T_X5_passesComma)], fun _ => none, fun _ => none, fun _ => none, none)
theorem zX5_reads_B : pm_eB eX5_reads = cX5_reads := rfl
theorem zX5_reads_F : pm_eF eX5_reads = fX5 := rfl
theorem zX5_reads_R : pm_eR eX5_reads = none := rfl
theorem zX5_reads_X (n : Nat) : pm_eX eX5_reads n = none := rfl
theorem zX5_reads_C202 : pm_eC eX5_reads 202 = some (3, some 5, T_X5_number) := rfl
theorem zX5_reads_C205 : pm_eC eX5_reads 205 = some (1, some 5, T_X5_passesComma) := rfl
def T_X5_reads : pm_T := pm_M eX5_reads 3
theorem Ct_X5_reads (l : Launch) (sk : Nat → Nat) : pm_Ct l sk yX5_reads cX5_reads 3 (none) 3 (T_X5_reads) := pm_met eX5_reads (by decide) rfl rfl (fun _ => rfl) (fun _ => rfl) fX5_ok (fun _ _ h => by cases h) (pm_tabC (by
    intro q hq
    simp only [List.mem_cons, List.not_mem_nil, or_false] at hq
    rcases hq with rfl | rfl
    · exact pm_cokV (i := 5) (Ct_X5_number l sk) ykX5_number (by decide) (by decide) rfl rfl (by decide) (by decide +kernel) (pm_WS_mem 1337 (by decide +kernel) rfl)
    · exact pm_cokV (i := 5) (Ct_X5_passesComma l sk) ykX5_passesComma (by decide) (by decide) rfl rfl (by decide) (by decide +kernel) (pm_WS_mem 1350 (by decide +kernel) rfl)))
theorem ykX5_layText : pm_YV yX5_layText cX5_layText 3 (some .int) := ⟨(pm_WS_mem 1345 (by decide +kernel) rfl), (pm_WS_mem 130 (by decide +kernel) rfl), ⟨by decide +kernel, by decide +kernel⟩, (pm_WS_mem 1344 (by decide +kernel) rfl), (pm_WS_mem 56 (by decide +kernel) rfl)⟩
def eX5_layText : pm_E := (cX5_layText, fX5, pm_as [(209, 2, some 5, T_X5_reads), (213, 3, some 5, T_X5_lay0)], fun _ => none, fun _ => none, fun _ => none, some .int)
theorem zX5_layText_B : pm_eB eX5_layText = cX5_layText := rfl
theorem zX5_layText_F : pm_eF eX5_layText = fX5 := rfl
theorem zX5_layText_R : pm_eR eX5_layText = some .int := rfl
theorem zX5_layText_X (n : Nat) : pm_eX eX5_layText n = none := rfl
theorem zX5_layText_C209 : pm_eC eX5_layText 209 = some (2, some 5, T_X5_reads) := rfl
theorem zX5_layText_C213 : pm_eC eX5_layText 213 = some (3, some 5, T_X5_lay0) := rfl
def T_X5_layText : pm_T := pm_M eX5_layText 3
theorem Ct_X5_layText (l : Launch) (sk : Nat → Nat) : pm_Ct l sk yX5_layText cX5_layText 3 (some .int) 5 (T_X5_layText) := pm_met eX5_layText (by decide) rfl rfl (fun _ => rfl) (fun _ => rfl) fX5_ok (fun _ _ h => by cases h) (pm_tabC (by
    intro q hq
    simp only [List.mem_cons, List.not_mem_nil, or_false] at hq
    rcases hq with rfl | rfl
    · exact pm_cokV (i := 5) (Ct_X5_reads l sk) ykX5_reads (by decide) (by decide) rfl rfl (by decide) (by decide +kernel) (pm_WS_mem 1346 (by decide +kernel) rfl)
    · exact pm_cokV (i := 5) (Ct_X5_lay0 l sk) ykX5_lay0 (by decide) (by decide) rfl rfl (by decide) (by decide +kernel) (pm_WS_mem 1354 (by decide +kernel) rfl)))
theorem ykX5_liftText : pm_YV yX5_liftText cX5_liftText 3 (some .int) := ⟨(pm_WS_mem 1416 (by decide +kernel) rfl), (pm_WS_mem 130 (by decide +kernel) rfl), ⟨by decide +kernel, by decide +kernel⟩, (pm_WS_mem 1415 (by decide +kernel) rfl), (pm_WS_mem 72 (by decide +kernel) rfl)⟩
def eX5_liftText : pm_E := (cX5_liftText, fX5, pm_as [(209, 2, some 5, T_X5_reads), (163, 2, some 5, T_X5_lift0)], fun _ => none, fun _ => none, fun _ => none, some .int)
theorem zX5_liftText_B : pm_eB eX5_liftText = cX5_liftText := rfl
theorem zX5_liftText_F : pm_eF eX5_liftText = fX5 := rfl
theorem zX5_liftText_R : pm_eR eX5_liftText = some .int := rfl
theorem zX5_liftText_X (n : Nat) : pm_eX eX5_liftText n = none := rfl
theorem zX5_liftText_C209 : pm_eC eX5_liftText 209 = some (2, some 5, T_X5_reads) := rfl
theorem zX5_liftText_C163 : pm_eC eX5_liftText 163 = some (2, some 5, T_X5_lift0) := rfl
def T_X5_liftText : pm_T := pm_M eX5_liftText 3
theorem Ct_X5_liftText (l : Launch) (sk : Nat → Nat) : pm_Ct l sk yX5_liftText cX5_liftText 3 (some .int) 7 (T_X5_liftText) := pm_met eX5_liftText (by decide) rfl rfl (fun _ => rfl) (fun _ => rfl) fX5_ok (fun _ _ h => by cases h) (pm_tabC (by
    intro q hq
    simp only [List.mem_cons, List.not_mem_nil, or_false] at hq
    rcases hq with rfl | rfl
    · exact pm_cokV (i := 5) (Ct_X5_reads l sk) ykX5_reads (by decide) (by decide) rfl rfl (by decide) (by decide +kernel) (pm_WS_mem 1346 (by decide +kernel) rfl)
    · exact pm_cokV (i := 5) (Ct_X5_lift0 l sk) ykX5_lift0 (by decide) (by decide) rfl rfl (by decide) (by decide +kernel) (pm_WS_mem 1417 (by decide +kernel) rfl)))
theorem ykX5_putsBack : pm_YV yX5_putsBack cX5_putsBack 2 (none) := ⟨(pm_WS_mem 1487 (by decide +kernel) rfl), (pm_WS_mem 130 (by decide +kernel) rfl), ⟨by decide +kernel, by decide +kernel⟩, (pm_WS_mem 1486 (by decide +kernel) rfl), (pm_WS_mem 88 (by decide +kernel) rfl)⟩
def eX5_putsBack : pm_E := (cX5_putsBack, fX5, fun _ => none, fun _ => none, fun _ => none, fun _ => none, none)
theorem zX5_putsBack_B : pm_eB eX5_putsBack = cX5_putsBack := rfl
theorem zX5_putsBack_F : pm_eF eX5_putsBack = fX5 := rfl
theorem zX5_putsBack_R : pm_eR eX5_putsBack = none := rfl
theorem zX5_putsBack_X (n : Nat) : pm_eX eX5_putsBack n = none := rfl
def T_X5_putsBack : pm_T := pm_M eX5_putsBack 2
theorem Ct_X5_putsBack (l : Launch) (sk : Nat → Nat) : pm_Ct l sk yX5_putsBack cX5_putsBack 2 (none) 1 (T_X5_putsBack) := pm_met eX5_putsBack (by decide) rfl rfl (fun _ => rfl) (fun _ => rfl) fX5_ok (fun _ _ h => by cases h) (fun _ _ _ _ h => by cases h)
theorem ykX5_fault : pm_YV yX5_fault cX5_fault 1 (some .int) := ⟨(pm_WS_mem 1499 (by decide +kernel) rfl), (pm_WS_mem 130 (by decide +kernel) rfl), ⟨by decide +kernel, by decide +kernel⟩, (pm_WS_mem 1497 (by decide +kernel) rfl), (pm_WS_mem 1498 (by decide +kernel) rfl)⟩
def eX5_fault : pm_E := (cX5_fault, fX5, fun _ => none, fun _ => none, fun _ => none, fun _ => none, some .int)
theorem zX5_fault_B : pm_eB eX5_fault = cX5_fault := rfl
theorem zX5_fault_F : pm_eF eX5_fault = fX5 := rfl
theorem zX5_fault_R : pm_eR eX5_fault = some .int := rfl
theorem zX5_fault_X (n : Nat) : pm_eX eX5_fault n = none := rfl
def T_X5_fault : pm_T := pm_M eX5_fault 1
theorem Ct_X5_fault (l : Launch) (sk : Nat → Nat) : pm_Ct l sk yX5_fault cX5_fault 1 (some .int) 1 (T_X5_fault) := pm_met eX5_fault (by decide) rfl rfl (fun _ => rfl) (fun _ => rfl) fX5_ok (fun _ _ h => by cases h) (fun _ _ _ _ h => by cases h)
theorem ykX5_why : pm_YV yX5_why cX5_why 1 (some .int) := ⟨(pm_WS_mem 1503 (by decide +kernel) rfl), (pm_WS_mem 130 (by decide +kernel) rfl), ⟨by decide +kernel, by decide +kernel⟩, (pm_WS_mem 1501 (by decide +kernel) rfl), (pm_WS_mem 1502 (by decide +kernel) rfl)⟩
def eX5_why : pm_E := (cX5_why, fX5, fun _ => none, fun _ => none, fun _ => none, fun _ => none, some .int)
theorem zX5_why_B : pm_eB eX5_why = cX5_why := rfl
theorem zX5_why_F : pm_eF eX5_why = fX5 := rfl
theorem zX5_why_R : pm_eR eX5_why = some .int := rfl
theorem zX5_why_X (n : Nat) : pm_eX eX5_why n = none := rfl
def T_X5_why : pm_T := pm_M eX5_why 1
theorem Ct_X5_why (l : Launch) (sk : Nat → Nat) : pm_Ct l sk yX5_why cX5_why 1 (some .int) 1 (T_X5_why) := pm_met eX5_why (by decide) rfl rfl (fun _ => rfl) (fun _ => rfl) fX5_ok (fun _ _ h => by cases h) (fun _ _ _ _ h => by cases h)
theorem ykX5_net : pm_YV yX5_net cX5_net 2 (some .int) := ⟨(pm_WS_mem 1507 (by decide +kernel) rfl), (pm_WS_mem 130 (by decide +kernel) rfl), ⟨by decide +kernel, by decide +kernel⟩, (pm_WS_mem 1505 (by decide +kernel) rfl), (pm_WS_mem 1506 (by decide +kernel) rfl)⟩
def eX5_net : pm_E := (cX5_net, fX5, pm_as [(61, 3, none, T_X5_isIn), (54, 2, some 5, T_X5_nets), (129, 1, some 5, T_X5_height)], fun _ => none, fun _ => none, fun _ => none, some .int)
theorem zX5_net_B : pm_eB eX5_net = cX5_net := rfl
theorem zX5_net_F : pm_eF eX5_net = fX5 := rfl
theorem zX5_net_R : pm_eR eX5_net = some .int := rfl
theorem zX5_net_X (n : Nat) : pm_eX eX5_net n = none := rfl
theorem zX5_net_C61 : pm_eC eX5_net 61 = some (3, none, T_X5_isIn) := rfl
theorem zX5_net_C54 : pm_eC eX5_net 54 = some (2, some 5, T_X5_nets) := rfl
theorem zX5_net_C129 : pm_eC eX5_net 129 = some (1, some 5, T_X5_height) := rfl
def T_X5_net : pm_T := pm_M eX5_net 2
theorem Ct_X5_net (l : Launch) (sk : Nat → Nat) : pm_Ct l sk yX5_net cX5_net 2 (some .int) 4 (T_X5_net) := pm_met eX5_net (by decide) rfl rfl (fun _ => rfl) (fun _ => rfl) fX5_ok (fun _ _ h => by cases h) (pm_tabC (by
    intro q hq
    simp only [List.mem_cons, List.not_mem_nil, or_false] at hq
    rcases hq with rfl | rfl | rfl
    · exact pm_cokS (Ct_X5_isIn l sk) ykX5_isIn (by decide) (by decide) (by decide +kernel) (Or.inl (pm_WS_mem 1303 (by decide +kernel) rfl))
    · exact pm_cokV (i := 5) (Ct_X5_nets l sk) ykX5_nets (by decide) (by decide) rfl rfl (by decide) (by decide +kernel) (pm_WS_mem 1201 (by decide +kernel) rfl)
    · exact pm_cokV (i := 5) (Ct_X5_height l sk) ykX5_height (by decide) (by decide) rfl rfl (by decide) (by decide +kernel) (pm_WS_mem 1444 (by decide +kernel) rfl)))
theorem ykX5_lay : pm_YV yX5_lay cX5_lay 3 (some .int) := ⟨(pm_WS_mem 1511 (by decide +kernel) rfl), (pm_WS_mem 130 (by decide +kernel) rfl), ⟨by decide +kernel, by decide +kernel⟩, (pm_WS_mem 1509 (by decide +kernel) rfl), (pm_WS_mem 1510 (by decide +kernel) rfl)⟩
def eX5_lay : pm_E := (cX5_lay, fX5, pm_as [(252, 1, some 5, T_X5_putsAside), (213, 3, some 5, T_X5_lay0), (267, 2, some 5, T_X5_isDone)], fun _ => none, fun _ => none, fun _ => none, some .int)
theorem zX5_lay_B : pm_eB eX5_lay = cX5_lay := rfl
theorem zX5_lay_F : pm_eF eX5_lay = fX5 := rfl
theorem zX5_lay_R : pm_eR eX5_lay = some .int := rfl
theorem zX5_lay_X (n : Nat) : pm_eX eX5_lay n = none := rfl
theorem zX5_lay_C252 : pm_eC eX5_lay 252 = some (1, some 5, T_X5_putsAside) := rfl
theorem zX5_lay_C213 : pm_eC eX5_lay 213 = some (3, some 5, T_X5_lay0) := rfl
theorem zX5_lay_C267 : pm_eC eX5_lay 267 = some (2, some 5, T_X5_isDone) := rfl
def T_X5_lay : pm_T := pm_M eX5_lay 3
theorem Ct_X5_lay (l : Launch) (sk : Nat → Nat) : pm_Ct l sk yX5_lay cX5_lay 3 (some .int) 5 (T_X5_lay) := pm_met eX5_lay (by decide) rfl rfl (fun _ => rfl) (fun _ => rfl) fX5_ok (fun _ _ h => by cases h) (pm_tabC (by
    intro q hq
    simp only [List.mem_cons, List.not_mem_nil, or_false] at hq
    rcases hq with rfl | rfl | rfl
    · exact pm_cokV (i := 5) (Ct_X5_putsAside l sk) ykX5_putsAside (by decide) (by decide) rfl rfl (by decide) (by decide +kernel) (pm_WS_mem 1314 (by decide +kernel) rfl)
    · exact pm_cokV (i := 5) (Ct_X5_lay0 l sk) ykX5_lay0 (by decide) (by decide) rfl rfl (by decide) (by decide +kernel) (pm_WS_mem 1354 (by decide +kernel) rfl)
    · exact pm_cokV (i := 5) (Ct_X5_isDone l sk) ykX5_isDone (by decide) (by decide) rfl rfl (by decide) (by decide +kernel) (pm_WS_mem 1512 (by decide +kernel) rfl)))
theorem ykX5_lift : pm_YV yX5_lift cX5_lift 2 (some .int) := ⟨(pm_WS_mem 1523 (by decide +kernel) rfl), (pm_WS_mem 130 (by decide +kernel) rfl), ⟨by decide +kernel, by decide +kernel⟩, (pm_WS_mem 1521 (by decide +kernel) rfl), (pm_WS_mem 1522 (by decide +kernel) rfl)⟩
def eX5_lift : pm_E := (cX5_lift, fX5, pm_as [(252, 1, some 5, T_X5_putsAside), (163, 2, some 5, T_X5_lift0), (267, 2, some 5, T_X5_isDone)], fun _ => none, fun _ => none, fun _ => none, some .int)
theorem zX5_lift_B : pm_eB eX5_lift = cX5_lift := rfl
theorem zX5_lift_F : pm_eF eX5_lift = fX5 := rfl
theorem zX5_lift_R : pm_eR eX5_lift = some .int := rfl
theorem zX5_lift_X (n : Nat) : pm_eX eX5_lift n = none := rfl
theorem zX5_lift_C252 : pm_eC eX5_lift 252 = some (1, some 5, T_X5_putsAside) := rfl
theorem zX5_lift_C163 : pm_eC eX5_lift 163 = some (2, some 5, T_X5_lift0) := rfl
theorem zX5_lift_C267 : pm_eC eX5_lift 267 = some (2, some 5, T_X5_isDone) := rfl
def T_X5_lift : pm_T := pm_M eX5_lift 2
theorem Ct_X5_lift (l : Launch) (sk : Nat → Nat) : pm_Ct l sk yX5_lift cX5_lift 2 (some .int) 7 (T_X5_lift) := pm_met eX5_lift (by decide) rfl rfl (fun _ => rfl) (fun _ => rfl) fX5_ok (fun _ _ h => by cases h) (pm_tabC (by
    intro q hq
    simp only [List.mem_cons, List.not_mem_nil, or_false] at hq
    rcases hq with rfl | rfl | rfl
    · exact pm_cokV (i := 5) (Ct_X5_putsAside l sk) ykX5_putsAside (by decide) (by decide) rfl rfl (by decide) (by decide +kernel) (pm_WS_mem 1314 (by decide +kernel) rfl)
    · exact pm_cokV (i := 5) (Ct_X5_lift0 l sk) ykX5_lift0 (by decide) (by decide) rfl rfl (by decide) (by decide +kernel) (pm_WS_mem 1417 (by decide +kernel) rfl)
    · exact pm_cokV (i := 5) (Ct_X5_isDone l sk) ykX5_isDone (by decide) (by decide) rfl rfl (by decide) (by decide +kernel) (pm_WS_mem 1512 (by decide +kernel) rfl)))
theorem ykX5_cost : pm_YV yX5_cost cX5_cost 5 (some .int) := ⟨(pm_WS_mem 1527 (by decide +kernel) rfl), (pm_WS_mem 130 (by decide +kernel) rfl), ⟨by decide +kernel, by decide +kernel⟩, (pm_WS_mem 1525 (by decide +kernel) rfl), (pm_WS_mem 1526 (by decide +kernel) rfl)⟩
def eX5_cost : pm_E := (cX5_cost, fX5, pm_as [(61, 3, none, T_X5_isIn), (252, 1, some 5, T_X5_putsAside), (65, 2, some 5, T_X5_isLaid), (69, 3, some 5, T_X5_of), (244, 3, some 5, T_X5_cost0), (267, 2, some 5, T_X5_isDone)], fun _ => none, fun _ => none, fun _ => none, some .int)
theorem zX5_cost_B : pm_eB eX5_cost = cX5_cost := rfl
theorem zX5_cost_F : pm_eF eX5_cost = fX5 := rfl
theorem zX5_cost_R : pm_eR eX5_cost = some .int := rfl
theorem zX5_cost_X (n : Nat) : pm_eX eX5_cost n = none := rfl
theorem zX5_cost_C61 : pm_eC eX5_cost 61 = some (3, none, T_X5_isIn) := rfl
theorem zX5_cost_C252 : pm_eC eX5_cost 252 = some (1, some 5, T_X5_putsAside) := rfl
theorem zX5_cost_C65 : pm_eC eX5_cost 65 = some (2, some 5, T_X5_isLaid) := rfl
theorem zX5_cost_C69 : pm_eC eX5_cost 69 = some (3, some 5, T_X5_of) := rfl
theorem zX5_cost_C244 : pm_eC eX5_cost 244 = some (3, some 5, T_X5_cost0) := rfl
theorem zX5_cost_C267 : pm_eC eX5_cost 267 = some (2, some 5, T_X5_isDone) := rfl
def T_X5_cost : pm_T := pm_M eX5_cost 5
theorem Ct_X5_cost (l : Launch) (sk : Nat → Nat) : pm_Ct l sk yX5_cost cX5_cost 5 (some .int) 5 (T_X5_cost) := pm_met eX5_cost (by decide) rfl rfl (fun _ => rfl) (fun _ => rfl) fX5_ok (fun _ _ h => by cases h) (pm_tabC (by
    intro q hq
    simp only [List.mem_cons, List.not_mem_nil, or_false] at hq
    rcases hq with rfl | rfl | rfl | rfl | rfl | rfl
    · exact pm_cokS (Ct_X5_isIn l sk) ykX5_isIn (by decide) (by decide) (by decide +kernel) (Or.inl (pm_WS_mem 1303 (by decide +kernel) rfl))
    · exact pm_cokV (i := 5) (Ct_X5_putsAside l sk) ykX5_putsAside (by decide) (by decide) rfl rfl (by decide) (by decide +kernel) (pm_WS_mem 1314 (by decide +kernel) rfl)
    · exact pm_cokV (i := 5) (Ct_X5_isLaid l sk) ykX5_isLaid (by decide) (by decide) rfl rfl (by decide) (by decide +kernel) (pm_WS_mem 1425 (by decide +kernel) rfl)
    · exact pm_cokV (i := 5) (Ct_X5_of l sk) ykX5_of (by decide) (by decide) rfl rfl (by decide) (by decide +kernel) (pm_WS_mem 1374 (by decide +kernel) rfl)
    · exact pm_cokV (i := 5) (Ct_X5_cost0 l sk) ykX5_cost0 (by decide) (by decide) rfl rfl (by decide) (by decide +kernel) (pm_WS_mem 1475 (by decide +kernel) rfl)
    · exact pm_cokV (i := 5) (Ct_X5_isDone l sk) ykX5_isDone (by decide) (by decide) rfl rfl (by decide) (by decide +kernel) (pm_WS_mem 1512 (by decide +kernel) rfl)))
theorem ykX5_treeCables : pm_YV yX5_treeCables cX5_treeCables 3 (some .int) := ⟨(pm_WS_mem 1535 (by decide +kernel) rfl), (pm_WS_mem 130 (by decide +kernel) rfl), ⟨by decide +kernel, by decide +kernel⟩, (pm_WS_mem 1534 (by decide +kernel) rfl), (pm_WS_mem 92 (by decide +kernel) rfl)⟩
def eX5_treeCables : pm_E := (cX5_treeCables, fX5, pm_as [(133, 2, some 5, T_X5_isTree)], fun _ => none, fun _ => none, fun _ => none, some .int)
theorem zX5_treeCables_B : pm_eB eX5_treeCables = cX5_treeCables := rfl
theorem zX5_treeCables_F : pm_eF eX5_treeCables = fX5 := rfl
theorem zX5_treeCables_R : pm_eR eX5_treeCables = some .int := rfl
theorem zX5_treeCables_X (n : Nat) : pm_eX eX5_treeCables n = none := rfl
theorem zX5_treeCables_C133 : pm_eC eX5_treeCables 133 = some (2, some 5, T_X5_isTree) := rfl
def T_X5_treeCables : pm_T := pm_M eX5_treeCables 3
theorem Ct_X5_treeCables (l : Launch) (sk : Nat → Nat) : pm_Ct l sk yX5_treeCables cX5_treeCables 3 (some .int) 4 (T_X5_treeCables) := pm_met eX5_treeCables (by decide) rfl rfl (fun _ => rfl) (fun _ => rfl) fX5_ok (fun _ _ h => by cases h) (pm_tabC (by
    intro q hq
    simp only [List.mem_cons, List.not_mem_nil, or_false] at hq
    rcases hq with rfl
    · exact pm_cokV (i := 5) (Ct_X5_isTree l sk) ykX5_isTree (by decide) (by decide) rfl rfl (by decide) (by decide +kernel) (pm_WS_mem 1429 (by decide +kernel) rfl)))
theorem ykX5_swap : pm_YV yX5_swap cX5_swap 3 (some .int) := ⟨(pm_WS_mem 1531 (by decide +kernel) rfl), (pm_WS_mem 130 (by decide +kernel) rfl), ⟨by decide +kernel, by decide +kernel⟩, (pm_WS_mem 1529 (by decide +kernel) rfl), (pm_WS_mem 1530 (by decide +kernel) rfl)⟩
def eX5_swap : pm_E := (cX5_swap, fX5, pm_as [(252, 1, some 5, T_X5_putsAside), (234, 3, some 5, T_X5_swap0), (267, 2, some 5, T_X5_isDone), (270, 1, some 5, T_X5_treeCables)], fun _ => none, fun _ => none, fun _ => none, some .int)
theorem zX5_swap_B : pm_eB eX5_swap = cX5_swap := rfl
theorem zX5_swap_F : pm_eF eX5_swap = fX5 := rfl
theorem zX5_swap_R : pm_eR eX5_swap = some .int := rfl
theorem zX5_swap_X (n : Nat) : pm_eX eX5_swap n = none := rfl
theorem zX5_swap_C252 : pm_eC eX5_swap 252 = some (1, some 5, T_X5_putsAside) := rfl
theorem zX5_swap_C234 : pm_eC eX5_swap 234 = some (3, some 5, T_X5_swap0) := rfl
theorem zX5_swap_C267 : pm_eC eX5_swap 267 = some (2, some 5, T_X5_isDone) := rfl
theorem zX5_swap_C270 : pm_eC eX5_swap 270 = some (1, some 5, T_X5_treeCables) := rfl
def T_X5_swap : pm_T := pm_M eX5_swap 3
theorem Ct_X5_swap (l : Launch) (sk : Nat → Nat) : pm_Ct l sk yX5_swap cX5_swap 3 (some .int) 7 (T_X5_swap) := pm_met eX5_swap (by decide) rfl rfl (fun _ => rfl) (fun _ => rfl) fX5_ok (fun _ _ h => by cases h) (pm_tabC (by
    intro q hq
    simp only [List.mem_cons, List.not_mem_nil, or_false] at hq
    rcases hq with rfl | rfl | rfl | rfl
    · exact pm_cokV (i := 5) (Ct_X5_putsAside l sk) ykX5_putsAside (by decide) (by decide) rfl rfl (by decide) (by decide +kernel) (pm_WS_mem 1314 (by decide +kernel) rfl)
    · exact pm_cokV (i := 5) (Ct_X5_swap0 l sk) ykX5_swap0 (by decide) (by decide) rfl rfl (by decide) (by decide +kernel) (pm_WS_mem 1457 (by decide +kernel) rfl)
    · exact pm_cokV (i := 5) (Ct_X5_isDone l sk) ykX5_isDone (by decide) (by decide) rfl rfl (by decide) (by decide +kernel) (pm_WS_mem 1512 (by decide +kernel) rfl)
    · exact pm_cokV (i := 5) (Ct_X5_treeCables l sk) ykX5_treeCables (by decide) (by decide) rfl rfl (by decide) (by decide +kernel) (pm_WS_mem 1532 (by decide +kernel) rfl)))
theorem ykX5_fail : pm_YV yX5_fail cX5_fail 2 (some .int) := ⟨(pm_WS_mem 1539 (by decide +kernel) rfl), (pm_WS_mem 130 (by decide +kernel) rfl), ⟨by decide +kernel, by decide +kernel⟩, (pm_WS_mem 1537 (by decide +kernel) rfl), (pm_WS_mem 1538 (by decide +kernel) rfl)⟩
def eX5_fail : pm_E := (cX5_fail, fX5, pm_as [(252, 1, some 5, T_X5_putsAside), (239, 2, some 5, T_X5_fail0), (267, 2, some 5, T_X5_isDone)], fun _ => none, fun _ => none, fun _ => none, some .int)
theorem zX5_fail_B : pm_eB eX5_fail = cX5_fail := rfl
theorem zX5_fail_F : pm_eF eX5_fail = fX5 := rfl
theorem zX5_fail_R : pm_eR eX5_fail = some .int := rfl
theorem zX5_fail_X (n : Nat) : pm_eX eX5_fail n = none := rfl
theorem zX5_fail_C252 : pm_eC eX5_fail 252 = some (1, some 5, T_X5_putsAside) := rfl
theorem zX5_fail_C239 : pm_eC eX5_fail 239 = some (2, some 5, T_X5_fail0) := rfl
theorem zX5_fail_C267 : pm_eC eX5_fail 267 = some (2, some 5, T_X5_isDone) := rfl
def T_X5_fail : pm_T := pm_M eX5_fail 2
theorem Ct_X5_fail (l : Launch) (sk : Nat → Nat) : pm_Ct l sk yX5_fail cX5_fail 2 (some .int) 8 (T_X5_fail) := pm_met eX5_fail (by decide) rfl rfl (fun _ => rfl) (fun _ => rfl) fX5_ok (fun _ _ h => by cases h) (pm_tabC (by
    intro q hq
    simp only [List.mem_cons, List.not_mem_nil, or_false] at hq
    rcases hq with rfl | rfl | rfl
    · exact pm_cokV (i := 5) (Ct_X5_putsAside l sk) ykX5_putsAside (by decide) (by decide) rfl rfl (by decide) (by decide +kernel) (pm_WS_mem 1314 (by decide +kernel) rfl)
    · exact pm_cokV (i := 5) (Ct_X5_fail0 l sk) ykX5_fail0 (by decide) (by decide) rfl rfl (by decide) (by decide +kernel) (pm_WS_mem 1470 (by decide +kernel) rfl)
    · exact pm_cokV (i := 5) (Ct_X5_isDone l sk) ykX5_isDone (by decide) (by decide) rfl rfl (by decide) (by decide +kernel) (pm_WS_mem 1512 (by decide +kernel) rfl)))
theorem ykX5_tidy : pm_YV yX5_tidy cX5_tidy 2 (some .int) := ⟨(pm_WS_mem 1543 (by decide +kernel) rfl), (pm_WS_mem 130 (by decide +kernel) rfl), ⟨by decide +kernel, by decide +kernel⟩, (pm_WS_mem 1541 (by decide +kernel) rfl), (pm_WS_mem 1542 (by decide +kernel) rfl)⟩
def eX5_tidy : pm_E := (cX5_tidy, fX5, pm_as [(252, 1, some 5, T_X5_putsAside), (249, 1, some 5, T_X5_tidy0), (267, 2, some 5, T_X5_isDone)], fun _ => none, fun _ => none, fun _ => none, some .int)
theorem zX5_tidy_B : pm_eB eX5_tidy = cX5_tidy := rfl
theorem zX5_tidy_F : pm_eF eX5_tidy = fX5 := rfl
theorem zX5_tidy_R : pm_eR eX5_tidy = some .int := rfl
theorem zX5_tidy_X (n : Nat) : pm_eX eX5_tidy n = none := rfl
theorem zX5_tidy_C252 : pm_eC eX5_tidy 252 = some (1, some 5, T_X5_putsAside) := rfl
theorem zX5_tidy_C249 : pm_eC eX5_tidy 249 = some (1, some 5, T_X5_tidy0) := rfl
theorem zX5_tidy_C267 : pm_eC eX5_tidy 267 = some (2, some 5, T_X5_isDone) := rfl
def T_X5_tidy : pm_T := pm_M eX5_tidy 2
theorem Ct_X5_tidy (l : Launch) (sk : Nat → Nat) : pm_Ct l sk yX5_tidy cX5_tidy 2 (some .int) 5 (T_X5_tidy) := pm_met eX5_tidy (by decide) rfl rfl (fun _ => rfl) (fun _ => rfl) fX5_ok (fun _ _ h => by cases h) (pm_tabC (by
    intro q hq
    simp only [List.mem_cons, List.not_mem_nil, or_false] at hq
    rcases hq with rfl | rfl | rfl
    · exact pm_cokV (i := 5) (Ct_X5_putsAside l sk) ykX5_putsAside (by decide) (by decide) rfl rfl (by decide) (by decide +kernel) (pm_WS_mem 1314 (by decide +kernel) rfl)
    · exact pm_cokV (i := 5) (Ct_X5_tidy0 l sk) ykX5_tidy0 (by decide) (by decide) rfl rfl (by decide) (by decide +kernel) (pm_WS_mem 1480 (by decide +kernel) rfl)
    · exact pm_cokV (i := 5) (Ct_X5_isDone l sk) ykX5_isDone (by decide) (by decide) rfl rfl (by decide) (by decide +kernel) (pm_WS_mem 1512 (by decide +kernel) rfl)))
theorem ykX5_undo : pm_YV yX5_undo cX5_undo 2 (some .int) := ⟨(pm_WS_mem 1547 (by decide +kernel) rfl), (pm_WS_mem 130 (by decide +kernel) rfl), ⟨by decide +kernel, by decide +kernel⟩, (pm_WS_mem 1545 (by decide +kernel) rfl), (pm_WS_mem 1546 (by decide +kernel) rfl)⟩
def eX5_undo : pm_E := (cX5_undo, fX5, fun _ => none, fun _ => none, fun _ => none, fun _ => none, some .int)
theorem zX5_undo_B : pm_eB eX5_undo = cX5_undo := rfl
theorem zX5_undo_F : pm_eF eX5_undo = fX5 := rfl
theorem zX5_undo_R : pm_eR eX5_undo = some .int := rfl
theorem zX5_undo_X (n : Nat) : pm_eX eX5_undo n = none := rfl
def T_X5_undo : pm_T := pm_M eX5_undo 2
theorem Ct_X5_undo (l : Launch) (sk : Nat → Nat) : pm_Ct l sk yX5_undo cX5_undo 2 (some .int) 1 (T_X5_undo) := pm_met eX5_undo (by decide) rfl rfl (fun _ => rfl) (fun _ => rfl) fX5_ok (fun _ _ h => by cases h) (fun _ _ _ _ h => by cases h)
theorem ykX5_connected : pm_YV yX5_connected cX5_connected 3 (some .boolean) := ⟨(pm_WS_mem 1551 (by decide +kernel) rfl), (pm_WS_mem 130 (by decide +kernel) rfl), ⟨by decide +kernel, by decide +kernel⟩, (pm_WS_mem 1549 (by decide +kernel) rfl), (pm_WS_mem 1550 (by decide +kernel) rfl)⟩
def eX5_connected : pm_E := (cX5_connected, fX5, pm_as [(105, 2, some 5, T_X5_isNode), (98, 4, some 5, T_X5_areOne)], fun _ => none, fun _ => none, fun _ => none, some .boolean)
theorem zX5_connected_B : pm_eB eX5_connected = cX5_connected := rfl
theorem zX5_connected_F : pm_eF eX5_connected = fX5 := rfl
theorem zX5_connected_R : pm_eR eX5_connected = some .boolean := rfl
theorem zX5_connected_X (n : Nat) : pm_eX eX5_connected n = none := rfl
theorem zX5_connected_C105 : pm_eC eX5_connected 105 = some (2, some 5, T_X5_isNode) := rfl
theorem zX5_connected_C98 : pm_eC eX5_connected 98 = some (4, some 5, T_X5_areOne) := rfl
def T_X5_connected : pm_T := pm_M eX5_connected 3
theorem Ct_X5_connected (l : Launch) (sk : Nat → Nat) : pm_Ct l sk yX5_connected cX5_connected 3 (some .boolean) 3 (T_X5_connected) := pm_met eX5_connected (by decide) rfl rfl (fun _ => rfl) (fun _ => rfl) fX5_ok (fun _ _ h => by cases h) (pm_tabC (by
    intro q hq
    simp only [List.mem_cons, List.not_mem_nil, or_false] at hq
    rcases hq with rfl | rfl
    · exact pm_cokV (i := 5) (Ct_X5_isNode l sk) ykX5_isNode (by decide) (by decide) rfl rfl (by decide) (by decide +kernel) (pm_WS_mem 1358 (by decide +kernel) rfl)
    · exact pm_cokV (i := 5) (Ct_X5_areOne l sk) ykX5_areOne (by decide) (by decide) rfl rfl (by decide) (by decide +kernel) (pm_WS_mem 1366 (by decide +kernel) rfl)))
theorem ykX5_hasEnd : pm_YV yX5_hasEnd cX5_hasEnd 3 (some .boolean) := ⟨(pm_WS_mem 1563 (by decide +kernel) rfl), (pm_WS_mem 130 (by decide +kernel) rfl), ⟨by decide +kernel, by decide +kernel⟩, (pm_WS_mem 1562 (by decide +kernel) rfl), (pm_WS_mem 94 (by decide +kernel) rfl)⟩
def eX5_hasEnd : pm_E := (cX5_hasEnd, fX5, pm_as [(69, 3, some 5, T_X5_of)], fun _ => none, fun _ => none, fun _ => none, some .boolean)
theorem zX5_hasEnd_B : pm_eB eX5_hasEnd = cX5_hasEnd := rfl
theorem zX5_hasEnd_F : pm_eF eX5_hasEnd = fX5 := rfl
theorem zX5_hasEnd_R : pm_eR eX5_hasEnd = some .boolean := rfl
theorem zX5_hasEnd_X (n : Nat) : pm_eX eX5_hasEnd n = none := rfl
theorem zX5_hasEnd_C69 : pm_eC eX5_hasEnd 69 = some (3, some 5, T_X5_of) := rfl
def T_X5_hasEnd : pm_T := pm_M eX5_hasEnd 3
theorem Ct_X5_hasEnd (l : Launch) (sk : Nat → Nat) : pm_Ct l sk yX5_hasEnd cX5_hasEnd 3 (some .boolean) 2 (T_X5_hasEnd) := pm_met eX5_hasEnd (by decide) rfl rfl (fun _ => rfl) (fun _ => rfl) fX5_ok (fun _ _ h => by cases h) (pm_tabC (by
    intro q hq
    simp only [List.mem_cons, List.not_mem_nil, or_false] at hq
    rcases hq with rfl
    · exact pm_cokV (i := 5) (Ct_X5_of l sk) ykX5_of (by decide) (by decide) rfl rfl (by decide) (by decide +kernel) (pm_WS_mem 1374 (by decide +kernel) rfl)))
theorem ykX5_cablesOf : pm_YV yX5_cablesOf cX5_cablesOf 5 (some .int) := ⟨(pm_WS_mem 1559 (by decide +kernel) rfl), (pm_WS_mem 130 (by decide +kernel) rfl), ⟨by decide +kernel, by decide +kernel⟩, (pm_WS_mem 1558 (by decide +kernel) rfl), (pm_WS_mem 93 (by decide +kernel) rfl)⟩
def eX5_cablesOf : pm_E := (cX5_cablesOf, fX5, pm_as [(273, 3, some 5, T_X5_hasEnd), (142, 2, some 5, T_X5_isThere), (133, 2, some 5, T_X5_isTree)], fun _ => none, fun _ => none, fun _ => none, some .int)
theorem zX5_cablesOf_B : pm_eB eX5_cablesOf = cX5_cablesOf := rfl
theorem zX5_cablesOf_F : pm_eF eX5_cablesOf = fX5 := rfl
theorem zX5_cablesOf_R : pm_eR eX5_cablesOf = some .int := rfl
theorem zX5_cablesOf_X (n : Nat) : pm_eX eX5_cablesOf n = none := rfl
theorem zX5_cablesOf_C273 : pm_eC eX5_cablesOf 273 = some (3, some 5, T_X5_hasEnd) := rfl
theorem zX5_cablesOf_C142 : pm_eC eX5_cablesOf 142 = some (2, some 5, T_X5_isThere) := rfl
theorem zX5_cablesOf_C133 : pm_eC eX5_cablesOf 133 = some (2, some 5, T_X5_isTree) := rfl
def T_X5_cablesOf : pm_T := pm_M eX5_cablesOf 5
theorem Ct_X5_cablesOf (l : Launch) (sk : Nat → Nat) : pm_Ct l sk yX5_cablesOf cX5_cablesOf 5 (some .int) 4 (T_X5_cablesOf) := pm_met eX5_cablesOf (by decide) rfl rfl (fun _ => rfl) (fun _ => rfl) fX5_ok (fun _ _ h => by cases h) (pm_tabC (by
    intro q hq
    simp only [List.mem_cons, List.not_mem_nil, or_false] at hq
    rcases hq with rfl | rfl | rfl
    · exact pm_cokV (i := 5) (Ct_X5_hasEnd l sk) ykX5_hasEnd (by decide) (by decide) rfl rfl (by decide) (by decide +kernel) (pm_WS_mem 1560 (by decide +kernel) rfl)
    · exact pm_cokV (i := 5) (Ct_X5_isThere l sk) ykX5_isThere (by decide) (by decide) rfl rfl (by decide) (by decide +kernel) (pm_WS_mem 1421 (by decide +kernel) rfl)
    · exact pm_cokV (i := 5) (Ct_X5_isTree l sk) ykX5_isTree (by decide) (by decide) rfl rfl (by decide) (by decide +kernel) (pm_WS_mem 1429 (by decide +kernel) rfl)))
theorem ykX5_reaches : pm_YV yX5_reaches cX5_reaches 4 (none) := ⟨(pm_WS_mem 1575 (by decide +kernel) rfl), (pm_WS_mem 130 (by decide +kernel) rfl), ⟨by decide +kernel, by decide +kernel⟩, (pm_WS_mem 1574 (by decide +kernel) rfl), (pm_WS_mem 97 (by decide +kernel) rfl)⟩
def eX5_reaches : pm_E := (cX5_reaches, fX5, fun _ => none, fun _ => none, fun _ => none, fun _ => none, none)
theorem zX5_reaches_B : pm_eB eX5_reaches = cX5_reaches := rfl
theorem zX5_reaches_F : pm_eF eX5_reaches = fX5 := rfl
theorem zX5_reaches_R : pm_eR eX5_reaches = none := rfl
theorem zX5_reaches_X (n : Nat) : pm_eX eX5_reaches n = none := rfl
def T_X5_reaches : pm_T := pm_M eX5_reaches 4
theorem Ct_X5_reaches (l : Launch) (sk : Nat → Nat) : pm_Ct l sk yX5_reaches cX5_reaches 4 (none) 1 (T_X5_reaches) := pm_met eX5_reaches (by decide) rfl rfl (fun _ => rfl) (fun _ => rfl) fX5_ok (fun _ _ h => by cases h) (fun _ _ _ _ h => by cases h)
theorem ykX5_spreads : pm_YV yX5_spreads cX5_spreads 7 (none) := ⟨(pm_WS_mem 1571 (by decide +kernel) rfl), (pm_WS_mem 130 (by decide +kernel) rfl), ⟨by decide +kernel, by decide +kernel⟩, (pm_WS_mem 1570 (by decide +kernel) rfl), (pm_WS_mem 96 (by decide +kernel) rfl)⟩
def eX5_spreads : pm_E := (cX5_spreads, fX5, pm_as [(142, 2, some 5, T_X5_isThere), (133, 2, some 5, T_X5_isTree), (273, 3, some 5, T_X5_hasEnd), (69, 3, some 5, T_X5_of), (276, 4, some 5, T_X5_reaches)], fun _ => none, fun _ => none, fun _ => none, none)
theorem zX5_spreads_B : pm_eB eX5_spreads = cX5_spreads := rfl
theorem zX5_spreads_F : pm_eF eX5_spreads = fX5 := rfl
theorem zX5_spreads_R : pm_eR eX5_spreads = none := rfl
theorem zX5_spreads_X (n : Nat) : pm_eX eX5_spreads n = none := rfl
theorem zX5_spreads_C142 : pm_eC eX5_spreads 142 = some (2, some 5, T_X5_isThere) := rfl
theorem zX5_spreads_C133 : pm_eC eX5_spreads 133 = some (2, some 5, T_X5_isTree) := rfl
theorem zX5_spreads_C273 : pm_eC eX5_spreads 273 = some (3, some 5, T_X5_hasEnd) := rfl
theorem zX5_spreads_C69 : pm_eC eX5_spreads 69 = some (3, some 5, T_X5_of) := rfl
theorem zX5_spreads_C276 : pm_eC eX5_spreads 276 = some (4, some 5, T_X5_reaches) := rfl
def T_X5_spreads : pm_T := pm_M eX5_spreads 7
theorem Ct_X5_spreads (l : Launch) (sk : Nat → Nat) : pm_Ct l sk yX5_spreads cX5_spreads 7 (none) 4 (T_X5_spreads) := pm_met eX5_spreads (by decide) rfl rfl (fun _ => rfl) (fun _ => rfl) fX5_ok (fun _ _ h => by cases h) (pm_tabC (by
    intro q hq
    simp only [List.mem_cons, List.not_mem_nil, or_false] at hq
    rcases hq with rfl | rfl | rfl | rfl | rfl
    · exact pm_cokV (i := 5) (Ct_X5_isThere l sk) ykX5_isThere (by decide) (by decide) rfl rfl (by decide) (by decide +kernel) (pm_WS_mem 1421 (by decide +kernel) rfl)
    · exact pm_cokV (i := 5) (Ct_X5_isTree l sk) ykX5_isTree (by decide) (by decide) rfl rfl (by decide) (by decide +kernel) (pm_WS_mem 1429 (by decide +kernel) rfl)
    · exact pm_cokV (i := 5) (Ct_X5_hasEnd l sk) ykX5_hasEnd (by decide) (by decide) rfl rfl (by decide) (by decide +kernel) (pm_WS_mem 1560 (by decide +kernel) rfl)
    · exact pm_cokV (i := 5) (Ct_X5_of l sk) ykX5_of (by decide) (by decide) rfl rfl (by decide) (by decide +kernel) (pm_WS_mem 1374 (by decide +kernel) rfl)
    · exact pm_cokV (i := 5) (Ct_X5_reaches l sk) ykX5_reaches (by decide) (by decide) rfl rfl (by decide) (by decide +kernel) (pm_WS_mem 1572 (by decide +kernel) rfl)))
theorem ykX5_span : pm_YV yX5_span cX5_span 4 (some .int) := ⟨(pm_WS_mem 1567 (by decide +kernel) rfl), (pm_WS_mem 130 (by decide +kernel) rfl), ⟨by decide +kernel, by decide +kernel⟩, (pm_WS_mem 1566 (by decide +kernel) rfl), (pm_WS_mem 95 (by decide +kernel) rfl)⟩
def eX5_span : pm_E := (cX5_span, fX5, pm_as [(279, 5, some 5, T_X5_spreads)], fun _ => none, fun _ => none, fun _ => none, some .int)
theorem zX5_span_B : pm_eB eX5_span = cX5_span := rfl
theorem zX5_span_F : pm_eF eX5_span = fX5 := rfl
theorem zX5_span_R : pm_eR eX5_span = some .int := rfl
theorem zX5_span_X (n : Nat) : pm_eX eX5_span n = none := rfl
theorem zX5_span_C279 : pm_eC eX5_span 279 = some (5, some 5, T_X5_spreads) := rfl
def T_X5_span : pm_T := pm_M eX5_span 4
theorem Ct_X5_span (l : Launch) (sk : Nat → Nat) : pm_Ct l sk yX5_span cX5_span 4 (some .int) 5 (T_X5_span) := pm_met eX5_span (by decide) rfl rfl (fun _ => rfl) (fun _ => rfl) fX5_ok (fun _ _ h => by cases h) (pm_tabC (by
    intro q hq
    simp only [List.mem_cons, List.not_mem_nil, or_false] at hq
    rcases hq with rfl
    · exact pm_cokV (i := 5) (Ct_X5_spreads l sk) ykX5_spreads (by decide) (by decide) rfl rfl (by decide) (by decide +kernel) (pm_WS_mem 1568 (by decide +kernel) rfl)))
theorem ykX5_isBridge : pm_YV yX5_isBridge cX5_isBridge 2 (some .boolean) := ⟨(pm_WS_mem 1583 (by decide +kernel) rfl), (pm_WS_mem 130 (by decide +kernel) rfl), ⟨by decide +kernel, by decide +kernel⟩, (pm_WS_mem 1582 (by decide +kernel) rfl), (pm_WS_mem 99 (by decide +kernel) rfl)⟩
def eX5_isBridge : pm_E := (cX5_isBridge, fX5, pm_as [(133, 2, some 5, T_X5_isTree), (69, 3, some 5, T_X5_of), (279, 5, some 5, T_X5_spreads)], fun _ => none, fun _ => none, fun _ => none, some .boolean)
theorem zX5_isBridge_B : pm_eB eX5_isBridge = cX5_isBridge := rfl
theorem zX5_isBridge_F : pm_eF eX5_isBridge = fX5 := rfl
theorem zX5_isBridge_R : pm_eR eX5_isBridge = some .boolean := rfl
theorem zX5_isBridge_X (n : Nat) : pm_eX eX5_isBridge n = none := rfl
theorem zX5_isBridge_C133 : pm_eC eX5_isBridge 133 = some (2, some 5, T_X5_isTree) := rfl
theorem zX5_isBridge_C69 : pm_eC eX5_isBridge 69 = some (3, some 5, T_X5_of) := rfl
theorem zX5_isBridge_C279 : pm_eC eX5_isBridge 279 = some (5, some 5, T_X5_spreads) := rfl
def T_X5_isBridge : pm_T := pm_M eX5_isBridge 2
theorem Ct_X5_isBridge (l : Launch) (sk : Nat → Nat) : pm_Ct l sk yX5_isBridge cX5_isBridge 2 (some .boolean) 5 (T_X5_isBridge) := pm_met eX5_isBridge (by decide) rfl rfl (fun _ => rfl) (fun _ => rfl) fX5_ok (fun _ _ h => by cases h) (pm_tabC (by
    intro q hq
    simp only [List.mem_cons, List.not_mem_nil, or_false] at hq
    rcases hq with rfl | rfl | rfl
    · exact pm_cokV (i := 5) (Ct_X5_isTree l sk) ykX5_isTree (by decide) (by decide) rfl rfl (by decide) (by decide +kernel) (pm_WS_mem 1429 (by decide +kernel) rfl)
    · exact pm_cokV (i := 5) (Ct_X5_of l sk) ykX5_of (by decide) (by decide) rfl rfl (by decide) (by decide +kernel) (pm_WS_mem 1374 (by decide +kernel) rfl)
    · exact pm_cokV (i := 5) (Ct_X5_spreads l sk) ykX5_spreads (by decide) (by decide) rfl rfl (by decide) (by decide +kernel) (pm_WS_mem 1568 (by decide +kernel) rfl)))
theorem ykX5_islandOf : pm_YV yX5_islandOf cX5_islandOf 5 (some .int) := ⟨(pm_WS_mem 1579 (by decide +kernel) rfl), (pm_WS_mem 130 (by decide +kernel) rfl), ⟨by decide +kernel, by decide +kernel⟩, (pm_WS_mem 1578 (by decide +kernel) rfl), (pm_WS_mem 98 (by decide +kernel) rfl)⟩
def eX5_islandOf : pm_E := (cX5_islandOf, fX5, pm_as [(142, 2, some 5, T_X5_isThere), (317, 2, some 5, T_X5_isBridge), (69, 3, some 5, T_X5_of), (101, 2, none, T_X5_isOf)], fun _ => none, fun _ => none, fun _ => none, some .int)
theorem zX5_islandOf_B : pm_eB eX5_islandOf = cX5_islandOf := rfl
theorem zX5_islandOf_F : pm_eF eX5_islandOf = fX5 := rfl
theorem zX5_islandOf_R : pm_eR eX5_islandOf = some .int := rfl
theorem zX5_islandOf_X (n : Nat) : pm_eX eX5_islandOf n = none := rfl
theorem zX5_islandOf_C142 : pm_eC eX5_islandOf 142 = some (2, some 5, T_X5_isThere) := rfl
theorem zX5_islandOf_C317 : pm_eC eX5_islandOf 317 = some (2, some 5, T_X5_isBridge) := rfl
theorem zX5_islandOf_C69 : pm_eC eX5_islandOf 69 = some (3, some 5, T_X5_of) := rfl
theorem zX5_islandOf_C101 : pm_eC eX5_islandOf 101 = some (2, none, T_X5_isOf) := rfl
def T_X5_islandOf : pm_T := pm_M eX5_islandOf 5
theorem Ct_X5_islandOf (l : Launch) (sk : Nat → Nat) : pm_Ct l sk yX5_islandOf cX5_islandOf 5 (some .int) 6 (T_X5_islandOf) := pm_met eX5_islandOf (by decide) rfl rfl (fun _ => rfl) (fun _ => rfl) fX5_ok (fun _ _ h => by cases h) (pm_tabC (by
    intro q hq
    simp only [List.mem_cons, List.not_mem_nil, or_false] at hq
    rcases hq with rfl | rfl | rfl | rfl
    · exact pm_cokV (i := 5) (Ct_X5_isThere l sk) ykX5_isThere (by decide) (by decide) rfl rfl (by decide) (by decide +kernel) (pm_WS_mem 1421 (by decide +kernel) rfl)
    · exact pm_cokV (i := 5) (Ct_X5_isBridge l sk) ykX5_isBridge (by decide) (by decide) rfl rfl (by decide) (by decide +kernel) (pm_WS_mem 1580 (by decide +kernel) rfl)
    · exact pm_cokV (i := 5) (Ct_X5_of l sk) ykX5_of (by decide) (by decide) rfl rfl (by decide) (by decide +kernel) (pm_WS_mem 1374 (by decide +kernel) rfl)
    · exact pm_cokS (Ct_X5_isOf l sk) ykX5_isOf (by decide) (by decide) (by decide +kernel) (Or.inl (pm_WS_mem 1409 (by decide +kernel) rfl))))
theorem ykX5_node : pm_YV yX5_node cX5_node 3 (some .int) := ⟨(pm_WS_mem 1555 (by decide +kernel) rfl), (pm_WS_mem 130 (by decide +kernel) rfl), ⟨by decide +kernel, by decide +kernel⟩, (pm_WS_mem 1553 (by decide +kernel) rfl), (pm_WS_mem 1554 (by decide +kernel) rfl)⟩
def eX5_node : pm_E := (cX5_node, fX5, pm_as [(105, 2, some 5, T_X5_isNode), (61, 3, none, T_X5_isIn), (116, 3, some 5, T_X5_partOf), (283, 3, some 5, T_X5_cablesOf), (287, 2, some 5, T_X5_span), (290, 2, some 5, T_X5_islandOf)], fun _ => none, fun _ => none, fun _ => none, some .int)
theorem zX5_node_B : pm_eB eX5_node = cX5_node := rfl
theorem zX5_node_F : pm_eF eX5_node = fX5 := rfl
theorem zX5_node_R : pm_eR eX5_node = some .int := rfl
theorem zX5_node_X (n : Nat) : pm_eX eX5_node n = none := rfl
theorem zX5_node_C105 : pm_eC eX5_node 105 = some (2, some 5, T_X5_isNode) := rfl
theorem zX5_node_C61 : pm_eC eX5_node 61 = some (3, none, T_X5_isIn) := rfl
theorem zX5_node_C116 : pm_eC eX5_node 116 = some (3, some 5, T_X5_partOf) := rfl
theorem zX5_node_C283 : pm_eC eX5_node 283 = some (3, some 5, T_X5_cablesOf) := rfl
theorem zX5_node_C287 : pm_eC eX5_node 287 = some (2, some 5, T_X5_span) := rfl
theorem zX5_node_C290 : pm_eC eX5_node 290 = some (2, some 5, T_X5_islandOf) := rfl
def T_X5_node : pm_T := pm_M eX5_node 3
theorem Ct_X5_node (l : Launch) (sk : Nat → Nat) : pm_Ct l sk yX5_node cX5_node 3 (some .int) 7 (T_X5_node) := pm_met eX5_node (by decide) rfl rfl (fun _ => rfl) (fun _ => rfl) fX5_ok (fun _ _ h => by cases h) (pm_tabC (by
    intro q hq
    simp only [List.mem_cons, List.not_mem_nil, or_false] at hq
    rcases hq with rfl | rfl | rfl | rfl | rfl | rfl
    · exact pm_cokV (i := 5) (Ct_X5_isNode l sk) ykX5_isNode (by decide) (by decide) rfl rfl (by decide) (by decide +kernel) (pm_WS_mem 1358 (by decide +kernel) rfl)
    · exact pm_cokS (Ct_X5_isIn l sk) ykX5_isIn (by decide) (by decide) (by decide +kernel) (Or.inl (pm_WS_mem 1303 (by decide +kernel) rfl))
    · exact pm_cokV (i := 5) (Ct_X5_partOf l sk) ykX5_partOf (by decide) (by decide) rfl rfl (by decide) (by decide +kernel) (pm_WS_mem 1382 (by decide +kernel) rfl)
    · exact pm_cokV (i := 5) (Ct_X5_cablesOf l sk) ykX5_cablesOf (by decide) (by decide) rfl rfl (by decide) (by decide +kernel) (pm_WS_mem 1556 (by decide +kernel) rfl)
    · exact pm_cokV (i := 5) (Ct_X5_span l sk) ykX5_span (by decide) (by decide) rfl rfl (by decide) (by decide +kernel) (pm_WS_mem 1564 (by decide +kernel) rfl)
    · exact pm_cokV (i := 5) (Ct_X5_islandOf l sk) ykX5_islandOf (by decide) (by decide) rfl rfl (by decide) (by decide +kernel) (pm_WS_mem 1576 (by decide +kernel) rfl)))
theorem ykX5_lossOf : pm_YV yX5_lossOf cX5_lossOf 4 (some .int) := ⟨(pm_WS_mem 1591 (by decide +kernel) rfl), (pm_WS_mem 130 (by decide +kernel) rfl), ⟨by decide +kernel, by decide +kernel⟩, (pm_WS_mem 1590 (by decide +kernel) rfl), (pm_WS_mem 100 (by decide +kernel) rfl)⟩
def eX5_lossOf : pm_E := (cX5_lossOf, fX5, pm_as [(317, 2, some 5, T_X5_isBridge), (69, 3, some 5, T_X5_of), (279, 5, some 5, T_X5_spreads), (116, 3, some 5, T_X5_partOf), (119, 1, none, T_X5_members)], fun _ => none, fun _ => none, fun _ => none, some .int)
theorem zX5_lossOf_B : pm_eB eX5_lossOf = cX5_lossOf := rfl
theorem zX5_lossOf_F : pm_eF eX5_lossOf = fX5 := rfl
theorem zX5_lossOf_R : pm_eR eX5_lossOf = some .int := rfl
theorem zX5_lossOf_X (n : Nat) : pm_eX eX5_lossOf n = none := rfl
theorem zX5_lossOf_C317 : pm_eC eX5_lossOf 317 = some (2, some 5, T_X5_isBridge) := rfl
theorem zX5_lossOf_C69 : pm_eC eX5_lossOf 69 = some (3, some 5, T_X5_of) := rfl
theorem zX5_lossOf_C279 : pm_eC eX5_lossOf 279 = some (5, some 5, T_X5_spreads) := rfl
theorem zX5_lossOf_C116 : pm_eC eX5_lossOf 116 = some (3, some 5, T_X5_partOf) := rfl
theorem zX5_lossOf_C119 : pm_eC eX5_lossOf 119 = some (1, none, T_X5_members) := rfl
def T_X5_lossOf : pm_T := pm_M eX5_lossOf 4
theorem Ct_X5_lossOf (l : Launch) (sk : Nat → Nat) : pm_Ct l sk yX5_lossOf cX5_lossOf 4 (some .int) 6 (T_X5_lossOf) := pm_met eX5_lossOf (by decide) rfl rfl (fun _ => rfl) (fun _ => rfl) fX5_ok (fun _ _ h => by cases h) (pm_tabC (by
    intro q hq
    simp only [List.mem_cons, List.not_mem_nil, or_false] at hq
    rcases hq with rfl | rfl | rfl | rfl | rfl
    · exact pm_cokV (i := 5) (Ct_X5_isBridge l sk) ykX5_isBridge (by decide) (by decide) rfl rfl (by decide) (by decide +kernel) (pm_WS_mem 1580 (by decide +kernel) rfl)
    · exact pm_cokV (i := 5) (Ct_X5_of l sk) ykX5_of (by decide) (by decide) rfl rfl (by decide) (by decide +kernel) (pm_WS_mem 1374 (by decide +kernel) rfl)
    · exact pm_cokV (i := 5) (Ct_X5_spreads l sk) ykX5_spreads (by decide) (by decide) rfl rfl (by decide) (by decide +kernel) (pm_WS_mem 1568 (by decide +kernel) rfl)
    · exact pm_cokV (i := 5) (Ct_X5_partOf l sk) ykX5_partOf (by decide) (by decide) rfl rfl (by decide) (by decide +kernel) (pm_WS_mem 1382 (by decide +kernel) rfl)
    · exact pm_cokS (Ct_X5_members l sk) ykX5_members (by decide) (by decide) (by decide +kernel) (Or.inl (pm_WS_mem 1386 (by decide +kernel) rfl))))
theorem ykX5_cable : pm_YV yX5_cable cX5_cable 3 (some .int) := ⟨(pm_WS_mem 1587 (by decide +kernel) rfl), (pm_WS_mem 130 (by decide +kernel) rfl), ⟨by decide +kernel, by decide +kernel⟩, (pm_WS_mem 1585 (by decide +kernel) rfl), (pm_WS_mem 1586 (by decide +kernel) rfl)⟩
def eX5_cable : pm_E := (cX5_cable, fX5, pm_as [(65, 2, some 5, T_X5_isLaid), (61, 3, none, T_X5_isIn), (293, 2, some 5, T_X5_lossOf), (69, 3, some 5, T_X5_of)], fun _ => none, fun _ => none, fun _ => none, some .int)
theorem zX5_cable_B : pm_eB eX5_cable = cX5_cable := rfl
theorem zX5_cable_F : pm_eF eX5_cable = fX5 := rfl
theorem zX5_cable_R : pm_eR eX5_cable = some .int := rfl
theorem zX5_cable_X (n : Nat) : pm_eX eX5_cable n = none := rfl
theorem zX5_cable_C65 : pm_eC eX5_cable 65 = some (2, some 5, T_X5_isLaid) := rfl
theorem zX5_cable_C61 : pm_eC eX5_cable 61 = some (3, none, T_X5_isIn) := rfl
theorem zX5_cable_C293 : pm_eC eX5_cable 293 = some (2, some 5, T_X5_lossOf) := rfl
theorem zX5_cable_C69 : pm_eC eX5_cable 69 = some (3, some 5, T_X5_of) := rfl
def T_X5_cable : pm_T := pm_M eX5_cable 3
theorem Ct_X5_cable (l : Launch) (sk : Nat → Nat) : pm_Ct l sk yX5_cable cX5_cable 3 (some .int) 7 (T_X5_cable) := pm_met eX5_cable (by decide) rfl rfl (fun _ => rfl) (fun _ => rfl) fX5_ok (fun _ _ h => by cases h) (pm_tabC (by
    intro q hq
    simp only [List.mem_cons, List.not_mem_nil, or_false] at hq
    rcases hq with rfl | rfl | rfl | rfl
    · exact pm_cokV (i := 5) (Ct_X5_isLaid l sk) ykX5_isLaid (by decide) (by decide) rfl rfl (by decide) (by decide +kernel) (pm_WS_mem 1425 (by decide +kernel) rfl)
    · exact pm_cokS (Ct_X5_isIn l sk) ykX5_isIn (by decide) (by decide) (by decide +kernel) (Or.inl (pm_WS_mem 1303 (by decide +kernel) rfl))
    · exact pm_cokV (i := 5) (Ct_X5_lossOf l sk) ykX5_lossOf (by decide) (by decide) rfl rfl (by decide) (by decide +kernel) (pm_WS_mem 1588 (by decide +kernel) rfl)
    · exact pm_cokV (i := 5) (Ct_X5_of l sk) ykX5_of (by decide) (by decide) rfl rfl (by decide) (by decide +kernel) (pm_WS_mem 1374 (by decide +kernel) rfl)))
theorem ykX5_isLevel : pm_YV yX5_isLevel cX5_isLevel 2 (some .boolean) := ⟨(pm_WS_mem 1599 (by decide +kernel) rfl), (pm_WS_mem 130 (by decide +kernel) rfl), ⟨by decide +kernel, by decide +kernel⟩, (pm_WS_mem 1598 (by decide +kernel) rfl), (pm_WS_mem 101 (by decide +kernel) rfl)⟩
def eX5_isLevel : pm_E := (cX5_isLevel, fX5, pm_as [(129, 1, some 5, T_X5_height), (61, 3, none, T_X5_isIn)], fun _ => none, fun _ => none, fun _ => none, some .boolean)
theorem zX5_isLevel_B : pm_eB eX5_isLevel = cX5_isLevel := rfl
theorem zX5_isLevel_F : pm_eF eX5_isLevel = fX5 := rfl
theorem zX5_isLevel_R : pm_eR eX5_isLevel = some .boolean := rfl
theorem zX5_isLevel_X (n : Nat) : pm_eX eX5_isLevel n = none := rfl
theorem zX5_isLevel_C129 : pm_eC eX5_isLevel 129 = some (1, some 5, T_X5_height) := rfl
theorem zX5_isLevel_C61 : pm_eC eX5_isLevel 61 = some (3, none, T_X5_isIn) := rfl
def T_X5_isLevel : pm_T := pm_M eX5_isLevel 2
theorem Ct_X5_isLevel (l : Launch) (sk : Nat → Nat) : pm_Ct l sk yX5_isLevel cX5_isLevel 2 (some .boolean) 2 (T_X5_isLevel) := pm_met eX5_isLevel (by decide) rfl rfl (fun _ => rfl) (fun _ => rfl) fX5_ok (fun _ _ h => by cases h) (pm_tabC (by
    intro q hq
    simp only [List.mem_cons, List.not_mem_nil, or_false] at hq
    rcases hq with rfl | rfl
    · exact pm_cokV (i := 5) (Ct_X5_height l sk) ykX5_height (by decide) (by decide) rfl rfl (by decide) (by decide +kernel) (pm_WS_mem 1444 (by decide +kernel) rfl)
    · exact pm_cokS (Ct_X5_isIn l sk) ykX5_isIn (by decide) (by decide) (by decide +kernel) (Or.inl (pm_WS_mem 1303 (by decide +kernel) rfl))))
theorem ykX5_part : pm_YV yX5_part cX5_part 3 (some .int) := ⟨(pm_WS_mem 1595 (by decide +kernel) rfl), (pm_WS_mem 130 (by decide +kernel) rfl), ⟨by decide +kernel, by decide +kernel⟩, (pm_WS_mem 1593 (by decide +kernel) rfl), (pm_WS_mem 1594 (by decide +kernel) rfl)⟩
def eX5_part : pm_E := (cX5_part, fX5, pm_as [(296, 2, some 5, T_X5_isLevel), (105, 2, some 5, T_X5_isNode), (116, 3, some 5, T_X5_partOf)], fun _ => none, fun _ => none, fun _ => none, some .int)
theorem zX5_part_B : pm_eB eX5_part = cX5_part := rfl
theorem zX5_part_F : pm_eF eX5_part = fX5 := rfl
theorem zX5_part_R : pm_eR eX5_part = some .int := rfl
theorem zX5_part_X (n : Nat) : pm_eX eX5_part n = none := rfl
theorem zX5_part_C296 : pm_eC eX5_part 296 = some (2, some 5, T_X5_isLevel) := rfl
theorem zX5_part_C105 : pm_eC eX5_part 105 = some (2, some 5, T_X5_isNode) := rfl
theorem zX5_part_C116 : pm_eC eX5_part 116 = some (3, some 5, T_X5_partOf) := rfl
def T_X5_part : pm_T := pm_M eX5_part 3
theorem Ct_X5_part (l : Launch) (sk : Nat → Nat) : pm_Ct l sk yX5_part cX5_part 3 (some .int) 4 (T_X5_part) := pm_met eX5_part (by decide) rfl rfl (fun _ => rfl) (fun _ => rfl) fX5_ok (fun _ _ h => by cases h) (pm_tabC (by
    intro q hq
    simp only [List.mem_cons, List.not_mem_nil, or_false] at hq
    rcases hq with rfl | rfl | rfl
    · exact pm_cokV (i := 5) (Ct_X5_isLevel l sk) ykX5_isLevel (by decide) (by decide) rfl rfl (by decide) (by decide +kernel) (pm_WS_mem 1596 (by decide +kernel) rfl)
    · exact pm_cokV (i := 5) (Ct_X5_isNode l sk) ykX5_isNode (by decide) (by decide) rfl rfl (by decide) (by decide +kernel) (pm_WS_mem 1358 (by decide +kernel) rfl)
    · exact pm_cokV (i := 5) (Ct_X5_partOf l sk) ykX5_partOf (by decide) (by decide) rfl rfl (by decide) (by decide +kernel) (pm_WS_mem 1382 (by decide +kernel) rfl)))
theorem ykX5_treesOn : pm_YV yX5_treesOn cX5_treesOn 6 (some .int) := ⟨(pm_WS_mem 1495 (by decide +kernel) rfl), (pm_WS_mem 130 (by decide +kernel) rfl), ⟨by decide +kernel, by decide +kernel⟩, (pm_WS_mem 1494 (by decide +kernel) rfl), (pm_WS_mem 89 (by decide +kernel) rfl)⟩
def eX5_treesOn : pm_E := (cX5_treesOn, fX5, pm_as [(98, 4, some 5, T_X5_areOne)], fun _ => none, fun _ => none, fun _ => none, some .int)
theorem zX5_treesOn_B : pm_eB eX5_treesOn = cX5_treesOn := rfl
theorem zX5_treesOn_F : pm_eF eX5_treesOn = fX5 := rfl
theorem zX5_treesOn_R : pm_eR eX5_treesOn = some .int := rfl
theorem zX5_treesOn_X (n : Nat) : pm_eX eX5_treesOn n = none := rfl
theorem zX5_treesOn_C98 : pm_eC eX5_treesOn 98 = some (4, some 5, T_X5_areOne) := rfl
def T_X5_treesOn : pm_T := pm_M eX5_treesOn 6
theorem Ct_X5_treesOn (l : Launch) (sk : Nat → Nat) : pm_Ct l sk yX5_treesOn cX5_treesOn 6 (some .int) 3 (T_X5_treesOn) := pm_met eX5_treesOn (by decide) rfl rfl (fun _ => rfl) (fun _ => rfl) fX5_ok (fun _ _ h => by cases h) (pm_tabC (by
    intro q hq
    simp only [List.mem_cons, List.not_mem_nil, or_false] at hq
    rcases hq with rfl
    · exact pm_cokV (i := 5) (Ct_X5_areOne l sk) ykX5_areOne (by decide) (by decide) rfl rfl (by decide) (by decide +kernel) (pm_WS_mem 1366 (by decide +kernel) rfl)))
theorem ykX5_cablesOn : pm_YV yX5_cablesOn cX5_cablesOn 5 (some .int) := ⟨(pm_WS_mem 1607 (by decide +kernel) rfl), (pm_WS_mem 130 (by decide +kernel) rfl), ⟨by decide +kernel, by decide +kernel⟩, (pm_WS_mem 1606 (by decide +kernel) rfl), (pm_WS_mem 102 (by decide +kernel) rfl)⟩
def eX5_cablesOn : pm_E := (cX5_cablesOn, fX5, pm_as [(69, 3, some 5, T_X5_of)], fun _ => none, fun _ => none, fun _ => none, some .int)
theorem zX5_cablesOn_B : pm_eB eX5_cablesOn = cX5_cablesOn := rfl
theorem zX5_cablesOn_F : pm_eF eX5_cablesOn = fX5 := rfl
theorem zX5_cablesOn_R : pm_eR eX5_cablesOn = some .int := rfl
theorem zX5_cablesOn_X (n : Nat) : pm_eX eX5_cablesOn n = none := rfl
theorem zX5_cablesOn_C69 : pm_eC eX5_cablesOn 69 = some (3, some 5, T_X5_of) := rfl
def T_X5_cablesOn : pm_T := pm_M eX5_cablesOn 5
theorem Ct_X5_cablesOn (l : Launch) (sk : Nat → Nat) : pm_Ct l sk yX5_cablesOn cX5_cablesOn 5 (some .int) 2 (T_X5_cablesOn) := pm_met eX5_cablesOn (by decide) rfl rfl (fun _ => rfl) (fun _ => rfl) fX5_ok (fun _ _ h => by cases h) (pm_tabC (by
    intro q hq
    simp only [List.mem_cons, List.not_mem_nil, or_false] at hq
    rcases hq with rfl
    · exact pm_cokV (i := 5) (Ct_X5_of l sk) ykX5_of (by decide) (by decide) rfl rfl (by decide) (by decide +kernel) (pm_WS_mem 1374 (by decide +kernel) rfl)))
theorem ykX5_greatestOn : pm_YV yX5_greatestOn cX5_greatestOn 4 (some .int) := ⟨(pm_WS_mem 1611 (by decide +kernel) rfl), (pm_WS_mem 130 (by decide +kernel) rfl), ⟨by decide +kernel, by decide +kernel⟩, (pm_WS_mem 1610 (by decide +kernel) rfl), (pm_WS_mem 103 (by decide +kernel) rfl)⟩
def eX5_greatestOn : pm_E := (cX5_greatestOn, fX5, pm_as [(116, 3, some 5, T_X5_partOf), (119, 1, none, T_X5_members)], fun _ => none, fun _ => none, fun _ => none, some .int)
theorem zX5_greatestOn_B : pm_eB eX5_greatestOn = cX5_greatestOn := rfl
theorem zX5_greatestOn_F : pm_eF eX5_greatestOn = fX5 := rfl
theorem zX5_greatestOn_R : pm_eR eX5_greatestOn = some .int := rfl
theorem zX5_greatestOn_X (n : Nat) : pm_eX eX5_greatestOn n = none := rfl
theorem zX5_greatestOn_C116 : pm_eC eX5_greatestOn 116 = some (3, some 5, T_X5_partOf) := rfl
theorem zX5_greatestOn_C119 : pm_eC eX5_greatestOn 119 = some (1, none, T_X5_members) := rfl
def T_X5_greatestOn : pm_T := pm_M eX5_greatestOn 4
theorem Ct_X5_greatestOn (l : Launch) (sk : Nat → Nat) : pm_Ct l sk yX5_greatestOn cX5_greatestOn 4 (some .int) 4 (T_X5_greatestOn) := pm_met eX5_greatestOn (by decide) rfl rfl (fun _ => rfl) (fun _ => rfl) fX5_ok (fun _ _ h => by cases h) (pm_tabC (by
    intro q hq
    simp only [List.mem_cons, List.not_mem_nil, or_false] at hq
    rcases hq with rfl | rfl
    · exact pm_cokV (i := 5) (Ct_X5_partOf l sk) ykX5_partOf (by decide) (by decide) rfl rfl (by decide) (by decide +kernel) (pm_WS_mem 1382 (by decide +kernel) rfl)
    · exact pm_cokS (Ct_X5_members l sk) ykX5_members (by decide) (by decide) (by decide +kernel) (Or.inl (pm_WS_mem 1386 (by decide +kernel) rfl))))
theorem ykX5_level : pm_YV yX5_level cX5_level 3 (some .int) := ⟨(pm_WS_mem 1603 (by decide +kernel) rfl), (pm_WS_mem 130 (by decide +kernel) rfl), ⟨by decide +kernel, by decide +kernel⟩, (pm_WS_mem 1601 (by decide +kernel) rfl), (pm_WS_mem 1602 (by decide +kernel) rfl)⟩
def eX5_level : pm_E := (cX5_level, fX5, pm_as [(296, 2, some 5, T_X5_isLevel), (61, 3, none, T_X5_isIn), (264, 2, some 5, T_X5_treesOn), (299, 3, some 5, T_X5_cablesOn), (302, 2, some 5, T_X5_greatestOn)], fun _ => none, fun _ => none, fun _ => none, some .int)
theorem zX5_level_B : pm_eB eX5_level = cX5_level := rfl
theorem zX5_level_F : pm_eF eX5_level = fX5 := rfl
theorem zX5_level_R : pm_eR eX5_level = some .int := rfl
theorem zX5_level_X (n : Nat) : pm_eX eX5_level n = none := rfl
theorem zX5_level_C296 : pm_eC eX5_level 296 = some (2, some 5, T_X5_isLevel) := rfl
theorem zX5_level_C61 : pm_eC eX5_level 61 = some (3, none, T_X5_isIn) := rfl
theorem zX5_level_C264 : pm_eC eX5_level 264 = some (2, some 5, T_X5_treesOn) := rfl
theorem zX5_level_C299 : pm_eC eX5_level 299 = some (3, some 5, T_X5_cablesOn) := rfl
theorem zX5_level_C302 : pm_eC eX5_level 302 = some (2, some 5, T_X5_greatestOn) := rfl
def T_X5_level : pm_T := pm_M eX5_level 3
theorem Ct_X5_level (l : Launch) (sk : Nat → Nat) : pm_Ct l sk yX5_level cX5_level 3 (some .int) 5 (T_X5_level) := pm_met eX5_level (by decide) rfl rfl (fun _ => rfl) (fun _ => rfl) fX5_ok (fun _ _ h => by cases h) (pm_tabC (by
    intro q hq
    simp only [List.mem_cons, List.not_mem_nil, or_false] at hq
    rcases hq with rfl | rfl | rfl | rfl | rfl
    · exact pm_cokV (i := 5) (Ct_X5_isLevel l sk) ykX5_isLevel (by decide) (by decide) rfl rfl (by decide) (by decide +kernel) (pm_WS_mem 1596 (by decide +kernel) rfl)
    · exact pm_cokS (Ct_X5_isIn l sk) ykX5_isIn (by decide) (by decide) (by decide +kernel) (Or.inl (pm_WS_mem 1303 (by decide +kernel) rfl))
    · exact pm_cokV (i := 5) (Ct_X5_treesOn l sk) ykX5_treesOn (by decide) (by decide) rfl rfl (by decide) (by decide +kernel) (pm_WS_mem 1492 (by decide +kernel) rfl)
    · exact pm_cokV (i := 5) (Ct_X5_cablesOn l sk) ykX5_cablesOn (by decide) (by decide) rfl rfl (by decide) (by decide +kernel) (pm_WS_mem 1604 (by decide +kernel) rfl)
    · exact pm_cokV (i := 5) (Ct_X5_greatestOn l sk) ykX5_greatestOn (by decide) (by decide) rfl rfl (by decide) (by decide +kernel) (pm_WS_mem 1608 (by decide +kernel) rfl)))
theorem ykX5_opens : pm_YV yX5_opens cX5_opens 5 (some .boolean) := ⟨(pm_WS_mem 1619 (by decide +kernel) rfl), (pm_WS_mem 130 (by decide +kernel) rfl), ⟨by decide +kernel, by decide +kernel⟩, (pm_WS_mem 1618 (by decide +kernel) rfl), (pm_WS_mem 104 (by decide +kernel) rfl)⟩
def eX5_opens : pm_E := (cX5_opens, fX5, pm_as [(76, 3, none, T_X5_placeOf)], fun _ => none, fun _ => none, fun _ => none, some .boolean)
theorem zX5_opens_B : pm_eB eX5_opens = cX5_opens := rfl
theorem zX5_opens_F : pm_eF eX5_opens = fX5 := rfl
theorem zX5_opens_R : pm_eR eX5_opens = some .boolean := rfl
theorem zX5_opens_X (n : Nat) : pm_eX eX5_opens n = none := rfl
theorem zX5_opens_C76 : pm_eC eX5_opens 76 = some (3, none, T_X5_placeOf) := rfl
def T_X5_opens : pm_T := pm_M eX5_opens 5
theorem Ct_X5_opens (l : Launch) (sk : Nat → Nat) : pm_Ct l sk yX5_opens cX5_opens 5 (some .boolean) 2 (T_X5_opens) := pm_met eX5_opens (by decide) rfl rfl (fun _ => rfl) (fun _ => rfl) fX5_ok (fun _ _ h => by cases h) (pm_tabC (by
    intro q hq
    simp only [List.mem_cons, List.not_mem_nil, or_false] at hq
    rcases hq with rfl
    · exact pm_cokS (Ct_X5_placeOf l sk) ykX5_placeOf (by decide) (by decide) (by decide +kernel) (Or.inl (pm_WS_mem 1209 (by decide +kernel) rfl))))
theorem ykX5_tour : pm_YV yX5_tour cX5_tour 6 (some .int) := ⟨(pm_WS_mem 1615 (by decide +kernel) rfl), (pm_WS_mem 130 (by decide +kernel) rfl), ⟨by decide +kernel, by decide +kernel⟩, (pm_WS_mem 1613 (by decide +kernel) rfl), (pm_WS_mem 1614 (by decide +kernel) rfl)⟩
def eX5_tour : pm_E := (cX5_tour, fX5, pm_as [(296, 2, some 5, T_X5_isLevel), (105, 2, some 5, T_X5_isNode), (80, 3, some 5, T_X5_slotOf), (83, 3, some 5, T_X5_longOf), (61, 3, none, T_X5_isIn), (76, 3, none, T_X5_placeOf), (305, 4, some 5, T_X5_opens)], fun _ => none, fun _ => none, fun _ => none, some .int)
theorem zX5_tour_B : pm_eB eX5_tour = cX5_tour := rfl
theorem zX5_tour_F : pm_eF eX5_tour = fX5 := rfl
theorem zX5_tour_R : pm_eR eX5_tour = some .int := rfl
theorem zX5_tour_X (n : Nat) : pm_eX eX5_tour n = none := rfl
theorem zX5_tour_C296 : pm_eC eX5_tour 296 = some (2, some 5, T_X5_isLevel) := rfl
theorem zX5_tour_C105 : pm_eC eX5_tour 105 = some (2, some 5, T_X5_isNode) := rfl
theorem zX5_tour_C80 : pm_eC eX5_tour 80 = some (3, some 5, T_X5_slotOf) := rfl
theorem zX5_tour_C83 : pm_eC eX5_tour 83 = some (3, some 5, T_X5_longOf) := rfl
theorem zX5_tour_C61 : pm_eC eX5_tour 61 = some (3, none, T_X5_isIn) := rfl
theorem zX5_tour_C76 : pm_eC eX5_tour 76 = some (3, none, T_X5_placeOf) := rfl
theorem zX5_tour_C305 : pm_eC eX5_tour 305 = some (4, some 5, T_X5_opens) := rfl
def T_X5_tour : pm_T := pm_M eX5_tour 6
theorem Ct_X5_tour (l : Launch) (sk : Nat → Nat) : pm_Ct l sk yX5_tour cX5_tour 6 (some .int) 3 (T_X5_tour) := pm_met eX5_tour (by decide) rfl rfl (fun _ => rfl) (fun _ => rfl) fX5_ok (fun _ _ h => by cases h) (pm_tabC (by
    intro q hq
    simp only [List.mem_cons, List.not_mem_nil, or_false] at hq
    rcases hq with rfl | rfl | rfl | rfl | rfl | rfl | rfl
    · exact pm_cokV (i := 5) (Ct_X5_isLevel l sk) ykX5_isLevel (by decide) (by decide) rfl rfl (by decide) (by decide +kernel) (pm_WS_mem 1596 (by decide +kernel) rfl)
    · exact pm_cokV (i := 5) (Ct_X5_isNode l sk) ykX5_isNode (by decide) (by decide) rfl rfl (by decide) (by decide +kernel) (pm_WS_mem 1358 (by decide +kernel) rfl)
    · exact pm_cokV (i := 5) (Ct_X5_slotOf l sk) ykX5_slotOf (by decide) (by decide) rfl rfl (by decide) (by decide +kernel) (pm_WS_mem 1370 (by decide +kernel) rfl)
    · exact pm_cokV (i := 5) (Ct_X5_longOf l sk) ykX5_longOf (by decide) (by decide) rfl rfl (by decide) (by decide +kernel) (pm_WS_mem 1397 (by decide +kernel) rfl)
    · exact pm_cokS (Ct_X5_isIn l sk) ykX5_isIn (by decide) (by decide) (by decide +kernel) (Or.inl (pm_WS_mem 1303 (by decide +kernel) rfl))
    · exact pm_cokS (Ct_X5_placeOf l sk) ykX5_placeOf (by decide) (by decide) (by decide +kernel) (Or.inl (pm_WS_mem 1209 (by decide +kernel) rfl))
    · exact pm_cokV (i := 5) (Ct_X5_opens l sk) ykX5_opens (by decide) (by decide) rfl rfl (by decide) (by decide +kernel) (pm_WS_mem 1616 (by decide +kernel) rfl)))
theorem ykX5_deep : pm_YV yX5_deep cX5_deep 6 (some .int) := ⟨(pm_WS_mem 1623 (by decide +kernel) rfl), (pm_WS_mem 130 (by decide +kernel) rfl), ⟨by decide +kernel, by decide +kernel⟩, (pm_WS_mem 1621 (by decide +kernel) rfl), (pm_WS_mem 1622 (by decide +kernel) rfl)⟩
def eX5_deep : pm_E := (cX5_deep, fX5, pm_as [(296, 2, some 5, T_X5_isLevel), (105, 2, some 5, T_X5_isNode), (80, 3, some 5, T_X5_slotOf), (76, 3, none, T_X5_placeOf), (305, 4, some 5, T_X5_opens)], fun _ => none, fun _ => none, fun _ => none, some .int)
theorem zX5_deep_B : pm_eB eX5_deep = cX5_deep := rfl
theorem zX5_deep_F : pm_eF eX5_deep = fX5 := rfl
theorem zX5_deep_R : pm_eR eX5_deep = some .int := rfl
theorem zX5_deep_X (n : Nat) : pm_eX eX5_deep n = none := rfl
theorem zX5_deep_C296 : pm_eC eX5_deep 296 = some (2, some 5, T_X5_isLevel) := rfl
theorem zX5_deep_C105 : pm_eC eX5_deep 105 = some (2, some 5, T_X5_isNode) := rfl
theorem zX5_deep_C80 : pm_eC eX5_deep 80 = some (3, some 5, T_X5_slotOf) := rfl
theorem zX5_deep_C76 : pm_eC eX5_deep 76 = some (3, none, T_X5_placeOf) := rfl
theorem zX5_deep_C305 : pm_eC eX5_deep 305 = some (4, some 5, T_X5_opens) := rfl
def T_X5_deep : pm_T := pm_M eX5_deep 6
theorem Ct_X5_deep (l : Launch) (sk : Nat → Nat) : pm_Ct l sk yX5_deep cX5_deep 6 (some .int) 3 (T_X5_deep) := pm_met eX5_deep (by decide) rfl rfl (fun _ => rfl) (fun _ => rfl) fX5_ok (fun _ _ h => by cases h) (pm_tabC (by
    intro q hq
    simp only [List.mem_cons, List.not_mem_nil, or_false] at hq
    rcases hq with rfl | rfl | rfl | rfl | rfl
    · exact pm_cokV (i := 5) (Ct_X5_isLevel l sk) ykX5_isLevel (by decide) (by decide) rfl rfl (by decide) (by decide +kernel) (pm_WS_mem 1596 (by decide +kernel) rfl)
    · exact pm_cokV (i := 5) (Ct_X5_isNode l sk) ykX5_isNode (by decide) (by decide) rfl rfl (by decide) (by decide +kernel) (pm_WS_mem 1358 (by decide +kernel) rfl)
    · exact pm_cokV (i := 5) (Ct_X5_slotOf l sk) ykX5_slotOf (by decide) (by decide) rfl rfl (by decide) (by decide +kernel) (pm_WS_mem 1370 (by decide +kernel) rfl)
    · exact pm_cokS (Ct_X5_placeOf l sk) ykX5_placeOf (by decide) (by decide) (by decide +kernel) (Or.inl (pm_WS_mem 1209 (by decide +kernel) rfl))
    · exact pm_cokV (i := 5) (Ct_X5_opens l sk) ykX5_opens (by decide) (by decide) rfl rfl (by decide) (by decide +kernel) (pm_WS_mem 1616 (by decide +kernel) rfl)))
