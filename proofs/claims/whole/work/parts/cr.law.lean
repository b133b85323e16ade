def eL_law (sk : Nat → Nat) : pm_E := (cL_law, f0, pm_as [(111, 6, some 4, T_X4_feed), (115, 6, some 5, T_X5_feed), (116, 2, some 4, T_X4_end), (119, 2, some 5, T_X5_end), (125, 1, some 5, T_X5_acts sk), (126, 1, some 5, T_X5_thrown), (129, 1, some 4, T_X4_fault), (132, 1, some 5, T_X5_fault), (133, 1, some 4, T_X4_why), (136, 1, some 5, T_X5_why), (140, 2, some 5, T_X5_net), (144, 3, some 5, T_X5_lay), (147, 2, some 5, T_X5_lift), (150, 3, some 5, T_X5_cost), (153, 1, some 5, T_X5_tries sk), (156, 3, some 5, T_X5_swap), (159, 2, some 5, T_X5_fail), (163, 1, some 5, T_X5_tidy), (166, 1, some 5, T_X5_undo), (169, 3, some 5, T_X5_connected), (172, 3, some 5, T_X5_node), (175, 3, some 5, T_X5_cable), (178, 3, some 5, T_X5_part), (181, 3, some 5, T_X5_level), (185, 4, some 5, T_X5_tour), (188, 3, some 5, T_X5_deep), (191, 4, some 5, T_X5_way), (194, 3, some 5, T_X5_near), (197, 2, some 5, T_X5_heir), (200, 3, some 5, T_X5_would), (203, 2, some 5, T_X5_bridge), (206, 4, some 5, T_X5_kin), (209, 4, some 5, T_X5_meet), (212, 3, some 5, T_X5_within), (215, 3, some 5, T_X5_odds), (218, 3, some 5, T_X5_fare), (219, 2, some 4, T_X4_named), (222, 2, some 5, T_X5_named), (225, 3, some 5, T_X5_log), (226, 1, some 4, T_X4_hinges), (229, 1, some 5, T_X5_hinges), (232, 3, some 5, T_X5_cut), (233, 1, some 4, T_X4_image), (236, 1, some 5, T_X5_image), (237, 1, some 4, T_X4_back), (241, 1, some 5, T_X5_back), (242, 2, some 4, T_X4_count), (245, 2, some 5, T_X5_count)], fun _ => none, fun _ => none, fun _ => none, some .boolean)
theorem zL_law_C111 (sk : Nat → Nat) : pm_eC (eL_law sk) 111 = some (6, some 4, T_X4_feed) := rfl
theorem zL_law_C115 (sk : Nat → Nat) : pm_eC (eL_law sk) 115 = some (6, some 5, T_X5_feed) := rfl
theorem zL_law_C116 (sk : Nat → Nat) : pm_eC (eL_law sk) 116 = some (2, some 4, T_X4_end) := rfl
theorem zL_law_C119 (sk : Nat → Nat) : pm_eC (eL_law sk) 119 = some (2, some 5, T_X5_end) := rfl
theorem zL_law_C125 (sk : Nat → Nat) : pm_eC (eL_law sk) 125 = some (1, some 5, (T_X5_acts sk)) := rfl
theorem zL_law_C126 (sk : Nat → Nat) : pm_eC (eL_law sk) 126 = some (1, some 5, T_X5_thrown) := rfl
theorem zL_law_C129 (sk : Nat → Nat) : pm_eC (eL_law sk) 129 = some (1, some 4, T_X4_fault) := rfl
theorem zL_law_C132 (sk : Nat → Nat) : pm_eC (eL_law sk) 132 = some (1, some 5, T_X5_fault) := rfl
theorem zL_law_C133 (sk : Nat → Nat) : pm_eC (eL_law sk) 133 = some (1, some 4, T_X4_why) := rfl
theorem zL_law_C136 (sk : Nat → Nat) : pm_eC (eL_law sk) 136 = some (1, some 5, T_X5_why) := rfl
theorem zL_law_C140 (sk : Nat → Nat) : pm_eC (eL_law sk) 140 = some (2, some 5, T_X5_net) := rfl
theorem zL_law_C144 (sk : Nat → Nat) : pm_eC (eL_law sk) 144 = some (3, some 5, T_X5_lay) := rfl
theorem zL_law_C147 (sk : Nat → Nat) : pm_eC (eL_law sk) 147 = some (2, some 5, T_X5_lift) := rfl
theorem zL_law_C150 (sk : Nat → Nat) : pm_eC (eL_law sk) 150 = some (3, some 5, T_X5_cost) := rfl
theorem zL_law_C153 (sk : Nat → Nat) : pm_eC (eL_law sk) 153 = some (1, some 5, (T_X5_tries sk)) := rfl
theorem zL_law_C156 (sk : Nat → Nat) : pm_eC (eL_law sk) 156 = some (3, some 5, T_X5_swap) := rfl
theorem zL_law_C159 (sk : Nat → Nat) : pm_eC (eL_law sk) 159 = some (2, some 5, T_X5_fail) := rfl
theorem zL_law_C163 (sk : Nat → Nat) : pm_eC (eL_law sk) 163 = some (1, some 5, T_X5_tidy) := rfl
theorem zL_law_C166 (sk : Nat → Nat) : pm_eC (eL_law sk) 166 = some (1, some 5, T_X5_undo) := rfl
theorem zL_law_C169 (sk : Nat → Nat) : pm_eC (eL_law sk) 169 = some (3, some 5, T_X5_connected) := rfl
theorem zL_law_C172 (sk : Nat → Nat) : pm_eC (eL_law sk) 172 = some (3, some 5, T_X5_node) := rfl
theorem zL_law_C175 (sk : Nat → Nat) : pm_eC (eL_law sk) 175 = some (3, some 5, T_X5_cable) := rfl
theorem zL_law_C178 (sk : Nat → Nat) : pm_eC (eL_law sk) 178 = some (3, some 5, T_X5_part) := rfl
theorem zL_law_C181 (sk : Nat → Nat) : pm_eC (eL_law sk) 181 = some (3, some 5, T_X5_level) := rfl
theorem zL_law_C185 (sk : Nat → Nat) : pm_eC (eL_law sk) 185 = some (4, some 5, T_X5_tour) := rfl
theorem zL_law_C188 (sk : Nat → Nat) : pm_eC (eL_law sk) 188 = some (3, some 5, T_X5_deep) := rfl
theorem zL_law_C191 (sk : Nat → Nat) : pm_eC (eL_law sk) 191 = some (4, some 5, T_X5_way) := rfl
theorem zL_law_C194 (sk : Nat → Nat) : pm_eC (eL_law sk) 194 = some (3, some 5, T_X5_near) := rfl
theorem zL_law_C197 (sk : Nat → Nat) : pm_eC (eL_law sk) 197 = some (2, some 5, T_X5_heir) := rfl
theorem zL_law_C200 (sk : Nat → Nat) : pm_eC (eL_law sk) 200 = some (3, some 5, T_X5_would) := rfl
theorem zL_law_C203 (sk : Nat → Nat) : pm_eC (eL_law sk) 203 = some (2, some 5, T_X5_bridge) := rfl
theorem zL_law_C206 (sk : Nat → Nat) : pm_eC (eL_law sk) 206 = some (4, some 5, T_X5_kin) := rfl
theorem zL_law_C209 (sk : Nat → Nat) : pm_eC (eL_law sk) 209 = some (4, some 5, T_X5_meet) := rfl
theorem zL_law_C212 (sk : Nat → Nat) : pm_eC (eL_law sk) 212 = some (3, some 5, T_X5_within) := rfl
theorem zL_law_C215 (sk : Nat → Nat) : pm_eC (eL_law sk) 215 = some (3, some 5, T_X5_odds) := rfl
theorem zL_law_C218 (sk : Nat → Nat) : pm_eC (eL_law sk) 218 = some (3, some 5, T_X5_fare) := rfl
theorem zL_law_C219 (sk : Nat → Nat) : pm_eC (eL_law sk) 219 = some (2, some 4, T_X4_named) := rfl
theorem zL_law_C222 (sk : Nat → Nat) : pm_eC (eL_law sk) 222 = some (2, some 5, T_X5_named) := rfl
theorem zL_law_C225 (sk : Nat → Nat) : pm_eC (eL_law sk) 225 = some (3, some 5, T_X5_log) := rfl
theorem zL_law_C226 (sk : Nat → Nat) : pm_eC (eL_law sk) 226 = some (1, some 4, T_X4_hinges) := rfl
theorem zL_law_C229 (sk : Nat → Nat) : pm_eC (eL_law sk) 229 = some (1, some 5, T_X5_hinges) := rfl
theorem zL_law_C232 (sk : Nat → Nat) : pm_eC (eL_law sk) 232 = some (3, some 5, T_X5_cut) := rfl
theorem zL_law_C233 (sk : Nat → Nat) : pm_eC (eL_law sk) 233 = some (1, some 4, T_X4_image) := rfl
theorem zL_law_C236 (sk : Nat → Nat) : pm_eC (eL_law sk) 236 = some (1, some 5, T_X5_image) := rfl
theorem zL_law_C237 (sk : Nat → Nat) : pm_eC (eL_law sk) 237 = some (1, some 4, T_X4_back) := rfl
theorem zL_law_C241 (sk : Nat → Nat) : pm_eC (eL_law sk) 241 = some (1, some 5, T_X5_back) := rfl
theorem zL_law_C242 (sk : Nat → Nat) : pm_eC (eL_law sk) 242 = some (2, some 4, T_X4_count) := rfl
theorem zL_law_C245 (sk : Nat → Nat) : pm_eC (eL_law sk) 245 = some (2, some 5, T_X5_count) := rfl
set_option maxHeartbeats 4000000 in
theorem lw_cok (l : Launch) (sk : Nat → Nat) : ∀ n k ci T, pm_eC (eL_law sk) n = some (k, ci, T) → pm_COK l sk RL 60 n k ci T := pm_tabC (List.forall_mem_cons.mpr ⟨pm_cokV (n := 111) (k := 6) (i := 4) (Ct_X4_feed l sk) ykX4_feed (by decide) (by decide) rfl rfl (by decide) (by decide +kernel) (pm_WS_mem 352 (by decide +kernel) rfl), List.forall_mem_cons.mpr ⟨pm_cokV (n := 115) (k := 6) (i := 5) (Ct_X5_feed l sk) ykX5_feed (by decide) (by decide) rfl rfl (by decide) (by decide +kernel) (pm_WS_mem 1295 (by decide +kernel) rfl), List.forall_mem_cons.mpr ⟨pm_cokV (n := 116) (k := 2) (i := 4) (Ct_X4_end l sk) ykX4_end (by decide) (by decide) rfl rfl (by decide) (by decide +kernel) (pm_WS_mem 360 (by decide +kernel) rfl), List.forall_mem_cons.mpr ⟨pm_cokV (n := 119) (k := 2) (i := 5) (Ct_X5_end l sk) ykX5_end (by decide) (by decide) rfl rfl (by decide) (by decide +kernel) (pm_WS_mem 1299 (by decide +kernel) rfl), List.forall_mem_cons.mpr ⟨pm_cokV (n := 125) (k := 1) (i := 5) (Ct_X5_acts l sk) ykX5_acts (by decide) (by decide) rfl rfl (by decide) (by decide +kernel) (pm_WS_mem 1306 (by decide +kernel) rfl), List.forall_mem_cons.mpr ⟨pm_cokV (n := 126) (k := 1) (i := 5) (Ct_X5_thrown l sk) ykX5_thrown (by decide) (by decide) rfl rfl (by decide) (by decide +kernel) (pm_WS_mem 1291 (by decide +kernel) rfl), List.forall_mem_cons.mpr ⟨pm_cokV (n := 129) (k := 1) (i := 4) (Ct_X4_fault l sk) ykX4_fault (by decide) (by decide) rfl rfl (by decide) (by decide +kernel) (pm_WS_mem 364 (by decide +kernel) rfl), List.forall_mem_cons.mpr ⟨pm_cokV (n := 132) (k := 1) (i := 5) (Ct_X5_fault l sk) ykX5_fault (by decide) (by decide) rfl rfl (by decide) (by decide +kernel) (pm_WS_mem 1496 (by decide +kernel) rfl), List.forall_mem_cons.mpr ⟨pm_cokV (n := 133) (k := 1) (i := 4) (Ct_X4_why l sk) ykX4_why (by decide) (by decide) rfl rfl (by decide) (by decide +kernel) (pm_WS_mem 368 (by decide +kernel) rfl), List.forall_mem_cons.mpr ⟨pm_cokV (n := 136) (k := 1) (i := 5) (Ct_X5_why l sk) ykX5_why (by decide) (by decide) rfl rfl (by decide) (by decide +kernel) (pm_WS_mem 1500 (by decide +kernel) rfl), List.forall_mem_cons.mpr ⟨pm_cokV (n := 140) (k := 2) (i := 5) (Ct_X5_net l sk) ykX5_net (by decide) (by decide) rfl rfl (by decide) (by decide +kernel) (pm_WS_mem 1504 (by decide +kernel) rfl), List.forall_mem_cons.mpr ⟨pm_cokV (n := 144) (k := 3) (i := 5) (Ct_X5_lay l sk) ykX5_lay (by decide) (by decide) rfl rfl (by decide) (by decide +kernel) (pm_WS_mem 1508 (by decide +kernel) rfl), List.forall_mem_cons.mpr ⟨pm_cokV (n := 147) (k := 2) (i := 5) (Ct_X5_lift l sk) ykX5_lift (by decide) (by decide) rfl rfl (by decide) (by decide +kernel) (pm_WS_mem 1520 (by decide +kernel) rfl), List.forall_mem_cons.mpr ⟨pm_cokV (n := 150) (k := 3) (i := 5) (Ct_X5_cost l sk) ykX5_cost (by decide) (by decide) rfl rfl (by decide) (by decide +kernel) (pm_WS_mem 1524 (by decide +kernel) rfl), List.forall_mem_cons.mpr ⟨pm_cokV (n := 153) (k := 1) (i := 5) (Ct_X5_tries l sk) ykX5_tries (by decide) (by decide) rfl rfl (by decide) (by decide +kernel) (pm_WS_mem 1488 (by decide +kernel) rfl), List.forall_mem_cons.mpr ⟨pm_cokV (n := 156) (k := 3) (i := 5) (Ct_X5_swap l sk) ykX5_swap (by decide) (by decide) rfl rfl (by decide) (by decide +kernel) (pm_WS_mem 1528 (by decide +kernel) rfl), List.forall_mem_cons.mpr ⟨pm_cokV (n := 159) (k := 2) (i := 5) (Ct_X5_fail l sk) ykX5_fail (by decide) (by decide) rfl rfl (by decide) (by decide +kernel) (pm_WS_mem 1536 (by decide +kernel) rfl), List.forall_mem_cons.mpr ⟨pm_cokV (n := 163) (k := 1) (i := 5) (Ct_X5_tidy l sk) ykX5_tidy (by decide) (by decide) rfl rfl (by decide) (by decide +kernel) (pm_WS_mem 1540 (by decide +kernel) rfl), List.forall_mem_cons.mpr ⟨pm_cokV (n := 166) (k := 1) (i := 5) (Ct_X5_undo l sk) ykX5_undo (by decide) (by decide) rfl rfl (by decide) (by decide +kernel) (pm_WS_mem 1544 (by decide +kernel) rfl), List.forall_mem_cons.mpr ⟨pm_cokV (n := 169) (k := 3) (i := 5) (Ct_X5_connected l sk) ykX5_connected (by decide) (by decide) rfl rfl (by decide) (by decide +kernel) (pm_WS_mem 1548 (by decide +kernel) rfl), List.forall_mem_cons.mpr ⟨pm_cokV (n := 172) (k := 3) (i := 5) (Ct_X5_node l sk) ykX5_node (by decide) (by decide) rfl rfl (by decide) (by decide +kernel) (pm_WS_mem 1552 (by decide +kernel) rfl), List.forall_mem_cons.mpr ⟨pm_cokV (n := 175) (k := 3) (i := 5) (Ct_X5_cable l sk) ykX5_cable (by decide) (by decide) rfl rfl (by decide) (by decide +kernel) (pm_WS_mem 1584 (by decide +kernel) rfl), List.forall_mem_cons.mpr ⟨pm_cokV (n := 178) (k := 3) (i := 5) (Ct_X5_part l sk) ykX5_part (by decide) (by decide) rfl rfl (by decide) (by decide +kernel) (pm_WS_mem 1592 (by decide +kernel) rfl), List.forall_mem_cons.mpr ⟨pm_cokV (n := 181) (k := 3) (i := 5) (Ct_X5_level l sk) ykX5_level (by decide) (by decide) rfl rfl (by decide) (by decide +kernel) (pm_WS_mem 1600 (by decide +kernel) rfl), List.forall_mem_cons.mpr ⟨pm_cokV (n := 185) (k := 4) (i := 5) (Ct_X5_tour l sk) ykX5_tour (by decide) (by decide) rfl rfl (by decide) (by decide +kernel) (pm_WS_mem 1612 (by decide +kernel) rfl), List.forall_mem_cons.mpr ⟨pm_cokV (n := 188) (k := 3) (i := 5) (Ct_X5_deep l sk) ykX5_deep (by decide) (by decide) rfl rfl (by decide) (by decide +kernel) (pm_WS_mem 1620 (by decide +kernel) rfl), List.forall_mem_cons.mpr ⟨pm_cokV (n := 191) (k := 4) (i := 5) (Ct_X5_way l sk) ykX5_way (by decide) (by decide) rfl rfl (by decide) (by decide +kernel) (pm_WS_mem 1624 (by decide +kernel) rfl), List.forall_mem_cons.mpr ⟨pm_cokV (n := 194) (k := 3) (i := 5) (Ct_X5_near l sk) ykX5_near (by decide) (by decide) rfl rfl (by decide) (by decide +kernel) (pm_WS_mem 1628 (by decide +kernel) rfl), List.forall_mem_cons.mpr ⟨pm_cokV (n := 197) (k := 2) (i := 5) (Ct_X5_heir l sk) ykX5_heir (by decide) (by decide) rfl rfl (by decide) (by decide +kernel) (pm_WS_mem 1632 (by decide +kernel) rfl), List.forall_mem_cons.mpr ⟨pm_cokV (n := 200) (k := 3) (i := 5) (Ct_X5_would l sk) ykX5_would (by decide) (by decide) rfl rfl (by decide) (by decide +kernel) (pm_WS_mem 1640 (by decide +kernel) rfl), List.forall_mem_cons.mpr ⟨pm_cokV (n := 203) (k := 2) (i := 5) (Ct_X5_bridge l sk) ykX5_bridge (by decide) (by decide) rfl rfl (by decide) (by decide +kernel) (pm_WS_mem 1644 (by decide +kernel) rfl), List.forall_mem_cons.mpr ⟨pm_cokV (n := 206) (k := 4) (i := 5) (Ct_X5_kin l sk) ykX5_kin (by decide) (by decide) rfl rfl (by decide) (by decide +kernel) (pm_WS_mem 1700 (by decide +kernel) rfl), List.forall_mem_cons.mpr ⟨pm_cokV (n := 209) (k := 4) (i := 5) (Ct_X5_meet l sk) ykX5_meet (by decide) (by decide) rfl rfl (by decide) (by decide +kernel) (pm_WS_mem 1720 (by decide +kernel) rfl), List.forall_mem_cons.mpr ⟨pm_cokV (n := 212) (k := 3) (i := 5) (Ct_X5_within l sk) ykX5_within (by decide) (by decide) rfl rfl (by decide) (by decide +kernel) (pm_WS_mem 1672 (by decide +kernel) rfl), List.forall_mem_cons.mpr ⟨pm_cokV (n := 215) (k := 3) (i := 5) (Ct_X5_odds l sk) ykX5_odds (by decide) (by decide) rfl rfl (by decide) (by decide +kernel) (pm_WS_mem 1676 (by decide +kernel) rfl), List.forall_mem_cons.mpr ⟨pm_cokV (n := 218) (k := 3) (i := 5) (Ct_X5_fare l sk) ykX5_fare (by decide) (by decide) rfl rfl (by decide) (by decide +kernel) (pm_WS_mem 1688 (by decide +kernel) rfl), List.forall_mem_cons.mpr ⟨pm_cokV (n := 219) (k := 2) (i := 4) (Ct_X4_named l sk) ykX4_named (by decide) (by decide) rfl rfl (by decide) (by decide +kernel) (pm_WS_mem 610 (by decide +kernel) rfl), List.forall_mem_cons.mpr ⟨pm_cokV (n := 222) (k := 2) (i := 5) (Ct_X5_named l sk) ykX5_named (by decide) (by decide) rfl rfl (by decide) (by decide +kernel) (pm_WS_mem 1696 (by decide +kernel) rfl), List.forall_mem_cons.mpr ⟨pm_cokV (n := 225) (k := 3) (i := 5) (Ct_X5_log l sk) ykX5_log (by decide) (by decide) rfl rfl (by decide) (by decide +kernel) (pm_WS_mem 1724 (by decide +kernel) rfl), List.forall_mem_cons.mpr ⟨pm_cokV (n := 226) (k := 1) (i := 4) (Ct_X4_hinges l sk) ykX4_hinges (by decide) (by decide) rfl rfl (by decide) (by decide +kernel) (pm_WS_mem 614 (by decide +kernel) rfl), List.forall_mem_cons.mpr ⟨pm_cokV (n := 229) (k := 1) (i := 5) (Ct_X5_hinges l sk) ykX5_hinges (by decide) (by decide) rfl rfl (by decide) (by decide +kernel) (pm_WS_mem 1648 (by decide +kernel) rfl), List.forall_mem_cons.mpr ⟨pm_cokV (n := 232) (k := 3) (i := 5) (Ct_X5_cut l sk) ykX5_cut (by decide) (by decide) rfl rfl (by decide) (by decide +kernel) (pm_WS_mem 1656 (by decide +kernel) rfl), List.forall_mem_cons.mpr ⟨pm_cokV (n := 233) (k := 1) (i := 4) (Ct_X4_image l sk) ykX4_image (by decide) (by decide) rfl rfl (by decide) (by decide +kernel) (pm_WS_mem 634 (by decide +kernel) rfl), List.forall_mem_cons.mpr ⟨pm_cokV (n := 236) (k := 1) (i := 5) (Ct_X5_image l sk) ykX5_image (by decide) (by decide) rfl rfl (by decide) (by decide +kernel) (pm_WS_mem 1728 (by decide +kernel) rfl), List.forall_mem_cons.mpr ⟨pm_cokV (n := 237) (k := 1) (i := 4) (Ct_X4_back l sk) ykX4_back (by decide) (by decide) rfl rfl (by decide) (by decide +kernel) (pm_WS_mem 638 (by decide +kernel) rfl), List.forall_mem_cons.mpr ⟨pm_cokV (n := 241) (k := 1) (i := 5) (Ct_X5_back l sk) ykX5_back (by decide) (by decide) rfl rfl (by decide) (by decide +kernel) (pm_WS_mem 1732 (by decide +kernel) rfl), List.forall_mem_cons.mpr ⟨pm_cokV (n := 242) (k := 2) (i := 4) (Ct_X4_count l sk) ykX4_count (by decide) (by decide) rfl rfl (by decide) (by decide +kernel) (pm_WS_mem 642 (by decide +kernel) rfl), List.forall_mem_cons.mpr ⟨pm_cokV (n := 245) (k := 2) (i := 5) (Ct_X5_count l sk) ykX5_count (by decide) (by decide) rfl rfl (by decide) (by decide +kernel) (pm_WS_mem 1736 (by decide +kernel) rfl), fun _ h => absurd h List.not_mem_nil⟩⟩⟩⟩⟩⟩⟩⟩⟩⟩⟩⟩⟩⟩⟩⟩⟩⟩⟩⟩⟩⟩⟩⟩⟩⟩⟩⟩⟩⟩⟩⟩⟩⟩⟩⟩⟩⟩⟩⟩⟩⟩⟩⟩⟩⟩⟩⟩)
/-! what the law stands on: the machine's own rules at its frame, at any count of cells -/
def ly_A (s : State) : Nat → Prop := fun q => s.heap.size ≤ q
def ly_C (p : Program) (l : Launch) (s : State) (m : MethodId) (meth : Method) (c : Code) (b L : Nat) (xs : Nat → Int32) (sk sv : Nat → Nat) (G : va_G) (cI cJ : ClassId) (cR : Nat → ClassId) : Prop := lw_At p s m meth c b L xs ∧ l.stackTraces = false ∧ pm_KK G cI cJ cR s ∧ pm_St sk sv (ly_A s) s s.heap ∧ (∀ q ∈ pw_NC, va_Nc q.1 q.2 s) ∧ ct_AO s ∧ L ≤ 3072
def ly_G (p : Program) (l : Launch) (e : Env) (s : State) (m : MethodId) (below : List Frame) (meth : Method) (c : Code) (b : Nat) (G : va_G) (cI cJ : ClassId) (cR : Nat → ClassId) (a w : Nat) : pm_K := pm_XW p l e room_1 s m #[Value.ref b] below meth c a w (lw_Z below #[Value.ref b] s) G vwCl cI cJ cR (ly_A s) 7
def ly_P : pm_P := fun v _ => v = some (.inl 1)
def ly_S (sk : Nat → Nat) (Y : pm_K) : Prop := ∀ pc lv st f, pm_S (eL_law sk) ly_P (fun _ _ => False) Y pc lv st f → Y pc lv st f
def ly_RD (Y : pm_K) (b L : Nat) (xs : Nat → Int32) : Prop := ∀ (pc : Nat) (lv : pm_L) (st : List pm_V) (f : pm_H) (j : Nat), j < L → decode code pc = .ok (.iaload, 1) → Y (pc + 1) lv (.inl (xs j).toInt :: st) f → Y pc lv (.inl (j : Int) :: .inr (.inl (some b)) :: st) f
def ly_LN (Y : pm_K) (b L : Nat) : Prop := ∀ (pc : Nat) (lv : pm_L) (st : List pm_V) (f : pm_H), decode code pc = .ok (.arraylength, 1) → Y (pc + 1) lv (.inl (L : Int) :: st) f → Y pc lv (.inr (.inl (some b)) :: st) f
def ly_w0 : Cond := Cond.initialized yX4_count.cls
theorem ly_hts {b : Nat} {s : State} (hts : ∀ w ∈ lw_tbl, w.before #[Value.ref b] s = true) : ∀ w ∈ ly_w0 :: pm_WS, w.before #[Value.ref b] s = true := fun w hw => by
  rcases List.mem_cons.mp hw with rfl | hw
  · exact hts _ (List.mem_filter.mp ykX4_count.2.1).1
  · exact hts _ (List.mem_filter.mp hw).1
section LYW
variable {p : Program} {l : Launch} {e : Env} {s : State} {m : MethodId} {below : List Frame} {meth : Method} {c : Code} {b L : Nat} {xs : Nat → Int32} {sk sv : Nat → Nat} {G : va_G} {cI cJ : ClassId} {cR : Nat → ClassId} {a w : Nat}
set_option maxRecDepth 40000 in
theorem ly_st (C : ly_C p l s m meth c b L xs sk sv G cI cJ cR) (ha : a ≤ 601024) (hw : w ≤ 7293034) : ly_S sk (ly_G p l e s m below meth c b G cI cJ cR a w) := by
  obtain ⟨⟨hx, hb, hr, hml, hown, hts, hX, hbl, hlocks, hgv⟩, hlt, hK, hSt, hNC, hAO, hL⟩ := C
  intro pc lv st f h
  refine sg_S (d := 60) (sk := sk) (sv := sv) (own := RL) (a0w := ly_w0) (eL_law sk) (Nat.le_of_ble_eq_true rfl) (Nat.le_of_ble_eq_true rfl) ha hw hx hb hml hown (ly_hts hts) hK hSt (fun _ => rfl) (fun _ => rfl) (fun _ => rfl) (fun _ => rfl) (Or.inr rfl) (lw_cok l sk) ?_ h
  intro pc z f1 ls H locs h1 _ _ hp _ hS
  have hz1 : z = 1 := Sum.inl.inj (Option.some.inj hp)
  subst hz1
  exact va_forget (fun q hq => hS.2.2 q hq) (W.widen (k := 601024) (n := 7293034) ha hw (lw_ret hx hb hr hlocks h1))
theorem ly_rd0 (C : ly_C p l s m meth c b L xs sk sv G cI cJ cR) : ly_RD (ly_G p l e s m below meth c b G cI cJ cR a w) b L xs := by
  obtain ⟨⟨hx, hb, hr, hml, hown, hts, hX, hbl, hlocks, hgv⟩, hlt, hK, hSt, hNC, hAO, hL⟩ := C
  intro pc lv st f j hj hd hk ho hs ls H locs hl hH hS
  obtain ⟨h1, h2, h3⟩ := gw_n (n := j) (by omega)
  have h4 := hk ho (fun v hv => by
    rcases List.mem_cons.mp hv with rfl | hv
    · exact pm_ofI _
    · exact hs v (List.mem_cons_of_mem _ (List.mem_cons_of_mem _ hv))) ls H locs hl hH hS
  have e5 : (List.map pm_cv (.inl (xs j).toInt :: st)) = .int (xs j) :: st.map pm_cv := by
    simp only [List.map_cons, pm_cv, Int32.ofInt_toInt]
  rw [e5] at h4
  refine va_sld (i := Int32.ofInt (j : Int)) hx hb hX hbl (Nat.not_le.mpr hbl) hS (fun z => z.elim h2 (fun z => by rw [h3] at z; omega)) hd ?_
  rw [h3]
  exact h4
theorem ly_ln0 (C : ly_C p l s m meth c b L xs sk sv G cI cJ cR) : ly_LN (ly_G p l e s m below meth c b G cI cJ cR a w) b L := by
  obtain ⟨⟨hx, hb, hr, hml, hown, hts, hX, hbl, hlocks, hgv⟩, hlt, hK, hSt, hNC, hAO, hL⟩ := C
  intro pc lv st f hd hk ho hs ls H locs hl hH hS
  have h4 := hk ho (fun v hv => by
    rcases List.mem_cons.mp hv with rfl | hv
    · exact (gw_n (n := L) (by omega)).1
    · exact hs v (List.mem_cons_of_mem _ hv)) ls H locs hl hH hS
  refine va_slen hx hb hX hbl (Nat.not_le.mpr hbl) hS hd ?_
  have e5 : (List.map pm_cv (.inl (L : Int) :: st)) = .int (Int32.ofNat L) :: st.map pm_cv := rfl
  rw [e5] at h4
  exact h4
/-- a wrapper's call -/
theorem ly_wr (C : ly_C p l s m meth c b L xs sk sv G cI cJ cR) {n k d maxL pc : Nat} {y : MethodName} {cc' : ByteArray} {hh : List (Nat × Nat × Nat × Nat)} {as : List pm_V} {P : pm_P} {f : pm_H} {lv : pm_L} (hM : (∀ v ∈ as, pm_ok v) → vx_Met l y (.codeWith y cc' maxL (some .int) hh :: pm_WS) (pm_rmx d) (pw_Pc sk sv G cI cJ cR as f) (pm_Qc G cI cJ cR P f) (fun _ _ _ => False) 1 6 (pm_dom f)) (hd60 : d ≤ 60) (hm : maxL ≤ 40) (wc : Cond.codeWith y cc' maxL (some .int) hh ∈ pm_WS) (wi : Cond.initialized y.cls ∈ pm_WS) (hne : y.cls ≠ "java/lang/invoke/MethodHandle" ∧ y.cls ≠ "java/lang/invoke/VarHandle") (hpar : (parseMethodDescriptor y.desc).map (fun d => d.parameters.length) = some k) (hlen : as.length = k) (wl : Cond.methodLink RL n y ∈ pm_WS) (wst : Cond.static y ∈ pm_WS) (hd : decode code pc = .ok (.invokestatic n, 3)) (ha : a + 1 ≤ 601024) (hw : w + 6 ≤ 7293034)
    (kk : ∀ v f', P v f' → ly_G p l e s m below meth c b G cI cJ cR (a + 1) (w + 6) (pc + 3) lv (v.toList ++ []) f') : ly_G p l e s m below meth c b G cI cJ cR a w pc lv (as.reverse ++ []) f := by
  obtain ⟨⟨hx, hb, hr, hml, hown, hts, hX, hbl, hlocks, hgv⟩, hlt, hK, hSt, hNC, hAO, hL⟩ := C
  intro ho hs ls H locs hl hH hS
  have hoka : ∀ v ∈ as, pm_ok v := fun v hv => hs v (List.mem_append_left _ (List.mem_reverse.mpr hv))
  have hps0 := pm_preS (as := as) hH hS hK hSt
  have hps : PreS s H (pw_Pc sk sv G cI cJ cR as f) (as.map pm_cv) := ⟨fun a U g mk h => ⟨hps0.1 a U g mk h.1, fun q hq => va_Nc.moved (u := U) (U := U.calling g mk a) (Vm.Alike.refl U.vm) (h.2 q hq)⟩, fun U hU hW => ⟨hps0.2 U hU hW, fun q hq => va_Nc.moved hW.alike (hNC q hq)⟩⟩
  have hG : GoodIn (ly_w0 :: pm_WS) (va_wsS RL n y (.codeWith y cc' maxL (some .int) hh :: pm_WS)) := pm_goodIn fun w hw => by
    unfold va_wsS at hw
    simp only [List.cons_append, List.nil_append, List.mem_cons] at hw
    rcases hw with rfl | rfl | rfl | rfl | hw
    · exact wl
    · exact wst
    · exact wi
    · exact wc
    · exact hw
  have hrun := vx_runSX (cells := a) (slots := w) (locs := locs) (below := below) (p := p) (e := e) (meth := meth) (R := room_1) (As := as.map pm_cv) (rest := []) (n := k) (g := F0 m pc ls ((as.reverse ++ []).map pm_cv)) ⟨hx, hb, hml, hown, ly_hts hts⟩ (hM hoka) (vx_cwSW k (ly_hts hts) hG rfl rfl rfl ⟨hne.1, hne.2, hpar⟩ ⟨by show d + 8 + 1 ≤ 2048; omega, by show 8 + (maxL + 11) + (64 * d + 128) ≤ 84000; omega⟩) hps rfl (by rw [List.length_map]; exact hlen) hl.1 (by simp) (lv_room (Nat.zero_le _)) hd ⟨ha, hw⟩
  have hA : ∀ q, pm_dom f q → ly_A s q := fun q ⟨c0, hc⟩ => (hH q c0 hc).2.1
  have hkeep : ∀ {st₀ t T' : State} {L : List Loc}, st₀.heap = H → T'.heap = t.heap → (∀ q ∈ L, pm_dom f q.base) → va_F (pm_dom f) st₀ t → va_S (ly_A s) s.heap T'.heap (locs ++ L) := fun {st₀ t T' L} h0 e1 hL hF => (vx_keep h0 e1 hS (fun q _ h => hA q h) hA hL hF).2.2
  intro T0 hT0 X
  rcases hrun T0 hT0 X with ⟨v, st₀, t, T', L1, h0, X', hL1, e1, e2, ⟨⟨wv, f', hv, hp, hok', hb'⟩, hF⟩, st⟩ | ⟨q9, st₀, t, T', L1, x, ce, h0, X', hL1, e1, e2, hbad, -⟩
  · cases hv
    obtain ⟨t2, a1, b1⟩ := kk wv f' hp ho (fun v hv => hok' v (by rw [List.append_nil] at hv; exact hv)) ls T'.heap (locs ++ L1) hl (by rw [e1]; exact fun q c0 hc => ⟨(hb' q c0 hc).1, hA q (hb' q c0 hc).2.1, (hb' q c0 hc).2.2⟩) (hkeep h0 e1 hL1 hF) T' rfl X'
    refine ⟨t2, st t2 ?_, b1⟩
    have e3 : (Option.map pm_cv wv).toList ++ [] = (wv.toList ++ []).map pm_cv := by cases wv <;> simp
    rw [e3]
    exact a1
  · exact hbad.elim
/-- a call of a method that could throw, but does not -/
theorem ly_tx (C : ly_C p l s m meth c b L xs sk sv G cI cJ cR) {n k pc : Nat} {ci : Option Nat} {T : pm_TX} (hc : pmx_COK l sk RL 60 n k ci T) {as : List pm_V} {f : pm_H} {lv : pm_L} (hd : decode code pc = .ok (.invokevirtual n, 3)) (hlen : as.length = k) (hrcv : pm_rcv ci f as) (ha : a + 1 ≤ 601024) (hw : w + 6 ≤ 7293034) (h : pm_exX T as f (fun v f' => ly_G p l e s m below meth c b G cI cJ cR a w (pc + 3) lv (v.toList ++ []) f') (fun _ _ => False)) : ly_G p l e s m below meth c b G cI cJ cR a w pc lv (as.reverse ++ []) f := by
  obtain ⟨⟨hx, hb, hr, hml, hown, hts, hX, hbl, hlocks, hgv⟩, hlt, hK, hSt, hNC, hAO, hL⟩ := C
  intro ho hs ls H locs hl hH hS
  obtain ⟨P', PX', hT, kk, kx⟩ := h
  have hoka : ∀ v ∈ as, pm_ok v := fun v hv => hs v (List.mem_append_left _ (List.mem_reverse.mpr hv))
  have ok : ∀ w ∈ pm_WS, w.before #[Value.ref b] s = true := fun w hw => ly_hts hts w (List.mem_cons_of_mem _ hw)
  obtain ⟨y, cc', maxL, ret, d', i, q, hCt, hdd, hmx, wc, wi, hne, rfl, hq, hyq, hk0, hpar, v1, v2, v3⟩ := hc
  have hR : (pm_rmx d').frames + 1 ≤ room_1.frames ∧ 8 + (maxL + 11) + (pm_rmx d').locals ≤ room_1.locals := ⟨by show d' + 8 + 1 ≤ 2048; omega, by show 8 + (maxL + 11) + (64 * d' + 128) ≤ 84000; omega⟩
  have hG : GoodIn (ly_w0 :: pm_WS) (.code y cc' maxL ret :: pm_WS) := pm_goodIn fun w hw => (List.mem_cons.mp hw).elim (fun h => h ▸ wc) id
  obtain ⟨b', fs, as', rfl, hfb⟩ := hrcv.resolve_left (fun z => by rw [z] at hq; simp [vwCl] at hq)
  simp only [List.length_cons] at hlen
  have hps := pm_preS (as := .inr (.inl (some b')) :: as') hH hS hK hSt
  have hrun := pmx_runV (cells := a) (slots := w) (locs := locs) (below := below) (p := p) (e := e) (meth := meth) (R := room_1) (C := q.1) (b := b') (As := as'.map pm_cv) (rest := []) (n := k - 1) (g := F0 m pc ls (((Sum.inr (Sum.inl (some b')) :: as').reverse ++ []).map pm_cv)) ⟨hx, hb, hml, hown, ly_hts hts⟩ (hCt sv G cI cJ cR _ f P' PX' hT hoka) ⟨callB_of (k - 1) (ly_hts hts) hG rfl rfl rfl (ok _ wi) (ok _ v1) ⟨hne.1, hne.2, hpar⟩ hR, ok _ v2, ok _ v3⟩ ⟨hps.1, pm_recv hH hK hfb hq, hps.2⟩ rfl (by rw [List.length_map]; omega) hl.1 (by simp [pm_cv, va_rf]) (lv_room (Nat.zero_le _)) hd ⟨ha, hw⟩
  have hA : ∀ q, pm_dom f q → ly_A s q := fun q ⟨c0, hc⟩ => (hH q c0 hc).2.1
  have hkeep : ∀ {st₀ t T' : State} {L : List Loc}, st₀.heap = H → T'.heap = t.heap → (∀ q ∈ L, pm_dom f q.base) → va_F (pm_dom f) st₀ t → va_S (ly_A s) s.heap T'.heap (locs ++ L) := fun {st₀ t T' L} h0 e1 hL hF => (vx_keep h0 e1 hS (fun q _ h => hA q h) hA hL hF).2.2
  intro T0 hT0 X
  rcases hrun T0 hT0 X with ⟨v, st₀, t, T', L1, h0, X', hL1, e1, e2, ⟨⟨wv, f', hv, hp, hok', hb'⟩, hF⟩, st⟩ | ⟨q9, st₀, t, T', L1, x, ce, h0, X', hL1, e1, e2, ⟨f', hpx, -⟩, -⟩
  · cases hv
    obtain ⟨t2, a1, b1⟩ := kk wv f' hp ho (fun v hv => hok' v (by rw [List.append_nil] at hv; exact hv)) ls T'.heap (locs ++ L1) hl (by rw [e1]; exact fun q c0 hc => ⟨(hb' q c0 hc).1, hA q (hb' q c0 hc).2.1, (hb' q c0 hc).2.2⟩) (hkeep h0 e1 hL1 hF) T' rfl X'
    refine ⟨t2, st t2 ?_, b1⟩
    have e3 : (Option.map pm_cv wv).toList ++ [] = (wv.toList ++ []).map pm_cv := by cases wv <;> simp
    rw [e3]
    exact a1
  · exact (kx _ _ hpx).elim
end LYW
section LYI
variable {sk : Nat → Nat} {Y : pm_K} {pc : Nat} {lv : pm_L} {st : List pm_V} {f : pm_H}
theorem ly_al (S : ly_S sk Y) {n : Fin 4} {q : Nat} (hd : decode code pc = .ok (.aload_n n, 1)) (hl : pm_lg lv n.val = some (.inr (.inl (some q)))) (hk : Y (pc + 1) lv (.inr (.inl (some q)) :: st) f) : Y pc lv st f := by
  refine S pc lv st f ?_
  show pm_D _ _ _ _ (decode code pc) pc lv st f
  rw [hd]
  show pm_kR (pm_lg lv n.val) _
  rw [hl]
  exact hk
theorem ly_il (S : ly_S sk Y) {n : Nat} {z : Int} (hd : decode code pc = .ok (.iload n, 2)) (hl : pm_lg lv n = some (.inl z)) (hk : Y (pc + 2) lv (.inl z :: st) f) : Y pc lv st f := by
  refine S pc lv st f ?_
  show pm_D _ _ _ _ (decode code pc) pc lv st f
  rw [hd]
  show pm_kI (pm_lg lv n) _
  rw [hl]
  exact hk
theorem ly_ic (S : ly_S sk Y) {n : Int} (hd : decode code pc = .ok (.iconst n, 1)) (hn : -1 ≤ n ∧ n ≤ 5) (hk : Y (pc + 1) lv (.inl n :: st) f) : Y pc lv st f := by
  refine S pc lv st f ?_
  show pm_D _ _ _ _ (decode code pc) pc lv st f
  rw [hd]
  exact ⟨hn, hk⟩
theorem ly_bi (S : ly_S sk Y) {n : Int} (hd : decode code pc = .ok (.bipush n, 2)) (hn : -128 ≤ n ∧ n ≤ 127) (hk : Y (pc + 2) lv (.inl n :: st) f) : Y pc lv st f := by
  refine S pc lv st f ?_
  show pm_D _ _ _ _ (decode code pc) pc lv st f
  rw [hd]
  exact ⟨hn, hk⟩
theorem ly_lc (S : ly_S sk Y) {n : Fin 2} (hd : decode code pc = .ok (.lconst n, 1)) (hk : Y (pc + 1) lv (.inr (.inr (Int64.ofNat n.val)) :: st) f) : Y pc lv st f := by
  refine S pc lv st f ?_
  show pm_D _ _ _ _ (decode code pc) pc lv st f
  rw [hd]
  exact hk
theorem ly_add (S : ly_S sk Y) {x y : Int} (hd : decode code pc = .ok (.iadd, 1)) (hn : -2147483648 ≤ x + y ∧ x + y ≤ 2147483647) (hk : Y (pc + 1) lv (.inl (x + y) :: st) f) : Y pc lv (.inl y :: .inl x :: st) f := by
  refine S pc lv _ f ?_
  show pm_D _ _ _ _ (decode code pc) pc lv _ f
  rw [hd]
  exact ⟨hn, hk⟩
theorem ly_sub (S : ly_S sk Y) {x y : Int} (hd : decode code pc = .ok (.isub, 1)) (hn : -2147483648 ≤ x - y ∧ x - y ≤ 2147483647) (hk : Y (pc + 1) lv (.inl (x - y) :: st) f) : Y pc lv (.inl y :: .inl x :: st) f := by
  refine S pc lv _ f ?_
  show pm_D _ _ _ _ (decode code pc) pc lv _ f
  rw [hd]
  exact ⟨hn, hk⟩
theorem ly_and (S : ly_S sk Y) {x y : Int} (hd : decode code pc = .ok (.iand, 1)) (hk : Y (pc + 1) lv (.inl (pm_and x y) :: st) f) : Y pc lv (.inl y :: .inl x :: st) f := by
  refine S pc lv _ f ?_
  show pm_D _ _ _ _ (decode code pc) pc lv _ f
  rw [hd]
  exact hk
theorem ly_is (S : ly_S sk Y) {n : Nat} {z : Int} (hd : decode code pc = .ok (.istore n, 2)) (hn : n < lv.length) (hk : Y (pc + 2) (pm_ls lv n (.inl z)) st f) : Y pc lv (.inl z :: st) f := by
  refine S pc lv _ f ?_
  show pm_D _ _ _ _ (decode code pc) pc lv _ f
  rw [hd]
  exact ⟨hn, hk⟩
theorem ly_as (S : ly_S sk Y) {n : Fin 4} {q : Nat} (hd : decode code pc = .ok (.astore_n n, 1)) (hn : n.val < lv.length) (hk : Y (pc + 1) (pm_ls lv n.val (.inr (.inl (some q)))) st f) : Y pc lv (.inr (.inl (some q)) :: st) f := by
  refine S pc lv _ f ?_
  show pm_D _ _ _ _ (decode code pc) pc lv _ f
  rw [hd]
  exact ⟨hn, hk⟩
theorem ly_inc (S : ly_S sk Y) {n : Nat} {k z : Int} (hd : decode code pc = .ok (.iinc n k, 3)) (hl : pm_lg lv n = some (.inl z)) (hz : -2147483648 ≤ z + k ∧ z + k ≤ 2147483647) (hk : Y (pc + 3) (pm_ls lv n (.inl (z + k))) st f) : Y pc lv st f := by
  refine S pc lv st f ?_
  show pm_D _ _ _ _ (decode code pc) pc lv st f
  rw [hd]
  show pm_kI (pm_lg lv n) _
  rw [hl]
  exact ⟨hz, hk⟩
theorem ly_gt (S : ly_S sk Y) {o : Int} {t : Nat} (hd : decode code pc = .ok (.goto o, 3)) (ht : pm_tg pc o = some t) (hk : Y t lv st f) : Y pc lv st f := by
  refine S pc lv st f ?_
  show pm_D _ _ _ _ (decode code pc) pc lv st f
  rw [hd]
  show pm_kt (pm_tg pc o) _
  rw [ht]
  exact hk
theorem ly_eqT (S : ly_S sk Y) {o x y : Int} {t : Nat} (hd : decode code pc = .ok (.if_icmp .eq o, 3)) (ht : pm_tg pc o = some t) (hxy : x = y) (hk : Y t lv st f) : Y pc lv (.inl y :: .inl x :: st) f := by
  refine S pc lv _ f ?_
  show pm_D _ _ _ _ (decode code pc) pc lv _ f
  rw [hd]
  show pm_kt (pm_tg pc o) _
  rw [ht]
  show if x = y then Y t lv st f else Y (pc + 3) lv st f
  rw [if_pos hxy]
  exact hk
theorem ly_gtT (S : ly_S sk Y) {o x y : Int} {t : Nat} (hd : decode code pc = .ok (.if_icmp .gt o, 3)) (ht : pm_tg pc o = some t) (hk : y < x → Y t lv st f) (hf : ¬ y < x → Y (pc + 3) lv st f) : Y pc lv (.inl y :: .inl x :: st) f := by
  refine S pc lv _ f ?_
  show pm_D _ _ _ _ (decode code pc) pc lv _ f
  rw [hd]
  show pm_kt (pm_tg pc o) _
  rw [ht]
  show if y < x then Y t lv st f else Y (pc + 3) lv st f
  by_cases h : y < x
  · rw [if_pos h]; exact hk h
  · rw [if_neg h]; exact hf h
theorem ly_ne (S : ly_S sk Y) {o x : Int} {t : Nat} (hd : decode code pc = .ok (.ifCond .ne o, 3)) (ht : pm_tg pc o = some t) (h0 : x = 0 → Y (pc + 3) lv st f) (h1 : x ≠ 0 → Y t lv st f) : Y pc lv (.inl x :: st) f := by
  refine S pc lv _ f ?_
  show pm_D _ _ _ _ (decode code pc) pc lv _ f
  rw [hd]
  show pm_kt (pm_tg pc o) _
  rw [ht]
  show if x = 0 then Y (pc + 3) lv st f else Y t lv st f
  by_cases h : x = 0
  · rw [if_pos h]; exact h0 h
  · rw [if_neg h]; exact h1 h
theorem ly_eq (S : ly_S sk Y) {o x : Int} {t : Nat} (hd : decode code pc = .ok (.ifCond .eq o, 3)) (ht : pm_tg pc o = some t) (h0 : x = 0 → Y t lv st f) (h1 : x ≠ 0 → Y (pc + 3) lv st f) : Y pc lv (.inl x :: st) f := by
  refine S pc lv _ f ?_
  show pm_D _ _ _ _ (decode code pc) pc lv _ f
  rw [hd]
  show pm_kt (pm_tg pc o) _
  rw [ht]
  show if x = 0 then Y t lv st f else Y (pc + 3) lv st f
  by_cases h : x = 0
  · rw [if_pos h]; exact h0 h
  · rw [if_neg h]; exact h1 h
theorem ly_la (S : ly_S sk Y) {o n : Nat} {i : Int} {g : Nat → Int64} (hd : decode code pc = .ok (.laload, 1)) (hf : f o = some (.inr (.inr (.inl (n, g))))) (hi : 0 ≤ i ∧ i < (n : Int)) (hk : Y (pc + 1) lv (.inr (.inr (g i.toNat)) :: st) f) : Y pc lv (.inl i :: .inr (.inl (some o)) :: st) f := by
  refine S pc lv _ f ?_
  show pm_D _ _ _ _ (decode code pc) pc lv _ f
  rw [hd]
  show pm_al (f o) _
  rw [hf]
  exact ⟨hi, hk⟩
theorem ly_i2l (S : ly_S sk Y) {x : Int} (hd : decode code pc = .ok (.i2l, 1)) (hk : Y (pc + 1) lv (.inr (.inr (pm_i2l x)) :: st) f) : Y pc lv (.inl x :: st) f := by
  refine S pc lv _ f ?_
  show pm_D _ _ _ _ (decode code pc) pc lv _ f
  rw [hd]
  exact hk
theorem ly_lcmp (S : ly_S sk Y) {x y : Int64} (hd : decode code pc = .ok (.lcmp, 1)) (hk : Y (pc + 1) lv (.inl (pm_lcmp x y) :: st) f) : Y pc lv (.inr (.inr y) :: .inr (.inr x) :: st) f := by
  refine S pc lv _ f ?_
  show pm_D _ _ _ _ (decode code pc) pc lv _ f
  rw [hd]
  exact hk
theorem ly_ret (S : ly_S sk Y) (hd : decode code pc = .ok (.ireturn, 1)) : Y pc lv [.inl 1] f := by
  refine S pc lv _ f ?_
  show pm_D _ _ _ _ (decode code pc) pc lv _ f
  rw [hd]
  exact ⟨Or.inr rfl, rfl⟩
theorem ly_iv (S : ly_S sk Y) {n k ci : Nat} {T : pm_T} {as r : List pm_V} (hd : decode code pc = .ok (.invokevirtual n, 3)) (hC : pm_eC (eL_law sk) n = some (k, some ci, T)) (hp : pm_pop k [] st = some (as, r)) (hr : pm_rcv (some ci) f as) (hcat : pm_cat r ≤ 8) (h : pm_ex T as f (fun v f' => Y (pc + 3) lv (v.toList ++ r) f')) : Y pc lv st f := by
  refine S pc lv st f ?_
  show pm_D _ _ _ _ (decode code pc) pc lv st f
  rw [hd]
  show pm_call true (pm_eC (eL_law sk) n) st f _
  rw [hC]
  show (match pm_pop k [] st with
    | some (as, r) => (some ci).isSome = true ∧ pm_rcv (some ci) f as ∧ pm_cat r ≤ 8 ∧ pm_ex T as f (fun v f' => Y (pc + 3) lv (v.toList ++ r) f')
    | none => False)
  rw [hp]
  exact ⟨rfl, hr, hcat, h⟩
theorem ly_swl {k : Int → Prop} {x d : Int} : ∀ (os : List Int) (lo : Int), (∀ o ∈ os, k o) → k d → pm_sw x k d lo os
  | [], _, _, hd => hd
  | o :: os, lo, h, hd => by
    unfold pm_sw
    split
    · exact h o List.mem_cons_self
    · exact ly_swl os (lo + 1) (fun q hq => h q (List.mem_cons_of_mem _ hq)) hd
theorem ly_sw (S : ly_S sk Y) {x d lo hi : Int} {offs : Array Int} {len : Nat} (hd : decode code pc = .ok (.tableswitch d lo hi offs, len)) (hlen : hi - lo + 1 = (offs.toList.length : Int)) (h : ∀ o ∈ offs.toList, ∃ t, pm_tg pc o = some t ∧ Y t lv st f) (h0 : ∃ t, pm_tg pc d = some t ∧ Y t lv st f) : Y pc lv (.inl x :: st) f := by
  refine S pc lv _ f ?_
  show pm_D _ _ _ _ (decode code pc) pc lv _ f
  rw [hd]
  have hq : ∀ o : Int, (∃ t, pm_tg pc o = some t ∧ Y t lv st f) → pm_kt (pm_tg pc o) (fun t => Y t lv st f) := fun o ⟨t, e, hy⟩ => by rw [e]; exact hy
  exact ⟨hlen, ly_swl _ _ (fun o ho => hq o (h o ho)) (hq d h0)⟩
end LYI
/-- the law's locals -/
abbrev ly_V (b c mb o i : Nat) (w5 w6 : Option pm_V) : pm_L := [some (.inr (.inl (some b))), some (.inr (.inl (some c))), some (.inr (.inl (some mb))), some (.inr (.inl (some o))), some (.inl (i : Int)), w5, w6]
section LYJ
variable {sk : Nat → Nat} {Y : pm_K} {pc : Nat} {st : List pm_V} {f : pm_H} {b c mb o i L : Nat} {w5 w6 : Option pm_V} {xs : Nat → Int32}
theorem ly_i5 (S : ly_S sk Y) {z : Int} (hd : decode code pc = .ok (.istore 5, 2)) (hk : Y (pc + 2) (ly_V b c mb o i (some (.inl z)) w6) st f) : Y pc (ly_V b c mb o i w5 w6) (.inl z :: st) f :=
  ly_is S hd (by show 5 < 7; omega) hk
theorem ly_i6 (S : ly_S sk Y) {z y : Int} (hd : decode code pc = .ok (.istore 6, 2)) (hk : Y (pc + 2) (ly_V b c mb o i (some (.inl y)) (some (.inl z))) st f) : Y pc (ly_V b c mb o i (some (.inl y)) w6) (.inl z :: st) f :=
  ly_is S hd (by show 6 < 7; omega) hk
/-- script[i + k] -/
theorem ly_rd (S : ly_S sk Y) (R : ly_RD Y b L xs) (hL : L ≤ 3072) (hi : i + 6 ≤ L) {kz : Int} (k : Nat) (hkz : kz = (k : Int)) (hk5 : k ≤ 5) (d0 : decode code pc = .ok (.aload_n 0, 1)) (d1 : decode code (pc + 1) = .ok (.iload 4, 2)) (d3 : decode code (pc + 3) = .ok (.iconst kz, 1)) (d4 : decode code (pc + 4) = .ok (.iadd, 1)) (d5 : decode code (pc + 5) = .ok (.iaload, 1)) (hk : Y (pc + 6) (ly_V b c mb o i w5 w6) (.inl (xs (i + k)).toInt :: st) f) : Y pc (ly_V b c mb o i w5 w6) st f := by
  refine ly_al S d0 rfl ?_
  refine ly_il S (pc := pc + 1) d1 rfl ?_
  refine ly_ic S (pc := pc + 3) d3 (by omega) ?_
  refine ly_add S (pc := pc + 4) d4 (by omega) ?_
  have e : (i : Int) + kz = ((i + k : Nat) : Int) := by omega
  rw [e]
  exact R (pc + 5) _ _ _ (i + k) (by omega) d5 hk
theorem ly_end (S : ly_S sk Y) (hi : i ≤ 3072) (hk : Y 23 (ly_V b c mb o (i + 6) w5 w6) st f) : Y 2266 (ly_V b c mb o i w5 w6) st f := by
  refine ly_inc S (z := (i : Int)) dL_law_2266 rfl (by omega) ?_
  refine ly_gt S (t := 23) dL_law_2269 (by decide) ?_
  exact hk
end LYJ

