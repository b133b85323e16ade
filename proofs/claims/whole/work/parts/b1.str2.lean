section PMS2
def ps_kC : pm_T := fun as f P => ∃ (x n : Int) (r : Option Nat), as = [.inl x, .inl n, .inr (.inl r)] ∧ 0 ≤ x ∧ x < n ∧ P (some (.inl x)) f
theorem ps_check3 {l : Launch} {sk : Nat → Nat} : pm_Ct l sk yJ3_checkIndex_8e157 cJ3_checkIndex_8e157 3 (some .int) 1 ps_kC := by
  refine ps_met (T := fun _ => ps_kC) (by decide +kernel) ?_ ?_
  · rintro sv as f P ⟨x, n, r, rfl, hx0, hxn, hP⟩
    exact Nat.le_refl 3
  · rintro p e s m args below meth c sv G cI cJ cR as f P ls ⟨x, n, r, rfl, hx0, hxn, hP⟩ hok hx hb hr hlocks hml hown hts hK hSt hH hl hq
    have i1 : pm_in x := hok (.inl x) (by simp)
    have i2 : pm_in n := hok (.inl n) (by simp)
    refine lv_iload_n hx hb dJ3_checkIndex_8e157_0 rfl (hl.2.2.2 0 (.inl x) rfl) ?_
    refine lv_if_lt (tgt := 9) hx hb dJ3_checkIndex_8e157_1 rfl (fun z => by have := (pm_lt i1 pm_in0).mp z; omega) fun _ => ?_
    refine lv_iload_n hx hb dJ3_checkIndex_8e157_4 rfl (hl.2.2.2 0 (.inl x) rfl) ?_
    refine lv_iload_n hx hb dJ3_checkIndex_8e157_5 rfl (hl.2.2.2 1 (.inl n) rfl) ?_
    refine lv_icmp_lt (tgt := 16) hx hb dJ3_checkIndex_8e157_6 rfl (fun _ => ?_) (fun z => absurd ((pm_lt i1 i2).mpr hxn) z)
    refine lv_iload_n hx hb dJ3_checkIndex_8e157_16 rfl (hl.2.2.2 0 (.inl x) rfl) ?_
    exact W.iret hx hb hr (hq (some (.inl x)) _ [] hP (fun w hw => by simp at hw; subst hw; exact i1) hH va_S.rf) (fun q hq => by cases hq) dJ3_checkIndex_8e157_17
def ps_kD : pm_T := fun as f P => ∃ (x n : Int), as = [.inl x, .inl n] ∧ 0 ≤ x ∧ x < n ∧ P none f
theorem ps_check2 {l : Launch} {sk : Nat → Nat} : pm_Ct l sk yJ0_checkIndex_df160 cJ0_checkIndex_df160 2 none 2 ps_kD := by
  refine ps_met (T := fun _ => ps_kD) (by decide +kernel) ?_ ?_
  · rintro sv as f P ⟨x, n, rfl, hx0, hxn, hP⟩
    exact Nat.le_refl 2
  · rintro p e s m args below meth c sv G cI cJ cR as f P ls ⟨x, n, rfl, hx0, hxn, hP⟩ hok hx hb hr hlocks hml hown hts hK hSt hH hl hq
    have ok : ∀ w ∈ pm_WS, w.before args s = true := fun w hw => hts w (List.mem_cons_of_mem _ hw)
    have i1 : pm_in x := hok (.inl x) (by simp)
    have i2 : pm_in n := hok (.inl n) (by simp)
    obtain ⟨r, hr0⟩ : ∃ r : Option Nat, va_Z "jdk/internal/util/Preconditions" "SIOOBE_FORMATTER" "Ljava/util/function/BiFunction;" (va_rf r) (pm_dom f) s s.heap := hSt.2.2.2.2.2.elim (fun h => ⟨none, h⟩) (fun ⟨t, h⟩ => ⟨some t, h⟩)
    refine lv_iload_n hx hb dJ0_checkIndex_df160_0 rfl (hl.2.2.2 0 (.inl x) rfl) ?_
    refine lv_iload_n hx hb dJ0_checkIndex_df160_1 rfl (hl.2.2.2 1 (.inl n) rfl) ?_
    refine va_gets hx hb hr0 va_S.rf hown (ok _ (ps_in (w := .fieldLink RJ0 1053 "jdk/internal/util/Preconditions" "SIOOBE_FORMATTER" "Ljava/util/function/BiFunction;") (by decide +kernel))) (fun _ h => h) dJ0_checkIndex_df160_2 ?_
    refine pm_rule (k := 3) (ci := none) (T := ps_kC) (P' := fun v f' => v = some (.inl x) ∧ f' = f) (as := [.inl x, .inl n, .inr (.inl r)]) (r := []) (Nat.le_refl _) (Nat.le_refl _) (Nat.zero_le _) (Nat.zero_le _) hx hb hml hown hts hK hSt (n := 1059) ?_ (Or.inr ⟨rfl, dJ0_checkIndex_df160_5⟩) rfl trivial (by decide) ⟨x, n, _, rfl, hx0, hxn, rfl, rfl⟩ (fun v hv => by
      simp at hv
      rcases hv with rfl | rfl | rfl
      · exact i1
      · exact i2
      · trivial) hl.1 hH va_S.rf ?_
    · exact Or.inr (Or.inr (Or.inr ⟨yJ3_checkIndex_8e157, _, _, _, _, ps_check3, by decide, by decide, ps_in (by decide +kernel), ps_in (by decide +kernel), by decide, Or.inr (Or.inl ⟨rfl, by decide +kernel, ps_in (by decide +kernel), Or.inl (ps_in (by decide +kernel))⟩)⟩))
    · rintro v f' H' locs' ⟨rfl, rfl⟩ - hH' hS'
      refine lv_pop hx hb dJ0_checkIndex_df160_8 rfl ?_
      exact W.vret hx hb hr (hq none _ _ hP (fun w hw => by simp at hw) hH' hS') hS'.2.2 dJ0_checkIndex_df160_9
def ps_kA (ad : Nat → Nat) : pm_T := fun as f P => ∃ i j : Nat, i < 7 ∧ j < pm_sln.getD i 0 ∧ as = [.inr (.inl (some (ad i))), .inl (j : Int)] ∧ P (some (.inl (ps_chr i j))) f
def pm_sat (sk : Nat → Nat) : pm_T := ps_kA sk
theorem ps_len_o : ∀ i, i < 7 → Int32.ofNat (pm_sln.getD i 0) = Int32.ofInt (ps_len i) := by decide +kernel
theorem ps_len_s : ∀ i, i < 7 → pm_sln.getD i 0 ≤ 4 := by decide
theorem ps_charAt1 {l : Launch} {sk : Nat → Nat} : ps_Ct l sk yJ1_charAt_3b067 cJ1_charAt_3b067 2 (some .char) 3 ps_kA := by
  refine ps_met (by decide +kernel) ?_ ?_
  · rintro sv as f P ⟨i, j, hi, hj, rfl, hP⟩
    exact Nat.le_refl 2
  · rintro p e s m args below meth c sv G cI cJ cR as f P ls ⟨i, j, hi, hj, rfl, hP⟩ hok hx hb hr hlocks hml hown hts hK hSt hH hl hq
    have ok : ∀ w ∈ pm_WS, w.before args s = true := fun w hw => hts w (List.mem_cons_of_mem _ hw)
    have i1 : pm_in (j : Int) := hok (.inl (j : Int)) (by simp)
    refine lv_iload_n hx hb dJ1_charAt_3b067_0 rfl (hl.2.2.2 1 (.inl (j : Int)) rfl) ?_
    refine lv_aload_n hx hb dJ1_charAt_3b067_1 rfl (hl.2.2.2 0 (.inr (.inl (some (sv i)))) rfl) ?_
    refine va_tlen hx hb (hSt.1.1 i hi).2.2.2 va_S.rf (ps_len_o i hi) dJ1_charAt_3b067_2 ?_
    refine pm_rule (k := 2) (ci := none) (T := ps_kD) (P' := fun v f' => v = none ∧ f' = f) (as := [.inl (j : Int), .inl (ps_len i)]) (r := []) (Nat.le_refl _) (Nat.le_refl _) (Nat.zero_le _) (Nat.zero_le _) hx hb hml hown hts hK hSt (n := 9) ?_ (Or.inr ⟨rfl, dJ1_charAt_3b067_3⟩) rfl trivial (by decide) ⟨j, ps_len i, rfl, by omega, by unfold ps_len; omega, rfl, rfl⟩ (fun v hv => by
      simp at hv
      rcases hv with rfl | rfl
      · exact i1
      · exact ps_len_in i hi) hl.1 hH va_S.rf ?_
    · exact Or.inr (Or.inr (Or.inr ⟨yJ0_checkIndex_df160, _, _, _, _, ps_check2, by decide, by decide, ps_in (by decide +kernel), ps_in (by decide +kernel), by decide, Or.inr (Or.inl ⟨rfl, by decide +kernel, ps_in (by decide +kernel), Or.inl (ps_in (by decide +kernel))⟩)⟩))
    · rintro v f' H' locs' ⟨rfl, rfl⟩ - hH' hS'
      refine lv_aload_n hx hb dJ1_charAt_3b067_6 rfl (hl.2.2.2 0 (.inr (.inl (some (sv i)))) rfl) ?_
      refine lv_iload_n hx hb dJ1_charAt_3b067_7 rfl (hl.2.2.2 1 (.inl (j : Int)) rfl) ?_
      refine va_tb hx hb (hSt.1.1 i hi).2.2.2 hS' (i := Int32.ofInt (j : Int)) (vp_in_iff.mpr (by rw [pm_toI i1]; omega)) (v := .int ((pm_sby.getD i []).getD j 0)) (by rw [pm_nat i1]; rfl) dJ1_charAt_3b067_8 ?_
      refine lv_sipush hx hb dJ1_charAt_3b067_9 (v := 255) (by decide) ?_
      refine lv_iand hx hb dJ1_charAt_3b067_12 ?_
      refine lv_i2c hx hb dJ1_charAt_3b067_13 (ps_chr_c i hi j hj) ?_
      exact W.zret hx hb hr (ps_chr_n i hi j hj) (hq (some (.inl (ps_chr i j))) _ _ hP (fun w hw => by simp at hw; subst hw; exact ps_chr_in i hi j hj) hH' hS') hS'.2.2 dJ1_charAt_3b067_14
theorem ps_charAt {l : Launch} {sk : Nat → Nat} : pm_Ct l sk yJ0_charAt_5068e cJ0_charAt_5068e 2 (some .char) 4 (pm_sat sk) := by
  refine ps_met (T := fun _ => pm_sat sk) (by decide +kernel) ?_ ?_
  · rintro sv as f P ⟨i, j, hi, hj, rfl, hP⟩
    exact Nat.le_refl 2
  · rintro p e s m args below meth c sv G cI cJ cR as f P ls ⟨i, j, hi, hj, rfl, hP⟩ hok hx hb hr hlocks hml hown hts hK hSt hH hl hq
    have ok : ∀ w ∈ pm_WS, w.before args s = true := fun w hw => hts w (List.mem_cons_of_mem _ hw)
    have i1 : pm_in (j : Int) := hok (.inl (j : Int)) (by simp)
    refine lv_aload_n hx hb dJ0_charAt_5068e_0 rfl (hl.2.2.2 0 (.inr (.inl (some (sk i)))) rfl) ?_
    refine pm_rule (k := 1) (ci := some 9) (T := ps_kR sk fun _ => 1) (P' := fun v f' => v = some (.inl 1) ∧ f' = f) (as := [.inr (.inl (some (sk i)))]) (r := []) (Nat.le_refl _) (Nat.le_refl _) (Nat.zero_le _) (Nat.zero_le _) hx hb hml hown hts hK hSt (n := 492) ?_ (Or.inl ⟨rfl, dJ0_charAt_5068e_1⟩) rfl (Or.inl rfl) (by decide) ⟨i, hi, rfl, rfl, rfl⟩ (fun v hv => by simp at hv; subst hv; trivial) hl.1 hH va_S.rf ?_
    · exact Or.inr (Or.inr (Or.inr ⟨yJ0_isLatin1_aae02, _, _, _, _, ps_isLatin1, by decide, by decide, ps_in (by decide +kernel), ps_in (by decide +kernel), by decide, Or.inr (Or.inr ⟨rfl, rfl, by decide, by decide +kernel, ps_in (by decide +kernel), ps_in (by decide +kernel), ps_in (by decide +kernel), fun as f P ⟨i, hi, e, _⟩ => ⟨i, [], hi, e⟩⟩)⟩))
    · rintro v f' H' locs' ⟨rfl, rfl⟩ - hH' hS'
      refine lv_if_eq (tgt := 16) hx hb dJ0_charAt_5068e_4 rfl (fun z => absurd z (by decide)) fun _ => ?_
      refine lv_aload_n hx hb dJ0_charAt_5068e_7 rfl (hl.2.2.2 0 (.inr (.inl (some (sk i)))) rfl) ?_
      refine vk_getf hx hb (hSt.1.1 i hi).2.2.1 hS' hown (ok _ (ps_in (w := .fieldLink RJ0 9 "java/lang/String" "value" "[B") (by decide +kernel))) (fun _ h => h) dJ0_charAt_5068e_8 ?_
      refine lv_iload_n hx hb dJ0_charAt_5068e_11 rfl (hl.2.2.2 1 (.inl (j : Int)) rfl) ?_
      have hps := pm_preS (as := [.inr (.inl (some (sv i))), .inl (j : Int)]) hH' hS' hK hSt
      have hG : GoodIn (.code yJ0_charAt_5068e cJ0_charAt_5068e 2 (some .char) :: pm_WS) (.code yJ1_charAt_3b067 cJ1_charAt_3b067 2 (some .char) :: pm_WS) := pm_goodIn fun w hw => (List.mem_cons.mp hw).elim (fun h => h ▸ ps_in (by decide +kernel)) id
      refine pm_after (r := []) (va_runS (As := ([.inr (.inl (some (sv i))), .inl (j : Int)] : List pm_V).map pm_cv) (rest := ([] : List pm_V).map pm_cv) (n := 2) ⟨hx, hb, hml, hown, hts⟩ (ps_charAt1 sv G cI cJ cR _ f' (fun v f1 => v = some (.inl (ps_chr i j)) ∧ f1 = f') ⟨i, j, hi, hj, rfl, rfl, rfl⟩ (fun v hv => by
        simp at hv
        rcases hv with rfl | rfl
        · trivial
        · exact i1)) ⟨callB_of 2 hts hG rfl rfl rfl (ok _ (ps_in (by decide +kernel))) (ok _ (ps_in (w := .methodLink RJ0 495 yJ1_charAt_3b067) (by decide +kernel))) ⟨by decide, by decide, by decide +kernel⟩ ⟨by decide, by decide⟩, ok _ (ps_in (by decide +kernel))⟩ hps rfl rfl hl.1 (by simp [pm_cv, va_rf]) (lv_room (by decide)) dJ0_charAt_5068e_12 ⟨Nat.zero_le _, Nat.zero_le _⟩) hH' hS' ?_
      rintro v f1 H1 locs1 ⟨rfl, rfl⟩ - hH1 hS1
      exact W.zret hx hb hr (ps_chr_n i hi j hj) (hq (some (.inl (ps_chr i j))) _ _ hP (fun w hw => by simp at hw; subst hw; exact ps_chr_in i hi j hj) hH1 hS1) hS1.2.2 dJ0_charAt_5068e_15
end PMS2
theorem pm_slen_ok {l : Launch} {sk : Nat → Nat} {own : String} {d n : Nat} (hd : 2 < d) (h1 : Cond.methodLink own n yJ0_length_8abf5 ∈ pm_WS) : pm_COK l sk own d n 1 (some 9) (pm_slen sk) :=
  Or.inr (Or.inr (Or.inr ⟨yJ0_length_8abf5, _, _, _, _, ps_length, hd, by decide, ps_in (by decide +kernel), ps_in (by decide +kernel), by decide, Or.inr (Or.inr ⟨rfl, rfl, by decide, by decide +kernel, h1, ps_in (by decide +kernel), ps_in (by decide +kernel), fun as f P ⟨i, hi, e, _⟩ => ⟨i, [], hi, e⟩⟩)⟩))
theorem pm_sat_ok {l : Launch} {sk : Nat → Nat} {own : String} {d n : Nat} (hd : 4 < d) (h1 : Cond.methodLink own n yJ0_charAt_5068e ∈ pm_WS) : pm_COK l sk own d n 2 (some 9) (pm_sat sk) :=
  Or.inr (Or.inr (Or.inr ⟨yJ0_charAt_5068e, _, _, _, _, ps_charAt, hd, by decide, ps_in (by decide +kernel), ps_in (by decide +kernel), by decide, Or.inr (Or.inr ⟨rfl, rfl, by decide, by decide +kernel, h1, ps_in (by decide +kernel), ps_in (by decide +kernel), fun as f P ⟨i, j, hi, hj, e, _⟩ => ⟨i, [.inl (j : Int)], hi, e⟩⟩)⟩))
