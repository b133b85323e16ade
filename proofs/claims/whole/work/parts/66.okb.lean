section OB
variable {N : nt}
theorem okB_setC (o : okB N) {w c v : Nat} (h0 : w ≠ 0) (h1 : w ≠ 1) (h2 : w = 2 → v ≤ 2) (h3 : w = 3 → v ≤ 4) (h4 : w = 4 → v ≤ 1000000001) (h5 : w = 5 → v ≤ 99) : okB (setC N w c v) := by
  refine ⟨o.1, fun d hd => ?_, o.2.2⟩
  have a := o.2.1 d hd
  show (if 0 = w ∧ d = c then v else cN N 0 d) < nN N ∧ (if 1 = w ∧ d = c then v else cN N 1 d) < nN N ∧ (if 0 = w ∧ d = c then v else cN N 0 d) ≠ (if 1 = w ∧ d = c then v else cN N 1 d) ∧ (if 2 = w ∧ d = c then v else cN N 2 d) ≤ 2 ∧ (if 3 = w ∧ d = c then v else cN N 3 d) ≤ 4 ∧ (if 5 = w ∧ d = c then v else cN N 5 d) ≤ 99 ∧ (if 4 = w ∧ d = c then v else cN N 4 d) ≤ 1000000001
  rw [if_neg (fun q => h0 q.1.symm), if_neg (fun q => h1 q.1.symm)]
  refine ⟨a.1, a.2.1, a.2.2.1, ?_, ?_, ?_, ?_⟩
  · split
    · rename_i q; exact h2 q.1.symm
    · exact a.2.2.2.1
  · split
    · rename_i q; exact h3 q.1.symm
    · exact a.2.2.2.2.1
  · split
    · rename_i q; exact h5 q.1.symm
    · exact a.2.2.2.2.2.1
  · split
    · rename_i q; exact h4 q.1.symm
    · exact a.2.2.2.2.2.2
theorem okB_lg (o : okB N) {c w : Nat} : okB (lgA N c w) := ⟨o.1, o.2.1, o.2.2.1, o.2.2.2.1, lgput_len o.2.2.2.2.1, o.2.2.2.2.2⟩
theorem okB_adR (o : okB N) (h : riN N < 1000000000) : okB (adR N) := ⟨o.1, o.2.1, ⟨h, o.2.2.1.2⟩, o.2.2.2⟩
theorem okB_adL (o : okB N) (h : loN N < 1000000000) : okB (adL N) := ⟨o.1, o.2.1, ⟨o.2.2.1.1, h⟩, o.2.2.2⟩
theorem okB_nm (o : okB N) {g : Nat → Nat} (h : ∀ n, g n < 16) : okB (setNm N g) := ⟨o.1, o.2.1, o.2.2.1, h, o.2.2.2.2⟩
theorem okB_T (o : okB N) {K : Nat → Nat → Prop} {e0 e1 : Nat → Nat} {T : Nat → Nat → List Int} (hf : ∀ i, i < 5 → FL e0 e1 (K i) (T i)) : okB (setT N T) := by
  refine ⟨o.1, o.2.1, o.2.2.1, o.2.2.2.1, o.2.2.2.2.1, fun i n hi hn => ?_⟩
  have a := (hf i hi).1 n hn
  exact ⟨a.1, FL_len (hf i hi) hn, a.2.2.1, a.2.2.2.1⟩
/-- joined on levels j to i alone -/
def plU (T : Nat → Nat → List Int) (i j k x y : Nat) : Nat → Nat → List Int := fun l => if j ≤ l ∧ l ≤ i then jT T l k x y l else T l
theorem plU_top (T : Nat → Nat → List Int) (i k x y : Nat) : plU T i (i + 1) k x y = T := by
  funext l
  unfold plU
  rw [if_neg (by omega)]
theorem plU_bot (T : Nat → Nat → List Int) (i k x y : Nat) : plU T i 0 k x y = plT T i k x y := by
  funext l
  unfold plU plT
  by_cases e : l ≤ i
  · rw [if_pos ⟨Nat.zero_le _, e⟩, if_pos e]
  · rw [if_neg (fun q => e q.2), if_neg e]
theorem plU_s (T : Nat → Nat → List Int) {i j k x y : Nat} (hj : j ≤ i) : jT (plU T i (j + 1) k x y) j k x y = plU T i j k x y := by
  have e0 : plU T i (j + 1) k x y j = T j := by unfold plU; rw [if_neg (by omega)]
  funext l
  by_cases e : l = j
  · subst e
    rw [jT_eq, e0]
    unfold plU
    rw [if_pos ⟨Nat.le_refl _, hj⟩, jT_eq]
  · rw [jT_ne _ _ _ _ e]
    unfold plU
    by_cases q : j + 1 ≤ l ∧ l ≤ i
    · rw [if_pos q, if_pos (by omega)]
    · rw [if_neg q, if_neg (by omega)]
/-- split on levels j to i alone -/
def spU (T : Nat → Nat → List Int) (i j c x : Nat) : Nat → Nat → List Int := fun l => if j ≤ l ∧ l ≤ i then spT T l c x l else T l
theorem spU_top (T : Nat → Nat → List Int) (i c x : Nat) : spU T i (i + 1) c x = T := by
  funext l
  unfold spU
  rw [if_neg (by omega)]
theorem spU_bot (T : Nat → Nat → List Int) (i c x : Nat) : spU T i 0 c x = spA T i c x := by
  funext l
  unfold spU spA
  by_cases e : l ≤ i
  · rw [if_pos ⟨Nat.zero_le _, e⟩, if_pos e]
  · rw [if_neg (fun q => e q.2), if_neg e]
theorem spU_s (T : Nat → Nat → List Int) {i j c x : Nat} (hj : j ≤ i) : spT (spU T i (j + 1) c x) j c x = spU T i j c x := by
  have e0 : spU T i (j + 1) c x j = T j := by unfold spU; rw [if_neg (by omega)]
  funext l
  by_cases e : l = j
  · subst e
    rw [spT_eq, e0]
    unfold spU
    rw [if_pos ⟨Nat.le_refl _, hj⟩, spT_eq]
  · rw [spT_ne _ _ _ e]
    unfold spU
    by_cases q : j + 1 ≤ l ∧ l ≤ i
    · rw [if_pos q, if_pos (by omega)]
    · rw [if_neg q, if_neg (by omega)]
/-- the cables of a level while a join, a split goes down the levels -/
theorem plU_FL {x y i j k : Nat} {K : Nat → Nat → Prop} {e0 e1 : Nat → Nat} {T : Nat → Nat → List Int} (hf : ∀ l, l < 5 → FL e0 e1 (K l) (T l)) (hx : e0 k = x) (hy : e1 k = y) (x16 : x < 16) (y16 : y < 16) (k60 : k < 60) (nk : ∀ l, l ≤ i → ¬ K l k) (ne : ∀ l, l ≤ i → (y : Int) ∉ T l x) : ∀ l, l < 5 → FL e0 e1 (fun d => K l d ∨ (d = k ∧ j ≤ l ∧ l ≤ i)) (plU T i j k x y l) := by
  intro l hl
  unfold plU
  by_cases q : j ≤ l ∧ l ≤ i
  · rw [if_pos q, jT_eq]
    exact FL_join (hf l hl) hx hy x16 y16 (nk l q.2) k60 (ne l q.2) (fun d => by simp [q])
  · rw [if_neg q]
    exact FL_K (hf l hl) (fun d => ⟨fun z => z.resolve_right (fun w => q w.2), fun z => Or.inl z⟩)
theorem spU_FL {x i j c : Nat} {K : Nat → Nat → Prop} {e0 e1 : Nat → Nat} {T : Nat → Nat → List Int} (hf : ∀ l, l < 5 → FL e0 e1 (K l) (T l)) (hx : e0 c = x) (nk : ∀ l, l ≤ i → K l c) : ∀ l, l < 5 → FL e0 e1 (fun d => K l d ∧ ¬ (d = c ∧ j ≤ l ∧ l ≤ i)) (spU T i j c x l) := by
  intro l hl
  unfold spU
  by_cases q : j ≤ l ∧ l ≤ i
  · rw [if_pos q, spT_eq]
    exact FL_split (hf l hl) hx (nk l q.2) (fun d => by simp [q])
  · rw [if_neg q]
    exact FL_K (hf l hl) (fun d => ⟨fun z => z.1, fun z => ⟨z, fun w => q w.2⟩⟩)
end OB
