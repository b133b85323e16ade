theorem ct_st_lo {f : pm_H} {a h q ci : Nat} {L : List pm_C} {fs : List pm_V} (hq : q < h) (hn : q ≠ a) : ct_st f a h L ci fs q = f q := by
  unfold ct_st pm_up ct_rows
  rw [if_neg hn, if_pos hq]
/-- the state both start with -/
def x00 : xs := (netN 4, [], none, 0, [], -1)
theorem md_at (f : pm_H) (b : Nat) : rm_at (ct_md f b (b + 1)) b (fun _ _ => 0) (fun j => if j = 7 then -1 else 0) := by
  refine ⟨ct_st_at, fun j hj => ?_⟩
  rcases (show j = 0 ∨ j = 1 ∨ j = 2 ∨ j = 3 ∨ j = 4 ∨ j = 5 ∨ j = 6 ∨ j = 7 ∨ j = 8 ∨ j = 9 ∨ j = 10 ∨ j = 11 ∨ j = 12 by omega) with rfl | rfl | rfl | rfl | rfl | rfl | rfl | rfl | rfl | rfl | rfl | rfl | rfl <;> exact ct_st_g (by omega) rfl
theorem md_X (f : pm_H) (b : Nat) : pm_ex T_X5_nets [.inr (.inl (some b)), .inl 4] (ct_md f b (b + 1)) (fun v f' => v = none ∧ rX f' b x00 0 ∧ ∀ q, q < b → f' q = f q) := by
  refine nets_r (n := 4) (md_at f b) fun f' A' hr hs => ⟨rfl, ⟨A', _, hr.1, ⟨hr.2, ⟨rfl, fun N h => by cases h⟩, ⟨rfl, fun i hi => absurd hi (Nat.not_lt_zero _)⟩, ⟨rfl, fun j hj => absurd hj (Nat.not_lt_zero _)⟩, rfl⟩, rfl, rfl⟩, fun q hq => ?_⟩
  exact (hs.1 q (Or.inl hq)).trans (ct_st_lo (by omega) (by omega))
theorem fr5 (a : Nat) : va_up (va_up (va_up (va_up (va_up (fun _ => none) 0 (some (a + 1 + 10))) 1 (some (a + 1 + 12))) 2 (some (a + 1 + 14))) 3 (some (a + 1 + 16))) 4 (some (a + 1 + 18)) = cn_fr a := by
  funext i
  unfold cn_fr
  by_cases h : i < 5
  · rw [if_pos h]
    rcases (show i = 0 ∨ i = 1 ∨ i = 2 ∨ i = 3 ∨ i = 4 by omega) with rfl | rfl | rfl | rfl | rfl <;> rfl
  · rw [if_neg h]
    have h0 : i ≠ 0 := by omega
    have h1 : i ≠ 1 := by omega
    have h2 : i ≠ 2 := by omega
    have h3 : i ≠ 3 := by omega
    have h4 : i ≠ 4 := by omega
    simp [va_up, h0, h1, h2, h3, h4]
/-- a Net as its constructor leaves it -/
theorem ct_net {F : pm_H} {a : Nat} (h0 : F a = some (.inr (.inr (.inr (1, ctF1 (a + 1)))))) (h : ∀ j, j < 20 → F (a + 1 + j) = (ctL1 (a + 1))[j]?) : cn_at F a (fun _ _ => 0) (fun _ _ => 0) (fun _ => 0) (fun _ => 0) := by
  refine ⟨h0, fun j hj => ?_, ?_, fun i hi => ?_⟩
  · rcases (show j = 0 ∨ j = 1 ∨ j = 2 ∨ j = 3 ∨ j = 4 ∨ j = 5 ∨ j = 6 ∨ j = 7 ∨ j = 8 by omega) with rfl | rfl | rfl | rfl | rfl | rfl | rfl | rfl | rfl <;> exact h _ (by omega)
  · rw [← fr5]
    exact h 9 (by omega)
  · rcases (show i = 0 ∨ i = 1 ∨ i = 2 ∨ i = 3 ∨ i = 4 by omega) with rfl | rfl | rfl | rfl | rfl
    · exact ⟨h 10 (by omega), h 11 (by omega)⟩
    · exact ⟨h 12 (by omega), h 13 (by omega)⟩
    · exact ⟨h 14 (by omega), h 15 (by omega)⟩
    · exact ⟨h 16 (by omega), h 17 (by omega)⟩
    · exact ⟨h 18 (by omega), h 19 (by omega)⟩
