section EQ
variable {E : pm_E} {P P' : pm_P} {PX : pm_PX} {X : pm_K} {pc : Nat} {lv : pm_L} {st : List pm_V} {f : pm_H}
theorem pm_W_out (h : pm_W E P PX pc lv st f) : pm_S E P PX (pm_W E P PX) pc lv st f := h (pm_S E P PX (pm_W E P PX)) (fun _ _ _ _ h => pm_S_m (fun _ _ _ _ h => pm_W_in h) h)
theorem pm_run_up {cuts : List Nat} : ∀ (n pc : Nat) (lv : pm_L) (st : List pm_V) (f : pm_H), pm_W E P PX pc lv st f → pm_run E P PX cuts (pm_W E P PX) n pc lv st f
  | 0, _, _, _, _, h => h
  | n + 1, pc, lv, st, f, h => by
    unfold pm_run
    cases hc : pm_cut cuts pc with
    | true => simp only [cond_true]; exact h
    | false => simp only [cond_false]; exact pm_S_m (pm_run_up n) (pm_W_out h)
theorem pm_run_q (cuts : List Nat) (n : Nat) : pm_W E P PX pc lv st f = pm_run E P PX cuts (pm_W E P PX) n pc lv st f := propext ⟨pm_run_up n _ _ _ _, pm_run_W n _ _ _ _⟩
theorem pm_re_m {rt : Option FieldType} (hh : ∀ v f, P v f → P' v f) : pm_re P rt st f → pm_re P' rt st f := by
  unfold pm_re
  split
  · exact hh _ _
  · exact fun h => ⟨h.1, hh _ _ h.2⟩
  · exact id
theorem pm_ra_m {rt : Option FieldType} (hh : ∀ v f, P v f → P' v f) : pm_ra P rt st f → pm_ra P' rt st f := by
  unfold pm_ra
  split
  · exact fun h => ⟨h.1, hh _ _ h.2⟩
  · exact id
theorem pm_rl_m {rt : Option FieldType} (hh : ∀ v f, P v f → P' v f) : pm_rl P rt st f → pm_rl P' rt st f := by
  unfold pm_rl
  split
  · exact fun h => ⟨h.1, hh _ _ h.2⟩
  · exact id
theorem pm_rv_m {rt : Option FieldType} (hh : ∀ v f, P v f → P' v f) : pm_rv P rt st f → pm_rv P' rt st f := by
  unfold pm_rv
  split
  · exact fun h => ⟨h.1, hh _ _ h.2⟩
  · exact id
set_option maxHeartbeats 4000000 in
theorem pm_go_mP (hh : ∀ v f, P v f → P' v f) (i : Instr) (len pc : Nat) (lv : pm_L) (st : List pm_V) (f : pm_H) : pm_go E P PX X i len pc lv st f → pm_go E P' PX X i len pc lv st f := by
  unfold pm_go
  split
  all_goals first
    | exact id
    | exact pm_re_m hh
    | exact pm_ra_m hh
    | exact pm_rl_m hh
    | exact pm_rv_m hh
theorem pm_S_mP (hh : ∀ v f, P v f → P' v f) : pm_S E P PX X pc lv st f → pm_S E P' PX X pc lv st f := by
  unfold pm_S pm_D
  split
  · exact pm_go_mP hh _ _ _ _ _ _
  · exact id
theorem pm_W_mP (hh : ∀ v f, P v f → P' v f) (h : pm_W E P PX pc lv st f) : pm_W E P' PX pc lv st f := fun X hX => h X (fun _ _ _ _ hs => hX _ _ _ _ (pm_S_mP hh hs))
theorem pm_exM {maxL : Nat} {as : List pm_V} (k : pm_P) (h1 : (pm_put as).length ≤ maxL) : pm_ex (pm_M E maxL) as f k = pm_W E k (fun _ _ => False) 0 (pm_init maxL as) [] f :=
  propext ⟨fun ⟨_, h, hk⟩ => pm_W_mP hk h.2, fun h => ⟨k, ⟨h1, h⟩, fun _ _ h => h⟩⟩
theorem pm_ex_m {T : pm_T} {as : List pm_V} {k k' : pm_P} (h : pm_ex T as f k) (hk : ∀ v f', k v f' → k' v f') : pm_ex T as f k' := by
  obtain ⟨P, h1, h2⟩ := h
  exact ⟨P, h1, fun v f' h => hk v f' (h2 v f' h)⟩
/-- a loop that counts up: what holds at its head -/
theorem pm_for {hd : Nat} (n : Nat) (J : Nat → pm_L → pm_H → Prop) (step : ∀ i lv f, i < n → J i lv f → (∀ lv' f', J (i + 1) lv' f' → pm_W E P PX hd lv' [] f') → pm_W E P PX hd lv [] f) (fin : ∀ lv f, J n lv f → pm_W E P PX hd lv [] f) (i : Nat) (lv : pm_L) (f : pm_H) (hi : i ≤ n) (h : J i lv f) : pm_W E P PX hd lv [] f := by
  obtain ⟨m, hm⟩ : ∃ m, i + m = n := ⟨n - i, by omega⟩
  induction m generalizing i lv f with
  | zero => obtain rfl : i = n := by omega
            exact fin lv f h
  | succ m ih => exact step i lv f (by omega) h (fun lv' f' h' => ih (i + 1) lv' f' (by omega) h' (by omega))
/-- the same, where the heap stays -/
theorem pm_fo {hd : Nat} (n : Nat) (L : Nat → pm_L) (step : ∀ i, i < n → pm_W E P PX hd (L (i + 1)) [] f → pm_W E P PX hd (L i) [] f) (fin : pm_W E P PX hd (L n) [] f) (i : Nat) (hi : i ≤ n) : pm_W E P PX hd (L i) [] f := by
  obtain ⟨m, hm⟩ : ∃ m, i + m = n := ⟨n - i, by omega⟩
  induction m generalizing i with
  | zero => obtain rfl : i = n := by omega
            exact fin
  | succ m ih => exact step i (by omega) (ih (i + 1) (by omega) (by omega))
theorem b2_e0 {b : Bool} : (b2 b = 0) = (b = false) := propext b2_0
theorem b2_e1 {b : Bool} : (b2 b = 1) = (b = true) := by cases b <;> simp [b2]
theorem b2_ok {b : Bool} : (b2 b = 0 ∨ b2 b = 1) = True := eq_true b2_1
theorem b2_tt : b2 true = 1 := rfl
theorem b2_ff : b2 false = 0 := rfl
theorem qd {p : Prop} [Decidable p] : (decide p = false) = ¬ p := by simp
end EQ
