theorem pm_kI_m {o : Option pm_V} {k k' : Int → Prop} (h : ∀ z, k z → k' z) : pm_kI o k → pm_kI o k' := by unfold pm_kI; split <;> first | exact h _ | exact id
theorem pm_kR_m {o : Option pm_V} {k k' : Nat → Prop} (h : ∀ z, k z → k' z) : pm_kR o k → pm_kR o k' := by unfold pm_kR; split <;> first | exact h _ | exact id
theorem pm_kL_m {o : Option pm_V} {k k' : Int64 → Prop} (h : ∀ z, k z → k' z) : pm_kL o k → pm_kL o k' := by unfold pm_kL; split <;> first | exact h _ | exact id
theorem pm_1i_m {st : List pm_V} {k k' : Int → List pm_V → Prop} (h : ∀ x r, k x r → k' x r) : pm_1i st k → pm_1i st k' := by unfold pm_1i; split <;> first | exact h _ _ | exact id
theorem pm_2i_m {st : List pm_V} {k k' : Int → Int → List pm_V → Prop} (h : ∀ x y r, k x y r → k' x y r) : pm_2i st k → pm_2i st k' := by unfold pm_2i; split <;> first | exact h _ _ _ | exact id
theorem pm_1l_m {st : List pm_V} {k k' : Int64 → List pm_V → Prop} (h : ∀ x r, k x r → k' x r) : pm_1l st k → pm_1l st k' := by unfold pm_1l; split <;> first | exact h _ _ | exact id
theorem pm_2l_m {st : List pm_V} {k k' : Int64 → Int64 → List pm_V → Prop} (h : ∀ x y r, k x y r → k' x y r) : pm_2l st k → pm_2l st k' := by unfold pm_2l; split <;> first | exact h _ _ _ | exact id
theorem pm_li_m {st : List pm_V} {k k' : Int64 → Int → List pm_V → Prop} (h : ∀ x y r, k x y r → k' x y r) : pm_li st k → pm_li st k' := by unfold pm_li; split <;> first | exact h _ _ _ | exact id
theorem pm_1r_m {st : List pm_V} {k k' : Nat → List pm_V → Prop} (h : ∀ x r, k x r → k' x r) : pm_1r st k → pm_1r st k' := by unfold pm_1r; split <;> first | exact h _ _ | exact id
theorem pm_ir_m {st : List pm_V} {k k' : Nat → Int → List pm_V → Prop} (h : ∀ x y r, k x y r → k' x y r) : pm_ir st k → pm_ir st k' := by unfold pm_ir; split <;> first | exact h _ _ _ | exact id
theorem pm_ai_m {o : Option pm_C} {k k' : Nat → (Nat → Int) → Prop} (h : ∀ x r, k x r → k' x r) : pm_ai o k → pm_ai o k' := by unfold pm_ai; split <;> first | exact h _ _ | exact id
theorem pm_ar_m {o : Option pm_C} {k k' : Nat → Nat → (Nat → Option Nat) → Prop} (h : ∀ x y r, k x y r → k' x y r) : pm_ar o k → pm_ar o k' := by unfold pm_ar; split <;> first | exact h _ _ _ | exact id
theorem pm_al_m {o : Option pm_C} {k k' : Nat → (Nat → Int64) → Prop} (h : ∀ x r, k x r → k' x r) : pm_al o k → pm_al o k' := by unfold pm_al; split <;> first | exact h _ _ | exact id
theorem pm_ob_m {o : Option pm_C} {k k' : Nat → List pm_V → Prop} (h : ∀ x r, k x r → k' x r) : pm_ob o k → pm_ob o k' := by unfold pm_ob; split <;> first | exact h _ _ | exact id
theorem pm_fe_m {o : Option (Nat × Nat × Nat)} {k k' : Nat → Nat → Nat → Prop} (h : ∀ x y r, k x y r → k' x y r) : pm_fe o k → pm_fe o k' := by unfold pm_fe; split <;> first | exact h _ _ _ | exact id
theorem pm_vv_m {o : Option pm_V} {k k' : pm_V → Prop} (h : ∀ x, k x → k' x) : pm_vv o k → pm_vv o k' := by unfold pm_vv; split <;> first | exact h _ | exact id
theorem pm_kt_m {o : Option Nat} {k k' : Nat → Prop} (h : ∀ x, k x → k' x) : pm_kt o k → pm_kt o k' := by unfold pm_kt; split <;> first | exact h _ | exact id
theorem pm_d1_m {st : List pm_V} {k k' : pm_V → List pm_V → Prop} (h : ∀ x r, k x r → k' x r) : pm_d1 st k → pm_d1 st k' := by unfold pm_d1; split <;> first | exact h _ _ | exact id
theorem pm_d2_m {st : List pm_V} {k k' : pm_V → pm_V → List pm_V → Prop} (h : ∀ x y r, k x y r → k' x y r) : pm_d2 st k → pm_d2 st k' := by unfold pm_d2; split <;> first | exact h _ _ _ | exact id
theorem pm_if_m {c A B A' B' : Prop} [Decidable c] (h1 : A → A') (h2 : B → B') : (if c then A else B) → (if c then A' else B') := by split <;> assumption
theorem pm_sw_m {x d : Int} {k k' : Int → Prop} (h : ∀ o, k o → k' o) : ∀ (os : List Int) (lo : Int), pm_sw x k d lo os → pm_sw x k' d lo os
  | [], _ => h _
  | _ :: os, _ => by unfold pm_sw; exact pm_if_m (h _) (pm_sw_m h os _)
theorem pm_lw_m {x d : Int} {k k' : Int → Prop} (h : ∀ o, k o → k' o) : ∀ os : List (Int × Int), pm_lw x k d os → pm_lw x k' d os
  | [] => h _
  | _ :: os => by unfold pm_lw; exact pm_if_m (h _) (pm_lw_m h os)
theorem pm_call_m {b : Bool} {o : Option (Nat × Option Nat × pm_T)} {st : List pm_V} {f : pm_H} {k k' : Option pm_V → List pm_V → pm_H → Prop} (h : ∀ v r f', k v r f' → k' v r f') : pm_call b o st f k → pm_call b o st f k' := by
  unfold pm_call
  split
  · split
    · rintro ⟨h0, h1, h2, P', h3, h4⟩
      exact ⟨h0, h1, h2, P', h3, fun v f' hp => h _ _ _ (h4 v f' hp)⟩
    · exact id
  · exact id
theorem pm_callX_m {b : Bool} {o : Option (Nat × Option Nat × pm_TX)} {st : List pm_V} {f : pm_H} {PX : pm_PX} {k k' : Option pm_V → List pm_V → pm_H → Prop} (h : ∀ v r f', k v r f' → k' v r f') : pm_callX b o st f k PX → pm_callX b o st f k' PX := by
  unfold pm_callX
  split
  · split
    · rintro ⟨h0, h1, h2, P', PX', h3, h4, h5⟩
      exact ⟨h0, h1, h2, P', PX', h3, fun v f' hp => h _ _ _ (h4 v f' hp), h5⟩
    · exact id
  · exact id
set_option maxHeartbeats 4000000 in
theorem pm_go_m {E : pm_E} {P : pm_P} {PX : pm_PX} {X Y : pm_K} (hh : ∀ pc lv st f, X pc lv st f → Y pc lv st f) (i : Instr) (len pc : Nat) (lv : pm_L) (st : List pm_V) (f : pm_H) : pm_go E P PX X i len pc lv st f → pm_go E P PX Y i len pc lv st f := by
  have h2 : ∀ {a : Prop} {pc lv st f}, a ∧ X pc lv st f → a ∧ Y pc lv st f := fun h => ⟨h.1, hh _ _ _ _ h.2⟩
  have h3 : ∀ {a b : Prop} {pc lv st f}, a ∧ b ∧ X pc lv st f → a ∧ b ∧ Y pc lv st f := fun h => ⟨h.1, h2 h.2⟩
  unfold pm_go
  split
  all_goals first
    | exact id
    | exact hh _ _ _ _
    | exact h2
    | exact pm_vv_m fun _ => h2
    | exact pm_kI_m fun _ => hh _ _ _ _
    | exact pm_kI_m fun _ => h2
    | exact pm_kR_m fun _ => hh _ _ _ _
    | exact pm_kL_m fun _ => hh _ _ _ _
    | exact pm_1i_m fun _ _ => hh _ _ _ _
    | exact pm_1i_m fun _ _ => h2
    | exact pm_1r_m fun _ _ => h2
    | exact pm_1l_m fun _ _ => h2
    | exact pm_1l_m fun _ _ => hh _ _ _ _
    | exact pm_2i_m fun _ _ _ => h2
    | exact pm_2i_m fun _ _ _ => hh _ _ _ _
    | exact pm_2l_m fun _ _ _ => hh _ _ _ _
    | exact pm_li_m fun _ _ _ => hh _ _ _ _
    | exact pm_d1_m fun _ _ => hh _ _ _ _
    | exact pm_d2_m fun _ _ _ => hh _ _ _ _
    | exact pm_kt_m fun _ => hh _ _ _ _
    | exact pm_kt_m fun _ => pm_1i_m fun _ _ => pm_if_m (hh _ _ _ _) (hh _ _ _ _)
    | exact pm_kt_m fun _ => pm_2i_m fun _ _ _ => pm_if_m (hh _ _ _ _) (hh _ _ _ _)
    | exact pm_1i_m fun _ _ h => ⟨h.1, pm_sw_m (fun _ => pm_kt_m fun _ => hh _ _ _ _) _ _ h.2⟩
    | exact pm_1i_m fun _ _ h => ⟨h.1, pm_lw_m (fun _ => pm_kt_m fun _ => hh _ _ _ _) _ h.2⟩
    | exact pm_fe_m fun _ _ _ => pm_1r_m fun _ _ => pm_ob_m fun _ _ h => ⟨h.1, pm_vv_m (fun _ => hh _ _ _ _) h.2⟩
    | exact pm_fe_m fun _ _ _ => pm_1i_m fun _ _ => pm_1r_m fun _ _ => pm_ob_m fun _ _ h => ⟨h.1, pm_vv_m (fun _ => h2) h.2⟩
    | exact pm_ir_m fun _ _ _ => pm_ai_m fun _ _ => h2
    | exact pm_ir_m fun _ _ _ => pm_al_m fun _ _ => h2
    | exact pm_ir_m fun _ _ _ => pm_ar_m fun _ _ _ => h2
    | exact pm_1r_m fun _ _ => pm_ai_m fun _ _ => h2
    | exact pm_1i_m fun _ _ => pm_ir_m fun _ _ _ => pm_ai_m fun _ _ => h2
    | exact pm_1l_m fun _ _ => pm_ir_m fun _ _ _ => pm_al_m fun _ _ => h2
    | exact pm_1r_m fun _ _ => pm_ir_m fun _ _ _ => pm_ar_m fun _ _ _ => pm_ob_m fun _ _ => h3
    | exact pm_call_m fun _ _ _ => hh _ _ _ _
    | (split; exact pm_callX_m fun _ _ _ => hh _ _ _ _; exact pm_call_m fun _ _ _ => hh _ _ _ _)
theorem pm_S_m {E : pm_E} {P : pm_P} {PX : pm_PX} {X Y : pm_K} (hh : ∀ pc lv st f, X pc lv st f → Y pc lv st f) {pc : Nat} {lv : pm_L} {st : List pm_V} {f : pm_H} : pm_S E P PX X pc lv st f → pm_S E P PX Y pc lv st f := by
  unfold pm_S pm_D
  split
  · exact pm_go_m hh _ _ _ _ _ _
  · exact id
theorem pm_W_in {E : pm_E} {P : pm_P} {PX : pm_PX} {pc : Nat} {lv : pm_L} {st : List pm_V} {f : pm_H} (h : pm_S E P PX (pm_W E P PX) pc lv st f) : pm_W E P PX pc lv st f :=
  fun X hX => hX _ _ _ _ (pm_S_m (fun _ _ _ _ hw => hw X hX) h)
theorem pm_run_W {E : pm_E} {P : pm_P} {PX : pm_PX} {cuts : List Nat} : ∀ (n : Nat) (pc : Nat) (lv : pm_L) (st : List pm_V) (f : pm_H), pm_run E P PX cuts (pm_W E P PX) n pc lv st f → pm_W E P PX pc lv st f
  | 0, _, _, _, _, h => h
  | n + 1, pc, lv, st, f, h => by
    unfold pm_run at h
    cases hc : pm_cut cuts pc with
    | true => simp only [hc, cond_true] at h; exact h
    | false => simp only [hc, cond_false] at h; exact pm_W_in (pm_S_m (pm_run_W n) h)
/-- from a cut on: one instruction, then up to the cuts -/
theorem pm_go_on {E : pm_E} {P : pm_P} {PX : pm_PX} (cuts : List Nat) (n : Nat) {pc : Nat} {lv : pm_L} {st : List pm_V} {f : pm_H} (h : pm_S E P PX (pm_run E P PX cuts (pm_W E P PX) n) pc lv st f) : pm_W E P PX pc lv st f := pm_W_in (pm_S_m (pm_run_W n) h)
