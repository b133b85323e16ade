section PMS
theorem pm_kI_e {o : Option pm_V} {k : Int → Prop} (h : pm_kI o k) : ∃ z, o = some (.inl z) ∧ k z := by unfold pm_kI at h; split at h; exact ⟨_, rfl, h⟩; exact h.elim
theorem pm_kR_e {o : Option pm_V} {k : Nat → Prop} (h : pm_kR o k) : ∃ a, o = some (.inr (.inl (some a))) ∧ k a := by unfold pm_kR at h; split at h; exact ⟨_, rfl, h⟩; exact h.elim
theorem pm_kL_e {o : Option pm_V} {k : Int64 → Prop} (h : pm_kL o k) : ∃ a, o = some (.inr (.inr a)) ∧ k a := by unfold pm_kL at h; split at h; exact ⟨_, rfl, h⟩; exact h.elim
theorem pm_1i_e {st : List pm_V} {k : Int → List pm_V → Prop} (h : pm_1i st k) : ∃ x r, st = .inl x :: r ∧ k x r := by unfold pm_1i at h; split at h; exact ⟨_, _, rfl, h⟩; exact h.elim
theorem pm_2i_e {st : List pm_V} {k : Int → Int → List pm_V → Prop} (h : pm_2i st k) : ∃ x y r, st = .inl y :: .inl x :: r ∧ k x y r := by unfold pm_2i at h; split at h; exact ⟨_, _, _, rfl, h⟩; exact h.elim
theorem pm_1l_e {st : List pm_V} {k : Int64 → List pm_V → Prop} (h : pm_1l st k) : ∃ x r, st = .inr (.inr x) :: r ∧ k x r := by unfold pm_1l at h; split at h; exact ⟨_, _, rfl, h⟩; exact h.elim
theorem pm_2l_e {st : List pm_V} {k : Int64 → Int64 → List pm_V → Prop} (h : pm_2l st k) : ∃ x y r, st = .inr (.inr y) :: .inr (.inr x) :: r ∧ k x y r := by unfold pm_2l at h; split at h; exact ⟨_, _, _, rfl, h⟩; exact h.elim
theorem pm_li_e {st : List pm_V} {k : Int64 → Int → List pm_V → Prop} (h : pm_li st k) : ∃ x y r, st = .inl y :: .inr (.inr x) :: r ∧ k x y r := by unfold pm_li at h; split at h; exact ⟨_, _, _, rfl, h⟩; exact h.elim
theorem pm_1r_e {st : List pm_V} {k : Nat → List pm_V → Prop} (h : pm_1r st k) : ∃ a r, st = .inr (.inl (some a)) :: r ∧ k a r := by unfold pm_1r at h; split at h; exact ⟨_, _, rfl, h⟩; exact h.elim
theorem pm_ir_e {st : List pm_V} {k : Nat → Int → List pm_V → Prop} (h : pm_ir st k) : ∃ a i r, st = .inl i :: .inr (.inl (some a)) :: r ∧ k a i r := by unfold pm_ir at h; split at h; exact ⟨_, _, _, rfl, h⟩; exact h.elim
theorem pm_ai_e {o : Option pm_C} {k : Nat → (Nat → Int) → Prop} (h : pm_ai o k) : ∃ n g, o = some (.inl (n, g)) ∧ k n g := by unfold pm_ai at h; split at h; exact ⟨_, _, rfl, h⟩; exact h.elim
theorem pm_ar_e {o : Option pm_C} {k : Nat → Nat → (Nat → Option Nat) → Prop} (h : pm_ar o k) : ∃ q n g, o = some (.inr (.inl (q, n, g))) ∧ k q n g := by unfold pm_ar at h; split at h; exact ⟨_, _, _, rfl, h⟩; exact h.elim
theorem pm_al_e {o : Option pm_C} {k : Nat → (Nat → Int64) → Prop} (h : pm_al o k) : ∃ n g, o = some (.inr (.inr (.inl (n, g)))) ∧ k n g := by unfold pm_al at h; split at h; exact ⟨_, _, rfl, h⟩; exact h.elim
theorem pm_ob_e {o : Option pm_C} {k : Nat → List pm_V → Prop} (h : pm_ob o k) : ∃ ci fs, o = some (.inr (.inr (.inr (ci, fs)))) ∧ k ci fs := by unfold pm_ob at h; split at h; exact ⟨_, _, rfl, h⟩; exact h.elim
theorem pm_fe_e {o : Option (Nat × Nat × Nat)} {k : Nat → Nat → Nat → Prop} (h : pm_fe o k) : ∃ ci n b, o = some (ci, n, b) ∧ k ci n b := by unfold pm_fe at h; split at h; exact ⟨_, _, _, rfl, h⟩; exact h.elim
theorem pm_vv_e {o : Option pm_V} {k : pm_V → Prop} (h : pm_vv o k) : ∃ v, o = some v ∧ k v := by unfold pm_vv at h; split at h; exact ⟨_, rfl, h⟩; exact h.elim
theorem pm_kt_e {o : Option Nat} {k : Nat → Prop} (h : pm_kt o k) : ∃ v, o = some v ∧ k v := by unfold pm_kt at h; split at h; exact ⟨_, rfl, h⟩; exact h.elim
theorem pm_d1_e {st : List pm_V} {k : pm_V → List pm_V → Prop} (h : pm_d1 st k) : ∃ v r, st = v :: r ∧ (pm_cv v).category = 1 ∧ k v r := by
  unfold pm_d1 at h
  split at h
  · exact ⟨_, _, rfl, rfl, h⟩
  · rename_i a r
    exact ⟨_, _, rfl, by cases a <;> rfl, h⟩
  · exact h.elim
theorem pm_d2_e {st : List pm_V} {k : pm_V → pm_V → List pm_V → Prop} (h : pm_d2 st k) : ∃ v w r, st = v :: w :: r ∧ (pm_cv v).category = 1 ∧ (pm_cv w).category = 1 ∧ k v w r := by
  unfold pm_d2 at h
  split at h
  · exact ⟨_, _, _, rfl, rfl, rfl, h⟩
  · rename_i a b r
    exact ⟨_, _, _, rfl, rfl, by cases b <;> rfl, h⟩
  · exact h.elim
theorem pm_toI {z : Int} (h : pm_in z) : (Int32.ofInt z).toInt = z := Int32.toInt_ofInt_of_le (by have := h.1; omega) (by have := h.2; omega)
theorem pm_ofI (x : Int32) : pm_in x.toInt := ⟨by have := Int32.le_toInt x; omega, by have := Int32.toInt_lt x; omega⟩
theorem pm_lt {x y : Int} (hx : pm_in x) (hy : pm_in y) : Int32.ofInt x < Int32.ofInt y ↔ x < y := by rw [Int32.lt_iff_toInt_lt, pm_toI hx, pm_toI hy]
theorem pm_le {x y : Int} (hx : pm_in x) (hy : pm_in y) : Int32.ofInt x ≤ Int32.ofInt y ↔ x ≤ y := by rw [Int32.le_iff_toInt_le, pm_toI hx, pm_toI hy]
theorem pm_eq {x y : Int} (hx : pm_in x) (hy : pm_in y) : Int32.ofInt x = Int32.ofInt y ↔ x = y := by rw [← Int32.toInt_inj, pm_toI hx, pm_toI hy]
theorem pm_in0 : pm_in 0 := by unfold pm_in; omega
theorem pm_nat {i : Int} (h : pm_in i) : (Int32.ofInt i).toNatClampNeg = i.toNat := Int32.toNatClampNeg_ofInt_of_le (by have := h.1; omega) (by have := h.2; omega)
theorem pm_idx {i : Int} {n : Nat} (h : pm_in i) (h1 : 0 ≤ i) (h2 : i < (n : Int)) : vp_in (Int32.ofInt i) n := by
  unfold vp_in
  rw [pm_nat h]
  rintro (q | q)
  · have := (pm_lt h pm_in0).mp q
    omega
  · omega
def pm_cc (cI cJ : ClassId) (cR : Nat → ClassId) : pm_C → va_E
  | .inl (n, g) => .inl (cI, n, .inl (fun j => Int32.ofInt (g j)))
  | .inr (.inl (k, n, g)) => .inl (cR k, n, .inr (.inr (.inr (.inr g))))
  | .inr (.inr (.inl (n, g))) => .inl (cJ, n, .inr (.inl g))
  | .inr (.inr (.inr (ci, fs))) => .inr (ci, fs.map pm_cv)
/-- the heap holds the pure one, whose cells lie in A -/
def pm_Hd (G : va_G) (cl : List vw_C) (cI cJ : ClassId) (cR : Nat → ClassId) (A : Nat → Prop) (f : pm_H) (H : Heap) : Prop :=
  ∀ (a : Nat) (c : pm_C), f a = some c → va_at G cl (a, pm_cc cI cJ cR c) H ∧ A a ∧ pm_okc c
def pm_Lr (ls : Array Slot) (nL : Nat) (lv : pm_L) : Prop := ls.size = nL ∧ lv_wf ls ∧ lv.length = nL ∧ ∀ (i : Nat) (v : pm_V), pm_lg lv i = some v → ls[i]? = some (.val (pm_cv v))
def pm_en : Nat → pm_L → List (Nat × Value)
  | _, [] => []
  | k, none :: l => pm_en (k + 1) l
  | k, some v :: l => (k, pm_cv v) :: pm_en (k + 1) l
theorem pm_en_mem {q : Nat × Value} : ∀ {lv : pm_L} {k : Nat}, q ∈ pm_en k lv ↔ ∃ (i : Nat) (v : pm_V), q = (k + i, pm_cv v) ∧ pm_lg lv i = some v
  | [], k => by simp [pm_en, pm_lg]
  | none :: l, k => by
    unfold pm_en
    rw [pm_en_mem (lv := l)]
    constructor
    · rintro ⟨i, v, rfl, h⟩
      exact ⟨i + 1, v, by rw [Nat.add_assoc, Nat.add_comm 1], h⟩
    · rintro ⟨i, v, rfl, h⟩
      cases i with
      | zero => simp [pm_lg] at h
      | succ i => exact ⟨i, v, by rw [Nat.add_assoc, Nat.add_comm 1], h⟩
  | some w :: l, k => by
    unfold pm_en
    rw [List.mem_cons, pm_en_mem (lv := l)]
    constructor
    · rintro (rfl | ⟨i, v, rfl, h⟩)
      · exact ⟨0, w, rfl, rfl⟩
      · exact ⟨i + 1, v, by rw [Nat.add_assoc, Nat.add_comm 1], h⟩
    · rintro ⟨i, v, rfl, h⟩
      cases i with
      | zero => left; simp only [pm_lg, Option.some.injEq] at h; subst h; rfl
      | succ i => right; exact ⟨i, v, by rw [Nat.add_assoc, Nat.add_comm 1], h⟩
theorem pm_Lr_has {ls : Array Slot} {nL : Nat} {lv : pm_L} (h : pm_Lr ls nL lv) : lv_has ls nL (pm_en 0 lv) := by
  refine ⟨h.1, h.2.1, fun q hq => ?_⟩
  obtain ⟨i, v, rfl, hv⟩ := pm_en_mem.mp hq
  rw [Nat.zero_add]
  exact h.2.2.2 i v hv
theorem pm_cl_some {w : Option pm_V} {v : pm_V} (h : pm_cl w = some v) : w = some v ∧ (pm_cv v).category ≠ 2 := by
  unfold pm_cl at h
  split at h
  · cases h
  · rename_i hn
    refine ⟨h, ?_⟩
    subst h
    rcases v with z | r | x
    · intro hc; cases hc
    · cases r <;> (intro hc; cases hc)
    · exact absurd rfl (hn x)
theorem pm_ls_len : ∀ (lv : pm_L) (i : Nat) (v : pm_V), (pm_ls lv i v).length = lv.length
  | [], _, _ => by simp [pm_ls]
  | _ :: l, 0, v => by simp [pm_ls]
  | w :: l, 1, v => by simp [pm_ls, pm_ls_len l 0 v]
  | w :: l, n + 2, v => by simp [pm_ls, pm_ls_len l (n + 1) v]
theorem pm_l0_len : ∀ (lv : pm_L) (i : Nat), (pm_l0 lv i).length = lv.length
  | [], _ => by simp [pm_l0]
  | _ :: l, 0 => by simp [pm_l0]
  | w :: l, n + 1 => by simp [pm_l0, pm_l0_len l n]
theorem pm_l0_get : ∀ (lv : pm_L) (i j : Nat) (w : pm_V), pm_lg (pm_l0 lv i) j = some w → j ≠ i ∧ pm_lg lv j = some w
  | [], i, j, w, h => by simp [pm_l0, pm_lg] at h
  | _ :: l, 0, 0, w, h => by simp [pm_l0, pm_lg] at h
  | _ :: l, 0, j + 1, w, h => by simp only [pm_l0, pm_lg] at h ⊢; exact ⟨by omega, h⟩
  | x :: l, n + 1, 0, w, h => by simp only [pm_l0, pm_lg] at h ⊢; exact ⟨by omega, h⟩
  | x :: l, n + 1, j + 1, w, h => by
    simp only [pm_l0, pm_lg] at h ⊢
    have := pm_l0_get l n j w h
    exact ⟨by omega, this.2⟩
theorem pm_ls_get : ∀ (lv : pm_L) (i j : Nat) (v w : pm_V), pm_lg (pm_ls lv i v) j = some w → (j = i ∧ w = v) ∨ (j ≠ i ∧ pm_lg lv j = some w ∧ ¬ (j + 1 = i ∧ (pm_cv w).category = 2))
  | [], i, j, v, w, h => by simp [pm_ls, pm_lg] at h
  | _ :: l, 0, 0, v, w, h => by simp only [pm_ls, pm_lg, Option.some.injEq] at h; exact Or.inl ⟨rfl, h.symm⟩
  | _ :: l, 0, j + 1, v, w, h => by simp only [pm_ls, pm_lg] at h; exact Or.inr ⟨by omega, h, by omega⟩
  | x :: l, 1, 0, v, w, h => by
    simp only [pm_ls, pm_lg] at h
    have := pm_cl_some h
    exact Or.inr ⟨by omega, this.1, fun q => this.2 q.2⟩
  | x :: l, 1, j + 1, v, w, h => by
    simp only [pm_ls, pm_lg] at h
    rcases pm_ls_get l 0 j v w h with ⟨h1, h2⟩ | ⟨h1, h2, h3⟩
    · exact Or.inl ⟨by omega, h2⟩
    · exact Or.inr ⟨by omega, h2, by omega⟩
  | x :: l, n + 2, 0, v, w, h => by
    simp only [pm_ls, pm_lg] at h
    exact Or.inr ⟨by omega, h, by omega⟩
  | x :: l, n + 2, j + 1, v, w, h => by
    simp only [pm_ls, pm_lg] at h
    rcases pm_ls_get l (n + 1) j v w h with ⟨h1, h2⟩ | ⟨h1, h2, h3⟩
    · exact Or.inl ⟨by omega, h2⟩
    · exact Or.inr ⟨by omega, h2, fun q => h3 ⟨by omega, q.2⟩⟩
theorem pm_Lr_st {ls : Array Slot} {nL i : Nat} {lv : pm_L} {v : pm_V} (hn : lv.length = nL) (h : lv_has ls nL ((i, pm_cv v) :: (pm_en 0 lv).filter (fun q => !(q.1 == i) && !(q.1 + 1 == i && q.2.category == 2)))) : pm_Lr ls nL (pm_ls lv i v) := by
  refine ⟨h.1, h.2.1, by rw [pm_ls_len, hn], fun j w hj => ?_⟩
  rcases pm_ls_get lv i j v w hj with ⟨rfl, rfl⟩ | ⟨h1, h2, h3⟩
  · exact h.2.2 _ List.mem_cons_self
  · refine h.2.2 (j, pm_cv w) (List.mem_cons_of_mem _ (List.mem_filter.mpr ⟨pm_en_mem.mpr ⟨j, w, by rw [Nat.zero_add], h2⟩, ?_⟩))
    simp only [Bool.and_eq_true, Bool.not_eq_true', beq_eq_false_iff_ne, Bool.and_eq_false_iff]
    refine ⟨h1, ?_⟩
    by_cases hq : j + 1 = i
    · right; exact fun hc => h3 ⟨hq, hc⟩
    · left; exact hq
theorem pm_Lr_ll {ls : Array Slot} {nL i : Nat} {lv : pm_L} {v : pm_V} (hn : lv.length = nL) (h : lv_has ls nL ((i, pm_cv v) :: (pm_en 0 lv).filter (fun q => !(q.1 == i) && (!(q.1 == i + 1) && !(q.1 + 1 == i && q.2.category == 2))))) : pm_Lr ls nL (pm_ll lv i v) := by
  refine ⟨h.1, h.2.1, by unfold pm_ll; rw [pm_l0_len, pm_ls_len, hn], fun j w hj => ?_⟩
  obtain ⟨h0, hj⟩ := pm_l0_get _ _ _ _ hj
  rcases pm_ls_get lv i j v w hj with ⟨rfl, rfl⟩ | ⟨h1, h2, h3⟩
  · exact h.2.2 _ List.mem_cons_self
  · refine h.2.2 (j, pm_cv w) (List.mem_cons_of_mem _ (List.mem_filter.mpr ⟨pm_en_mem.mpr ⟨j, w, by rw [Nat.zero_add], h2⟩, ?_⟩))
    simp only [Bool.and_eq_true, Bool.not_eq_true', beq_eq_false_iff_ne, Bool.and_eq_false_iff]
    refine ⟨h1, h0, ?_⟩
    by_cases hq : j + 1 = i
    · right; exact fun hc => h3 ⟨hq, hc⟩
    · left; exact hq
theorem pm_okL_st {lv : pm_L} {i : Nat} {v : pm_V} (h : ∀ j w, pm_lg lv j = some w → pm_ok w) (hv : pm_ok v) : ∀ j w, pm_lg (pm_ls lv i v) j = some w → pm_ok w := fun j w hj => by
  rcases pm_ls_get lv i j v w hj with ⟨-, rfl⟩ | ⟨-, h2, -⟩
  · exact hv
  · exact h _ _ h2
theorem pm_okL_ll {lv : pm_L} {i : Nat} {v : pm_V} (h : ∀ j w, pm_lg lv j = some w → pm_ok w) (hv : pm_ok v) : ∀ j w, pm_lg (pm_ll lv i v) j = some w → pm_ok w := fun j w hj => pm_okL_st h hv j w (pm_l0_get _ _ _ _ hj).2
theorem pm_okS {v : pm_V} {st : List pm_V} (hv : pm_ok v) (h : ∀ w ∈ st, pm_ok w) : ∀ w ∈ v :: st, pm_ok w := fun w hw => (List.mem_cons.mp hw).elim (fun e => e ▸ hv) (h w)
theorem pm_at_keep {G : va_G} {cl : List vw_C} {q : Nat × va_E} {H H1 : Heap} (h : va_at G cl q H) (e : H1[q.1]? = H[q.1]?) : va_at G cl q H1 := by
  unfold va_at at h ⊢
  split
  · rename_i a ha
    rw [ha] at h
    rw [e]
    exact h
  · rename_i o ho
    rw [ho] at h
    obtain ⟨r, h1, h2⟩ := h
    exact ⟨r, h1, h2.kept e⟩
theorem pm_Hd_up {G : va_G} {cl : List vw_C} {cI cJ : ClassId} {cR : Nat → ClassId} {A : Nat → Prop} {f : pm_H} {H H1 : Heap} {a : Nat} {c : pm_C} (h : pm_Hd G cl cI cJ cR A f H) (hc : va_at G cl (a, pm_cc cI cJ cR c) H1) (hA : A a) (hok : pm_okc c) (oq : ∀ q : Nat, q ≠ a → H1[q]? = H[q]?) : pm_Hd G cl cI cJ cR A (pm_up f a c) H1 := by
  intro b d hb
  unfold pm_up at hb
  split at hb
  · rename_i e
    cases hb
    subst e
    exact ⟨hc, hA, hok⟩
  · rename_i e
    obtain ⟨h1, h2, h3⟩ := h b d hb
    exact ⟨pm_at_keep h1 (oq b e), h2, h3⟩
end PMS
