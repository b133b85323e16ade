/-! THE CLASS at c: its object, past c+1 (8 nets behind, in some order), now c+2, aside c+23, kept c+44, survey c+65, tape c+71, the past's nets c+74 .. -/
def tp_obj (p : Nat) (V : Nat → Int) : pm_C := .inr (.inr (.inr (3, [.inr (.inl (some (p + 1))), .inr (.inl (some (p + 2))), .inl (V 0), .inl (V 1), .inl (V 2), .inl (V 3), .inl (V 4), .inl (V 5)])))
def tp_at (f : pm_H) (p : Nat) (B M V : Nat → Int) : Prop := f p = some (tp_obj p V) ∧ f (p + 1) = some (.inl (400, B)) ∧ f (p + 2) = some (.inl (201, M))
def tfr (p : Nat) (f f' : pm_H) : Prop := ∀ q, (q < p ∨ p + 3 ≤ q) → f' q = f q
section TP
variable {f : pm_H} {p : Nat} {B M V : Nat → Int}
theorem tp0 (h : tp_at f p B M V) : f p = some (.inr (.inr (.inr (3, [.inr (.inl (some (p + 1))), .inr (.inl (some (p + 2))), .inl (V 0), .inl (V 1), .inl (V 2), .inl (V 3), .inl (V 4), .inl (V 5)])))) := h.1
theorem tp1 (h : tp_at f p B M V) : f (p + 1) = some (.inl (400, B)) := h.2.1
theorem tp2 (h : tp_at f p B M V) : f (p + 2) = some (.inl (201, M)) := h.2.2
theorem tfr_rf : tfr p f f := fun _ _ => rfl
theorem tfr_tr {f' f'' : pm_H} (h : tfr p f f') (h2 : tfr p f' f'') : tfr p f f'' := fun q hq => (h2 q hq).trans (h q hq)
theorem tfr_up {a : Nat} {c : pm_C} (h1 : p ≤ a) (h2 : a < p + 3) : tfr p f (pm_up f a c) := fun q hq => up_ne (by omega)
theorem tp_put (h : tp_at f p B M V) (V' : Nat → Int) : tp_at (pm_up f p (tp_obj p V')) p B M V' := ⟨up_eq, by rw [up_ne (by omega)]; exact h.2.1, by rw [up_ne (by omega)]; exact h.2.2⟩
theorem tp_B (h : tp_at f p B M V) (B' : Nat → Int) : tp_at (pm_up f (p + 1) (.inl (400, B'))) p B' M V := ⟨by rw [up_ne (by omega)]; exact h.1, up_eq, by rw [up_ne (by omega)]; exact h.2.2⟩
theorem tp_M (h : tp_at f p B M V) (M' : Nat → Int) : tp_at (pm_up f (p + 2) (.inl (201, M'))) p B M' V := ⟨by rw [up_ne (by omega)]; exact h.1, by rw [up_ne (by omega)]; exact h.2.1, up_eq⟩
theorem tp_keep {f' : pm_H} (h : tp_at f p B M V) (r : ∀ q, p ≤ q → q < p + 3 → f' q = f q) : tp_at f' p B M V := ⟨(r p (by omega) (by omega)).trans h.1, (r _ (by omega) (by omega)).trans h.2.1, (r _ (by omega) (by omega)).trans h.2.2⟩
end TP
def cf_obj (c : Nat) (V : Nat → Int) : pm_C := .inr (.inr (.inr (4, [.inr (.inl (some (c + 1))), .inr (.inl (some (c + 2))), .inr (.inl (some (c + 23))), .inr (.inl (some (c + 44))), .inr (.inl (some (c + 65))), .inr (.inl (some (c + 71))), .inl (V 0), .inl (V 1), .inl (V 2), .inl (V 3)])))
def exn (f : pm_H) (a : Nat) : Prop := ∃ (A R : Nat → Nat → Int) (U : Nat → Nat) (S : Nat → Int), cn_at f a A R U S
/-- the class's cells; g the past's row, by the order o; V: 0 anyKept 1 remembered 2 why 3 refused; tape: 0 length 1 at 2 fault 3 act 4 told 5 times -/
def cf_at (f : pm_H) (c : Nat) (g : Nat → Option Nat) (o : Nat → Nat) (V : Nat → Int) (L : Nat → Nat → Int) (B M T : Nat → Int) : Prop :=
  (f c = some (cf_obj c V) ∧ f (c + 1) = some (.inr (.inl (1, 8, g)))) ∧ ((∀ i, i < 8 → o i < 8 ∧ g i = some (c + 74 + 21 * o i)) ∧ ∀ i j, i < 8 → j < 8 → o i = o j → i = j) ∧ (exn f (c + 2) ∧ exn f (c + 23) ∧ exn f (c + 44) ∧ ∀ i, i < 8 → exn f (c + 74 + 21 * i)) ∧ sv_at f (c + 65) L ∧ tp_at f (c + 71) B M T
def cff (c : Nat) (f f' : pm_H) : Prop := ∀ q, (q < c ∨ c + 242 ≤ q) → f' q = f q
def cZ (f : pm_H) (c : Nat) (o : Nat → Nat) (V B T : Nat → Int) (x : xs) : Prop :=
  ck f (c + 2) (xN x) ∧ (V 0 = b2 (xI x).isSome ∧ ∀ N, xI x = some N → ck f (c + 44) N) ∧ (V 1 = ((xP x).length : Int) ∧ ∀ i, i < (xP x).length → ck f (c + 74 + 21 * o i) ((xP x).getD i (netN 2))) ∧ V 2 = xW x ∧ (T 0 = ((xT x).length : Int) ∧ ∀ j, j < (xT x).length → (xT x)[j]? = some (B j)) ∧ T 2 = xF x
def cX (f : pm_H) (c : Nat) (x : xs) : Prop := ∃ (g : Nat → Option Nat) (o : Nat → Nat) (V : Nat → Int) (L : Nat → Nat → Int) (B M T : Nat → Int), cf_at f c g o V L B M T ∧ cZ f c o V B T x
section CF
variable {f f' : pm_H} {c : Nat} {g : Nat → Option Nat} {o : Nat → Nat} {V : Nat → Int} {L : Nat → Nat → Int} {B M T : Nat → Int} {x : xs} {N : nt}
theorem cf0 (h : cf_at f c g o V L B M T) : f c = some (.inr (.inr (.inr (4, [.inr (.inl (some (c + 1))), .inr (.inl (some (c + 2))), .inr (.inl (some (c + 23))), .inr (.inl (some (c + 44))), .inr (.inl (some (c + 65))), .inr (.inl (some (c + 71))), .inl (V 0), .inl (V 1), .inl (V 2), .inl (V 3)])))) := h.1.1
theorem cf1 (h : cf_at f c g o V L B M T) : f (c + 1) = some (.inr (.inl (1, 8, g))) := h.1.2
theorem cff_rf : cff c f f := fun _ _ => rfl
theorem cff_tr {f'' : pm_H} (h : cff c f f') (h2 : cff c f' f'') : cff c f f'' := fun q hq => (h2 q hq).trans (h q hq)
theorem cff_up {a : Nat} {w : pm_C} (h1 : c ≤ a) (h2 : a < c + 242) : cff c f (pm_up f a w) := fun q hq => up_ne (by omega)
theorem cff_c {a : Nat} (h1 : c ≤ a) (h2 : a + 21 ≤ c + 242) (r : cfr a f f') : cff c f f' := fun q hq => r q (by omega)
theorem cff_s (r : sfr (c + 65) f f') : cff c f f' := fun q hq => r q (by omega)
theorem cff_t (r : tfr (c + 71) f f') : cff c f f' := fun q hq => r q (by omega)
theorem cn_keepQ {a : Nat} {A R : Nat → Nat → Int} {U : Nat → Nat} {S : Nat → Int} (h : cn_at f a A R U S) (r : ∀ q, a ≤ q → q < a + 21 → f' q = f q) : cn_at f' a A R U S :=
  ⟨(r a (by omega) (by omega)).trans h.1, fun j hj => (r (a + 1 + j) (by omega) (by omega)).trans (h.2.1 j hj), (r (a + 10) (by omega) (by omega)).trans h.2.2.1, fun i hi => fo_keep (h.2.2.2 i hi) (r _ (by omega) (by omega)) (r _ (by omega) (by omega))⟩
theorem ck_keepQ {a : Nat} (h : ck f a N) (r : ∀ q, a ≤ q → q < a + 21 → f' q = f q) : ck f' a N := by
  obtain ⟨A, R, U, S, g, hl, ht⟩ := h
  exact ⟨A, R, U, S, cn_keepQ g r, hl, ht⟩
theorem exn_keepQ {a : Nat} (h : exn f a) (r : ∀ q, a ≤ q → q < a + 21 → f' q = f q) : exn f' a := by
  obtain ⟨A, R, U, S, g⟩ := h
  exact ⟨A, R, U, S, cn_keepQ g r⟩
theorem ck_exn {a : Nat} (h : ck f a N) : exn f a := by
  obtain ⟨A, R, U, S, g, -, -⟩ := h
  exact ⟨A, R, U, S, g⟩
theorem sv_keepQ {s : Nat} (h : sv_at f s L) (r : ∀ q, s ≤ q → q < s + 6 → f' q = f q) : sv_at f' s L := ⟨(r s (by omega) (by omega)).trans h.1, fun j hj => (r _ (by omega) (by omega)).trans (h.2 j hj)⟩
/-- one net written: all else of the class stands -/
theorem cf_net {a : Nat} (h : cf_at f c g o V L B M T) (ha : a = c + 2 ∨ a = c + 23 ∨ a = c + 44 ∨ ∃ i, i < 8 ∧ a = c + 74 + 21 * i) (r : cfr a f f') (hn : exn f' a) : cf_at f' c g o V L B M T := by
  have hd : ∀ b, (b = c + 2 ∨ b = c + 23 ∨ b = c + 44 ∨ ∃ i, i < 8 ∧ b = c + 74 + 21 * i) → exn f b → exn f' b := by
    intro b hb hx
    by_cases e : b = a
    · rw [e]; exact hn
    · refine exn_keepQ hx fun q h1 h2 => r q ?_
      rcases ha with ha | ha | ha | ⟨i, hi, ha⟩ <;> rcases hb with hb | hb | hb | ⟨j, hj, hb⟩ <;> omega
  obtain ⟨⟨h1, h2⟩, h3, ⟨n1, n2, n3, n4⟩, h5, h6⟩ := h
  have lo : c + 2 ≤ a ∧ (a + 21 ≤ c + 65 ∨ c + 74 ≤ a) := by rcases ha with ha | ha | ha | ⟨i, hi, ha⟩ <;> omega
  clear ha
  exact ⟨⟨(r _ (by omega)).trans h1, (r _ (by omega)).trans h2⟩, h3, ⟨hd _ (Or.inl rfl) n1, hd _ (Or.inr (Or.inl rfl)) n2, hd _ (Or.inr (Or.inr (Or.inl rfl))) n3, fun i hi => hd _ (Or.inr (Or.inr (Or.inr ⟨i, hi, rfl⟩))) (n4 i hi)⟩, sv_keepQ h5 fun q q1 q2 => r q (by omega), tp_keep h6 fun q q1 q2 => r q (by omega)⟩
theorem cf_V (h : cf_at f c g o V L B M T) (V' : Nat → Int) : cf_at (pm_up f c (cf_obj c V')) c g o V' L B M T := by
  obtain ⟨⟨h1, h2⟩, h3, ⟨n1, n2, n3, n4⟩, h5, h6⟩ := h
  have r : ∀ q, c < q → pm_up f c (cf_obj c V') q = f q := fun q hq => up_ne (by omega)
  exact ⟨⟨up_eq, (r _ (by omega)).trans h2⟩, h3, ⟨exn_keepQ n1 fun q q1 q2 => r q (by omega), exn_keepQ n2 fun q q1 q2 => r q (by omega), exn_keepQ n3 fun q q1 q2 => r q (by omega), fun i hi => exn_keepQ (n4 i hi) fun q q1 q2 => r q (by omega)⟩, sv_keepQ h5 fun q q1 q2 => r q (by omega), tp_keep h6 fun q q1 q2 => r q (by omega)⟩
theorem cf_sv {L' : Nat → Nat → Int} (h : cf_at f c g o V L B M T) (hs : sv_at f' (c + 65) L') (r : sfr (c + 65) f f') : cf_at f' c g o V L' B M T := by
  obtain ⟨⟨h1, h2⟩, h3, ⟨n1, n2, n3, n4⟩, h5, h6⟩ := h
  exact ⟨⟨(r _ (by omega)).trans h1, (r _ (by omega)).trans h2⟩, h3, ⟨exn_keepQ n1 fun q q1 q2 => r q (by omega), exn_keepQ n2 fun q q1 q2 => r q (by omega), exn_keepQ n3 fun q q1 q2 => r q (by omega), fun i hi => exn_keepQ (n4 i hi) fun q q1 q2 => r q (by omega)⟩, hs, tp_keep h6 fun q q1 q2 => r q (by omega)⟩
theorem cf_tp {B' M' T' : Nat → Int} (h : cf_at f c g o V L B M T) (hs : tp_at f' (c + 71) B' M' T') (r : tfr (c + 71) f f') : cf_at f' c g o V L B' M' T' := by
  obtain ⟨⟨h1, h2⟩, h3, ⟨n1, n2, n3, n4⟩, h5, h6⟩ := h
  exact ⟨⟨(r _ (by omega)).trans h1, (r _ (by omega)).trans h2⟩, h3, ⟨exn_keepQ n1 fun q q1 q2 => r q (by omega), exn_keepQ n2 fun q q1 q2 => r q (by omega), exn_keepQ n3 fun q q1 q2 => r q (by omega), fun i hi => exn_keepQ (n4 i hi) fun q q1 q2 => r q (by omega)⟩, sv_keepQ h5 fun q q1 q2 => r q (by omega), hs⟩
theorem cf_g {g' : Nat → Option Nat} {o' : Nat → Nat} (h : cf_at f c g o V L B M T) (hg : (∀ i, i < 8 → o' i < 8 ∧ g' i = some (c + 74 + 21 * o' i)) ∧ ∀ i j, i < 8 → j < 8 → o' i = o' j → i = j) : cf_at (pm_up f (c + 1) (.inr (.inl (1, 8, g')))) c g' o' V L B M T := by
  obtain ⟨⟨h1, h2⟩, h3, ⟨n1, n2, n3, n4⟩, h5, h6⟩ := h
  have r : ∀ q, q ≠ c + 1 → pm_up f (c + 1) (.inr (.inl (1, 8, g'))) q = f q := fun q hq => up_ne hq
  exact ⟨⟨(r _ (by omega)).trans h1, up_eq⟩, hg, ⟨exn_keepQ n1 fun q q1 q2 => r q (by omega), exn_keepQ n2 fun q q1 q2 => r q (by omega), exn_keepQ n3 fun q q1 q2 => r q (by omega), fun i hi => exn_keepQ (n4 i hi) fun q q1 q2 => r q (by omega)⟩, sv_keepQ h5 fun q q1 q2 => r q (by omega), tp_keep h6 fun q q1 q2 => r q (by omega)⟩
/-- what is said of the nets stands where they are as they were -/
theorem cZ_keep (ho : ∀ i, i < 8 → o i < 8) (hl : (xP x).length ≤ 8) (h : cZ f c o V B T x) (r : ∀ q, (c + 2 ≤ q ∧ q < c + 23 ∨ c + 44 ≤ q ∧ q < c + 65 ∨ c + 74 ≤ q ∧ q < c + 242) → f' q = f q) : cZ f' c o V B T x := by
  obtain ⟨h1, ⟨h2, h3⟩, ⟨h4, h5⟩, h6⟩ := h
  exact ⟨ck_keepQ h1 fun q q1 q2 => r q (by omega), ⟨h2, fun N hN => ck_keepQ (h3 N hN) fun q q1 q2 => r q (by omega)⟩, ⟨h4, fun i hi => ck_keepQ (h5 i hi) fun q q1 q2 => r q (by have := ho i (by omega); omega)⟩, h6⟩
end CF
