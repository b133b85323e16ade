/-! THE TEXT OF ACTS, as such: what both read of it, and what is done -/
def whA (q : Int → Bool) (G : Nat → Int) (e : Nat) : Nat → Nat → Nat
  | 0, p => p
  | n + 1, p => if p < e ∧ q (G p) = true then whA q G e n (p + 1) else p
/-- past all that is such -/
def wh (q : Int → Bool) (G : Nat → Int) (e p : Nat) : Nat := whA q G e (e - p) p
def qB (v : Int) : Bool := decide (v = 32)
def qW (v : Int) : Bool := decide (97 ≤ v ∧ v ≤ 122)
def qD (v : Int) : Bool := decide (48 ≤ v ∧ v ≤ 57)
section WH
variable {q : Int → Bool} {G : Nat → Int} {e p : Nat}
theorem wh_n (h : ¬ (p < e ∧ q (G p) = true)) : wh q G e p = p := by
  unfold wh
  cases e - p with
  | zero => rfl
  | succ n => rw [whA, if_neg h]
theorem wh_y (h : p < e) (hg : q (G p) = true) : wh q G e p = wh q G e (p + 1) := by
  unfold wh
  rw [show e - p = (e - (p + 1)) + 1 by omega, whA, if_pos ⟨h, hg⟩]
theorem wh_ge : p ≤ wh q G e p := by
  unfold wh
  generalize e - p = n
  induction n generalizing p with
  | zero => exact Nat.le_refl _
  | succ n ih =>
    rw [whA]
    split
    · have := ih (p := p + 1); omega
    · exact Nat.le_refl _
theorem wh_le (h : p ≤ e) : wh q G e p ≤ e := by
  unfold wh
  generalize e - p = n
  induction n generalizing p with
  | zero => exact h
  | succ n ih =>
    rw [whA]
    split
    · exact ih (by omega)
    · exact h
theorem wh_ind {P : Nat → Prop} (hp : P p) (hs : ∀ i, p ≤ i → i < e → q (G i) = true → P i → P (i + 1)) : P (wh q G e p) := by
  unfold wh
  generalize e - p = n
  induction n generalizing p with
  | zero => exact hp
  | succ n ih =>
    rw [whA]
    split
    · rename_i hh
      exact ih (hs p (Nat.le_refl _) hh.1 hh.2 hp) (fun i h1 => hs i (by omega))
    · exact hp
theorem wh_st (hp : p ≤ e) : ¬ (wh q G e p < e ∧ q (G (wh q G e p)) = true) := by
  obtain ⟨n, hn⟩ : ∃ n, e - p = n := ⟨_, rfl⟩
  induction n generalizing p with
  | zero =>
    rw [wh_n (by omega)]
    omega
  | succ n ih =>
    by_cases hh : p < e ∧ q (G p) = true
    · rw [wh_y hh.1 hh.2]
      exact ih (by omega) (by omega)
    · rw [wh_n hh]
      exact hh
theorem wh_in {j : Nat} (hp : p ≤ e) (h1 : p ≤ j) (h2 : j < wh q G e p) : j < e ∧ q (G j) = true := by
  obtain ⟨n, hn⟩ : ∃ n, e - p = n := ⟨_, rfl⟩
  induction n generalizing p with
  | zero =>
    rw [wh_n (by omega)] at h2
    omega
  | succ n ih =>
    by_cases hh : p < e ∧ q (G p) = true
    · by_cases e1 : j = p
      · rw [e1]; exact hh
      · rw [wh_y hh.1 hh.2] at h2
        exact ih (by omega) (by omega) h2 (by omega)
    · rw [wh_n hh] at h2
      omega
theorem wh_id (hp : p ≤ e) : wh q G e (wh q G e p) = wh q G e p := wh_n (wh_st hp)
theorem wh_cg {G' : Nat → Int} (h : ∀ j, j < e → G' j = G j) : wh q G' e p = wh q G e p := by
  unfold wh
  generalize e - p = n
  induction n generalizing p with
  | zero => rfl
  | succ n ih =>
    rw [whA, whA, ih]
    by_cases hp : p < e
    · rw [h p hp]
    · rw [if_neg (by omega), if_neg (by omega)]
end WH
def nvI (G : Nat → Int) (p q : Nat) : Int := if q = p + 1 then G p - 48 else 10 * (G p - 48) + (G (p + 1) - 48)
def nuB (G : Nat → Int) (e : Nat) (lo hi : Int) (p : Nat) : Bool := decide ((wh qD G e p = p + 1 ∨ wh qD G e p = p + 2) ∧ lo ≤ nvI G p (wh qD G e p) ∧ nvI G p (wh qD G e p) ≤ hi)
def nuV (G : Nat → Int) (e p : Nat) : Int := nvI G p (wh qD G e p)
def nuN (G : Nat → Int) (e p : Nat) : Nat := wh qB G e (wh qD G e p)
def acL (a : Nat) : Int := if a = 0 then 2 else 0
def acH (a o : Nat) : Int := if a = 0 then 16 else if a = 1 ∨ a = 4 then 15 else if a = 6 then (if o = 0 then 59 else 99) else 59
def acE (a : Nat) : Nat := if a = 5 then 0 else if a = 0 ∨ a = 2 ∨ a = 4 then 1 else 2
/-- what an act tells once: the place of its fault, or the numbers and where one stands -/
def r1 (G : Nat → Int) (e a p : Nat) : Nat ⊕ ((Int × Int) × Nat) :=
  if acE a = 0 then .inr ((0, 0), p) else
  if nuB G e (acL a) (acH a 0) p then (if acE a = 1 then .inr ((nuV G e p, 0), nuN G e p) else
    if nuB G e (acL a) (acH a 1) (nuN G e p) then .inr ((nuV G e p, nuV G e (nuN G e p)), nuN G e (nuN G e p)) else .inl (nuN G e p)) else .inl p
def rpt (a : Nat) : Prop := a = 1 ∨ a = 2
def rLc (G : Nat → Int) (e a q : Nat) : Bool := (decide (a = 1) || decide (a = 2)) && decide (q < e ∧ G q = 44)
/-- all that it tells -/
def rL (G : Nat → Int) (e a : Nat) : Nat → Nat → Nat ⊕ (List (Int × Int) × Nat)
  | 0, p => .inr ([], p)
  | n + 1, p => match r1 G e a p with
    | .inl r => .inl r
    | .inr (v, q) => if rLc G e a q then (match rL G e a n (wh qB G e (q + 1)) with
      | .inl r => .inl r
      | .inr (l, r) => .inr (v :: l, r)) else .inr ([v], q)
def rap (l0 : List (Int × Int)) : Nat ⊕ (List (Int × Int) × Nat) → Nat ⊕ (List (Int × Int) × Nat)
  | .inl r => .inl r
  | .inr (l, r) => .inr (l0 ++ l, r)
noncomputable def doL (a : Nat) : nt → List (Int × Int) → nt × Nat
  | N, [] => (N, 0)
  | N, v :: l => if cod N a v.1 v.2 = 0 then doL a (prf N a v.1 v.2).1 l else (N, cod N a v.1 v.2)
def isW (G : Nat → Int) (p q i : Nat) : Bool := decide (((q : Int) - (p : Int) = ps_len i) ∧ ∀ j, j < pm_sln.getD i 0 → G (p + j) = ps_chr i j)
def kdO (G : Nat → Int) (p q : Nat) : Option Nat := (List.range 7).find? (isW G p q)
/-- one act: the net, the refusal, and the place of the fault or where one stands -/
noncomputable def oneA (G : Nat → Int) (e : Nat) (N : nt) (p : Nat) : nt × Nat × (Nat ⊕ Nat) := match kdO G p (wh qW G e p) with
  | none => (N, 0, .inl p)
  | some a => match rL G e a 201 (wh qB G e (wh qW G e p)) with
    | .inl r => (N, 0, .inl r)
    | .inr (l, r) => if (doL a N l).2 = 0 then ((doL a N l).1, 0, .inr r) else ((doL a N l).1, (doL a N l).2, .inl p)
/-- acts one behind the other: the net, the refusal, the fault, how many -/
noncomputable def lpA (G : Nat → Int) (e : Nat) : Nat → nt → Nat → nt × Nat × Option Nat × Nat
  | 0, N, p => (N, 0, some p, 0)
  | n + 1, N, p => match oneA G e N p with
    | (N', c, .inl r) => (N', c, some r, 0)
    | (N', _, .inr r) => if r < e then (if G r = 59 then ((lpA G e n N' (wh qB G e (r + 1))).1, (lpA G e n N' (wh qB G e (r + 1))).2.1, (lpA G e n N' (wh qB G e (r + 1))).2.2.1, (lpA G e n N' (wh qB G e (r + 1))).2.2.2 + 1) else (N', 0, some r, 0)) else (N', 0, none, 1)
noncomputable def rnA (T : List Int) (N : nt) : nt × Nat × Option Nat × Nat := if wh qB (fun j => T.getD j 0) T.length 0 < T.length then lpA (fun j => T.getD j 0) T.length 14 N (wh qB (fun j => T.getD j 0) T.length 0) else (N, 0, none, 0)
section TXM
variable {G : Nat → Int} {e a p : Nat} {N : nt}
theorem isW_un {q i j : Nat} (hi : i < 7) (hj : j < 7) (h1 : isW G p q i = true) (h2 : isW G p q j = true) : i = j := by
  have a1 := of_decide_eq_true h1
  have a2 := of_decide_eq_true h2
  have key : ∀ i, i < 7 → ∀ j, j < 7 → i ≠ j → ps_len i ≠ ps_len j ∨ ∃ t, t < 4 ∧ t < pm_sln.getD i 0 ∧ t < pm_sln.getD j 0 ∧ ps_chr i t ≠ ps_chr j t := by decide +kernel
  by_cases e : i = j
  · exact e
  · rcases key i hi j hj e with h | ⟨t, -, t1, t2, h⟩
    · exact absurd (a1.1.symm.trans a2.1) h
    · exact absurd ((a1.2 t t1).symm.trans (a2.2 t t2)) h
theorem kdO_at {q i : Nat} (hi : i < 7) (h : isW G p q i = true) : kdO G p q = some i := by
  cases hk : kdO G p q with
  | none =>
    have := List.find?_eq_none.mp hk i (List.mem_range.mpr hi)
    exact absurd h this
  | some j =>
    have h1 := List.find?_some hk
    have h2 := List.mem_range.mp (List.mem_of_find?_eq_some hk)
    rw [isW_un h2 hi h1 h]
theorem kdO_no {q : Nat} (h : ∀ i, i < 7 → isW G p q i = false) : kdO G p q = none := List.find?_eq_none.mpr fun i hi => by
  rw [h i (List.mem_range.mp hi)]; exact Bool.false_ne_true
theorem kdO_sp {q i : Nat} (h : kdO G p q = some i) : i < 7 ∧ isW G p q i = true := ⟨List.mem_range.mp (List.mem_of_find?_eq_some h), List.find?_some h⟩
theorem isW_len {q i : Nat} (hi : i < 7) (h : isW G p q i = true) : p + 3 ≤ q := by
  have := (of_decide_eq_true h).1
  have key : ∀ i, i < 7 → 3 ≤ ps_len i := by decide +kernel
  have := key i hi
  omega
theorem rap_nil (R : Nat ⊕ (List (Int × Int) × Nat)) : rap [] R = R := by
  cases R with
  | inl r => rfl
  | inr q => rfl
theorem rap_go {l0 : List (Int × Int)} {n q : Nat} {v : Int × Int} (h1 : r1 G e a p = .inr (v, q)) (h2 : rLc G e a q = true) : rap l0 (rL G e a (n + 1) p) = rap (l0 ++ [v]) (rL G e a n (wh qB G e (q + 1))) := by
  rw [rL, h1]
  simp only
  rw [if_pos h2]
  cases rL G e a n (wh qB G e (q + 1)) with
  | inl r => rfl
  | inr q => simp [rap]
theorem rap_end {l0 : List (Int × Int)} {n q : Nat} {v : Int × Int} (h1 : r1 G e a p = .inr (v, q)) (h2 : rLc G e a q = false) : rap l0 (rL G e a (n + 1) p) = .inr (l0 ++ [v], q) := by
  rw [rL, h1]
  simp only
  rw [if_neg (by rw [h2]; exact Bool.false_ne_true)]
  rfl
theorem rap_no {l0 : List (Int × Int)} {n r : Nat} (h1 : r1 G e a p = .inl r) : rap l0 (rL G e a (n + 1) p) = .inl r := by
  rw [rL, h1]
  rfl
/-- a number that is read takes a place and, if a digit follows, a blank -/
theorem nu_pos {lo hi : Int} (hp : p ≤ e) (h : nuB G e lo hi p = true) : p + 1 ≤ wh qD G e p ∧ p < e ∧ p + 1 ≤ nuN G e p ∧ nuN G e p ≤ e ∧ ((nuN G e p < e ∧ qD (G (nuN G e p)) = true) → p + 2 ≤ nuN G e p) := by
  have h1 := of_decide_eq_true h
  have h2 := wh_le (q := qD) (G := G) hp
  have h3 := wh_ge (q := qB) (G := G) (e := e) (p := wh qD G e p)
  have h4 := wh_le (q := qB) (G := G) h2
  refine ⟨by omega, by omega, by unfold nuN; omega, h4, fun hd => ?_⟩
  unfold nuN at hd ⊢
  by_cases e1 : wh qB G e (wh qD G e p) = wh qD G e p
  · rw [e1] at hd
    exact absurd hd (wh_st hp)
  · omega
theorem nu_bd {lo hi : Int} (h : nuB G e lo hi p = true) : lo ≤ nuV G e p ∧ nuV G e p ≤ hi := (of_decide_eq_true h).2
end TXM
