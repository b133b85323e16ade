def smZ (N : nt) (i x y : Nat) : Nat := if szN N i y < szN N i x then y else x
def smP (N : nt) (i x y : Nat) : Nat → Bool := fun n => on1 N i n (smZ N i x y)
def mayN (N : nt) (i : Nat) : Bool := decide (i < hgt (nN N) 4)
def c1P (i : Nat) (p : Nat → Bool) (N : nt) (k : Nat) : Bool := trN N k && decide (cN N 3 k = i) && (p (cN N 0 k) && p (cN N 1 k))
def stpA (i : Nat) (p : Nat → Bool) (N : nt) (k : Nat) : nt := if c1P i p N k then riseN N k else N
def sr1 (N : nt) (i : Nat) (p : Nat → Bool) : Nat → nt
  | 0 => N
  | k + 1 => stpA i p (sr1 N i p k) k
def plT (T : Nat → Nat → List Int) (i k x y : Nat) : Nat → Nat → List Int := fun j => if j ≤ i then jT T j k x y j else T j
def plcN (N : nt) (k i : Nat) : nt := setT (lgA (setC N 2 k 0) k 5) (plT (tN N) i k (cN N 0 k) (cN N 1 k))
def c2P (i : Nat) (p : Nat → Bool) (N : nt) (k : Nat) : Bool := decide (cN N 2 k = 1) && decide (cN N 3 k = i) && (p (cN N 0 k) || p (cN N 1 k))
def stpB (i : Nat) (p : Nat → Bool) (may : Bool) (N : nt) (k : Nat) : nt × Option Nat :=
  if c2P i p N k then (if p (cN N 0 k) && p (cN N 1 k) then (if may then riseN (adL N) k else adL N, none) else (plcN (adL N) k i, some k)) else (N, none)
def sr2 (N : nt) (i : Nat) (p : Nat → Bool) (may : Bool) : Nat → nt × Option Nat
  | 0 => (N, none)
  | k + 1 => if (sr2 N i p may k).2.isSome then sr2 N i p may k else stpB i p may (sr2 N i p may k).1 k
def ph1 (N : nt) (i x y : Nat) : nt := if mayN N i then sr1 N i (smP N i x y) (ldN N) else N
def sear (N : nt) (i x y : Nat) : nt × Option Nat := sr2 (ph1 N i x y) i (smP N i x y) (mayN N i) (ldN N)
def acr (N : nt) (d x y : Nat) : Prop := ((cN N 0 d : Int) ∈ tN N (cN N 3 d) x ∧ (cN N 1 d : Int) ∈ tN N (cN N 3 d) y) ∨ ((cN N 0 d : Int) ∈ tN N (cN N 3 d) y ∧ (cN N 1 d : Int) ∈ tN N (cN N 3 d) x)
/-- while a search goes on on level i for a cable with the ends x and y -/
def SI (N : nt) (i x y : Nat) : Prop := ok0 N ∧ FA N ∧ lvs N ∧ (x < nN N ∧ y < nN N) ∧ (∀ j, j ≤ i → (y : Int) ∉ tN N j x) ∧ ∀ d, d < ldN N → cN N 2 d = 1 → sp1 N d ∨ (cN N 3 d ≤ i ∧ acr N d x y)
/-- the same net but for levels, risen, looked, log, tours -/
def alike (N N' : nt) : Prop := nN N' = nN N ∧ ldN N' = ldN N ∧ nmN N' = nmN N ∧ cN N' 0 = cN N 0 ∧ cN N' 1 = cN N 1 ∧ cN N' 2 = cN N 2 ∧ cN N' 5 = cN N 5
theorem alike_rf {N : nt} : alike N N := ⟨rfl, rfl, rfl, rfl, rfl, rfl, rfl⟩
theorem alike_tr {N N' N'' : nt} (h : alike N N') (h2 : alike N' N'') : alike N N'' := by
  obtain ⟨a1, a2, a3, a4, a5, a6, a7⟩ := h
  obtain ⟨b1, b2, b3, b4, b5, b6, b7⟩ := h2
  exact ⟨b1.trans a1, b2.trans a2, b3.trans a3, b4.trans a4, b5.trans a5, b6.trans a6, b7.trans a7⟩
theorem alike_rise (N : nt) (c : Nat) : alike N (riseN N c) := by
  obtain ⟨s1, s2, s3, s4, s5, s6⟩ := rise_s N c
  obtain ⟨e1, e2, e3, e4⟩ := rise_e N c
  exact ⟨s1, s2, s5, e1, e2, e3, e4⟩
section SE
variable {N : nt} {i x y : Nat}
theorem FL_len2 {e0 e1 : Nat → Nat} {K : Nat → Prop} {T : Nat → List Int} (h : FL e0 e1 K T) {x y : Nat} (hx : x < 16) (hy : y < 16) (hne : (y : Int) ∉ T x) : (T x).length + (T y).length + 2 ≤ 46 := by
  have hap := FL_apart h hx hy hne
  have l1 := (h.1 x hx).2.2.2.2
  have l2 := (h.1 y hy).2.2.2.2
  have l3 := nds_or (t := T x ++ T y) (a := T x) (b := T y) (fun n _ z => hap _ z.1 z.2) (fun n _ => List.mem_append)
  have := nds_le (T x ++ T y)
  omega
theorem SI_rise_tree (h : SI N i x y) {k : Nat} (hk : k < ldN N) (ht : cN N 2 k = 0) (hl : cN N 3 k = i) (hm : i < hgt (nN N) 4) (hr : riN N < 1000000000) : SI (riseN N k) i x y := by
  obtain ⟨o, hf, lv, xy, ne, sp⟩ := h
  have b := o.1
  have h4 := hgt_le4 (nN N) (by omega)
  obtain ⟨a1, a2, a3, a4, a5, a6, a7⟩ := alike_rise N k
  have c3 := fun d => rise_c N k 3 d
  refine ⟨ok0_rise o hk (by omega) hr, FA_rise hf o hk (by omega), fun c hc => ?_, by rw [a1]; exact xy, fun j hj => by rw [rise_low (by omega)]; exact ne j hj, fun d hd h1 => ?_⟩
  · rw [a1, c3]
    rw [a2] at hc
    have := lv c hc
    split
    · omega
    · split <;> omega
  · rw [a2] at hd
    rw [a6] at h1
    have hdk : d ≠ k := fun e => by subst e; omega
    have e3 : cN (riseN N k) 3 d = cN N 3 d := by rw [c3, if_neg (by omega), if_neg (fun q => hdk q.2)]
    have ok := o.2.1 d hd
    rcases sp d hd h1 with q | q
    · left
      unfold sp1 at q ⊢
      rw [a4, a5, e3]
      exact rise_mono hf o hk (by omega) (by omega) q
    · right
      rw [e3]
      refine ⟨q.1, ?_⟩
      unfold acr
      rw [a4, a5, e3, rise_low (by omega)]
      exact q.2
theorem SI_adL (h : SI N i x y) (hl : loN N < 1000000000) : SI (adL N) i x y := by
  obtain ⟨o, hf, lv, xy, ne, sp⟩ := h
  exact ⟨⟨o.1, o.2.1, ⟨o.2.2.1.1, hl⟩, o.2.2.2⟩, hf, lv, xy, ne, sp⟩
theorem SI_rise_spare (h : SI N i x y) {k : Nat} (hk : k < ldN N) (ht : cN N 2 k = 1) (hl : cN N 3 k = i) (hm : i < hgt (nN N) 4) (hr : riN N < 1000000000) (hs : (cN N 1 k : Int) ∈ tN N (i + 1) (cN N 0 k)) : SI (riseN N k) i x y := by
  obtain ⟨o, hf, lv, xy, ne, sp⟩ := h
  have b := o.1
  have h4 := hgt_le4 (nN N) (by omega)
  obtain ⟨a1, a2, a3, a4, a5, a6, a7⟩ := alike_rise N k
  have c3 := fun d => rise_c N k 3 d
  have et : tN (riseN N k) = tN N := by rw [rise_t, if_neg (by omega)]
  refine ⟨ok0_rise o hk (by omega) hr, FA_rise hf o hk (by omega), fun c hc => ?_, by rw [a1]; exact xy, fun j hj => by rw [et]; exact ne j hj, fun d hd h1 => ?_⟩
  · rw [a1, c3]
    rw [a2] at hc
    have := lv c hc
    split
    · omega
    · split <;> omega
  · rw [a2] at hd
    rw [a6] at h1
    by_cases hdk : d = k
    · subst hdk
      left
      unfold sp1
      rw [a4, a5, et, c3, if_neg (by omega), if_pos ⟨rfl, rfl⟩, hl]
      exact hs
    · have e3 : cN (riseN N k) 3 d = cN N 3 d := by rw [c3, if_neg (by omega), if_neg (fun q => hdk q.2)]
      unfold sp1 acr
      rw [a4, a5, et, e3]
      exact sp d hd h1
/-- the first stretch of a search, up to cable k -/
theorem sr1_inv (h : SI N i x y) (hm : i < hgt (nN N) 4) (hr : riN N + 60 ≤ 1000000000) (p : Nat → Bool) : ∀ k, k ≤ ldN N → SI (sr1 N i p k) i x y ∧ alike N (sr1 N i p k) ∧ riN (sr1 N i p k) ≤ riN N + k ∧ loN (sr1 N i p k) = loN N ∧ (∀ j, j ≤ i → tN (sr1 N i p k) j = tN N j) ∧ (∀ d, cN (sr1 N i p k) 3 d = if d < k ∧ c1P i p N d = true then i + 1 else cN N 3 d)
  | 0, _ => ⟨h, alike_rf, Nat.le_refl _, rfl, fun _ _ => rfl, fun d => by rw [if_neg (by omega)]; rfl⟩
  | k + 1, hk => by
    obtain ⟨s, al, r1, l1, t1, c1⟩ := sr1_inv h hm hr p k (by omega)
    have b := h.1.1
    obtain ⟨a1, a2, a3, a4, a5, a6, a7⟩ := al
    have e3 : cN (sr1 N i p k) 3 k = cN N 3 k := by rw [c1, if_neg (by omega)]
    have ec : c1P i p (sr1 N i p k) k = c1P i p N k := by unfold c1P trN; rw [a4, a5, a6, e3]
    show SI (stpA i p (sr1 N i p k) k) i x y ∧ alike N (stpA i p (sr1 N i p k) k) ∧ riN (stpA i p (sr1 N i p k) k) ≤ riN N + (k + 1) ∧ loN (stpA i p (sr1 N i p k) k) = loN N ∧ (∀ j, j ≤ i → tN (stpA i p (sr1 N i p k) k) j = tN N j) ∧ (∀ d, cN (stpA i p (sr1 N i p k) k) 3 d = if d < k + 1 ∧ c1P i p N d = true then i + 1 else cN N 3 d)
    unfold stpA
    rw [ec]
    by_cases q : c1P i p N k = true
    · rw [if_pos q]
      have q2 := q
      unfold c1P trN at q2
      simp only [Bool.and_eq_true, decide_eq_true_eq] at q2
      refine ⟨SI_rise_tree s (by rw [a2]; omega) (by rw [a6]; exact q2.1.1) (by rw [e3]; exact q2.1.2) (by rw [a1]; exact hm) (by omega), alike_tr ⟨a1, a2, a3, a4, a5, a6, a7⟩ (alike_rise _ k), ?_, ?_, fun j hj => ?_, fun d => ?_⟩
      · rw [(rise_s _ k).2.2.1]; omega
      · rw [(rise_s _ k).2.2.2.1]; exact l1
      · rw [rise_low (by rw [e3]; omega)]; exact t1 j hj
      · rw [rise_c, if_neg (by omega)]
        by_cases e : d = k
        · subst e
          rw [if_pos ⟨rfl, rfl⟩, if_pos ⟨by omega, q⟩, e3, q2.1.2]
        · rw [if_neg (fun z => e z.2), c1 d]
          by_cases z : d < k ∧ c1P i p N d = true
          · rw [if_pos z, if_pos ⟨by omega, z.2⟩]
          · rw [if_neg z, if_neg (fun w => z ⟨by omega, w.2⟩)]
    · rw [if_neg q]
      refine ⟨s, ⟨a1, a2, a3, a4, a5, a6, a7⟩, by omega, l1, t1, fun d => ?_⟩
      rw [c1 d]
      by_cases z : d < k ∧ c1P i p N d = true
      · rw [if_pos z, if_pos ⟨by omega, z.2⟩]
      · rw [if_neg z, if_neg (fun w => z ⟨Nat.lt_of_le_of_ne (Nat.le_of_lt_succ w.1) (fun e => q (e ▸ w.2)), w.2⟩)]
theorem smZ_or (N : nt) (i x y : Nat) : smZ N i x y = x ∨ smZ N i x y = y := by unfold smZ; split <;> simp
/-- behind it: small is one tree of the level above -/
theorem small_up (h : SI N i x y) (hm : i < hgt (nN N) 4) (hr : riN N + 60 ≤ 1000000000) {u v : Nat} (hu : u < 16) (hv : v < 16) (pu : smP N i x y u = true) (pv : smP N i x y v = true) : (v : Int) ∈ tN (sr1 N i (smP N i x y) (ldN N)) (i + 1) u := by
  obtain ⟨s, al, r1, l1, t1, c1⟩ := sr1_inv h hm hr (smP N i x y) (ldN N) (Nat.le_refl _)
  obtain ⟨a1, a2, a3, a4, a5, a6, a7⟩ := al
  have b := h.1.1
  have h4 := hgt_le4 (nN N) (by omega)
  have z16 : smZ N i x y < 16 := by rcases smZ_or N i x y with e | e <;> rw [e] <;> have := h.2.2.2.1 <;> omega
  have hf := s.2.1
  have f0 := h.2.1 i (by omega)
  have pu' : (u : Int) ∈ tN N i (smZ N i x y) := by simpa [smP, on1] using pu
  have pv' : (v : Int) ∈ tN N i (smZ N i x y) := by simpa [smP, on1] using pv
  have euz := (f0.1 _ z16).2.2.2.1 u hu pu'
  refine (hf i (by omega)).2.2.2 u v hu hv (by rw [t1 i (Nat.le_refl _), euz]; exact pv') (fun w => (w : Int) ∈ tN (sr1 N i (smP N i x y) (ldN N)) (i + 1) u) ((hf (i + 1) (by omega)).1 u hu).2.2.1 (fun d hd => ?_)
  by_cases e : cN (sr1 N i (smP N i x y) (ldN N)) 3 d = i
  · have wd := (hf i (by omega)).2.2.1 d hd
    have en := FL_ends (hf i (by omega)) hd
    rw [t1 i (Nat.le_refl _)] at en
    rw [a4, a5] at wd en ⊢
    have hd2 : d < ldN N := by rw [← a2]; exact hd.1
    have no : ¬ ((cN N 0 d : Int) ∈ tN N i (smZ N i x y)) := by
      intro z
      have e3 := c1 d
      rw [e] at e3
      by_cases q : d < ldN N ∧ c1P i (smP N i x y) N d = true
      · rw [if_pos q] at e3; omega
      · rw [if_neg q] at e3
        refine q ⟨hd2, ?_⟩
        have z2 : (cN N 1 d : Int) ∈ tN N i (smZ N i x y) := by rw [← (f0.1 _ z16).2.2.2.1 _ wd.1.1 z]; exact en.1
        have st := hd.2.1
        rw [a6] at st
        unfold c1P trN smP on1
        simp [st, ← e3, z, z2]
    have no2 : ¬ ((cN N 1 d : Int) ∈ tN N i (smZ N i x y)) := by
      intro z
      apply no
      rw [← (f0.1 _ z16).2.2.2.1 _ wd.1.2 z, en.2]
      exact (f0.1 _ wd.1.1).2.2.1
    constructor
    · intro z
      have := nested hf (by omega) hu wd.1.1 z
      rw [t1 i (Nat.le_refl _), euz] at this
      exact absurd this no
    · intro z
      have := nested hf (by omega) hu wd.1.2 z
      rw [t1 i (Nat.le_refl _), euz] at this
      exact absurd this no2
  · have k : tcs (sr1 N i (smP N i x y) (ldN N)) (i + 1) d := ⟨hd.1, hd.2.1, by have := hd.2.2; omega⟩
    have f1 := hf (i + 1) (by omega)
    have en := FL_ends f1 k
    have wd := f1.2.2.1 d k
    constructor
    · intro z
      rw [← (f1.1 u hu).2.2.2.1 _ wd.1.1 z]; exact en.1
    · intro z
      rw [← (f1.1 u hu).2.2.2.1 _ wd.1.2 z, en.2]; exact (f1.1 _ wd.1.1).2.2.1
end SE
