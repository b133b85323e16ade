/-! ROUNDS of spreading are steps of finding -/
def lkC (a0 a1 : Nat → Nat) (g : Nat → Bool) (nC n m : Nat) : Bool := anyE nC (fun c => g c && ((decide (a0 c = n) && decide (a1 c = m)) || (decide (a1 c = n) && decide (a0 c = m))))
theorem lkC_iff {a0 a1 : Nat → Nat} {g : Nat → Bool} {nC n m : Nat} : lkC a0 a1 g nC n m = true ↔ ∃ c, c < nC ∧ g c = true ∧ ((a0 c = n ∧ a1 c = m) ∨ (a1 c = n ∧ a0 c = m)) := by
  unfold lkC
  rw [anyE_iff]
  simp
def no0 : Nat → Bool := fun _ => false
def it1 (x : Nat) : Nat → Bool := fun i => decide (i = x)
theorem it_s (lk : Nat → Nat → Bool) (p : Nat → Bool) (d m : Nat) : itF lk no0 p (d + 1) m = (itF lk no0 p d m || anyE 16 (fun n => itF lk no0 p d n && lk n m)) := by
  show ((itF lk no0 p d m || anyE 16 (fun n => itF lk no0 p d n && lk n m)) && !false) = _
  simp
theorem it_mono {lk : Nat → Nat → Bool} {p : Nat → Bool} {d m : Nat} (h : itF lk no0 p d m = true) : ∀ e, itF lk no0 p (d + e) m = true
  | 0 => h
  | e + 1 => by
    show itF lk no0 p (d + e + 1) m = true
    rw [it_s, it_mono h e]
    rfl
theorem it_le {lk : Nat → Nat → Bool} {p : Nat → Bool} {d e m : Nat} (h : itF lk no0 p d m = true) (he : d ≤ e) : itF lk no0 p e m = true := by
  have := it_mono h (e - d)
  rwa [show d + (e - d) = e by omega] at this
/-- a closed set stays; every other round adds a node -/
theorem it_fix {lk : Nat → Nat → Bool} {p : Nat → Bool} {d : Nat} (h : bs (itF lk no0 p (d + 1)) 16 = bs (itF lk no0 p d) 16) {e m : Nat} (he : d ≤ e) (hm : m < 16) : itF lk no0 p e m = itF lk no0 p d m := by
  have := itF_st (lk := lk) (bar := no0) (bs_inj h) (e - d) m hm
  rwa [← itF_add, show d + (e - d) = e by omega] at this
theorem it_grow {lk : Nat → Nat → Bool} {p : Nat → Bool} (hp : 1 ≤ cnt p 16) : ∀ d, (∃ e, e < d ∧ bs (itF lk no0 p (e + 1)) 16 = bs (itF lk no0 p e) 16) ∨ d + 1 ≤ cnt (itF lk no0 p d) 16
  | 0 => Or.inr hp
  | d + 1 => by
    rcases it_grow hp d with ⟨e, h1, h2⟩ | h
    · exact Or.inl ⟨e, by omega, h2⟩
    · by_cases q : bs (itF lk no0 p (d + 1)) 16 = bs (itF lk no0 p d) 16
      · exact Or.inl ⟨d, by omega, q⟩
      · obtain ⟨j, hj, w⟩ := bs_ne q
        right
        have mono : ∀ i, i < 16 → itF lk no0 p d i = true → itF lk no0 p (d + 1) i = true := fun i _ hi => it_le hi (by omega)
        have w1 : itF lk no0 p d j = false := by
          cases z : itF lk no0 p d j
          · rfl
          · rw [z, mono j hj z] at w
            exact absurd rfl w
        have w2 : itF lk no0 p (d + 1) j = true := by
          cases z : itF lk no0 p (d + 1) j
          · rw [z, w1] at w
            exact absurd rfl w
          · rfl
        have := cnt_lt mono hj w1 w2
        omega
theorem it_16 {lk : Nat → Nat → Bool} {p : Nat → Bool} (hp : 1 ≤ cnt p 16) : ∃ e, e < 16 ∧ bs (itF lk no0 p (e + 1)) 16 = bs (itF lk no0 p e) 16 := by
  rcases it_grow (lk := lk) hp 16 with h | h
  · exact h
  · have := cnt_le (itF lk no0 p 16) 16
    omega
theorem it1_cnt {x : Nat} (hx : x < 16) : 1 ≤ cnt (it1 x) 16 := by
  have := cnt_lt (p := no0) (q := it1 x) (n := 16) (fun i _ h => by cases h) hx rfl (by simp [it1])
  omega
section BFM
variable {a0 a1 : Nat → Nat} {g : Nat → Bool} {nC x : Nat}
theorem fd_it (h0 : ∀ c, c < nC → a0 c < 16) (h1 : ∀ c, c < nC → a1 c < 16) : ∀ d m, m < 16 → (itF (lkC a0 a1 g nC) no0 (it1 x) d m = true → ∃ j : Nat, j ≤ d ∧ fdF a0 a1 g nC x d m = (j : Int) ∧ itF (lkC a0 a1 g nC) no0 (it1 x) j m = true ∧ ∀ i, i < j → itF (lkC a0 a1 g nC) no0 (it1 x) i m = false) ∧ (itF (lkC a0 a1 g nC) no0 (it1 x) d m = false → fdF a0 a1 g nC x d m = -1)
  | 0, m, hm => by
    constructor
    · intro h
      refine ⟨0, Nat.le_refl _, ?_, h, fun i hi => absurd hi (by omega)⟩
      have : m = x := by simpa [itF, it1] using h
      show (if m = x then (0 : Int) else -1) = _
      rw [if_pos this]
      rfl
    · intro h
      have : ¬ m = x := by simpa [itF, it1] using h
      show (if m = x then (0 : Int) else -1) = _
      rw [if_neg this]
  | d + 1, m, hm => by
    have ih := fd_it h0 h1 d
    have e : fdF a0 a1 g nC x (d + 1) m = (if fdF a0 a1 g nC x d m = -1 ∧ anyE nC (hitB a0 a1 g (fdF a0 a1 g nC x d) d m) = true then (d : Int) + 1 else fdF a0 a1 g nC x d m) := rfl
    rw [e]
    cases z : itF (lkC a0 a1 g nC) no0 (it1 x) d m
    · have f1 := (ih m hm).2 z
      have key : anyE nC (hitB a0 a1 g (fdF a0 a1 g nC x d) d m) = itF (lkC a0 a1 g nC) no0 (it1 x) (d + 1) m := by
        rw [it_s, z, Bool.false_or, Bool.eq_iff_iff, anyE_iff, anyE_iff]
        have back : ∀ n, n < 16 → fdF a0 a1 g nC x d n = (d : Int) → itF (lkC a0 a1 g nC) no0 (it1 x) d n = true := by
          intro n hn w
          cases y : itF (lkC a0 a1 g nC) no0 (it1 x) d n
          · have := (ih n hn).2 y
            omega
          · rfl
        constructor
        · rintro ⟨c, hc, hh⟩
          have hh2 : g c = true ∧ ((fdF a0 a1 g nC x d (a0 c) = (d : Int) ∧ a1 c = m) ∨ (fdF a0 a1 g nC x d (a1 c) = (d : Int) ∧ a0 c = m)) := by
            unfold hitB at hh
            simpa using hh
          rcases hh2.2 with w | w
          · exact ⟨a0 c, h0 c hc, by rw [back _ (h0 c hc) w.1, lkC_iff.mpr ⟨c, hc, hh2.1, Or.inl ⟨rfl, w.2⟩⟩]; rfl⟩
          · exact ⟨a1 c, h1 c hc, by rw [back _ (h1 c hc) w.1, lkC_iff.mpr ⟨c, hc, hh2.1, Or.inr ⟨rfl, w.2⟩⟩]; rfl⟩
        · rintro ⟨n, hn, hh⟩
          have hh2 : itF (lkC a0 a1 g nC) no0 (it1 x) d n = true ∧ lkC a0 a1 g nC n m = true := by simpa using hh
          obtain ⟨j, j1, j2, j3, _⟩ := (ih n hn).1 hh2.1
          have jd : j = d := by
            by_cases jd : j = d
            · exact jd
            · have : itF (lkC a0 a1 g nC) no0 (it1 x) (j + 1) m = true := by
                rw [it_s, anyE_iff.mpr ⟨n, hn, by rw [j3, hh2.2]; rfl⟩]
                simp
              rw [it_le this (by omega)] at z
              cases z
          subst jd
          obtain ⟨c, hc, hg, w⟩ := lkC_iff.mp hh2.2
          refine ⟨c, hc, ?_⟩
          unfold hitB
          rcases w with ⟨w1, w2⟩ | ⟨w1, w2⟩
          · rw [w1, w2, j2, hg]
            simp
          · rw [w1, w2, j2, hg]
            simp
      rw [key, f1]
      constructor
      · intro w
        rw [if_pos ⟨rfl, w⟩]
        refine ⟨d + 1, Nat.le_refl _, by omega, w, fun i hi => ?_⟩
        cases y : itF (lkC a0 a1 g nC) no0 (it1 x) i m
        · rfl
        · rw [it_le y (by omega)] at z
          cases z
      · intro w
        rw [if_neg (by rw [w]; simp)]
    · obtain ⟨j, j1, j2, j3, j4⟩ := (ih m hm).1 z
      rw [if_neg (by omega)]
      exact ⟨fun _ => ⟨j, by omega, j2, j3, j4⟩, fun w => by rw [it_le z (by omega)] at w; cases w⟩
/-- found within d steps, or not -/
theorem fd_le (h0 : ∀ c, c < nC → a0 c < 16) (h1 : ∀ c, c < nC → a1 c < 16) (hx : x < 16) {d m : Nat} (hm : m < 16) : itF (lkC a0 a1 g nC) no0 (it1 x) d m = decide (fdF a0 a1 g nC x 16 m ≠ -1 ∧ fdF a0 a1 g nC x 16 m ≤ (d : Int)) := by
  have f := fd_it (g := g) (x := x) h0 h1 16 m hm
  obtain ⟨e, he, hf⟩ := it_16 (lk := lkC a0 a1 g nC) (it1_cnt hx)
  have e16 : itF (lkC a0 a1 g nC) no0 (it1 x) 16 m = itF (lkC a0 a1 g nC) no0 (it1 x) e m := it_fix hf (by omega) hm
  rw [Bool.eq_iff_iff, decide_eq_true_iff]
  constructor
  · intro h
    have h16 : itF (lkC a0 a1 g nC) no0 (it1 x) 16 m = true := by
      by_cases q : d ≤ 16
      · exact it_le h q
      · rw [e16, ← it_fix hf (by omega : e ≤ d) hm]
        exact h
    obtain ⟨j, j1, j2, j3, j4⟩ := f.1 h16
    rw [j2]
    refine ⟨by omega, ?_⟩
    by_cases q : j ≤ d
    · omega
    · rw [j4 d (by omega)] at h
      cases h
  · rintro ⟨w1, w2⟩
    cases z : itF (lkC a0 a1 g nC) no0 (it1 x) 16 m
    · exact absurd (f.2 z) w1
    · obtain ⟨j, j1, j2, j3, j4⟩ := f.1 z
      exact it_le j3 (by omega)
theorem fd_clo (h0 : ∀ c, c < nC → a0 c < 16) (h1 : ∀ c, c < nC → a1 c < 16) (hx : x < 16) {m : Nat} (hm : m < 16) : fdF a0 a1 g nC x 16 m ≠ -1 ↔ clo a0 a1 g nC x m := by
  have b := fdF_lo (a0 := a0) (a1 := a1) (g := g) (n := nC) (x := x) 16
  have l16 : ∀ n, n < 16 → itF (lkC a0 a1 g nC) no0 (it1 x) 16 n = decide (fdF a0 a1 g nC x 16 n ≠ -1) := by
    intro n hn
    rw [fd_le h0 h1 hx hn]
    have := (b n).2
    simp
    omega
  constructor
  · intro h Q hQ cl
    have all : ∀ d n, n < 16 → itF (lkC a0 a1 g nC) no0 (it1 x) d n = true → Q n := by
      intro d
      induction d with
      | zero =>
        intro n _ hn
        have : n = x := by simpa [itF, it1] using hn
        rw [this]
        exact hQ
      | succ d ih =>
        intro n hn h2
        rw [it_s] at h2
        cases z : itF (lkC a0 a1 g nC) no0 (it1 x) d n
        · rw [z, Bool.false_or, anyE_iff] at h2
          obtain ⟨u, hu, w⟩ := h2
          have w2 : itF (lkC a0 a1 g nC) no0 (it1 x) d u = true ∧ lkC a0 a1 g nC u n = true := by simpa using w
          have qu := ih u hu w2.1
          obtain ⟨c, hc, hg, y⟩ := lkC_iff.mp w2.2
          rcases y with ⟨y1, y2⟩ | ⟨y1, y2⟩
          · rw [← y2]; rw [← y1] at qu; exact (cl c hc hg).mp qu
          · rw [← y2]; rw [← y1] at qu; exact (cl c hc hg).mpr qu
        · exact ih n hn z
    exact all 16 m hm (by rw [l16 m hm]; simp [h])
  · intro h
    obtain ⟨e, he, hf⟩ := it_16 (lk := lkC a0 a1 g nC) (it1_cnt hx)
    have e16 : ∀ n, n < 16 → itF (lkC a0 a1 g nC) no0 (it1 x) 17 n = itF (lkC a0 a1 g nC) no0 (it1 x) 16 n := fun n hn => (it_fix hf (by omega) hn).trans (it_fix hf (by omega) hn).symm
    have st : ∀ u v, u < 16 → v < 16 → lkC a0 a1 g nC u v = true → itF (lkC a0 a1 g nC) no0 (it1 x) 16 u = true → itF (lkC a0 a1 g nC) no0 (it1 x) 16 v = true := by
      intro u v hu hv hl hw
      rw [← e16 v hv, it_s, anyE_iff.mpr ⟨u, hu, by rw [hw, hl]; rfl⟩]
      simp
    have := clo_closed (p := fun n => decide (n < 16) && itF (lkC a0 a1 g nC) no0 (it1 x) 16 n) (by
      have : itF (lkC a0 a1 g nC) no0 (it1 x) 16 x = true := it_le (d := 0) (by simp [itF, it1]) (by omega)
      simp [hx, this]) (fun c hc hg => by
      have q0 := h0 c hc
      have q1 := h1 c hc
      simp only [q0, q1, decide_true, Bool.true_and]
      exact ⟨st _ _ q0 q1 (lkC_iff.mpr ⟨c, hc, hg, Or.inl ⟨rfl, rfl⟩⟩), st _ _ q1 q0 (lkC_iff.mpr ⟨c, hc, hg, Or.inr ⟨rfl, rfl⟩⟩)⟩) h
    simp only [hm, decide_true, Bool.true_and] at this
    rw [l16 m hm] at this
    simpa using this
end BFM
