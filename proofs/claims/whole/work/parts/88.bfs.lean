/-! HOW FAR nodes are from x by cables c < n with g c: found in d rounds; -1 not yet -/
def anyE (n : Nat) (q : Nat → Bool) : Bool := (List.range n).any q
theorem anyE_s (n : Nat) (q : Nat → Bool) : anyE (n + 1) q = (anyE n q || q n) := by simp [anyE, List.range_succ, List.any_append]
theorem anyE_iff {n : Nat} {q : Nat → Bool} : anyE n q = true ↔ ∃ c, c < n ∧ q c = true := by simp [anyE]
def hitB (a0 a1 : Nat → Nat) (g : Nat → Bool) (F : Nat → Int) (d : Nat) (m c : Nat) : Bool := g c && ((decide (F (a0 c) = (d : Int)) && decide (a1 c = m)) || (decide (F (a1 c) = (d : Int)) && decide (a0 c = m)))
/-- round d, the first k cables taken -/
def rndF (a0 a1 : Nat → Nat) (g : Nat → Bool) (F : Nat → Int) (d k : Nat) : Nat → Int := fun m => if F m = -1 ∧ anyE k (hitB a0 a1 g F d m) = true then (d : Int) + 1 else F m
def fdF (a0 a1 : Nat → Nat) (g : Nat → Bool) (n x : Nat) : Nat → (Nat → Int)
  | 0 => fun m => if m = x then 0 else -1
  | d + 1 => rndF a0 a1 g (fdF a0 a1 g n x d) d n
theorem fdF_lo {a0 a1 : Nat → Nat} {g : Nat → Bool} {n x : Nat} : ∀ (d m : Nat), -1 ≤ fdF a0 a1 g n x d m ∧ fdF a0 a1 g n x d m ≤ (d : Int)
  | 0, m => by
    show -1 ≤ (if m = x then (0 : Int) else -1) ∧ (if m = x then (0 : Int) else -1) ≤ ((0 : Nat) : Int)
    split <;> omega
  | d + 1, m => by
    have := fdF_lo (a0 := a0) (a1 := a1) (g := g) (n := n) (x := x) d m
    show -1 ≤ (if fdF a0 a1 g n x d m = -1 ∧ anyE n (hitB a0 a1 g (fdF a0 a1 g n x d) d m) = true then (d : Int) + 1 else fdF a0 a1 g n x d m) ∧ (if fdF a0 a1 g n x d m = -1 ∧ anyE n (hitB a0 a1 g (fdF a0 a1 g n x d) d m) = true then (d : Int) + 1 else fdF a0 a1 g n x d m) ≤ ((d + 1 : Nat) : Int)
    split <;> omega
/-- one step more: reaching b from a -/
def rchF (G : Nat → Int) (a b : Nat) (d : Int) : Nat → Int := fun m => if G a = d ∧ G b = -1 ∧ m = b then d + 1 else G m
theorem rnd_s {a0 a1 : Nat → Nat} {g : Nat → Bool} {F : Nat → Int} {d c : Nat} (hF : ∀ m, F m ≤ (d : Int)) (hg : g c = true) (hab : a0 c ≠ a1 c) : rchF (rchF (rndF a0 a1 g F d c) (a0 c) (a1 c) d) (a1 c) (a0 c) d = rndF a0 a1 g F d (c + 1) := by
  have key : ∀ (k m : Nat), rndF a0 a1 g F d k m = (d : Int) ↔ F m = (d : Int) := by
    intro k m
    unfold rndF
    have := hF m
    split
    · rename_i q
      constructor
      · intro z; omega
      · intro z; omega
    · exact Iff.rfl
  have none : ∀ (k m : Nat), rndF a0 a1 g F d k m = -1 ↔ (F m = -1 ∧ anyE k (hitB a0 a1 g F d m) = false) := by
    intro k m
    unfold rndF
    by_cases q1 : F m = -1
    · cases q2 : anyE k (hitB a0 a1 g F d m)
      · rw [if_neg (by simp)]; simp [q1]
      · rw [if_pos ⟨q1, rfl⟩]
        constructor
        · intro z; omega
        · intro z; cases z.2
    · rw [if_neg (fun z => q1 z.1)]
      simp [q1]
  funext m
  have e1 : ∀ m, rchF (rndF a0 a1 g F d c) (a0 c) (a1 c) d m = if F (a0 c) = (d : Int) ∧ (F (a1 c) = -1 ∧ anyE c (hitB a0 a1 g F d (a1 c)) = false) ∧ m = a1 c then (d : Int) + 1 else rndF a0 a1 g F d c m := by
    intro m
    unfold rchF
    simp only [key, none]
  have hit : ∀ m, hitB a0 a1 g F d m c = true ↔ (F (a0 c) = (d : Int) ∧ a1 c = m) ∨ (F (a1 c) = (d : Int) ∧ a0 c = m) := by
    intro m
    unfold hitB
    rw [hg]
    simp
  show (if rchF (rndF a0 a1 g F d c) (a0 c) (a1 c) d (a1 c) = (d : Int) ∧ rchF (rndF a0 a1 g F d c) (a0 c) (a1 c) d (a0 c) = -1 ∧ m = a0 c then (d : Int) + 1 else rchF (rndF a0 a1 g F d c) (a0 c) (a1 c) d m) = (if F m = -1 ∧ anyE (c + 1) (hitB a0 a1 g F d m) = true then (d : Int) + 1 else F m)
  have s1 : rchF (rndF a0 a1 g F d c) (a0 c) (a1 c) d (a1 c) = (d : Int) ↔ F (a1 c) = (d : Int) := by
    rw [e1]
    split
    · rename_i q
      constructor
      · intro z; omega
      · intro z; omega
    · exact key c _
  have s2 : rchF (rndF a0 a1 g F d c) (a0 c) (a1 c) d (a0 c) = -1 ↔ (F (a0 c) = -1 ∧ anyE c (hitB a0 a1 g F d (a0 c)) = false) := by
    rw [e1, if_neg (fun z => hab z.2.2)]
    exact none c _
  rw [anyE_s]
  by_cases m0 : m = a0 c
  · subst m0
    by_cases w1 : F (a1 c) = (d : Int) ∧ (F (a0 c) = -1 ∧ anyE c (hitB a0 a1 g F d (a0 c)) = false)
    · rw [if_pos ⟨s1.mpr w1.1, s2.mpr w1.2, rfl⟩, if_pos ⟨w1.2.1, by rw [(hit _).mpr (Or.inr ⟨w1.1, rfl⟩)]; simp⟩]
    · rw [if_neg (fun z => w1 ⟨s1.mp z.1, s2.mp z.2.1⟩), e1, if_neg (fun z => hab z.2.2)]
      unfold rndF
      by_cases q1 : F (a0 c) = -1
      · cases q2 : anyE c (hitB a0 a1 g F d (a0 c))
        · have nh : hitB a0 a1 g F d (a0 c) c = false := by
            cases q3 : hitB a0 a1 g F d (a0 c) c
            · rfl
            · rcases (hit _).mp q3 with z | z
              · exact absurd z.2.symm hab
              · exact absurd ⟨z.1, q1, q2⟩ w1
          rw [nh]
          simp
        · simp
      · rw [if_neg (fun z => q1 z.1), if_neg (fun z => q1 z.1)]
  · rw [if_neg (fun z => m0 z.2.2), e1]
    by_cases m1 : m = a1 c
    · subst m1
      by_cases w1 : F (a0 c) = (d : Int) ∧ (F (a1 c) = -1 ∧ anyE c (hitB a0 a1 g F d (a1 c)) = false)
      · rw [if_pos ⟨w1.1, w1.2, rfl⟩, if_pos ⟨w1.2.1, by rw [(hit _).mpr (Or.inl ⟨w1.1, rfl⟩)]; simp⟩]
      · rw [if_neg (fun z => w1 ⟨z.1, z.2.1⟩)]
        unfold rndF
        by_cases q1 : F (a1 c) = -1
        · cases q2 : anyE c (hitB a0 a1 g F d (a1 c))
          · have nh : hitB a0 a1 g F d (a1 c) c = false := by
              cases q3 : hitB a0 a1 g F d (a1 c) c
              · rfl
              · rcases (hit _).mp q3 with z | z
                · exact absurd ⟨z.1, q1, q2⟩ w1
                · exact absurd z.2.symm m0
            rw [nh]
            simp
          · simp
        · rw [if_neg (fun z => q1 z.1), if_neg (fun z => q1 z.1)]
    · rw [if_neg (fun z => m1 z.2.2)]
      unfold rndF
      have nh : hitB a0 a1 g F d m c = false := by
        cases q3 : hitB a0 a1 g F d m c
        · rfl
        · rcases (hit _).mp q3 with z | z
          · exact absurd z.2.symm m1
          · exact absurd z.2.symm m0
      rw [nh, Bool.or_false]
theorem rnd_no {a0 a1 : Nat → Nat} {g : Nat → Bool} {F : Nat → Int} {d c : Nat} (hg : g c = false) : rndF a0 a1 g F d (c + 1) = rndF a0 a1 g F d c := by
  funext m
  unfold rndF
  have : hitB a0 a1 g F d m c = false := by unfold hitB; rw [hg]; rfl
  rw [anyE_s, this, Bool.or_false]
