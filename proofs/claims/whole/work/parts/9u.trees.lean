/-! TREES of a level: how many, and the greatest: both the same -/
theorem nd_len : ∀ {l l' : List (List Int)}, l.Nodup → (∀ t ∈ l, t ∈ l') → l.length ≤ l'.length
  | [], _, _, _ => Nat.zero_le _
  | a :: l, l', nd, h => by
    obtain ⟨n1, n2⟩ := List.nodup_cons.mp nd
    have ha := h a List.mem_cons_self
    have le := nd_len (l := l) (l' := l'.erase a) n2 (fun t ht => (List.mem_erase_of_ne (fun e => by rw [e] at ht; exact n1 ht)).mpr (h t (List.mem_cons_of_mem _ ht)))
    rw [List.length_erase_of_mem ha] at le
    have := List.length_pos_of_mem ha
    rw [List.length_cons]
    omega
theorem cnt_upb {p : Nat → Bool} {m : Nat} : ∀ n, m ≤ n → (∀ k, m ≤ k → k < n → p k = false) → cnt p n = cnt p m
  | 0, hn, _ => by rw [show m = 0 by omega]
  | n + 1, hn, h => by
    by_cases e : m = n + 1
    · rw [e]
    · rw [cnt_s, h n (by omega) (by omega), cnt_upb n (by omega) (fun k h1 h2 => h k h1 (by omega))]
      simp
section TRS
variable {N : nt} {i : Nat}
theorem lsB_iff {n : Nat} : ∀ {j : Nat}, lsB N i n j = true ↔ ∀ m, m < j → on1 N i n m = false
  | 0 => ⟨fun _ m hm => absurd hm (by omega), fun _ => rfl⟩
  | j + 1 => by
    rw [lsB, Bool.and_eq_true, lsB_iff]
    constructor
    · intro z m hm
      by_cases e : m = j
      · rw [e]; simpa using z.2
      · exact z.1 m (by omega)
    · intro z
      exact ⟨fun m hm => z m (by omega), by simpa using z j (by omega)⟩
/-- the tours, each at its least node -/
def dsT (N : nt) (i : Nat) : Nat → List (List Int)
  | 0 => []
  | n + 1 => if lsB N i n n = true then dsT N i n ++ [tN N i n] else dsT N i n
theorem dsT_len : ∀ n, (dsT N i n).length = cnt (fun n => lsB N i n n) n
  | 0 => rfl
  | n + 1 => by
    rw [dsT, cnt_s]
    by_cases q : lsB N i n n = true
    · rw [if_pos q, List.length_append, dsT_len n, if_pos q]; rfl
    · rw [if_neg q, dsT_len n, if_neg q]; rfl
theorem dsT_mem {e0 e1 : Nat → Nat} {K : Nat → Prop} (f : FL e0 e1 K (tN N i)) : ∀ n, n ≤ 16 → (dsT N i n).Nodup ∧ ∀ t, t ∈ dsT N i n ↔ ∃ m, m < n ∧ t = tN N i m
  | 0, _ => ⟨List.nodup_nil, fun t => ⟨fun z => (by cases z), fun ⟨m, z, _⟩ => absurd z (by omega)⟩⟩
  | n + 1, hn => by
    obtain ⟨i1, i2⟩ := dsT_mem f n (by omega)
    have fn := f.1 n (by omega)
    rw [dsT]
    by_cases q : lsB N i n n = true
    · rw [if_pos q]
      have no : tN N i n ∉ dsT N i n := fun z => by
        obtain ⟨m, hm, e⟩ := (i2 _).mp z
        have := lsB_iff.mp q m hm
        unfold on1 at this
        rw [← e] at this
        rw [decide_eq_true fn.2.2.1] at this
        cases this
      refine ⟨?_, fun t => ?_⟩
      · rw [List.nodup_append]
        refine ⟨i1, by simp, fun a ha b hb e => ?_⟩
        have : b = tN N i n := by simpa using hb
        rw [this] at e
        rw [e] at ha
        exact no ha
      · rw [List.mem_append, i2, List.mem_singleton]
        constructor
        · rintro (⟨m, hm, e⟩ | e)
          · exact ⟨m, by omega, e⟩
          · exact ⟨n, by omega, e⟩
        · rintro ⟨m, hm, e⟩
          by_cases w : m = n
          · exact Or.inr (by rw [e, w])
          · exact Or.inl ⟨m, by omega, e⟩
    · rw [if_neg q]
      refine ⟨i1, fun t => ?_⟩
      rw [i2]
      constructor
      · rintro ⟨m, hm, e⟩
        exact ⟨m, by omega, e⟩
      · rintro ⟨m, hm, e⟩
        by_cases w : m = n
        · obtain ⟨j, hj, hb⟩ : ∃ j, j < n ∧ on1 N i n j = true := Classical.byContradiction fun z => q (lsB_iff.mpr fun j hj => by
            cases y : on1 N i n j
            · rfl
            · exact absurd ⟨j, hj, y⟩ z)
          refine ⟨j, hj, ?_⟩
          rw [e, w]
          exact (f.1 j (by omega)).2.2.2.1 n (by omega) (of_decide_eq_true hb)
        · exact ⟨m, by omega, e⟩
theorem trees_eq {e0 e1 : Nat → Nat} {K : Nat → Prop} (f : FL e0 e1 K (tN N i)) (hn : nN N ≤ 16) {ts : List (List Int)} (h : tsR (nN N) (tN N i) ts) : ts.length = cnt (fun n => lsB N i n n) (nN N) := by
  obtain ⟨d1, d2⟩ := dsT_mem f (nN N) hn
  rw [← dsT_len]
  have a := nd_len h.1 (fun t ht => (d2 t).mpr ((h.2 t).mp ht))
  have b := nd_len d1 (fun t ht => (h.2 t).mpr ((d2 t).mp ht))
  omega
theorem cp_nds : ∀ (t : List Int), okT t → (∀ n : Nat, n < 16 → t.count (n : Int) ≤ 1) → t.countP (fun v => decide (v < 100)) = nds t
  | [], _, _ => by decide
  | v :: t, h1, h2 => by
    have ih := cp_nds t (fun w hw => h1 w (List.mem_cons_of_mem _ hw)) (fun n hn => Nat.le_trans (List.count_le_count_cons) (h2 n hn))
    rw [List.countP_cons, ih]
    rcases h1 v List.mem_cons_self with q | q
    · obtain ⟨n, rfl⟩ := Int.eq_ofNat_of_zero_le q.1
      have n16 : n < 16 := by omega
      rw [decide_eq_true (by omega), if_pos rfl]
      have no : (n : Int) ∉ t := fun z => by
        have a := h2 n n16
        rw [List.count_cons_self] at a
        have := List.count_pos_iff.mpr z
        omega
      unfold nds
      exact (cnt_us n16 (decide_eq_false no) (fun m => by
        by_cases e : m = n
        · subst e; simp
        · have : (m : Int) ≠ (n : Int) := by omega
          simp [this, e])).symm
    · rw [decide_eq_false (by omega), if_neg (by decide), Nat.add_zero]
      exact nds_eq fun m hm => by
        have : (m : Int) ≠ v := by omega
        simp [this]
theorem gmx_ge : ∀ {ts : List (List Int)} {t : List Int}, t ∈ ts → t.countP (fun v => decide (v < 100)) ≤ gmx ts
  | a :: ts, t, h => by
    rw [gmx]
    rcases List.mem_cons.mp h with e | e
    · rw [e]; exact Nat.le_max_left _ _
    · exact Nat.le_trans (gmx_ge e) (Nat.le_max_right _ _)
theorem gmx_le {b : Nat} : ∀ {ts : List (List Int)}, (∀ t ∈ ts, t.countP (fun v => decide (v < 100)) ≤ b) → gmx ts ≤ b
  | [], _ => Nat.zero_le _
  | a :: ts, h => by
    rw [gmx]
    exact Nat.max_le.mpr ⟨h a List.mem_cons_self, gmx_le fun t ht => h t (List.mem_cons_of_mem _ ht)⟩
theorem mxF_ge {g : Nat → Nat} : ∀ {n m : Nat}, m < n → g m ≤ mxF g n
  | n + 1, m, h => by
    rw [mxF]
    by_cases e : m = n
    · rw [e]; split <;> omega
    · have := mxF_ge (g := g) (show m < n by omega)
      split <;> omega
theorem mxF_le {g : Nat → Nat} {b : Nat} : ∀ {n : Nat}, (∀ m, m < n → g m ≤ b) → mxF g n ≤ b
  | 0, _ => Nat.zero_le _
  | n + 1, h => by
    rw [mxF]
    have := mxF_le (g := g) (b := b) (n := n) (fun m hm => h m (by omega))
    have := h n (by omega)
    split <;> omega
theorem grt_eq {e0 e1 : Nat → Nat} {K : Nat → Prop} (f : FL e0 e1 K (tN N i)) (hn : nN N ≤ 16) (hK : ∀ c, K c → e0 c < nN N ∧ e1 c < nN N) {ts : List (List Int)} (h : tsR (nN N) (tN N i) ts) : gmx ts = mxF (szN N i) (nN N) := by
  have key : ∀ m, m < nN N → (tN N i m).countP (fun v => decide (v < 100)) = szN N i m := fun m hm => by
    have fm := f.1 m (by omega)
    rw [cp_nds _ fm.1 fm.2.1.1]
    unfold nds szN on1
    exact cnt_upb 16 hn fun j h1 h2 => decide_eq_false fun z => by
      have := FL_in f hn hK m j hm h2 z
      omega
  refine Nat.le_antisymm (gmx_le fun t ht => ?_) (mxF_le fun m hm => ?_)
  · obtain ⟨m, hm, rfl⟩ := (h.2 t).mp ht
    rw [key m hm]
    exact mxF_ge hm
  · rw [← key m hm]
    exact gmx_ge ((h.2 _).mpr ⟨m, hm, rfl⟩)
end TRS
