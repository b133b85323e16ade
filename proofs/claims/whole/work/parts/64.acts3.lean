section AE
variable {N : nt}
/-- SWAP: the tree cable c, the spare one d -/
def swpN (N : nt) (c d : Nat) : nt := setT (setC (setC N 2 c 1) 2 d 0) (jT (spT (tN N) 0 c (cN N 0 c)) 0 d (cN N 0 d) (cN N 1 d))
/-- c parts the ends of d -/
def sepN (N : nt) (c d : Nat) : Prop := ((cN N 0 d : Int) ∈ inL (tN N 0 (cN N 0 c)) (100 + (c : Int)) ∧ (cN N 1 d : Int) ∈ outL (tN N 0 (cN N 0 c)) (100 + (c : Int))) ∨ ((cN N 0 d : Int) ∈ outL (tN N 0 (cN N 0 c)) (100 + (c : Int)) ∧ (cN N 1 d : Int) ∈ inL (tN N 0 (cN N 0 c)) (100 + (c : Int)))
theorem swp_c (N : nt) (c d w e : Nat) : cN (swpN N c d) w e = if w = 2 ∧ e = d then 0 else if w = 2 ∧ e = c then 1 else cN N w e := rfl
/-- the split by c, as to d -/
theorem sep_split (h : INV N) {c d : Nat} (hc : c < ldN N) (hd : d < ldN N) (tc : cN N 2 c = 0) (hs : sepN N c d) :
    FL (cN N 0) (cN N 1) (fun e => tcs N 0 e ∧ e ≠ c) (spT (tN N) 0 c (cN N 0 c) 0) ∧ (cN N 1 d : Int) ∉ spT (tN N) 0 c (cN N 0 c) 0 (cN N 0 d) ∧ (∀ v : Nat, v < 16 → ((v : Int) ∈ spT (tN N) 0 c (cN N 0 c) 0 (cN N 0 d) ∨ (v : Int) ∈ spT (tN N) 0 c (cN N 0 c) 0 (cN N 1 d) ↔ (v : Int) ∈ tN N 0 (cN N 0 c))) ∧ (∀ v : Nat, v < 16 → (v : Int) ∉ tN N 0 (cN N 0 c) → spT (tN N) 0 c (cN N 0 c) 0 v = tN N 0 v) := by
  obtain ⟨o, hf, lv, sp⟩ := h
  have b := o.1
  have okd := o.2.1 d hd
  have f := hf 0 (by omega)
  have kc : tcs N 0 c := ⟨hc, tc, Nat.zero_le _⟩
  have wc := f.2.2.1 c kc
  have gx := f.1 _ wc.1.1
  have g2 := gx.2.1.2.1 c wc.2
  have hex := fun m (hm : m < 16) => gT_ex (n := m) gx.2.1 wc.2 hm
  have mem := fun (v : Int) hv => io_mem (v := v) g2.1 hv
  have sub := fun v => io_sub (v := v) g2.1
  rw [spT_eq]
  unfold sepN at hs
  have fs := FL_split (K' := fun e => tcs N 0 e ∧ e ≠ c) f rfl kc (fun e => Iff.rfl)
  generalize hI : inL (tN N 0 (cN N 0 c)) (100 + (c : Int)) = I at *
  generalize hO : outL (tN N 0 (cN N 0 c)) (100 + (c : Int)) = O at *
  have vI : ∀ n : Nat, (n : Int) ∈ I → ly1 (ly1 (tN N 0) O) I n = I := fun n z => if_pos z
  have vO : ∀ n : Nat, n < 16 → (n : Int) ∈ O → ly1 (ly1 (tN N 0) O) I n = O := fun n hn z => by
    unfold ly1
    rw [if_neg (fun w => hex n hn ⟨w, z⟩), if_pos z]
  refine ⟨fs, ?_, fun v hv => ?_, fun v hv z => ?_⟩
  · rcases hs with ⟨h0, h1⟩ | ⟨h0, h1⟩
    · rw [vI _ h0]
      exact fun z => hex _ (by omega) ⟨z, h1⟩
    · rw [vO _ (by omega) h0]
      exact fun z => hex _ (by omega) ⟨h1, z⟩
  · rw [mem _ (by omega)]
    rcases hs with ⟨h0, h1⟩ | ⟨h0, h1⟩
    · rw [vI _ h0, vO _ (by omega) h1]
    · rw [vO _ (by omega) h0, vI _ h1]
      exact or_comm
  · unfold ly1
    rw [if_neg (fun w => z ((sub _).1 w)), if_neg (fun w => z ((sub _).2 w))]
theorem INV_swp (h : INV N) {c d : Nat} (hc : c < ldN N) (hd : d < ldN N) (tc : cN N 2 c = 0) (td : cN N 2 d = 1) (lc : cN N 3 c = 0) (ld : cN N 3 d = 0) (hs : sepN N c d) : INV (swpN N c d) := by
  obtain ⟨fs, hne, memW, same⟩ := sep_split h hc hd tc hs
  obtain ⟨o, hf, lv, sp⟩ := h
  have b := o.1
  have okc := o.2.1 c hc
  have okd := o.2.1 d hd
  have x16 : cN N 0 d < 16 := by omega
  have y16 : cN N 1 d < 16 := by omega
  have hcd : c ≠ d := fun e => by subst e; omega
  have E : ∀ w, w ≠ 2 → cN (swpN N c d) w = cN N w := fun w hw => by funext e; rw [swp_c, if_neg (fun q => hw q.1), if_neg (fun q => hw q.1)]
  have mj := jw1_mem (c := d) fs x16 y16
  have T0 : tN (swpN N c d) 0 = ly1 (spT (tN N) 0 c (cN N 0 c) 0) (jw1 (spT (tN N) 0 c (cN N 0 c) 0) d (cN N 0 d) (cN N 1 d)) := by
    show jT (spT (tN N) 0 c (cN N 0 c)) 0 d (cN N 0 d) (cN N 1 d) 0 = _
    rw [jT_eq]
  have Ti : ∀ i, i ≠ 0 → tN (swpN N c d) i = tN N i := fun i hi => by
    show jT (spT (tN N) 0 c (cN N 0 c)) 0 d (cN N 0 d) (cN N 1 d) i = _
    rw [jT_ne _ _ _ _ hi, spT_ne _ _ _ hi]
  have inW : ∀ v : Nat, v < 16 → ((v : Int) ∈ jw1 (spT (tN N) 0 c (cN N 0 c) 0) d (cN N 0 d) (cN N 1 d) ↔ (v : Int) ∈ tN N 0 (cN N 0 c)) := fun v hv => by
    rw [mj, ← memW v hv]
    constructor
    · rintro (z | z | z)
      · exact Or.inl z
      · exact Or.inr z
      · omega
    · rintro (z | z)
      · exact Or.inl z
      · exact Or.inr (Or.inl z)
  have kc : tcs N 0 c := ⟨hc, tc, Nat.zero_le _⟩
  refine ⟨⟨o.1, fun e he => ?_, o.2.2⟩, fun i hi => ?_, fun e he => by rw [E 3 (by omega)]; exact lv e he, fun e he h1 => ?_⟩
  · have a := o.2.1 e he
    rw [E 0 (by omega), E 1 (by omega), E 3 (by omega), E 4 (by omega), E 5 (by omega)]
    refine ⟨a.1, a.2.1, a.2.2.1, ?_, a.2.2.2.2⟩
    rw [swp_c]
    split
    · omega
    · split <;> omega
  · rw [E 0 (by omega), E 1 (by omega)]
    by_cases e0 : i = 0
    · subst e0
      rw [T0]
      refine FL_join fs rfl rfl x16 y16 (fun z => by have := z.1.2.1; omega) (by omega) hne (fun e => ?_)
      unfold tcs
      rw [E 3 (by omega), swp_c]
      by_cases ed : e = d
      · subst ed
        rw [if_pos ⟨rfl, rfl⟩]
        exact ⟨fun _ => Or.inr rfl, fun _ => ⟨hd, rfl, Nat.zero_le _⟩⟩
      · rw [if_neg (fun q => ed q.2)]
        by_cases ec : e = c
        · subst ec
          rw [if_pos ⟨rfl, rfl⟩]
          exact ⟨fun z => by have := z.2.1; omega, fun z => by rcases z with z | z; exact absurd rfl z.2; exact absurd z ed⟩
        · rw [if_neg (fun q => ec q.2)]
          exact ⟨fun z => Or.inl ⟨z, ec⟩, fun z => by rcases z with z | z; exact z.1; exact absurd z ed⟩
    · rw [Ti i e0]
      refine FL_K (hf i hi) (fun e => ?_)
      unfold tcs
      rw [E 3 (by omega), swp_c]
      by_cases ed : e = d
      · subst ed
        rw [if_pos ⟨rfl, rfl⟩]
        exact ⟨fun z => by have := z.2.2; omega, fun z => by have := z.2.2; omega⟩
      · rw [if_neg (fun q => ed q.2)]
        by_cases ec : e = c
        · subst ec
          rw [if_pos ⟨rfl, rfl⟩]
          exact ⟨fun z => by have := z.2.2; omega, fun z => by have := z.2.2; omega⟩
        · rw [if_neg (fun q => ec q.2)]
          exact Iff.rfl
  · have he2 : e < ldN N := he
    have oke := o.2.1 e he2
    unfold sp1
    rw [E 0 (by omega), E 1 (by omega), E 3 (by omega)]
    have f0 := hf 0 (by omega)
    have gx := f0.1 _ (f0.2.2.1 c kc).1.1
    have both : ∀ u v : Nat, u < 16 → v < 16 → (u : Int) ∈ tN N 0 (cN N 0 c) → (v : Int) ∈ tN N 0 (cN N 0 c) → (v : Int) ∈ tN (swpN N c d) 0 u := by
      intro u v hu hv hu2 hv2
      rw [T0]
      unfold ly1
      rw [if_pos ((inW u hu).mpr hu2)]
      exact (inW v hv).mpr hv2
    rw [swp_c] at h1
    by_cases ed : e = d
    · rw [if_pos ⟨rfl, ed⟩] at h1; omega
    · rw [if_neg (fun q => ed q.2)] at h1
      by_cases ec : e = c
      · subst ec
        rw [lc]
        exact both _ _ (by omega) (by omega) gx.2.2.1 (FL_ends f0 kc).1
      · rw [if_neg (fun q => ec q.2)] at h1
        have s := sp e he2 h1
        unfold sp1 at s
        by_cases e3 : cN N 3 e = 0
        · rw [e3] at s ⊢
          by_cases z : (cN N 0 e : Int) ∈ tN N 0 (cN N 0 c)
          · refine both _ _ (by omega) (by omega) z ?_
            rw [← gx.2.2.2.1 _ (by omega) z]; exact s
          · rw [T0]
            unfold ly1
            rw [if_neg (fun w => z ((inW _ (by omega)).mp w)), same _ (by omega) z]
            exact s
        · rw [Ti _ e3]; exact s
/-- TIDY: the first k cables are taken -/
def tdK (N : nt) (k : Nat) : Nat := if on1 N 0 (cN N 0 k) (cN N 1 k) then 1 else 0
def tdS (N : nt) (k : Nat) : nt := if thN N k then (if tdK N k = 0 then setT (setC (setC N 3 k 0) 2 k 0) (jT (tN N) 0 k (cN N 0 k) (cN N 1 k)) else setC (setC N 3 k 0) 2 k 1) else N
def tdN (N : nt) : Nat → nt
  | 0 => setT N (fun _ n => [(n : Int)])
  | k + 1 => tdS (tdN N k) k
def tdB (N : nt) (k : Nat) : Bool := thN N k && (decide (cN N 3 k ≠ 0) || decide (cN N 2 k ≠ tdK N k))
def tdC (N : nt) : Nat → Nat
  | 0 => 0
  | k + 1 => tdC N k + (if tdB (tdN N k) k then 1 else 0)
theorem tdC_le (N : nt) : ∀ k, tdC N k ≤ k
  | 0 => Nat.le_refl _
  | k + 1 => by
    have := tdC_le N k
    rw [tdC]
    split <;> omega
/-- the tree cables of level 0 among the first k -/
def tdT (N : nt) (k : Nat) (i c : Nat) : Prop := i = 0 ∧ c < k ∧ cN N 2 c = 0
def tdI (N N' : nt) (k : Nat) : Prop := ok0 N' ∧ (nN N' = nN N ∧ ldN N' = ldN N ∧ riN N' = riN N ∧ loN N' = loN N ∧ nmN N' = nmN N ∧ lgN N' = lgN N) ∧ (cN N' 0 = cN N 0 ∧ cN N' 1 = cN N 1 ∧ cN N' 4 = cN N 4 ∧ cN N' 5 = cN N 5) ∧ (∀ i, i < 5 → FL (cN N 0) (cN N 1) (tdT N' k i) (tN N' i)) ∧ (∀ d, k ≤ d → cN N' 2 d = cN N 2 d ∧ cN N' 3 d = cN N 3 d) ∧ (∀ d, d < k → cN N 2 d ≠ 2 → cN N' 3 d = 0 ∧ cN N' 2 d ≠ 2 ∧ (cN N' 2 d = 1 → (cN N 1 d : Int) ∈ tN N' 0 (cN N 0 d))) ∧ (∀ d, d < k → cN N 2 d = 2 → cN N' 2 d = 2 ∧ cN N' 3 d = cN N 3 d)
theorem td_inv (h : INV N) : ∀ k, k ≤ ldN N → tdI N (tdN N k) k
  | 0, _ => ⟨h.1, ⟨rfl, rfl, rfl, rfl, rfl, rfl⟩, ⟨rfl, rfl, rfl, rfl⟩, fun i hi => FL_K FL_start (fun d => ⟨fun z => by have := z.2.1; omega, fun z => z.elim⟩), fun d _ => ⟨rfl, rfl⟩, fun d hd => by omega, fun d hd => by omega⟩
  | k + 1, hk => by
    have b := h.1.1
    obtain ⟨o, ⟨s1, s2, s3, s4, s5, s6⟩, ⟨c0, c1, c4, c5⟩, fl, un, dn, lf⟩ := td_inv h k (by omega)
    have e : tdN N (k + 1) = tdS (tdN N k) k := rfl
    rw [e]
    generalize tdN N k = N' at *
    obtain ⟨u2, u3⟩ := un k (Nat.le_refl _)
    have okk := h.1.2.1 k (by omega)
    have x16 : cN N 0 k < 16 := by omega
    have y16 : cN N 1 k < 16 := by omega
    unfold tdS thN
    by_cases ht : cN N' 2 k = 2
    · rw [if_neg (by simp [ht])]
      refine ⟨o, ⟨s1, s2, s3, s4, s5, s6⟩, ⟨c0, c1, c4, c5⟩, fun i hi => FL_K (fl i hi) (fun d => ?_), fun d hd => un d (by omega), fun d hd h2 => ?_, fun d hd h2 => ?_⟩
      · unfold tdT
        constructor
        · rintro ⟨z1, z2, z3⟩
          exact ⟨z1, by by_cases ed : d = k; (subst ed; omega); omega, z3⟩
        · rintro ⟨z1, z2, z3⟩
          exact ⟨z1, by omega, z3⟩
      · exact dn d (by by_cases ed : d = k; (subst ed; omega); omega) h2
      · by_cases ed : d = k
        · subst ed; exact ⟨ht, u3⟩
        · exact lf d (by omega) h2
    · rw [if_pos (by simp [ht])]
      have f0 := fl 0 (by omega)
      have on : tdK N' k = if (cN N 0 k : Int) ∈ tN N' 0 (cN N 1 k) then 1 else 0 := by
        unfold tdK on1
        rw [c0, c1]
        by_cases z : (cN N 0 k : Int) ∈ tN N' 0 (cN N 1 k) <;> simp [z]
      have okS : ∀ s, s ≤ 2 → ok0 (setC (setC N' 3 k 0) 2 k s) := by
        intro s hs
        refine ⟨o.1, fun d hd => ?_, o.2.2⟩
        have a := o.2.1 d hd
        show (if 0 = 2 ∧ d = k then s else if 0 = 3 ∧ d = k then 0 else cN N' 0 d) < nN N' ∧ (if 1 = 2 ∧ d = k then s else if 1 = 3 ∧ d = k then 0 else cN N' 1 d) < nN N' ∧ (if 0 = 2 ∧ d = k then s else if 0 = 3 ∧ d = k then 0 else cN N' 0 d) ≠ (if 1 = 2 ∧ d = k then s else if 1 = 3 ∧ d = k then 0 else cN N' 1 d) ∧ (if 2 = 2 ∧ d = k then s else if 2 = 3 ∧ d = k then 0 else cN N' 2 d) ≤ 2 ∧ (if 3 = 2 ∧ d = k then s else if 3 = 3 ∧ d = k then 0 else cN N' 3 d) ≤ 4 ∧ (if 5 = 2 ∧ d = k then s else if 5 = 3 ∧ d = k then 0 else cN N' 5 d) ≤ 99 ∧ (if 4 = 2 ∧ d = k then s else if 4 = 3 ∧ d = k then 0 else cN N' 4 d) ≤ riN N'
        simp only [Nat.reduceEqDiff, false_and, if_false, true_and]
        refine ⟨a.1, a.2.1, a.2.2.1, ?_, ?_, a.2.2.2.2.2⟩
        · split
          · exact hs
          · exact a.2.2.2.1
        · split
          · omega
          · exact a.2.2.2.2.1
      have C2 : ∀ s d, cN (setC (setC N' 3 k 0) 2 k s) 2 d = if d = k then s else cN N' 2 d := by
        intro s d
        show (if 2 = 2 ∧ d = k then s else if 2 = 3 ∧ d = k then 0 else cN N' 2 d) = _
        simp
      have C3 : ∀ s d, cN (setC (setC N' 3 k 0) 2 k s) 3 d = if d = k then 0 else cN N' 3 d := by
        intro s d
        show (if 3 = 2 ∧ d = k then s else if 3 = 3 ∧ d = k then 0 else cN N' 3 d) = _
        simp
      have Cw : ∀ s w, w ≠ 2 → w ≠ 3 → cN (setC (setC N' 3 k 0) 2 k s) w = cN N' w := by
        intro s w h2 h3
        funext d
        show (if w = 2 ∧ d = k then s else if w = 3 ∧ d = k then 0 else cN N' w d) = _
        rw [if_neg (fun q => h2 q.1), if_neg (fun q => h3 q.1)]
      by_cases z : (cN N 0 k : Int) ∈ tN N' 0 (cN N 1 k)
      · rw [on, if_pos z, if_neg (by omega)]
        refine ⟨okS 1 (by omega), ⟨s1, s2, s3, s4, s5, s6⟩, ⟨(Cw 1 0 (by omega) (by omega)).trans c0, (Cw 1 1 (by omega) (by omega)).trans c1, (Cw 1 4 (by omega) (by omega)).trans c4, (Cw 1 5 (by omega) (by omega)).trans c5⟩, fun i hi => FL_K (fl i hi) (fun d => ?_), fun d hd => ?_, fun d hd h2 => ?_, fun d hd h2 => ?_⟩
        · unfold tdT
          rw [C2]
          by_cases ed : d = k
          · rw [if_pos ed]
            exact ⟨fun q => by omega, fun q => by omega⟩
          · rw [if_neg ed]
            exact ⟨fun q => ⟨q.1, by omega, q.2.2⟩, fun q => ⟨q.1, by omega, q.2.2⟩⟩
        · rw [C2, C3, if_neg (by omega), if_neg (by omega)]
          exact un d (by omega)
        · rw [C2, C3]
          by_cases ed : d = k
          · rw [if_pos ed, if_pos ed, ed]
            exact ⟨rfl, by omega, fun _ => FL_sym f0 y16 x16 z⟩
          · rw [if_neg ed, if_neg ed]
            exact dn d (by omega) h2
        · have ed : d ≠ k := fun ed => by subst ed; omega
          rw [C2, C3, if_neg ed, if_neg ed]
          exact lf d (by omega) h2
      · rw [on, if_neg z, if_pos rfl]
        have hne : (cN N 1 k : Int) ∉ tN N' 0 (cN N 0 k) := fun w => z (FL_sym f0 x16 y16 w)
        refine ⟨okS 0 (by omega), ⟨s1, s2, s3, s4, s5, s6⟩, ⟨(Cw 0 0 (by omega) (by omega)).trans c0, (Cw 0 1 (by omega) (by omega)).trans c1, (Cw 0 4 (by omega) (by omega)).trans c4, (Cw 0 5 (by omega) (by omega)).trans c5⟩, fun i hi => ?_, fun d hd => ?_, fun d hd h2 => ?_, fun d hd h2 => ?_⟩
        · show FL (cN N 0) (cN N 1) (tdT (setC (setC N' 3 k 0) 2 k 0) (k + 1) i) (jT (tN N') 0 k (cN N' 0 k) (cN N' 1 k) i)
          rw [c0, c1]
          by_cases e0 : i = 0
          · subst e0
            rw [jT_eq]
            refine FL_join f0 rfl rfl x16 y16 (fun q => by have := q.2.1; omega) (by omega) hne (fun d => ?_)
            unfold tdT
            rw [C2]
            by_cases ed : d = k
            · rw [if_pos ed]
              exact ⟨fun _ => Or.inr ed, fun _ => ⟨rfl, by omega, rfl⟩⟩
            · rw [if_neg ed]
              exact ⟨fun q => Or.inl ⟨rfl, by omega, q.2.2⟩, fun q => by rcases q with q | q; exact ⟨rfl, by have := q.2.1; omega, q.2.2⟩; exact absurd q ed⟩
          · rw [jT_ne _ _ _ _ e0]
            refine FL_K (fl i hi) (fun d => ⟨fun q => absurd q.1 e0, fun q => absurd q.1 e0⟩)
        · show cN (setC (setC N' 3 k 0) 2 k 0) 2 d = _ ∧ cN (setC (setC N' 3 k 0) 2 k 0) 3 d = _
          rw [C2, C3, if_neg (by omega), if_neg (by omega)]
          exact un d (by omega)
        · show cN (setC (setC N' 3 k 0) 2 k 0) 3 d = 0 ∧ cN (setC (setC N' 3 k 0) 2 k 0) 2 d ≠ 2 ∧ (cN (setC (setC N' 3 k 0) 2 k 0) 2 d = 1 → (cN N 1 d : Int) ∈ jT (tN N') 0 k (cN N' 0 k) (cN N' 1 k) 0 (cN N 0 d))
          rw [C2, C3]
          by_cases ed : d = k
          · rw [if_pos ed, if_pos ed]
            exact ⟨rfl, by omega, fun q => by omega⟩
          · rw [if_neg ed, if_neg ed]
            obtain ⟨q1, q2, q3⟩ := dn d (by omega) h2
            have okd := h.1.2.1 d (by omega)
            refine ⟨q1, q2, fun w => ?_⟩
            rw [jT_eq, c0, c1]
            exact FL_jmono f0 x16 y16 (by omega) (q3 w)
        · have ed : d ≠ k := fun ed => by subst ed; omega
          show cN (setC (setC N' 3 k 0) 2 k 0) 2 d = _ ∧ cN (setC (setC N' 3 k 0) 2 k 0) 3 d = _
          rw [C2, C3, if_neg ed, if_neg ed]
          exact lf d (by omega) h2
theorem INV_td (h : INV N) : INV (tdN N (ldN N)) := by
  obtain ⟨o, ⟨s1, s2, s3, s4, s5, s6⟩, ⟨c0, c1, c4, c5⟩, fl, un, dn, lf⟩ := td_inv h (ldN N) (Nat.le_refl _)
  refine ⟨o, fun i hi => ?_, fun d hd => ?_, fun d hd h1 => ?_⟩
  · rw [c0, c1]
    refine FL_K (fl i hi) (fun d => ?_)
    unfold tcs tdT
    rw [s2]
    constructor
    · rintro ⟨z1, z2, z3⟩
      have h2 : cN N 2 d ≠ 2 := fun q => by have := (lf d z1 q).1; omega
      have := (dn d z1 h2).1
      exact ⟨by omega, z1, z2⟩
    · rintro ⟨z1, z2, z3⟩
      exact ⟨z2, z3, by omega⟩
  · rw [s2] at hd
    rw [s1]
    by_cases h2 : cN N 2 d = 2
    · rw [(lf d hd h2).2]; exact h.2.2.1 d hd
    · rw [(dn d hd h2).1]; exact Nat.zero_le _
  · rw [s2] at hd
    have h2 : cN N 2 d ≠ 2 := fun q => by have := (lf d hd q).1; omega
    obtain ⟨q1, q2, q3⟩ := dn d hd h2
    unfold sp1
    rw [c0, c1, q1]
    exact q3 h1
end AE
