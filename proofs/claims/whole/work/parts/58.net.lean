/-! THE NET's acts, and what stays true -/
def tcs (N : nt) (i c : Nat) : Prop := c < ldN N ∧ cN N 2 c = 0 ∧ i ≤ cN N 3 c
def FA (N : nt) : Prop := ∀ i, i < 5 → FL (cN N 0) (cN N 1) (tcs N i) (tN N i)
def ok0 (N : nt) : Prop := ((2 ≤ nN N ∧ nN N ≤ 16) ∧ ldN N ≤ 60) ∧ (∀ c, c < ldN N → cN N 0 c < nN N ∧ cN N 1 c < nN N ∧ cN N 0 c ≠ cN N 1 c ∧ cN N 2 c ≤ 2 ∧ cN N 3 c ≤ 4 ∧ cN N 5 c ≤ 99 ∧ cN N 4 c ≤ riN N) ∧ (riN N ≤ 1000000000 ∧ loN N ≤ 1000000000) ∧ (∀ n, nmN N n < 16) ∧ (lgN N).length ≤ 40
def sp1 (N : nt) (d : Nat) : Prop := (cN N 1 d : Int) ∈ tN N (cN N 3 d) (cN N 0 d)
def lvs (N : nt) : Prop := ∀ c, c < ldN N → cN N 3 c ≤ hgt (nN N) 4
def INV (N : nt) : Prop := ok0 N ∧ FA N ∧ lvs N ∧ ∀ d, d < ldN N → cN N 2 d = 1 → sp1 N d
theorem okB_of {N : nt} (h : ok0 N) (K : Nat → Nat → Prop) (hf : ∀ i, i < 5 → FL (cN N 0) (cN N 1) (K i) (tN N i)) : okB N := by
  refine ⟨h.1, fun c hc => ?_, h.2.2.1, h.2.2.2.1, h.2.2.2.2, fun i n hi hn => ?_⟩
  · have a := h.2.1 c hc
    have b := h.2.2.1
    exact ⟨a.1, a.2.1, a.2.2.1, a.2.2.2.1, a.2.2.2.2.1, a.2.2.2.2.2.1, by omega⟩
  have a := (hf i hi).1 n hn
  exact ⟨a.1, FL_len (hf i hi) hn, a.2.2.1, a.2.2.2.1⟩
theorem okB_in {N : nt} (h : ok0 N) (hf : FA N) : okB N := okB_of h (tcs N) hf
def setC (N : nt) (w c v : Nat) : nt := (N.1, (fun w' c' => if w' = w ∧ c' = c then v else cN N w' c'), N.2.2)
def setNm (N : nt) (g : Nat → Nat) : nt := (N.1, N.2.1, g, N.2.2.2)
def lgA (N : nt) (c w : Nat) : nt := (N.1, N.2.1, N.2.2.1, N.2.2.2.1, lgput (lgN N) ((c : Int), (w : Int), (cN N 3 c : Int)))
def adR (N : nt) : nt := ((nN N, ldN N, riN N + 1, loN N), N.2)
def adL (N : nt) : nt := ((nN N, ldN N, riN N, loN N + 1), N.2)
def adC (N : nt) (x y s : Nat) : nt := ((nN N, ldN N + 1, riN N, loN N), (fun w c => if c = ldN N then (if w = 0 then x else if w = 1 then y else if w = 2 then s else if w = 5 then 1 else 0) else cN N w c), N.2.2)
def szN (N : nt) (i x : Nat) : Nat := cnt (fun m => on1 N i m x) (nN N)
theorem lgput_len {l : List (Int × Int × Int)} {x : Int × Int × Int} (h : l.length ≤ 40) : (lgput l x).length ≤ 40 := by
  unfold lgput
  split
  · simp; omega
  · simp; omega
theorem lyT_eq (T : Nat → Nat → List Int) (i : Nat) (w : List Int) : lyT T i w i = ly1 (T i) w := by
  funext n
  unfold lyT ly1
  by_cases z : (n : Int) ∈ w
  · rw [if_pos ⟨rfl, z⟩, if_pos z]
  · rw [if_neg (fun q => z q.2), if_neg z]
theorem lyT_ne (T : Nat → Nat → List Int) {i j : Nat} (w : List Int) (h : j ≠ i) : lyT T i w j = T j := by
  funext n
  unfold lyT
  rw [if_neg (fun q => h q.1)]
theorem jT_eq (T : Nat → Nat → List Int) (i c x y : Nat) : jT T i c x y i = ly1 (T i) (jw1 (T i) c x y) := lyT_eq T i _
theorem jT_ne (T : Nat → Nat → List Int) {i j : Nat} (c x y : Nat) (h : j ≠ i) : jT T i c x y j = T j := lyT_ne T _ h
theorem spT_eq (T : Nat → Nat → List Int) (i c x : Nat) : spT T i c x i = ly1 (ly1 (T i) (outL (T i x) (100 + (c : Int)))) (inL (T i x) (100 + (c : Int))) := by
  unfold spT
  rw [lyT_eq, lyT_eq]
theorem spT_ne (T : Nat → Nat → List Int) {i j : Nat} (c x : Nat) (h : j ≠ i) : spT T i c x j = T j := by
  unfold spT
  rw [lyT_ne _ _ h, lyT_ne _ _ h]
section NA
variable {N : nt}
theorem ok0_lg {c w : Nat} (h : ok0 N) : ok0 (lgA N c w) := ⟨h.1, h.2.1, h.2.2.1, h.2.2.2.1, lgput_len h.2.2.2.2⟩
theorem nested (hf : FA N) {i n m : Nat} (hi : i + 1 < 5) (hn : n < 16) (hm : m < 16) (h : (m : Int) ∈ tN N (i + 1) n) : (m : Int) ∈ tN N i n := by
  have f0 := hf i (by omega)
  refine (hf (i + 1) hi).2.2.2 n m hn hm h (fun u => (u : Int) ∈ tN N i n) (f0.1 n hn).2.2.1 (fun c hc => ?_)
  have k : tcs N i c := ⟨hc.1, hc.2.1, by have := hc.2.2; omega⟩
  have e := FL_ends f0 k
  have w := f0.2.2.1 c k
  constructor
  · intro z
    rw [← (f0.1 n hn).2.2.2.1 _ w.1.1 z]; exact e.1
  · intro z
    rw [← (f0.1 n hn).2.2.2.1 _ w.1.2 z, e.2]; exact (f0.1 _ w.1.1).2.2.1
theorem nested' (hf : FA N) {i j n m : Nat} (hi : i < 5) (hj : j ≤ i) (hn : n < 16) (hm : m < 16) (h : (m : Int) ∈ tN N i n) : (m : Int) ∈ tN N j n := by
  induction i with
  | zero => obtain rfl : j = 0 := by omega
            exact h
  | succ i ih =>
    by_cases e : j = i + 1
    · rw [e]; exact h
    · exact ih (by omega) (by omega) (nested hf hi hn hm h)
/-- a level's cable has its ends in two trees of the level above -/
theorem above_ne (hf : FA N) {i c : Nat} (hi : i + 1 < 5) (hc : tcs N i c) (hl : cN N 3 c = i) : (cN N 1 c : Int) ∉ tN N (i + 1) (cN N 0 c) := by
  intro h
  have f0 := hf i (by omega)
  have w := f0.2.2.1 c hc
  have fs := FL_split (K' := fun d => tcs N i d ∧ d ≠ c) f0 rfl hc (fun d => Iff.rfl)
  have hne := FL_split_ne f0 rfl hc
  generalize ly1 (ly1 (tN N i) (outL (tN N i (cN N 0 c)) (100 + (c : Int)))) (inL (tN N i (cN N 0 c)) (100 + (c : Int))) = T' at fs hne
  refine hne ((hf (i + 1) hi).2.2.2 _ _ w.1.1 w.1.2 h (fun u => (u : Int) ∈ T' (cN N 0 c)) (fs.1 _ w.1.1).2.2.1 (fun d hd => ?_))
  have k : tcs N i d ∧ d ≠ c := ⟨⟨hd.1, hd.2.1, by have := hd.2.2; omega⟩, fun e => by subst e; have := hd.2.2; omega⟩
  have e := FL_ends fs k
  have wd := fs.2.2.1 d k
  constructor
  · intro z
    rw [← (fs.1 _ w.1.1).2.2.2.1 _ wd.1.1 z]; exact e.1
  · intro z
    rw [← (fs.1 _ w.1.1).2.2.2.1 _ wd.1.2 z, e.2]; exact (fs.1 _ wd.1.1).2.2.1
/-- RISE -/
def rise0 (N : nt) (c : Nat) : nt := lgA (adR (setC (setC N 3 c (cN N 3 c + 1)) 4 c (cN N 4 c + 1))) c 4
def riseN (N : nt) (c : Nat) : nt := if cN N 2 c = 0 then setT (rise0 N c) (jT (tN N) (cN N 3 c + 1) c (cN N 0 c) (cN N 1 c)) else rise0 N c
theorem rise0_c (N : nt) (c w d : Nat) : cN (rise0 N c) w d = if w = 4 ∧ d = c then cN N 4 c + 1 else if w = 3 ∧ d = c then cN N 3 c + 1 else cN N w d := by
  show (if w = 4 ∧ d = c then cN N 4 c + 1 else if w = 3 ∧ d = c then cN N 3 c + 1 else cN N w d) = _
  rfl
theorem rise_c (N : nt) (c w d : Nat) : cN (riseN N c) w d = if w = 4 ∧ d = c then cN N 4 c + 1 else if w = 3 ∧ d = c then cN N 3 c + 1 else cN N w d := by
  unfold riseN
  split
  · exact rise0_c N c w d
  · exact rise0_c N c w d
theorem rise_s (N : nt) (c : Nat) : nN (riseN N c) = nN N ∧ ldN (riseN N c) = ldN N ∧ riN (riseN N c) = riN N + 1 ∧ loN (riseN N c) = loN N ∧ nmN (riseN N c) = nmN N ∧ lgN (riseN N c) = lgput (lgN N) ((c : Int), 4, ((cN N 3 c + 1 : Nat) : Int)) := by
  have e : lgN (rise0 N c) = lgput (lgN N) ((c : Int), 4, ((cN N 3 c + 1 : Nat) : Int)) := by
    show lgput (lgN N) ((c : Int), ((4 : Nat) : Int), ((if 3 = 4 ∧ c = c then cN N 4 c + 1 else if 3 = 3 ∧ c = c then cN N 3 c + 1 else cN N 3 c : Nat) : Int)) = _
    rw [if_neg (by omega), if_pos ⟨rfl, rfl⟩]
    rfl
  unfold riseN
  split
  · exact ⟨rfl, rfl, rfl, rfl, rfl, e⟩
  · exact ⟨rfl, rfl, rfl, rfl, rfl, e⟩
theorem rise_t (N : nt) (c : Nat) : tN (riseN N c) = if cN N 2 c = 0 then jT (tN N) (cN N 3 c + 1) c (cN N 0 c) (cN N 1 c) else tN N := by
  unfold riseN
  split <;> rfl
theorem ok0_rise {c : Nat} (h : ok0 N) (hc : c < ldN N) (hl : cN N 3 c + 1 ≤ 4) (hr : riN N < 1000000000) : ok0 (riseN N c) := by
  obtain ⟨s1, s2, s3, s4, s5, s6⟩ := rise_s N c
  unfold ok0
  rw [s1, s2, s3, s4, s5, s6]
  refine ⟨h.1, fun d hd => ?_, ⟨by omega, h.2.2.1.2⟩, h.2.2.2.1, lgput_len h.2.2.2.2⟩
  have a := h.2.1 d hd
  simp only [rise_c]
  have b := h.2.1 c hc
  refine ⟨?_, ?_, ?_, ?_, ?_, ?_, ?_⟩
  · simpa using a.1
  · simpa using a.2.1
  · simpa using a.2.2.1
  · simpa using a.2.2.2.1
  · by_cases e : d = c
    · simp [e]; omega
    · simp [e]; exact a.2.2.2.2.1
  · simpa using a.2.2.2.2.2.1
  · by_cases e : d = c
    · simp [e]; omega
    · simp [e]; omega
theorem tcs_rise {c i d : Nat} (hi : i ≠ cN N 3 c + 1 ∨ cN N 2 c ≠ 0) : tcs (riseN N c) i d ↔ tcs N i d := by
  unfold tcs
  rw [(rise_s N c).2.1, rise_c, rise_c, if_neg (by omega), if_neg (by omega), if_neg (by omega)]
  by_cases e : d = c
  · subst e
    rw [if_pos ⟨rfl, rfl⟩]
    constructor
    · rintro ⟨a, b, c⟩; exact ⟨a, b, by omega⟩
    · rintro ⟨a, b, c⟩; exact ⟨a, b, by omega⟩
  · rw [if_neg (fun q => e q.2)]
theorem rise_e (N : nt) (c : Nat) : cN (riseN N c) 0 = cN N 0 ∧ cN (riseN N c) 1 = cN N 1 ∧ cN (riseN N c) 2 = cN N 2 ∧ cN (riseN N c) 5 = cN N 5 := by
  refine ⟨?_, ?_, ?_, ?_⟩ <;> (funext d; rw [rise_c, if_neg (by omega), if_neg (by omega)])
theorem FA_rise {c : Nat} (hf : FA N) (h : ok0 N) (hc : c < ldN N) (hl : cN N 3 c + 1 ≤ 4) : FA (riseN N c) := by
  intro i hi
  have a := h.2.1 c hc
  have b := h.1
  rw [(rise_e N c).1, (rise_e N c).2.1, rise_t]
  by_cases t0 : cN N 2 c = 0
  · rw [if_pos t0]
    by_cases e : i = cN N 3 c + 1
    · rw [e, jT_eq]
      refine FL_join (K := tcs N (cN N 3 c + 1)) (hf _ (by omega)) rfl rfl (by omega) (by omega) (fun z => by have := z.2.2; omega) (by omega) (above_ne hf (by omega) ⟨hc, t0, Nat.le_refl _⟩ rfl) (fun d => ?_)
      unfold tcs
      rw [(rise_s N c).2.1, (rise_e N c).2.2.1, rise_c, if_neg (by omega)]
      by_cases ed : d = c
      · subst ed
        rw [if_pos ⟨rfl, rfl⟩]
        exact ⟨fun _ => Or.inr rfl, fun _ => ⟨hc, t0, Nat.le_refl _⟩⟩
      · rw [if_neg (fun q => ed q.2)]
        exact ⟨fun q => Or.inl q, fun q => q.resolve_right ed⟩
    · rw [jT_ne _ _ _ _ e]
      exact FL_K (hf i hi) (fun d => tcs_rise (Or.inl e))
  · rw [if_neg t0]
    exact FL_K (hf i hi) (fun d => tcs_rise (Or.inr t0))
/-- what rises doesn't part -/
theorem rise_mono {c : Nat} (hf : FA N) (h : ok0 N) (hc : c < ldN N) {j n m : Nat} (hj : j < 5) (hn : n < 16) (hm : (m : Int) ∈ tN N j n) : (m : Int) ∈ tN (riseN N c) j n := by
  rw [rise_t]
  have a := h.2.1 c hc
  have b := h.1
  split
  · by_cases e : j = cN N 3 c + 1
    · have f := hf j hj
      rw [e] at hm f ⊢
      rw [jT_eq]
      unfold ly1
      have x16 : cN N 0 c < 16 := by omega
      have y16 : cN N 1 c < 16 := by omega
      have mem := jw1_mem (c := c) f x16 y16
      split
      · rename_i q
        rw [mem]
        rcases (mem _).mp q with z | z | z
        · rw [(f.1 _ x16).2.2.2.1 n hn z] at hm; exact Or.inl hm
        · rw [(f.1 _ y16).2.2.2.1 n hn z] at hm; exact Or.inr (Or.inl hm)
        · omega
      · exact hm
    · rw [jT_ne _ _ _ _ e]; exact hm
  · exact hm
theorem rise_low {c j : Nat} (hj : j ≤ cN N 3 c) : tN (riseN N c) j = tN N j := by
  rw [rise_t]
  split
  · exact jT_ne _ _ _ _ (by omega)
  · rfl
end NA
