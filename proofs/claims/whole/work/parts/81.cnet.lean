/-! A Net at a holds the net N -/
def ckl (N : nt) (A : Nat → Nat → Int) (S : Nat → Int) : Prop := (S 0 = (nN N : Int) ∧ S 1 = (hgt (nN N) 4 : Int) ∧ S 2 = (ldN N : Int) ∧ S 3 = (riN N : Int) ∧ S 4 = (loN N : Int)) ∧ (∃ eld lg : Nat, S 6 = (eld : Int) ∧ S 5 = (lg : Int) ∧ eld < 40 ∧ lg ≤ 40 ∧ lgl (A 7) eld lg = lgN N) ∧ (∀ c, c < ldN N → A 0 c = (cN N 0 c : Int) ∧ A 1 c = (cN N 1 c : Int) ∧ A 2 c = (cN N 5 c : Int) ∧ A 3 c = (cN N 3 c : Int) ∧ A 4 c = (cN N 2 c : Int) ∧ A 5 c = (cN N 4 c : Int)) ∧ ∀ n, n < 16 → A 6 n = (nmN N n : Int)
def ckt (N : nt) (R : Nat → Nat → Int) (U : Nat → Nat) : Prop := ∀ i, i < 5 → ∃ ts, fo_ts (R i) (U i) ts ∧ tsR (nN N) (tN N i) ts
def ck (f : pm_H) (a : Nat) (N : nt) : Prop := ∃ (A R : Nat → Nat → Int) (U : Nat → Nat) (S : Nat → Int), cn_at f a A R U S ∧ ckl N A S ∧ ckt N R U
theorem FL_in {e0 e1 : Nat → Nat} {K : Nat → Prop} {T : Nat → List Int} {n : Nat} (f : FL e0 e1 K T) (hn : n ≤ 16) (hK : ∀ c, K c → e0 c < n ∧ e1 c < n) : ∀ m j : Nat, m < n → j < 16 → (j : Int) ∈ T m → j < n := fun m j hm hj h => f.2.2.2 m j (by omega) hj h (fun u => u < n) hm (fun c hc => ⟨fun _ => (hK c hc).2, fun _ => (hK c hc).1⟩)
/-- bits up to 16, or as many as there are nodes -/
theorem bs_16 {p : Nat → Bool} {n m : Nat} (hn : n ≤ m) (h : ∀ i, n ≤ i → i < m → p i = false) : bs p m = bs p n := by
  induction m with
  | zero => obtain rfl : n = 0 := by omega
            rfl
  | succ m ih =>
    by_cases e : n = m + 1
    · rw [e]
    · rw [bs_s, ih (by omega) (fun i h1 h2 => h i h1 (by omega)), h m (by omega) (by omega)]
      simp
section CK
variable {f : pm_H} {a : Nat} {A R : Nat → Nat → Int} {U : Nat → Nat} {S : Nat → Int} {N : nt} {k : pm_P} {e0 e1 : Nat → Nat} {K : Nat → Prop}
theorem ck_u (hn : nN N ≤ 16) {i : Nat} (fl : FL e0 e1 K (tN N i)) (hK : ∀ c, K c → e0 c < nN N ∧ e1 c < nN N) {row : Nat → Int} {u : Nat} {ts : List (List Int)} (hts : fo_ts row u ts) (tr : tsR (nN N) (tN N i) ts) : u + ts.length = 3 * nN N := by
  have := ts_len fl hn (FL_in fl hn hK) tr
  have := fl_u hts.1
  omega
theorem partOf_c (h : cn_at f a A R U S) (ht : ckt N R U) (hn : nN N ≤ 16) {i x : Nat} (hi : i < 5) (fl : FL e0 e1 K (tN N i)) (hK : ∀ c, K c → e0 c < nN N ∧ e1 c < nN N) (hx : x < nN N) (hk : k (some (.inl ((bs (fun m => on1 N i m x) 16 : Nat) : Int))) f) : pm_ex T_X0_partOf [.inr (.inl (some (a + 11 + 2 * i))), .inl (x : Int)] f k := by
  obtain ⟨ts, hts, tr⟩ := ht i hi
  have hu := ck_u hn fl hK hts tr
  obtain ⟨X, Z, e, nX, nZ⟩ := ts_find fl hn tr hx
  obtain ⟨p, q, et, hp⟩ := spl1 (fl.1 x (by omega)).2.2.1
  have ok := (fl.1 x (by omega)).1
  subst e
  rw [et] at hts ok
  refine partOf_seg (h.2.2.2 i hi) (by omega) (ts_seg hts) (fun hm => ?_) hp ok ?_
  · obtain ⟨t, ht2, z | z⟩ := mem_fla.mp hm
    · exact nX t ht2 z
    · omega
  · rw [← et]; exact hk
theorem ck_lvl (ht : ckt N R U) {i : Nat} {T' : Nat → Nat → List Int} {row : Nat → Int} {m : Nat} {ts : List (List Int)} (hT : ∀ j, j ≠ i → T' j = tN N j) (h1 : fo_ts row m ts) (h2 : tsR (nN N) (T' i) ts) : ckt (setT N T') (stA R i row) (stU U i m) := by
  intro j hj
  unfold stA stU
  by_cases e : j = i
  · subst e
    rw [if_pos rfl, if_pos rfl]
    exact ⟨ts, h1, h2⟩
  · rw [if_neg e, if_neg e]
    obtain ⟨ts', a1, a2⟩ := ht j hj
    exact ⟨ts', a1, by show tsR (nN N) (T' j) ts'; rw [hT j e]; exact a2⟩
theorem ckl_8 {g : Nat → Int} (h : ckl N A S) (T' : Nat → Nat → List Int) : ckl (setT N T') (stA A 8 g) S := h
theorem join_c (h : ck f a N) (hn : nN N ≤ 16) {i c x y : Nat} (hi : i < 5) (fl : FL e0 e1 K (tN N i)) (hK : ∀ c, K c → e0 c < nN N ∧ e1 c < nN N) (hc : c < 60) (hx : x < nN N) (hy : y < nN N) (hne : (y : Int) ∉ tN N i x) (hk : ∀ f', ck f' a (setT N (jT (tN N) i c x y)) → cfr a f f' → k none f') : pm_ex T_X0_join [.inr (.inl (some (a + 11 + 2 * i))), .inl (c : Int), .inl (x : Int), .inl (y : Int), .inr (.inl (some (a + 9)))] f k := by
  obtain ⟨A, R, U, S, h, hl, ht⟩ := h
  obtain ⟨ts, hts, tr⟩ := ht i hi
  have hu := ck_u hn fl hK hts tr
  obtain ⟨X, Y, Z, e, nx, ny, l2⟩ := ts_two fl hn tr hx hy hne
  have x16 : x < 16 := by omega
  have y16 : y < 16 := by omega
  have hap := FL_apart fl x16 y16 hne
  obtain ⟨p, q, et, hp⟩ := spl1 (fl.1 x x16).2.2.1
  obtain ⟨p', q', et', hp'⟩ := spl1 (fl.1 y y16).2.2.1
  have tj := ts_join (c := c) fl hn tr hx hy e nx ny
  have ej : jw1 (tN N i) c x y = (x : Int) :: q ++ p ++ [100 + (c : Int)] ++ ((y : Int) :: q' ++ p') ++ [100 + (c : Int)] := by
    unfold jw1
    rw [et, et', trn_eq hp, trn_eq hp']
  rw [et, et'] at e
  refine join_ts (h.2.2.2 i hi) (cn9 h) (by omega) (by omega) (by omega) c hc hts (by omega) e ⟨hp, nx⟩ (by rw [← et']; exact hap _ (fl.1 x x16).2.2.1) ⟨hp', ny⟩ (by rw [← et]; exact hne) (fun g' row' hts' => ?_)
  rw [← ej] at hts'
  refine hk _ ⟨_, _, _, _, cn_new h hi g' row' (U i + 1), ckl_8 hl _, ck_lvl ht (fun j hj => jT_ne _ _ _ _ hj) hts' (by rw [jT_eq]; exact tj)⟩ (cfr_new hi)
theorem split_c (h : ck f a N) (hn : nN N ≤ 16) {i c x : Nat} (hi : i < 5) (fl : FL e0 e1 K (tN N i)) (hK : ∀ c, K c → e0 c < nN N ∧ e1 c < nN N) (hc : c < 60) (kc : K c) (ex : e0 c = x) (hk : ∀ f', ck f' a (setT N (spT (tN N) i c x)) → cfr a f f' → k none f') : pm_ex T_X0_split [.inr (.inl (some (a + 11 + 2 * i))), .inl (c : Int), .inr (.inl (some (a + 9)))] f k := by
  obtain ⟨A, R, U, S, h, hl, ht⟩ := h
  obtain ⟨ts, hts, tr⟩ := ht i hi
  have hu := ck_u hn fl hK hts tr
  have hx : x < nN N := by have := (hK c kc).1; omega
  obtain ⟨X, Z, e, nX, nZ⟩ := ts_find fl hn tr hx
  have tsp := ts_split fl hn (FL_in fl hn hK) tr ex kc hx e nX nZ
  obtain ⟨⟨hx16, hy16⟩, hb⟩ := fl.2.2.1 c kc
  rw [ex] at hx16 hb
  have gx := fl.1 x hx16
  have g2 := gx.2.1.2.1 c hb
  obtain ⟨p, m, q, et, hp, hm, hq⟩ := spl2 g2.1
  rw [et, inL_eq hp hm, outL_eq hp hm] at tsp
  subst e
  have hts2 := hts
  rw [et] at hts2
  have l1 := ts_pos tr (by omega)
  refine split_ts (h.2.2.2 i hi) (cn9 h) (by omega) (by omega) (by omega) c hc hts2 (by omega) (fun t ht2 z => ?_) hp hm (fun g' row' hts' => ?_)
  · have hts3 : t ∈ X ++ tN N i x :: Z := by simp [ht2]
    obtain ⟨n', hn', rfl⟩ := (tr.2 t).mp hts3
    have en := gT_ends (fl.1 n' (by omega)).2.1 z
    rw [ex] at en
    exact nX _ ht2 en.1
  · refine hk _ ⟨_, _, _, _, cn_new h hi g' row' (U i - 1), ckl_8 hl _, ck_lvl ht (fun j hj => spT_ne _ _ _ hj) hts' ?_⟩ (cfr_new hi)
    rw [spT_eq, et, inL_eq hp hm, outL_eq hp hm]
    exact tsp
theorem ckA (hl : ckl N A S) {c : Nat} (hc : c < ldN N) : A 0 c = (cN N 0 c : Int) ∧ A 1 c = (cN N 1 c : Int) ∧ A 2 c = (cN N 5 c : Int) ∧ A 3 c = (cN N 3 c : Int) ∧ A 4 c = (cN N 2 c : Int) ∧ A 5 c = (cN N 4 c : Int) := hl.2.2.1 c hc
theorem note_c (h : ck f a N) {c w l : Nat} (hl : cN N 3 c = l) (hk : ∀ f', ck f' a (lgA N c w) → cfr a f f' → k none f') : pm_ex T_X1_note [.inr (.inl (some a)), .inl (c : Int), .inl (w : Int), .inl (l : Int)] f k := by
  obtain ⟨A, R, U, S, h, ⟨s, ⟨eld, lg, s6, s5, he, hl2, hlg⟩, c1, n1⟩, ht⟩ := h
  refine note_sp h eld lg s6 s5 he hl2 fun f' g eld' lg' q1 q2 q3 q4 q5 => hk f' ⟨_, _, _, _, q1, ⟨s, ⟨eld', lg', rfl, rfl, q3, q4, ?_⟩, c1, n1⟩, ht⟩ q2
  rw [hlg] at q5
  rw [← hl] at q5
  exact q5
theorem raise_c (h : ck f a N) (o : okB N) {c : Nat} (hc : c < ldN N) (hl3 : cN N 3 c < 1000) (hri : riN N < 1000000000) (hro : cN N 4 c < 1000000000) (hk : ∀ f', ck f' a (rise0 N c) → cfr a f f' → k none f') : pm_ex T_X1_raise [.inr (.inl (some a)), .inl (c : Int)] f k := by
  have b1 := okl o
  obtain ⟨A, R, U, S, h, ⟨s, ⟨eld, lg, s6, s5, he, hl2, hlg⟩, c1, n1⟩, ht⟩ := h
  have cc := c1 c hc
  refine raise_sp h (by omega) (by omega) (by omega) (by omega) eld lg s6 s5 he hl2 fun f' g eld' lg' q1 q2 q3 q4 q5 => hk f' ⟨_, _, _, _, q1, ⟨⟨s.1, s.2.1, s.2.2.1, ?_, s.2.2.2.2⟩, ⟨eld', lg', rfl, rfl, q3, q4, ?_⟩, fun d hd => ?_, n1⟩, ht⟩ q2
  · show S 3 + 1 = ((riN N + 1 : Nat) : Int)
    rw [s.2.2.2.1]; rfl
  · show lgl g eld' lg' = _
    rw [q5, hlg, cc.2.2.2.1]
    show _ = lgput (lgN N) ((c : Int), ((4 : Nat) : Int), ((if 3 = 4 ∧ c = c then cN N 4 c + 1 else if 3 = 3 ∧ c = c then cN N 3 c + 1 else cN N 3 c : Nat) : Int))
    rw [if_neg (by omega), if_pos ⟨rfl, rfl⟩]
    rfl
  · have hd2 : d < ldN N := hd
    have cd := c1 d hd2
    simp only [rise0_c]
    refine ⟨?_, ?_, ?_, ?_, ?_, ?_⟩
    · simpa [stA] using cd.1
    · simpa [stA] using cd.2.1
    · simpa [stA] using cd.2.2.1
    · show pm_us (A 3) c (A 3 c + 1) d = _
      by_cases e : d = c
      · subst e
        rw [us_eq, cd.2.2.2.1]
        simp
      · rw [us_ne e, cd.2.2.2.1]
        simp [e]
    · simpa [stA] using cd.2.2.2.2.1
    · show pm_us (A 5) c (A 5 c + 1) d = _
      by_cases e : d = c
      · subst e
        rw [us_eq, cd.2.2.2.2.2]
        simp
      · rw [us_ne e, cd.2.2.2.2.2]
        simp [e]
/-- a cell of the cables' table put: A j is what w -/
theorem ck_put (h : cn_at f a A R U S) (hl : ckl N A S) (ht : ckt N R U) {j w c v : Nat} (hj : (j = 2 ∧ w = 5) ∨ (j = 3 ∧ w = 3) ∨ (j = 4 ∧ w = 2)) : ck (pm_up f (a + 1 + j) (.inl (60, pm_us (A j) c (v : Int)))) a (setC N w c v) := by
  obtain ⟨s, lgs, c1, n1⟩ := hl
  have hj9 : j < 9 := by omega
  refine ⟨_, _, _, _, cn_arr h hj9 _ (by unfold cn_len; rw [if_pos (by omega)]), ⟨s, ?_, fun d hd => ?_, fun n hn => ?_⟩, ht⟩
  · rw [stA_ne _ _ (by omega)]; exact lgs
  · have cd := c1 d hd
    simp only [setC_c]
    rcases hj with ⟨rfl, rfl⟩ | ⟨rfl, rfl⟩ | ⟨rfl, rfl⟩
    · refine ⟨by simpa [stA] using cd.1, by simpa [stA] using cd.2.1, ?_, by simpa [stA] using cd.2.2.2.1, by simpa [stA] using cd.2.2.2.2.1, by simpa [stA] using cd.2.2.2.2.2⟩
      show pm_us (A 2) c (v : Int) d = _
      by_cases e : d = c
      · subst e; rw [us_eq]; simp
      · rw [us_ne e, cd.2.2.1]; simp [e]
    · refine ⟨by simpa [stA] using cd.1, by simpa [stA] using cd.2.1, by simpa [stA] using cd.2.2.1, ?_, by simpa [stA] using cd.2.2.2.2.1, by simpa [stA] using cd.2.2.2.2.2⟩
      show pm_us (A 3) c (v : Int) d = _
      by_cases e : d = c
      · subst e; rw [us_eq]; simp
      · rw [us_ne e, cd.2.2.2.1]; simp [e]
    · refine ⟨by simpa [stA] using cd.1, by simpa [stA] using cd.2.1, by simpa [stA] using cd.2.2.1, by simpa [stA] using cd.2.2.2.1, ?_, by simpa [stA] using cd.2.2.2.2.2⟩
      show pm_us (A 4) c (v : Int) d = _
      by_cases e : d = c
      · subst e; rw [us_eq]; simp
      · rw [us_ne e, cd.2.2.2.2.1]; simp [e]
  · rw [stA_ne _ _ (by omega)]; exact n1 n hn
theorem ck_lo (h : cn_at f a A R U S) (hl : ckl N A S) (ht : ckt N R U) : ck (pm_up f a (cn_obj a (stS S 4 ((loN N : Int) + 1)))) a (adL N) := by
  obtain ⟨s, lgs, c1, n1⟩ := hl
  exact ⟨_, _, _, _, cn_put h _, ⟨⟨s.1, s.2.1, s.2.2.1, s.2.2.2.1, rfl⟩, lgs, c1, n1⟩, ht⟩
end CK
