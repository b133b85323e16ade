/-! WAYS: both the same, since tree cables make no circle -/
section WEQ
variable {N : nt}
theorem tr_bridge (iv : INV N) {c : Nat} (hc : c < ldN N) (tc : cN N 2 c = 0) : ¬ clo (cN N 0) (cN N 1) (twG N (c : Int)) (ldN N) (cN N 0 c) (cN N 1 c) := by
  have o := INV_ok iv
  have o16 := ok16 o hc
  have fl := split_FL0 iv hc tc
  rw [clo_T fl (fun d => by
    unfold twG trN tcs
    simp only [Bool.and_eq_true, decide_eq_true_eq]
    constructor
    · rintro ⟨⟨z1, z2, _⟩, z3⟩
      exact ⟨z1, z2, by omega⟩
    · rintro ⟨z1, z2, z3⟩
      exact ⟨⟨z1, z2, Nat.zero_le _⟩, by omega⟩) o16.1 o16.2, spT_eq]
  exact FL_split_ne (iv.2.1 0 (by omega)) rfl ⟨hc, tc, Nat.zero_le _⟩
/-- marks of the class: each has a tree cable to one marked before -/
def mwI (N : nt) (y : Nat) (G : Nat → Int) (r : Nat → Nat) : Prop := G y ≠ -1 ∧ ∀ m, m < 16 → G m ≠ -1 → r m < mkC G ∧ (m ≠ y → ∃ c p : Nat, G m = (p : Int) ∧ c < ldN N ∧ cN N 2 c = 0 ∧ ((cN N 0 c = p ∧ cN N 1 c = m) ∨ (cN N 1 c = p ∧ cN N 0 c = m)) ∧ G p ≠ -1 ∧ r p < r m)
theorem mw_add {y : Nat} {G : Nat → Int} {r : Nat → Nat} {c p m : Nat} (h : mwI N y G r) (o : okB N) (hc : c < ldN N) (tc : cN N 2 c = 0) (he : (cN N 0 c = p ∧ cN N 1 c = m) ∨ (cN N 1 c = p ∧ cN N 0 c = m)) (hp : G p ≠ -1) (hm : G m = -1) : ∃ r', mwI N y (pm_us G m (p : Int)) r' ∧ mkC (pm_us G m (p : Int)) = mkC G + 1 := by
  have o16 := ok16 o hc
  have oc := o.2.1 c hc
  have m16 : m < 16 := by omega
  have p16 : p < 16 := by omega
  have pm : p ≠ m := by omega
  have m1 := mkC_us (z := (p : Int)) m16 hm (by omega)
  refine ⟨fun v => if v = m then mkC G else r v, ⟨?_, fun w w16 hw => ?_⟩, m1⟩
  · by_cases e : y = m
    · rw [e, us_eq]; omega
    · rw [us_ne e]; exact h.1
  · dsimp only
    by_cases e : w = m
    · subst e
      rw [if_pos rfl]
      refine ⟨by omega, fun _ => ⟨c, p, us_eq, hc, tc, he, by rw [us_ne pm]; exact hp, ?_⟩⟩
      rw [if_neg pm]
      exact (h.2 p p16 hp).1
    · rw [us_ne e] at hw
      rw [if_neg e]
      obtain ⟨z1, z2⟩ := h.2 w w16 hw
      refine ⟨by omega, fun wx => ?_⟩
      obtain ⟨c', p', q1, q2, q3, q4, q5, q6⟩ := z2 wx
      have p'm : p' ≠ m := fun z => by rw [z] at q5; exact q5 hm
      refine ⟨c', p', by rw [us_ne e]; exact q1, q2, q3, q4, by rw [us_ne p'm]; exact q5, ?_⟩
      rw [if_neg p'm]
      exact q6
theorem mwS_I {y : Nat} {G : Nat → Int} {r : Nat → Nat} {c : Nat} (h : mwI N y G r) (o : okB N) (hc : c < ldN N) : ∃ r', mwI N y (mwS N G c) r' := by
  unfold mwS
  by_cases t : trN N c = true
  · have tc : cN N 2 c = 0 := by simpa [trN] using t
    rw [if_pos t]
    by_cases q1 : G (cN N 0 c) = -1 ∧ G (cN N 1 c) ≠ -1
    · rw [if_pos q1]
      obtain ⟨r', h', _⟩ := mw_add h o hc tc (Or.inr ⟨rfl, rfl⟩) q1.2 q1.1
      exact ⟨r', h'⟩
    · rw [if_neg q1]
      by_cases q2 : G (cN N 1 c) = -1 ∧ G (cN N 0 c) ≠ -1
      · rw [if_pos q2]
        obtain ⟨r', h', _⟩ := mw_add h o hc tc (Or.inl ⟨rfl, rfl⟩) q2.2 q2.1
        exact ⟨r', h'⟩
      · rw [if_neg q2]
        exact ⟨r, h⟩
  · rw [if_neg t]
    exact ⟨r, h⟩
theorem mwP_I {y : Nat} {G : Nat → Int} (h : ∃ r, mwI N y G r) (o : okB N) : ∀ c, c ≤ ldN N → ∃ r, mwI N y (mwP N G c) r
  | 0, _ => h
  | c + 1, hc => by
    obtain ⟨r, h'⟩ := mwP_I h o c (by omega)
    exact mwS_I h' o (by omega)
theorem mwN_I {y : Nat} (hy : y < 16) (o : okB N) : ∀ d, ∃ r, mwI N y (mwN N y d) r
  | 0 => by
    have b0 : mwN N y 0 y ≠ -1 := by
      show (if y = y then (y : Int) else -1) ≠ -1
      rw [if_pos rfl]; omega
    have pos : 0 < mkC (mwN N y 0) := by
      have := cnt_lt (p := fun _ => false) (q := fun v => decide (mwN N y 0 v ≠ -1)) (n := 16) (fun _ _ z => by cases z) hy rfl (decide_eq_true b0)
      show 0 < cnt (fun v => decide (mwN N y 0 v ≠ -1)) 16
      omega
    refine ⟨fun _ => 0, b0, fun m hm hv => ⟨pos, fun my => ?_⟩⟩
    have hv' : (if m = y then (y : Int) else -1) ≠ -1 := hv
    rw [if_neg my] at hv'
    exact absurd rfl hv'
  | d + 1 => mwP_I (mwN_I hy o d) o _ (Nat.le_refl _)
theorem mwS_keep {G : Nat → Int} {c m : Nat} (h : G m ≠ -1) : mwS N G c m = G m := by
  unfold mwS
  split
  · split
    · rename_i q
      exact us_ne fun z => h (by rw [z]; exact q.1)
    · split
      · rename_i q
        exact us_ne fun z => h (by rw [z]; exact q.1)
      · rfl
  · rfl
theorem mwP_keep {G : Nat → Int} {c m : Nat} (h : mwP N G c m ≠ -1) : ∀ q, mwP N G (c + q) m = mwP N G c m
  | 0 => rfl
  | q + 1 => by
    show mwS N (mwP N G (c + q)) (c + q) m = _
    have i := mwP_keep h q
    rw [mwS_keep (by rw [i]; exact h), i]
theorem mwP_keep0 {G : Nat → Int} {m : Nat} (h : G m ≠ -1) (c : Nat) : mwP N G c m = G m := by
  have := mwP_keep (N := N) (G := G) (c := 0) (m := m) h c
  rw [Nat.zero_add] at this
  exact this
theorem mwP_fix (o : okB N) {G : Nat → Int} (h : ∀ m, m < 16 → G m = -1 → mwP N G (ldN N) m = -1) : ∀ c, c < ldN N → trN N c = true → (G (cN N 0 c) ≠ -1 ↔ G (cN N 1 c) ≠ -1) := by
  intro c hc t
  have o16 := ok16 o hc
  have mid : ∀ j m, j ≤ ldN N → m < 16 → mwP N G j m = G m := fun j m hj hm => by
    by_cases q : G m = -1
    · by_cases w : mwP N G j m = -1
      · rw [w, q]
      · have := mwP_keep w (ldN N - j)
        rw [show j + (ldN N - j) = ldN N by omega, h m hm q] at this
        exact absurd this.symm w
    · exact mwP_keep0 q j
  have nx : ∀ m, m < 16 → mwS N (mwP N G c) c m = G m := fun m hm => mid (c + 1) m (by omega) hm
  have e0 := mid c _ (by omega) o16.1
  have e1 := mid c _ (by omega) o16.2
  have n0 := nx _ o16.1
  have n1 := nx _ o16.2
  unfold mwS at n0 n1
  rw [if_pos t, e0, e1] at n0 n1
  constructor
  · intro z1 z2
    rw [if_neg (fun w => z1 w.1), if_pos ⟨z2, z1⟩, us_eq] at n1
    omega
  · intro z1 z2
    rw [if_pos ⟨z2, z1⟩, us_eq] at n0
    omega
theorem mwN_grow (o : okB N) {y : Nat} (hy : y < 16) : ∀ d, (∀ c, c < ldN N → trN N c = true → (mwN N y d (cN N 0 c) ≠ -1 ↔ mwN N y d (cN N 1 c) ≠ -1)) ∨ d + 1 ≤ mkC (mwN N y d)
  | 0 => by
    right
    obtain ⟨r, h⟩ := mwN_I hy o 0
    have := (h.2 y hy h.1).1
    omega
  | d + 1 => by
    have e : mwN N y (d + 1) = mwP N (mwN N y d) (ldN N) := rfl
    have le : ∀ m, mwN N y d m ≠ -1 → mwN N y (d + 1) m ≠ -1 := fun m hm => by rw [e, mwP_keep0 hm]; exact hm
    by_cases fx : ∀ m, m < 16 → mwN N y d m = -1 → mwP N (mwN N y d) (ldN N) m = -1
    · left
      have cl := mwP_fix o fx
      intro c hc t
      have o16 := ok16 o hc
      have sm : ∀ m, m < 16 → (mwN N y (d + 1) m ≠ -1 ↔ mwN N y d m ≠ -1) := fun m hm => ⟨fun z w => z (fx m hm w), le m⟩
      rw [sm _ o16.1, sm _ o16.2]
      exact cl c hc t
    · obtain ⟨m, hm, h1, h2⟩ : ∃ m, m < 16 ∧ mwN N y d m = -1 ∧ mwN N y (d + 1) m ≠ -1 := Classical.byContradiction fun z => fx fun m hm h1 => Classical.byContradiction fun h2 => z ⟨m, hm, h1, h2⟩
      have lt : mkC (mwN N y d) < mkC (mwN N y (d + 1)) := cnt_lt (fun i _ hi => decide_eq_true (le i (of_decide_eq_true hi))) hm (decide_eq_false fun z => z h1) (decide_eq_true h2)
      rcases mwN_grow o hy d with z | z
      · have : mwN N y d m ≠ -1 := by
          exfalso
          have cl : ∀ v, v < 16 → mwN N y (d + 1) v ≠ -1 → mwN N y d v ≠ -1 := fun v hv hw => by
            have st : ∀ j, j ≤ ldN N → ∀ v, v < 16 → mwP N (mwN N y d) j v ≠ -1 → mwN N y d v ≠ -1 := by
              intro j
              induction j with
              | zero => intro _ v _ w; exact w
              | succ j ih =>
                intro hj v hv w
                have o16 := ok16 o (show j < ldN N by omega)
                have w' : mwS N (mwP N (mwN N y d) j) j v ≠ -1 := w
                by_cases q : mwP N (mwN N y d) j v = -1
                · unfold mwS at w'
                  by_cases t : trN N j = true
                  · rw [if_pos t] at w'
                    split at w'
                    · rename_i q2
                      by_cases ev : v = cN N 0 j
                      · rw [ev]; exact (z j (by omega) t).mpr (ih (by omega) _ o16.2 q2.2)
                      · rw [us_ne ev] at w'; exact absurd q w'
                    · split at w'
                      · rename_i q2
                        by_cases ev : v = cN N 1 j
                        · rw [ev]; exact (z j (by omega) t).mp (ih (by omega) _ o16.1 q2.2)
                        · rw [us_ne ev] at w'; exact absurd q w'
                      · exact absurd q w'
                  · rw [if_neg t] at w'; exact absurd q w'
                · exact ih (by omega) v hv q
            exact st (ldN N) (Nat.le_refl _) v hv hw
          exact cl m hm h2 h1
        exact absurd h1 this
      · right; omega
theorem mw_all (o : okB N) {y m : Nat} (hy : y < 16) (h : clo (cN N 0) (cN N 1) (trN N) (ldN N) y m) : mwN N y 16 m ≠ -1 := by
  rcases mwN_grow o hy 16 with z | z
  · obtain ⟨r, w⟩ := mwN_I hy o 16
    exact h (fun v => mwN N y 16 v ≠ -1) w.1 z
  · have := cnt_le (fun v => decide (mwN N y 16 v ≠ -1)) 16
    unfold mkC at z
    omega
theorem spG_t {c : Nat} : spG N true (-1) (-1) c = trN N c := by
  unfold spG
  cases q : trN N c
  · simp
  · have : thN N c = true := by
      have e : cN N 2 c = 0 := by simpa [trN] using q
      simp [thN, e]
    rw [this, decide_eq_true (by omega), decide_eq_false (by omega)]
    rfl
theorem fd_y (o : okB N) {y m : Nat} (hy : y < 16) (hm : m < 16) : fdN N true (-1) (-1) y m = 0 ↔ m = y := by
  have e := fd_le (a0 := cN N 0) (a1 := cN N 1) (g := spG N true (-1) (-1)) (nC := ldN N) (x := y) (fun c hc => (ok16 o hc).1) (fun c hc => (ok16 o hc).2) hy (d := 0) hm
  have lo := fdN_lo (N := N) (t := true) (but := -1) (shut := -1) (x := y) (m := m)
  have e' : it1 y m = decide (fdN N true (-1) (-1) y m ≠ -1 ∧ fdN N true (-1) (-1) y m ≤ ((0 : Nat) : Int)) := e
  constructor
  · intro z
    rw [z, decide_eq_true (by omega)] at e'
    simpa [it1] using e'
  · intro z
    rw [z] at e' lo ⊢
    have := of_decide_eq_true (e'.symm.trans (by simp [it1]))
    omega
theorem fd_15 (o : okB N) {y m : Nat} (hy : y < 16) (hm : m < 16) : fdN N true (-1) (-1) y m ≤ 15 := by
  have f0 : ∀ c, c < ldN N → cN N 0 c < 16 := fun c hc => (ok16 o hc).1
  have f1 : ∀ c, c < ldN N → cN N 1 c < 16 := fun c hc => (ok16 o hc).2
  have lo := fdF_lo (a0 := cN N 0) (a1 := cN N 1) (g := spG N true (-1) (-1)) (n := ldN N) (x := y) 16 m
  obtain ⟨e, e16, fx⟩ := it_16 (lk := lkC (cN N 0) (cN N 1) (spG N true (-1) (-1)) (ldN N)) (it1_cnt hy)
  have a := it_fix fx (e := 16) (m := m) (by omega) hm
  rw [fd_le f0 f1 hy hm, fd_le f0 f1 hy hm] at a
  show fdF (cN N 0) (cN N 1) (spG N true (-1) (-1)) (ldN N) y 16 m ≤ 15
  by_cases q : fdF (cN N 0) (cN N 1) (spG N true (-1) (-1)) (ldN N) y 16 m = -1
  · omega
  · rw [decide_eq_true (by omega)] at a
    have := of_decide_eq_true a.symm
    omega
/-- the next node is the same -/
theorem next_eq (iv : INV N) {y m : Nat} {F B : Nat → Int} (hy : y < 16) (hm : m < 16) (my : m ≠ y) (hF : ∀ v, v < 16 → F v = fdN N true (-1) (-1) y v) (hB : byOK N (spG N true (-1) (-1)) F B) (hr : F m ≠ -1) : mwN N y 16 m = B m := by
  have o := INV_ok iv
  have tcl : ∀ v, v < 16 → (F v ≠ -1 ↔ clo (cN N 0) (cN N 1) (trN N) (ldN N) y v) := fun v hv => by
    rw [hF v hv, fdN_clo o hy hv]
    exact clo_cg (fun c _ => spG_t) y v
  obtain ⟨r, hw⟩ := mwN_I hy o 16
  have hmk := mw_all o hy ((tcl m hm).mp hr)
  obtain ⟨c', p', q1, q2, q3, q4, q5, q6⟩ := (hw.2 m hm hmk).2 my
  have lo := fdN_lo (N := N) (t := true) (but := -1) (shut := -1) (x := y) (m := m)
  have f0 : F m ≠ 0 := fun z => my ((fd_y o hy hm).mp (by rw [← hF m hm]; exact z))
  have fm := hF m hm
  obtain ⟨p, c, b1, b2, b3, b4, b5, b6⟩ := hB m hm (by omega)
  have tc : cN N 2 c = 0 := by
    rw [spG_t] at b4
    simpa [trN] using b4
  rw [q1, b1]
  have oc := o.2.1 c b3
  have oc' := o.2.1 c' q2
  by_cases cc : c = c'
  · subst cc
    have : p' = p := by omega
    rw [this]
  · exfalso
    have Zs : ∀ d, d < ldN N → cN N 2 d = 0 → cN N 0 d ≠ m → cN N 1 d ≠ m → twG N (c : Int) d = true := fun d hd td d0 d1 => by
      unfold twG trN
      rw [decide_eq_true td, Bool.true_and]
      refine decide_eq_true fun z => ?_
      obtain rfl : d = c := by omega
      omega
    have ch1 : ∀ (n v : Nat), r v ≤ n → v < 16 → mwN N y 16 v ≠ -1 → r v < r m → clo (cN N 0) (cN N 1) (twG N (c : Int)) (ldN N) y v := by
      intro n
      induction n with
      | zero =>
        intro v hn v16 hv lt
        by_cases e : v = y
        · rw [e]; exact clo_rf
        · obtain ⟨_, _, _, _, _, _, _, z⟩ := (hw.2 v v16 hv).2 e
          omega
      | succ n ih =>
        intro v hn v16 hv lt
        by_cases e : v = y
        · rw [e]; exact clo_rf
        · obtain ⟨d, u, z1, z2, z3, z4, z5, z6⟩ := (hw.2 v v16 hv).2 e
          have od := ok16 o z2
          have um : u ≠ m := fun z => by rw [z] at z6; omega
          have vm : v ≠ m := fun z => by rw [z] at lt; omega
          have i := ih u (by omega) (by omega) z5 (by omega)
          have g := Zs d z2 z3 (by omega) (by omega)
          rcases z4 with w | w
          · rw [← w.2]; rw [← w.1] at i
            exact (clo_st z2 g).mp i
          · rw [← w.2]; rw [← w.1] at i
            exact (clo_st z2 g).mpr i
    have ch2 : ∀ (n v : Nat), v < 16 → F v = (n : Int) → F v < F m → clo (cN N 0) (cN N 1) (twG N (c : Int)) (ldN N) y v := by
      intro n
      induction n with
      | zero =>
        intro v v16 e lt
        rw [(fd_y o hy v16).mp (by rw [← hF v v16]; omega)]
        exact clo_rf
      | succ n ih =>
        intro v v16 e lt
        obtain ⟨u, d, z1, z2, z3, z4, z5, z6⟩ := hB v v16 (by omega)
        have td : cN N 2 d = 0 := by
          rw [spG_t] at z4
          simpa [trN] using z4
        have um : u ≠ m := fun z => by rw [z] at z6; omega
        have vm : v ≠ m := fun z => by rw [z] at lt; omega
        have i := ih u z2 (by omega) (by omega)
        have g := Zs d z3 td (by omega) (by omega)
        rcases z5 with w | w
        · rw [← w.2]; rw [← w.1] at i
          exact (clo_st z3 g).mp i
        · rw [← w.2]; rw [← w.1] at i
          exact (clo_st z3 g).mpr i
    have o16 := ok16 o q2
    have yp' := ch1 (r p') p' (Nat.le_refl _) (by omega) q5 q6
    have yp := ch2 (F p).toNat p b2 (by omega) (by omega)
    have g' : twG N (c : Int) c' = true := by
      unfold twG trN
      rw [decide_eq_true q3, Bool.true_and]
      exact decide_eq_true fun z => cc (by omega)
    have ym : clo (cN N 0) (cN N 1) (twG N (c : Int)) (ldN N) y m := by
      rcases q4 with w | w
      · rw [← w.2]; rw [← w.1] at yp'
        exact (clo_st q2 g').mp yp'
      · rw [← w.2]; rw [← w.1] at yp'
        exact (clo_st q2 g').mpr yp'
    refine tr_bridge iv b3 tc ?_
    rcases b5 with w | w
    · rw [w.1, w.2]
      exact clo_tr (clo_sy yp) ym
    · rw [w.1, w.2]
      exact clo_tr (clo_sy ym) yp
/-- both ways the same -/
theorem way_eq (iv : INV N) {x y : Nat} {j : Int} {F B : Nat → Int} (hx : x < 16) (hy : y < 16) (hF : ∀ v, v < 16 → F v = fdN N true (-1) (-1) y v) (hB : byOK N (spG N true (-1) (-1)) F B) : (if j = -1 then wyL N x y else wyK N x y j) = wyR F B x j := by
  have o := INV_ok iv
  have lo := fdN_lo (N := N) (t := true) (but := -1) (shut := -1) (x := y) (m := x)
  have hi := fd_15 o hy hx
  rw [← hF x hx] at lo hi
  have same : ∀ e : Nat, (e : Int) ≤ F x → wyA (mwN N y 16) (x : Int) e = wyA B (x : Int) e := by
    intro e
    induction e with
    | zero => intro _; rfl
    | succ e ih =>
      intro he
      have i := ih (by omega)
      obtain ⟨p, p1, p2, p3⟩ := by_way hB hx e (by omega)
      rw [wyA, wyA, i, p2, if_neg (by omega), if_neg (by omega), Int.toNat_natCast]
      refine next_eq iv hy p1 (fun z => ?_) hF hB (by omega)
      have := (fd_y o hy p1).mpr z
      rw [← hF p p1] at this
      omega
  have len : wyL N x y = F x := by
    by_cases q : F x = -1
    · rw [q]
      refine fsI_no fun i hi' => decide_eq_false fun z => ?_
      have none : ∀ e, wyA (mwN N y 16) (x : Int) e = -1 ∨ ∃ p : Nat, p < 16 ∧ wyA (mwN N y 16) (x : Int) e = (p : Int) ∧ F p = -1 := by
        intro e
        induction e with
        | zero => exact Or.inr ⟨x, hx, rfl, q⟩
        | succ e ih =>
          rcases ih with z | ⟨p, p1, p2, p3⟩
          · left; rw [wyA, if_pos z]
          · rw [wyA, p2, if_neg (by omega), Int.toNat_natCast]
            by_cases w : mwN N y 16 p = -1
            · exact Or.inl w
            · exfalso
              obtain ⟨r, hw⟩ := mwN_I hy o 16
              have reach : ∀ (n v : Nat), r v ≤ n → v < 16 → mwN N y 16 v ≠ -1 → clo (cN N 0) (cN N 1) (trN N) (ldN N) y v := by
                intro n
                induction n with
                | zero =>
                  intro v hn v16 hv
                  by_cases e : v = y
                  · rw [e]; exact clo_rf
                  · obtain ⟨_, _, _, _, _, _, _, z⟩ := (hw.2 v v16 hv).2 e
                    omega
                | succ n ih =>
                  intro v hn v16 hv
                  by_cases e : v = y
                  · rw [e]; exact clo_rf
                  · obtain ⟨d, u, z1, z2, z3, z4, z5, z6⟩ := (hw.2 v v16 hv).2 e
                    have od := ok16 o z2
                    have i := ih u (by omega) (by omega) z5
                    have g : trN N d = true := by simp [trN, z3]
                    rcases z4 with w | w
                    · rw [← w.2]; rw [← w.1] at i
                      exact (clo_st z2 g).mp i
                    · rw [← w.2]; rw [← w.1] at i
                      exact (clo_st z2 g).mpr i
              have c1 := reach (r p) p (Nat.le_refl _) p1 w
              have c2 := (fdN_clo o (t := true) (but := -1) (shut := -1) hy p1).mpr ((clo_cg (fun c _ => spG_t) y p).mpr c1)
              rw [← hF p p1] at c2
              exact c2 p3
      rcases none i with w | ⟨p, p1, p2, p3⟩
      · rw [w] at z; omega
      · rw [p2] at z
        have : p = y := by omega
        have := (fd_y o hy p1).mpr this
        rw [← hF p p1] at this
        omega
    · have fe : F x = ((F x).toNat : Int) := by omega
      rw [fe]
      refine fsI_at (by omega) (fun e he => decide_eq_false fun z => ?_) (decide_eq_true ?_)
      · obtain ⟨p, p1, p2, p3⟩ := by_way hB hx e (by omega)
        rw [same e (by omega), p2] at z
        have := (fd_y o hy p1).mpr (by omega : p = y)
        rw [← hF p p1] at this
        omega
      · obtain ⟨p, p1, p2, p3⟩ := by_way hB hx (F x).toNat (by omega)
        rw [same _ (by omega), p2]
        have := (fd_y o hy p1).mp (by rw [← hF p p1]; omega)
        rw [this]
  unfold wyR wyK
  rw [len]
  by_cases q1 : j = -1
  · rw [if_pos q1, if_pos (Or.inl q1)]
  · rw [if_neg q1]
    by_cases q2 : F x = -1
    · rw [if_pos (Or.inr q2), if_pos (by omega), q2]
    · rw [if_neg (show ¬ (j = -1 ∨ F x = -1) from fun z => z.elim q1 q2)]
      by_cases q3 : 0 ≤ j ∧ j ≤ F x
      · rw [if_pos q3, if_neg (show ¬ (j < 0 ∨ F x < j) by omega)]
        exact same _ (by omega)
      · rw [if_neg q3, if_pos (show j < 0 ∨ F x < j by omega)]
end WEQ
