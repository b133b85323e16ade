/-! BRACKETS open behind a stretch of a tour, in their order -/
def opn (l : List Int) : List Int := l.filter (fun v => decide (100 ≤ v) && decide (l.count v = 1))
theorem opn_mem {l : List Int} {v : Int} : v ∈ opn l ↔ 100 ≤ v ∧ l.count v = 1 := by
  unfold opn
  rw [List.mem_filter, Bool.and_eq_true, decide_eq_true_eq, decide_eq_true_eq]
  exact ⟨fun z => z.2, fun z => ⟨List.count_pos_iff.mp (by omega), z⟩⟩
theorem ct_sn {l : List Int} {v w : Int} (h : w ≠ v) : (l ++ [v]).count w = l.count w := by
  rw [List.count_append, List.count_cons_of_ne (Ne.symm h)]
  simp
theorem ct_ss {l : List Int} {v : Int} : (l ++ [v]).count v = l.count v + 1 := by
  rw [List.count_append, List.count_cons_self]
  simp
theorem om_bit : ∀ {l : List Int} {c : Nat}, (om l).testBit c = decide (l.count (100 + (c : Int)) % 2 = 1)
  | [], c => by simp [om]
  | v :: l, c => by
    have ih := om_bit (l := l) (c := c)
    unfold om
    by_cases q : 100 ≤ v
    · rw [if_pos q, Nat.testBit_xor, Nat.testBit_two_pow, ih]
      by_cases e : v = 100 + (c : Int)
      · subst e
        rw [List.count_cons_self, show ((100 + (c : Int) - 100).toNat = c) by omega]
        rcases Nat.mod_two_eq_zero_or_one (List.count (100 + (c : Int)) l) with z | z
        · rw [z, show (List.count (100 + (c : Int)) l + 1) % 2 = 1 by omega]
          simp
        · rw [z, show (List.count (100 + (c : Int)) l + 1) % 2 = 0 by omega]
          simp
      · rw [List.count_cons_of_ne e, decide_eq_false (show ¬ (v - 100).toNat = c by omega)]
        simp
    · rw [if_neg q, ih, List.count_cons_of_ne (by omega)]
def lstC (o : List Int) : Int := match o.reverse with
  | [] => -1
  | v :: _ => v - 100
theorem lst_nil : lstC [] = -1 := rfl
theorem lst_snoc (o : List Int) (v : Int) : lstC (o ++ [v]) = v - 100 := by
  unfold lstC
  rw [List.reverse_append]
  rfl
theorem inn_flt (M : Nat) : ∀ l : List Int, inn M l = lstC ((l.filter (fun v => decide (100 ≤ v) && M.testBit (v - 100).toNat)).reverse)
  | [] => rfl
  | v :: l => by
    rw [inn]
    by_cases q : 100 ≤ v ∧ M.testBit (v - 100).toNat = true
    · rw [if_pos q, List.filter_cons_of_pos (by simp [q.1, q.2]), List.reverse_cons, lst_snoc]
    · rw [if_neg q, List.filter_cons_of_neg (by
        intro z
        rw [Bool.and_eq_true, decide_eq_true_eq] at z
        exact q z), inn_flt M l]
theorem inn_opn {l : List Int} (h : ∀ v, 100 ≤ v → l.count v ≤ 2) : inn (om l) l.reverse = lstC (opn l) := by
  rw [inn_flt, List.filter_reverse, List.reverse_reverse]
  unfold opn
  congr 1
  refine List.filter_congr fun v hv => ?_
  by_cases q : 100 ≤ v
  · rw [decide_eq_true q, Bool.true_and, Bool.true_and, om_bit, show (100 + ((v - 100).toNat : Int)) = v by omega]
    have := h v q
    have := List.count_pos_iff.mpr hv
    exact decide_eq_decide.mpr (by omega)
  · rw [decide_eq_false q]
    rfl
section OPN
variable {e0 e1 : Nat → Nat} {t : List Int}
theorem gT_2 (g : gT e0 e1 t) (v : Int) (hv : 100 ≤ v) : t.count v ≤ 2 := by
  obtain ⟨c, rfl⟩ : ∃ c : Nat, v = 100 + (c : Int) := ⟨(v - 100).toNat, by omega⟩
  by_cases q : (100 + (c : Int)) ∈ t
  · rw [(g.2.1 c q).1]; omega
  · rw [cnt0 q]; omega
theorem opn_node {l : List Int} {v : Int} (h : v < 100) : opn (l ++ [v]) = opn l := by
  unfold opn
  rw [List.filter_append, List.filter_cons_of_neg (by rw [decide_eq_false (by omega)]; simp), List.filter_nil, List.append_nil]
  refine List.filter_congr fun w _ => ?_
  by_cases q : 100 ≤ w
  · rw [ct_sn (by omega)]
  · rw [decide_eq_false q]; rfl
theorem opn_open {l : List Int} {v : Int} (h : 100 ≤ v) (hn : v ∉ l) : opn (l ++ [v]) = opn l ++ [v] := by
  unfold opn
  rw [List.filter_append, List.filter_cons_of_pos (by rw [ct_ss, cnt0 hn]; simp [h]), List.filter_nil]
  congr 1
  refine List.filter_congr fun w hw => ?_
  rw [ct_sn (fun z => hn (by rw [← z]; exact hw))]
theorem opn_close {l r : List Int} {v : Int} (g : gT e0 e1 (l ++ v :: r)) (h : 100 ≤ v) (hm : v ∈ l) : opn l = opn (l ++ [v]) ++ [v] := by
  obtain ⟨c, rfl⟩ : ∃ c : Nat, v = 100 + (c : Int) := ⟨(v - 100).toNat, by omega⟩
  have c2 := (g.2.1 c (by simp)).1
  rw [List.count_append, List.count_cons_self] at c2
  have l1 := List.count_pos_iff.mpr hm
  obtain ⟨a, b, rfl, ha, hb⟩ := spl11 (show l.count (100 + (c : Int)) = 1 by omega)
  have hr : (100 + (c : Int)) ∉ r := fun z => by
    have := List.count_pos_iff.mpr z
    omega
  have eI : inL (a ++ (100 + (c : Int)) :: b ++ (100 + (c : Int)) :: r) (100 + (c : Int)) = b := by
    rw [List.append_assoc, List.cons_append]
    exact inL_eq ha hb
  have eO : outL (a ++ (100 + (c : Int)) :: b ++ (100 + (c : Int)) :: r) (100 + (c : Int)) = a ++ r := by
    rw [List.append_assoc, List.cons_append]
    exact outL_eq ha hb
  have noB : ∀ w, w ∈ b → 100 ≤ w → (a ++ (100 + (c : Int)) :: b).count w ≠ 1 := fun w hw w1 w2 => by
    obtain ⟨d, rfl⟩ : ∃ d : Nat, w = 100 + (d : Int) := ⟨(w - 100).toNat, by omega⟩
    have dm : (100 + (d : Int)) ∈ a ++ (100 + (c : Int)) :: b ++ (100 + (c : Int)) :: r := by simp [hw]
    have ne : (100 + (d : Int)) ≠ 100 + (c : Int) := fun z => by rw [z] at hw; exact hb hw
    have d2 := (g.2.1 d dm).1
    rw [List.count_append, w2, List.count_cons_of_ne (Ne.symm ne)] at d2
    have dr : (100 + (d : Int)) ∈ r := List.count_pos_iff.mp (by omega)
    have := (g.2.2.1 d c (by omega) dm (by simp)).1
    rw [eI, eO] at this
    exact this ⟨hw, by simp [dr]⟩
  unfold opn
  have f1 : List.filter (fun v => decide (100 ≤ v) && decide ((a ++ (100 + (c : Int)) :: b).count v = 1)) b = [] := by
    rw [List.filter_eq_nil_iff]
    intro w hw z
    rw [Bool.and_eq_true, decide_eq_true_eq, decide_eq_true_eq] at z
    exact noB w hw z.1 z.2
  have f2 : List.filter (fun v => decide (100 ≤ v) && decide ((a ++ (100 + (c : Int)) :: b ++ [100 + (c : Int)]).count v = 1)) b = [] := by
    rw [List.filter_eq_nil_iff]
    intro w hw z
    rw [Bool.and_eq_true, decide_eq_true_eq, decide_eq_true_eq] at z
    have ne : w ≠ 100 + (c : Int) := fun z => by rw [z] at hw; exact hb hw
    rw [ct_sn ne] at z
    exact noB w hw z.1 z.2
  have cc : (a ++ (100 + (c : Int)) :: b).count (100 + (c : Int)) = 1 := by omega
  rw [List.filter_append, List.filter_cons_of_pos (by rw [cc]; simp; omega), f1]
  rw [List.filter_append, List.filter_append, List.filter_cons_of_neg (by rw [ct_ss, cc]; simp), f2, List.filter_cons_of_neg (by rw [ct_ss, cc]; simp), List.filter_nil, List.append_nil, List.append_nil]
  congr 1
  refine List.filter_congr fun w hw => ?_
  rw [ct_sn (fun z => ha (by rw [← z]; exact hw))]
theorem opn_len {l r : List Int} : ∀ (n : Nat) (l r : List Int), l.length = n → gT e0 e1 (l ++ r) → okT l → (opn l).length = cnt (fun c => (om l).testBit c) 64
  | 0, l, r, hn, _, _ => by
    rw [List.length_eq_zero_iff.mp hn]
    decide
  | n + 1, l, r, hn, g, ok => by
    obtain ⟨l', v, rfl⟩ : ∃ l' v, l = l' ++ [v] := by
      rcases List.eq_nil_or_concat l with z | ⟨l', v, z⟩
      · rw [z] at hn; cases hn
      · exact ⟨l', v, by rw [z, List.concat_eq_append]⟩
    rw [List.append_assoc] at g
    have g' : gT e0 e1 (l' ++ v :: r) := g
    have ih := opn_len (l := l') (r := v :: r) n l' (v :: r) (by simpa using hn) g' (fun w hw => ok w (by simp [hw]))
    rcases ok v (by simp) with q | q
    · rw [opn_node (by omega), ih]
      refine cnt_congr fun c _ => ?_
      rw [om_bit, om_bit, ct_sn (by omega)]
    · obtain ⟨c, rfl⟩ : ∃ c : Nat, v = 100 + (c : Int) := ⟨(v - 100).toNat, by omega⟩
      have oth : ∀ d : Nat, d ≠ c → (om (l' ++ [100 + (c : Int)])).testBit d = (om l').testBit d := fun d hd => by rw [om_bit, om_bit, ct_sn (by omega)]
      by_cases m : (100 + (c : Int)) ∈ l'
      · have c2 := (g'.2.1 c (by simp)).1
        rw [List.count_append, List.count_cons_self] at c2
        have l1 := List.count_pos_iff.mpr m
        have cl := opn_close g' (by omega) m
        have len : (opn l').length = (opn (l' ++ [100 + (c : Int)])).length + 1 := by rw [cl, List.length_append]; rfl
        have := cnt_us (p := fun d => (om (l' ++ [100 + (c : Int)])).testBit d) (q := fun d => (om l').testBit d) (n := 64) (j := c) (by omega) (by
          show (om (l' ++ [100 + (c : Int)])).testBit c = false
          rw [om_bit, ct_ss]
          exact decide_eq_false (by omega)) (fun d => by
          by_cases e : d = c
          · subst e
            show (om l').testBit d = (_ || decide (d = d))
            rw [om_bit, decide_eq_true (by omega)]
            simp
          · show (om l').testBit d = ((om (l' ++ [100 + (c : Int)])).testBit d || decide (d = c))
            rw [oth d e, decide_eq_false e, Bool.or_false])
        omega
      · have len : (opn (l' ++ [100 + (c : Int)])).length = (opn l').length + 1 := by rw [opn_open (by omega) m, List.length_append]; rfl
        have := cnt_us (p := fun d => (om l').testBit d) (q := fun d => (om (l' ++ [100 + (c : Int)])).testBit d) (n := 64) (j := c) (by omega) (by
          show (om l').testBit c = false
          rw [om_bit, cnt0 m]
          rfl) (fun d => by
          by_cases e : d = c
          · subst e
            show (om (l' ++ [100 + (d : Int)])).testBit d = (_ || decide (d = d))
            rw [om_bit, ct_ss, cnt0 m]
            simp
          · show (om (l' ++ [100 + (c : Int)])).testBit d = ((om l').testBit d || decide (d = c))
            rw [oth d e, decide_eq_false e, Bool.or_false])
        omega
/-- the brackets round a node -/
theorem in_opn {t1 t2 : List Int} {x B : Int} (h2 : (t1 ++ x :: t2).count B = 2) (hB : 100 ≤ B) (hx : x < 100) (n1 : x ∉ t1) (n2 : x ∉ t2) : x ∈ inL (t1 ++ x :: t2) B ↔ B ∈ opn t1 := by
  rw [opn_mem]
  have xB : x ≠ B := by omega
  have h2' := h2
  rw [List.count_append, List.count_cons_of_ne xB] at h2'
  have hc : t1.count B = 0 ∨ t1.count B = 1 ∨ t1.count B = 2 := by omega
  rcases hc with c | c | c
  · obtain ⟨p, m, q, rfl, hp, hm, hq⟩ := spl2 (t := t2) (B := B) (by omega)
    have : inL (t1 ++ x :: (p ++ B :: (m ++ B :: q))) B = m := by
      rw [show t1 ++ x :: (p ++ B :: (m ++ B :: q)) = (t1 ++ x :: p) ++ B :: (m ++ B :: q) by simp]
      exact inL_eq (by
        have := List.count_eq_zero.mp c
        simp [this, hp, Ne.symm xB]) hm
    rw [this, c]
    constructor
    · intro z; exact absurd (by simp [z]) n2
    · intro z; omega
  · obtain ⟨a, b, rfl, ha, hb⟩ := spl11 c
    obtain ⟨a', b', rfl, ha', hb'⟩ := spl11 (t := t2) (B := B) (by omega)
    have : inL (a ++ B :: b ++ x :: (a' ++ B :: b')) B = b ++ x :: a' := by
      rw [show a ++ B :: b ++ x :: (a' ++ B :: b') = a ++ B :: ((b ++ x :: a') ++ B :: b') by simp]
      exact inL_eq ha (by simp [hb, ha', Ne.symm xB])
    rw [this, c]
    constructor
    · intro _; exact ⟨hB, rfl⟩
    · intro _; simp
  · obtain ⟨p, m, q, rfl, hp, hm, hq⟩ := spl2 c
    have : inL ((p ++ B :: (m ++ B :: q)) ++ x :: t2) B = m := by
      rw [show (p ++ B :: (m ++ B :: q)) ++ x :: t2 = p ++ B :: (m ++ B :: (q ++ x :: t2)) by simp]
      exact inL_eq hp hm
    rw [this, c]
    constructor
    · intro z; exact absurd (by simp [z]) n1
    · intro z; omega
theorem lst_in {t1 t2 O : List Int} {x C D : Int} (g2 : ∀ v, 100 ≤ v → v ∈ t1 ++ x :: t2 → (t1 ++ x :: t2).count v = 2) (hx : x < 100) (ho : opn t1 = O ++ [C]) (hD : D ∈ O) (hne : D ≠ C) : C ∈ inL (t1 ++ x :: t2) D := by
  have mC := opn_mem.mp (show C ∈ opn t1 by rw [ho]; simp)
  have mD := opn_mem.mp (show D ∈ opn t1 by rw [ho]; simp [hD])
  obtain ⟨a, b, e, ha, hb⟩ := spl11 mC.2
  have Da : D ∈ a := by
    have d1 : D ∈ t1 := List.count_pos_iff.mp (by omega)
    rw [e] at d1
    rcases List.mem_append.mp d1 with z | z
    · exact z
    · exfalso
      have Db : D ∈ b := by
        rcases List.mem_cons.mp z with y | y
        · exact absurd y hne
        · exact y
      -- D stands behind C, so C is not the last one
      have : opn t1 = a.filter (fun v => decide (100 ≤ v) && decide (t1.count v = 1)) ++ C :: b.filter (fun v => decide (100 ≤ v) && decide (t1.count v = 1)) := by
        have z1 : opn t1 = (a ++ C :: b).filter (fun v => decide (100 ≤ v) && decide (t1.count v = 1)) := by
          show t1.filter _ = _
          rw [← e]
        rw [z1, List.filter_append, List.filter_cons_of_pos (by simp [mC.1, mC.2])]
      have fb : D ∈ b.filter (fun v => decide (100 ≤ v) && decide (t1.count v = 1)) := List.mem_filter.mpr ⟨Db, by simp [mD.1, mD.2]⟩
      obtain ⟨u, w, eu, _⟩ := spl1 fb
      rw [ho, eu] at this
      have rev := congrArg List.reverse this
      simp only [List.reverse_append, List.reverse_cons, List.reverse_nil, List.nil_append, List.cons_append, List.append_assoc] at rev
      have inb : C ∈ b := by
        cases hw : w.reverse with
        | nil =>
          rw [hw] at rev
          simp only [List.nil_append] at rev
          injection rev with r1 _
          exact absurd r1.symm hne
        | cons y ys =>
          rw [hw] at rev
          simp only [List.cons_append] at rev
          injection rev with r1 _
          have : y ∈ w := List.mem_reverse.mp (by rw [hw]; simp)
          have : y ∈ b.filter (fun v => decide (100 ≤ v) && decide (t1.count v = 1)) := by rw [eu]; simp [this]
          rw [r1]
          exact (List.mem_filter.mp this).1
      exact hb inb
  obtain ⟨a1, a2, ea, h1, h2⟩ := spl11 (t := a) (B := D) (by
    have z := mD.2
    rw [e, List.count_append] at z
    have := List.count_pos_iff.mpr Da
    omega)
  have Db : D ∉ b := fun z => by
    have y := mD.2
    rw [e, List.count_append, List.count_cons_of_ne (Ne.symm hne)] at y
    have := List.count_pos_iff.mpr Da
    have := List.count_pos_iff.mpr z
    omega
  have d2 := g2 D mD.1 (by rw [e]; simp [Da])
  rw [List.count_append, mD.2, List.count_cons_of_ne (by omega)] at d2
  obtain ⟨u, w, eu, hu, hw⟩ := spl11 (t := t2) (B := D) (by omega)
  have xD : D ≠ x := by omega
  rw [e, ea, eu]
  rw [show (a1 ++ D :: a2) ++ C :: b ++ x :: (u ++ D :: w) = a1 ++ D :: ((a2 ++ C :: (b ++ x :: u)) ++ D :: w) by simp]
  rw [inL_eq h1 (by simp [h2, hne, Db, xD, hu])]
  simp
end OPN
