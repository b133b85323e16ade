/-! THE CLASS's tours on a level: a list of them, each once -/
def tsR (n : Nat) (T : Nat → List Int) (ts : List (List Int)) : Prop := ts.Nodup ∧ ∀ t, t ∈ ts ↔ ∃ m, m < n ∧ t = T m
section TS
variable {e0 e1 : Nat → Nat} {K : Nat → Prop} {T : Nat → List Int} {n : Nat} {ts : List (List Int)}
theorem ts_find (f : FL e0 e1 K T) (hn : n ≤ 16) (h : tsR n T ts) {x : Nat} (hx : x < n) : ∃ X Z, ts = X ++ T x :: Z ∧ (∀ t ∈ X, (x : Int) ∉ t) ∧ ∀ t ∈ Z, (x : Int) ∉ t := by
  obtain ⟨X, Z, e⟩ := List.append_of_mem ((h.2 (T x)).mpr ⟨x, hx, rfl⟩)
  have nd := h.1
  rw [e] at nd
  have nd2 := List.nodup_append.mp nd
  have key : ∀ t, t ∈ ts → t ≠ T x → (x : Int) ∉ t := by
    intro t ht hne hxt
    obtain ⟨m, hm, rfl⟩ := (h.2 t).mp ht
    exact hne ((f.1 m (by omega)).2.2.2.1 x (by omega) hxt).symm
  refine ⟨X, Z, e, fun t ht => key t (by rw [e]; simp [ht]) (fun q => ?_), fun t ht => key t (by rw [e]; simp [ht]) (fun q => ?_)⟩
  · exact nd2.2.2 t ht (T x) (by simp) q
  · exact (List.nodup_cons.mp nd2.2.1).1 (q ▸ ht)
/-- the lengths, all together -/
theorem ts_len (f : FL e0 e1 K T) (hn : n ≤ 16) (hin : ∀ m j : Nat, m < n → j < 16 → (j : Int) ∈ T m → j < n) (h : tsR n T ts) : (fla ts).length + ts.length = 3 * n := by
  have gen : ∀ L : List (List Int), L.Nodup → (∀ t ∈ L, ∃ m, m < n ∧ t = T m) → (fla L).length + L.length = 3 * nds (L.flatten) := by
    intro L
    induction L with
    | nil =>
      intro _ _
      have : nds ([] : List Int) = 0 := by decide
      simp [fla, this]
    | cons t L ih =>
      intro nd hL
      obtain ⟨nd1, nd2⟩ := List.nodup_cons.mp nd
      have i := ih nd2 (fun s hs => hL s (List.mem_cons_of_mem _ hs))
      obtain ⟨m, hm, rfl⟩ := hL t List.mem_cons_self
      have l := (f.1 m (by omega)).2.2.2.2
      have o := nds_or (t := ((T m) :: L).flatten) (a := T m) (b := L.flatten) (fun j hj z => by
        obtain ⟨s, hs, hjs⟩ := List.mem_flatten.mp z.2
        obtain ⟨m', hm', rfl⟩ := hL s (List.mem_cons_of_mem _ hs)
        have := FL_one f (show m < 16 by omega) (show m' < 16 by omega) hj z.1 hjs
        exact nd1 (this ▸ hs)) (fun j _ => by rw [List.flatten_cons, List.mem_append])
      rw [fla_cons]
      simp only [List.length_append, List.length_cons, List.length_nil]
      omega
  have g := gen ts h.1 (fun t ht => (h.2 t).mp ht)
  have : nds ts.flatten = n := by
    unfold nds
    have e : cnt (fun m => decide ((m : Int) ∈ ts.flatten)) 16 = cnt (fun m => decide (m < n) && true) 16 := cnt_congr (fun j hj => by
      have : (j : Int) ∈ ts.flatten ↔ j < n := by
        rw [List.mem_flatten]
        constructor
        · rintro ⟨t, ht, hjt⟩
          obtain ⟨m, hm, rfl⟩ := (h.2 t).mp ht
          exact hin m j hm hj hjt
        · intro hjn
          exact ⟨T j, (h.2 _).mpr ⟨j, hjn, rfl⟩, (f.1 j hj).2.2.1⟩
      simp [this])
    rw [e, cnt_pad (fun _ => true) n 16 hn]
    have : ∀ k, cnt (fun _ => true) k = k := by
      intro k
      induction k with
      | zero => rfl
      | succ k ih => rw [cnt_s, ih]; rfl
    exact this n
  omega
theorem ts_pos (h : tsR n T ts) (hn : 0 < n) : 0 < ts.length := List.length_pos_of_mem ((h.2 (T 0)).mpr ⟨0, hn, rfl⟩)
/-- two tours of the list -/
theorem ts_two (f : FL e0 e1 K T) (hn : n ≤ 16) (h : tsR n T ts) {x y : Nat} (hx : x < n) (hy : y < n) (hne : (y : Int) ∉ T x) : ∃ X Y Z, (ts = X ++ T x :: (Y ++ T y :: Z) ∨ ts = X ++ T y :: (Y ++ T x :: Z)) ∧ (∀ t ∈ X ++ Y ++ Z, (x : Int) ∉ t) ∧ (∀ t ∈ X ++ Y ++ Z, (y : Int) ∉ t) ∧ 2 ≤ ts.length := by
  obtain ⟨X, Z, e, hX, hZ⟩ := ts_find f hn h hx
  have xy : T y ≠ T x := fun q => hne (q ▸ (f.1 y (by omega)).2.2.1)
  have my : T y ∈ X ∨ T y ∈ Z := by
    have := (h.2 (T y)).mpr ⟨y, hy, rfl⟩
    rw [e] at this
    rcases List.mem_append.mp this with q | q
    · exact Or.inl q
    · rcases List.mem_cons.mp q with q | q
      · exact absurd q xy
      · exact Or.inr q
  have ky : ∀ t, t ∈ ts → t ≠ T y → (y : Int) ∉ t := by
    intro t ht hne hxt
    obtain ⟨m, hm, rfl⟩ := (h.2 t).mp ht
    exact hne ((f.1 m (by omega)).2.2.2.1 y (by omega) hxt).symm
  rcases my with q | q
  · obtain ⟨P, Q, eX⟩ := List.append_of_mem q
    subst eX
    have e' : ts = P ++ T y :: (Q ++ T x :: Z) := by rw [e]; simp
    have nd := h.1
    rw [e'] at nd
    have nd2 := List.nodup_append.mp nd
    have nd3 := List.nodup_cons.mp nd2.2.1
    refine ⟨P, Q, Z, Or.inr e', fun t ht => ?_, fun t ht => ky t (by rw [e']; simp only [List.mem_append, List.mem_cons] at ht ⊢; rcases ht with (ht | ht) | ht <;> simp [ht]) (fun eq => ?_), by rw [e']; simp; omega⟩
    · simp only [List.mem_append] at ht
      rcases ht with (ht | ht) | ht
      · exact hX t (by simp [ht])
      · exact hX t (by simp [ht])
      · exact hZ t ht
    · simp only [List.mem_append] at ht
      rcases ht with (ht | ht) | ht
      · exact nd2.2.2 t ht (T y) (by simp) eq
      · exact nd3.1 (by rw [← eq]; simp [ht])
      · exact nd3.1 (by rw [← eq]; simp [ht])
  · obtain ⟨P, Q, eZ⟩ := List.append_of_mem q
    subst eZ
    have nd := h.1
    rw [e] at nd
    have nd2 := List.nodup_append.mp nd
    have nd3 := List.nodup_cons.mp nd2.2.1
    have nd4 := List.nodup_append.mp nd3.2
    have nd5 := List.nodup_cons.mp nd4.2.1
    refine ⟨X, P, Q, Or.inl e, fun t ht => ?_, fun t ht => ky t (by rw [e]; simp only [List.mem_append, List.mem_cons] at ht ⊢; rcases ht with (ht | ht) | ht <;> simp [ht]) (fun eq => ?_), by rw [e]; simp; omega⟩
    · simp only [List.mem_append] at ht
      rcases ht with (ht | ht) | ht
      · exact hX t ht
      · exact hZ t (by simp [ht])
      · exact hZ t (by simp [ht])
    · simp only [List.mem_append] at ht
      rcases ht with (ht | ht) | ht
      · exact nd2.2.2 t ht (T y) (by simp) eq
      · exact nd4.2.2 t ht (T y) (by simp) eq
      · exact nd5.1 (eq ▸ ht)
/-- the list behind a join -/
theorem ts_join (f : FL e0 e1 K T) (hn : n ≤ 16) (h : tsR n T ts) {c x y : Nat} (hx : x < n) (hy : y < n) {X Y Z : List (List Int)} (e : ts = X ++ T x :: (Y ++ T y :: Z) ∨ ts = X ++ T y :: (Y ++ T x :: Z)) (nx : ∀ t ∈ X ++ Y ++ Z, (x : Int) ∉ t) (ny : ∀ t ∈ X ++ Y ++ Z, (y : Int) ∉ t) : tsR n (ly1 T (jw1 T c x y)) (X ++ Y ++ Z ++ [jw1 T c x y]) := by
  have mem := jw1_mem (c := c) f (show x < 16 by omega) (show y < 16 by omega)
  have sub : ∀ t, t ∈ X ++ Y ++ Z → t ∈ ts := by
    intro t ht
    simp only [List.mem_append] at ht
    rcases e with e | e <;> rw [e] <;> simp only [List.mem_append, List.mem_cons] <;> rcases ht with (ht | ht) | ht <;> simp [ht]
  have nin : ∀ m : Nat, m < n → T m ∈ X ++ Y ++ Z → (m : Int) ∉ jw1 T c x y := by
    intro m hm ht hw
    rcases (mem _).mp hw with z | z | z
    · have := (f.1 x (by omega)).2.2.2.1 m (by omega) z
      exact nx _ ht (by rw [this]; exact (f.1 x (by omega)).2.2.1)
    · have := (f.1 y (by omega)).2.2.2.1 m (by omega) z
      exact ny _ ht (by rw [this]; exact (f.1 y (by omega)).2.2.1)
    · omega
  have xw : (x : Int) ∈ jw1 T c x y := (mem _).mpr (Or.inl (f.1 x (by omega)).2.2.1)
  refine ⟨?_, fun t => ?_⟩
  · have nd := h.1
    have nd' : (X ++ Y ++ Z).Nodup := by
      refine List.Sublist.nodup ?_ nd
      rcases e with e | e
      · rw [e, List.append_assoc]
        exact List.Sublist.append_left ((List.Sublist.append_left (List.sublist_cons_self _ _) Y).trans (List.sublist_cons_self _ _)) X
      · rw [e, List.append_assoc]
        exact List.Sublist.append_left ((List.Sublist.append_left (List.sublist_cons_self _ _) Y).trans (List.sublist_cons_self _ _)) X
    refine List.nodup_append.mpr ⟨nd', by simp, fun a ha b hb eq => ?_⟩
    rw [List.mem_singleton.mp hb] at eq
    rw [eq] at ha
    exact nx _ ha xw
  · rw [List.mem_append, List.mem_singleton]
    unfold ly1
    constructor
    · rintro (ht | rfl)
      · obtain ⟨m, hm, rfl⟩ := (h.2 t).mp (sub t ht)
        exact ⟨m, hm, by rw [if_neg (nin m hm ht)]⟩
      · exact ⟨x, hx, by rw [if_pos xw]⟩
    · rintro ⟨m, hm, rfl⟩
      by_cases q : (m : Int) ∈ jw1 T c x y
      · rw [if_pos q]; exact Or.inr rfl
      · rw [if_neg q]
        left
        have ht := (h.2 (T m)).mpr ⟨m, hm, rfl⟩
        have n1 : T m ≠ T x := fun w => q ((mem _).mpr (Or.inl (w ▸ (f.1 m (by omega)).2.2.1)))
        have n2 : T m ≠ T y := fun w => q ((mem _).mpr (Or.inr (Or.inl (w ▸ (f.1 m (by omega)).2.2.1))))
        rcases e with e | e <;> rw [e] at ht <;> simp only [List.mem_append, List.mem_cons, n1, n2, false_or] at ht ⊢ <;> rcases ht with ht | ht | ht <;> simp [ht]
/-- the list behind a split -/
theorem ts_split (f : FL e0 e1 K T) (hn : n ≤ 16) (hin : ∀ m j : Nat, m < n → j < 16 → (j : Int) ∈ T m → j < n) (h : tsR n T ts) {c x : Nat} (ex : e0 c = x) (hc : K c) (hx : x < n) {X Z : List (List Int)} (e : ts = X ++ T x :: Z) (nX : ∀ t ∈ X, (x : Int) ∉ t) (nZ : ∀ t ∈ Z, (x : Int) ∉ t) : tsR n (ly1 (ly1 T (outL (T x) (100 + (c : Int)))) (inL (T x) (100 + (c : Int)))) (X ++ Z ++ [inL (T x) (100 + (c : Int)), outL (T x) (100 + (c : Int))]) := by
  obtain ⟨⟨hx16, hy16⟩, hb⟩ := f.2.2.1 c hc
  rw [ex] at hx16 hb
  have gx := f.1 x hx16
  have g2 := gx.2.1.2.1 c hb
  have hex := fun m (hm : m < 16) => gT_ex (n := m) gx.2.1 hb hm
  have mem := fun (v : Int) hv => io_mem (v := v) g2.1 hv
  have sub := fun v => io_sub (v := v) g2.1
  obtain ⟨u, v, hu, hv, mu, mv⟩ : ∃ u v : Nat, u < 16 ∧ v < 16 ∧ (u : Int) ∈ inL (T x) (100 + (c : Int)) ∧ (v : Int) ∈ outL (T x) (100 + (c : Int)) := by
    rcases g2.2.2 with z | z
    · exact ⟨_, _, g2.2.1.1, g2.2.1.2, z.1, z.2⟩
    · exact ⟨_, _, g2.2.1.2, g2.2.1.1, z.2, z.1⟩
  generalize hI : inL (T x) (100 + (c : Int)) = I at *
  generalize hO : outL (T x) (100 + (c : Int)) = O at *
  have un := hin x u hx hu ((sub _).1 mu)
  have vn := hin x v hx hv ((sub _).2 mv)
  have vI : ∀ m : Nat, (m : Int) ∈ I → ly1 (ly1 T O) I m = I := fun m z => if_pos z
  have vO : ∀ m : Nat, m < 16 → (m : Int) ∈ O → ly1 (ly1 T O) I m = O := fun m hm z => by
    unfold ly1
    rw [if_neg (fun w => hex m hm ⟨w, z⟩), if_pos z]
  have vT : ∀ m : Nat, (m : Int) ∉ T x → ly1 (ly1 T O) I m = T m := fun m z => by
    unfold ly1
    rw [if_neg (fun w => z ((sub _).1 w)), if_neg (fun w => z ((sub _).2 w))]
  have oth : ∀ t, t ∈ X ++ Z → t ∈ ts ∧ ∀ j : Nat, j < 16 → (j : Int) ∈ t → (j : Int) ∉ T x := by
    intro t ht
    have hts : t ∈ ts := by rw [e]; simp only [List.mem_append, List.mem_cons] at ht ⊢; rcases ht with ht | ht <;> simp [ht]
    refine ⟨hts, fun j hj h1 h2 => ?_⟩
    obtain ⟨m, hm, rfl⟩ := (h.2 t).mp hts
    have eq := FL_one f (show m < 16 by omega) hx16 hj h1 h2
    rcases List.mem_append.mp ht with q | q
    · exact nX _ q (by rw [eq]; exact gx.2.2.1)
    · exact nZ _ q (by rw [eq]; exact gx.2.2.1)
  refine ⟨?_, fun t => ?_⟩
  · have nd := h.1
    have nd' : (X ++ Z).Nodup := by
      refine List.Sublist.nodup ?_ nd
      rw [e]
      exact List.Sublist.append_left (List.sublist_cons_self _ _) X
    refine List.nodup_append.mpr ⟨nd', ?_, fun a ha b hb eq => ?_⟩
    · rw [List.nodup_cons]
      refine ⟨fun w => ?_, by simp⟩
      have := List.mem_singleton.mp w
      exact hex u hu ⟨mu, this ▸ mu⟩
    · subst eq
      have oa := (oth a ha).2
      simp only [List.mem_cons, List.not_mem_nil, or_false] at hb
      rcases hb with rfl | rfl
      · exact oa u hu mu ((sub _).1 mu)
      · exact oa v hv mv ((sub _).2 mv)
  · rw [List.mem_append]
    simp only [List.mem_cons, List.not_mem_nil, or_false]
    constructor
    · rintro (ht | rfl | rfl)
      · obtain ⟨hts, hd⟩ := oth t ht
        obtain ⟨m, hm, rfl⟩ := (h.2 t).mp hts
        exact ⟨m, hm, (vT m (hd m (by omega) (f.1 m (by omega)).2.2.1)).symm⟩
      · exact ⟨u, un, (vI u mu).symm⟩
      · exact ⟨v, vn, (vO v hv mv).symm⟩
    · rintro ⟨m, hm, rfl⟩
      by_cases q : (m : Int) ∈ T x
      · rcases (mem _ (by omega)).mp q with w | w
        · rw [vI m w]; exact Or.inr (Or.inl rfl)
        · rw [vO m (by omega) w]; exact Or.inr (Or.inr rfl)
      · rw [vT m q]
        left
        have ht := (h.2 (T m)).mpr ⟨m, hm, rfl⟩
        have n1 : T m ≠ T x := fun w => q (w ▸ (f.1 m (by omega)).2.2.1)
        rw [e] at ht
        simp only [List.mem_append, List.mem_cons, n1, false_or] at ht ⊢
        exact ht
end TS
