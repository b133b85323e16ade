/-! good tours joined and split -/
theorem inL_pre {p m q z w : List Int} {D : Int} (hp : D ∉ p) (hm : D ∉ m) (hz : D ∉ z) : inL (z ++ (p ++ D :: (m ++ D :: q)) ++ w) D = m ∧ outL (z ++ (p ++ D :: (m ++ D :: q)) ++ w) D = z ++ p ++ (q ++ w) := by
  have e : z ++ (p ++ D :: (m ++ D :: q)) ++ w = (z ++ p) ++ D :: (m ++ D :: (q ++ w)) := by simp
  rw [e, inL_eq (by simp [hp, hz]) hm, outL_eq (by simp [hp, hz]) hm]
  exact ⟨rfl, rfl⟩
/-- in the middle of a longer row the brackets of a part hold the same -/
theorem io_mid {z a w : List Int} {D : Int} (h : a.count D = 2) (hz : D ∉ z) : inL (z ++ a ++ w) D = inL a D ∧ ∀ v, v ∈ outL (z ++ a ++ w) D ↔ v ∈ z ∨ v ∈ outL a D ∨ v ∈ w := by
  obtain ⟨p, m, q, rfl, hp, hm, hq⟩ := spl2 h
  obtain ⟨h1, h2⟩ := inL_pre (q := q) (w := w) hp hm hz
  rw [h1, h2, inL_eq hp hm, outL_eq hp hm]
  refine ⟨rfl, fun v => ?_⟩
  simp only [List.mem_append]
  constructor
  · rintro ((h | h) | (h | h)) <;> simp [h]
  · rintro (h | (h | h) | h) <;> simp [h]
theorem head_out {a : List Int} {x D : Int} (h : (x :: a).count D = 2) (hx : x ≠ D) : x ∈ outL (x :: a) D := by
  obtain ⟨p, m, q, e, hp, hm, hq⟩ := spl2 h
  rw [e, outL_eq hp hm]
  cases p with
  | nil => rw [List.nil_append] at e; exact absurd (List.cons.inj e).1 hx
  | cons y p => rw [List.cons_append] at e; rw [(List.cons.inj e).1]; simp
theorem gT_ends {e0 e1 : Nat → Nat} {t : List Int} {c : Nat} (h : gT e0 e1 t) (hc : (100 + (c : Int)) ∈ t) : (e0 c : Int) ∈ t ∧ (e1 c : Int) ∈ t := by
  obtain ⟨h1, ⟨h2, h3⟩, h4⟩ := h.2.1 c hc
  have i0 := io_mem (v := (e0 c : Int)) h1 (by omega)
  have i1 := io_mem (v := (e1 c : Int)) h1 (by omega)
  rcases h4 with ⟨a, b⟩ | ⟨a, b⟩
  · exact ⟨i0.mpr (Or.inl a), i1.mpr (Or.inr b)⟩
  · exact ⟨i0.mpr (Or.inr a), i1.mpr (Or.inl b)⟩
theorem io_sub {t : List Int} {B v : Int} (h : t.count B = 2) : (v ∈ inL t B → v ∈ t) ∧ (v ∈ outL t B → v ∈ t) := by
  have hn := io_no h
  constructor
  · intro hv
    exact (io_mem h (fun e => hn.1 (by rw [e] at hv; exact hv))).mpr (Or.inl hv)
  · intro hv
    exact (io_mem h (fun e => hn.2 (by rw [e] at hv; exact hv))).mpr (Or.inr hv)
/-- the parts of one tour are apart -/
theorem gT_ex {e0 e1 : Nat → Nat} {t : List Int} {c n : Nat} (h : gT e0 e1 t) (hc : (100 + (c : Int)) ∈ t) (hn : n < 16) : ¬ ((n : Int) ∈ inL t (100 + (c : Int)) ∧ (n : Int) ∈ outL t (100 + (c : Int))) := by
  rintro ⟨h1, h2⟩
  have a := io_cnt (v := (n : Int)) (h.2.1 c hc).1 (by omega)
  have b := h.1 n hn
  have c1 := List.count_pos_iff.mpr h1
  have c2 := List.count_pos_iff.mpr h2
  omega
theorem gT_join {e0 e1 : Nat → Nat} {a b : List Int} {c : Nat} {x y : Nat} {a' b' : List Int} (ha : gT e0 e1 a) (hb : gT e0 e1 b) (hx : e0 c = x) (hy : e1 c = y) (x16 : x < 16) (y16 : y < 16) (ea : a = (x : Int) :: a') (eb : b = (y : Int) :: b') (hd : ∀ v : Int, v ∈ a → v ∉ b) (h1 : (100 + (c : Int)) ∉ a) (h2 : (100 + (c : Int)) ∉ b) : gT e0 e1 (a ++ [100 + (c : Int)] ++ b ++ [100 + (c : Int)]) := by
  have xa : (x : Int) ∈ a := by rw [ea]; simp
  have yb : (y : Int) ∈ b := by rw [eb]; simp
  have eB : a ++ [100 + (c : Int)] ++ b ++ [100 + (c : Int)] = a ++ (100 + (c : Int)) :: (b ++ (100 + (c : Int)) :: []) := by simp
  have iB : inL (a ++ [100 + (c : Int)] ++ b ++ [100 + (c : Int)]) (100 + (c : Int)) = b := by rw [eB, inL_eq h1 h2]
  have oB : outL (a ++ [100 + (c : Int)] ++ b ++ [100 + (c : Int)]) (100 + (c : Int)) = a := by rw [eB, outL_eq h1 h2, List.append_nil]
  have mem : ∀ v : Int, v ∈ a ++ [100 + (c : Int)] ++ b ++ [100 + (c : Int)] ↔ v ∈ a ∨ v ∈ b ∨ v = 100 + (c : Int) := by
    intro v
    simp only [List.mem_append, List.mem_singleton]
    constructor
    · rintro (((h | h) | h) | h) <;> simp [h]
    · rintro (h | h | h) <;> simp [h]
  have cnt : ∀ v : Int, v ≠ 100 + (c : Int) → (a ++ [100 + (c : Int)] ++ b ++ [100 + (c : Int)]).count v = a.count v + b.count v := by
    intro v hv
    simp only [List.count_append, List.count_singleton]
    have : ((100 + (c : Int)) == v) = false := by simpa using Ne.symm hv
    rw [this]
    simp
  have inA : ∀ d : Nat, (100 + (d : Int)) ∈ a → inL (a ++ [100 + (c : Int)] ++ b ++ [100 + (c : Int)]) (100 + (d : Int)) = inL a (100 + (d : Int)) ∧ ∀ v, v ∈ outL (a ++ [100 + (c : Int)] ++ b ++ [100 + (c : Int)]) (100 + (d : Int)) ↔ v ∈ outL a (100 + (d : Int)) ∨ v = 100 + (c : Int) ∨ v ∈ b := by
    intro d hd'
    have z := io_mid (z := []) (w := [100 + (c : Int)] ++ b ++ [100 + (c : Int)]) (ha.2.1 d hd').1 (by simp)
    rw [List.nil_append, ← List.append_assoc, ← List.append_assoc] at z
    refine ⟨z.1, fun v => ?_⟩
    rw [z.2 v]
    simp only [List.not_mem_nil, false_or, List.mem_append, List.mem_singleton]
    constructor
    · rintro (h | (h | h) | h) <;> simp [h]
    · rintro (h | h | h) <;> simp [h]
  have inB : ∀ d : Nat, (100 + (d : Int)) ∈ b → inL (a ++ [100 + (c : Int)] ++ b ++ [100 + (c : Int)]) (100 + (d : Int)) = inL b (100 + (d : Int)) ∧ ∀ v, v ∈ outL (a ++ [100 + (c : Int)] ++ b ++ [100 + (c : Int)]) (100 + (d : Int)) ↔ v ∈ outL b (100 + (d : Int)) ∨ v = 100 + (c : Int) ∨ v ∈ a := by
    intro d hd'
    have z := io_mid (z := a ++ [100 + (c : Int)]) (w := [100 + (c : Int)]) (hb.2.1 d hd').1 (by
      intro q
      rcases List.mem_append.mp q with q | q
      · exact hd _ q hd'
      · rw [List.mem_singleton.mp q] at hd'; exact h2 hd')
    refine ⟨z.1, fun v => ?_⟩
    rw [z.2 v]
    simp only [List.mem_append, List.mem_singleton]
    constructor
    · rintro ((h | h) | h | h) <;> simp [h]
    · rintro (h | h | h) <;> simp [h]
  have cd : ∀ d : Nat, (100 + (d : Int)) ∈ a ++ [100 + (c : Int)] ++ b ++ [100 + (c : Int)] → (d = c) ∨ (100 + (d : Int)) ∈ a ∨ (100 + (d : Int)) ∈ b := by
    intro d hd'
    rcases (mem _).mp hd' with q | q | q
    · exact Or.inr (Or.inl q)
    · exact Or.inr (Or.inr q)
    · left; omega
  refine ⟨fun n hn => ?_, fun d hd' => ?_, fun c' d hne hc' hd' => ?_, fun u v hu hv huv hum hvm => ?_⟩
  · rw [cnt _ (by omega)]
    have z1 := ha.1 n hn
    have z2 := hb.1 n hn
    by_cases q : (n : Int) ∈ a
    · rw [cnt0 (hd _ q)]; omega
    · rw [cnt0 q]; omega
  · rcases cd d hd' with rfl | q | q
    · rw [iB, oB, hx, hy]
      refine ⟨?_, ⟨x16, y16⟩, Or.inr ⟨xa, yb⟩⟩
      rw [eB, List.count_append, cnt0 h1, List.count_cons_self, List.count_append, cnt0 h2, List.count_cons_self]
      rfl
    · have z := ha.2.1 d q
      have q' := hd _ q
      rw [cnt _ (fun e => h1 (e ▸ q)), cnt0 q', (inA d q).1, (inA d q).2, (inA d q).2]
      refine ⟨z.1, z.2.1, ?_⟩
      rcases z.2.2 with ⟨w1, w2⟩ | ⟨w1, w2⟩
      · exact Or.inl ⟨w1, Or.inl w2⟩
      · exact Or.inr ⟨Or.inl w1, w2⟩
    · have z := hb.2.1 d q
      have q' : (100 + (d : Int)) ∉ a := fun e => hd _ e q
      rw [cnt _ (fun e => h2 (e ▸ q)), cnt0 q', (inB d q).1, (inB d q).2, (inB d q).2]
      refine ⟨by omega, z.2.1, ?_⟩
      rcases z.2.2 with ⟨w1, w2⟩ | ⟨w1, w2⟩
      · exact Or.inl ⟨w1, Or.inl w2⟩
      · exact Or.inr ⟨Or.inl w1, w2⟩
  · rcases cd d hd' with rfl | q | q
    · rw [iB, oB]
      rcases cd c' hc' with rfl | r | r
      · exact absurd rfl hne
      · have ee := gT_ends ha r
        exact ⟨fun z => hd _ z.2 z.1, fun z => absurd z (hd _ r), fun _ => ee⟩
      · have ee := gT_ends hb r
        exact ⟨fun z => hd _ z.2 z.1, fun _ => ee, fun z => absurd r (hd _ z)⟩
    · have s2 := (ha.2.1 d q).1
      rw [(inA d q).1]
      simp only [(inA d q).2]
      rcases cd c' hc' with rfl | r | r
      · have xo : (x : Int) ∈ outL a (100 + (d : Int)) := by rw [ea] at s2 ⊢; exact head_out s2 (by omega)
        refine ⟨fun z => h1 ((io_sub s2).1 z.1), fun z => absurd ((io_sub s2).1 z) h1, fun _ => ?_⟩
        rw [hx, hy]
        exact ⟨Or.inl xo, Or.inr (Or.inr yb)⟩
      · have z := ha.2.2.1 c' d hne r q
        refine ⟨fun w => ?_, z.2.1, fun w => ?_⟩
        · rcases w.2 with w2 | w2 | w2
          · exact z.1 ⟨w.1, w2⟩
          · exact h1 (w2 ▸ r)
          · exact hd _ r w2
        · rcases w with w2 | w2 | w2
          · exact ⟨Or.inl (z.2.2 w2).1, Or.inl (z.2.2 w2).2⟩
          · exact absurd (w2 ▸ r) h1
          · exact absurd w2 (hd _ r)
      · have ee := gT_ends hb r
        exact ⟨fun w => hd _ ((io_sub s2).1 w.1) r, fun w => absurd r (hd _ ((io_sub s2).1 w)), fun _ => ⟨Or.inr (Or.inr ee.1), Or.inr (Or.inr ee.2)⟩⟩
    · have s2 := (hb.2.1 d q).1
      rw [(inB d q).1]
      simp only [(inB d q).2]
      rcases cd c' hc' with rfl | r | r
      · have yo : (y : Int) ∈ outL b (100 + (d : Int)) := by rw [eb] at s2 ⊢; exact head_out s2 (by omega)
        refine ⟨fun z => h2 ((io_sub s2).1 z.1), fun z => absurd ((io_sub s2).1 z) h2, fun _ => ?_⟩
        rw [hx, hy]
        exact ⟨Or.inr (Or.inr xa), Or.inl yo⟩
      · have ee := gT_ends ha r
        exact ⟨fun w => hd _ r ((io_sub s2).1 w.1), fun w => absurd ((io_sub s2).1 w) (hd _ r), fun _ => ⟨Or.inr (Or.inr ee.1), Or.inr (Or.inr ee.2)⟩⟩
      · have z := hb.2.2.1 c' d hne r q
        refine ⟨fun w => ?_, z.2.1, fun w => ?_⟩
        · rcases w.2 with w2 | w2 | w2
          · exact z.1 ⟨w.1, w2⟩
          · exact h2 (w2 ▸ r)
          · exact hd _ w2 r
        · rcases w with w2 | w2 | w2
          · exact ⟨Or.inl (z.2.2 w2).1, Or.inl (z.2.2 w2).2⟩
          · exact absurd (w2 ▸ r) h2
          · exact absurd r (hd _ w2)
  · rcases (mem _).mp hum with q | q | q
    · rcases (mem _).mp hvm with r | r | r
      · obtain ⟨d, hd', z⟩ := ha.2.2.2 u v hu hv huv q r
        refine ⟨d, (mem _).mpr (Or.inl hd'), ?_⟩
        rw [(inA d hd').1, (inA d hd').2, (inA d hd').2]
        rcases z with ⟨z1, z2⟩ | ⟨z1, z2⟩
        · exact Or.inl ⟨z1, Or.inl z2⟩
        · exact Or.inr ⟨Or.inl z1, z2⟩
      · exact ⟨c, (mem _).mpr (Or.inr (Or.inr rfl)), by rw [iB, oB]; exact Or.inr ⟨q, r⟩⟩
      · omega
    · rcases (mem _).mp hvm with r | r | r
      · exact ⟨c, (mem _).mpr (Or.inr (Or.inr rfl)), by rw [iB, oB]; exact Or.inl ⟨q, r⟩⟩
      · obtain ⟨d, hd', z⟩ := hb.2.2.2 u v hu hv huv q r
        refine ⟨d, (mem _).mpr (Or.inr (Or.inl hd')), ?_⟩
        rw [(inB d hd').1, (inB d hd').2, (inB d hd').2]
        rcases z with ⟨z1, z2⟩ | ⟨z1, z2⟩
        · exact Or.inl ⟨z1, Or.inl z2⟩
        · exact Or.inr ⟨Or.inl z1, z2⟩
      · omega
    · omega
/-- beside the brackets of C: those of D hold the same of what is outside of C -/
theorem io_out {p m q : List Int} {C D : Int} (hm : D ∉ m) (h : (p ++ q).count D = 2) (v : Int) (hv : v ∉ m) (hvC : v ≠ C) (hDC : D ≠ C) : (v ∈ inL (p ++ q) D ↔ v ∈ inL (p ++ C :: (m ++ C :: q)) D) ∧ (v ∈ outL (p ++ q) D ↔ v ∈ outL (p ++ C :: (m ++ C :: q)) D) := by
  rw [List.count_append] at h
  have hc : p.count D = 0 ∨ p.count D = 1 ∨ p.count D = 2 := by omega
  rcases hc with hc | hc | hc
  · obtain ⟨a, s, b, rfl, ha, hs, hb⟩ := spl2 (t := q) (B := D) (by omega)
    have hp : D ∉ p := List.count_eq_zero.mp hc
    have e1 : p ++ (a ++ D :: (s ++ D :: b)) = (p ++ a) ++ D :: (s ++ D :: b) := by simp
    have e2 : p ++ C :: (m ++ C :: (a ++ D :: (s ++ D :: b))) = (p ++ C :: (m ++ C :: a)) ++ D :: (s ++ D :: b) := by simp
    rw [e1, e2, inL_eq (by simp [hp, ha]) hs, outL_eq (by simp [hp, ha]) hs, inL_eq (by simp [hp, ha, hm, hDC]) hs, outL_eq (by simp [hp, ha, hm, hDC]) hs]
    refine ⟨Iff.rfl, ?_⟩
    simp [hv, hvC]
  · obtain ⟨a, b, rfl, ha, hb⟩ := spl11 hc
    obtain ⟨a', b', rfl, ha', hb'⟩ := spl11 (t := q) (B := D) (by omega)
    have e1 : (a ++ D :: b) ++ (a' ++ D :: b') = a ++ D :: ((b ++ a') ++ D :: b') := by simp
    have e2 : (a ++ D :: b) ++ C :: (m ++ C :: (a' ++ D :: b')) = a ++ D :: ((b ++ C :: (m ++ C :: a')) ++ D :: b') := by simp
    rw [e1, e2, inL_eq ha (by simp [hb, ha']), outL_eq ha (by simp [hb, ha']), inL_eq ha (by simp [hb, ha', hm, hDC]), outL_eq ha (by simp [hb, ha', hm, hDC])]
    refine ⟨?_, Iff.rfl⟩
    simp [hv, hvC]
  · obtain ⟨a, s, b, rfl, ha, hs, hb⟩ := spl2 (t := p) (B := D) hc
    have e1 : (a ++ D :: (s ++ D :: b)) ++ q = a ++ D :: (s ++ D :: (b ++ q)) := by simp
    have e2 : (a ++ D :: (s ++ D :: b)) ++ C :: (m ++ C :: q) = a ++ D :: (s ++ D :: (b ++ C :: (m ++ C :: q))) := by simp
    rw [e1, e2, inL_eq ha hs, outL_eq ha hs, inL_eq ha hs, outL_eq ha hs]
    refine ⟨Iff.rfl, ?_⟩
    simp [hv, hvC]
theorem gT_out {e0 e1 : Nat → Nat} {p m q : List Int} {c : Nat} (h : gT e0 e1 (p ++ (100 + (c : Int)) :: (m ++ (100 + (c : Int)) :: q))) (hp : (100 + (c : Int)) ∉ p) (hm : (100 + (c : Int)) ∉ m) (hq : (100 + (c : Int)) ∉ q) : gT e0 e1 (p ++ q) := by
  have hcm : (100 + (c : Int)) ∈ p ++ (100 + (c : Int)) :: (m ++ (100 + (c : Int)) :: q) := by simp
  have hI := inL_eq (q := q) hp hm
  have hO := outL_eq (q := q) hp hm
  have sub : ∀ v : Int, v ∈ p ++ q → v ∈ p ++ (100 + (c : Int)) :: (m ++ (100 + (c : Int)) :: q) := by
    intro v hv
    rcases List.mem_append.mp hv with z | z <;> simp [z]
  have ct : ∀ v : Int, v ≠ 100 + (c : Int) → (p ++ (100 + (c : Int)) :: (m ++ (100 + (c : Int)) :: q)).count v = m.count v + (p ++ q).count v := by
    intro v hv
    have := io_cnt (h.2.1 c hcm).1 hv
    rwa [hI, hO] at this
  have ne : ∀ d : Nat, (100 + (d : Int)) ∈ p ++ q → d ≠ c := by
    rintro d hd rfl
    rcases List.mem_append.mp hd with z | z
    · exact hp z
    · exact hq z
  have nm : ∀ d : Nat, (100 + (d : Int)) ∈ p ++ q → (100 + (d : Int)) ∉ m := by
    intro d hd z
    have := (h.2.2.1 d c (ne d hd) (sub _ hd) hcm).1
    rw [hI, hO] at this
    exact this ⟨z, hd⟩
  have c2 : ∀ d : Nat, (100 + (d : Int)) ∈ p ++ q → (p ++ q).count (100 + (d : Int)) = 2 := by
    intro d hd
    have := ct (100 + (d : Int)) (by have := ne d hd; omega)
    rw [(h.2.1 d (sub _ hd)).1, cnt0 (nm d hd)] at this
    omega
  have nn : ∀ n : Nat, n < 16 → (n : Int) ∈ p ++ q → (n : Int) ∉ m := by
    intro n hn z1 z2
    have := gT_ex h hcm hn
    rw [hI, hO] at this
    exact this ⟨z2, z1⟩
  have eo : ∀ d : Nat, (100 + (d : Int)) ∈ p ++ q → (e0 d : Int) ∈ p ++ q ∧ (e1 d : Int) ∈ p ++ q := by
    intro d hd
    have := (h.2.2.1 d c (ne d hd) (sub _ hd) hcm).2.2
    rw [hO] at this
    exact this hd
  have io : ∀ (d : Nat) (v : Int), (100 + (d : Int)) ∈ p ++ q → v ∉ m → v ≠ 100 + (c : Int) → (v ∈ inL (p ++ q) (100 + (d : Int)) ↔ v ∈ inL (p ++ (100 + (c : Int)) :: (m ++ (100 + (c : Int)) :: q)) (100 + (d : Int))) ∧ (v ∈ outL (p ++ q) (100 + (d : Int)) ↔ v ∈ outL (p ++ (100 + (c : Int)) :: (m ++ (100 + (c : Int)) :: q)) (100 + (d : Int))) := fun d v hd hv hvC => io_out (nm d hd) (c2 d hd) v hv hvC (by have := ne d hd; omega)
  refine ⟨fun n hn => ?_, fun d hd => ?_, fun c' d hne hc' hd => ?_, fun u v hu hv huv hum hvm => ?_⟩
  · have := ct (n : Int) (by omega)
    have := h.1 n hn
    omega
  · have z := h.2.1 d (sub _ hd)
    have w := eo d hd
    have i0 := io d (e0 d : Int) hd (nn _ z.2.1.1 w.1) (by omega)
    have i1 := io d (e1 d : Int) hd (nn _ z.2.1.2 w.2) (by omega)
    refine ⟨c2 d hd, z.2.1, ?_⟩
    rw [i0.1, i0.2, i1.1, i1.2]
    exact z.2.2
  · have z := h.2.2.1 c' d hne (sub _ hc') (sub _ hd)
    have zb := h.2.1 c' (sub _ hc')
    have w := eo c' hc'
    have i0 := io d (e0 c' : Int) hd (nn _ zb.2.1.1 w.1) (by omega)
    have i1 := io d (e1 c' : Int) hd (nn _ zb.2.1.2 w.2) (by omega)
    have i2 := io d (100 + (c' : Int)) hd (nm c' hc') (by have := ne c' hc'; omega)
    rw [i0.1, i0.2, i1.1, i1.2, i2.1, i2.2]
    exact z
  · obtain ⟨d, hd, z⟩ := h.2.2.2 u v hu hv huv (sub _ hum) (sub _ hvm)
    have um := nn u hu hum
    have vm := nn v hv hvm
    have hdc : d ≠ c := by
      rintro rfl
      rw [hI, hO] at z
      rcases z with z | z
      · exact um z.1
      · exact vm z.2
    have hdw : (100 + (d : Int)) ∈ p ++ q := by
      rcases (io_mem (v := 100 + (d : Int)) (h.2.1 c hcm).1 (by omega)).mp hd with y | y
      · rw [hI] at y
        exfalso
        have y2 := h.2.2.1 d c hdc hd hcm
        rw [hI, hO] at y2
        have dpq : (100 + (d : Int)) ∉ p ++ q := fun w => y2.1 ⟨y, w⟩
        have cm : m.count (100 + (d : Int)) = 2 := by
          have := ct (100 + (d : Int)) (by omega)
          rw [(h.2.1 d hd).1, cnt0 dpq] at this
          omega
        have e3 : p ++ (100 + (c : Int)) :: (m ++ (100 + (c : Int)) :: q) = (p ++ [100 + (c : Int)]) ++ m ++ ((100 + (c : Int)) :: q) := by simp
        have z4 := io_mid (z := p ++ [100 + (c : Int)]) (w := (100 + (c : Int)) :: q) cm (by
          intro w
          rcases List.mem_append.mp w with w | w
          · exact dpq (List.mem_append_left _ w)
          · have := List.mem_singleton.mp w; omega)
        rw [← e3] at z4
        rw [z4.1] at z
        rcases z with z | z
        · exact um ((io_sub cm).1 z.1)
        · exact vm ((io_sub cm).1 z.2)
      · rw [hO] at y; exact y
    refine ⟨d, hdw, ?_⟩
    have i0 := io d (u : Int) hdw um (by omega)
    have i1 := io d (v : Int) hdw vm (by omega)
    rw [i0.1, i0.2, i1.1, i1.2]
    exact z
theorem gT_io {e0 e1 : Nat → Nat} {t : List Int} {c : Nat} (h : gT e0 e1 t) (hc : (100 + (c : Int)) ∈ t) : gT e0 e1 (inL t (100 + (c : Int))) ∧ gT e0 e1 (outL t (100 + (c : Int))) := by
  obtain ⟨p, m, q, rfl, hp, hm, hq⟩ := spl2 (h.2.1 c hc).1
  rw [inL_eq hp hm, outL_eq hp hm]
  refine ⟨?_, gT_out h hp hm hq⟩
  have e : p ++ (100 + (c : Int)) :: (m ++ (100 + (c : Int)) :: q) = (p ++ [100 + (c : Int)]) ++ (m ++ (100 + (c : Int)) :: q) := by simp
  rw [e] at h
  have h2 := gT_rot h
  have e2 : (m ++ (100 + (c : Int)) :: q) ++ (p ++ [100 + (c : Int)]) = m ++ (100 + (c : Int)) :: ((q ++ p) ++ (100 + (c : Int)) :: []) := by simp
  rw [e2] at h2
  have h3 := gT_out h2 hm (by simp [hp, hq]) (by simp)
  rwa [List.append_nil] at h3
