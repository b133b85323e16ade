/-! TOURS as such: brackets by twos; what lies in them and what outside -/
theorem cnt0 {B : Int} {t : List Int} (h : B ∉ t) : t.count B = 0 := List.count_eq_zero.mpr h
theorem spl2 {B : Int} {t : List Int} (h : t.count B = 2) : ∃ p m q, t = p ++ B :: (m ++ B :: q) ∧ B ∉ p ∧ B ∉ m ∧ B ∉ q := by
  have h1 : B ∈ t := List.count_pos_iff.mp (by omega)
  obtain ⟨p, r, rfl, hp⟩ := spl1 h1
  rw [List.count_append, cnt0 hp, List.count_cons_self] at h
  have h2 : B ∈ r := List.count_pos_iff.mp (by omega)
  obtain ⟨m, q, rfl, hm⟩ := spl1 h2
  rw [List.count_append, cnt0 hm, List.count_cons_self] at h
  exact ⟨p, m, q, rfl, hp, hm, fun z => by have := List.count_pos_iff.mpr z; omega⟩
theorem spl11 {B : Int} {t : List Int} (h : t.count B = 1) : ∃ p q, t = p ++ B :: q ∧ B ∉ p ∧ B ∉ q := by
  have h1 : B ∈ t := List.count_pos_iff.mp (by omega)
  obtain ⟨p, r, rfl, hp⟩ := spl1 h1
  rw [List.count_append, cnt0 hp, List.count_cons_self] at h
  exact ⟨p, r, rfl, hp, fun z => by have := List.count_pos_iff.mpr z; omega⟩
def inL (t : List Int) (B : Int) : List Int := ((t.dropWhile (fun y => decide (y ≠ B))).drop 1).takeWhile (fun y => decide (y ≠ B))
def outL (t : List Int) (B : Int) : List Int := t.takeWhile (fun y => decide (y ≠ B)) ++ (((t.dropWhile (fun y => decide (y ≠ B))).drop 1).dropWhile (fun y => decide (y ≠ B))).drop 1
theorem inL_eq {B : Int} {p m q : List Int} (hp : B ∉ p) (hm : B ∉ m) : inL (p ++ B :: (m ++ B :: q)) B = m := by
  unfold inL
  rw [(tw_eq hp).2, List.drop_succ_cons, List.drop_zero, (tw_eq hm).1]
theorem outL_eq {B : Int} {p m q : List Int} (hp : B ∉ p) (hm : B ∉ m) : outL (p ++ B :: (m ++ B :: q)) B = p ++ q := by
  unfold outL
  rw [(tw_eq hp).2, (tw_eq hp).1, List.drop_succ_cons, List.drop_zero, (tw_eq hm).2, List.drop_succ_cons, List.drop_zero]
/-- the brackets of B part two lists alike, or the other way round -/
def ssw (t t' : List Int) (B : Int) : Prop := (∀ v, (v ∈ inL t' B ↔ v ∈ inL t B) ∧ (v ∈ outL t' B ↔ v ∈ outL t B)) ∨ (∀ v, (v ∈ inL t' B ↔ v ∈ outL t B) ∧ (v ∈ outL t' B ↔ v ∈ inL t B))
theorem ss_rot {p r : List Int} {B : Int} (h : (p ++ r).count B = 2) : ssw (p ++ r) (r ++ p) B := by
  rw [List.count_append] at h
  have hc : p.count B = 0 ∨ p.count B = 1 ∨ p.count B = 2 := by omega
  rcases hc with hc | hc | hc
  · left
    obtain ⟨a, m, c, rfl, ha, hm, hc'⟩ := spl2 (t := r) (B := B) (by omega)
    have hp : B ∉ p := List.count_eq_zero.mp hc
    have e1 : p ++ (a ++ B :: (m ++ B :: c)) = (p ++ a) ++ B :: (m ++ B :: c) := by simp
    have e2 : (a ++ B :: (m ++ B :: c)) ++ p = a ++ B :: (m ++ B :: (c ++ p)) := by simp
    intro v
    rw [e1, e2, inL_eq ha hm, outL_eq ha hm, inL_eq (by simp [hp, ha]) hm, outL_eq (by simp [hp, ha]) hm]
    refine ⟨Iff.rfl, ?_⟩
    simp only [List.mem_append]
    constructor
    · rintro (h | h | h) <;> simp [h]
    · rintro ((h | h) | h) <;> simp [h]
  · right
    obtain ⟨a, c, rfl, ha, hc'⟩ := spl11 hc
    obtain ⟨a', c', rfl, ha', hc''⟩ := spl11 (t := r) (B := B) (by omega)
    have e1 : (a ++ B :: c) ++ (a' ++ B :: c') = a ++ B :: ((c ++ a') ++ B :: c') := by simp
    have e2 : (a' ++ B :: c') ++ (a ++ B :: c) = a' ++ B :: ((c' ++ a) ++ B :: c) := by simp
    intro v
    rw [e1, e2, inL_eq ha (by simp [hc', ha']), outL_eq ha (by simp [hc', ha']), inL_eq ha' (by simp [hc'', ha]), outL_eq ha' (by simp [hc'', ha])]
    simp only [List.mem_append]
    exact ⟨or_comm, or_comm⟩
  · left
    obtain ⟨a, m, c, rfl, ha, hm, hc'⟩ := spl2 (t := p) (B := B) hc
    have hr : B ∉ r := List.count_eq_zero.mp (by omega)
    have e1 : (a ++ B :: (m ++ B :: c)) ++ r = a ++ B :: (m ++ B :: (c ++ r)) := by simp
    have e2 : r ++ (a ++ B :: (m ++ B :: c)) = (r ++ a) ++ B :: (m ++ B :: c) := by simp
    intro v
    rw [e1, e2, inL_eq ha hm, outL_eq ha hm, inL_eq (by simp [hr, ha]) hm, outL_eq (by simp [hr, ha]) hm]
    refine ⟨Iff.rfl, ?_⟩
    simp only [List.mem_append]
    constructor
    · rintro ((h | h) | h) <;> simp [h]
    · rintro (h | h | h) <;> simp [h]
theorem io_mem {t : List Int} {B v : Int} (h : t.count B = 2) (hv : v ≠ B) : v ∈ t ↔ v ∈ inL t B ∨ v ∈ outL t B := by
  obtain ⟨p, m, q, rfl, hp, hm, hq⟩ := spl2 h
  rw [inL_eq hp hm, outL_eq hp hm]
  simp only [List.mem_append, List.mem_cons, hv, false_or]
  constructor
  · rintro (h | h | h) <;> simp [h]
  · rintro (h | h | h) <;> simp [h]
theorem io_no {t : List Int} {B : Int} (h : t.count B = 2) : B ∉ inL t B ∧ B ∉ outL t B := by
  obtain ⟨p, m, q, rfl, hp, hm, hq⟩ := spl2 h
  rw [inL_eq hp hm, outL_eq hp hm]
  exact ⟨hm, by simp [hp, hq]⟩
theorem io_cnt {t : List Int} {B v : Int} (h : t.count B = 2) (hv : v ≠ B) : t.count v = (inL t B).count v + (outL t B).count v := by
  obtain ⟨p, m, q, rfl, hp, hm, hq⟩ := spl2 h
  rw [inL_eq hp hm, outL_eq hp hm]
  rw [List.count_append, List.count_cons_of_ne (Ne.symm hv), List.count_append, List.count_cons_of_ne (Ne.symm hv), List.count_append]
  omega
/-- a good tour, with the ends of cables -/
def gT (e0 e1 : Nat → Nat) (t : List Int) : Prop :=
  (∀ n : Nat, n < 16 → t.count (n : Int) ≤ 1) ∧
  (∀ c : Nat, (100 + (c : Int)) ∈ t → t.count (100 + (c : Int)) = 2 ∧ (e0 c < 16 ∧ e1 c < 16) ∧ (((e0 c : Int) ∈ inL t (100 + (c : Int)) ∧ (e1 c : Int) ∈ outL t (100 + (c : Int))) ∨ ((e0 c : Int) ∈ outL t (100 + (c : Int)) ∧ (e1 c : Int) ∈ inL t (100 + (c : Int))))) ∧
  (∀ c d : Nat, c ≠ d → (100 + (c : Int)) ∈ t → (100 + (d : Int)) ∈ t → ¬ ((100 + (c : Int)) ∈ inL t (100 + (d : Int)) ∧ (100 + (c : Int)) ∈ outL t (100 + (d : Int))) ∧ ((100 + (c : Int)) ∈ inL t (100 + (d : Int)) → (e0 c : Int) ∈ inL t (100 + (d : Int)) ∧ (e1 c : Int) ∈ inL t (100 + (d : Int))) ∧ ((100 + (c : Int)) ∈ outL t (100 + (d : Int)) → (e0 c : Int) ∈ outL t (100 + (d : Int)) ∧ (e1 c : Int) ∈ outL t (100 + (d : Int)))) ∧
  (∀ u v : Nat, u < 16 → v < 16 → u ≠ v → (u : Int) ∈ t → (v : Int) ∈ t → ∃ d : Nat, (100 + (d : Int)) ∈ t ∧ (((u : Int) ∈ inL t (100 + (d : Int)) ∧ (v : Int) ∈ outL t (100 + (d : Int))) ∨ ((u : Int) ∈ outL t (100 + (d : Int)) ∧ (v : Int) ∈ inL t (100 + (d : Int)))))
theorem gT_rot {e0 e1 : Nat → Nat} {p r : List Int} (h : gT e0 e1 (p ++ r)) : gT e0 e1 (r ++ p) := by
  obtain ⟨h1, h2, h3, h4⟩ := h
  have hm : ∀ v, v ∈ r ++ p ↔ v ∈ p ++ r := fun v => by simp [or_comm]
  have hc : ∀ v, (r ++ p).count v = (p ++ r).count v := fun v => by rw [List.count_append, List.count_append, Nat.add_comm]
  refine ⟨fun n hn => by rw [hc]; exact h1 n hn, fun c hcm => ?_, fun c d hcd hcm hdm => ?_, fun u v hu hv huv hum hvm => ?_⟩
  · have a := h2 c ((hm _).mp hcm)
    refine ⟨by rw [hc]; exact a.1, a.2.1, ?_⟩
    rcases ss_rot a.1 with s | s
    · rw [(s _).1, (s _).2, (s _).1, (s _).2]
      exact a.2.2
    · rw [(s _).1, (s _).2, (s _).1, (s _).2]
      exact a.2.2.symm
  · have a := h3 c d hcd ((hm _).mp hcm) ((hm _).mp hdm)
    rcases ss_rot (h2 d ((hm _).mp hdm)).1 with s | s
    · simp only [(s _).1, (s _).2]
      exact a
    · simp only [(s _).1, (s _).2]
      exact ⟨fun z => a.1 ⟨z.2, z.1⟩, a.2.2, a.2.1⟩
  · obtain ⟨d, hd, a⟩ := h4 u v hu hv huv ((hm _).mp hum) ((hm _).mp hvm)
    refine ⟨d, (hm _).mpr hd, ?_⟩
    rcases ss_rot (h2 d hd).1 with s | s
    · simp only [(s _).1, (s _).2]
      exact a
    · simp only [(s _).1, (s _).2]
      exact a.symm
theorem gT_trn {e0 e1 : Nat → Nat} {t : List Int} {x : Int} (h : gT e0 e1 t) (hx : x ∈ t) : gT e0 e1 (trn t x) := by
  obtain ⟨p, q, rfl, hp⟩ := spl1 hx
  rw [trn_eq hp]
  exact gT_rot h
theorem gT_one {e0 e1 : Nat → Nat} {n : Nat} (hn : n < 16) : gT e0 e1 [(n : Int)] := by
  refine ⟨fun m hm => ?_, fun c hc => ?_, fun c d _ hc => ?_, fun u v hu hv huv hum hvm => ?_⟩
  · exact List.count_le_length
  · have := List.mem_singleton.mp hc; omega
  · have := List.mem_singleton.mp hc; omega
  · have := List.mem_singleton.mp hum; have := List.mem_singleton.mp hvm; omega
