theorem nodup_sub {l2 : List Nat} : ∀ {l1 : List Nat}, l1.Nodup → (∀ a ∈ l1, a ∈ l2) → l1.length ≤ l2.length := by
  intro l1
  induction l1 generalizing l2 with
  | nil => intro _ _; exact Nat.zero_le _
  | cons a l ih =>
    intro hn hs
    have h1 := List.nodup_cons.mp hn
    have := ih (l2 := l2.erase a) h1.2 (fun b hb => (List.mem_erase_of_ne (fun e => h1.1 (by rw [← e]; exact hb))).mpr (hs b (List.mem_cons_of_mem _ hb)))
    have h3 := List.length_erase_of_mem (hs a List.mem_cons_self)
    have h4 : 0 < l2.length := List.length_pos_of_mem (hs a List.mem_cons_self)
    rw [List.length_cons]
    omega
/-- a name is had by a node outside of z's tree -/
def usd (N : nt) (z i : Nat) : Bool := (List.range (nN N)).any (fun n => !on1 N 0 n z && decide (nmN N n = i))
def frN (N : nt) (z : Nat) : Nat := ((List.range 17).find? (fun i => !usd N z i)).getD 16
theorem usd_iff {N : nt} {z i : Nat} : usd N z i = true ↔ ∃ n, n < nN N ∧ on1 N 0 n z = false ∧ nmN N n = i := by
  unfold usd
  rw [List.any_eq_true]
  constructor
  · rintro ⟨n, h1, h2⟩
    simp only [Bool.and_eq_true, Bool.not_eq_true', decide_eq_true_eq] at h2
    exact ⟨n, List.mem_range.mp h1, h2⟩
  · rintro ⟨n, h1, h2, h3⟩
    exact ⟨n, List.mem_range.mpr h1, by simp [h2, h3]⟩
theorem free16 {N : nt} {z : Nat} (hn : nN N ≤ 16) (hz : z < nN N) (h : on1 N 0 z z = true) : ∃ i, i < 16 ∧ usd N z i = false := by
  apply Classical.byContradiction
  intro hc
  have all : ∀ i, i < 16 → usd N z i = true := by
    intro i hi
    cases e : usd N z i
    · exact absurd ⟨i, hi, e⟩ hc
    · rfl
  have := nodup_sub (l1 := List.range 16) (l2 := ((List.range (nN N)).erase z).map (nmN N)) List.nodup_range (fun a ha => ?_)
  · rw [List.length_map, List.length_erase_of_mem (List.mem_range.mpr hz), List.length_range, List.length_range] at this
    omega
  · obtain ⟨n, h1, h2, h3⟩ := usd_iff.mp (all a (List.mem_range.mp ha))
    refine List.mem_map.mpr ⟨n, (List.mem_erase_of_ne (fun e => ?_)).mpr (List.mem_range.mpr h1), h3⟩
    rw [e, h] at h2
    cases h2
theorem find_range {q : Nat → Bool} {m : Nat} (hm : m < 17) (h1 : ∀ i, i < m → q i = false) (h2 : q m = true) : ((List.range 17).find? q).getD 16 = m := by
  have e : (List.range 17).find? q = some m := by
    rw [List.find?_range_eq_some]
    exact ⟨h2, List.mem_range.mpr hm, fun i hi => by simp [h1 i hi]⟩
  rw [e]
  rfl
theorem frN_eq {N : nt} {z m : Nat} (hm : m < 17) (h1 : ∀ i, i < m → usd N z i = true) (h2 : usd N z m = false) : frN N z = m := find_range hm (fun i hi => by simp [h1 i hi]) (by simp [h2])
theorem frN_ok {N : nt} {z : Nat} (hn : nN N ≤ 16) (hz : z < nN N) (h : on1 N 0 z z = true) : frN N z < 16 ∧ usd N z (frN N z) = false ∧ ∀ i, i < frN N z → usd N z i = true := by
  obtain ⟨i, hi, hu⟩ := free16 hn hz h
  have : ∃ m, m ≤ i ∧ usd N z m = false ∧ ∀ j, j < m → usd N z j = true := by
    clear hi
    induction i using Nat.strongRecOn with
    | ind i ih =>
      by_cases e : ∃ j, j < i ∧ usd N z j = false
      · obtain ⟨j, hj, hu2⟩ := e
        obtain ⟨m, h1, h2⟩ := ih j hj hu2
        exact ⟨m, by omega, h2⟩
      · refine ⟨i, Nat.le_refl _, hu, fun j hj => ?_⟩
        cases e2 : usd N z j
        · exact absurd ⟨j, hj, e2⟩ e
        · rfl
  obtain ⟨m, h1, h2, h3⟩ := this
  rw [frN_eq (by omega) h3 h2]
  exact ⟨by omega, h2, h3⟩
def losZ (N : nt) (x y : Nat) : Nat := if szN N 0 x < szN N 0 y then x else y
def nmL (N : nt) (x y : Nat) : nt := setNm N (fun n => if n < nN N ∧ on1 N 0 n (losZ N x y) = true then frN N (losZ N x y) else nmN N n)
def spA (T : Nat → Nat → List Int) (l c x : Nat) : Nat → Nat → List Int := fun j => if j ≤ l then spT T j c x j else T j
def lift0N (N : nt) (c : Nat) : nt := lgA (setC N 2 c 2) c (if cN N 2 c = 0 then 3 else 2)
def lift1N (N : nt) (c : Nat) : nt := setT (lift0N N c) (spA (tN N) (cN N 3 c) c (cN N 0 c))
def lift2N (N : nt) (c : Nat) : nt × Option Nat := schN (lift1N N c) (cN N 0 c) (cN N 1 c) (cN N 3 c + 1)
def liftN (N : nt) (c : Nat) : nt × Option Nat := if cN N 2 c = 0 then (if (lift2N N c).2.isSome then lift2N N c else (nmL (lift2N N c).1 (cN N 0 c) (cN N 1 c), none)) else (lift0N N c, none)
theorem lift0_c (N : nt) (c w d : Nat) : cN (lift0N N c) w d = if w = 2 ∧ d = c then 2 else cN N w d := rfl
section AC
variable {N : nt}
theorem ok0_lift0 (h : ok0 N) (c : Nat) : ok0 (lift0N N c) := by
  refine ok0_lg ⟨h.1, fun d hd => ?_, h.2.2⟩
  have a := h.2.1 d hd
  show (if 0 = 2 ∧ d = c then 2 else cN N 0 d) < nN N ∧ (if 1 = 2 ∧ d = c then 2 else cN N 1 d) < nN N ∧ (if 0 = 2 ∧ d = c then 2 else cN N 0 d) ≠ (if 1 = 2 ∧ d = c then 2 else cN N 1 d) ∧ (if 2 = 2 ∧ d = c then 2 else cN N 2 d) ≤ 2 ∧ (if 3 = 2 ∧ d = c then 2 else cN N 3 d) ≤ 4 ∧ (if 5 = 2 ∧ d = c then 2 else cN N 5 d) ≤ 99 ∧ (if 4 = 2 ∧ d = c then 2 else cN N 4 d) ≤ riN N
  simp only [Nat.reduceEqDiff, false_and, if_false, true_and]
  refine ⟨a.1, a.2.1, a.2.2.1, ?_, a.2.2.2.2⟩
  split
  · omega
  · exact a.2.2.2.1
theorem SI_lift (h : INV N) {c : Nat} (hc : c < ldN N) (ht : cN N 2 c = 0) : SI (lift1N N c) (cN N 3 c) (cN N 0 c) (cN N 1 c) := by
  obtain ⟨o, hf, lv, sp⟩ := h
  have b := o.1
  have okc := o.2.1 c hc
  have l5 : cN N 3 c < 5 := by omega
  have E : ∀ w, w ≠ 2 → cN (lift1N N c) w = cN N w := fun w hw => by funext d; exact if_neg (fun q => hw q.1)
  have E0 := E 0 (by omega)
  have E1 := E 1 (by omega)
  have E3 := E 3 (by omega)
  have E2 : ∀ d, cN (lift1N N c) 2 d = if 2 = 2 ∧ d = c then 2 else cN N 2 d := fun d => rfl
  have K : ∀ j, tcs N j c ↔ j ≤ cN N 3 c := fun j => ⟨fun z => z.2.2, fun z => ⟨hc, ht, z⟩⟩
  have Tj : ∀ j, j ≤ cN N 3 c → tN (lift1N N c) j = ly1 (ly1 (tN N j) (outL (tN N j (cN N 0 c)) (100 + (c : Int)))) (inL (tN N j (cN N 0 c)) (100 + (c : Int))) := fun j hj => by
    show (if j ≤ cN N 3 c then spT (tN N) j c (cN N 0 c) j else tN N j) = _
    rw [if_pos hj, spT_eq]
  have Tj' : ∀ j, ¬ j ≤ cN N 3 c → tN (lift1N N c) j = tN N j := fun j hj => if_neg hj
  have tc : ∀ j d, tcs (lift1N N c) j d ↔ tcs N j d ∧ d ≠ c := by
    intro j d
    unfold tcs
    rw [E3, E2]
    by_cases e : d = c
    · subst e
      rw [if_pos ⟨rfl, rfl⟩]
      exact ⟨fun z => by have := z.2.1; omega, fun z => absurd rfl z.2⟩
    · rw [if_neg (fun q => e q.2)]
      exact ⟨fun z => ⟨z, e⟩, fun z => z.1⟩
  refine ⟨ok0_lift0 o c, fun j hj => ?_, fun d hd => by rw [E3]; exact lv d hd, ⟨okc.1, okc.2.1⟩, fun j hj => ?_, fun d hd h1 => ?_⟩
  · rw [E0, E1]
    by_cases e : j ≤ cN N 3 c
    · rw [Tj j e]
      exact FL_split (hf j hj) rfl ((K j).mpr e) (tc j)
    · rw [Tj' j e]
      refine FL_K (hf j hj) (fun d => ?_)
      rw [tc]
      exact ⟨fun z => z.1, fun z => ⟨z, fun q => e ((K j).mp (q ▸ z))⟩⟩
  · rw [Tj j hj]
    exact FL_split_ne (hf j (by omega)) rfl ((K j).mpr hj)
  · rw [E2] at h1
    have ed : d ≠ c := fun e => by rw [if_pos ⟨rfl, e⟩] at h1; omega
    rw [if_neg (fun q => ed q.2)] at h1
    have hd2 : d < ldN N := hd
    have okd := o.2.1 d hd2
    have q := sp d hd2 h1
    unfold sp1 at q
    by_cases e : cN N 3 d ≤ cN N 3 c
    · have f := hf (cN N 3 d) (by omega)
      have kc := (K _).mpr e
      have wc := f.2.2.1 c kc
      have gx := f.1 _ wc.1.1
      have g2 := gx.2.1.2.1 c wc.2
      have hex := fun m (hm : m < 16) => gT_ex (n := m) gx.2.1 wc.2 hm
      have mem := fun (v : Int) hv => io_mem (v := v) g2.1 hv
      have sub := fun v => io_sub (v := v) g2.1
      unfold sp1 acr
      rw [E0, E1, E3, Tj _ e]
      generalize hI : inL (tN N (cN N 3 d) (cN N 0 c)) (100 + (c : Int)) = I at *
      generalize hO : outL (tN N (cN N 3 d) (cN N 0 c)) (100 + (c : Int)) = O at *
      have vI : ∀ n : Nat, (n : Int) ∈ I → ly1 (ly1 (tN N (cN N 3 d)) O) I n = I := fun n z => if_pos z
      have vO : ∀ n : Nat, n < 16 → (n : Int) ∈ O → ly1 (ly1 (tN N (cN N 3 d)) O) I n = O := fun n hn z => by
        unfold ly1
        rw [if_neg (fun w => hex n hn ⟨w, z⟩), if_pos z]
      have vT : ∀ n : Nat, n < 16 → (n : Int) ∉ tN N (cN N 3 d) (cN N 0 c) → ly1 (ly1 (tN N (cN N 3 d)) O) I n = tN N (cN N 3 d) n := fun n hn z => by
        unfold ly1
        rw [if_neg (fun w => z ((sub _).1 w)), if_neg (fun w => z ((sub _).2 w))]
      by_cases z : (cN N 0 d : Int) ∈ tN N (cN N 3 d) (cN N 0 c)
      · have q2 := q
        rw [gx.2.2.2.1 _ (by omega) z] at q2
        have xy : ((ly1 (ly1 (tN N (cN N 3 d)) O) I (cN N 0 c) = I ∧ ly1 (ly1 (tN N (cN N 3 d)) O) I (cN N 1 c) = O) ∨ (ly1 (ly1 (tN N (cN N 3 d)) O) I (cN N 0 c) = O ∧ ly1 (ly1 (tN N (cN N 3 d)) O) I (cN N 1 c) = I)) := by
          rcases g2.2.2 with w | w
          · exact Or.inl ⟨vI _ w.1, vO _ wc.1.2 w.2⟩
          · exact Or.inr ⟨vO _ wc.1.1 w.1, vI _ w.2⟩
        rcases (mem _ (by omega)).mp z with z1 | z1 <;> rcases (mem _ (by omega)).mp q2 with z2 | z2
        · left; rw [vI _ z1]; exact z2
        · right
          refine ⟨e, ?_⟩
          rcases xy with ⟨w1, w2⟩ | ⟨w1, w2⟩
          · rw [w1, w2]; exact Or.inl ⟨z1, z2⟩
          · rw [w1, w2]; exact Or.inr ⟨z1, z2⟩
        · right
          refine ⟨e, ?_⟩
          rcases xy with ⟨w1, w2⟩ | ⟨w1, w2⟩
          · rw [w1, w2]; exact Or.inr ⟨z1, z2⟩
          · rw [w1, w2]; exact Or.inl ⟨z1, z2⟩
        · left; rw [vO _ (by omega) z1]; exact z2
      · left
        rw [vT _ (by omega) z]; exact q
    · left
      unfold sp1
      rw [E0, E1, E3, Tj' _ e]; exact q
theorem on1_self (o : okB N) {i n : Nat} (hi : i < 5) (hn : n < 16) : on1 N i n n = true := decide_eq_true (o.2.2.2.2.2 i n hi hn).2.2.1
theorem INV_ok (h : INV N) : okB N := okB_in h.1 h.2.1
theorem INV_nm (h : INV N) {g : Nat → Nat} (hg : ∀ n, g n < 16) : INV (setNm N g) := ⟨⟨h.1.1, h.1.2.1, h.1.2.2.1, hg, h.1.2.2.2.2⟩, h.2⟩
theorem INV_lift (h : INV N) {c : Nat} (hc : c < ldN N) (hr : riN N + 600 ≤ 1000000000) (hl : loN N + 300 ≤ 1000000000) : INV (liftN N c).1 ∧ nN (liftN N c).1 = nN N ∧ ldN (liftN N c).1 = ldN N ∧ riN (liftN N c).1 ≤ riN N + 600 ∧ loN (liftN N c).1 ≤ loN N + 300 ∧ ∀ d, (liftN N c).2 = some d → d < ldN N := by
  have b := h.1.1
  have okc := h.1.2.1 c hc
  unfold liftN
  by_cases ht : cN N 2 c = 0
  · rw [if_pos ht]
    have s := SI_lift h hc ht
    have s' : ∀ j, cN N 3 c + 1 = j + 1 → SI (lift1N N c) j (cN N 0 c) (cN N 1 c) := by
      intro j ej
      have ej2 : j = cN N 3 c := by omega
      rw [ej2]
      exact s
    have r := schN_inv (x := cN N 0 c) (y := cN N 1 c) (cN N 3 c + 1) (N := lift1N N c) (by omega) (fun e => by omega) s' (by show riN N + _ ≤ _; omega) (by show loN N + _ ≤ _; omega)
    have er : schN (lift1N N c) (cN N 0 c) (cN N 1 c) (cN N 3 c + 1) = lift2N N c := rfl
    rw [er] at r
    obtain ⟨k1, k2, k3, k4, k5, k6, k7, k8⟩ := r
    have k2' : nN (lift2N N c).1 = nN N := k2
    have k3' : ldN (lift2N N c).1 = ldN N := k3
    have k4' : riN (lift2N N c).1 ≤ riN N + 120 * (cN N 3 c + 1) := k4
    have k5' : loN (lift2N N c).1 ≤ loN N + 60 * (cN N 3 c + 1) := k5
    have k8' : ∀ d, (lift2N N c).2 = some d → d < ldN N := k8
    split
    · exact ⟨k1, k2', k3', by omega, by omega, k8'⟩
    · have zz : losZ (lift2N N c).1 (cN N 0 c) (cN N 1 c) < nN (lift2N N c).1 := by
        unfold losZ
        rw [k2']
        split
        · exact okc.1
        · exact okc.2.1
      have fr := frN_ok (N := (lift2N N c).1) (by omega) zz (on1_self (INV_ok k1) (by omega) (by omega))
      refine ⟨INV_nm k1 (fun n => ?_), k2', k3', by show riN (lift2N N c).1 ≤ _; omega, by show loN (lift2N N c).1 ≤ _; omega, fun d hd => by cases hd⟩
      split
      · exact fr.1
      · exact k1.1.2.2.2.1 n
  · rw [if_neg ht]
    refine ⟨⟨ok0_lift0 h.1 c, fun j hj => ?_, h.2.2.1, fun d hd h1 => ?_⟩, rfl, rfl, by show riN N ≤ _; omega, by show loN N ≤ _; omega, fun d hd => by cases hd⟩
    · show FL (cN N 0) (cN N 1) (tcs (lift0N N c) j) (tN N j)
      refine FL_K (h.2.1 j hj) (fun d => ?_)
      unfold tcs
      rw [lift0_c, lift0_c, if_neg (show ¬ ((3 : Nat) = 2 ∧ d = c) by omega)]
      by_cases e : d = c
      · subst e
        rw [if_pos ⟨rfl, rfl⟩]
        exact ⟨fun z => by have := z.2.1; omega, fun z => absurd z.2.1 ht⟩
      · rw [if_neg (fun q => e q.2)]
        exact Iff.rfl
    · rw [lift0_c] at h1
      by_cases e : d = c
      · rw [if_pos ⟨rfl, e⟩] at h1; omega
      · rw [if_neg (fun q => e q.2)] at h1
        exact h.2.2.2 d hd h1
end AC
