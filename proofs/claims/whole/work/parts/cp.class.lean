theorem cs_a {n m : Nat} {L L' : List pm_C} {X : Option pm_C} (hl : L.length = n) (h : L'[m]? = X) : (L ++ L')[n + m]? = X := by
  rw [List.getElem?_append_right (by omega), hl, Nat.add_sub_cancel_left]
  exact h
theorem cs_b {n j : Nat} {L L' : List pm_C} {X : Option pm_C} (hl : L.length = n) (hj : j < n) (h : L[j]? = X) : (L ++ L')[j]? = X := by
  rw [List.getElem?_append_left (by omega)]
  exact h
theorem cs_l1 (h : Nat) : (ctL1 h).length = 20 := rfl
theorem cs_l2 (h : Nat) : (ctL2 h).length = 5 := rfl
theorem cs_l3 (h : Nat) : (ctL3 h).length = 2 := rfl
theorem ct_st_h {f : pm_H} {a h j ci : Nat} {L : List pm_C} {fs : List pm_V} {X : Option pm_C} (ha : a < h) (hL : L[j]? = X) (hX : X.isSome = true) : ct_st f a h L ci fs (h + j) = X := by
  obtain ⟨Y, rfl⟩ := Option.isSome_iff_exists.mp hX
  exact ct_st_g ha hL
theorem cs_some {L : List pm_C} {i n : Nat} (hl : L.length = n) (hi : i < n) : (L[i]?).isSome = true := by
  rw [List.getElem?_eq_getElem (by omega)]
  rfl
set_option maxHeartbeats 4000000 in
theorem cs_0 (f : pm_H) (c : Nat) : ct_cf f c (c + 1) (c + 1 + 0) = some (.inr (.inl (1, 8, (va_up (va_up (va_up (va_up (va_up (va_up (va_up (va_up (fun _ => none) 0 (some (c + 1 + 73))) 1 (some (c + 1 + 94))) 2 (some (c + 1 + 115))) 3 (some (c + 1 + 136))) 4 (some (c + 1 + 157))) 5 (some (c + 1 + 178))) 6 (some (c + 1 + 199))) 7 (some (c + 1 + 220)))))) := by
  unfold ct_cf
  refine ct_st_g (by omega) ?_
  refine cs_b (n := 220) (by simp only [List.length_append, List.length_cons, List.length_nil, cs_l1, cs_l2, cs_l3, Nat.reduceAdd, Nat.zero_add]) (by omega) ?_
  refine cs_b (n := 199) (by simp only [List.length_append, List.length_cons, List.length_nil, cs_l1, cs_l2, cs_l3, Nat.reduceAdd, Nat.zero_add]) (by omega) ?_
  refine cs_b (n := 178) (by simp only [List.length_append, List.length_cons, List.length_nil, cs_l1, cs_l2, cs_l3, Nat.reduceAdd, Nat.zero_add]) (by omega) ?_
  refine cs_b (n := 157) (by simp only [List.length_append, List.length_cons, List.length_nil, cs_l1, cs_l2, cs_l3, Nat.reduceAdd, Nat.zero_add]) (by omega) ?_
  refine cs_b (n := 136) (by simp only [List.length_append, List.length_cons, List.length_nil, cs_l1, cs_l2, cs_l3, Nat.reduceAdd, Nat.zero_add]) (by omega) ?_
  refine cs_b (n := 115) (by simp only [List.length_append, List.length_cons, List.length_nil, cs_l1, cs_l2, cs_l3, Nat.reduceAdd, Nat.zero_add]) (by omega) ?_
  refine cs_b (n := 94) (by simp only [List.length_append, List.length_cons, List.length_nil, cs_l1, cs_l2, cs_l3, Nat.reduceAdd, Nat.zero_add]) (by omega) ?_
  refine cs_b (n := 73) (by simp only [List.length_append, List.length_cons, List.length_nil, cs_l1, cs_l2, cs_l3, Nat.reduceAdd, Nat.zero_add]) (by omega) ?_
  refine cs_b (n := 70) (by simp only [List.length_append, List.length_cons, List.length_nil, cs_l1, cs_l2, cs_l3, Nat.reduceAdd, Nat.zero_add]) (by omega) ?_
  refine cs_b (n := 64) (by simp only [List.length_append, List.length_cons, List.length_nil, cs_l1, cs_l2, cs_l3, Nat.reduceAdd, Nat.zero_add]) (by omega) ?_
  refine cs_b (n := 43) (by simp only [List.length_append, List.length_cons, List.length_nil, cs_l1, cs_l2, cs_l3, Nat.reduceAdd, Nat.zero_add]) (by omega) ?_
  refine cs_b (n := 22) (by simp only [List.length_append, List.length_cons, List.length_nil, cs_l1, cs_l2, cs_l3, Nat.reduceAdd, Nat.zero_add]) (by omega) ?_
  refine cs_b (n := 1) (by simp only [List.length_append, List.length_cons, List.length_nil, cs_l1, cs_l2, cs_l3, Nat.reduceAdd, Nat.zero_add]) (by omega) ?_
  rfl
set_option maxHeartbeats 4000000 in
theorem cs_1 (f : pm_H) (c : Nat) : ∀ i, i < 21 → ct_cf f c (c + 1) (c + 1 + (1 + i)) = ((.inr (.inr (.inr (1, ctF1 (c + 1 + 2)))) :: ctL1 (c + 1 + 2)) : List pm_C)[i]? := by
  intro i hi
  unfold ct_cf
  refine ct_st_h (by omega) ?_ (cs_some (n := 21) (by simp only [List.length_append, List.length_cons, List.length_nil, cs_l1, cs_l2, cs_l3, Nat.reduceAdd, Nat.zero_add]) hi)
  refine cs_b (n := 220) (by simp only [List.length_append, List.length_cons, List.length_nil, cs_l1, cs_l2, cs_l3, Nat.reduceAdd, Nat.zero_add]) (by omega) ?_
  refine cs_b (n := 199) (by simp only [List.length_append, List.length_cons, List.length_nil, cs_l1, cs_l2, cs_l3, Nat.reduceAdd, Nat.zero_add]) (by omega) ?_
  refine cs_b (n := 178) (by simp only [List.length_append, List.length_cons, List.length_nil, cs_l1, cs_l2, cs_l3, Nat.reduceAdd, Nat.zero_add]) (by omega) ?_
  refine cs_b (n := 157) (by simp only [List.length_append, List.length_cons, List.length_nil, cs_l1, cs_l2, cs_l3, Nat.reduceAdd, Nat.zero_add]) (by omega) ?_
  refine cs_b (n := 136) (by simp only [List.length_append, List.length_cons, List.length_nil, cs_l1, cs_l2, cs_l3, Nat.reduceAdd, Nat.zero_add]) (by omega) ?_
  refine cs_b (n := 115) (by simp only [List.length_append, List.length_cons, List.length_nil, cs_l1, cs_l2, cs_l3, Nat.reduceAdd, Nat.zero_add]) (by omega) ?_
  refine cs_b (n := 94) (by simp only [List.length_append, List.length_cons, List.length_nil, cs_l1, cs_l2, cs_l3, Nat.reduceAdd, Nat.zero_add]) (by omega) ?_
  refine cs_b (n := 73) (by simp only [List.length_append, List.length_cons, List.length_nil, cs_l1, cs_l2, cs_l3, Nat.reduceAdd, Nat.zero_add]) (by omega) ?_
  refine cs_b (n := 70) (by simp only [List.length_append, List.length_cons, List.length_nil, cs_l1, cs_l2, cs_l3, Nat.reduceAdd, Nat.zero_add]) (by omega) ?_
  refine cs_b (n := 64) (by simp only [List.length_append, List.length_cons, List.length_nil, cs_l1, cs_l2, cs_l3, Nat.reduceAdd, Nat.zero_add]) (by omega) ?_
  refine cs_b (n := 43) (by simp only [List.length_append, List.length_cons, List.length_nil, cs_l1, cs_l2, cs_l3, Nat.reduceAdd, Nat.zero_add]) (by omega) ?_
  refine cs_b (n := 22) (by simp only [List.length_append, List.length_cons, List.length_nil, cs_l1, cs_l2, cs_l3, Nat.reduceAdd, Nat.zero_add]) (by omega) ?_
  exact cs_a (n := 1) (by simp only [List.length_append, List.length_cons, List.length_nil, cs_l1, cs_l2, cs_l3, Nat.reduceAdd, Nat.zero_add]) rfl
theorem cs_n1 (f : pm_H) (c : Nat) : cn_at (ct_cf f c (c + 1)) (c + 2) (fun _ _ => 0) (fun _ _ => 0) (fun _ => 0) (fun _ => 0) := by
  have e : c + 2 = c + 1 + 1 := by omega
  rw [e]
  refine ct_net ?_ fun j hj => ?_
  · exact cs_1 f c 0 (by omega)
  · have h := cs_1 f c (j + 1) (by omega)
    rw [show c + 1 + (1 + (j + 1)) = c + 1 + 1 + 1 + j by omega] at h
    exact h
set_option maxHeartbeats 4000000 in
theorem cs_2 (f : pm_H) (c : Nat) : ∀ i, i < 21 → ct_cf f c (c + 1) (c + 1 + (22 + i)) = ((.inr (.inr (.inr (1, ctF1 (c + 1 + 23)))) :: ctL1 (c + 1 + 23)) : List pm_C)[i]? := by
  intro i hi
  unfold ct_cf
  refine ct_st_h (by omega) ?_ (cs_some (n := 21) (by simp only [List.length_append, List.length_cons, List.length_nil, cs_l1, cs_l2, cs_l3, Nat.reduceAdd, Nat.zero_add]) hi)
  refine cs_b (n := 220) (by simp only [List.length_append, List.length_cons, List.length_nil, cs_l1, cs_l2, cs_l3, Nat.reduceAdd, Nat.zero_add]) (by omega) ?_
  refine cs_b (n := 199) (by simp only [List.length_append, List.length_cons, List.length_nil, cs_l1, cs_l2, cs_l3, Nat.reduceAdd, Nat.zero_add]) (by omega) ?_
  refine cs_b (n := 178) (by simp only [List.length_append, List.length_cons, List.length_nil, cs_l1, cs_l2, cs_l3, Nat.reduceAdd, Nat.zero_add]) (by omega) ?_
  refine cs_b (n := 157) (by simp only [List.length_append, List.length_cons, List.length_nil, cs_l1, cs_l2, cs_l3, Nat.reduceAdd, Nat.zero_add]) (by omega) ?_
  refine cs_b (n := 136) (by simp only [List.length_append, List.length_cons, List.length_nil, cs_l1, cs_l2, cs_l3, Nat.reduceAdd, Nat.zero_add]) (by omega) ?_
  refine cs_b (n := 115) (by simp only [List.length_append, List.length_cons, List.length_nil, cs_l1, cs_l2, cs_l3, Nat.reduceAdd, Nat.zero_add]) (by omega) ?_
  refine cs_b (n := 94) (by simp only [List.length_append, List.length_cons, List.length_nil, cs_l1, cs_l2, cs_l3, Nat.reduceAdd, Nat.zero_add]) (by omega) ?_
  refine cs_b (n := 73) (by simp only [List.length_append, List.length_cons, List.length_nil, cs_l1, cs_l2, cs_l3, Nat.reduceAdd, Nat.zero_add]) (by omega) ?_
  refine cs_b (n := 70) (by simp only [List.length_append, List.length_cons, List.length_nil, cs_l1, cs_l2, cs_l3, Nat.reduceAdd, Nat.zero_add]) (by omega) ?_
  refine cs_b (n := 64) (by simp only [List.length_append, List.length_cons, List.length_nil, cs_l1, cs_l2, cs_l3, Nat.reduceAdd, Nat.zero_add]) (by omega) ?_
  refine cs_b (n := 43) (by simp only [List.length_append, List.length_cons, List.length_nil, cs_l1, cs_l2, cs_l3, Nat.reduceAdd, Nat.zero_add]) (by omega) ?_
  exact cs_a (n := 22) (by simp only [List.length_append, List.length_cons, List.length_nil, cs_l1, cs_l2, cs_l3, Nat.reduceAdd, Nat.zero_add]) rfl
theorem cs_n2 (f : pm_H) (c : Nat) : cn_at (ct_cf f c (c + 1)) (c + 23) (fun _ _ => 0) (fun _ _ => 0) (fun _ => 0) (fun _ => 0) := by
  have e : c + 23 = c + 1 + 22 := by omega
  rw [e]
  refine ct_net ?_ fun j hj => ?_
  · exact cs_2 f c 0 (by omega)
  · have h := cs_2 f c (j + 1) (by omega)
    rw [show c + 1 + (22 + (j + 1)) = c + 1 + 22 + 1 + j by omega] at h
    exact h
set_option maxHeartbeats 4000000 in
theorem cs_3 (f : pm_H) (c : Nat) : ∀ i, i < 21 → ct_cf f c (c + 1) (c + 1 + (43 + i)) = ((.inr (.inr (.inr (1, ctF1 (c + 1 + 44)))) :: ctL1 (c + 1 + 44)) : List pm_C)[i]? := by
  intro i hi
  unfold ct_cf
  refine ct_st_h (by omega) ?_ (cs_some (n := 21) (by simp only [List.length_append, List.length_cons, List.length_nil, cs_l1, cs_l2, cs_l3, Nat.reduceAdd, Nat.zero_add]) hi)
  refine cs_b (n := 220) (by simp only [List.length_append, List.length_cons, List.length_nil, cs_l1, cs_l2, cs_l3, Nat.reduceAdd, Nat.zero_add]) (by omega) ?_
  refine cs_b (n := 199) (by simp only [List.length_append, List.length_cons, List.length_nil, cs_l1, cs_l2, cs_l3, Nat.reduceAdd, Nat.zero_add]) (by omega) ?_
  refine cs_b (n := 178) (by simp only [List.length_append, List.length_cons, List.length_nil, cs_l1, cs_l2, cs_l3, Nat.reduceAdd, Nat.zero_add]) (by omega) ?_
  refine cs_b (n := 157) (by simp only [List.length_append, List.length_cons, List.length_nil, cs_l1, cs_l2, cs_l3, Nat.reduceAdd, Nat.zero_add]) (by omega) ?_
  refine cs_b (n := 136) (by simp only [List.length_append, List.length_cons, List.length_nil, cs_l1, cs_l2, cs_l3, Nat.reduceAdd, Nat.zero_add]) (by omega) ?_
  refine cs_b (n := 115) (by simp only [List.length_append, List.length_cons, List.length_nil, cs_l1, cs_l2, cs_l3, Nat.reduceAdd, Nat.zero_add]) (by omega) ?_
  refine cs_b (n := 94) (by simp only [List.length_append, List.length_cons, List.length_nil, cs_l1, cs_l2, cs_l3, Nat.reduceAdd, Nat.zero_add]) (by omega) ?_
  refine cs_b (n := 73) (by simp only [List.length_append, List.length_cons, List.length_nil, cs_l1, cs_l2, cs_l3, Nat.reduceAdd, Nat.zero_add]) (by omega) ?_
  refine cs_b (n := 70) (by simp only [List.length_append, List.length_cons, List.length_nil, cs_l1, cs_l2, cs_l3, Nat.reduceAdd, Nat.zero_add]) (by omega) ?_
  refine cs_b (n := 64) (by simp only [List.length_append, List.length_cons, List.length_nil, cs_l1, cs_l2, cs_l3, Nat.reduceAdd, Nat.zero_add]) (by omega) ?_
  exact cs_a (n := 43) (by simp only [List.length_append, List.length_cons, List.length_nil, cs_l1, cs_l2, cs_l3, Nat.reduceAdd, Nat.zero_add]) rfl
theorem cs_n3 (f : pm_H) (c : Nat) : cn_at (ct_cf f c (c + 1)) (c + 44) (fun _ _ => 0) (fun _ _ => 0) (fun _ => 0) (fun _ => 0) := by
  have e : c + 44 = c + 1 + 43 := by omega
  rw [e]
  refine ct_net ?_ fun j hj => ?_
  · exact cs_3 f c 0 (by omega)
  · have h := cs_3 f c (j + 1) (by omega)
    rw [show c + 1 + (43 + (j + 1)) = c + 1 + 43 + 1 + j by omega] at h
    exact h
set_option maxHeartbeats 4000000 in
theorem cs_4 (f : pm_H) (c : Nat) : ∀ i, i < 6 → ct_cf f c (c + 1) (c + 1 + (64 + i)) = ((.inr (.inr (.inr (2, ctF2 (c + 1 + 65)))) :: ctL2 (c + 1 + 65)) : List pm_C)[i]? := by
  intro i hi
  unfold ct_cf
  refine ct_st_h (by omega) ?_ (cs_some (n := 6) (by simp only [List.length_append, List.length_cons, List.length_nil, cs_l1, cs_l2, cs_l3, Nat.reduceAdd, Nat.zero_add]) hi)
  refine cs_b (n := 220) (by simp only [List.length_append, List.length_cons, List.length_nil, cs_l1, cs_l2, cs_l3, Nat.reduceAdd, Nat.zero_add]) (by omega) ?_
  refine cs_b (n := 199) (by simp only [List.length_append, List.length_cons, List.length_nil, cs_l1, cs_l2, cs_l3, Nat.reduceAdd, Nat.zero_add]) (by omega) ?_
  refine cs_b (n := 178) (by simp only [List.length_append, List.length_cons, List.length_nil, cs_l1, cs_l2, cs_l3, Nat.reduceAdd, Nat.zero_add]) (by omega) ?_
  refine cs_b (n := 157) (by simp only [List.length_append, List.length_cons, List.length_nil, cs_l1, cs_l2, cs_l3, Nat.reduceAdd, Nat.zero_add]) (by omega) ?_
  refine cs_b (n := 136) (by simp only [List.length_append, List.length_cons, List.length_nil, cs_l1, cs_l2, cs_l3, Nat.reduceAdd, Nat.zero_add]) (by omega) ?_
  refine cs_b (n := 115) (by simp only [List.length_append, List.length_cons, List.length_nil, cs_l1, cs_l2, cs_l3, Nat.reduceAdd, Nat.zero_add]) (by omega) ?_
  refine cs_b (n := 94) (by simp only [List.length_append, List.length_cons, List.length_nil, cs_l1, cs_l2, cs_l3, Nat.reduceAdd, Nat.zero_add]) (by omega) ?_
  refine cs_b (n := 73) (by simp only [List.length_append, List.length_cons, List.length_nil, cs_l1, cs_l2, cs_l3, Nat.reduceAdd, Nat.zero_add]) (by omega) ?_
  refine cs_b (n := 70) (by simp only [List.length_append, List.length_cons, List.length_nil, cs_l1, cs_l2, cs_l3, Nat.reduceAdd, Nat.zero_add]) (by omega) ?_
  exact cs_a (n := 64) (by simp only [List.length_append, List.length_cons, List.length_nil, cs_l1, cs_l2, cs_l3, Nat.reduceAdd, Nat.zero_add]) rfl
set_option maxHeartbeats 4000000 in
theorem cs_5 (f : pm_H) (c : Nat) : ∀ i, i < 3 → ct_cf f c (c + 1) (c + 1 + (70 + i)) = ((.inr (.inr (.inr (3, ctF3 (c + 1 + 71)))) :: ctL3 (c + 1 + 71)) : List pm_C)[i]? := by
  intro i hi
  unfold ct_cf
  refine ct_st_h (by omega) ?_ (cs_some (n := 3) (by simp only [List.length_append, List.length_cons, List.length_nil, cs_l1, cs_l2, cs_l3, Nat.reduceAdd, Nat.zero_add]) hi)
  refine cs_b (n := 220) (by simp only [List.length_append, List.length_cons, List.length_nil, cs_l1, cs_l2, cs_l3, Nat.reduceAdd, Nat.zero_add]) (by omega) ?_
  refine cs_b (n := 199) (by simp only [List.length_append, List.length_cons, List.length_nil, cs_l1, cs_l2, cs_l3, Nat.reduceAdd, Nat.zero_add]) (by omega) ?_
  refine cs_b (n := 178) (by simp only [List.length_append, List.length_cons, List.length_nil, cs_l1, cs_l2, cs_l3, Nat.reduceAdd, Nat.zero_add]) (by omega) ?_
  refine cs_b (n := 157) (by simp only [List.length_append, List.length_cons, List.length_nil, cs_l1, cs_l2, cs_l3, Nat.reduceAdd, Nat.zero_add]) (by omega) ?_
  refine cs_b (n := 136) (by simp only [List.length_append, List.length_cons, List.length_nil, cs_l1, cs_l2, cs_l3, Nat.reduceAdd, Nat.zero_add]) (by omega) ?_
  refine cs_b (n := 115) (by simp only [List.length_append, List.length_cons, List.length_nil, cs_l1, cs_l2, cs_l3, Nat.reduceAdd, Nat.zero_add]) (by omega) ?_
  refine cs_b (n := 94) (by simp only [List.length_append, List.length_cons, List.length_nil, cs_l1, cs_l2, cs_l3, Nat.reduceAdd, Nat.zero_add]) (by omega) ?_
  refine cs_b (n := 73) (by simp only [List.length_append, List.length_cons, List.length_nil, cs_l1, cs_l2, cs_l3, Nat.reduceAdd, Nat.zero_add]) (by omega) ?_
  exact cs_a (n := 70) (by simp only [List.length_append, List.length_cons, List.length_nil, cs_l1, cs_l2, cs_l3, Nat.reduceAdd, Nat.zero_add]) rfl
set_option maxHeartbeats 4000000 in
theorem cs_6 (f : pm_H) (c : Nat) : ∀ i, i < 21 → ct_cf f c (c + 1) (c + 1 + (73 + i)) = ((.inr (.inr (.inr (1, ctF1 (c + 1 + 74)))) :: ctL1 (c + 1 + 74)) : List pm_C)[i]? := by
  intro i hi
  unfold ct_cf
  refine ct_st_h (by omega) ?_ (cs_some (n := 21) (by simp only [List.length_append, List.length_cons, List.length_nil, cs_l1, cs_l2, cs_l3, Nat.reduceAdd, Nat.zero_add]) hi)
  refine cs_b (n := 220) (by simp only [List.length_append, List.length_cons, List.length_nil, cs_l1, cs_l2, cs_l3, Nat.reduceAdd, Nat.zero_add]) (by omega) ?_
  refine cs_b (n := 199) (by simp only [List.length_append, List.length_cons, List.length_nil, cs_l1, cs_l2, cs_l3, Nat.reduceAdd, Nat.zero_add]) (by omega) ?_
  refine cs_b (n := 178) (by simp only [List.length_append, List.length_cons, List.length_nil, cs_l1, cs_l2, cs_l3, Nat.reduceAdd, Nat.zero_add]) (by omega) ?_
  refine cs_b (n := 157) (by simp only [List.length_append, List.length_cons, List.length_nil, cs_l1, cs_l2, cs_l3, Nat.reduceAdd, Nat.zero_add]) (by omega) ?_
  refine cs_b (n := 136) (by simp only [List.length_append, List.length_cons, List.length_nil, cs_l1, cs_l2, cs_l3, Nat.reduceAdd, Nat.zero_add]) (by omega) ?_
  refine cs_b (n := 115) (by simp only [List.length_append, List.length_cons, List.length_nil, cs_l1, cs_l2, cs_l3, Nat.reduceAdd, Nat.zero_add]) (by omega) ?_
  refine cs_b (n := 94) (by simp only [List.length_append, List.length_cons, List.length_nil, cs_l1, cs_l2, cs_l3, Nat.reduceAdd, Nat.zero_add]) (by omega) ?_
  exact cs_a (n := 73) (by simp only [List.length_append, List.length_cons, List.length_nil, cs_l1, cs_l2, cs_l3, Nat.reduceAdd, Nat.zero_add]) rfl
theorem cs_n6 (f : pm_H) (c : Nat) : cn_at (ct_cf f c (c + 1)) (c + 74) (fun _ _ => 0) (fun _ _ => 0) (fun _ => 0) (fun _ => 0) := by
  have e : c + 74 = c + 1 + 73 := by omega
  rw [e]
  refine ct_net ?_ fun j hj => ?_
  · exact cs_6 f c 0 (by omega)
  · have h := cs_6 f c (j + 1) (by omega)
    rw [show c + 1 + (73 + (j + 1)) = c + 1 + 73 + 1 + j by omega] at h
    exact h
set_option maxHeartbeats 4000000 in
theorem cs_7 (f : pm_H) (c : Nat) : ∀ i, i < 21 → ct_cf f c (c + 1) (c + 1 + (94 + i)) = ((.inr (.inr (.inr (1, ctF1 (c + 1 + 95)))) :: ctL1 (c + 1 + 95)) : List pm_C)[i]? := by
  intro i hi
  unfold ct_cf
  refine ct_st_h (by omega) ?_ (cs_some (n := 21) (by simp only [List.length_append, List.length_cons, List.length_nil, cs_l1, cs_l2, cs_l3, Nat.reduceAdd, Nat.zero_add]) hi)
  refine cs_b (n := 220) (by simp only [List.length_append, List.length_cons, List.length_nil, cs_l1, cs_l2, cs_l3, Nat.reduceAdd, Nat.zero_add]) (by omega) ?_
  refine cs_b (n := 199) (by simp only [List.length_append, List.length_cons, List.length_nil, cs_l1, cs_l2, cs_l3, Nat.reduceAdd, Nat.zero_add]) (by omega) ?_
  refine cs_b (n := 178) (by simp only [List.length_append, List.length_cons, List.length_nil, cs_l1, cs_l2, cs_l3, Nat.reduceAdd, Nat.zero_add]) (by omega) ?_
  refine cs_b (n := 157) (by simp only [List.length_append, List.length_cons, List.length_nil, cs_l1, cs_l2, cs_l3, Nat.reduceAdd, Nat.zero_add]) (by omega) ?_
  refine cs_b (n := 136) (by simp only [List.length_append, List.length_cons, List.length_nil, cs_l1, cs_l2, cs_l3, Nat.reduceAdd, Nat.zero_add]) (by omega) ?_
  refine cs_b (n := 115) (by simp only [List.length_append, List.length_cons, List.length_nil, cs_l1, cs_l2, cs_l3, Nat.reduceAdd, Nat.zero_add]) (by omega) ?_
  exact cs_a (n := 94) (by simp only [List.length_append, List.length_cons, List.length_nil, cs_l1, cs_l2, cs_l3, Nat.reduceAdd, Nat.zero_add]) rfl
theorem cs_n7 (f : pm_H) (c : Nat) : cn_at (ct_cf f c (c + 1)) (c + 95) (fun _ _ => 0) (fun _ _ => 0) (fun _ => 0) (fun _ => 0) := by
  have e : c + 95 = c + 1 + 94 := by omega
  rw [e]
  refine ct_net ?_ fun j hj => ?_
  · exact cs_7 f c 0 (by omega)
  · have h := cs_7 f c (j + 1) (by omega)
    rw [show c + 1 + (94 + (j + 1)) = c + 1 + 94 + 1 + j by omega] at h
    exact h
set_option maxHeartbeats 4000000 in
theorem cs_8 (f : pm_H) (c : Nat) : ∀ i, i < 21 → ct_cf f c (c + 1) (c + 1 + (115 + i)) = ((.inr (.inr (.inr (1, ctF1 (c + 1 + 116)))) :: ctL1 (c + 1 + 116)) : List pm_C)[i]? := by
  intro i hi
  unfold ct_cf
  refine ct_st_h (by omega) ?_ (cs_some (n := 21) (by simp only [List.length_append, List.length_cons, List.length_nil, cs_l1, cs_l2, cs_l3, Nat.reduceAdd, Nat.zero_add]) hi)
  refine cs_b (n := 220) (by simp only [List.length_append, List.length_cons, List.length_nil, cs_l1, cs_l2, cs_l3, Nat.reduceAdd, Nat.zero_add]) (by omega) ?_
  refine cs_b (n := 199) (by simp only [List.length_append, List.length_cons, List.length_nil, cs_l1, cs_l2, cs_l3, Nat.reduceAdd, Nat.zero_add]) (by omega) ?_
  refine cs_b (n := 178) (by simp only [List.length_append, List.length_cons, List.length_nil, cs_l1, cs_l2, cs_l3, Nat.reduceAdd, Nat.zero_add]) (by omega) ?_
  refine cs_b (n := 157) (by simp only [List.length_append, List.length_cons, List.length_nil, cs_l1, cs_l2, cs_l3, Nat.reduceAdd, Nat.zero_add]) (by omega) ?_
  refine cs_b (n := 136) (by simp only [List.length_append, List.length_cons, List.length_nil, cs_l1, cs_l2, cs_l3, Nat.reduceAdd, Nat.zero_add]) (by omega) ?_
  exact cs_a (n := 115) (by simp only [List.length_append, List.length_cons, List.length_nil, cs_l1, cs_l2, cs_l3, Nat.reduceAdd, Nat.zero_add]) rfl
theorem cs_n8 (f : pm_H) (c : Nat) : cn_at (ct_cf f c (c + 1)) (c + 116) (fun _ _ => 0) (fun _ _ => 0) (fun _ => 0) (fun _ => 0) := by
  have e : c + 116 = c + 1 + 115 := by omega
  rw [e]
  refine ct_net ?_ fun j hj => ?_
  · exact cs_8 f c 0 (by omega)
  · have h := cs_8 f c (j + 1) (by omega)
    rw [show c + 1 + (115 + (j + 1)) = c + 1 + 115 + 1 + j by omega] at h
    exact h
set_option maxHeartbeats 4000000 in
theorem cs_9 (f : pm_H) (c : Nat) : ∀ i, i < 21 → ct_cf f c (c + 1) (c + 1 + (136 + i)) = ((.inr (.inr (.inr (1, ctF1 (c + 1 + 137)))) :: ctL1 (c + 1 + 137)) : List pm_C)[i]? := by
  intro i hi
  unfold ct_cf
  refine ct_st_h (by omega) ?_ (cs_some (n := 21) (by simp only [List.length_append, List.length_cons, List.length_nil, cs_l1, cs_l2, cs_l3, Nat.reduceAdd, Nat.zero_add]) hi)
  refine cs_b (n := 220) (by simp only [List.length_append, List.length_cons, List.length_nil, cs_l1, cs_l2, cs_l3, Nat.reduceAdd, Nat.zero_add]) (by omega) ?_
  refine cs_b (n := 199) (by simp only [List.length_append, List.length_cons, List.length_nil, cs_l1, cs_l2, cs_l3, Nat.reduceAdd, Nat.zero_add]) (by omega) ?_
  refine cs_b (n := 178) (by simp only [List.length_append, List.length_cons, List.length_nil, cs_l1, cs_l2, cs_l3, Nat.reduceAdd, Nat.zero_add]) (by omega) ?_
  refine cs_b (n := 157) (by simp only [List.length_append, List.length_cons, List.length_nil, cs_l1, cs_l2, cs_l3, Nat.reduceAdd, Nat.zero_add]) (by omega) ?_
  exact cs_a (n := 136) (by simp only [List.length_append, List.length_cons, List.length_nil, cs_l1, cs_l2, cs_l3, Nat.reduceAdd, Nat.zero_add]) rfl
theorem cs_n9 (f : pm_H) (c : Nat) : cn_at (ct_cf f c (c + 1)) (c + 137) (fun _ _ => 0) (fun _ _ => 0) (fun _ => 0) (fun _ => 0) := by
  have e : c + 137 = c + 1 + 136 := by omega
  rw [e]
  refine ct_net ?_ fun j hj => ?_
  · exact cs_9 f c 0 (by omega)
  · have h := cs_9 f c (j + 1) (by omega)
    rw [show c + 1 + (136 + (j + 1)) = c + 1 + 136 + 1 + j by omega] at h
    exact h
set_option maxHeartbeats 4000000 in
theorem cs_10 (f : pm_H) (c : Nat) : ∀ i, i < 21 → ct_cf f c (c + 1) (c + 1 + (157 + i)) = ((.inr (.inr (.inr (1, ctF1 (c + 1 + 158)))) :: ctL1 (c + 1 + 158)) : List pm_C)[i]? := by
  intro i hi
  unfold ct_cf
  refine ct_st_h (by omega) ?_ (cs_some (n := 21) (by simp only [List.length_append, List.length_cons, List.length_nil, cs_l1, cs_l2, cs_l3, Nat.reduceAdd, Nat.zero_add]) hi)
  refine cs_b (n := 220) (by simp only [List.length_append, List.length_cons, List.length_nil, cs_l1, cs_l2, cs_l3, Nat.reduceAdd, Nat.zero_add]) (by omega) ?_
  refine cs_b (n := 199) (by simp only [List.length_append, List.length_cons, List.length_nil, cs_l1, cs_l2, cs_l3, Nat.reduceAdd, Nat.zero_add]) (by omega) ?_
  refine cs_b (n := 178) (by simp only [List.length_append, List.length_cons, List.length_nil, cs_l1, cs_l2, cs_l3, Nat.reduceAdd, Nat.zero_add]) (by omega) ?_
  exact cs_a (n := 157) (by simp only [List.length_append, List.length_cons, List.length_nil, cs_l1, cs_l2, cs_l3, Nat.reduceAdd, Nat.zero_add]) rfl
theorem cs_n10 (f : pm_H) (c : Nat) : cn_at (ct_cf f c (c + 1)) (c + 158) (fun _ _ => 0) (fun _ _ => 0) (fun _ => 0) (fun _ => 0) := by
  have e : c + 158 = c + 1 + 157 := by omega
  rw [e]
  refine ct_net ?_ fun j hj => ?_
  · exact cs_10 f c 0 (by omega)
  · have h := cs_10 f c (j + 1) (by omega)
    rw [show c + 1 + (157 + (j + 1)) = c + 1 + 157 + 1 + j by omega] at h
    exact h
set_option maxHeartbeats 4000000 in
theorem cs_11 (f : pm_H) (c : Nat) : ∀ i, i < 21 → ct_cf f c (c + 1) (c + 1 + (178 + i)) = ((.inr (.inr (.inr (1, ctF1 (c + 1 + 179)))) :: ctL1 (c + 1 + 179)) : List pm_C)[i]? := by
  intro i hi
  unfold ct_cf
  refine ct_st_h (by omega) ?_ (cs_some (n := 21) (by simp only [List.length_append, List.length_cons, List.length_nil, cs_l1, cs_l2, cs_l3, Nat.reduceAdd, Nat.zero_add]) hi)
  refine cs_b (n := 220) (by simp only [List.length_append, List.length_cons, List.length_nil, cs_l1, cs_l2, cs_l3, Nat.reduceAdd, Nat.zero_add]) (by omega) ?_
  refine cs_b (n := 199) (by simp only [List.length_append, List.length_cons, List.length_nil, cs_l1, cs_l2, cs_l3, Nat.reduceAdd, Nat.zero_add]) (by omega) ?_
  exact cs_a (n := 178) (by simp only [List.length_append, List.length_cons, List.length_nil, cs_l1, cs_l2, cs_l3, Nat.reduceAdd, Nat.zero_add]) rfl
theorem cs_n11 (f : pm_H) (c : Nat) : cn_at (ct_cf f c (c + 1)) (c + 179) (fun _ _ => 0) (fun _ _ => 0) (fun _ => 0) (fun _ => 0) := by
  have e : c + 179 = c + 1 + 178 := by omega
  rw [e]
  refine ct_net ?_ fun j hj => ?_
  · exact cs_11 f c 0 (by omega)
  · have h := cs_11 f c (j + 1) (by omega)
    rw [show c + 1 + (178 + (j + 1)) = c + 1 + 178 + 1 + j by omega] at h
    exact h
set_option maxHeartbeats 4000000 in
theorem cs_12 (f : pm_H) (c : Nat) : ∀ i, i < 21 → ct_cf f c (c + 1) (c + 1 + (199 + i)) = ((.inr (.inr (.inr (1, ctF1 (c + 1 + 200)))) :: ctL1 (c + 1 + 200)) : List pm_C)[i]? := by
  intro i hi
  unfold ct_cf
  refine ct_st_h (by omega) ?_ (cs_some (n := 21) (by simp only [List.length_append, List.length_cons, List.length_nil, cs_l1, cs_l2, cs_l3, Nat.reduceAdd, Nat.zero_add]) hi)
  refine cs_b (n := 220) (by simp only [List.length_append, List.length_cons, List.length_nil, cs_l1, cs_l2, cs_l3, Nat.reduceAdd, Nat.zero_add]) (by omega) ?_
  exact cs_a (n := 199) (by simp only [List.length_append, List.length_cons, List.length_nil, cs_l1, cs_l2, cs_l3, Nat.reduceAdd, Nat.zero_add]) rfl
theorem cs_n12 (f : pm_H) (c : Nat) : cn_at (ct_cf f c (c + 1)) (c + 200) (fun _ _ => 0) (fun _ _ => 0) (fun _ => 0) (fun _ => 0) := by
  have e : c + 200 = c + 1 + 199 := by omega
  rw [e]
  refine ct_net ?_ fun j hj => ?_
  · exact cs_12 f c 0 (by omega)
  · have h := cs_12 f c (j + 1) (by omega)
    rw [show c + 1 + (199 + (j + 1)) = c + 1 + 199 + 1 + j by omega] at h
    exact h
set_option maxHeartbeats 4000000 in
theorem cs_13 (f : pm_H) (c : Nat) : ∀ i, i < 21 → ct_cf f c (c + 1) (c + 1 + (220 + i)) = ((.inr (.inr (.inr (1, ctF1 (c + 1 + 221)))) :: ctL1 (c + 1 + 221)) : List pm_C)[i]? := by
  intro i hi
  unfold ct_cf
  refine ct_st_h (by omega) ?_ (cs_some (n := 21) (by simp only [List.length_append, List.length_cons, List.length_nil, cs_l1, cs_l2, cs_l3, Nat.reduceAdd, Nat.zero_add]) hi)

  exact cs_a (n := 220) (by simp only [List.length_append, List.length_cons, List.length_nil, cs_l1, cs_l2, cs_l3, Nat.reduceAdd, Nat.zero_add]) rfl
theorem cs_n13 (f : pm_H) (c : Nat) : cn_at (ct_cf f c (c + 1)) (c + 221) (fun _ _ => 0) (fun _ _ => 0) (fun _ => 0) (fun _ => 0) := by
  have e : c + 221 = c + 1 + 220 := by omega
  rw [e]
  refine ct_net ?_ fun j hj => ?_
  · exact cs_13 f c 0 (by omega)
  · have h := cs_13 f c (j + 1) (by omega)
    rw [show c + 1 + (220 + (j + 1)) = c + 1 + 220 + 1 + j by omega] at h
    exact h
def cs_g (c : Nat) : Nat → Option Nat := va_up (va_up (va_up (va_up (va_up (va_up (va_up (va_up (fun _ => none) 0 (some (c + 1 + 73))) 1 (some (c + 1 + 94))) 2 (some (c + 1 + 115))) 3 (some (c + 1 + 136))) 4 (some (c + 1 + 157))) 5 (some (c + 1 + 178))) 6 (some (c + 1 + 199))) 7 (some (c + 1 + 220))
def cs_T : Nat → Int := fun j => if j = 2 then -1 else if j = 3 then -1 else 0
theorem cs_gi (c : Nat) : ∀ i, i < 8 → id i < 8 ∧ cs_g c i = some (c + 74 + 21 * id i) := by
  intro i hi
  refine ⟨hi, ?_⟩
  rcases (show i = 0 ∨ i = 1 ∨ i = 2 ∨ i = 3 ∨ i = 4 ∨ i = 5 ∨ i = 6 ∨ i = 7 by omega) with rfl | rfl | rfl | rfl | rfl | rfl | rfl | rfl <;> rfl
theorem cs_p (f : pm_H) (c : Nat) : ∀ i, i < 8 → exn (ct_cf f c (c + 1)) (c + 74 + 21 * i) := by
  intro i hi
  rcases (show i = 0 ∨ i = 1 ∨ i = 2 ∨ i = 3 ∨ i = 4 ∨ i = 5 ∨ i = 6 ∨ i = 7 by omega) with rfl | rfl | rfl | rfl | rfl | rfl | rfl | rfl
  · exact ⟨_, _, _, _, cs_n6 f c⟩
  · exact ⟨_, _, _, _, cs_n7 f c⟩
  · exact ⟨_, _, _, _, cs_n8 f c⟩
  · exact ⟨_, _, _, _, cs_n9 f c⟩
  · exact ⟨_, _, _, _, cs_n10 f c⟩
  · exact ⟨_, _, _, _, cs_n11 f c⟩
  · exact ⟨_, _, _, _, cs_n12 f c⟩
  · exact ⟨_, _, _, _, cs_n13 f c⟩
theorem cs_sv (f : pm_H) (c : Nat) : sv_at (ct_cf f c (c + 1)) (c + 65) (fun _ _ => 0) := by
  have e : c + 65 = c + 1 + 64 := by omega
  rw [e]
  refine ⟨cs_4 f c 0 (by omega), fun j hj => ?_⟩
  have h := cs_4 f c (j + 1) (by omega)
  rw [show c + 1 + (64 + (j + 1)) = c + 1 + 64 + 1 + j by omega] at h
  rw [h]
  rcases (show j = 0 ∨ j = 1 ∨ j = 2 ∨ j = 3 ∨ j = 4 by omega) with rfl | rfl | rfl | rfl | rfl <;> rfl
theorem cs_tp (f : pm_H) (c : Nat) : tp_at (ct_cf f c (c + 1)) (c + 71) (fun _ => 0) (fun _ => 0) cs_T := by
  have e : c + 71 = c + 1 + 70 := by omega
  rw [e]
  exact ⟨cs_5 f c 0 (by omega), cs_5 f c 1 (by omega), cs_5 f c 2 (by omega)⟩
theorem cs_at (f : pm_H) (c : Nat) : cf_at (ct_cf f c (c + 1)) c (cs_g c) id (fun _ => 0) (fun _ _ => 0) (fun _ => 0) (fun _ => 0) cs_T :=
  ⟨⟨ct_st_at, cs_0 f c⟩, ⟨cs_gi c, fun _ _ _ _ h => h⟩, ⟨⟨_, _, _, _, cs_n1 f c⟩, ⟨_, _, _, _, cs_n2 f c⟩, ⟨_, _, _, _, cs_n3 f c⟩, cs_p f c⟩, cs_sv f c, cs_tp f c⟩
/-- behind start(4): the class holds the first state -/
theorem cs_X (f : pm_H) (c : Nat) : pm_ex T_X1_start [.inr (.inl (some (c + 1 + 1))), .inl 4] (ct_cf f c (c + 1)) (fun v f' => ∃ z : Int, v = some (.inl z) ∧ (cX f' c x00 ∧ ∀ q, q < c → f' q = f q)) := by
  refine start_c (n := 4) (cs_n1 f c) (by omega) fun f' hk hr => ⟨_, rfl, ⟨_, _, _, _, _, _, _, cf_net (cs_at f c) (Or.inl rfl) hr (ck_exn hk), hk, ⟨rfl, fun N h => by cases h⟩, ⟨rfl, fun i hi => absurd hi (Nat.not_lt_zero _)⟩, rfl, ⟨rfl, fun j hj => absurd hj (Nat.not_lt_zero _)⟩, rfl⟩, fun q hq => ?_⟩
  exact (hr q (Or.inl (by omega))).trans (ct_st_lo (by omega) (by omega))
