def pm_as {α : Type} : List (Nat × α) → Nat → Option α
  | [], _ => none
  | (k, v) :: l, n => if n = k then some v else pm_as l n
theorem pm_as_mem {α : Type} {n : Nat} {v : α} : ∀ {l : List (Nat × α)}, pm_as l n = some v → (n, v) ∈ l
  | [], h => by cases h
  | (k, w) :: l, h => by
    unfold pm_as at h
    split at h
    · rename_i e
      cases h
      subst e
      exact List.mem_cons_self
    · exact List.mem_cons_of_mem _ (pm_as_mem h)
theorem pm_tabF {own : String} {l : List (Nat × Nat × Nat × Nat)} (h : ∀ q ∈ l, pm_FOK own q.1 q.2.1 q.2.2.1 q.2.2.2) : ∀ n ci k w, pm_as l n = some (ci, k, w) → pm_FOK own n ci k w := fun n ci k w e => h _ (pm_as_mem e)
theorem pm_tabK {sk : Nat → Nat} {own : String} {l : List (Nat × pm_V)} (h : ∀ q ∈ l, pm_KOK sk own q.1 q.2) : ∀ n v, pm_as l n = some v → pm_KOK sk own n v := fun n v e => h _ (pm_as_mem e)
theorem pm_tabC {la : Launch} {sk : Nat → Nat} {own : String} {d : Nat} {l : List (Nat × Nat × Option Nat × pm_T)} (h : ∀ q ∈ l, pm_COK la sk own d q.1 q.2.1 q.2.2.1 q.2.2.2) : ∀ n k ci T, pm_as l n = some (k, ci, T) → pm_COK la sk own d n k ci T := fun n k ci T e => h _ (pm_as_mem e)
/-- a callee's own words -/
def pm_YV (y : MethodName) (cc : ByteArray) (maxL : Nat) (ret : Option FieldType) : Prop := Cond.code y cc maxL ret ∈ pm_WS ∧ Cond.initialized y.cls ∈ pm_WS ∧ (y.cls ≠ "java/lang/invoke/MethodHandle" ∧ y.cls ≠ "java/lang/invoke/VarHandle") ∧ Cond.instanceMethod y ∈ pm_WS ∧ Cond.selects y.cls y y ∈ pm_WS
def pm_YS (y : MethodName) (cc : ByteArray) (maxL : Nat) (ret : Option FieldType) : Prop := Cond.code y cc maxL ret ∈ pm_WS ∧ Cond.initialized y.cls ∈ pm_WS ∧ (y.cls ≠ "java/lang/invoke/MethodHandle" ∧ y.cls ≠ "java/lang/invoke/VarHandle") ∧ Cond.static y ∈ pm_WS
theorem pm_cokV {l : Launch} {sk : Nat → Nat} {own : String} {d d' n k i : Nat} {T : pm_T} {y : MethodName} {cc : ByteArray} {maxL : Nat} {ret : Option FieldType} {q : vw_C} (hC : pm_Ct l sk y cc maxL ret d' T) (hy : pm_YV y cc maxL ret) (hd : d' < d) (hm : maxL ≤ 40) (hq : vwCl[i]? = some q) (hc : y.cls = q.1) (hk : 0 < k) (hp : (parseMethodDescriptor y.desc).map (fun d => d.parameters.length) = some (k - 1)) (hl : Cond.methodLink own n y ∈ pm_WS) : pm_COK l sk own d n k (some i) T :=
  Or.inr (Or.inr (Or.inr ⟨y, cc, maxL, ret, d', hC, hd, hm, hy.1, hy.2.1, hy.2.2.1, Or.inl ⟨i, q, rfl, hq, hc, hk, hp, hl, hy.2.2.2.1, hc ▸ hy.2.2.2.2⟩⟩))
theorem pm_cokS {l : Launch} {sk : Nat → Nat} {own : String} {d d' n k : Nat} {T : pm_T} {y : MethodName} {cc : ByteArray} {maxL : Nat} {ret : Option FieldType} (hC : pm_Ct l sk y cc maxL ret d' T) (hy : pm_YS y cc maxL ret) (hd : d' < d) (hm : maxL ≤ 40) (hp : (parseMethodDescriptor y.desc).map (fun d => d.parameters.length) = some k) (hl : Cond.methodLink own n y ∈ pm_WS ∨ ∃ host, Cond.methodLinkNest own n y host ∈ pm_NW) : pm_COK l sk own d n k none T :=
  Or.inr (Or.inr (Or.inr ⟨y, cc, maxL, ret, d', hC, hd, hm, hy.1, hy.2.1, hy.2.2.1, Or.inr (Or.inl ⟨rfl, hp, hy.2.2.2, hl⟩)⟩))
theorem pm_cokA {l : Launch} {sk : Nat → Nat} {own : String} {d n : Nat} (hd : 0 < d) (h1 : Cond.methodLink own n arraycopyName ∈ pm_WS) : pm_COK l sk own d n 5 none pm_acp :=
  Or.inl ⟨rfl, rfl, rfl, hd, h1, pm_WS_mem 490 (by decide +kernel) rfl, pm_WS_mem 489 (by decide +kernel) rfl, pm_WS_mem 131 (by decide +kernel) rfl⟩
theorem pm_cokX {l : Launch} {sk : Nat → Nat} {own : String} {d n : Nat} (hd : 0 < d) (h1 : Cond.methodLink own n Lib.Math.max.name ∈ pm_WS) : pm_COK l sk own d n 2 none pm_tmax :=
  Or.inr (Or.inl ⟨rfl, rfl, rfl, hd, h1, pm_WS_mem 673 (by decide +kernel) rfl, pm_WS_mem 136 (by decide +kernel) rfl, pm_WS_mem 674 (by decide +kernel) rfl⟩)
theorem pm_cokM {l : Launch} {sk : Nat → Nat} {own : String} {d n : Nat} (hd : 0 < d) (h1 : Cond.methodLink own n Lib.Math.min.name ∈ pm_WS) : pm_COK l sk own d n 2 none pm_tmin :=
  Or.inr (Or.inr (Or.inl ⟨rfl, rfl, rfl, hd, h1, pm_WS_mem 532 (by decide +kernel) rfl, pm_WS_mem 136 (by decide +kernel) rfl, pm_WS_mem 533 (by decide +kernel) rfl⟩))
theorem fX0_r11 : pm_FOK RX0 11 0 0 0 := ⟨(RX0, TX0, 2), rfl, by decide, Or.inl (pm_WS_mem 169 (by decide +kernel) rfl), (fun h => absurd h (by decide)), (fun h => absurd h (by decide))⟩
theorem fX0_r15 : pm_FOK RX0 15 0 1 1 := ⟨(RX0, TX0, 2), rfl, by decide, Or.inl (pm_WS_mem 170 (by decide +kernel) rfl), (fun _ => ⟨rfl, rfl⟩), (fun h => absurd h (by decide))⟩
def fX0 : Nat → Option (Nat × Nat × Nat) := pm_as [(11, 0, 0, 0), (15, 0, 1, 1)]
theorem fX0_ok : ∀ n ci k w, fX0 n = some (ci, k, w) → pm_FOK RX0 n ci k w := pm_tabF (by
    intro q hq
    simp only [List.mem_cons, List.not_mem_nil, or_false] at hq
    rcases hq with rfl | rfl
    · exact fX0_r11
    · exact fX0_r15)
theorem fX0_11 : fX0 11 = some (0, 0, 0) := rfl
theorem fX0_15 : fX0 15 = some (0, 1, 1) := rfl
theorem fX1_r9 : pm_FOK RX1 9 1 0 0 := ⟨(RX1, TX1, 17), rfl, by decide, Or.inl (pm_WS_mem 177 (by decide +kernel) rfl), (fun h => absurd h (by decide)), (fun h => absurd h (by decide))⟩
theorem fX1_r15 : pm_FOK RX1 15 1 1 0 := ⟨(RX1, TX1, 17), rfl, by decide, Or.inl (pm_WS_mem 180 (by decide +kernel) rfl), (fun h => absurd h (by decide)), (fun h => absurd h (by decide))⟩
theorem fX1_r18 : pm_FOK RX1 18 1 2 0 := ⟨(RX1, TX1, 17), rfl, by decide, Or.inl (pm_WS_mem 183 (by decide +kernel) rfl), (fun h => absurd h (by decide)), (fun h => absurd h (by decide))⟩
theorem fX1_r21 : pm_FOK RX1 21 1 3 0 := ⟨(RX1, TX1, 17), rfl, by decide, Or.inl (pm_WS_mem 186 (by decide +kernel) rfl), (fun h => absurd h (by decide)), (fun h => absurd h (by decide))⟩
theorem fX1_r24 : pm_FOK RX1 24 1 4 0 := ⟨(RX1, TX1, 17), rfl, by decide, Or.inl (pm_WS_mem 188 (by decide +kernel) rfl), (fun h => absurd h (by decide)), (fun h => absurd h (by decide))⟩
theorem fX1_r27 : pm_FOK RX1 27 1 5 0 := ⟨(RX1, TX1, 17), rfl, by decide, Or.inl (pm_WS_mem 191 (by decide +kernel) rfl), (fun h => absurd h (by decide)), (fun h => absurd h (by decide))⟩
theorem fX1_r30 : pm_FOK RX1 30 1 6 0 := ⟨(RX1, TX1, 17), rfl, by decide, Or.inl (pm_WS_mem 193 (by decide +kernel) rfl), (fun h => absurd h (by decide)), (fun h => absurd h (by decide))⟩
theorem fX1_r33 : pm_FOK RX1 33 1 7 0 := ⟨(RX1, TX1, 17), rfl, by decide, Or.inl (pm_WS_mem 195 (by decide +kernel) rfl), (fun h => absurd h (by decide)), (fun h => absurd h (by decide))⟩
theorem fX1_r38 : pm_FOK RX1 38 1 8 0 := ⟨(RX1, TX1, 17), rfl, by decide, Or.inl (pm_WS_mem 197 (by decide +kernel) rfl), (fun h => absurd h (by decide)), (fun h => absurd h (by decide))⟩
theorem fX1_r41 : pm_FOK RX1 41 1 9 0 := ⟨(RX1, TX1, 17), rfl, by decide, Or.inl (pm_WS_mem 198 (by decide +kernel) rfl), (fun h => absurd h (by decide)), (fun h => absurd h (by decide))⟩
theorem fX1_r45 : pm_FOK RX1 45 1 10 1 := ⟨(RX1, TX1, 17), rfl, by decide, Or.inl (pm_WS_mem 200 (by decide +kernel) rfl), (fun _ => ⟨rfl, rfl⟩), (fun h => absurd h (by decide))⟩
theorem fX1_r49 : pm_FOK RX1 49 1 11 1 := ⟨(RX1, TX1, 17), rfl, by decide, Or.inl (pm_WS_mem 203 (by decide +kernel) rfl), (fun _ => ⟨rfl, rfl⟩), (fun h => absurd h (by decide))⟩
theorem fX1_r52 : pm_FOK RX1 52 1 12 1 := ⟨(RX1, TX1, 17), rfl, by decide, Or.inl (pm_WS_mem 205 (by decide +kernel) rfl), (fun _ => ⟨rfl, rfl⟩), (fun h => absurd h (by decide))⟩
theorem fX1_r55 : pm_FOK RX1 55 1 13 1 := ⟨(RX1, TX1, 17), rfl, by decide, Or.inl (pm_WS_mem 208 (by decide +kernel) rfl), (fun _ => ⟨rfl, rfl⟩), (fun h => absurd h (by decide))⟩
theorem fX1_r58 : pm_FOK RX1 58 1 14 1 := ⟨(RX1, TX1, 17), rfl, by decide, Or.inl (pm_WS_mem 210 (by decide +kernel) rfl), (fun _ => ⟨rfl, rfl⟩), (fun h => absurd h (by decide))⟩
theorem fX1_r61 : pm_FOK RX1 61 1 15 1 := ⟨(RX1, TX1, 17), rfl, by decide, Or.inl (pm_WS_mem 212 (by decide +kernel) rfl), (fun _ => ⟨rfl, rfl⟩), (fun h => absurd h (by decide))⟩
theorem fX1_r64 : pm_FOK RX1 64 1 16 1 := ⟨(RX1, TX1, 17), rfl, by decide, Or.inl (pm_WS_mem 214 (by decide +kernel) rfl), (fun _ => ⟨rfl, rfl⟩), (fun h => absurd h (by decide))⟩
def fX1 : Nat → Option (Nat × Nat × Nat) := pm_as [(9, 1, 0, 0), (15, 1, 1, 0), (18, 1, 2, 0), (21, 1, 3, 0), (24, 1, 4, 0), (27, 1, 5, 0), (30, 1, 6, 0), (33, 1, 7, 0), (38, 1, 8, 0), (41, 1, 9, 0), (45, 1, 10, 1), (49, 1, 11, 1), (52, 1, 12, 1), (55, 1, 13, 1), (58, 1, 14, 1), (61, 1, 15, 1), (64, 1, 16, 1)]
theorem fX1_ok : ∀ n ci k w, fX1 n = some (ci, k, w) → pm_FOK RX1 n ci k w := pm_tabF (by
    intro q hq
    simp only [List.mem_cons, List.not_mem_nil, or_false] at hq
    rcases hq with rfl | rfl | rfl | rfl | rfl | rfl | rfl | rfl | rfl | rfl | rfl | rfl | rfl | rfl | rfl | rfl | rfl
    · exact fX1_r9
    · exact fX1_r15
    · exact fX1_r18
    · exact fX1_r21
    · exact fX1_r24
    · exact fX1_r27
    · exact fX1_r30
    · exact fX1_r33
    · exact fX1_r38
    · exact fX1_r41
    · exact fX1_r45
    · exact fX1_r49
    · exact fX1_r52
    · exact fX1_r55
    · exact fX1_r58
    · exact fX1_r61
    · exact fX1_r64)
theorem fX1_9 : fX1 9 = some (1, 0, 0) := rfl
theorem fX1_15 : fX1 15 = some (1, 1, 0) := rfl
theorem fX1_18 : fX1 18 = some (1, 2, 0) := rfl
theorem fX1_21 : fX1 21 = some (1, 3, 0) := rfl
theorem fX1_24 : fX1 24 = some (1, 4, 0) := rfl
theorem fX1_27 : fX1 27 = some (1, 5, 0) := rfl
theorem fX1_30 : fX1 30 = some (1, 6, 0) := rfl
theorem fX1_33 : fX1 33 = some (1, 7, 0) := rfl
theorem fX1_38 : fX1 38 = some (1, 8, 0) := rfl
theorem fX1_41 : fX1 41 = some (1, 9, 0) := rfl
theorem fX1_45 : fX1 45 = some (1, 10, 1) := rfl
theorem fX1_49 : fX1 49 = some (1, 11, 1) := rfl
theorem fX1_52 : fX1 52 = some (1, 12, 1) := rfl
theorem fX1_55 : fX1 55 = some (1, 13, 1) := rfl
theorem fX1_58 : fX1 58 = some (1, 14, 1) := rfl
theorem fX1_61 : fX1 61 = some (1, 15, 1) := rfl
theorem fX1_64 : fX1 64 = some (1, 16, 1) := rfl
theorem fX2_r9 : pm_FOK RX2 9 2 0 0 := ⟨(RX2, TX2, 5), rfl, by decide, Or.inl (pm_WS_mem 257 (by decide +kernel) rfl), (fun h => absurd h (by decide)), (fun h => absurd h (by decide))⟩
theorem fX2_r15 : pm_FOK RX2 15 2 1 0 := ⟨(RX2, TX2, 5), rfl, by decide, Or.inl (pm_WS_mem 258 (by decide +kernel) rfl), (fun h => absurd h (by decide)), (fun h => absurd h (by decide))⟩
theorem fX2_r18 : pm_FOK RX2 18 2 2 0 := ⟨(RX2, TX2, 5), rfl, by decide, Or.inl (pm_WS_mem 259 (by decide +kernel) rfl), (fun h => absurd h (by decide)), (fun h => absurd h (by decide))⟩
theorem fX2_r21 : pm_FOK RX2 21 2 3 0 := ⟨(RX2, TX2, 5), rfl, by decide, Or.inl (pm_WS_mem 260 (by decide +kernel) rfl), (fun h => absurd h (by decide)), (fun h => absurd h (by decide))⟩
theorem fX2_r24 : pm_FOK RX2 24 2 4 0 := ⟨(RX2, TX2, 5), rfl, by decide, Or.inl (pm_WS_mem 261 (by decide +kernel) rfl), (fun h => absurd h (by decide)), (fun h => absurd h (by decide))⟩
theorem fX2_r35 : pm_FOK RX2 35 1 10 1 := ⟨(RX1, TX1, 17), rfl, by decide, Or.inr ⟨"CableForest", pm_NW_mem 201 (by decide +kernel) rfl⟩, (fun _ => ⟨rfl, rfl⟩), (fun h => absurd h (by decide))⟩
theorem fX2_r59 : pm_FOK RX2 59 1 12 1 := ⟨(RX1, TX1, 17), rfl, by decide, Or.inr ⟨"CableForest", pm_NW_mem 206 (by decide +kernel) rfl⟩, (fun _ => ⟨rfl, rfl⟩), (fun h => absurd h (by decide))⟩
theorem fX2_r62 : pm_FOK RX2 62 1 4 0 := ⟨(RX1, TX1, 17), rfl, by decide, Or.inr ⟨"CableForest", pm_NW_mem 189 (by decide +kernel) rfl⟩, (fun h => absurd h (by decide)), (fun h => absurd h (by decide))⟩
theorem fX2_r65 : pm_FOK RX2 65 1 0 0 := ⟨(RX1, TX1, 17), rfl, by decide, Or.inr ⟨"CableForest", pm_NW_mem 178 (by decide +kernel) rfl⟩, (fun h => absurd h (by decide)), (fun h => absurd h (by decide))⟩
theorem fX2_r68 : pm_FOK RX2 68 1 1 0 := ⟨(RX1, TX1, 17), rfl, by decide, Or.inr ⟨"CableForest", pm_NW_mem 181 (by decide +kernel) rfl⟩, (fun h => absurd h (by decide)), (fun h => absurd h (by decide))⟩
theorem fX2_r92 : pm_FOK RX2 92 1 2 0 := ⟨(RX1, TX1, 17), rfl, by decide, Or.inr ⟨"CableForest", pm_NW_mem 184 (by decide +kernel) rfl⟩, (fun h => absurd h (by decide)), (fun h => absurd h (by decide))⟩
def fX2 : Nat → Option (Nat × Nat × Nat) := pm_as [(9, 2, 0, 0), (15, 2, 1, 0), (18, 2, 2, 0), (21, 2, 3, 0), (24, 2, 4, 0), (35, 1, 10, 1), (59, 1, 12, 1), (62, 1, 4, 0), (65, 1, 0, 0), (68, 1, 1, 0), (92, 1, 2, 0)]
theorem fX2_ok : ∀ n ci k w, fX2 n = some (ci, k, w) → pm_FOK RX2 n ci k w := pm_tabF (by
    intro q hq
    simp only [List.mem_cons, List.not_mem_nil, or_false] at hq
    rcases hq with rfl | rfl | rfl | rfl | rfl | rfl | rfl | rfl | rfl | rfl | rfl
    · exact fX2_r9
    · exact fX2_r15
    · exact fX2_r18
    · exact fX2_r21
    · exact fX2_r24
    · exact fX2_r35
    · exact fX2_r59
    · exact fX2_r62
    · exact fX2_r65
    · exact fX2_r68
    · exact fX2_r92)
theorem fX2_9 : fX2 9 = some (2, 0, 0) := rfl
theorem fX2_15 : fX2 15 = some (2, 1, 0) := rfl
theorem fX2_18 : fX2 18 = some (2, 2, 0) := rfl
theorem fX2_21 : fX2 21 = some (2, 3, 0) := rfl
theorem fX2_24 : fX2 24 = some (2, 4, 0) := rfl
theorem fX2_35 : fX2 35 = some (1, 10, 1) := rfl
theorem fX2_59 : fX2 59 = some (1, 12, 1) := rfl
theorem fX2_62 : fX2 62 = some (1, 4, 0) := rfl
theorem fX2_65 : fX2 65 = some (1, 0, 0) := rfl
theorem fX2_68 : fX2 68 = some (1, 1, 0) := rfl
theorem fX2_92 : fX2 92 = some (1, 2, 0) := rfl
theorem fX3_r9 : pm_FOK RX3 9 3 0 0 := ⟨(RX3, TX3, 8), rfl, by decide, Or.inl (pm_WS_mem 279 (by decide +kernel) rfl), (fun h => absurd h (by decide)), (fun h => absurd h (by decide))⟩
theorem fX3_r15 : pm_FOK RX3 15 3 1 0 := ⟨(RX3, TX3, 8), rfl, by decide, Or.inl (pm_WS_mem 280 (by decide +kernel) rfl), (fun h => absurd h (by decide)), (fun h => absurd h (by decide))⟩
theorem fX3_r18 : pm_FOK RX3 18 3 2 1 := ⟨(RX3, TX3, 8), rfl, by decide, Or.inl (pm_WS_mem 281 (by decide +kernel) rfl), (fun _ => ⟨rfl, rfl⟩), (fun h => absurd h (by decide))⟩
theorem fX3_r22 : pm_FOK RX3 22 3 3 1 := ⟨(RX3, TX3, 8), rfl, by decide, Or.inl (pm_WS_mem 283 (by decide +kernel) rfl), (fun _ => ⟨rfl, rfl⟩), (fun h => absurd h (by decide))⟩
theorem fX3_r25 : pm_FOK RX3 25 3 4 1 := ⟨(RX3, TX3, 8), rfl, by decide, Or.inl (pm_WS_mem 285 (by decide +kernel) rfl), (fun _ => ⟨rfl, rfl⟩), (fun h => absurd h (by decide))⟩
theorem fX3_r28 : pm_FOK RX3 28 3 5 1 := ⟨(RX3, TX3, 8), rfl, by decide, Or.inl (pm_WS_mem 287 (by decide +kernel) rfl), (fun _ => ⟨rfl, rfl⟩), (fun h => absurd h (by decide))⟩
theorem fX3_r31 : pm_FOK RX3 31 3 6 1 := ⟨(RX3, TX3, 8), rfl, by decide, Or.inl (pm_WS_mem 289 (by decide +kernel) rfl), (fun _ => ⟨rfl, rfl⟩), (fun h => absurd h (by decide))⟩
theorem fX3_r34 : pm_FOK RX3 34 3 7 1 := ⟨(RX3, TX3, 8), rfl, by decide, Or.inl (pm_WS_mem 290 (by decide +kernel) rfl), (fun _ => ⟨rfl, rfl⟩), (fun h => absurd h (by decide))⟩
def fX3 : Nat → Option (Nat × Nat × Nat) := pm_as [(9, 3, 0, 0), (15, 3, 1, 0), (18, 3, 2, 1), (22, 3, 3, 1), (25, 3, 4, 1), (28, 3, 5, 1), (31, 3, 6, 1), (34, 3, 7, 1)]
theorem fX3_ok : ∀ n ci k w, fX3 n = some (ci, k, w) → pm_FOK RX3 n ci k w := pm_tabF (by
    intro q hq
    simp only [List.mem_cons, List.not_mem_nil, or_false] at hq
    rcases hq with rfl | rfl | rfl | rfl | rfl | rfl | rfl | rfl
    · exact fX3_r9
    · exact fX3_r15
    · exact fX3_r18
    · exact fX3_r22
    · exact fX3_r25
    · exact fX3_r28
    · exact fX3_r31
    · exact fX3_r34)
theorem fX3_9 : fX3 9 = some (3, 0, 0) := rfl
theorem fX3_15 : fX3 15 = some (3, 1, 0) := rfl
theorem fX3_18 : fX3 18 = some (3, 2, 1) := rfl
theorem fX3_22 : fX3 22 = some (3, 3, 1) := rfl
theorem fX3_25 : fX3 25 = some (3, 4, 1) := rfl
theorem fX3_28 : fX3 28 = some (3, 5, 1) := rfl
theorem fX3_31 : fX3 31 = some (3, 6, 1) := rfl
theorem fX3_34 : fX3 34 = some (3, 7, 1) := rfl
theorem fX4_r11 : pm_FOK RX4 11 4 0 0 := ⟨(RX4, TX4, 10), rfl, by decide, Or.inl (pm_WS_mem 321 (by decide +kernel) rfl), (fun h => absurd h (by decide)), (fun h => absurd h (by decide))⟩
theorem fX4_r16 : pm_FOK RX4 16 4 1 0 := ⟨(RX4, TX4, 10), rfl, by decide, Or.inl (pm_WS_mem 322 (by decide +kernel) rfl), (fun h => absurd h (by decide)), (fun h => absurd h (by decide))⟩
theorem fX4_r20 : pm_FOK RX4 20 4 2 0 := ⟨(RX4, TX4, 10), rfl, by decide, Or.inl (pm_WS_mem 323 (by decide +kernel) rfl), (fun h => absurd h (by decide)), (fun h => absurd h (by decide))⟩
theorem fX4_r23 : pm_FOK RX4 23 4 3 0 := ⟨(RX4, TX4, 10), rfl, by decide, Or.inl (pm_WS_mem 324 (by decide +kernel) rfl), (fun h => absurd h (by decide)), (fun h => absurd h (by decide))⟩
theorem fX4_r29 : pm_FOK RX4 29 4 4 0 := ⟨(RX4, TX4, 10), rfl, by decide, Or.inl (pm_WS_mem 325 (by decide +kernel) rfl), (fun h => absurd h (by decide)), (fun h => absurd h (by decide))⟩
theorem fX4_r36 : pm_FOK RX4 36 4 5 0 := ⟨(RX4, TX4, 10), rfl, by decide, Or.inl (pm_WS_mem 326 (by decide +kernel) rfl), (fun h => absurd h (by decide)), (fun h => absurd h (by decide))⟩
theorem fX4_r40 : pm_FOK RX4 40 4 6 2 := ⟨(RX4, TX4, 10), rfl, by decide, Or.inl (pm_WS_mem 327 (by decide +kernel) rfl), (fun h => absurd h (by decide)), (fun _ => ⟨rfl, rfl⟩)⟩
theorem fX4_r44 : pm_FOK RX4 44 4 7 1 := ⟨(RX4, TX4, 10), rfl, by decide, Or.inl (pm_WS_mem 328 (by decide +kernel) rfl), (fun _ => ⟨rfl, rfl⟩), (fun h => absurd h (by decide))⟩
theorem fX4_r48 : pm_FOK RX4 48 4 8 1 := ⟨(RX4, TX4, 10), rfl, by decide, Or.inl (pm_WS_mem 329 (by decide +kernel) rfl), (fun _ => ⟨rfl, rfl⟩), (fun h => absurd h (by decide))⟩
theorem fX4_r51 : pm_FOK RX4 51 4 9 1 := ⟨(RX4, TX4, 10), rfl, by decide, Or.inl (pm_WS_mem 330 (by decide +kernel) rfl), (fun _ => ⟨rfl, rfl⟩), (fun h => absurd h (by decide))⟩
theorem fX4_r58 : pm_FOK RX4 58 3 2 1 := ⟨(RX3, TX3, 8), rfl, by decide, Or.inr ⟨"CableForest", pm_NW_mem 282 (by decide +kernel) rfl⟩, (fun _ => ⟨rfl, rfl⟩), (fun h => absurd h (by decide))⟩
theorem fX4_r80 : pm_FOK RX4 80 3 4 1 := ⟨(RX3, TX3, 8), rfl, by decide, Or.inr ⟨"CableForest", pm_NW_mem 286 (by decide +kernel) rfl⟩, (fun _ => ⟨rfl, rfl⟩), (fun h => absurd h (by decide))⟩
theorem fX4_r85 : pm_FOK RX4 85 1 11 1 := ⟨(RX1, TX1, 17), rfl, by decide, Or.inr ⟨"CableForest", pm_NW_mem 204 (by decide +kernel) rfl⟩, (fun _ => ⟨rfl, rfl⟩), (fun h => absurd h (by decide))⟩
theorem fX4_r94 : pm_FOK RX4 94 1 9 0 := ⟨(RX1, TX1, 17), rfl, by decide, Or.inr ⟨"CableForest", pm_NW_mem 199 (by decide +kernel) rfl⟩, (fun h => absurd h (by decide)), (fun h => absurd h (by decide))⟩
theorem fX4_r118 : pm_FOK RX4 118 1 6 0 := ⟨(RX1, TX1, 17), rfl, by decide, Or.inr ⟨"CableForest", pm_NW_mem 194 (by decide +kernel) rfl⟩, (fun h => absurd h (by decide)), (fun h => absurd h (by decide))⟩
theorem fX4_r141 : pm_FOK RX4 141 1 0 0 := ⟨(RX1, TX1, 17), rfl, by decide, Or.inr ⟨"CableForest", pm_NW_mem 179 (by decide +kernel) rfl⟩, (fun h => absurd h (by decide)), (fun h => absurd h (by decide))⟩
theorem fX4_r144 : pm_FOK RX4 144 1 1 0 := ⟨(RX1, TX1, 17), rfl, by decide, Or.inr ⟨"CableForest", pm_NW_mem 182 (by decide +kernel) rfl⟩, (fun h => absurd h (by decide)), (fun h => absurd h (by decide))⟩
theorem fX4_r147 : pm_FOK RX4 147 1 4 0 := ⟨(RX1, TX1, 17), rfl, by decide, Or.inr ⟨"CableForest", pm_NW_mem 190 (by decide +kernel) rfl⟩, (fun h => absurd h (by decide)), (fun h => absurd h (by decide))⟩
theorem fX4_r150 : pm_FOK RX4 150 1 3 0 := ⟨(RX1, TX1, 17), rfl, by decide, Or.inr ⟨"CableForest", pm_NW_mem 187 (by decide +kernel) rfl⟩, (fun h => absurd h (by decide)), (fun h => absurd h (by decide))⟩
theorem fX4_r153 : pm_FOK RX4 153 1 5 0 := ⟨(RX1, TX1, 17), rfl, by decide, Or.inr ⟨"CableForest", pm_NW_mem 192 (by decide +kernel) rfl⟩, (fun h => absurd h (by decide)), (fun h => absurd h (by decide))⟩
theorem fX4_r156 : pm_FOK RX4 156 1 2 0 := ⟨(RX1, TX1, 17), rfl, by decide, Or.inr ⟨"CableForest", pm_NW_mem 185 (by decide +kernel) rfl⟩, (fun h => absurd h (by decide)), (fun h => absurd h (by decide))⟩
theorem fX4_r201 : pm_FOK RX4 201 1 14 1 := ⟨(RX1, TX1, 17), rfl, by decide, Or.inr ⟨"CableForest", pm_NW_mem 211 (by decide +kernel) rfl⟩, (fun _ => ⟨rfl, rfl⟩), (fun h => absurd h (by decide))⟩
theorem fX4_r204 : pm_FOK RX4 204 1 13 1 := ⟨(RX1, TX1, 17), rfl, by decide, Or.inr ⟨"CableForest", pm_NW_mem 209 (by decide +kernel) rfl⟩, (fun _ => ⟨rfl, rfl⟩), (fun h => absurd h (by decide))⟩
theorem fX4_r227 : pm_FOK RX4 227 1 10 1 := ⟨(RX1, TX1, 17), rfl, by decide, Or.inr ⟨"CableForest", pm_NW_mem 202 (by decide +kernel) rfl⟩, (fun _ => ⟨rfl, rfl⟩), (fun h => absurd h (by decide))⟩
theorem fX4_r232 : pm_FOK RX4 232 1 15 1 := ⟨(RX1, TX1, 17), rfl, by decide, Or.inr ⟨"CableForest", pm_NW_mem 213 (by decide +kernel) rfl⟩, (fun _ => ⟨rfl, rfl⟩), (fun h => absurd h (by decide))⟩
theorem fX4_r235 : pm_FOK RX4 235 1 7 0 := ⟨(RX1, TX1, 17), rfl, by decide, Or.inr ⟨"CableForest", pm_NW_mem 196 (by decide +kernel) rfl⟩, (fun h => absurd h (by decide)), (fun h => absurd h (by decide))⟩
theorem fX4_r238 : pm_FOK RX4 238 1 16 1 := ⟨(RX1, TX1, 17), rfl, by decide, Or.inr ⟨"CableForest", pm_NW_mem 215 (by decide +kernel) rfl⟩, (fun _ => ⟨rfl, rfl⟩), (fun h => absurd h (by decide))⟩
theorem fX4_r248 : pm_FOK RX4 248 1 12 1 := ⟨(RX1, TX1, 17), rfl, by decide, Or.inr ⟨"CableForest", pm_NW_mem 207 (by decide +kernel) rfl⟩, (fun _ => ⟨rfl, rfl⟩), (fun h => absurd h (by decide))⟩
theorem fX4_r302 : pm_FOK RX4 302 3 3 1 := ⟨(RX3, TX3, 8), rfl, by decide, Or.inr ⟨"CableForest", pm_NW_mem 284 (by decide +kernel) rfl⟩, (fun _ => ⟨rfl, rfl⟩), (fun h => absurd h (by decide))⟩
theorem fX4_r308 : pm_FOK RX4 308 3 7 1 := ⟨(RX3, TX3, 8), rfl, by decide, Or.inr ⟨"CableForest", pm_NW_mem 291 (by decide +kernel) rfl⟩, (fun _ => ⟨rfl, rfl⟩), (fun h => absurd h (by decide))⟩
theorem fX4_r311 : pm_FOK RX4 311 3 5 1 := ⟨(RX3, TX3, 8), rfl, by decide, Or.inr ⟨"CableForest", pm_NW_mem 288 (by decide +kernel) rfl⟩, (fun _ => ⟨rfl, rfl⟩), (fun h => absurd h (by decide))⟩
def fX4 : Nat → Option (Nat × Nat × Nat) := pm_as [(11, 4, 0, 0), (16, 4, 1, 0), (20, 4, 2, 0), (23, 4, 3, 0), (29, 4, 4, 0), (36, 4, 5, 0), (40, 4, 6, 2), (44, 4, 7, 1), (48, 4, 8, 1), (51, 4, 9, 1), (58, 3, 2, 1), (80, 3, 4, 1), (85, 1, 11, 1), (94, 1, 9, 0), (118, 1, 6, 0), (141, 1, 0, 0), (144, 1, 1, 0), (147, 1, 4, 0), (150, 1, 3, 0), (153, 1, 5, 0), (156, 1, 2, 0), (201, 1, 14, 1), (204, 1, 13, 1), (227, 1, 10, 1), (232, 1, 15, 1), (235, 1, 7, 0), (238, 1, 16, 1), (248, 1, 12, 1), (302, 3, 3, 1), (308, 3, 7, 1), (311, 3, 5, 1)]
theorem fX4_ok : ∀ n ci k w, fX4 n = some (ci, k, w) → pm_FOK RX4 n ci k w := pm_tabF (by
    intro q hq
    simp only [List.mem_cons, List.not_mem_nil, or_false] at hq
    rcases hq with rfl | rfl | rfl | rfl | rfl | rfl | rfl | rfl | rfl | rfl | rfl | rfl | rfl | rfl | rfl | rfl | rfl | rfl | rfl | rfl | rfl | rfl | rfl | rfl | rfl | rfl | rfl | rfl | rfl | rfl | rfl
    · exact fX4_r11
    · exact fX4_r16
    · exact fX4_r20
    · exact fX4_r23
    · exact fX4_r29
    · exact fX4_r36
    · exact fX4_r40
    · exact fX4_r44
    · exact fX4_r48
    · exact fX4_r51
    · exact fX4_r58
    · exact fX4_r80
    · exact fX4_r85
    · exact fX4_r94
    · exact fX4_r118
    · exact fX4_r141
    · exact fX4_r144
    · exact fX4_r147
    · exact fX4_r150
    · exact fX4_r153
    · exact fX4_r156
    · exact fX4_r201
    · exact fX4_r204
    · exact fX4_r227
    · exact fX4_r232
    · exact fX4_r235
    · exact fX4_r238
    · exact fX4_r248
    · exact fX4_r302
    · exact fX4_r308
    · exact fX4_r311)
theorem fX4_11 : fX4 11 = some (4, 0, 0) := rfl
theorem fX4_16 : fX4 16 = some (4, 1, 0) := rfl
theorem fX4_20 : fX4 20 = some (4, 2, 0) := rfl
theorem fX4_23 : fX4 23 = some (4, 3, 0) := rfl
theorem fX4_29 : fX4 29 = some (4, 4, 0) := rfl
theorem fX4_36 : fX4 36 = some (4, 5, 0) := rfl
theorem fX4_40 : fX4 40 = some (4, 6, 2) := rfl
theorem fX4_44 : fX4 44 = some (4, 7, 1) := rfl
theorem fX4_48 : fX4 48 = some (4, 8, 1) := rfl
theorem fX4_51 : fX4 51 = some (4, 9, 1) := rfl
theorem fX4_58 : fX4 58 = some (3, 2, 1) := rfl
theorem fX4_80 : fX4 80 = some (3, 4, 1) := rfl
theorem fX4_85 : fX4 85 = some (1, 11, 1) := rfl
theorem fX4_94 : fX4 94 = some (1, 9, 0) := rfl
theorem fX4_118 : fX4 118 = some (1, 6, 0) := rfl
theorem fX4_141 : fX4 141 = some (1, 0, 0) := rfl
theorem fX4_144 : fX4 144 = some (1, 1, 0) := rfl
theorem fX4_147 : fX4 147 = some (1, 4, 0) := rfl
theorem fX4_150 : fX4 150 = some (1, 3, 0) := rfl
theorem fX4_153 : fX4 153 = some (1, 5, 0) := rfl
theorem fX4_156 : fX4 156 = some (1, 2, 0) := rfl
theorem fX4_201 : fX4 201 = some (1, 14, 1) := rfl
theorem fX4_204 : fX4 204 = some (1, 13, 1) := rfl
theorem fX4_227 : fX4 227 = some (1, 10, 1) := rfl
theorem fX4_232 : fX4 232 = some (1, 15, 1) := rfl
theorem fX4_235 : fX4 235 = some (1, 7, 0) := rfl
theorem fX4_238 : fX4 238 = some (1, 16, 1) := rfl
theorem fX4_248 : fX4 248 = some (1, 12, 1) := rfl
theorem fX4_302 : fX4 302 = some (3, 3, 1) := rfl
theorem fX4_308 : fX4 308 = some (3, 7, 1) := rfl
theorem fX4_311 : fX4 311 = some (3, 5, 1) := rfl
theorem fX5_r7 : pm_FOK RX5 7 5 1 0 := ⟨(RX5, TX5, 26), rfl, by decide, Or.inl (pm_WS_mem 1213 (by decide +kernel) rfl), (fun h => absurd h (by decide)), (fun h => absurd h (by decide))⟩
theorem fX5_r13 : pm_FOK RX5 13 5 2 0 := ⟨(RX5, TX5, 26), rfl, by decide, Or.inl (pm_WS_mem 1214 (by decide +kernel) rfl), (fun h => absurd h (by decide)), (fun h => absurd h (by decide))⟩
theorem fX5_r16 : pm_FOK RX5 16 5 3 0 := ⟨(RX5, TX5, 26), rfl, by decide, Or.inl (pm_WS_mem 1215 (by decide +kernel) rfl), (fun h => absurd h (by decide)), (fun h => absurd h (by decide))⟩
theorem fX5_r19 : pm_FOK RX5 19 5 4 0 := ⟨(RX5, TX5, 26), rfl, by decide, Or.inl (pm_WS_mem 1216 (by decide +kernel) rfl), (fun h => absurd h (by decide)), (fun h => absurd h (by decide))⟩
theorem fX5_r23 : pm_FOK RX5 23 5 5 0 := ⟨(RX5, TX5, 26), rfl, by decide, Or.inl (pm_WS_mem 1217 (by decide +kernel) rfl), (fun h => absurd h (by decide)), (fun h => absurd h (by decide))⟩
theorem fX5_r26 : pm_FOK RX5 26 5 9 0 := ⟨(RX5, TX5, 26), rfl, by decide, Or.inl (pm_WS_mem 1221 (by decide +kernel) rfl), (fun h => absurd h (by decide)), (fun h => absurd h (by decide))⟩
theorem fX5_r29 : pm_FOK RX5 29 5 13 1 := ⟨(RX5, TX5, 26), rfl, by decide, Or.inl (pm_WS_mem 1225 (by decide +kernel) rfl), (fun _ => ⟨rfl, rfl⟩), (fun h => absurd h (by decide))⟩
theorem fX5_r33 : pm_FOK RX5 33 5 14 0 := ⟨(RX5, TX5, 26), rfl, by decide, Or.inl (pm_WS_mem 1226 (by decide +kernel) rfl), (fun h => absurd h (by decide)), (fun h => absurd h (by decide))⟩
theorem fX5_r36 : pm_FOK RX5 36 5 15 0 := ⟨(RX5, TX5, 26), rfl, by decide, Or.inl (pm_WS_mem 1227 (by decide +kernel) rfl), (fun h => absurd h (by decide)), (fun h => absurd h (by decide))⟩
theorem fX5_r39 : pm_FOK RX5 39 5 17 0 := ⟨(RX5, TX5, 26), rfl, by decide, Or.inl (pm_WS_mem 1229 (by decide +kernel) rfl), (fun h => absurd h (by decide)), (fun h => absurd h (by decide))⟩
theorem fX5_r42 : pm_FOK RX5 42 5 18 0 := ⟨(RX5, TX5, 26), rfl, by decide, Or.inl (pm_WS_mem 1230 (by decide +kernel) rfl), (fun h => absurd h (by decide)), (fun h => absurd h (by decide))⟩
theorem fX5_r45 : pm_FOK RX5 45 5 19 0 := ⟨(RX5, TX5, 26), rfl, by decide, Or.inl (pm_WS_mem 1231 (by decide +kernel) rfl), (fun h => absurd h (by decide)), (fun h => absurd h (by decide))⟩
theorem fX5_r48 : pm_FOK RX5 48 5 21 0 := ⟨(RX5, TX5, 26), rfl, by decide, Or.inl (pm_WS_mem 1233 (by decide +kernel) rfl), (fun h => absurd h (by decide)), (fun h => absurd h (by decide))⟩
theorem fX5_r51 : pm_FOK RX5 51 5 22 0 := ⟨(RX5, TX5, 26), rfl, by decide, Or.inl (pm_WS_mem 1234 (by decide +kernel) rfl), (fun h => absurd h (by decide)), (fun h => absurd h (by decide))⟩
theorem fX5_r58 : pm_FOK RX5 58 5 0 1 := ⟨(RX5, TX5, 26), rfl, by decide, Or.inl (pm_WS_mem 1212 (by decide +kernel) rfl), (fun _ => ⟨rfl, rfl⟩), (fun h => absurd h (by decide))⟩
theorem fX5_r139 : pm_FOK RX5 139 5 16 1 := ⟨(RX5, TX5, 26), rfl, by decide, Or.inl (pm_WS_mem 1228 (by decide +kernel) rfl), (fun _ => ⟨rfl, rfl⟩), (fun h => absurd h (by decide))⟩
theorem fX5_r160 : pm_FOK RX5 160 5 20 1 := ⟨(RX5, TX5, 26), rfl, by decide, Or.inl (pm_WS_mem 1232 (by decide +kernel) rfl), (fun _ => ⟨rfl, rfl⟩), (fun h => absurd h (by decide))⟩
theorem fX5_r166 : pm_FOK RX5 166 5 6 1 := ⟨(RX5, TX5, 26), rfl, by decide, Or.inl (pm_WS_mem 1218 (by decide +kernel) rfl), (fun _ => ⟨rfl, rfl⟩), (fun h => absurd h (by decide))⟩
theorem fX5_r169 : pm_FOK RX5 169 5 8 1 := ⟨(RX5, TX5, 26), rfl, by decide, Or.inl (pm_WS_mem 1220 (by decide +kernel) rfl), (fun _ => ⟨rfl, rfl⟩), (fun h => absurd h (by decide))⟩
theorem fX5_r175 : pm_FOK RX5 175 5 10 1 := ⟨(RX5, TX5, 26), rfl, by decide, Or.inl (pm_WS_mem 1222 (by decide +kernel) rfl), (fun _ => ⟨rfl, rfl⟩), (fun h => absurd h (by decide))⟩
theorem fX5_r178 : pm_FOK RX5 178 5 12 1 := ⟨(RX5, TX5, 26), rfl, by decide, Or.inl (pm_WS_mem 1224 (by decide +kernel) rfl), (fun _ => ⟨rfl, rfl⟩), (fun h => absurd h (by decide))⟩
theorem fX5_r181 : pm_FOK RX5 181 5 11 1 := ⟨(RX5, TX5, 26), rfl, by decide, Or.inl (pm_WS_mem 1223 (by decide +kernel) rfl), (fun _ => ⟨rfl, rfl⟩), (fun h => absurd h (by decide))⟩
theorem fX5_r199 : pm_FOK RX5 199 5 23 1 := ⟨(RX5, TX5, 26), rfl, by decide, Or.inl (pm_WS_mem 1235 (by decide +kernel) rfl), (fun _ => ⟨rfl, rfl⟩), (fun h => absurd h (by decide))⟩
theorem fX5_r308 : pm_FOK RX5 308 5 24 1 := ⟨(RX5, TX5, 26), rfl, by decide, Or.inl (pm_WS_mem 1236 (by decide +kernel) rfl), (fun _ => ⟨rfl, rfl⟩), (fun h => absurd h (by decide))⟩
theorem fX5_r311 : pm_FOK RX5 311 5 25 1 := ⟨(RX5, TX5, 26), rfl, by decide, Or.inl (pm_WS_mem 1237 (by decide +kernel) rfl), (fun _ => ⟨rfl, rfl⟩), (fun h => absurd h (by decide))⟩
theorem fX5_r354 : pm_FOK RX5 354 5 7 2 := ⟨(RX5, TX5, 26), rfl, by decide, Or.inl (pm_WS_mem 1219 (by decide +kernel) rfl), (fun h => absurd h (by decide)), (fun _ => ⟨rfl, rfl⟩)⟩
def fX5 : Nat → Option (Nat × Nat × Nat) := pm_as [(7, 5, 1, 0), (13, 5, 2, 0), (16, 5, 3, 0), (19, 5, 4, 0), (23, 5, 5, 0), (26, 5, 9, 0), (29, 5, 13, 1), (33, 5, 14, 0), (36, 5, 15, 0), (39, 5, 17, 0), (42, 5, 18, 0), (45, 5, 19, 0), (48, 5, 21, 0), (51, 5, 22, 0), (58, 5, 0, 1), (139, 5, 16, 1), (160, 5, 20, 1), (166, 5, 6, 1), (169, 5, 8, 1), (175, 5, 10, 1), (178, 5, 12, 1), (181, 5, 11, 1), (199, 5, 23, 1), (308, 5, 24, 1), (311, 5, 25, 1), (354, 5, 7, 2)]
theorem fX5_ok : ∀ n ci k w, fX5 n = some (ci, k, w) → pm_FOK RX5 n ci k w := pm_tabF (by
    intro q hq
    simp only [List.mem_cons, List.not_mem_nil, or_false] at hq
    rcases hq with rfl | rfl | rfl | rfl | rfl | rfl | rfl | rfl | rfl | rfl | rfl | rfl | rfl | rfl | rfl | rfl | rfl | rfl | rfl | rfl | rfl | rfl | rfl | rfl | rfl | rfl
    · exact fX5_r7
    · exact fX5_r13
    · exact fX5_r16
    · exact fX5_r19
    · exact fX5_r23
    · exact fX5_r26
    · exact fX5_r29
    · exact fX5_r33
    · exact fX5_r36
    · exact fX5_r39
    · exact fX5_r42
    · exact fX5_r45
    · exact fX5_r48
    · exact fX5_r51
    · exact fX5_r58
    · exact fX5_r139
    · exact fX5_r160
    · exact fX5_r166
    · exact fX5_r169
    · exact fX5_r175
    · exact fX5_r178
    · exact fX5_r181
    · exact fX5_r199
    · exact fX5_r308
    · exact fX5_r311
    · exact fX5_r354)
theorem fX5_7 : fX5 7 = some (5, 1, 0) := rfl
theorem fX5_13 : fX5 13 = some (5, 2, 0) := rfl
theorem fX5_16 : fX5 16 = some (5, 3, 0) := rfl
theorem fX5_19 : fX5 19 = some (5, 4, 0) := rfl
theorem fX5_23 : fX5 23 = some (5, 5, 0) := rfl
theorem fX5_26 : fX5 26 = some (5, 9, 0) := rfl
theorem fX5_29 : fX5 29 = some (5, 13, 1) := rfl
theorem fX5_33 : fX5 33 = some (5, 14, 0) := rfl
theorem fX5_36 : fX5 36 = some (5, 15, 0) := rfl
theorem fX5_39 : fX5 39 = some (5, 17, 0) := rfl
theorem fX5_42 : fX5 42 = some (5, 18, 0) := rfl
theorem fX5_45 : fX5 45 = some (5, 19, 0) := rfl
theorem fX5_48 : fX5 48 = some (5, 21, 0) := rfl
theorem fX5_51 : fX5 51 = some (5, 22, 0) := rfl
theorem fX5_58 : fX5 58 = some (5, 0, 1) := rfl
theorem fX5_139 : fX5 139 = some (5, 16, 1) := rfl
theorem fX5_160 : fX5 160 = some (5, 20, 1) := rfl
theorem fX5_166 : fX5 166 = some (5, 6, 1) := rfl
theorem fX5_169 : fX5 169 = some (5, 8, 1) := rfl
theorem fX5_175 : fX5 175 = some (5, 10, 1) := rfl
theorem fX5_178 : fX5 178 = some (5, 12, 1) := rfl
theorem fX5_181 : fX5 181 = some (5, 11, 1) := rfl
theorem fX5_199 : fX5 199 = some (5, 23, 1) := rfl
theorem fX5_308 : fX5 308 = some (5, 24, 1) := rfl
theorem fX5_311 : fX5 311 = some (5, 25, 1) := rfl
theorem fX5_354 : fX5 354 = some (5, 7, 2) := rfl
def f0 : Nat → Option (Nat × Nat × Nat) := fun _ => none
theorem f0_ok {own : String} : ∀ n ci k w, f0 n = some (ci, k, w) → pm_FOK own n ci k w := fun _ _ _ _ h => by cases h
