section LYH
variable {sk : Nat → Nat} {Y : pm_K} {f : pm_H} {b c mb o i L : Nat} {w5 w6 : Option pm_V} {zs : Nat → Int32}
theorem ly_head (S : ly_S sk Y) (R : ly_RD Y b L zs) (N : ly_LN Y b L) (hL : L ≤ 3072) (hk : i + 6 ≤ L → ∀ z, Y 40 (ly_V b c mb o i w5 w6) [.inl z] f) : Y 23 (ly_V b c mb o i w5 w6) [] f := by
  refine ly_il S dL_law_23 rfl ?_
  refine ly_al S dL_law_25 rfl ?_
  refine N 26 _ _ _ dL_law_26 ?_
  refine ly_bi S dL_law_27 (by omega) ?_
  refine ly_sub S dL_law_29 (by omega) ?_
  refine ly_gtT S (t := 2272) dL_law_30 (by decide) (fun h => ?_) (fun h => ?_)
  · refine ly_ic S dL_law_2272 (by omega) ?_
    exact ly_ret S dL_law_2273
  · refine ly_al S dL_law_33 rfl ?_
    refine ly_il S dL_law_34 rfl ?_
    refine R 36 _ _ _ i (by omega) dL_law_36 ?_
    refine ly_bi S dL_law_37 (by omega) ?_
    refine ly_and S dL_law_39 ?_
    exact hk (by omega) _
end LYH
section LYL
variable {p : Program} {l : Launch} {e : Env} {s : State} {m : MethodId} {below : List Frame} {meth : Method} {c : Code} {b L : Nat} {zs : Nat → Int32} {sk sv : Nat → Nat} {G : va_G} {cI cJ : ClassId} {cR : Nat → ClassId} {a w : Nat}
/-- the law's loop: n turns are room enough -/
theorem ly_loop {k0 mb o : Nat} (C : ly_C p l s m meth c b L zs sk sv G cI cJ cR) (hcb : k0 + 242 ≤ mb) (hbo : mb + 14 ≤ o) : ∀ (n i a w M : Nat) (x : xs) (t : Int) (f : pm_H) (w5 w6 : Option pm_V), L < i + 6 * n → a + n ≤ 601024 → w + 6 * n ≤ 7293034 → M + 1700000 * n + 1900000 ≤ 1000000000 → ly_I f k0 mb o x t → gX M x → ly_G p l e s m below meth c b G cI cJ cR a w 23 (ly_V b k0 mb o i w5 w6) [] f := by
  have hL : L ≤ 3072 := C.2.2.2.2.2.2
  intro n
  induction n with
  | zero =>
    intro i a w M x t f w5 w6 h1 h2 h3 h4 I g
    exact ly_head (ly_st C (by omega) (by omega)) (ly_rd0 C) (ly_ln0 C) hL fun h z => absurd h (by omega)
  | succ n ih =>
    intro i a w M x t f w5 w6 h1 h2 h3 h4 I g
    have e1 := Nat.mul_succ 1700000 n
    have e2 := Nat.mul_succ 6 n
    rw [e1] at h4
    rw [e2] at h1 h3
    clear e1 e2
    refine ly_head (ly_st C (by omega) (by omega)) (ly_rd0 C) (ly_ln0 C) hL fun h z => ?_
    refine lc_turn C hcb hbo I g (by omega) (by omega) (by omega) h fun a' w' f' x' t' w5 w6 ha' hw' I' g' => ?_
    exact ly_end (ly_st C (by omega) (by omega)) (by omega) (ih (i + 6) a' w' (M + 1700000) x' t' f' w5 w6 (by omega) (by omega) (by omega) (by omega) I' g')
end LYL
