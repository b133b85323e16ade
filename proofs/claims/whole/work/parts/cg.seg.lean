section SEG
variable {p : Program} {l : Launch} {e : Env} {R : Room} {d cells slots : Nat} {s : State} {m : MethodId} {args : Array Value} {below : List Frame} {meth : Method} {c : Code} {Q : State → Prop}
variable {G : va_G} {cI cJ : ClassId} {cR : Nat → ClassId} {A : Nat → Prop} {sk sv : Nat → Nat} {own : String} {a0w : Cond} {nL : Nat} {P : pm_P} {PX : pm_PX}
/-- one instruction of a body that has no fields and no constants of its own, and throws nothing itself, at any count of cells -/
theorem sg_S (E : pm_E) (hRf : d ≤ R.frames) (hRl : 64 * d ≤ R.locals) (hRc : cells ≤ R.cells) (hRs : slots ≤ R.slots) (hx : p.tables.exec = Jvm.exec) (hb : c.code = pm_eB E) (hml : c.maxLocals = nL) (hown : s.vm.findClass own = some m.cls) (hts : ∀ w ∈ a0w :: pm_WS, w.before args s = true) (hK : pm_KK G cI cJ cR s) (hSt : pm_St sk sv A s s.heap)
    (hF : ∀ n, pm_eF E n = none) (hKc : ∀ n, pm_eK E n = none) (hX : ∀ n, pm_eX E n = none) (hT : ∀ n, pm_eT E n = none) (hR : pm_eR E = some .int ∨ pm_eR E = some .boolean) (hC : ∀ n k ci T, pm_eC E n = some (k, ci, T) → pm_COK l sk own d n k ci T)
    (hret : ∀ (pc : Nat) (z : Int) (f : pm_H) (ls : Array Slot) (H : Heap) (locs : List Loc), decode (pm_eB E) pc = .ok (.ireturn, 1) → (pm_eR E = some .boolean → z = 0 ∨ z = 1) → pm_in z → P (some (.inl z)) f → pm_Hd G vwCl cI cJ cR A f H → va_S A s.heap H locs → W p l e R s m args below meth c H locs cells slots Q (F0 m pc ls [.int (Int32.ofInt z)]))
    {pc : Nat} {lv : pm_L} {st : List pm_V} {f : pm_H} (h : pm_S E P PX (pm_XW p l e R s m args below meth c cells slots Q G vwCl cI cJ cR A nL) pc lv st f) : pm_XW p l e R s m args below meth c cells slots Q G vwCl cI cJ cR A nL pc lv st f := by
  have hI := (hK.1.2 0 _ rfl).1
  have hJ := (hK.1.2 1 _ rfl).1
  have hKR : ∀ k : Nat, k < 2 → ∃ q : vw_C, vwCl[k]? = some q ∧ ArrOfT s (cR k) (.object q.1) ∧ va_RA s (cR k) (.object q.1) ∧ ClassAt s q.1 (G.1 k) := by
    intro k hk
    match k, hk with
    | 0, _ => exact ⟨_, rfl, (hK.1.2 2 _ rfl).1, (hK.1.2 2 _ rfl).2, (hK.1.1 0 _ rfl).2⟩
    | 1, _ => exact ⟨_, rfl, (hK.1.2 3 _ rfl).1, (hK.1.2 3 _ rfl).2, (hK.1.1 1 _ rfl).2⟩
  unfold pm_S pm_D at h
  split at h
  · rename_i i len hd
    refine pm_go_s hx hb hI hJ hKR (fun n ci k b hF0 => by rw [hF] at hF0; cases hF0) (fun n ci k b hF0 => by rw [hF] at hF0; cases hF0) (fun n v hv => by rw [hKc] at hv; cases hv) (fun n k ci T hc pc as' r f' P' ls H locs h1 h2 h3 h4 h5 h6 h7 h8 h9 h10 => pm_rule (d := d) (R := R) hRf hRl hRc hRs hx hb hml hown hts hK hSt (hC _ _ _ _ hc) h1 h2 h3 h4 h5 h6 h7 h8 h9 h10)
      (fun n k ci T hc => by rw [hX] at hc; cases hc) (fun pc n x hx' => by rw [hT] at hx'; cases hx') ?_ ?_ ?_ ?_ hd h
    · intro pc z f1 ls H locs h1 h2 hz hp h3 hS
      exact hret pc z f1 ls H locs h1 (fun e => by rcases h2 with w | w; rw [w] at e; cases e; exact w.2) hz hp h3 hS
    · intro pc a f1 ls H locs h1 h2
      rcases hR with w | w <;> (rw [w] at h2; exact h2.elim)
    · intro pc a f1 ls H locs h1 h2
      rcases hR with w | w <;> (rw [w] at h2; cases h2)
    · intro pc f1 ls H locs h1 h2
      rcases hR with w | w <;> (rw [w] at h2; cases h2)
  · exact h.elim
theorem sg_run (E : pm_E) (cuts : List Nat) (step : ∀ pc lv st f, pm_S E P PX (pm_XW p l e R s m args below meth c cells slots Q G vwCl cI cJ cR A nL) pc lv st f → pm_XW p l e R s m args below meth c cells slots Q G vwCl cI cJ cR A nL pc lv st f) : ∀ (n pc : Nat) (lv : pm_L) (st : List pm_V) (f : pm_H), pm_run E P PX cuts (pm_XW p l e R s m args below meth c cells slots Q G vwCl cI cJ cR A nL) n pc lv st f → pm_XW p l e R s m args below meth c cells slots Q G vwCl cI cJ cR A nL pc lv st f
  | 0, _, _, _, _, h => h
  | n + 1, pc, lv, st, f, h => by
    unfold pm_run at h
    cases hc : pm_cut cuts pc with
    | true => rw [hc] at h; exact h
    | false =>
      rw [hc] at h
      exact step pc lv st f (pm_S_m (sg_run E cuts step n) h)
/-- one instruction, then up to the cuts -/
theorem sg_on (E : pm_E) (cuts : List Nat) (n : Nat) (step : ∀ pc lv st f, pm_S E P PX (pm_XW p l e R s m args below meth c cells slots Q G vwCl cI cJ cR A nL) pc lv st f → pm_XW p l e R s m args below meth c cells slots Q G vwCl cI cJ cR A nL pc lv st f) {pc : Nat} {lv : pm_L} {st : List pm_V} {f : pm_H} (h : pm_S E P PX (pm_run E P PX cuts (pm_XW p l e R s m args below meth c cells slots Q G vwCl cI cJ cR A nL) n) pc lv st f) : pm_XW p l e R s m args below meth c cells slots Q G vwCl cI cJ cR A nL pc lv st f :=
  step pc lv st f (pm_S_m (sg_run E cuts step n) h)
end SEG
