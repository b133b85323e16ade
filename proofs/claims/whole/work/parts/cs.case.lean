/-- between two calls: both hold the same state, and the long row stands -/
def ly_I (f : pm_H) (c mb o : Nat) (x : xs) (t : Int) : Prop := cX f c x ∧ rX f mb x t ∧ ∃ g : Nat → Int64, f o = some (.inr (.inr (.inl (1, g))))
theorem cX_keepQ {f f' : pm_H} {c : Nat} {x : xs} (hl : (xP x).length ≤ 8) (h : cX f c x) (r : ∀ q, c ≤ q → q < c + 242 → f' q = f q) : cX f' c x := by
  obtain ⟨g, o, V, L, B, M, T, ⟨⟨h1, h2⟩, h3, ⟨n1, n2, n3, n4⟩, h5, h6⟩, z⟩ := h
  exact ⟨g, o, V, L, B, M, T, ⟨⟨(r _ (by omega) (by omega)).trans h1, (r _ (by omega) (by omega)).trans h2⟩, h3, ⟨exn_keepQ n1 fun q q1 q2 => r q (by omega) (by omega), exn_keepQ n2 fun q q1 q2 => r q (by omega) (by omega), exn_keepQ n3 fun q q1 q2 => r q (by omega) (by omega), fun i hi => exn_keepQ (n4 i hi) fun q q1 q2 => r q (by omega) (by omega)⟩, sv_keepQ h5 fun q q1 q2 => r q (by omega) (by omega), tp_keep h6 fun q q1 q2 => r q (by omega) (by omega)⟩, cZ_keep (fun i hi => (h3.1 i hi).1) hl z fun q hq => r q (by omega) (by omega)⟩
theorem rX_keepQ {f f' : pm_H} {b : Nat} {x : xs} {t : Int} (h : rX f b x t) (r : ∀ q, b ≤ q → q < b + 14 → f' q = f q) : rX f' b x t := by
  obtain ⟨A, S, ⟨h1, h2⟩, h3⟩ := h
  exact ⟨A, S, ⟨(r _ (by omega) (by omega)).trans h1, fun j hj => (r _ (by omega) (by omega)).trans (h2 j hj)⟩, h3⟩
theorem cX_ob {f : pm_H} {c : Nat} {x : xs} (h : cX f c x) : ∃ fs, f c = some (.inr (.inr (.inr (4, fs)))) := by
  obtain ⟨g, o, V, L, B, M, T, h0, -⟩ := h
  exact ⟨_, h0.1.1⟩
theorem rX_ob {f : pm_H} {b : Nat} {x : xs} {t : Int} (h : rX f b x t) : ∃ fs, f b = some (.inr (.inr (.inr (5, fs)))) := by
  obtain ⟨A, S, h0, -⟩ := h
  exact ⟨_, h0.1⟩
theorem cX_rc {f : pm_H} {c : Nat} {x : xs} {as : List pm_V} (h : cX f c x) : pm_rcv (some 4) f (.inr (.inl (some c)) :: as) := by
  obtain ⟨fs, h⟩ := cX_ob h
  exact Or.inr ⟨c, fs, as, rfl, h⟩
theorem rX_rc {f : pm_H} {c : Nat} {x : xs} {t : Int} {as : List pm_V} (h : rX f c x t) : pm_rcv (some 5) f (.inr (.inl (some c)) :: as) := by
  obtain ⟨fs, h⟩ := rX_ob h
  exact Or.inr ⟨c, fs, as, rfl, h⟩
/-- what a wrapper leaves -/
def ly_Q (c mb o : Nat) (x x' : xs) (t tc val : Int) (cv : Int → Int64) : pm_P := fun v f' => v = some (.inl tc) ∧ cX f' c x' ∧ rX f' mb x t ∧ ∃ g' : Nat → Int64, f' o = some (.inr (.inr (.inl (1, g')))) ∧ (tc = 0 → g' 0 = cv val)
section LYK
variable {f f1 : pm_H} {c mb o : Nat} {x x' : xs} {t tc val : Int} {cv : Int → Int64} {hc : List (String × Int)}
theorem ly_rt {val0 : Int} (hcb : c + 242 ≤ mb) (hbo : mb + 14 ≤ o) (I : ly_I f c mb o x t) (ok' : okX x') (h0 : tc = 0) (hv0 : val0 = val) (h1 : cX f1 c x') (r : cff c f f1) : ∃ (z : Int) (g : Nat → Int64), (some (.inl val0) : Option pm_V) = some (.inl z) ∧ f1 o = some (.inr (.inr (.inl (1, g)))) ∧ ly_Q c mb o x x' t tc val cv (some (.inl 0)) (pm_up f1 o (.inr (.inr (.inl (1, vp_updL g 0 (cv z)))))) := by
  obtain ⟨-, hr, g, hg⟩ := I
  subst hv0
  refine ⟨_, g, rfl, (r o (Or.inr (by omega))).trans hg, by rw [h0], cX_keepQ ok'.2.1.2 h1 fun q q1 q2 => up_ne (by omega), rX_keepQ hr fun q q1 q2 => (up_ne (by omega)).trans (r q (Or.inr (by omega))), _, up_eq, fun _ => ?_⟩
  simp [vp_updL]
theorem ly_th (hcb : c + 242 ≤ mb) (hbo : mb + 14 ≤ o) (I : ly_I f c mb o x t) {E : String} (hm : (E, tc) ∈ hc) (h0 : tc ≠ 0) (h1 : cX f1 c x') (r : cff c f f1) : ∃ n, (E, n) ∈ hc ∧ ly_Q c mb o x x' t tc val cv (some (.inl n)) f1 := by
  obtain ⟨-, hr, g, hg⟩ := I
  exact ⟨tc, hm, rfl, h1, rX_keepQ hr fun q q1 q2 => r q (Or.inr (by omega)), g, (r o (Or.inr (by omega))).trans hg, fun h => absurd h h0⟩
theorem ly_I2 (hcb : c + 242 ≤ mb) (hbo : mb + 14 ≤ o) {f2 : pm_H} {t' : Int} (ok' : okX x') (h1 : cX f1 c x') {g' : Nat → Int64} (hg : f1 o = some (.inr (.inr (.inl (1, g'))))) (h2 : rX f2 mb x' t') (r : rfr mb f1 f2) : ly_I f2 c mb o x' t' ∧ f2 o = some (.inr (.inr (.inl (1, g')))) :=
  ⟨⟨cX_keepQ ok'.2.1.2 h1 fun q q1 q2 => r q (Or.inl (by omega)), h2, g', (r o (Or.inr (by omega))).trans hg⟩, (r o (Or.inr (by omega))).trans hg⟩
/-- behind a call of the class alone -/
theorem ly_I1 (hcb : c + 242 ≤ mb) (hbo : mb + 14 ≤ o) (I : ly_I f c mb o x t) (r : cff c f f1) : rX f1 mb x t ∧ ∃ g : Nat → Int64, f1 o = some (.inr (.inr (.inl (1, g)))) := by
  obtain ⟨-, hr, g, hg⟩ := I
  exact ⟨rX_keepQ hr fun q q1 q2 => r q (Or.inr (by omega)), g, (r o (Or.inr (by omega))).trans hg⟩
end LYK
theorem ly_lc0 (x : Int64) : pm_lcmp x x = 0 := by
  unfold pm_lcmp lg_cmp
  simp
section LYT
variable {sk : Nat → Nat} {Y : pm_K} {f : pm_H} {b c mb o i : Nat} {w6 : Option pm_V}
def ly_D1 (q : Nat) (off : Int) : Prop := decode code q = .ok (.istore 6, 2) ∧ decode code (q + 2) = .ok (.aload_n 2, 1) ∧ decode code (q + 3) = .ok (.invokevirtual 126, 3) ∧ decode code (q + 6) = .ok (.iload 5, 2) ∧ decode code (q + 8) = .ok (.if_icmp .eq 5, 3) ∧ decode code (q + 13) = .ok (.iload 5, 2) ∧ decode code (q + 15) = .ok (.ifCond .ne 15, 3) ∧ decode code (q + 18) = .ok (.aload_n 3, 1) ∧ decode code (q + 19) = .ok (.iconst 0, 1) ∧ decode code (q + 20) = .ok (.laload, 1) ∧ decode code (q + 21) = .ok (.iload 6, 2) ∧ decode code (q + 23) = .ok (.i2l, 1) ∧ decode code (q + 24) = .ok (.lcmp, 1) ∧ decode code (q + 25) = .ok (.ifCond .eq 5, 3) ∧ decode code (q + 30) = .ok (.goto off, 3)
def ly_D2 (q : Nat) (off : Int) : Prop := decode code q = .ok (.istore 6, 2) ∧ decode code (q + 2) = .ok (.aload_n 2, 1) ∧ decode code (q + 3) = .ok (.invokevirtual 126, 3) ∧ decode code (q + 6) = .ok (.iload 5, 2) ∧ decode code (q + 8) = .ok (.if_icmp .eq 5, 3) ∧ decode code (q + 13) = .ok (.iload 5, 2) ∧ decode code (q + 15) = .ok (.ifCond .ne 22, 3) ∧ decode code (q + 18) = .ok (.aload_n 3, 1) ∧ decode code (q + 19) = .ok (.iconst 0, 1) ∧ decode code (q + 20) = .ok (.laload, 1) ∧ decode code (q + 21) = .ok (.iload 6, 2) ∧ decode code (q + 23) = .ok (.ifCond .eq 7, 3) ∧ decode code (q + 26) = .ok (.lconst 1, 1) ∧ decode code (q + 27) = .ok (.goto 4, 3) ∧ decode code (q + 30) = .ok (.lconst 0, 1) ∧ decode code (q + 31) = .ok (.lcmp, 1) ∧ decode code (q + 32) = .ok (.ifCond .eq 5, 3) ∧ decode code (q + 37) = .ok (.goto off, 3)
theorem ly_tgn (q k : Nat) (o : Int) (ho : o = (k : Int)) : pm_tg q o = some (q + k) := by
  subst ho
  unfold pm_tg
  rw [if_pos (by omega)]
  congr 1
/-- behind a call of both: the codes are one, and so are the answers -/
theorem ly_t1 (S : ly_S sk Y) {q : Nat} {off : Int} (D : ly_D1 q off) (ht : pm_tg (q + 30) off = some 2266) {x : xs} {tc val : Int} {g : Nat → Int64} (hr : rX f mb x tc) (hg : f o = some (.inr (.inr (.inl (1, g))))) (hv : tc = 0 → g 0 = cvI val) (hk : ∀ w5 w6, Y 2266 (ly_V b c mb o i w5 w6) [] f) : Y q (ly_V b c mb o i (some (.inl tc)) w6) [.inl val] f := by
  obtain ⟨d0, d2, d3, d6, d8, d13, d15, d18, d19, d20, d21, d23, d24, d25, d30⟩ := D
  refine ly_i6 S d0 ?_
  refine ly_al S d2 rfl ?_
  refine ly_iv S (pc := q + 3) (r := []) d3 (zL_law_C126 sk) rfl (rX_rc hr) (Nat.zero_le _) (thrown_q hr ?_)
  refine ly_il S (pc := q + 6) d6 rfl ?_
  refine ly_eqT S (pc := q + 8) d8 (ly_tgn _ 5 _ rfl) rfl ?_
  refine ly_il S (pc := q + 13) d13 rfl ?_
  refine ly_ne S (pc := q + 15) d15 (ly_tgn _ 15 _ rfl) (fun h0 => ?_) (fun _ => ?_)
  · refine ly_al S (pc := q + 18) d18 rfl ?_
    refine ly_ic S (pc := q + 19) d19 (by omega) ?_
    refine ly_la S (pc := q + 20) d20 hg (by omega) ?_
    refine ly_il S (pc := q + 21) d21 rfl ?_
    refine ly_i2l S (pc := q + 23) d23 ?_
    refine ly_lcmp S (pc := q + 24) d24 ?_
    have e0 : pm_lcmp (g (0 : Int).toNat) (pm_i2l val) = 0 := by
      rw [show (0 : Int).toNat = 0 from rfl, hv h0]
      exact ly_lc0 _
    refine ly_eq S (pc := q + 25) d25 (ly_tgn _ 5 _ rfl) (fun _ => ?_) (fun z => absurd e0 z)
    exact ly_gt S (pc := q + 30) d30 ht (hk _ _)
  · exact ly_gt S (pc := q + 30) d30 ht (hk _ _)
theorem ly_t2 (S : ly_S sk Y) {q : Nat} {off : Int} (D : ly_D2 q off) (ht : pm_tg (q + 37) off = some 2266) {x : xs} {tc val : Int} {g : Nat → Int64} (hr : rX f mb x tc) (hg : f o = some (.inr (.inr (.inl (1, g))))) (hv : tc = 0 → g 0 = cvB val) (hk : ∀ w5 w6, Y 2266 (ly_V b c mb o i w5 w6) [] f) : Y q (ly_V b c mb o i (some (.inl tc)) w6) [.inl val] f := by
  obtain ⟨d0, d2, d3, d6, d8, d13, d15, d18, d19, d20, d21, d23, d26, d27, d30, d31, d32, d37⟩ := D
  refine ly_i6 S d0 ?_
  refine ly_al S d2 rfl ?_
  refine ly_iv S (pc := q + 3) (r := []) d3 (zL_law_C126 sk) rfl (rX_rc hr) (Nat.zero_le _) (thrown_q hr ?_)
  refine ly_il S (pc := q + 6) d6 rfl ?_
  refine ly_eqT S (pc := q + 8) d8 (ly_tgn _ 5 _ rfl) rfl ?_
  refine ly_il S (pc := q + 13) d13 rfl ?_
  refine ly_ne S (pc := q + 15) d15 (ly_tgn _ 22 _ rfl) (fun h0 => ?_) (fun _ => ?_)
  · refine ly_al S (pc := q + 18) d18 rfl ?_
    refine ly_ic S (pc := q + 19) d19 (by omega) ?_
    refine ly_la S (pc := q + 20) d20 hg (by omega) ?_
    refine ly_il S (pc := q + 21) d21 rfl ?_
    have e1 : g (0 : Int).toNat = cvB val := hv h0
    rw [e1]
    refine ly_eq S (pc := q + 23) d23 (ly_tgn _ 7 _ rfl) (fun z => ?_) (fun z => ?_)
    · refine ly_lc S (pc := q + 30) d30 ?_
      refine ly_lcmp S (pc := q + 31) d31 ?_
      have e0 : pm_lcmp (cvB val) (Int64.ofNat 0) = 0 := by
        unfold cvB
        rw [if_pos z]
        exact ly_lc0 _
      refine ly_eq S (pc := q + 32) d32 (ly_tgn _ 5 _ rfl) (fun _ => ?_) (fun z => absurd e0 z)
      exact ly_gt S (pc := q + 37) d37 ht (hk _ _)
    · refine ly_lc S (pc := q + 26) d26 ?_
      refine ly_gt S (pc := q + 27) d27 (ly_tgn _ 4 _ rfl) ?_
      refine ly_lcmp S (pc := q + 31) d31 ?_
      have e0 : pm_lcmp (cvB val) (Int64.ofNat 1) = 0 := by
        unfold cvB
        rw [if_neg z]
        exact ly_lc0 _
      refine ly_eq S (pc := q + 32) d32 (ly_tgn _ 5 _ rfl) (fun _ => ?_) (fun z => absurd e0 z)
      exact ly_gt S (pc := q + 37) d37 ht (hk _ _)
  · exact ly_gt S (pc := q + 37) d37 ht (hk _ _)
end LYT

section LYC
variable {p : Program} {l : Launch} {e : Env} {s : State} {m : MethodId} {below : List Frame} {meth : Method} {c : Code} {b L : Nat} {zs : Nat → Int32} {sk sv : Nat → Nat} {G : va_G} {cI cJ : ClassId} {cR : Nat → ClassId} {a w : Nat} {f : pm_H} {k0 mb o i M : Nat} {x : xs} {t : Int} {w5 w6 : Option pm_V}
set_option maxHeartbeats 2000000 in
set_option maxRecDepth 20000 in
theorem lc_feed (C : ly_C p l s m meth c b L zs sk sv G cI cJ cR) (hcb : k0 + 242 ≤ mb) (hbo : mb + 14 ≤ o) (I : ly_I f k0 mb o x t) (g : gX M x) (hM : M + 1900000 ≤ 1000000000) (ha : a + 1 ≤ 601024) (hw : w + 6 ≤ 7293034) (hi : i + 6 ≤ L) (hk : ∀ (a' w' : Nat) (f' : pm_H) (x' : xs) (t' : Int) (w5 w6 : Option pm_V), a' ≤ a + 1 → w' ≤ w + 6 → ly_I f' k0 mb o x' t' → gX (M + 1700000) x' → ly_G p l e s m below meth c b G cI cJ cR a' w' 2266 (ly_V b k0 mb o i w5 w6) [] f') : ly_G p l e s m below meth c b G cI cJ cR a w 208 (ly_V b k0 mb o i w5 w6) [] f := by
  have S0 : ly_S sk (ly_G p l e s m below meth c b G cI cJ cR a w) := ly_st C (by omega) (by omega)
  have R0 : ly_RD (ly_G p l e s m below meth c b G cI cJ cR a w) b L zs := ly_rd0 C
  have hL : L ≤ 3072 := C.2.2.2.2.2.2
  have ok := g.1
  obtain ⟨h, hr, g0, hg0⟩ := id I
  have g' : gX (M + 1700000) (feedX x ((zs (i + 1)).toInt) ((zs (i + 2)).toInt) ((zs (i + 3)).toInt) ((zs (i + 4)).toInt) ((zs (i + 5)).toInt)) := gX_feed g
  refine ly_al S0 dL_law_208 rfl ?_
  refine ly_rd S0 R0 hL hi 1 rfl (by omega) dL_law_209 dL_law_210 dL_law_212 dL_law_213 dL_law_214 ?_
  refine ly_rd S0 R0 hL hi 2 rfl (by omega) dL_law_215 dL_law_216 dL_law_218 dL_law_219 dL_law_220 ?_
  refine ly_rd S0 R0 hL hi 3 rfl (by omega) dL_law_221 dL_law_222 dL_law_224 dL_law_225 dL_law_226 ?_
  refine ly_rd S0 R0 hL hi 4 rfl (by omega) dL_law_227 dL_law_228 dL_law_230 dL_law_231 dL_law_232 ?_
  refine ly_rd S0 R0 hL hi 5 rfl (by omega) dL_law_233 dL_law_234 dL_law_236 dL_law_237 dL_law_238 ?_
  refine ly_iv S0 (r := []) dL_law_239 (zL_law_C111 sk) rfl (cX_rc h) (Nat.zero_le _) (feed_c h ok fun f1 h1 r1 => ?_)
  show ly_G p l e s m below meth c b G cI cJ cR a w 242 (ly_V b k0 mb o i w5 w6) [.inl (if (xT x).length ≤ 380 then (((xT x).length + 20 : Nat) : Int) else -1)] f1
  obtain ⟨hr1, g1, hg1⟩ := ly_I1 hcb hbo I r1
  refine ly_al S0 dL_law_242 rfl ?_
  refine ly_rd S0 R0 hL hi 1 rfl (by omega) dL_law_243 dL_law_244 dL_law_246 dL_law_247 dL_law_248 ?_
  refine ly_rd S0 R0 hL hi 2 rfl (by omega) dL_law_249 dL_law_250 dL_law_252 dL_law_253 dL_law_254 ?_
  refine ly_rd S0 R0 hL hi 3 rfl (by omega) dL_law_255 dL_law_256 dL_law_258 dL_law_259 dL_law_260 ?_
  refine ly_rd S0 R0 hL hi 4 rfl (by omega) dL_law_261 dL_law_262 dL_law_264 dL_law_265 dL_law_266 ?_
  refine ly_rd S0 R0 hL hi 5 rfl (by omega) dL_law_267 dL_law_268 dL_law_270 dL_law_271 dL_law_272 ?_
  refine ly_iv S0 (r := [.inl (if (xT x).length ≤ 380 then (((xT x).length + 20 : Nat) : Int) else -1)]) dL_law_273 (zL_law_C115 sk) rfl (rX_rc hr1) (Nat.le_of_ble_eq_true rfl) (feed_q hr1 ok fun f2 h2 r2 => ?_)
  obtain ⟨I2, hg2⟩ := ly_I2 hcb hbo g'.1 h1 hg1 h2 r2
  show ly_G p l e s m below meth c b G cI cJ cR a w 276 (ly_V b k0 mb o i w5 w6) [.inl (if (xT x).length ≤ 380 then (((xT x).length + 20 : Nat) : Int) else -1), .inl (if (xT x).length ≤ 380 then (((xT x).length + 20 : Nat) : Int) else -1)] f2
  exact ly_eqT S0 dL_law_276 (by decide) rfl (hk _ _ f2 _ _ w5 w6 (by omega) (by omega) I2 g')
set_option maxHeartbeats 2000000 in
set_option maxRecDepth 20000 in
theorem lc_end (C : ly_C p l s m meth c b L zs sk sv G cI cJ cR) (hcb : k0 + 242 ≤ mb) (hbo : mb + 14 ≤ o) (I : ly_I f k0 mb o x t) (g : gX M x) (hM : M + 1900000 ≤ 1000000000) (ha : a + 1 ≤ 601024) (hw : w + 6 ≤ 7293034) (hi : i + 6 ≤ L) (hk : ∀ (a' w' : Nat) (f' : pm_H) (x' : xs) (t' : Int) (w5 w6 : Option pm_V), a' ≤ a + 1 → w' ≤ w + 6 → ly_I f' k0 mb o x' t' → gX (M + 1700000) x' → ly_G p l e s m below meth c b G cI cJ cR a' w' 2266 (ly_V b k0 mb o i w5 w6) [] f') : ly_G p l e s m below meth c b G cI cJ cR a w 281 (ly_V b k0 mb o i w5 w6) [] f := by
  have S0 : ly_S sk (ly_G p l e s m below meth c b G cI cJ cR a w) := ly_st C (by omega) (by omega)
  have R0 : ly_RD (ly_G p l e s m below meth c b G cI cJ cR a w) b L zs := ly_rd0 C
  have hL : L ≤ 3072 := C.2.2.2.2.2.2
  have ok := g.1
  obtain ⟨h, hr, g0, hg0⟩ := id I
  have g' : gX (M + 1700000) (endX x ((zs (i + 1)).toInt)) := gX_end g
  refine ly_al S0 dL_law_281 rfl ?_
  refine ly_rd S0 R0 hL hi 1 rfl (by omega) dL_law_282 dL_law_283 dL_law_285 dL_law_286 dL_law_287 ?_
  refine ly_iv S0 (r := []) dL_law_288 (zL_law_C116 sk) rfl (cX_rc h) (Nat.zero_le _) (end_c h ok fun f1 h1 r1 => ?_)
  show ly_G p l e s m below meth c b G cI cJ cR a w 291 (ly_V b k0 mb o i w5 w6) [.inl (b2 (decide (0 ≤ (zs (i + 1)).toInt ∧ (zs (i + 1)).toInt ≤ ((xT x).length : Int))))] f1
  obtain ⟨hr1, g1, hg1⟩ := ly_I1 hcb hbo I r1
  refine ly_al S0 dL_law_291 rfl ?_
  refine ly_rd S0 R0 hL hi 1 rfl (by omega) dL_law_292 dL_law_293 dL_law_295 dL_law_296 dL_law_297 ?_
  refine ly_iv S0 (r := [.inl (b2 (decide (0 ≤ (zs (i + 1)).toInt ∧ (zs (i + 1)).toInt ≤ ((xT x).length : Int))))]) dL_law_298 (zL_law_C119 sk) rfl (rX_rc hr1) (Nat.le_of_ble_eq_true rfl) (end_q hr1 ok fun f2 h2 r2 => ?_)
  obtain ⟨I2, hg2⟩ := ly_I2 hcb hbo g'.1 h1 hg1 h2 r2
  show ly_G p l e s m below meth c b G cI cJ cR a w 301 (ly_V b k0 mb o i w5 w6) [.inl (b2 (decide (0 ≤ (zs (i + 1)).toInt ∧ (zs (i + 1)).toInt ≤ ((xT x).length : Int)))), .inl (b2 (decide (0 ≤ (zs (i + 1)).toInt ∧ (zs (i + 1)).toInt ≤ ((xT x).length : Int))))] f2
  exact ly_eqT S0 dL_law_301 (by decide) rfl (hk _ _ f2 _ _ w5 w6 (by omega) (by omega) I2 g')
set_option maxHeartbeats 2000000 in
set_option maxRecDepth 20000 in
theorem lc_acts (C : ly_C p l s m meth c b L zs sk sv G cI cJ cR) (hcb : k0 + 242 ≤ mb) (hbo : mb + 14 ≤ o) (I : ly_I f k0 mb o x t) (g : gX M x) (hM : M + 1900000 ≤ 1000000000) (ha : a + 1 ≤ 601024) (hw : w + 6 ≤ 7293034) (hi : i + 6 ≤ L) (hk : ∀ (a' w' : Nat) (f' : pm_H) (x' : xs) (t' : Int) (w5 w6 : Option pm_V), a' ≤ a + 1 → w' ≤ w + 6 → ly_I f' k0 mb o x' t' → gX (M + 1700000) x' → ly_G p l e s m below meth c b G cI cJ cR a' w' 2266 (ly_V b k0 mb o i w5 w6) [] f') : ly_G p l e s m below meth c b G cI cJ cR a w 306 (ly_V b k0 mb o i w5 w6) [] f := by
  have S0 : ly_S sk (ly_G p l e s m below meth c b G cI cJ cR a w) := ly_st C (by omega) (by omega)
  have R0 : ly_RD (ly_G p l e s m below meth c b G cI cJ cR a w) b L zs := ly_rd0 C
  have hL : L ≤ 3072 := C.2.2.2.2.2.2
  have ok := g.1
  obtain ⟨h, hr, g0, hg0⟩ := id I
  have S1 : ly_S sk (ly_G p l e s m below meth c b G cI cJ cR (a + 1) (w + 6)) := ly_st C (by omega) (by omega)
  have R1 : ly_RD (ly_G p l e s m below meth c b G cI cJ cR (a + 1) (w + 6)) b L zs := ly_rd0 C
  have bd := gX_bdA g hM
  have bdm := gX_bdM g hM
  have g' : gX (M + 1700000) (actsX x) := gX_acts g hM
  have hex : wT (T_X4_acts sk) cvI [("java/lang/IllegalArgumentException", 1)] [.inr (.inl (some k0))] o f (ly_Q k0 mb o x (actsX x) t (actsT x) (actsA x) cvI) := by
    unfold wT
    exact acts_x h ok bdm (fun h0 f1 h1 r => ly_rt hcb hbo I g'.1 h0 rfl h1 r) (fun h0 f1 h1 r => ly_th hcb hbo I (by rw [h0]; simp) (by rw [h0]; decide) h1 r)
  refine ly_al S0 dL_law_306 rfl ?_
  refine ly_al S0 dL_law_307 rfl ?_
  refine ly_wr C (as := [.inr (.inl (some k0)), .inr (.inl (some o))]) (k := 2) (fun hok => wc_acts l sk C.2.1 sv G cI cJ cR (cX_ob h) hex hok) (by decide) (by decide) (pm_WS_mem 698 (by decide +kernel) rfl) (pm_WS_mem 124 (by decide +kernel) rfl) ⟨by decide +kernel, by decide +kernel⟩ (by decide +kernel) rfl (pm_WS_mem 696 (by decide +kernel) rfl) (pm_WS_mem 697 (by decide +kernel) rfl) dL_law_308 ha hw ?_
  rintro v f1 ⟨rfl, h1, hr1, g1, hg1, hv1⟩
  show ly_G p l e s m below meth c b G cI cJ cR (a + 1) (w + 6) 311 (ly_V b k0 mb o i w5 w6) [.inl (actsT x)] f1
  refine ly_i5 S1 dL_law_311 ?_
  refine ly_al S1 dL_law_313 rfl ?_
  refine ly_iv S1 (r := []) dL_law_314 (zL_law_C125 sk) rfl (rX_rc hr1) (Nat.zero_le _) (acts_q hr1 ok bdm fun f2 h2 r2 => ?_)
  obtain ⟨I2, hg2⟩ := ly_I2 hcb hbo g'.1 h1 hg1 h2 r2
  exact ly_t1 S1 (q := 317) ⟨dL_law_317, dL_law_319, dL_law_320, dL_law_323, dL_law_325, dL_law_330, dL_law_332, dL_law_335, dL_law_336, dL_law_337, dL_law_338, dL_law_340, dL_law_341, dL_law_342, dL_law_347⟩ (by decide) h2 hg2 hv1 fun w5 w6 => hk _ _ f2 _ _ w5 w6 (Nat.le_refl _) (Nat.le_refl _) I2 g'
set_option maxHeartbeats 2000000 in
set_option maxRecDepth 20000 in
theorem lc_fault (C : ly_C p l s m meth c b L zs sk sv G cI cJ cR) (hcb : k0 + 242 ≤ mb) (hbo : mb + 14 ≤ o) (I : ly_I f k0 mb o x t) (g : gX M x) (hM : M + 1900000 ≤ 1000000000) (ha : a + 1 ≤ 601024) (hw : w + 6 ≤ 7293034) (hi : i + 6 ≤ L) (hk : ∀ (a' w' : Nat) (f' : pm_H) (x' : xs) (t' : Int) (w5 w6 : Option pm_V), a' ≤ a + 1 → w' ≤ w + 6 → ly_I f' k0 mb o x' t' → gX (M + 1700000) x' → ly_G p l e s m below meth c b G cI cJ cR a' w' 2266 (ly_V b k0 mb o i w5 w6) [] f') : ly_G p l e s m below meth c b G cI cJ cR a w 350 (ly_V b k0 mb o i w5 w6) [] f := by
  have S0 : ly_S sk (ly_G p l e s m below meth c b G cI cJ cR a w) := ly_st C (by omega) (by omega)
  have R0 : ly_RD (ly_G p l e s m below meth c b G cI cJ cR a w) b L zs := ly_rd0 C
  have hL : L ≤ 3072 := C.2.2.2.2.2.2
  have ok := g.1
  obtain ⟨h, hr, g0, hg0⟩ := id I
  have g' : gX (M + 1700000) x := gX_up g (by omega)
  refine ly_al S0 dL_law_350 rfl ?_
  refine ly_iv S0 (r := []) dL_law_351 (zL_law_C129 sk) rfl (cX_rc h) (Nat.zero_le _) (fault_c h ?_)
  show ly_G p l e s m below meth c b G cI cJ cR a w 354 (ly_V b k0 mb o i w5 w6) [.inl (xF x)] f
  have h1 := h
  have hr1 := hr
  have hg1 := hg0
  refine ly_al S0 dL_law_354 rfl ?_
  refine ly_iv S0 (r := [.inl (xF x)]) dL_law_355 (zL_law_C132 sk) rfl (rX_rc hr1) (Nat.le_of_ble_eq_true rfl) (fault_q hr1 fun f2 h2 r2 => ?_)
  obtain ⟨I2, hg2⟩ := ly_I2 hcb hbo g'.1 h1 hg1 h2 r2
  show ly_G p l e s m below meth c b G cI cJ cR a w 358 (ly_V b k0 mb o i w5 w6) [.inl (xF x), .inl (xF x)] f2
  exact ly_eqT S0 dL_law_358 (by decide) rfl (hk _ _ f2 _ _ w5 w6 (by omega) (by omega) I2 g')
set_option maxHeartbeats 2000000 in
set_option maxRecDepth 20000 in
theorem lc_why (C : ly_C p l s m meth c b L zs sk sv G cI cJ cR) (hcb : k0 + 242 ≤ mb) (hbo : mb + 14 ≤ o) (I : ly_I f k0 mb o x t) (g : gX M x) (hM : M + 1900000 ≤ 1000000000) (ha : a + 1 ≤ 601024) (hw : w + 6 ≤ 7293034) (hi : i + 6 ≤ L) (hk : ∀ (a' w' : Nat) (f' : pm_H) (x' : xs) (t' : Int) (w5 w6 : Option pm_V), a' ≤ a + 1 → w' ≤ w + 6 → ly_I f' k0 mb o x' t' → gX (M + 1700000) x' → ly_G p l e s m below meth c b G cI cJ cR a' w' 2266 (ly_V b k0 mb o i w5 w6) [] f') : ly_G p l e s m below meth c b G cI cJ cR a w 363 (ly_V b k0 mb o i w5 w6) [] f := by
  have S0 : ly_S sk (ly_G p l e s m below meth c b G cI cJ cR a w) := ly_st C (by omega) (by omega)
  have R0 : ly_RD (ly_G p l e s m below meth c b G cI cJ cR a w) b L zs := ly_rd0 C
  have hL : L ≤ 3072 := C.2.2.2.2.2.2
  have ok := g.1
  obtain ⟨h, hr, g0, hg0⟩ := id I
  have g' : gX (M + 1700000) x := gX_up g (by omega)
  refine ly_al S0 dL_law_363 rfl ?_
  refine ly_iv S0 (r := []) dL_law_364 (zL_law_C133 sk) rfl (cX_rc h) (Nat.zero_le _) (why_c h ?_)
  show ly_G p l e s m below meth c b G cI cJ cR a w 367 (ly_V b k0 mb o i w5 w6) [.inl (xW x)] f
  have h1 := h
  have hr1 := hr
  have hg1 := hg0
  refine ly_al S0 dL_law_367 rfl ?_
  refine ly_iv S0 (r := [.inl (xW x)]) dL_law_368 (zL_law_C136 sk) rfl (rX_rc hr1) (Nat.le_of_ble_eq_true rfl) (why_q hr1 fun f2 h2 r2 => ?_)
  obtain ⟨I2, hg2⟩ := ly_I2 hcb hbo g'.1 h1 hg1 h2 r2
  show ly_G p l e s m below meth c b G cI cJ cR a w 371 (ly_V b k0 mb o i w5 w6) [.inl (xW x), .inl (xW x)] f2
  exact ly_eqT S0 dL_law_371 (by decide) rfl (hk _ _ f2 _ _ w5 w6 (by omega) (by omega) I2 g')
set_option maxHeartbeats 2000000 in
set_option maxRecDepth 20000 in
theorem lc_net (C : ly_C p l s m meth c b L zs sk sv G cI cJ cR) (hcb : k0 + 242 ≤ mb) (hbo : mb + 14 ≤ o) (I : ly_I f k0 mb o x t) (g : gX M x) (hM : M + 1900000 ≤ 1000000000) (ha : a + 1 ≤ 601024) (hw : w + 6 ≤ 7293034) (hi : i + 6 ≤ L) (hk : ∀ (a' w' : Nat) (f' : pm_H) (x' : xs) (t' : Int) (w5 w6 : Option pm_V), a' ≤ a + 1 → w' ≤ w + 6 → ly_I f' k0 mb o x' t' → gX (M + 1700000) x' → ly_G p l e s m below meth c b G cI cJ cR a' w' 2266 (ly_V b k0 mb o i w5 w6) [] f') : ly_G p l e s m below meth c b G cI cJ cR a w 376 (ly_V b k0 mb o i w5 w6) [] f := by
  have S0 : ly_S sk (ly_G p l e s m below meth c b G cI cJ cR a w) := ly_st C (by omega) (by omega)
  have R0 : ly_RD (ly_G p l e s m below meth c b G cI cJ cR a w) b L zs := ly_rd0 C
  have hL : L ≤ 3072 := C.2.2.2.2.2.2
  have ok := g.1
  obtain ⟨h, hr, g0, hg0⟩ := id I
  have S1 : ly_S sk (ly_G p l e s m below meth c b G cI cJ cR (a + 1) (w + 6)) := ly_st C (by omega) (by omega)
  have R1 : ly_RD (ly_G p l e s m below meth c b G cI cJ cR (a + 1) (w + 6)) b L zs := ly_rd0 C
  have bd := gX_bdA g hM
  have bdm := gX_bdM g hM
  have g' : gX (M + 1700000) (netX x ((zs (i + 1)).toInt)) := gX_net g
  have hex : wT T_X4_net cvI [("java/lang/IllegalArgumentException", 1)] [.inr (.inl (some k0)), .inl (zs (i + 1)).toInt] o f (ly_Q k0 mb o x (netX x ((zs (i + 1)).toInt)) t ((if 2 ≤ (zs (i + 1)).toInt ∧ (zs (i + 1)).toInt ≤ 16 then 0 else 1 : Int)) ((if 2 ≤ (zs (i + 1)).toInt ∧ (zs (i + 1)).toInt ≤ 16 then (hgt ((zs (i + 1)).toInt).toNat 4 : Int) else 0)) cvI) := by
    unfold wT
    exact net_x h ok (fun h0 f1 h1 r => ly_rt hcb hbo I g'.1 (if_pos h0) (if_pos h0).symm h1 r) (fun h0 => ly_th hcb hbo I (by rw [if_neg h0]; simp) (by rw [if_neg h0]; decide) (by unfold netX; rw [if_neg h0]; exact h) cff_rf)
  refine ly_al S0 dL_law_376 rfl ?_
  refine ly_rd S0 R0 hL hi 1 rfl (by omega) dL_law_377 dL_law_378 dL_law_380 dL_law_381 dL_law_382 ?_
  refine ly_al S0 dL_law_383 rfl ?_
  refine ly_wr C (as := [.inr (.inl (some k0)), .inl (zs (i + 1)).toInt, .inr (.inl (some o))]) (k := 3) (fun hok => wc_net l sk C.2.1 sv G cI cJ cR (cX_ob h) hex hok) (by decide) (by decide) (pm_WS_mem 835 (by decide +kernel) rfl) (pm_WS_mem 124 (by decide +kernel) rfl) ⟨by decide +kernel, by decide +kernel⟩ (by decide +kernel) rfl (pm_WS_mem 833 (by decide +kernel) rfl) (pm_WS_mem 834 (by decide +kernel) rfl) dL_law_384 ha hw ?_
  rintro v f1 ⟨rfl, h1, hr1, g1, hg1, hv1⟩
  show ly_G p l e s m below meth c b G cI cJ cR (a + 1) (w + 6) 387 (ly_V b k0 mb o i w5 w6) [.inl ((if 2 ≤ (zs (i + 1)).toInt ∧ (zs (i + 1)).toInt ≤ 16 then 0 else 1 : Int))] f1
  refine ly_i5 S1 dL_law_387 ?_
  refine ly_al S1 dL_law_389 rfl ?_
  refine ly_rd S1 R1 hL hi 1 rfl (by omega) dL_law_390 dL_law_391 dL_law_393 dL_law_394 dL_law_395 ?_
  refine ly_iv S1 (r := []) dL_law_396 (zL_law_C140 sk) rfl (rX_rc hr1) (Nat.zero_le _) (net_q hr1 ok fun f2 h2 r2 => ?_)
  obtain ⟨I2, hg2⟩ := ly_I2 hcb hbo g'.1 h1 hg1 h2 r2
  exact ly_t1 S1 (q := 399) ⟨dL_law_399, dL_law_401, dL_law_402, dL_law_405, dL_law_407, dL_law_412, dL_law_414, dL_law_417, dL_law_418, dL_law_419, dL_law_420, dL_law_422, dL_law_423, dL_law_424, dL_law_429⟩ (by decide) h2 hg2 hv1 fun w5 w6 => hk _ _ f2 _ _ w5 w6 (Nat.le_refl _) (Nat.le_refl _) I2 g'
set_option maxHeartbeats 2000000 in
set_option maxRecDepth 20000 in
theorem lc_lay (C : ly_C p l s m meth c b L zs sk sv G cI cJ cR) (hcb : k0 + 242 ≤ mb) (hbo : mb + 14 ≤ o) (I : ly_I f k0 mb o x t) (g : gX M x) (hM : M + 1900000 ≤ 1000000000) (ha : a + 1 ≤ 601024) (hw : w + 6 ≤ 7293034) (hi : i + 6 ≤ L) (hk : ∀ (a' w' : Nat) (f' : pm_H) (x' : xs) (t' : Int) (w5 w6 : Option pm_V), a' ≤ a + 1 → w' ≤ w + 6 → ly_I f' k0 mb o x' t' → gX (M + 1700000) x' → ly_G p l e s m below meth c b G cI cJ cR a' w' 2266 (ly_V b k0 mb o i w5 w6) [] f') : ly_G p l e s m below meth c b G cI cJ cR a w 432 (ly_V b k0 mb o i w5 w6) [] f := by
  have S0 : ly_S sk (ly_G p l e s m below meth c b G cI cJ cR a w) := ly_st C (by omega) (by omega)
  have R0 : ly_RD (ly_G p l e s m below meth c b G cI cJ cR a w) b L zs := ly_rd0 C
  have hL : L ≤ 3072 := C.2.2.2.2.2.2
  have ok := g.1
  obtain ⟨h, hr, g0, hg0⟩ := id I
  have S1 : ly_S sk (ly_G p l e s m below meth c b G cI cJ cR (a + 1) (w + 6)) := ly_st C (by omega) (by omega)
  have R1 : ly_RD (ly_G p l e s m below meth c b G cI cJ cR (a + 1) (w + 6)) b L zs := ly_rd0 C
  have bd := gX_bdA g hM
  have bdm := gX_bdM g hM
  have g' : gX (M + 1700000) (actX x 1 ((zs (i + 1)).toInt) ((zs (i + 2)).toInt)) := gX_act g hM (t := 1) (by omega) ⟨fun z => by omega, fun z => by omega⟩
  have hex : wT T_X4_lay cvI [("java/lang/IllegalStateException", 1)] [.inr (.inl (some k0)), .inl (zs (i + 1)).toInt, .inl (zs (i + 2)).toInt] o f (ly_Q k0 mb o x (actX x 1 ((zs (i + 1)).toInt) ((zs (i + 2)).toInt)) t (thX x 1 ((zs (i + 1)).toInt) ((zs (i + 2)).toInt)) (anX x 1 ((zs (i + 1)).toInt) ((zs (i + 2)).toInt)) cvI) := by
    unfold wT
    exact lay_x h ok bd (fun h0 f1 h1 r => ly_rt hcb hbo I g'.1 (if_pos h0) rfl h1 r) (fun h0 f1 h1 r => ly_th hcb hbo I (by unfold thX; rw [if_neg h0]; simp) (by unfold thX; rw [if_neg h0]; decide) h1 r)
  refine ly_al S0 dL_law_432 rfl ?_
  refine ly_rd S0 R0 hL hi 1 rfl (by omega) dL_law_433 dL_law_434 dL_law_436 dL_law_437 dL_law_438 ?_
  refine ly_rd S0 R0 hL hi 2 rfl (by omega) dL_law_439 dL_law_440 dL_law_442 dL_law_443 dL_law_444 ?_
  refine ly_al S0 dL_law_445 rfl ?_
  refine ly_wr C (as := [.inr (.inl (some k0)), .inl (zs (i + 1)).toInt, .inl (zs (i + 2)).toInt, .inr (.inl (some o))]) (k := 4) (fun hok => wc_lay l sk C.2.1 sv G cI cJ cR (cX_ob h) hex hok) (by decide) (by decide) (pm_WS_mem 843 (by decide +kernel) rfl) (pm_WS_mem 124 (by decide +kernel) rfl) ⟨by decide +kernel, by decide +kernel⟩ (by decide +kernel) rfl (pm_WS_mem 841 (by decide +kernel) rfl) (pm_WS_mem 842 (by decide +kernel) rfl) dL_law_446 ha hw ?_
  rintro v f1 ⟨rfl, h1, hr1, g1, hg1, hv1⟩
  show ly_G p l e s m below meth c b G cI cJ cR (a + 1) (w + 6) 449 (ly_V b k0 mb o i w5 w6) [.inl (thX x 1 ((zs (i + 1)).toInt) ((zs (i + 2)).toInt))] f1
  refine ly_i5 S1 dL_law_449 ?_
  refine ly_al S1 dL_law_451 rfl ?_
  refine ly_rd S1 R1 hL hi 1 rfl (by omega) dL_law_452 dL_law_453 dL_law_455 dL_law_456 dL_law_457 ?_
  refine ly_rd S1 R1 hL hi 2 rfl (by omega) dL_law_458 dL_law_459 dL_law_461 dL_law_462 dL_law_463 ?_
  refine ly_iv S1 (r := []) dL_law_464 (zL_law_C144 sk) rfl (rX_rc hr1) (Nat.zero_le _) (lay_q hr1 ok fun f2 h2 r2 => ?_)
  obtain ⟨I2, hg2⟩ := ly_I2 hcb hbo g'.1 h1 hg1 h2 r2
  exact ly_t1 S1 (q := 467) ⟨dL_law_467, dL_law_469, dL_law_470, dL_law_473, dL_law_475, dL_law_480, dL_law_482, dL_law_485, dL_law_486, dL_law_487, dL_law_488, dL_law_490, dL_law_491, dL_law_492, dL_law_497⟩ (by decide) h2 hg2 hv1 fun w5 w6 => hk _ _ f2 _ _ w5 w6 (Nat.le_refl _) (Nat.le_refl _) I2 g'
set_option maxHeartbeats 2000000 in
set_option maxRecDepth 20000 in
theorem lc_lift (C : ly_C p l s m meth c b L zs sk sv G cI cJ cR) (hcb : k0 + 242 ≤ mb) (hbo : mb + 14 ≤ o) (I : ly_I f k0 mb o x t) (g : gX M x) (hM : M + 1900000 ≤ 1000000000) (ha : a + 1 ≤ 601024) (hw : w + 6 ≤ 7293034) (hi : i + 6 ≤ L) (hk : ∀ (a' w' : Nat) (f' : pm_H) (x' : xs) (t' : Int) (w5 w6 : Option pm_V), a' ≤ a + 1 → w' ≤ w + 6 → ly_I f' k0 mb o x' t' → gX (M + 1700000) x' → ly_G p l e s m below meth c b G cI cJ cR a' w' 2266 (ly_V b k0 mb o i w5 w6) [] f') : ly_G p l e s m below meth c b G cI cJ cR a w 500 (ly_V b k0 mb o i w5 w6) [] f := by
  have S0 : ly_S sk (ly_G p l e s m below meth c b G cI cJ cR a w) := ly_st C (by omega) (by omega)
  have R0 : ly_RD (ly_G p l e s m below meth c b G cI cJ cR a w) b L zs := ly_rd0 C
  have hL : L ≤ 3072 := C.2.2.2.2.2.2
  have ok := g.1
  obtain ⟨h, hr, g0, hg0⟩ := id I
  have S1 : ly_S sk (ly_G p l e s m below meth c b G cI cJ cR (a + 1) (w + 6)) := ly_st C (by omega) (by omega)
  have R1 : ly_RD (ly_G p l e s m below meth c b G cI cJ cR (a + 1) (w + 6)) b L zs := ly_rd0 C
  have bd := gX_bdA g hM
  have bdm := gX_bdM g hM
  have g' : gX (M + 1700000) (actX x 2 ((zs (i + 1)).toInt) 0) := gX_act g hM (t := 2) (by omega) ⟨fun z => by omega, fun z => by omega⟩
  have hex : wT T_X4_lift cvI [("java/lang/IllegalStateException", 1)] [.inr (.inl (some k0)), .inl (zs (i + 1)).toInt] o f (ly_Q k0 mb o x (actX x 2 ((zs (i + 1)).toInt) 0) t (thX x 2 ((zs (i + 1)).toInt) 0) (anX x 2 ((zs (i + 1)).toInt) 0) cvI) := by
    unfold wT
    exact lift_x h ok bd (fun h0 f1 h1 r => ly_rt hcb hbo I g'.1 (if_pos h0) rfl h1 r) (fun h0 f1 h1 r => ly_th hcb hbo I (by unfold thX; rw [if_neg h0]; simp) (by unfold thX; rw [if_neg h0]; decide) h1 r)
  refine ly_al S0 dL_law_500 rfl ?_
  refine ly_rd S0 R0 hL hi 1 rfl (by omega) dL_law_501 dL_law_502 dL_law_504 dL_law_505 dL_law_506 ?_
  refine ly_al S0 dL_law_507 rfl ?_
  refine ly_wr C (as := [.inr (.inl (some k0)), .inl (zs (i + 1)).toInt, .inr (.inl (some o))]) (k := 3) (fun hok => wc_lift l sk C.2.1 sv G cI cJ cR (cX_ob h) hex hok) (by decide) (by decide) (pm_WS_mem 851 (by decide +kernel) rfl) (pm_WS_mem 124 (by decide +kernel) rfl) ⟨by decide +kernel, by decide +kernel⟩ (by decide +kernel) rfl (pm_WS_mem 849 (by decide +kernel) rfl) (pm_WS_mem 850 (by decide +kernel) rfl) dL_law_508 ha hw ?_
  rintro v f1 ⟨rfl, h1, hr1, g1, hg1, hv1⟩
  show ly_G p l e s m below meth c b G cI cJ cR (a + 1) (w + 6) 511 (ly_V b k0 mb o i w5 w6) [.inl (thX x 2 ((zs (i + 1)).toInt) 0)] f1
  refine ly_i5 S1 dL_law_511 ?_
  refine ly_al S1 dL_law_513 rfl ?_
  refine ly_rd S1 R1 hL hi 1 rfl (by omega) dL_law_514 dL_law_515 dL_law_517 dL_law_518 dL_law_519 ?_
  refine ly_iv S1 (r := []) dL_law_520 (zL_law_C147 sk) rfl (rX_rc hr1) (Nat.zero_le _) (lift_q hr1 ok (by have := g.2.1.1; omega) (by have := g.2.1.2; omega) (q := 0) fun f2 h2 r2 => ?_)
  obtain ⟨I2, hg2⟩ := ly_I2 hcb hbo g'.1 h1 hg1 h2 r2
  exact ly_t1 S1 (q := 523) ⟨dL_law_523, dL_law_525, dL_law_526, dL_law_529, dL_law_531, dL_law_536, dL_law_538, dL_law_541, dL_law_542, dL_law_543, dL_law_544, dL_law_546, dL_law_547, dL_law_548, dL_law_553⟩ (by decide) h2 hg2 hv1 fun w5 w6 => hk _ _ f2 _ _ w5 w6 (Nat.le_refl _) (Nat.le_refl _) I2 g'
set_option maxHeartbeats 2000000 in
set_option maxRecDepth 20000 in
theorem lc_cost (C : ly_C p l s m meth c b L zs sk sv G cI cJ cR) (hcb : k0 + 242 ≤ mb) (hbo : mb + 14 ≤ o) (I : ly_I f k0 mb o x t) (g : gX M x) (hM : M + 1900000 ≤ 1000000000) (ha : a + 1 ≤ 601024) (hw : w + 6 ≤ 7293034) (hi : i + 6 ≤ L) (hk : ∀ (a' w' : Nat) (f' : pm_H) (x' : xs) (t' : Int) (w5 w6 : Option pm_V), a' ≤ a + 1 → w' ≤ w + 6 → ly_I f' k0 mb o x' t' → gX (M + 1700000) x' → ly_G p l e s m below meth c b G cI cJ cR a' w' 2266 (ly_V b k0 mb o i w5 w6) [] f') : ly_G p l e s m below meth c b G cI cJ cR a w 556 (ly_V b k0 mb o i w5 w6) [] f := by
  have S0 : ly_S sk (ly_G p l e s m below meth c b G cI cJ cR a w) := ly_st C (by omega) (by omega)
  have R0 : ly_RD (ly_G p l e s m below meth c b G cI cJ cR a w) b L zs := ly_rd0 C
  have hL : L ≤ 3072 := C.2.2.2.2.2.2
  have ok := g.1
  obtain ⟨h, hr, g0, hg0⟩ := id I
  have S1 : ly_S sk (ly_G p l e s m below meth c b G cI cJ cR (a + 1) (w + 6)) := ly_st C (by omega) (by omega)
  have R1 : ly_RD (ly_G p l e s m below meth c b G cI cJ cR (a + 1) (w + 6)) b L zs := ly_rd0 C
  have bd := gX_bdA g hM
  have bdm := gX_bdM g hM
  have g' : gX (M + 1700000) (costX x ((zs (i + 1)).toInt) ((zs (i + 2)).toInt)) := gX_cost g hM
  have hex : wT T_X4_cost cvI [("java/lang/IllegalArgumentException", 1), ("java/lang/IllegalStateException", 2)] [.inr (.inl (some k0)), .inl (zs (i + 1)).toInt, .inl (zs (i + 2)).toInt] o f (ly_Q k0 mb o x (costX x ((zs (i + 1)).toInt) ((zs (i + 2)).toInt)) t (costT x ((zs (i + 1)).toInt) ((zs (i + 2)).toInt)) (costA x ((zs (i + 1)).toInt) ((zs (i + 2)).toInt)) cvI) := by
    unfold wT
    exact cost_x h ok bd (fun h0 f1 h1 r => ly_rt hcb hbo I g'.1 h0 rfl h1 r) (fun h0 f1 h1 r => ly_th hcb hbo I (by rw [h0]; simp) (by rw [h0]; decide) h1 r) (fun h0 f1 h1 r => ly_th hcb hbo I (by rw [h0]; simp) (by rw [h0]; decide) h1 r)
  refine ly_al S0 dL_law_556 rfl ?_
  refine ly_rd S0 R0 hL hi 1 rfl (by omega) dL_law_557 dL_law_558 dL_law_560 dL_law_561 dL_law_562 ?_
  refine ly_rd S0 R0 hL hi 2 rfl (by omega) dL_law_563 dL_law_564 dL_law_566 dL_law_567 dL_law_568 ?_
  refine ly_al S0 dL_law_569 rfl ?_
  refine ly_wr C (as := [.inr (.inl (some k0)), .inl (zs (i + 1)).toInt, .inl (zs (i + 2)).toInt, .inr (.inl (some o))]) (k := 4) (fun hok => wc_cost l sk C.2.1 sv G cI cJ cR (cX_ob h) hex hok) (by decide) (by decide) (pm_WS_mem 858 (by decide +kernel) rfl) (pm_WS_mem 124 (by decide +kernel) rfl) ⟨by decide +kernel, by decide +kernel⟩ (by decide +kernel) rfl (pm_WS_mem 856 (by decide +kernel) rfl) (pm_WS_mem 857 (by decide +kernel) rfl) dL_law_570 ha hw ?_
  rintro v f1 ⟨rfl, h1, hr1, g1, hg1, hv1⟩
  show ly_G p l e s m below meth c b G cI cJ cR (a + 1) (w + 6) 573 (ly_V b k0 mb o i w5 w6) [.inl (costT x ((zs (i + 1)).toInt) ((zs (i + 2)).toInt))] f1
  refine ly_i5 S1 dL_law_573 ?_
  refine ly_al S1 dL_law_575 rfl ?_
  refine ly_rd S1 R1 hL hi 1 rfl (by omega) dL_law_576 dL_law_577 dL_law_579 dL_law_580 dL_law_581 ?_
  refine ly_rd S1 R1 hL hi 2 rfl (by omega) dL_law_582 dL_law_583 dL_law_585 dL_law_586 dL_law_587 ?_
  refine ly_iv S1 (r := []) dL_law_588 (zL_law_C150 sk) rfl (rX_rc hr1) (Nat.zero_le _) (cost_q hr1 ok fun f2 h2 r2 => ?_)
  obtain ⟨I2, hg2⟩ := ly_I2 hcb hbo g'.1 h1 hg1 h2 r2
  exact ly_t1 S1 (q := 591) ⟨dL_law_591, dL_law_593, dL_law_594, dL_law_597, dL_law_599, dL_law_604, dL_law_606, dL_law_609, dL_law_610, dL_law_611, dL_law_612, dL_law_614, dL_law_615, dL_law_616, dL_law_621⟩ (by decide) h2 hg2 hv1 fun w5 w6 => hk _ _ f2 _ _ w5 w6 (Nat.le_refl _) (Nat.le_refl _) I2 g'
set_option maxHeartbeats 2000000 in
set_option maxRecDepth 20000 in
theorem lc_tries (C : ly_C p l s m meth c b L zs sk sv G cI cJ cR) (hcb : k0 + 242 ≤ mb) (hbo : mb + 14 ≤ o) (I : ly_I f k0 mb o x t) (g : gX M x) (hM : M + 1900000 ≤ 1000000000) (ha : a + 1 ≤ 601024) (hw : w + 6 ≤ 7293034) (hi : i + 6 ≤ L) (hk : ∀ (a' w' : Nat) (f' : pm_H) (x' : xs) (t' : Int) (w5 w6 : Option pm_V), a' ≤ a + 1 → w' ≤ w + 6 → ly_I f' k0 mb o x' t' → gX (M + 1700000) x' → ly_G p l e s m below meth c b G cI cJ cR a' w' 2266 (ly_V b k0 mb o i w5 w6) [] f') : ly_G p l e s m below meth c b G cI cJ cR a w 624 (ly_V b k0 mb o i w5 w6) [] f := by
  have S0 : ly_S sk (ly_G p l e s m below meth c b G cI cJ cR a w) := ly_st C (by omega) (by omega)
  have R0 : ly_RD (ly_G p l e s m below meth c b G cI cJ cR a w) b L zs := ly_rd0 C
  have hL : L ≤ 3072 := C.2.2.2.2.2.2
  have ok := g.1
  obtain ⟨h, hr, g0, hg0⟩ := id I
  have S1 : ly_S sk (ly_G p l e s m below meth c b G cI cJ cR (a + 1) (w + 6)) := ly_st C (by omega) (by omega)
  have R1 : ly_RD (ly_G p l e s m below meth c b G cI cJ cR (a + 1) (w + 6)) b L zs := ly_rd0 C
  have bd := gX_bdA g hM
  have bdm := gX_bdM g hM
  have g' : gX (M + 1700000) (triesX x) := gX_tries g hM
  have hex : wT (T_X4_tries sk) cvI [("java/lang/IllegalArgumentException", 1)] [.inr (.inl (some k0))] o f (ly_Q k0 mb o x (triesX x) t (actsT x) (triesA x) cvI) := by
    unfold wT
    exact tries_x h ok bdm (fun h0 f1 h1 r => ly_rt hcb hbo I g'.1 h0 rfl h1 r) (fun h0 f1 h1 r => ly_th hcb hbo I (by rw [h0]; simp) (by rw [h0]; decide) h1 r)
  refine ly_al S0 dL_law_624 rfl ?_
  refine ly_al S0 dL_law_625 rfl ?_
  refine ly_wr C (as := [.inr (.inl (some k0)), .inr (.inl (some o))]) (k := 2) (fun hok => wc_tries l sk C.2.1 sv G cI cJ cR (cX_ob h) hex hok) (by decide) (by decide) (pm_WS_mem 866 (by decide +kernel) rfl) (pm_WS_mem 124 (by decide +kernel) rfl) ⟨by decide +kernel, by decide +kernel⟩ (by decide +kernel) rfl (pm_WS_mem 864 (by decide +kernel) rfl) (pm_WS_mem 865 (by decide +kernel) rfl) dL_law_626 ha hw ?_
  rintro v f1 ⟨rfl, h1, hr1, g1, hg1, hv1⟩
  show ly_G p l e s m below meth c b G cI cJ cR (a + 1) (w + 6) 629 (ly_V b k0 mb o i w5 w6) [.inl (actsT x)] f1
  refine ly_i5 S1 dL_law_629 ?_
  refine ly_al S1 dL_law_631 rfl ?_
  refine ly_iv S1 (r := []) dL_law_632 (zL_law_C153 sk) rfl (rX_rc hr1) (Nat.zero_le _) (tries_q hr1 ok bdm fun f2 h2 r2 => ?_)
  obtain ⟨I2, hg2⟩ := ly_I2 hcb hbo g'.1 h1 hg1 h2 r2
  exact ly_t1 S1 (q := 635) ⟨dL_law_635, dL_law_637, dL_law_638, dL_law_641, dL_law_643, dL_law_648, dL_law_650, dL_law_653, dL_law_654, dL_law_655, dL_law_656, dL_law_658, dL_law_659, dL_law_660, dL_law_665⟩ (by decide) h2 hg2 hv1 fun w5 w6 => hk _ _ f2 _ _ w5 w6 (Nat.le_refl _) (Nat.le_refl _) I2 g'
set_option maxHeartbeats 2000000 in
set_option maxRecDepth 20000 in
theorem lc_swap (C : ly_C p l s m meth c b L zs sk sv G cI cJ cR) (hcb : k0 + 242 ≤ mb) (hbo : mb + 14 ≤ o) (I : ly_I f k0 mb o x t) (g : gX M x) (hM : M + 1900000 ≤ 1000000000) (ha : a + 1 ≤ 601024) (hw : w + 6 ≤ 7293034) (hi : i + 6 ≤ L) (hk : ∀ (a' w' : Nat) (f' : pm_H) (x' : xs) (t' : Int) (w5 w6 : Option pm_V), a' ≤ a + 1 → w' ≤ w + 6 → ly_I f' k0 mb o x' t' → gX (M + 1700000) x' → ly_G p l e s m below meth c b G cI cJ cR a' w' 2266 (ly_V b k0 mb o i w5 w6) [] f') : ly_G p l e s m below meth c b G cI cJ cR a w 668 (ly_V b k0 mb o i w5 w6) [] f := by
  have S0 : ly_S sk (ly_G p l e s m below meth c b G cI cJ cR a w) := ly_st C (by omega) (by omega)
  have R0 : ly_RD (ly_G p l e s m below meth c b G cI cJ cR a w) b L zs := ly_rd0 C
  have hL : L ≤ 3072 := C.2.2.2.2.2.2
  have ok := g.1
  obtain ⟨h, hr, g0, hg0⟩ := id I
  have S1 : ly_S sk (ly_G p l e s m below meth c b G cI cJ cR (a + 1) (w + 6)) := ly_st C (by omega) (by omega)
  have R1 : ly_RD (ly_G p l e s m below meth c b G cI cJ cR (a + 1) (w + 6)) b L zs := ly_rd0 C
  have bd := gX_bdA g hM
  have bdm := gX_bdM g hM
  have g' : gX (M + 1700000) (actX x 3 ((zs (i + 1)).toInt) ((zs (i + 2)).toInt)) := gX_act g hM (t := 3) (by omega) ⟨fun z => by omega, fun z => by omega⟩
  have hex : wT T_X4_swap cvI [("java/lang/IllegalStateException", 1)] [.inr (.inl (some k0)), .inl (zs (i + 1)).toInt, .inl (zs (i + 2)).toInt] o f (ly_Q k0 mb o x (actX x 3 ((zs (i + 1)).toInt) ((zs (i + 2)).toInt)) t (thX x 3 ((zs (i + 1)).toInt) ((zs (i + 2)).toInt)) (anX x 3 ((zs (i + 1)).toInt) ((zs (i + 2)).toInt)) cvI) := by
    unfold wT
    exact swap_x h ok bd (fun h0 f1 h1 r => ly_rt hcb hbo I g'.1 (if_pos h0) rfl h1 r) (fun h0 f1 h1 r => ly_th hcb hbo I (by unfold thX; rw [if_neg h0]; simp) (by unfold thX; rw [if_neg h0]; decide) h1 r)
  refine ly_al S0 dL_law_668 rfl ?_
  refine ly_rd S0 R0 hL hi 1 rfl (by omega) dL_law_669 dL_law_670 dL_law_672 dL_law_673 dL_law_674 ?_
  refine ly_rd S0 R0 hL hi 2 rfl (by omega) dL_law_675 dL_law_676 dL_law_678 dL_law_679 dL_law_680 ?_
  refine ly_al S0 dL_law_681 rfl ?_
  refine ly_wr C (as := [.inr (.inl (some k0)), .inl (zs (i + 1)).toInt, .inl (zs (i + 2)).toInt, .inr (.inl (some o))]) (k := 4) (fun hok => wc_swap l sk C.2.1 sv G cI cJ cR (cX_ob h) hex hok) (by decide) (by decide) (pm_WS_mem 873 (by decide +kernel) rfl) (pm_WS_mem 124 (by decide +kernel) rfl) ⟨by decide +kernel, by decide +kernel⟩ (by decide +kernel) rfl (pm_WS_mem 871 (by decide +kernel) rfl) (pm_WS_mem 872 (by decide +kernel) rfl) dL_law_682 ha hw ?_
  rintro v f1 ⟨rfl, h1, hr1, g1, hg1, hv1⟩
  show ly_G p l e s m below meth c b G cI cJ cR (a + 1) (w + 6) 685 (ly_V b k0 mb o i w5 w6) [.inl (thX x 3 ((zs (i + 1)).toInt) ((zs (i + 2)).toInt))] f1
  refine ly_i5 S1 dL_law_685 ?_
  refine ly_al S1 dL_law_687 rfl ?_
  refine ly_rd S1 R1 hL hi 1 rfl (by omega) dL_law_688 dL_law_689 dL_law_691 dL_law_692 dL_law_693 ?_
  refine ly_rd S1 R1 hL hi 2 rfl (by omega) dL_law_694 dL_law_695 dL_law_697 dL_law_698 dL_law_699 ?_
  refine ly_iv S1 (r := []) dL_law_700 (zL_law_C156 sk) rfl (rX_rc hr1) (Nat.zero_le _) (swap_q hr1 ok fun f2 h2 r2 => ?_)
  obtain ⟨I2, hg2⟩ := ly_I2 hcb hbo g'.1 h1 hg1 h2 r2
  exact ly_t1 S1 (q := 703) ⟨dL_law_703, dL_law_705, dL_law_706, dL_law_709, dL_law_711, dL_law_716, dL_law_718, dL_law_721, dL_law_722, dL_law_723, dL_law_724, dL_law_726, dL_law_727, dL_law_728, dL_law_733⟩ (by decide) h2 hg2 hv1 fun w5 w6 => hk _ _ f2 _ _ w5 w6 (Nat.le_refl _) (Nat.le_refl _) I2 g'
set_option maxHeartbeats 2000000 in
set_option maxRecDepth 20000 in
theorem lc_fail (C : ly_C p l s m meth c b L zs sk sv G cI cJ cR) (hcb : k0 + 242 ≤ mb) (hbo : mb + 14 ≤ o) (I : ly_I f k0 mb o x t) (g : gX M x) (hM : M + 1900000 ≤ 1000000000) (ha : a + 1 ≤ 601024) (hw : w + 6 ≤ 7293034) (hi : i + 6 ≤ L) (hk : ∀ (a' w' : Nat) (f' : pm_H) (x' : xs) (t' : Int) (w5 w6 : Option pm_V), a' ≤ a + 1 → w' ≤ w + 6 → ly_I f' k0 mb o x' t' → gX (M + 1700000) x' → ly_G p l e s m below meth c b G cI cJ cR a' w' 2266 (ly_V b k0 mb o i w5 w6) [] f') : ly_G p l e s m below meth c b G cI cJ cR a w 736 (ly_V b k0 mb o i w5 w6) [] f := by
  have S0 : ly_S sk (ly_G p l e s m below meth c b G cI cJ cR a w) := ly_st C (by omega) (by omega)
  have R0 : ly_RD (ly_G p l e s m below meth c b G cI cJ cR a w) b L zs := ly_rd0 C
  have hL : L ≤ 3072 := C.2.2.2.2.2.2
  have ok := g.1
  obtain ⟨h, hr, g0, hg0⟩ := id I
  have S1 : ly_S sk (ly_G p l e s m below meth c b G cI cJ cR (a + 1) (w + 6)) := ly_st C (by omega) (by omega)
  have R1 : ly_RD (ly_G p l e s m below meth c b G cI cJ cR (a + 1) (w + 6)) b L zs := ly_rd0 C
  have bd := gX_bdA g hM
  have bdm := gX_bdM g hM
  have g' : gX (M + 1700000) (actX x 4 ((zs (i + 1)).toInt) 0) := gX_act g hM (t := 4) (by omega) ⟨fun z => by omega, fun z => by omega⟩
  have hex : wT T_X4_fail cvI [("java/lang/IllegalStateException", 1)] [.inr (.inl (some k0)), .inl (zs (i + 1)).toInt] o f (ly_Q k0 mb o x (actX x 4 ((zs (i + 1)).toInt) 0) t (thX x 4 ((zs (i + 1)).toInt) 0) (anX x 4 ((zs (i + 1)).toInt) 0) cvI) := by
    unfold wT
    exact fail_x h ok bd (fun h0 f1 h1 r => ly_rt hcb hbo I g'.1 (if_pos h0) rfl h1 r) (fun h0 f1 h1 r => ly_th hcb hbo I (by unfold thX; rw [if_neg h0]; simp) (by unfold thX; rw [if_neg h0]; decide) h1 r)
  refine ly_al S0 dL_law_736 rfl ?_
  refine ly_rd S0 R0 hL hi 1 rfl (by omega) dL_law_737 dL_law_738 dL_law_740 dL_law_741 dL_law_742 ?_
  refine ly_al S0 dL_law_743 rfl ?_
  refine ly_wr C (as := [.inr (.inl (some k0)), .inl (zs (i + 1)).toInt, .inr (.inl (some o))]) (k := 3) (fun hok => wc_fail l sk C.2.1 sv G cI cJ cR (cX_ob h) hex hok) (by decide) (by decide) (pm_WS_mem 880 (by decide +kernel) rfl) (pm_WS_mem 124 (by decide +kernel) rfl) ⟨by decide +kernel, by decide +kernel⟩ (by decide +kernel) rfl (pm_WS_mem 878 (by decide +kernel) rfl) (pm_WS_mem 879 (by decide +kernel) rfl) dL_law_744 ha hw ?_
  rintro v f1 ⟨rfl, h1, hr1, g1, hg1, hv1⟩
  show ly_G p l e s m below meth c b G cI cJ cR (a + 1) (w + 6) 747 (ly_V b k0 mb o i w5 w6) [.inl (thX x 4 ((zs (i + 1)).toInt) 0)] f1
  refine ly_i5 S1 dL_law_747 ?_
  refine ly_al S1 dL_law_749 rfl ?_
  refine ly_rd S1 R1 hL hi 1 rfl (by omega) dL_law_750 dL_law_751 dL_law_753 dL_law_754 dL_law_755 ?_
  refine ly_iv S1 (r := []) dL_law_756 (zL_law_C159 sk) rfl (rX_rc hr1) (Nat.zero_le _) (fail_q hr1 ok (by have := g.2.1.1; omega) (by have := g.2.1.2; omega) (q := 0) fun f2 h2 r2 => ?_)
  obtain ⟨I2, hg2⟩ := ly_I2 hcb hbo g'.1 h1 hg1 h2 r2
  exact ly_t1 S1 (q := 759) ⟨dL_law_759, dL_law_761, dL_law_762, dL_law_765, dL_law_767, dL_law_772, dL_law_774, dL_law_777, dL_law_778, dL_law_779, dL_law_780, dL_law_782, dL_law_783, dL_law_784, dL_law_789⟩ (by decide) h2 hg2 hv1 fun w5 w6 => hk _ _ f2 _ _ w5 w6 (Nat.le_refl _) (Nat.le_refl _) I2 g'
set_option maxHeartbeats 2000000 in
set_option maxRecDepth 20000 in
theorem lc_tidy (C : ly_C p l s m meth c b L zs sk sv G cI cJ cR) (hcb : k0 + 242 ≤ mb) (hbo : mb + 14 ≤ o) (I : ly_I f k0 mb o x t) (g : gX M x) (hM : M + 1900000 ≤ 1000000000) (ha : a + 1 ≤ 601024) (hw : w + 6 ≤ 7293034) (hi : i + 6 ≤ L) (hk : ∀ (a' w' : Nat) (f' : pm_H) (x' : xs) (t' : Int) (w5 w6 : Option pm_V), a' ≤ a + 1 → w' ≤ w + 6 → ly_I f' k0 mb o x' t' → gX (M + 1700000) x' → ly_G p l e s m below meth c b G cI cJ cR a' w' 2266 (ly_V b k0 mb o i w5 w6) [] f') : ly_G p l e s m below meth c b G cI cJ cR a w 792 (ly_V b k0 mb o i w5 w6) [] f := by
  have S0 : ly_S sk (ly_G p l e s m below meth c b G cI cJ cR a w) := ly_st C (by omega) (by omega)
  have R0 : ly_RD (ly_G p l e s m below meth c b G cI cJ cR a w) b L zs := ly_rd0 C
  have hL : L ≤ 3072 := C.2.2.2.2.2.2
  have ok := g.1
  obtain ⟨h, hr, g0, hg0⟩ := id I
  have g' : gX (M + 1700000) (actX x 5 0 0) := gX_act g hM (t := 5) (by omega) ⟨fun z => by omega, fun z => by omega⟩
  refine ly_al S0 dL_law_792 rfl ?_
  refine ly_tx C (as := [.inr (.inl (some k0))]) (px_cok (k := 1) (i := 4) (Ct_X4_tidy l sk C.2.1) ykX4_tidy (by decide) (by decide) rfl rfl (by decide) (by decide +kernel) (pm_WS_mem 372 (by decide +kernel) rfl)) dL_law_793 rfl (cX_rc h) ha hw (tidy_x h ok (gX_bdA g hM) fun f1 h1 r1 => ?_)
  show ly_G p l e s m below meth c b G cI cJ cR a w 796 (ly_V b k0 mb o i w5 w6) [.inl (anX x 5 0 0)] f1
  obtain ⟨hr1, g1, hg1⟩ := ly_I1 hcb hbo I r1
  refine ly_al S0 dL_law_796 rfl ?_
  refine ly_iv S0 (r := [.inl (anX x 5 0 0)]) dL_law_797 (zL_law_C163 sk) rfl (rX_rc hr1) (Nat.le_of_ble_eq_true rfl) (tidy_q hr1 ok (p := 0) (q := 0) fun f2 h2 r2 => ?_)
  obtain ⟨I2, hg2⟩ := ly_I2 hcb hbo g'.1 h1 hg1 h2 r2
  show ly_G p l e s m below meth c b G cI cJ cR a w 800 (ly_V b k0 mb o i w5 w6) [.inl (anX x 5 0 0), .inl (anX x 5 0 0)] f2
  exact ly_eqT S0 dL_law_800 (by decide) rfl (hk _ _ f2 _ _ w5 w6 (by omega) (by omega) I2 g')
set_option maxHeartbeats 2000000 in
set_option maxRecDepth 20000 in
theorem lc_undo (C : ly_C p l s m meth c b L zs sk sv G cI cJ cR) (hcb : k0 + 242 ≤ mb) (hbo : mb + 14 ≤ o) (I : ly_I f k0 mb o x t) (g : gX M x) (hM : M + 1900000 ≤ 1000000000) (ha : a + 1 ≤ 601024) (hw : w + 6 ≤ 7293034) (hi : i + 6 ≤ L) (hk : ∀ (a' w' : Nat) (f' : pm_H) (x' : xs) (t' : Int) (w5 w6 : Option pm_V), a' ≤ a + 1 → w' ≤ w + 6 → ly_I f' k0 mb o x' t' → gX (M + 1700000) x' → ly_G p l e s m below meth c b G cI cJ cR a' w' 2266 (ly_V b k0 mb o i w5 w6) [] f') : ly_G p l e s m below meth c b G cI cJ cR a w 805 (ly_V b k0 mb o i w5 w6) [] f := by
  have S0 : ly_S sk (ly_G p l e s m below meth c b G cI cJ cR a w) := ly_st C (by omega) (by omega)
  have R0 : ly_RD (ly_G p l e s m below meth c b G cI cJ cR a w) b L zs := ly_rd0 C
  have hL : L ≤ 3072 := C.2.2.2.2.2.2
  have ok := g.1
  obtain ⟨h, hr, g0, hg0⟩ := id I
  have S1 : ly_S sk (ly_G p l e s m below meth c b G cI cJ cR (a + 1) (w + 6)) := ly_st C (by omega) (by omega)
  have R1 : ly_RD (ly_G p l e s m below meth c b G cI cJ cR (a + 1) (w + 6)) b L zs := ly_rd0 C
  have bd := gX_bdA g hM
  have bdm := gX_bdM g hM
  have g' : gX (M + 1700000) (undoX x) := gX_undo g
  have hex : wT T_X4_undo cvI [("java/lang/IllegalStateException", 1)] [.inr (.inl (some k0))] o f (ly_Q k0 mb o x (undoX x) t ((if xP x = [] then 1 else 0 : Int)) ((((undoX x).2.1.length : Nat) : Int)) cvI) := by
    unfold wT
    exact undo_x h ok (fun h0 f1 h1 r => ly_rt hcb hbo I g'.1 (if_neg h0) rfl h1 r) (fun h0 => ly_th hcb hbo I (by rw [if_pos h0]; simp) (by rw [if_pos h0]; decide) (by unfold undoX; rw [if_pos h0]; exact h) cff_rf)
  refine ly_al S0 dL_law_805 rfl ?_
  refine ly_al S0 dL_law_806 rfl ?_
  refine ly_wr C (as := [.inr (.inl (some k0)), .inr (.inl (some o))]) (k := 2) (fun hok => wc_undo l sk C.2.1 sv G cI cJ cR (cX_ob h) hex hok) (by decide) (by decide) (pm_WS_mem 887 (by decide +kernel) rfl) (pm_WS_mem 124 (by decide +kernel) rfl) ⟨by decide +kernel, by decide +kernel⟩ (by decide +kernel) rfl (pm_WS_mem 885 (by decide +kernel) rfl) (pm_WS_mem 886 (by decide +kernel) rfl) dL_law_807 ha hw ?_
  rintro v f1 ⟨rfl, h1, hr1, g1, hg1, hv1⟩
  show ly_G p l e s m below meth c b G cI cJ cR (a + 1) (w + 6) 810 (ly_V b k0 mb o i w5 w6) [.inl ((if xP x = [] then 1 else 0 : Int))] f1
  refine ly_i5 S1 dL_law_810 ?_
  refine ly_al S1 dL_law_812 rfl ?_
  refine ly_iv S1 (r := []) dL_law_813 (zL_law_C166 sk) rfl (rX_rc hr1) (Nat.zero_le _) (undo_q hr1 ok fun f2 h2 r2 => ?_)
  obtain ⟨I2, hg2⟩ := ly_I2 hcb hbo g'.1 h1 hg1 h2 r2
  exact ly_t1 S1 (q := 816) ⟨dL_law_816, dL_law_818, dL_law_819, dL_law_822, dL_law_824, dL_law_829, dL_law_831, dL_law_834, dL_law_835, dL_law_836, dL_law_837, dL_law_839, dL_law_840, dL_law_841, dL_law_846⟩ (by decide) h2 hg2 hv1 fun w5 w6 => hk _ _ f2 _ _ w5 w6 (Nat.le_refl _) (Nat.le_refl _) I2 g'
set_option maxHeartbeats 2000000 in
set_option maxRecDepth 20000 in
theorem lc_connected (C : ly_C p l s m meth c b L zs sk sv G cI cJ cR) (hcb : k0 + 242 ≤ mb) (hbo : mb + 14 ≤ o) (I : ly_I f k0 mb o x t) (g : gX M x) (hM : M + 1900000 ≤ 1000000000) (ha : a + 1 ≤ 601024) (hw : w + 6 ≤ 7293034) (hi : i + 6 ≤ L) (hk : ∀ (a' w' : Nat) (f' : pm_H) (x' : xs) (t' : Int) (w5 w6 : Option pm_V), a' ≤ a + 1 → w' ≤ w + 6 → ly_I f' k0 mb o x' t' → gX (M + 1700000) x' → ly_G p l e s m below meth c b G cI cJ cR a' w' 2266 (ly_V b k0 mb o i w5 w6) [] f') : ly_G p l e s m below meth c b G cI cJ cR a w 849 (ly_V b k0 mb o i w5 w6) [] f := by
  have S0 : ly_S sk (ly_G p l e s m below meth c b G cI cJ cR a w) := ly_st C (by omega) (by omega)
  have R0 : ly_RD (ly_G p l e s m below meth c b G cI cJ cR a w) b L zs := ly_rd0 C
  have hL : L ≤ 3072 := C.2.2.2.2.2.2
  have ok := g.1
  obtain ⟨h, hr, g0, hg0⟩ := id I
  have S1 : ly_S sk (ly_G p l e s m below meth c b G cI cJ cR (a + 1) (w + 6)) := ly_st C (by omega) (by omega)
  have R1 : ly_RD (ly_G p l e s m below meth c b G cI cJ cR (a + 1) (w + 6)) b L zs := ly_rd0 C
  have bd := gX_bdA g hM
  have bdm := gX_bdM g hM
  have g' : gX (M + 1700000) x := gX_up g (by omega)
  have hex : wT T_X4_connected cvB [("java/lang/IndexOutOfBoundsException", 1)] [.inr (.inl (some k0)), .inl (zs (i + 1)).toInt, .inl (zs (i + 2)).toInt] o f (ly_Q k0 mb o x x t ((aConn (xN x) ((zs (i + 1)).toInt) ((zs (i + 2)).toInt)).1) ((aConn (xN x) ((zs (i + 1)).toInt) ((zs (i + 2)).toInt)).2) cvB) := by
    unfold wT
    exact connected_x h ok (fun h0 f1 h1 r => ly_rt hcb hbo I g'.1 h0 rfl h1 r) (fun h0 => ly_th hcb hbo I (by rw [h0]; simp) (by rw [h0]; decide) h cff_rf)
  refine ly_al S0 dL_law_849 rfl ?_
  refine ly_rd S0 R0 hL hi 1 rfl (by omega) dL_law_850 dL_law_851 dL_law_853 dL_law_854 dL_law_855 ?_
  refine ly_rd S0 R0 hL hi 2 rfl (by omega) dL_law_856 dL_law_857 dL_law_859 dL_law_860 dL_law_861 ?_
  refine ly_al S0 dL_law_862 rfl ?_
  refine ly_wr C (as := [.inr (.inl (some k0)), .inl (zs (i + 1)).toInt, .inl (zs (i + 2)).toInt, .inr (.inl (some o))]) (k := 4) (fun hok => wc_connected l sk C.2.1 sv G cI cJ cR (cX_ob h) hex hok) (by decide) (by decide) (pm_WS_mem 895 (by decide +kernel) rfl) (pm_WS_mem 124 (by decide +kernel) rfl) ⟨by decide +kernel, by decide +kernel⟩ (by decide +kernel) rfl (pm_WS_mem 893 (by decide +kernel) rfl) (pm_WS_mem 894 (by decide +kernel) rfl) dL_law_863 ha hw ?_
  rintro v f1 ⟨rfl, h1, hr1, g1, hg1, hv1⟩
  show ly_G p l e s m below meth c b G cI cJ cR (a + 1) (w + 6) 866 (ly_V b k0 mb o i w5 w6) [.inl ((aConn (xN x) ((zs (i + 1)).toInt) ((zs (i + 2)).toInt)).1)] f1
  refine ly_i5 S1 dL_law_866 ?_
  refine ly_al S1 dL_law_868 rfl ?_
  refine ly_rd S1 R1 hL hi 1 rfl (by omega) dL_law_869 dL_law_870 dL_law_872 dL_law_873 dL_law_874 ?_
  refine ly_rd S1 R1 hL hi 2 rfl (by omega) dL_law_875 dL_law_876 dL_law_878 dL_law_879 dL_law_880 ?_
  refine ly_iv S1 (r := []) dL_law_881 (zL_law_C169 sk) rfl (rX_rc hr1) (Nat.zero_le _) (connected_Q hr1 ok fun f2 h2 r2 => ?_)
  obtain ⟨I2, hg2⟩ := ly_I2 hcb hbo g'.1 h1 hg1 h2 r2
  exact ly_t2 S1 (q := 884) ⟨dL_law_884, dL_law_886, dL_law_887, dL_law_890, dL_law_892, dL_law_897, dL_law_899, dL_law_902, dL_law_903, dL_law_904, dL_law_905, dL_law_907, dL_law_910, dL_law_911, dL_law_914, dL_law_915, dL_law_916, dL_law_921⟩ (by decide) h2 hg2 hv1 fun w5 w6 => hk _ _ f2 _ _ w5 w6 (Nat.le_refl _) (Nat.le_refl _) I2 g'
set_option maxHeartbeats 2000000 in
set_option maxRecDepth 20000 in
theorem lc_node (C : ly_C p l s m meth c b L zs sk sv G cI cJ cR) (hcb : k0 + 242 ≤ mb) (hbo : mb + 14 ≤ o) (I : ly_I f k0 mb o x t) (g : gX M x) (hM : M + 1900000 ≤ 1000000000) (ha : a + 1 ≤ 601024) (hw : w + 6 ≤ 7293034) (hi : i + 6 ≤ L) (hk : ∀ (a' w' : Nat) (f' : pm_H) (x' : xs) (t' : Int) (w5 w6 : Option pm_V), a' ≤ a + 1 → w' ≤ w + 6 → ly_I f' k0 mb o x' t' → gX (M + 1700000) x' → ly_G p l e s m below meth c b G cI cJ cR a' w' 2266 (ly_V b k0 mb o i w5 w6) [] f') : ly_G p l e s m below meth c b G cI cJ cR a w 924 (ly_V b k0 mb o i w5 w6) [] f := by
  have S0 : ly_S sk (ly_G p l e s m below meth c b G cI cJ cR a w) := ly_st C (by omega) (by omega)
  have R0 : ly_RD (ly_G p l e s m below meth c b G cI cJ cR a w) b L zs := ly_rd0 C
  have hL : L ≤ 3072 := C.2.2.2.2.2.2
  have ok := g.1
  obtain ⟨h, hr, g0, hg0⟩ := id I
  have S1 : ly_S sk (ly_G p l e s m below meth c b G cI cJ cR (a + 1) (w + 6)) := ly_st C (by omega) (by omega)
  have R1 : ly_RD (ly_G p l e s m below meth c b G cI cJ cR (a + 1) (w + 6)) b L zs := ly_rd0 C
  have bd := gX_bdA g hM
  have bdm := gX_bdM g hM
  have g' : gX (M + 1700000) x := gX_up g (by omega)
  have hex : wT T_X4_node cvI [("java/lang/IndexOutOfBoundsException", 1), ("java/util/NoSuchElementException", 2)] [.inr (.inl (some k0)), .inl (zs (i + 1)).toInt, .inl (zs (i + 2)).toInt] o f (ly_Q k0 mb o x x t ((aNode (xN x) ((zs (i + 1)).toInt) ((zs (i + 2)).toInt)).1) ((aNode (xN x) ((zs (i + 1)).toInt) ((zs (i + 2)).toInt)).2) cvI) := by
    unfold wT
    exact node_x h ok (fun h0 f1 h1 r => ly_rt hcb hbo I g'.1 h0 rfl h1 r) (fun h0 => ly_th hcb hbo I (by rw [h0]; simp) (by rw [h0]; decide) h cff_rf) (fun h0 => ly_th hcb hbo I (by rw [h0]; simp) (by rw [h0]; decide) h cff_rf)
  refine ly_al S0 dL_law_924 rfl ?_
  refine ly_rd S0 R0 hL hi 1 rfl (by omega) dL_law_925 dL_law_926 dL_law_928 dL_law_929 dL_law_930 ?_
  refine ly_rd S0 R0 hL hi 2 rfl (by omega) dL_law_931 dL_law_932 dL_law_934 dL_law_935 dL_law_936 ?_
  refine ly_al S0 dL_law_937 rfl ?_
  refine ly_wr C (as := [.inr (.inl (some k0)), .inl (zs (i + 1)).toInt, .inl (zs (i + 2)).toInt, .inr (.inl (some o))]) (k := 4) (fun hok => wc_node l sk C.2.1 sv G cI cJ cR (cX_ob h) hex hok) (by decide) (by decide) (pm_WS_mem 926 (by decide +kernel) rfl) (pm_WS_mem 124 (by decide +kernel) rfl) ⟨by decide +kernel, by decide +kernel⟩ (by decide +kernel) rfl (pm_WS_mem 924 (by decide +kernel) rfl) (pm_WS_mem 925 (by decide +kernel) rfl) dL_law_938 ha hw ?_
  rintro v f1 ⟨rfl, h1, hr1, g1, hg1, hv1⟩
  show ly_G p l e s m below meth c b G cI cJ cR (a + 1) (w + 6) 941 (ly_V b k0 mb o i w5 w6) [.inl ((aNode (xN x) ((zs (i + 1)).toInt) ((zs (i + 2)).toInt)).1)] f1
  refine ly_i5 S1 dL_law_941 ?_
  refine ly_al S1 dL_law_943 rfl ?_
  refine ly_rd S1 R1 hL hi 1 rfl (by omega) dL_law_944 dL_law_945 dL_law_947 dL_law_948 dL_law_949 ?_
  refine ly_rd S1 R1 hL hi 2 rfl (by omega) dL_law_950 dL_law_951 dL_law_953 dL_law_954 dL_law_955 ?_
  refine ly_iv S1 (r := []) dL_law_956 (zL_law_C172 sk) rfl (rX_rc hr1) (Nat.zero_le _) (node_Q hr1 ok fun f2 h2 r2 => ?_)
  obtain ⟨I2, hg2⟩ := ly_I2 hcb hbo g'.1 h1 hg1 h2 r2
  exact ly_t1 S1 (q := 959) ⟨dL_law_959, dL_law_961, dL_law_962, dL_law_965, dL_law_967, dL_law_972, dL_law_974, dL_law_977, dL_law_978, dL_law_979, dL_law_980, dL_law_982, dL_law_983, dL_law_984, dL_law_989⟩ (by decide) h2 hg2 hv1 fun w5 w6 => hk _ _ f2 _ _ w5 w6 (Nat.le_refl _) (Nat.le_refl _) I2 g'
set_option maxHeartbeats 2000000 in
set_option maxRecDepth 20000 in
theorem lc_cable (C : ly_C p l s m meth c b L zs sk sv G cI cJ cR) (hcb : k0 + 242 ≤ mb) (hbo : mb + 14 ≤ o) (I : ly_I f k0 mb o x t) (g : gX M x) (hM : M + 1900000 ≤ 1000000000) (ha : a + 1 ≤ 601024) (hw : w + 6 ≤ 7293034) (hi : i + 6 ≤ L) (hk : ∀ (a' w' : Nat) (f' : pm_H) (x' : xs) (t' : Int) (w5 w6 : Option pm_V), a' ≤ a + 1 → w' ≤ w + 6 → ly_I f' k0 mb o x' t' → gX (M + 1700000) x' → ly_G p l e s m below meth c b G cI cJ cR a' w' 2266 (ly_V b k0 mb o i w5 w6) [] f') : ly_G p l e s m below meth c b G cI cJ cR a w 992 (ly_V b k0 mb o i w5 w6) [] f := by
  have S0 : ly_S sk (ly_G p l e s m below meth c b G cI cJ cR a w) := ly_st C (by omega) (by omega)
  have R0 : ly_RD (ly_G p l e s m below meth c b G cI cJ cR a w) b L zs := ly_rd0 C
  have hL : L ≤ 3072 := C.2.2.2.2.2.2
  have ok := g.1
  obtain ⟨h, hr, g0, hg0⟩ := id I
  have S1 : ly_S sk (ly_G p l e s m below meth c b G cI cJ cR (a + 1) (w + 6)) := ly_st C (by omega) (by omega)
  have R1 : ly_RD (ly_G p l e s m below meth c b G cI cJ cR (a + 1) (w + 6)) b L zs := ly_rd0 C
  have bd := gX_bdA g hM
  have bdm := gX_bdM g hM
  have g' : gX (M + 1700000) x := gX_up g (by omega)
  have hex : wT T_X4_cable cvI [("java/lang/IndexOutOfBoundsException", 1), ("java/util/NoSuchElementException", 2)] [.inr (.inl (some k0)), .inl (zs (i + 1)).toInt, .inl (zs (i + 2)).toInt] o f (ly_Q k0 mb o x x t ((aCable (xN x) ((zs (i + 1)).toInt) ((zs (i + 2)).toInt)).1) ((aCable (xN x) ((zs (i + 1)).toInt) ((zs (i + 2)).toInt)).2) cvI) := by
    unfold wT
    exact cable_x h ok (fun h0 f1 h1 r => ly_rt hcb hbo I g'.1 h0 rfl h1 r) (fun h0 => ly_th hcb hbo I (by rw [h0]; simp) (by rw [h0]; decide) h cff_rf) (fun h0 => ly_th hcb hbo I (by rw [h0]; simp) (by rw [h0]; decide) h cff_rf)
  refine ly_al S0 dL_law_992 rfl ?_
  refine ly_rd S0 R0 hL hi 1 rfl (by omega) dL_law_993 dL_law_994 dL_law_996 dL_law_997 dL_law_998 ?_
  refine ly_rd S0 R0 hL hi 2 rfl (by omega) dL_law_999 dL_law_1000 dL_law_1002 dL_law_1003 dL_law_1004 ?_
  refine ly_al S0 dL_law_1005 rfl ?_
  refine ly_wr C (as := [.inr (.inl (some k0)), .inl (zs (i + 1)).toInt, .inl (zs (i + 2)).toInt, .inr (.inl (some o))]) (k := 4) (fun hok => wc_cable l sk C.2.1 sv G cI cJ cR (cX_ob h) hex hok) (by decide) (by decide) (pm_WS_mem 962 (by decide +kernel) rfl) (pm_WS_mem 124 (by decide +kernel) rfl) ⟨by decide +kernel, by decide +kernel⟩ (by decide +kernel) rfl (pm_WS_mem 960 (by decide +kernel) rfl) (pm_WS_mem 961 (by decide +kernel) rfl) dL_law_1006 ha hw ?_
  rintro v f1 ⟨rfl, h1, hr1, g1, hg1, hv1⟩
  show ly_G p l e s m below meth c b G cI cJ cR (a + 1) (w + 6) 1009 (ly_V b k0 mb o i w5 w6) [.inl ((aCable (xN x) ((zs (i + 1)).toInt) ((zs (i + 2)).toInt)).1)] f1
  refine ly_i5 S1 dL_law_1009 ?_
  refine ly_al S1 dL_law_1011 rfl ?_
  refine ly_rd S1 R1 hL hi 1 rfl (by omega) dL_law_1012 dL_law_1013 dL_law_1015 dL_law_1016 dL_law_1017 ?_
  refine ly_rd S1 R1 hL hi 2 rfl (by omega) dL_law_1018 dL_law_1019 dL_law_1021 dL_law_1022 dL_law_1023 ?_
  refine ly_iv S1 (r := []) dL_law_1024 (zL_law_C175 sk) rfl (rX_rc hr1) (Nat.zero_le _) (cable_Q hr1 ok fun f2 h2 r2 => ?_)
  obtain ⟨I2, hg2⟩ := ly_I2 hcb hbo g'.1 h1 hg1 h2 r2
  exact ly_t1 S1 (q := 1027) ⟨dL_law_1027, dL_law_1029, dL_law_1030, dL_law_1033, dL_law_1035, dL_law_1040, dL_law_1042, dL_law_1045, dL_law_1046, dL_law_1047, dL_law_1048, dL_law_1050, dL_law_1051, dL_law_1052, dL_law_1057⟩ (by decide) h2 hg2 hv1 fun w5 w6 => hk _ _ f2 _ _ w5 w6 (Nat.le_refl _) (Nat.le_refl _) I2 g'
set_option maxHeartbeats 2000000 in
set_option maxRecDepth 20000 in
theorem lc_part (C : ly_C p l s m meth c b L zs sk sv G cI cJ cR) (hcb : k0 + 242 ≤ mb) (hbo : mb + 14 ≤ o) (I : ly_I f k0 mb o x t) (g : gX M x) (hM : M + 1900000 ≤ 1000000000) (ha : a + 1 ≤ 601024) (hw : w + 6 ≤ 7293034) (hi : i + 6 ≤ L) (hk : ∀ (a' w' : Nat) (f' : pm_H) (x' : xs) (t' : Int) (w5 w6 : Option pm_V), a' ≤ a + 1 → w' ≤ w + 6 → ly_I f' k0 mb o x' t' → gX (M + 1700000) x' → ly_G p l e s m below meth c b G cI cJ cR a' w' 2266 (ly_V b k0 mb o i w5 w6) [] f') : ly_G p l e s m below meth c b G cI cJ cR a w 1060 (ly_V b k0 mb o i w5 w6) [] f := by
  have S0 : ly_S sk (ly_G p l e s m below meth c b G cI cJ cR a w) := ly_st C (by omega) (by omega)
  have R0 : ly_RD (ly_G p l e s m below meth c b G cI cJ cR a w) b L zs := ly_rd0 C
  have hL : L ≤ 3072 := C.2.2.2.2.2.2
  have ok := g.1
  obtain ⟨h, hr, g0, hg0⟩ := id I
  have S1 : ly_S sk (ly_G p l e s m below meth c b G cI cJ cR (a + 1) (w + 6)) := ly_st C (by omega) (by omega)
  have R1 : ly_RD (ly_G p l e s m below meth c b G cI cJ cR (a + 1) (w + 6)) b L zs := ly_rd0 C
  have bd := gX_bdA g hM
  have bdm := gX_bdM g hM
  have g' : gX (M + 1700000) x := gX_up g (by omega)
  have hex : wT T_X4_part cvI [("java/lang/IndexOutOfBoundsException", 1)] [.inr (.inl (some k0)), .inl (zs (i + 1)).toInt, .inl (zs (i + 2)).toInt] o f (ly_Q k0 mb o x x t ((aPart (xN x) ((zs (i + 1)).toInt) ((zs (i + 2)).toInt)).1) ((aPart (xN x) ((zs (i + 1)).toInt) ((zs (i + 2)).toInt)).2) cvI) := by
    unfold wT
    exact part_x h ok (fun h0 f1 h1 r => ly_rt hcb hbo I g'.1 h0 rfl h1 r) (fun h0 => ly_th hcb hbo I (by rw [h0]; simp) (by rw [h0]; decide) h cff_rf)
  refine ly_al S0 dL_law_1060 rfl ?_
  refine ly_rd S0 R0 hL hi 1 rfl (by omega) dL_law_1061 dL_law_1062 dL_law_1064 dL_law_1065 dL_law_1066 ?_
  refine ly_rd S0 R0 hL hi 2 rfl (by omega) dL_law_1067 dL_law_1068 dL_law_1070 dL_law_1071 dL_law_1072 ?_
  refine ly_al S0 dL_law_1073 rfl ?_
  refine ly_wr C (as := [.inr (.inl (some k0)), .inl (zs (i + 1)).toInt, .inl (zs (i + 2)).toInt, .inr (.inl (some o))]) (k := 4) (fun hok => wc_part l sk C.2.1 sv G cI cJ cR (cX_ob h) hex hok) (by decide) (by decide) (pm_WS_mem 976 (by decide +kernel) rfl) (pm_WS_mem 124 (by decide +kernel) rfl) ⟨by decide +kernel, by decide +kernel⟩ (by decide +kernel) rfl (pm_WS_mem 974 (by decide +kernel) rfl) (pm_WS_mem 975 (by decide +kernel) rfl) dL_law_1074 ha hw ?_
  rintro v f1 ⟨rfl, h1, hr1, g1, hg1, hv1⟩
  show ly_G p l e s m below meth c b G cI cJ cR (a + 1) (w + 6) 1077 (ly_V b k0 mb o i w5 w6) [.inl ((aPart (xN x) ((zs (i + 1)).toInt) ((zs (i + 2)).toInt)).1)] f1
  refine ly_i5 S1 dL_law_1077 ?_
  refine ly_al S1 dL_law_1079 rfl ?_
  refine ly_rd S1 R1 hL hi 1 rfl (by omega) dL_law_1080 dL_law_1081 dL_law_1083 dL_law_1084 dL_law_1085 ?_
  refine ly_rd S1 R1 hL hi 2 rfl (by omega) dL_law_1086 dL_law_1087 dL_law_1089 dL_law_1090 dL_law_1091 ?_
  refine ly_iv S1 (r := []) dL_law_1092 (zL_law_C178 sk) rfl (rX_rc hr1) (Nat.zero_le _) (part_Q hr1 ok fun f2 h2 r2 => ?_)
  obtain ⟨I2, hg2⟩ := ly_I2 hcb hbo g'.1 h1 hg1 h2 r2
  exact ly_t1 S1 (q := 1095) ⟨dL_law_1095, dL_law_1097, dL_law_1098, dL_law_1101, dL_law_1103, dL_law_1108, dL_law_1110, dL_law_1113, dL_law_1114, dL_law_1115, dL_law_1116, dL_law_1118, dL_law_1119, dL_law_1120, dL_law_1125⟩ (by decide) h2 hg2 hv1 fun w5 w6 => hk _ _ f2 _ _ w5 w6 (Nat.le_refl _) (Nat.le_refl _) I2 g'
set_option maxHeartbeats 2000000 in
set_option maxRecDepth 20000 in
theorem lc_level (C : ly_C p l s m meth c b L zs sk sv G cI cJ cR) (hcb : k0 + 242 ≤ mb) (hbo : mb + 14 ≤ o) (I : ly_I f k0 mb o x t) (g : gX M x) (hM : M + 1900000 ≤ 1000000000) (ha : a + 1 ≤ 601024) (hw : w + 6 ≤ 7293034) (hi : i + 6 ≤ L) (hk : ∀ (a' w' : Nat) (f' : pm_H) (x' : xs) (t' : Int) (w5 w6 : Option pm_V), a' ≤ a + 1 → w' ≤ w + 6 → ly_I f' k0 mb o x' t' → gX (M + 1700000) x' → ly_G p l e s m below meth c b G cI cJ cR a' w' 2266 (ly_V b k0 mb o i w5 w6) [] f') : ly_G p l e s m below meth c b G cI cJ cR a w 1128 (ly_V b k0 mb o i w5 w6) [] f := by
  have S0 : ly_S sk (ly_G p l e s m below meth c b G cI cJ cR a w) := ly_st C (by omega) (by omega)
  have R0 : ly_RD (ly_G p l e s m below meth c b G cI cJ cR a w) b L zs := ly_rd0 C
  have hL : L ≤ 3072 := C.2.2.2.2.2.2
  have ok := g.1
  obtain ⟨h, hr, g0, hg0⟩ := id I
  have S1 : ly_S sk (ly_G p l e s m below meth c b G cI cJ cR (a + 1) (w + 6)) := ly_st C (by omega) (by omega)
  have R1 : ly_RD (ly_G p l e s m below meth c b G cI cJ cR (a + 1) (w + 6)) b L zs := ly_rd0 C
  have bd := gX_bdA g hM
  have bdm := gX_bdM g hM
  have g' : gX (M + 1700000) x := gX_up g (by omega)
  have hex : wT T_X4_level cvI [("java/lang/IndexOutOfBoundsException", 1), ("java/util/NoSuchElementException", 2)] [.inr (.inl (some k0)), .inl (zs (i + 1)).toInt, .inl (zs (i + 2)).toInt] o f (ly_Q k0 mb o x x t ((aLevel (xN x) ((zs (i + 1)).toInt) ((zs (i + 2)).toInt)).1) ((aLevel (xN x) ((zs (i + 1)).toInt) ((zs (i + 2)).toInt)).2) cvI) := by
    unfold wT
    exact level_x h ok (fun h0 f1 h1 r => ly_rt hcb hbo I g'.1 h0 rfl h1 r) (fun h0 => ly_th hcb hbo I (by rw [h0]; simp) (by rw [h0]; decide) h cff_rf) (fun h0 => ly_th hcb hbo I (by rw [h0]; simp) (by rw [h0]; decide) h cff_rf)
  refine ly_al S0 dL_law_1128 rfl ?_
  refine ly_rd S0 R0 hL hi 1 rfl (by omega) dL_law_1129 dL_law_1130 dL_law_1132 dL_law_1133 dL_law_1134 ?_
  refine ly_rd S0 R0 hL hi 2 rfl (by omega) dL_law_1135 dL_law_1136 dL_law_1138 dL_law_1139 dL_law_1140 ?_
  refine ly_al S0 dL_law_1141 rfl ?_
  refine ly_wr C (as := [.inr (.inl (some k0)), .inl (zs (i + 1)).toInt, .inl (zs (i + 2)).toInt, .inr (.inl (some o))]) (k := 4) (fun hok => wc_level l sk C.2.1 sv G cI cJ cR (cX_ob h) hex hok) (by decide) (by decide) (pm_WS_mem 988 (by decide +kernel) rfl) (pm_WS_mem 124 (by decide +kernel) rfl) ⟨by decide +kernel, by decide +kernel⟩ (by decide +kernel) rfl (pm_WS_mem 986 (by decide +kernel) rfl) (pm_WS_mem 987 (by decide +kernel) rfl) dL_law_1142 ha hw ?_
  rintro v f1 ⟨rfl, h1, hr1, g1, hg1, hv1⟩
  show ly_G p l e s m below meth c b G cI cJ cR (a + 1) (w + 6) 1145 (ly_V b k0 mb o i w5 w6) [.inl ((aLevel (xN x) ((zs (i + 1)).toInt) ((zs (i + 2)).toInt)).1)] f1
  refine ly_i5 S1 dL_law_1145 ?_
  refine ly_al S1 dL_law_1147 rfl ?_
  refine ly_rd S1 R1 hL hi 1 rfl (by omega) dL_law_1148 dL_law_1149 dL_law_1151 dL_law_1152 dL_law_1153 ?_
  refine ly_rd S1 R1 hL hi 2 rfl (by omega) dL_law_1154 dL_law_1155 dL_law_1157 dL_law_1158 dL_law_1159 ?_
  refine ly_iv S1 (r := []) dL_law_1160 (zL_law_C181 sk) rfl (rX_rc hr1) (Nat.zero_le _) (level_Q hr1 ok fun f2 h2 r2 => ?_)
  obtain ⟨I2, hg2⟩ := ly_I2 hcb hbo g'.1 h1 hg1 h2 r2
  exact ly_t1 S1 (q := 1163) ⟨dL_law_1163, dL_law_1165, dL_law_1166, dL_law_1169, dL_law_1171, dL_law_1176, dL_law_1178, dL_law_1181, dL_law_1182, dL_law_1183, dL_law_1184, dL_law_1186, dL_law_1187, dL_law_1188, dL_law_1193⟩ (by decide) h2 hg2 hv1 fun w5 w6 => hk _ _ f2 _ _ w5 w6 (Nat.le_refl _) (Nat.le_refl _) I2 g'
set_option maxHeartbeats 2000000 in
set_option maxRecDepth 20000 in
theorem lc_tour (C : ly_C p l s m meth c b L zs sk sv G cI cJ cR) (hcb : k0 + 242 ≤ mb) (hbo : mb + 14 ≤ o) (I : ly_I f k0 mb o x t) (g : gX M x) (hM : M + 1900000 ≤ 1000000000) (ha : a + 1 ≤ 601024) (hw : w + 6 ≤ 7293034) (hi : i + 6 ≤ L) (hk : ∀ (a' w' : Nat) (f' : pm_H) (x' : xs) (t' : Int) (w5 w6 : Option pm_V), a' ≤ a + 1 → w' ≤ w + 6 → ly_I f' k0 mb o x' t' → gX (M + 1700000) x' → ly_G p l e s m below meth c b G cI cJ cR a' w' 2266 (ly_V b k0 mb o i w5 w6) [] f') : ly_G p l e s m below meth c b G cI cJ cR a w 1196 (ly_V b k0 mb o i w5 w6) [] f := by
  have S0 : ly_S sk (ly_G p l e s m below meth c b G cI cJ cR a w) := ly_st C (by omega) (by omega)
  have R0 : ly_RD (ly_G p l e s m below meth c b G cI cJ cR a w) b L zs := ly_rd0 C
  have hL : L ≤ 3072 := C.2.2.2.2.2.2
  have ok := g.1
  obtain ⟨h, hr, g0, hg0⟩ := id I
  have S1 : ly_S sk (ly_G p l e s m below meth c b G cI cJ cR (a + 1) (w + 6)) := ly_st C (by omega) (by omega)
  have R1 : ly_RD (ly_G p l e s m below meth c b G cI cJ cR (a + 1) (w + 6)) b L zs := ly_rd0 C
  have bd := gX_bdA g hM
  have bdm := gX_bdM g hM
  have g' : gX (M + 1700000) x := gX_up g (by omega)
  have hex : wT T_X4_tour cvI [("java/lang/IndexOutOfBoundsException", 1)] [.inr (.inl (some k0)), .inl (zs (i + 1)).toInt, .inl (zs (i + 2)).toInt, .inl (zs (i + 3)).toInt] o f (ly_Q k0 mb o x x t ((aTour (xN x) ((zs (i + 1)).toInt) ((zs (i + 2)).toInt) ((zs (i + 3)).toInt)).1) ((aTour (xN x) ((zs (i + 1)).toInt) ((zs (i + 2)).toInt) ((zs (i + 3)).toInt)).2) cvI) := by
    unfold wT
    exact tour_x h ok (fun h0 f1 h1 r => ly_rt hcb hbo I g'.1 h0 rfl h1 r) (fun h0 => ly_th hcb hbo I (by rw [h0]; simp) (by rw [h0]; decide) h cff_rf)
  refine ly_al S0 dL_law_1196 rfl ?_
  refine ly_rd S0 R0 hL hi 1 rfl (by omega) dL_law_1197 dL_law_1198 dL_law_1200 dL_law_1201 dL_law_1202 ?_
  refine ly_rd S0 R0 hL hi 2 rfl (by omega) dL_law_1203 dL_law_1204 dL_law_1206 dL_law_1207 dL_law_1208 ?_
  refine ly_rd S0 R0 hL hi 3 rfl (by omega) dL_law_1209 dL_law_1210 dL_law_1212 dL_law_1213 dL_law_1214 ?_
  refine ly_al S0 dL_law_1215 rfl ?_
  refine ly_wr C (as := [.inr (.inl (some k0)), .inl (zs (i + 1)).toInt, .inl (zs (i + 2)).toInt, .inl (zs (i + 3)).toInt, .inr (.inl (some o))]) (k := 5) (fun hok => wc_tour l sk C.2.1 sv G cI cJ cR (cX_ob h) hex hok) (by decide) (by decide) (pm_WS_mem 1005 (by decide +kernel) rfl) (pm_WS_mem 124 (by decide +kernel) rfl) ⟨by decide +kernel, by decide +kernel⟩ (by decide +kernel) rfl (pm_WS_mem 1003 (by decide +kernel) rfl) (pm_WS_mem 1004 (by decide +kernel) rfl) dL_law_1216 ha hw ?_
  rintro v f1 ⟨rfl, h1, hr1, g1, hg1, hv1⟩
  show ly_G p l e s m below meth c b G cI cJ cR (a + 1) (w + 6) 1219 (ly_V b k0 mb o i w5 w6) [.inl ((aTour (xN x) ((zs (i + 1)).toInt) ((zs (i + 2)).toInt) ((zs (i + 3)).toInt)).1)] f1
  refine ly_i5 S1 dL_law_1219 ?_
  refine ly_al S1 dL_law_1221 rfl ?_
  refine ly_rd S1 R1 hL hi 1 rfl (by omega) dL_law_1222 dL_law_1223 dL_law_1225 dL_law_1226 dL_law_1227 ?_
  refine ly_rd S1 R1 hL hi 2 rfl (by omega) dL_law_1228 dL_law_1229 dL_law_1231 dL_law_1232 dL_law_1233 ?_
  refine ly_rd S1 R1 hL hi 3 rfl (by omega) dL_law_1234 dL_law_1235 dL_law_1237 dL_law_1238 dL_law_1239 ?_
  refine ly_iv S1 (r := []) dL_law_1240 (zL_law_C185 sk) rfl (rX_rc hr1) (Nat.zero_le _) (tour_Q hr1 ok fun f2 h2 r2 => ?_)
  obtain ⟨I2, hg2⟩ := ly_I2 hcb hbo g'.1 h1 hg1 h2 r2
  exact ly_t1 S1 (q := 1243) ⟨dL_law_1243, dL_law_1245, dL_law_1246, dL_law_1249, dL_law_1251, dL_law_1256, dL_law_1258, dL_law_1261, dL_law_1262, dL_law_1263, dL_law_1264, dL_law_1266, dL_law_1267, dL_law_1268, dL_law_1273⟩ (by decide) h2 hg2 hv1 fun w5 w6 => hk _ _ f2 _ _ w5 w6 (Nat.le_refl _) (Nat.le_refl _) I2 g'
set_option maxHeartbeats 2000000 in
set_option maxRecDepth 20000 in
theorem lc_deep (C : ly_C p l s m meth c b L zs sk sv G cI cJ cR) (hcb : k0 + 242 ≤ mb) (hbo : mb + 14 ≤ o) (I : ly_I f k0 mb o x t) (g : gX M x) (hM : M + 1900000 ≤ 1000000000) (ha : a + 1 ≤ 601024) (hw : w + 6 ≤ 7293034) (hi : i + 6 ≤ L) (hk : ∀ (a' w' : Nat) (f' : pm_H) (x' : xs) (t' : Int) (w5 w6 : Option pm_V), a' ≤ a + 1 → w' ≤ w + 6 → ly_I f' k0 mb o x' t' → gX (M + 1700000) x' → ly_G p l e s m below meth c b G cI cJ cR a' w' 2266 (ly_V b k0 mb o i w5 w6) [] f') : ly_G p l e s m below meth c b G cI cJ cR a w 1276 (ly_V b k0 mb o i w5 w6) [] f := by
  have S0 : ly_S sk (ly_G p l e s m below meth c b G cI cJ cR a w) := ly_st C (by omega) (by omega)
  have R0 : ly_RD (ly_G p l e s m below meth c b G cI cJ cR a w) b L zs := ly_rd0 C
  have hL : L ≤ 3072 := C.2.2.2.2.2.2
  have ok := g.1
  obtain ⟨h, hr, g0, hg0⟩ := id I
  have S1 : ly_S sk (ly_G p l e s m below meth c b G cI cJ cR (a + 1) (w + 6)) := ly_st C (by omega) (by omega)
  have R1 : ly_RD (ly_G p l e s m below meth c b G cI cJ cR (a + 1) (w + 6)) b L zs := ly_rd0 C
  have bd := gX_bdA g hM
  have bdm := gX_bdM g hM
  have g' : gX (M + 1700000) x := gX_up g (by omega)
  have hex : wT T_X4_deep cvI [("java/lang/IndexOutOfBoundsException", 1)] [.inr (.inl (some k0)), .inl (zs (i + 1)).toInt, .inl (zs (i + 2)).toInt] o f (ly_Q k0 mb o x x t ((aDeep (xN x) ((zs (i + 1)).toInt) ((zs (i + 2)).toInt)).1) ((aDeep (xN x) ((zs (i + 1)).toInt) ((zs (i + 2)).toInt)).2) cvI) := by
    unfold wT
    exact deep_x h ok (fun h0 f1 h1 r => ly_rt hcb hbo I g'.1 h0 rfl h1 r) (fun h0 => ly_th hcb hbo I (by rw [h0]; simp) (by rw [h0]; decide) h cff_rf)
  refine ly_al S0 dL_law_1276 rfl ?_
  refine ly_rd S0 R0 hL hi 1 rfl (by omega) dL_law_1277 dL_law_1278 dL_law_1280 dL_law_1281 dL_law_1282 ?_
  refine ly_rd S0 R0 hL hi 2 rfl (by omega) dL_law_1283 dL_law_1284 dL_law_1286 dL_law_1287 dL_law_1288 ?_
  refine ly_al S0 dL_law_1289 rfl ?_
  refine ly_wr C (as := [.inr (.inl (some k0)), .inl (zs (i + 1)).toInt, .inl (zs (i + 2)).toInt, .inr (.inl (some o))]) (k := 4) (fun hok => wc_deep l sk C.2.1 sv G cI cJ cR (cX_ob h) hex hok) (by decide) (by decide) (pm_WS_mem 1016 (by decide +kernel) rfl) (pm_WS_mem 124 (by decide +kernel) rfl) ⟨by decide +kernel, by decide +kernel⟩ (by decide +kernel) rfl (pm_WS_mem 1014 (by decide +kernel) rfl) (pm_WS_mem 1015 (by decide +kernel) rfl) dL_law_1290 ha hw ?_
  rintro v f1 ⟨rfl, h1, hr1, g1, hg1, hv1⟩
  show ly_G p l e s m below meth c b G cI cJ cR (a + 1) (w + 6) 1293 (ly_V b k0 mb o i w5 w6) [.inl ((aDeep (xN x) ((zs (i + 1)).toInt) ((zs (i + 2)).toInt)).1)] f1
  refine ly_i5 S1 dL_law_1293 ?_
  refine ly_al S1 dL_law_1295 rfl ?_
  refine ly_rd S1 R1 hL hi 1 rfl (by omega) dL_law_1296 dL_law_1297 dL_law_1299 dL_law_1300 dL_law_1301 ?_
  refine ly_rd S1 R1 hL hi 2 rfl (by omega) dL_law_1302 dL_law_1303 dL_law_1305 dL_law_1306 dL_law_1307 ?_
  refine ly_iv S1 (r := []) dL_law_1308 (zL_law_C188 sk) rfl (rX_rc hr1) (Nat.zero_le _) (deep_Q hr1 ok fun f2 h2 r2 => ?_)
  obtain ⟨I2, hg2⟩ := ly_I2 hcb hbo g'.1 h1 hg1 h2 r2
  exact ly_t1 S1 (q := 1311) ⟨dL_law_1311, dL_law_1313, dL_law_1314, dL_law_1317, dL_law_1319, dL_law_1324, dL_law_1326, dL_law_1329, dL_law_1330, dL_law_1331, dL_law_1332, dL_law_1334, dL_law_1335, dL_law_1336, dL_law_1341⟩ (by decide) h2 hg2 hv1 fun w5 w6 => hk _ _ f2 _ _ w5 w6 (Nat.le_refl _) (Nat.le_refl _) I2 g'
set_option maxHeartbeats 2000000 in
set_option maxRecDepth 20000 in
theorem lc_way (C : ly_C p l s m meth c b L zs sk sv G cI cJ cR) (hcb : k0 + 242 ≤ mb) (hbo : mb + 14 ≤ o) (I : ly_I f k0 mb o x t) (g : gX M x) (hM : M + 1900000 ≤ 1000000000) (ha : a + 1 ≤ 601024) (hw : w + 6 ≤ 7293034) (hi : i + 6 ≤ L) (hk : ∀ (a' w' : Nat) (f' : pm_H) (x' : xs) (t' : Int) (w5 w6 : Option pm_V), a' ≤ a + 1 → w' ≤ w + 6 → ly_I f' k0 mb o x' t' → gX (M + 1700000) x' → ly_G p l e s m below meth c b G cI cJ cR a' w' 2266 (ly_V b k0 mb o i w5 w6) [] f') : ly_G p l e s m below meth c b G cI cJ cR a w 1344 (ly_V b k0 mb o i w5 w6) [] f := by
  have S0 : ly_S sk (ly_G p l e s m below meth c b G cI cJ cR a w) := ly_st C (by omega) (by omega)
  have R0 : ly_RD (ly_G p l e s m below meth c b G cI cJ cR a w) b L zs := ly_rd0 C
  have hL : L ≤ 3072 := C.2.2.2.2.2.2
  have ok := g.1
  obtain ⟨h, hr, g0, hg0⟩ := id I
  have S1 : ly_S sk (ly_G p l e s m below meth c b G cI cJ cR (a + 1) (w + 6)) := ly_st C (by omega) (by omega)
  have R1 : ly_RD (ly_G p l e s m below meth c b G cI cJ cR (a + 1) (w + 6)) b L zs := ly_rd0 C
  have bd := gX_bdA g hM
  have bdm := gX_bdM g hM
  have g' : gX (M + 1700000) x := gX_up g (by omega)
  have hex : wT T_X4_way cvI [("java/lang/IndexOutOfBoundsException", 1)] [.inr (.inl (some k0)), .inl (zs (i + 1)).toInt, .inl (zs (i + 2)).toInt, .inl (zs (i + 3)).toInt] o f (ly_Q k0 mb o x x t ((aWay (xN x) ((zs (i + 1)).toInt) ((zs (i + 2)).toInt) ((zs (i + 3)).toInt)).1) ((aWay (xN x) ((zs (i + 1)).toInt) ((zs (i + 2)).toInt) ((zs (i + 3)).toInt)).2) cvI) := by
    unfold wT
    exact way_x h ok (fun h0 f1 h1 r => ly_rt hcb hbo I g'.1 h0 rfl h1 r) (fun h0 => ly_th hcb hbo I (by rw [h0]; simp) (by rw [h0]; decide) h cff_rf)
  refine ly_al S0 dL_law_1344 rfl ?_
  refine ly_rd S0 R0 hL hi 1 rfl (by omega) dL_law_1345 dL_law_1346 dL_law_1348 dL_law_1349 dL_law_1350 ?_
  refine ly_rd S0 R0 hL hi 2 rfl (by omega) dL_law_1351 dL_law_1352 dL_law_1354 dL_law_1355 dL_law_1356 ?_
  refine ly_rd S0 R0 hL hi 3 rfl (by omega) dL_law_1357 dL_law_1358 dL_law_1360 dL_law_1361 dL_law_1362 ?_
  refine ly_al S0 dL_law_1363 rfl ?_
  refine ly_wr C (as := [.inr (.inl (some k0)), .inl (zs (i + 1)).toInt, .inl (zs (i + 2)).toInt, .inl (zs (i + 3)).toInt, .inr (.inl (some o))]) (k := 5) (fun hok => wc_way l sk C.2.1 sv G cI cJ cR (cX_ob h) hex hok) (by decide) (by decide) (pm_WS_mem 1037 (by decide +kernel) rfl) (pm_WS_mem 124 (by decide +kernel) rfl) ⟨by decide +kernel, by decide +kernel⟩ (by decide +kernel) rfl (pm_WS_mem 1035 (by decide +kernel) rfl) (pm_WS_mem 1036 (by decide +kernel) rfl) dL_law_1364 ha hw ?_
  rintro v f1 ⟨rfl, h1, hr1, g1, hg1, hv1⟩
  show ly_G p l e s m below meth c b G cI cJ cR (a + 1) (w + 6) 1367 (ly_V b k0 mb o i w5 w6) [.inl ((aWay (xN x) ((zs (i + 1)).toInt) ((zs (i + 2)).toInt) ((zs (i + 3)).toInt)).1)] f1
  refine ly_i5 S1 dL_law_1367 ?_
  refine ly_al S1 dL_law_1369 rfl ?_
  refine ly_rd S1 R1 hL hi 1 rfl (by omega) dL_law_1370 dL_law_1371 dL_law_1373 dL_law_1374 dL_law_1375 ?_
  refine ly_rd S1 R1 hL hi 2 rfl (by omega) dL_law_1376 dL_law_1377 dL_law_1379 dL_law_1380 dL_law_1381 ?_
  refine ly_rd S1 R1 hL hi 3 rfl (by omega) dL_law_1382 dL_law_1383 dL_law_1385 dL_law_1386 dL_law_1387 ?_
  refine ly_iv S1 (r := []) dL_law_1388 (zL_law_C191 sk) rfl (rX_rc hr1) (Nat.zero_le _) (way_Q hr1 ok fun f2 h2 r2 => ?_)
  obtain ⟨I2, hg2⟩ := ly_I2 hcb hbo g'.1 h1 hg1 h2 r2
  exact ly_t1 S1 (q := 1391) ⟨dL_law_1391, dL_law_1393, dL_law_1394, dL_law_1397, dL_law_1399, dL_law_1404, dL_law_1406, dL_law_1409, dL_law_1410, dL_law_1411, dL_law_1412, dL_law_1414, dL_law_1415, dL_law_1416, dL_law_1421⟩ (by decide) h2 hg2 hv1 fun w5 w6 => hk _ _ f2 _ _ w5 w6 (Nat.le_refl _) (Nat.le_refl _) I2 g'
set_option maxHeartbeats 2000000 in
set_option maxRecDepth 20000 in
theorem lc_near (C : ly_C p l s m meth c b L zs sk sv G cI cJ cR) (hcb : k0 + 242 ≤ mb) (hbo : mb + 14 ≤ o) (I : ly_I f k0 mb o x t) (g : gX M x) (hM : M + 1900000 ≤ 1000000000) (ha : a + 1 ≤ 601024) (hw : w + 6 ≤ 7293034) (hi : i + 6 ≤ L) (hk : ∀ (a' w' : Nat) (f' : pm_H) (x' : xs) (t' : Int) (w5 w6 : Option pm_V), a' ≤ a + 1 → w' ≤ w + 6 → ly_I f' k0 mb o x' t' → gX (M + 1700000) x' → ly_G p l e s m below meth c b G cI cJ cR a' w' 2266 (ly_V b k0 mb o i w5 w6) [] f') : ly_G p l e s m below meth c b G cI cJ cR a w 1424 (ly_V b k0 mb o i w5 w6) [] f := by
  have S0 : ly_S sk (ly_G p l e s m below meth c b G cI cJ cR a w) := ly_st C (by omega) (by omega)
  have R0 : ly_RD (ly_G p l e s m below meth c b G cI cJ cR a w) b L zs := ly_rd0 C
  have hL : L ≤ 3072 := C.2.2.2.2.2.2
  have ok := g.1
  obtain ⟨h, hr, g0, hg0⟩ := id I
  have S1 : ly_S sk (ly_G p l e s m below meth c b G cI cJ cR (a + 1) (w + 6)) := ly_st C (by omega) (by omega)
  have R1 : ly_RD (ly_G p l e s m below meth c b G cI cJ cR (a + 1) (w + 6)) b L zs := ly_rd0 C
  have bd := gX_bdA g hM
  have bdm := gX_bdM g hM
  have g' : gX (M + 1700000) x := gX_up g (by omega)
  have hex : wT T_X4_near cvI [("java/lang/IndexOutOfBoundsException", 1)] [.inr (.inl (some k0)), .inl (zs (i + 1)).toInt, .inl (zs (i + 2)).toInt] o f (ly_Q k0 mb o x x t ((aNear (xN x) ((zs (i + 1)).toInt) ((zs (i + 2)).toInt)).1) ((aNear (xN x) ((zs (i + 1)).toInt) ((zs (i + 2)).toInt)).2) cvI) := by
    unfold wT
    exact near_x h ok (fun h0 f1 h1 r => ly_rt hcb hbo I g'.1 h0 rfl h1 r) (fun h0 => ly_th hcb hbo I (by rw [h0]; simp) (by rw [h0]; decide) h cff_rf)
  refine ly_al S0 dL_law_1424 rfl ?_
  refine ly_rd S0 R0 hL hi 1 rfl (by omega) dL_law_1425 dL_law_1426 dL_law_1428 dL_law_1429 dL_law_1430 ?_
  refine ly_rd S0 R0 hL hi 2 rfl (by omega) dL_law_1431 dL_law_1432 dL_law_1434 dL_law_1435 dL_law_1436 ?_
  refine ly_al S0 dL_law_1437 rfl ?_
  refine ly_wr C (as := [.inr (.inl (some k0)), .inl (zs (i + 1)).toInt, .inl (zs (i + 2)).toInt, .inr (.inl (some o))]) (k := 4) (fun hok => wc_near l sk C.2.1 sv G cI cJ cR (cX_ob h) hex hok) (by decide) (by decide) (pm_WS_mem 1057 (by decide +kernel) rfl) (pm_WS_mem 124 (by decide +kernel) rfl) ⟨by decide +kernel, by decide +kernel⟩ (by decide +kernel) rfl (pm_WS_mem 1055 (by decide +kernel) rfl) (pm_WS_mem 1056 (by decide +kernel) rfl) dL_law_1438 ha hw ?_
  rintro v f1 ⟨rfl, h1, hr1, g1, hg1, hv1⟩
  show ly_G p l e s m below meth c b G cI cJ cR (a + 1) (w + 6) 1441 (ly_V b k0 mb o i w5 w6) [.inl ((aNear (xN x) ((zs (i + 1)).toInt) ((zs (i + 2)).toInt)).1)] f1
  refine ly_i5 S1 dL_law_1441 ?_
  refine ly_al S1 dL_law_1443 rfl ?_
  refine ly_rd S1 R1 hL hi 1 rfl (by omega) dL_law_1444 dL_law_1445 dL_law_1447 dL_law_1448 dL_law_1449 ?_
  refine ly_rd S1 R1 hL hi 2 rfl (by omega) dL_law_1450 dL_law_1451 dL_law_1453 dL_law_1454 dL_law_1455 ?_
  refine ly_iv S1 (r := []) dL_law_1456 (zL_law_C194 sk) rfl (rX_rc hr1) (Nat.zero_le _) (near_Q hr1 ok fun f2 h2 r2 => ?_)
  obtain ⟨I2, hg2⟩ := ly_I2 hcb hbo g'.1 h1 hg1 h2 r2
  exact ly_t1 S1 (q := 1459) ⟨dL_law_1459, dL_law_1461, dL_law_1462, dL_law_1465, dL_law_1467, dL_law_1472, dL_law_1474, dL_law_1477, dL_law_1478, dL_law_1479, dL_law_1480, dL_law_1482, dL_law_1483, dL_law_1484, dL_law_1489⟩ (by decide) h2 hg2 hv1 fun w5 w6 => hk _ _ f2 _ _ w5 w6 (Nat.le_refl _) (Nat.le_refl _) I2 g'
set_option maxHeartbeats 2000000 in
set_option maxRecDepth 20000 in
theorem lc_heir (C : ly_C p l s m meth c b L zs sk sv G cI cJ cR) (hcb : k0 + 242 ≤ mb) (hbo : mb + 14 ≤ o) (I : ly_I f k0 mb o x t) (g : gX M x) (hM : M + 1900000 ≤ 1000000000) (ha : a + 1 ≤ 601024) (hw : w + 6 ≤ 7293034) (hi : i + 6 ≤ L) (hk : ∀ (a' w' : Nat) (f' : pm_H) (x' : xs) (t' : Int) (w5 w6 : Option pm_V), a' ≤ a + 1 → w' ≤ w + 6 → ly_I f' k0 mb o x' t' → gX (M + 1700000) x' → ly_G p l e s m below meth c b G cI cJ cR a' w' 2266 (ly_V b k0 mb o i w5 w6) [] f') : ly_G p l e s m below meth c b G cI cJ cR a w 1492 (ly_V b k0 mb o i w5 w6) [] f := by
  have S0 : ly_S sk (ly_G p l e s m below meth c b G cI cJ cR a w) := ly_st C (by omega) (by omega)
  have R0 : ly_RD (ly_G p l e s m below meth c b G cI cJ cR a w) b L zs := ly_rd0 C
  have hL : L ≤ 3072 := C.2.2.2.2.2.2
  have ok := g.1
  obtain ⟨h, hr, g0, hg0⟩ := id I
  have S1 : ly_S sk (ly_G p l e s m below meth c b G cI cJ cR (a + 1) (w + 6)) := ly_st C (by omega) (by omega)
  have R1 : ly_RD (ly_G p l e s m below meth c b G cI cJ cR (a + 1) (w + 6)) b L zs := ly_rd0 C
  have bd := gX_bdA g hM
  have bdm := gX_bdM g hM
  have g' : gX (M + 1700000) x := gX_up g (by omega)
  have hex : wT T_X4_heir cvI [("java/lang/IndexOutOfBoundsException", 1), ("java/lang/IllegalStateException", 2)] [.inr (.inl (some k0)), .inl (zs (i + 1)).toInt] o f (ly_Q k0 mb o x x t ((heirV (xN x) ((zs (i + 1)).toInt)).1) ((heirV (xN x) ((zs (i + 1)).toInt)).2) cvI) := by
    unfold wT
    exact heir_x h ok bd (fun h0 f1 h1 r => ly_rt hcb hbo I g'.1 h0 rfl h1 r) (fun h0 => ly_th hcb hbo I (by rw [h0]; simp) (by rw [h0]; decide) h cff_rf) (fun h0 => ly_th hcb hbo I (by rw [h0]; simp) (by rw [h0]; decide) h cff_rf)
  refine ly_al S0 dL_law_1492 rfl ?_
  refine ly_rd S0 R0 hL hi 1 rfl (by omega) dL_law_1493 dL_law_1494 dL_law_1496 dL_law_1497 dL_law_1498 ?_
  refine ly_al S0 dL_law_1499 rfl ?_
  refine ly_wr C (as := [.inr (.inl (some k0)), .inl (zs (i + 1)).toInt, .inr (.inl (some o))]) (k := 3) (fun hok => wc_heir l sk C.2.1 sv G cI cJ cR (cX_ob h) hex hok) (by decide) (by decide) (pm_WS_mem 1068 (by decide +kernel) rfl) (pm_WS_mem 124 (by decide +kernel) rfl) ⟨by decide +kernel, by decide +kernel⟩ (by decide +kernel) rfl (pm_WS_mem 1066 (by decide +kernel) rfl) (pm_WS_mem 1067 (by decide +kernel) rfl) dL_law_1500 ha hw ?_
  rintro v f1 ⟨rfl, h1, hr1, g1, hg1, hv1⟩
  show ly_G p l e s m below meth c b G cI cJ cR (a + 1) (w + 6) 1503 (ly_V b k0 mb o i w5 w6) [.inl ((heirV (xN x) ((zs (i + 1)).toInt)).1)] f1
  refine ly_i5 S1 dL_law_1503 ?_
  refine ly_al S1 dL_law_1505 rfl ?_
  refine ly_rd S1 R1 hL hi 1 rfl (by omega) dL_law_1506 dL_law_1507 dL_law_1509 dL_law_1510 dL_law_1511 ?_
  refine ly_iv S1 (r := []) dL_law_1512 (zL_law_C197 sk) rfl (rX_rc hr1) (Nat.zero_le _) (heir_q hr1 ok (by have := g.2.1.1; omega) (by have := g.2.1.2; omega) fun f2 h2 r2 => ?_)
  obtain ⟨I2, hg2⟩ := ly_I2 hcb hbo g'.1 h1 hg1 h2 r2
  exact ly_t1 S1 (q := 1515) ⟨dL_law_1515, dL_law_1517, dL_law_1518, dL_law_1521, dL_law_1523, dL_law_1528, dL_law_1530, dL_law_1533, dL_law_1534, dL_law_1535, dL_law_1536, dL_law_1538, dL_law_1539, dL_law_1540, dL_law_1545⟩ (by decide) h2 hg2 hv1 fun w5 w6 => hk _ _ f2 _ _ w5 w6 (Nat.le_refl _) (Nat.le_refl _) I2 g'
set_option maxHeartbeats 2000000 in
set_option maxRecDepth 20000 in
theorem lc_would (C : ly_C p l s m meth c b L zs sk sv G cI cJ cR) (hcb : k0 + 242 ≤ mb) (hbo : mb + 14 ≤ o) (I : ly_I f k0 mb o x t) (g : gX M x) (hM : M + 1900000 ≤ 1000000000) (ha : a + 1 ≤ 601024) (hw : w + 6 ≤ 7293034) (hi : i + 6 ≤ L) (hk : ∀ (a' w' : Nat) (f' : pm_H) (x' : xs) (t' : Int) (w5 w6 : Option pm_V), a' ≤ a + 1 → w' ≤ w + 6 → ly_I f' k0 mb o x' t' → gX (M + 1700000) x' → ly_G p l e s m below meth c b G cI cJ cR a' w' 2266 (ly_V b k0 mb o i w5 w6) [] f') : ly_G p l e s m below meth c b G cI cJ cR a w 1548 (ly_V b k0 mb o i w5 w6) [] f := by
  have S0 : ly_S sk (ly_G p l e s m below meth c b G cI cJ cR a w) := ly_st C (by omega) (by omega)
  have R0 : ly_RD (ly_G p l e s m below meth c b G cI cJ cR a w) b L zs := ly_rd0 C
  have hL : L ≤ 3072 := C.2.2.2.2.2.2
  have ok := g.1
  obtain ⟨h, hr, g0, hg0⟩ := id I
  have S1 : ly_S sk (ly_G p l e s m below meth c b G cI cJ cR (a + 1) (w + 6)) := ly_st C (by omega) (by omega)
  have R1 : ly_RD (ly_G p l e s m below meth c b G cI cJ cR (a + 1) (w + 6)) b L zs := ly_rd0 C
  have bd := gX_bdA g hM
  have bdm := gX_bdM g hM
  have g' : gX (M + 1700000) x := gX_up g (by omega)
  have hex : wT T_X4_would cvI [("java/lang/IndexOutOfBoundsException", 1), ("java/util/NoSuchElementException", 2), ("java/lang/IllegalStateException", 3)] [.inr (.inl (some k0)), .inl (zs (i + 1)).toInt, .inl (zs (i + 2)).toInt] o f (ly_Q k0 mb o x x t ((wouldV (xN x) ((zs (i + 1)).toInt) ((zs (i + 2)).toInt)).1) ((wouldV (xN x) ((zs (i + 1)).toInt) ((zs (i + 2)).toInt)).2) cvI) := by
    unfold wT
    exact would_x h ok bd (fun h0 f1 h1 r => ly_rt hcb hbo I g'.1 h0 rfl h1 r) (fun h0 => ly_th hcb hbo I (by rw [h0]; simp) (by rw [h0]; decide) h cff_rf) (fun h0 => ly_th hcb hbo I (by rw [h0]; simp) (by rw [h0]; decide) h cff_rf) (fun h0 => ly_th hcb hbo I (by rw [h0]; simp) (by rw [h0]; decide) h cff_rf)
  refine ly_al S0 dL_law_1548 rfl ?_
  refine ly_rd S0 R0 hL hi 1 rfl (by omega) dL_law_1549 dL_law_1550 dL_law_1552 dL_law_1553 dL_law_1554 ?_
  refine ly_rd S0 R0 hL hi 2 rfl (by omega) dL_law_1555 dL_law_1556 dL_law_1558 dL_law_1559 dL_law_1560 ?_
  refine ly_al S0 dL_law_1561 rfl ?_
  refine ly_wr C (as := [.inr (.inl (some k0)), .inl (zs (i + 1)).toInt, .inl (zs (i + 2)).toInt, .inr (.inl (some o))]) (k := 4) (fun hok => wc_would l sk C.2.1 sv G cI cJ cR (cX_ob h) hex hok) (by decide) (by decide) (pm_WS_mem 1077 (by decide +kernel) rfl) (pm_WS_mem 124 (by decide +kernel) rfl) ⟨by decide +kernel, by decide +kernel⟩ (by decide +kernel) rfl (pm_WS_mem 1075 (by decide +kernel) rfl) (pm_WS_mem 1076 (by decide +kernel) rfl) dL_law_1562 ha hw ?_
  rintro v f1 ⟨rfl, h1, hr1, g1, hg1, hv1⟩
  show ly_G p l e s m below meth c b G cI cJ cR (a + 1) (w + 6) 1565 (ly_V b k0 mb o i w5 w6) [.inl ((wouldV (xN x) ((zs (i + 1)).toInt) ((zs (i + 2)).toInt)).1)] f1
  refine ly_i5 S1 dL_law_1565 ?_
  refine ly_al S1 dL_law_1567 rfl ?_
  refine ly_rd S1 R1 hL hi 1 rfl (by omega) dL_law_1568 dL_law_1569 dL_law_1571 dL_law_1572 dL_law_1573 ?_
  refine ly_rd S1 R1 hL hi 2 rfl (by omega) dL_law_1574 dL_law_1575 dL_law_1577 dL_law_1578 dL_law_1579 ?_
  refine ly_iv S1 (r := []) dL_law_1580 (zL_law_C200 sk) rfl (rX_rc hr1) (Nat.zero_le _) (would_q hr1 ok (by have := g.2.1.1; omega) (by have := g.2.1.2; omega) fun f2 h2 r2 => ?_)
  obtain ⟨I2, hg2⟩ := ly_I2 hcb hbo g'.1 h1 hg1 h2 r2
  exact ly_t1 S1 (q := 1583) ⟨dL_law_1583, dL_law_1585, dL_law_1586, dL_law_1589, dL_law_1591, dL_law_1596, dL_law_1598, dL_law_1601, dL_law_1602, dL_law_1603, dL_law_1604, dL_law_1606, dL_law_1607, dL_law_1608, dL_law_1613⟩ (by decide) h2 hg2 hv1 fun w5 w6 => hk _ _ f2 _ _ w5 w6 (Nat.le_refl _) (Nat.le_refl _) I2 g'
set_option maxHeartbeats 2000000 in
set_option maxRecDepth 20000 in
theorem lc_bridge (C : ly_C p l s m meth c b L zs sk sv G cI cJ cR) (hcb : k0 + 242 ≤ mb) (hbo : mb + 14 ≤ o) (I : ly_I f k0 mb o x t) (g : gX M x) (hM : M + 1900000 ≤ 1000000000) (ha : a + 1 ≤ 601024) (hw : w + 6 ≤ 7293034) (hi : i + 6 ≤ L) (hk : ∀ (a' w' : Nat) (f' : pm_H) (x' : xs) (t' : Int) (w5 w6 : Option pm_V), a' ≤ a + 1 → w' ≤ w + 6 → ly_I f' k0 mb o x' t' → gX (M + 1700000) x' → ly_G p l e s m below meth c b G cI cJ cR a' w' 2266 (ly_V b k0 mb o i w5 w6) [] f') : ly_G p l e s m below meth c b G cI cJ cR a w 1616 (ly_V b k0 mb o i w5 w6) [] f := by
  have S0 : ly_S sk (ly_G p l e s m below meth c b G cI cJ cR a w) := ly_st C (by omega) (by omega)
  have R0 : ly_RD (ly_G p l e s m below meth c b G cI cJ cR a w) b L zs := ly_rd0 C
  have hL : L ≤ 3072 := C.2.2.2.2.2.2
  have ok := g.1
  obtain ⟨h, hr, g0, hg0⟩ := id I
  have S1 : ly_S sk (ly_G p l e s m below meth c b G cI cJ cR (a + 1) (w + 6)) := ly_st C (by omega) (by omega)
  have R1 : ly_RD (ly_G p l e s m below meth c b G cI cJ cR (a + 1) (w + 6)) b L zs := ly_rd0 C
  have bd := gX_bdA g hM
  have bdm := gX_bdM g hM
  have g' : gX (M + 1700000) x := gX_up g (by omega)
  have hex : wT T_X4_bridge cvB [("java/lang/IndexOutOfBoundsException", 1)] [.inr (.inl (some k0)), .inl (zs (i + 1)).toInt] o f (ly_Q k0 mb o x x t ((aBridge (xN x) ((zs (i + 1)).toInt)).1) ((aBridge (xN x) ((zs (i + 1)).toInt)).2) cvB) := by
    unfold wT
    exact bridge_x h ok (fun h0 f1 h1 r => ly_rt hcb hbo I g'.1 h0 rfl h1 r) (fun h0 => ly_th hcb hbo I (by rw [h0]; simp) (by rw [h0]; decide) h cff_rf)
  refine ly_al S0 dL_law_1616 rfl ?_
  refine ly_rd S0 R0 hL hi 1 rfl (by omega) dL_law_1617 dL_law_1618 dL_law_1620 dL_law_1621 dL_law_1622 ?_
  refine ly_al S0 dL_law_1623 rfl ?_
  refine ly_wr C (as := [.inr (.inl (some k0)), .inl (zs (i + 1)).toInt, .inr (.inl (some o))]) (k := 3) (fun hok => wc_bridge l sk C.2.1 sv G cI cJ cR (cX_ob h) hex hok) (by decide) (by decide) (pm_WS_mem 1086 (by decide +kernel) rfl) (pm_WS_mem 124 (by decide +kernel) rfl) ⟨by decide +kernel, by decide +kernel⟩ (by decide +kernel) rfl (pm_WS_mem 1084 (by decide +kernel) rfl) (pm_WS_mem 1085 (by decide +kernel) rfl) dL_law_1624 ha hw ?_
  rintro v f1 ⟨rfl, h1, hr1, g1, hg1, hv1⟩
  show ly_G p l e s m below meth c b G cI cJ cR (a + 1) (w + 6) 1627 (ly_V b k0 mb o i w5 w6) [.inl ((aBridge (xN x) ((zs (i + 1)).toInt)).1)] f1
  refine ly_i5 S1 dL_law_1627 ?_
  refine ly_al S1 dL_law_1629 rfl ?_
  refine ly_rd S1 R1 hL hi 1 rfl (by omega) dL_law_1630 dL_law_1631 dL_law_1633 dL_law_1634 dL_law_1635 ?_
  refine ly_iv S1 (r := []) dL_law_1636 (zL_law_C203 sk) rfl (rX_rc hr1) (Nat.zero_le _) (bridge_Q hr1 ok fun f2 h2 r2 => ?_)
  obtain ⟨I2, hg2⟩ := ly_I2 hcb hbo g'.1 h1 hg1 h2 r2
  exact ly_t2 S1 (q := 1639) ⟨dL_law_1639, dL_law_1641, dL_law_1642, dL_law_1645, dL_law_1647, dL_law_1652, dL_law_1654, dL_law_1657, dL_law_1658, dL_law_1659, dL_law_1660, dL_law_1662, dL_law_1665, dL_law_1666, dL_law_1669, dL_law_1670, dL_law_1671, dL_law_1676⟩ (by decide) h2 hg2 hv1 fun w5 w6 => hk _ _ f2 _ _ w5 w6 (Nat.le_refl _) (Nat.le_refl _) I2 g'
set_option maxHeartbeats 2000000 in
set_option maxRecDepth 20000 in
theorem lc_kin (C : ly_C p l s m meth c b L zs sk sv G cI cJ cR) (hcb : k0 + 242 ≤ mb) (hbo : mb + 14 ≤ o) (I : ly_I f k0 mb o x t) (g : gX M x) (hM : M + 1900000 ≤ 1000000000) (ha : a + 1 ≤ 601024) (hw : w + 6 ≤ 7293034) (hi : i + 6 ≤ L) (hk : ∀ (a' w' : Nat) (f' : pm_H) (x' : xs) (t' : Int) (w5 w6 : Option pm_V), a' ≤ a + 1 → w' ≤ w + 6 → ly_I f' k0 mb o x' t' → gX (M + 1700000) x' → ly_G p l e s m below meth c b G cI cJ cR a' w' 2266 (ly_V b k0 mb o i w5 w6) [] f') : ly_G p l e s m below meth c b G cI cJ cR a w 1679 (ly_V b k0 mb o i w5 w6) [] f := by
  have S0 : ly_S sk (ly_G p l e s m below meth c b G cI cJ cR a w) := ly_st C (by omega) (by omega)
  have R0 : ly_RD (ly_G p l e s m below meth c b G cI cJ cR a w) b L zs := ly_rd0 C
  have hL : L ≤ 3072 := C.2.2.2.2.2.2
  have ok := g.1
  obtain ⟨h, hr, g0, hg0⟩ := id I
  have S1 : ly_S sk (ly_G p l e s m below meth c b G cI cJ cR (a + 1) (w + 6)) := ly_st C (by omega) (by omega)
  have R1 : ly_RD (ly_G p l e s m below meth c b G cI cJ cR (a + 1) (w + 6)) b L zs := ly_rd0 C
  have bd := gX_bdA g hM
  have bdm := gX_bdM g hM
  have g' : gX (M + 1700000) x := gX_up g (by omega)
  have hex : wT T_X4_kin cvI [("java/lang/IndexOutOfBoundsException", 1), ("java/util/NoSuchElementException", 2)] [.inr (.inl (some k0)), .inl (zs (i + 1)).toInt, .inl (zs (i + 2)).toInt, .inl (zs (i + 3)).toInt] o f (ly_Q k0 mb o x x t ((aKin (xN x) ((zs (i + 1)).toInt) ((zs (i + 2)).toInt) ((zs (i + 3)).toInt)).1) ((aKin (xN x) ((zs (i + 1)).toInt) ((zs (i + 2)).toInt) ((zs (i + 3)).toInt)).2) cvI) := by
    unfold wT
    exact kin_x h ok (fun h0 f1 h1 r => ly_rt hcb hbo I g'.1 h0 rfl h1 r) (fun h0 => ly_th hcb hbo I (by rw [h0]; simp) (by rw [h0]; decide) h cff_rf) (fun h0 => ly_th hcb hbo I (by rw [h0]; simp) (by rw [h0]; decide) h cff_rf)
  refine ly_al S0 dL_law_1679 rfl ?_
  refine ly_rd S0 R0 hL hi 1 rfl (by omega) dL_law_1680 dL_law_1681 dL_law_1683 dL_law_1684 dL_law_1685 ?_
  refine ly_rd S0 R0 hL hi 2 rfl (by omega) dL_law_1686 dL_law_1687 dL_law_1689 dL_law_1690 dL_law_1691 ?_
  refine ly_rd S0 R0 hL hi 3 rfl (by omega) dL_law_1692 dL_law_1693 dL_law_1695 dL_law_1696 dL_law_1697 ?_
  refine ly_al S0 dL_law_1698 rfl ?_
  refine ly_wr C (as := [.inr (.inl (some k0)), .inl (zs (i + 1)).toInt, .inl (zs (i + 2)).toInt, .inl (zs (i + 3)).toInt, .inr (.inl (some o))]) (k := 5) (fun hok => wc_kin l sk C.2.1 sv G cI cJ cR (cX_ob h) hex hok) (by decide) (by decide) (pm_WS_mem 1093 (by decide +kernel) rfl) (pm_WS_mem 124 (by decide +kernel) rfl) ⟨by decide +kernel, by decide +kernel⟩ (by decide +kernel) rfl (pm_WS_mem 1091 (by decide +kernel) rfl) (pm_WS_mem 1092 (by decide +kernel) rfl) dL_law_1699 ha hw ?_
  rintro v f1 ⟨rfl, h1, hr1, g1, hg1, hv1⟩
  show ly_G p l e s m below meth c b G cI cJ cR (a + 1) (w + 6) 1702 (ly_V b k0 mb o i w5 w6) [.inl ((aKin (xN x) ((zs (i + 1)).toInt) ((zs (i + 2)).toInt) ((zs (i + 3)).toInt)).1)] f1
  refine ly_i5 S1 dL_law_1702 ?_
  refine ly_al S1 dL_law_1704 rfl ?_
  refine ly_rd S1 R1 hL hi 1 rfl (by omega) dL_law_1705 dL_law_1706 dL_law_1708 dL_law_1709 dL_law_1710 ?_
  refine ly_rd S1 R1 hL hi 2 rfl (by omega) dL_law_1711 dL_law_1712 dL_law_1714 dL_law_1715 dL_law_1716 ?_
  refine ly_rd S1 R1 hL hi 3 rfl (by omega) dL_law_1717 dL_law_1718 dL_law_1720 dL_law_1721 dL_law_1722 ?_
  refine ly_iv S1 (r := []) dL_law_1723 (zL_law_C206 sk) rfl (rX_rc hr1) (Nat.zero_le _) (kin_Q hr1 ok fun f2 h2 r2 => ?_)
  obtain ⟨I2, hg2⟩ := ly_I2 hcb hbo g'.1 h1 hg1 h2 r2
  exact ly_t1 S1 (q := 1726) ⟨dL_law_1726, dL_law_1728, dL_law_1729, dL_law_1732, dL_law_1734, dL_law_1739, dL_law_1741, dL_law_1744, dL_law_1745, dL_law_1746, dL_law_1747, dL_law_1749, dL_law_1750, dL_law_1751, dL_law_1756⟩ (by decide) h2 hg2 hv1 fun w5 w6 => hk _ _ f2 _ _ w5 w6 (Nat.le_refl _) (Nat.le_refl _) I2 g'
set_option maxHeartbeats 2000000 in
set_option maxRecDepth 20000 in
theorem lc_meet (C : ly_C p l s m meth c b L zs sk sv G cI cJ cR) (hcb : k0 + 242 ≤ mb) (hbo : mb + 14 ≤ o) (I : ly_I f k0 mb o x t) (g : gX M x) (hM : M + 1900000 ≤ 1000000000) (ha : a + 1 ≤ 601024) (hw : w + 6 ≤ 7293034) (hi : i + 6 ≤ L) (hk : ∀ (a' w' : Nat) (f' : pm_H) (x' : xs) (t' : Int) (w5 w6 : Option pm_V), a' ≤ a + 1 → w' ≤ w + 6 → ly_I f' k0 mb o x' t' → gX (M + 1700000) x' → ly_G p l e s m below meth c b G cI cJ cR a' w' 2266 (ly_V b k0 mb o i w5 w6) [] f') : ly_G p l e s m below meth c b G cI cJ cR a w 1759 (ly_V b k0 mb o i w5 w6) [] f := by
  have S0 : ly_S sk (ly_G p l e s m below meth c b G cI cJ cR a w) := ly_st C (by omega) (by omega)
  have R0 : ly_RD (ly_G p l e s m below meth c b G cI cJ cR a w) b L zs := ly_rd0 C
  have hL : L ≤ 3072 := C.2.2.2.2.2.2
  have ok := g.1
  obtain ⟨h, hr, g0, hg0⟩ := id I
  have S1 : ly_S sk (ly_G p l e s m below meth c b G cI cJ cR (a + 1) (w + 6)) := ly_st C (by omega) (by omega)
  have R1 : ly_RD (ly_G p l e s m below meth c b G cI cJ cR (a + 1) (w + 6)) b L zs := ly_rd0 C
  have bd := gX_bdA g hM
  have bdm := gX_bdM g hM
  have g' : gX (M + 1700000) x := gX_up g (by omega)
  have hex : wT T_X4_meet cvI [("java/lang/IndexOutOfBoundsException", 1)] [.inr (.inl (some k0)), .inl (zs (i + 1)).toInt, .inl (zs (i + 2)).toInt, .inl (zs (i + 3)).toInt] o f (ly_Q k0 mb o x x t ((aMeet (xN x) ((zs (i + 1)).toInt) ((zs (i + 2)).toInt) ((zs (i + 3)).toInt)).1) ((aMeet (xN x) ((zs (i + 1)).toInt) ((zs (i + 2)).toInt) ((zs (i + 3)).toInt)).2) cvI) := by
    unfold wT
    exact meet_x h ok (fun h0 f1 h1 r => ly_rt hcb hbo I g'.1 h0 rfl h1 r) (fun h0 => ly_th hcb hbo I (by rw [h0]; simp) (by rw [h0]; decide) h cff_rf)
  refine ly_al S0 dL_law_1759 rfl ?_
  refine ly_rd S0 R0 hL hi 1 rfl (by omega) dL_law_1760 dL_law_1761 dL_law_1763 dL_law_1764 dL_law_1765 ?_
  refine ly_rd S0 R0 hL hi 2 rfl (by omega) dL_law_1766 dL_law_1767 dL_law_1769 dL_law_1770 dL_law_1771 ?_
  refine ly_rd S0 R0 hL hi 3 rfl (by omega) dL_law_1772 dL_law_1773 dL_law_1775 dL_law_1776 dL_law_1777 ?_
  refine ly_al S0 dL_law_1778 rfl ?_
  refine ly_wr C (as := [.inr (.inl (some k0)), .inl (zs (i + 1)).toInt, .inl (zs (i + 2)).toInt, .inl (zs (i + 3)).toInt, .inr (.inl (some o))]) (k := 5) (fun hok => wc_meet l sk C.2.1 sv G cI cJ cR (cX_ob h) hex hok) (by decide) (by decide) (pm_WS_mem 1115 (by decide +kernel) rfl) (pm_WS_mem 124 (by decide +kernel) rfl) ⟨by decide +kernel, by decide +kernel⟩ (by decide +kernel) rfl (pm_WS_mem 1113 (by decide +kernel) rfl) (pm_WS_mem 1114 (by decide +kernel) rfl) dL_law_1779 ha hw ?_
  rintro v f1 ⟨rfl, h1, hr1, g1, hg1, hv1⟩
  show ly_G p l e s m below meth c b G cI cJ cR (a + 1) (w + 6) 1782 (ly_V b k0 mb o i w5 w6) [.inl ((aMeet (xN x) ((zs (i + 1)).toInt) ((zs (i + 2)).toInt) ((zs (i + 3)).toInt)).1)] f1
  refine ly_i5 S1 dL_law_1782 ?_
  refine ly_al S1 dL_law_1784 rfl ?_
  refine ly_rd S1 R1 hL hi 1 rfl (by omega) dL_law_1785 dL_law_1786 dL_law_1788 dL_law_1789 dL_law_1790 ?_
  refine ly_rd S1 R1 hL hi 2 rfl (by omega) dL_law_1791 dL_law_1792 dL_law_1794 dL_law_1795 dL_law_1796 ?_
  refine ly_rd S1 R1 hL hi 3 rfl (by omega) dL_law_1797 dL_law_1798 dL_law_1800 dL_law_1801 dL_law_1802 ?_
  refine ly_iv S1 (r := []) dL_law_1803 (zL_law_C209 sk) rfl (rX_rc hr1) (Nat.zero_le _) (meet_Q hr1 ok fun f2 h2 r2 => ?_)
  obtain ⟨I2, hg2⟩ := ly_I2 hcb hbo g'.1 h1 hg1 h2 r2
  exact ly_t1 S1 (q := 1806) ⟨dL_law_1806, dL_law_1808, dL_law_1809, dL_law_1812, dL_law_1814, dL_law_1819, dL_law_1821, dL_law_1824, dL_law_1825, dL_law_1826, dL_law_1827, dL_law_1829, dL_law_1830, dL_law_1831, dL_law_1836⟩ (by decide) h2 hg2 hv1 fun w5 w6 => hk _ _ f2 _ _ w5 w6 (Nat.le_refl _) (Nat.le_refl _) I2 g'
set_option maxHeartbeats 2000000 in
set_option maxRecDepth 20000 in
theorem lc_within (C : ly_C p l s m meth c b L zs sk sv G cI cJ cR) (hcb : k0 + 242 ≤ mb) (hbo : mb + 14 ≤ o) (I : ly_I f k0 mb o x t) (g : gX M x) (hM : M + 1900000 ≤ 1000000000) (ha : a + 1 ≤ 601024) (hw : w + 6 ≤ 7293034) (hi : i + 6 ≤ L) (hk : ∀ (a' w' : Nat) (f' : pm_H) (x' : xs) (t' : Int) (w5 w6 : Option pm_V), a' ≤ a + 1 → w' ≤ w + 6 → ly_I f' k0 mb o x' t' → gX (M + 1700000) x' → ly_G p l e s m below meth c b G cI cJ cR a' w' 2266 (ly_V b k0 mb o i w5 w6) [] f') : ly_G p l e s m below meth c b G cI cJ cR a w 1839 (ly_V b k0 mb o i w5 w6) [] f := by
  have S0 : ly_S sk (ly_G p l e s m below meth c b G cI cJ cR a w) := ly_st C (by omega) (by omega)
  have R0 : ly_RD (ly_G p l e s m below meth c b G cI cJ cR a w) b L zs := ly_rd0 C
  have hL : L ≤ 3072 := C.2.2.2.2.2.2
  have ok := g.1
  obtain ⟨h, hr, g0, hg0⟩ := id I
  have S1 : ly_S sk (ly_G p l e s m below meth c b G cI cJ cR (a + 1) (w + 6)) := ly_st C (by omega) (by omega)
  have R1 : ly_RD (ly_G p l e s m below meth c b G cI cJ cR (a + 1) (w + 6)) b L zs := ly_rd0 C
  have bd := gX_bdA g hM
  have bdm := gX_bdM g hM
  have g' : gX (M + 1700000) x := gX_up g (by omega)
  have hex : wT T_X4_within cvI [("java/lang/IndexOutOfBoundsException", 1), ("java/lang/IllegalArgumentException", 2)] [.inr (.inl (some k0)), .inl (zs (i + 1)).toInt, .inl (zs (i + 2)).toInt] o f (ly_Q k0 mb o x x t ((aWith (xN x) ((zs (i + 1)).toInt) ((zs (i + 2)).toInt)).1) ((aWith (xN x) ((zs (i + 1)).toInt) ((zs (i + 2)).toInt)).2) cvI) := by
    unfold wT
    exact within_x h ok (fun h0 f1 h1 r => ly_rt hcb hbo I g'.1 h0 rfl h1 r) (fun h0 => ly_th hcb hbo I (by rw [h0]; simp) (by rw [h0]; decide) h cff_rf) (fun h0 => ly_th hcb hbo I (by rw [h0]; simp) (by rw [h0]; decide) h cff_rf)
  refine ly_al S0 dL_law_1839 rfl ?_
  refine ly_rd S0 R0 hL hi 1 rfl (by omega) dL_law_1840 dL_law_1841 dL_law_1843 dL_law_1844 dL_law_1845 ?_
  refine ly_rd S0 R0 hL hi 2 rfl (by omega) dL_law_1846 dL_law_1847 dL_law_1849 dL_law_1850 dL_law_1851 ?_
  refine ly_al S0 dL_law_1852 rfl ?_
  refine ly_wr C (as := [.inr (.inl (some k0)), .inl (zs (i + 1)).toInt, .inl (zs (i + 2)).toInt, .inr (.inl (some o))]) (k := 4) (fun hok => wc_within l sk C.2.1 sv G cI cJ cR (cX_ob h) hex hok) (by decide) (by decide) (pm_WS_mem 1128 (by decide +kernel) rfl) (pm_WS_mem 124 (by decide +kernel) rfl) ⟨by decide +kernel, by decide +kernel⟩ (by decide +kernel) rfl (pm_WS_mem 1126 (by decide +kernel) rfl) (pm_WS_mem 1127 (by decide +kernel) rfl) dL_law_1853 ha hw ?_
  rintro v f1 ⟨rfl, h1, hr1, g1, hg1, hv1⟩
  show ly_G p l e s m below meth c b G cI cJ cR (a + 1) (w + 6) 1856 (ly_V b k0 mb o i w5 w6) [.inl ((aWith (xN x) ((zs (i + 1)).toInt) ((zs (i + 2)).toInt)).1)] f1
  refine ly_i5 S1 dL_law_1856 ?_
  refine ly_al S1 dL_law_1858 rfl ?_
  refine ly_rd S1 R1 hL hi 1 rfl (by omega) dL_law_1859 dL_law_1860 dL_law_1862 dL_law_1863 dL_law_1864 ?_
  refine ly_rd S1 R1 hL hi 2 rfl (by omega) dL_law_1865 dL_law_1866 dL_law_1868 dL_law_1869 dL_law_1870 ?_
  refine ly_iv S1 (r := []) dL_law_1871 (zL_law_C212 sk) rfl (rX_rc hr1) (Nat.zero_le _) (within_Q hr1 ok fun f2 h2 r2 => ?_)
  obtain ⟨I2, hg2⟩ := ly_I2 hcb hbo g'.1 h1 hg1 h2 r2
  exact ly_t1 S1 (q := 1874) ⟨dL_law_1874, dL_law_1876, dL_law_1877, dL_law_1880, dL_law_1882, dL_law_1887, dL_law_1889, dL_law_1892, dL_law_1893, dL_law_1894, dL_law_1895, dL_law_1897, dL_law_1898, dL_law_1899, dL_law_1904⟩ (by decide) h2 hg2 hv1 fun w5 w6 => hk _ _ f2 _ _ w5 w6 (Nat.le_refl _) (Nat.le_refl _) I2 g'
set_option maxHeartbeats 2000000 in
set_option maxRecDepth 20000 in
theorem lc_odds (C : ly_C p l s m meth c b L zs sk sv G cI cJ cR) (hcb : k0 + 242 ≤ mb) (hbo : mb + 14 ≤ o) (I : ly_I f k0 mb o x t) (g : gX M x) (hM : M + 1900000 ≤ 1000000000) (ha : a + 1 ≤ 601024) (hw : w + 6 ≤ 7293034) (hi : i + 6 ≤ L) (hk : ∀ (a' w' : Nat) (f' : pm_H) (x' : xs) (t' : Int) (w5 w6 : Option pm_V), a' ≤ a + 1 → w' ≤ w + 6 → ly_I f' k0 mb o x' t' → gX (M + 1700000) x' → ly_G p l e s m below meth c b G cI cJ cR a' w' 2266 (ly_V b k0 mb o i w5 w6) [] f') : ly_G p l e s m below meth c b G cI cJ cR a w 1907 (ly_V b k0 mb o i w5 w6) [] f := by
  have S0 : ly_S sk (ly_G p l e s m below meth c b G cI cJ cR a w) := ly_st C (by omega) (by omega)
  have R0 : ly_RD (ly_G p l e s m below meth c b G cI cJ cR a w) b L zs := ly_rd0 C
  have hL : L ≤ 3072 := C.2.2.2.2.2.2
  have ok := g.1
  obtain ⟨h, hr, g0, hg0⟩ := id I
  have S1 : ly_S sk (ly_G p l e s m below meth c b G cI cJ cR (a + 1) (w + 6)) := ly_st C (by omega) (by omega)
  have R1 : ly_RD (ly_G p l e s m below meth c b G cI cJ cR (a + 1) (w + 6)) b L zs := ly_rd0 C
  have bd := gX_bdA g hM
  have bdm := gX_bdM g hM
  have g' : gX (M + 1700000) x := gX_up g (by omega)
  have hex : wT T_X4_odds cvI [("java/lang/IndexOutOfBoundsException", 1)] [.inr (.inl (some k0)), .inl (zs (i + 1)).toInt, .inl (zs (i + 2)).toInt] o f (ly_Q k0 mb o x x t ((aOdds (xN x) ((zs (i + 1)).toInt) ((zs (i + 2)).toInt)).1) ((aOdds (xN x) ((zs (i + 1)).toInt) ((zs (i + 2)).toInt)).2) cvI) := by
    unfold wT
    exact odds_x h ok (fun h0 f1 h1 r => ly_rt hcb hbo I g'.1 h0 rfl h1 r) (fun h0 => ly_th hcb hbo I (by rw [h0]; simp) (by rw [h0]; decide) h cff_rf)
  refine ly_al S0 dL_law_1907 rfl ?_
  refine ly_rd S0 R0 hL hi 1 rfl (by omega) dL_law_1908 dL_law_1909 dL_law_1911 dL_law_1912 dL_law_1913 ?_
  refine ly_rd S0 R0 hL hi 2 rfl (by omega) dL_law_1914 dL_law_1915 dL_law_1917 dL_law_1918 dL_law_1919 ?_
  refine ly_al S0 dL_law_1920 rfl ?_
  refine ly_wr C (as := [.inr (.inl (some k0)), .inl (zs (i + 1)).toInt, .inl (zs (i + 2)).toInt, .inr (.inl (some o))]) (k := 4) (fun hok => wc_odds l sk C.2.1 sv G cI cJ cR (cX_ob h) hex hok) (by decide) (by decide) (pm_WS_mem 1140 (by decide +kernel) rfl) (pm_WS_mem 124 (by decide +kernel) rfl) ⟨by decide +kernel, by decide +kernel⟩ (by decide +kernel) rfl (pm_WS_mem 1138 (by decide +kernel) rfl) (pm_WS_mem 1139 (by decide +kernel) rfl) dL_law_1921 ha hw ?_
  rintro v f1 ⟨rfl, h1, hr1, g1, hg1, hv1⟩
  show ly_G p l e s m below meth c b G cI cJ cR (a + 1) (w + 6) 1924 (ly_V b k0 mb o i w5 w6) [.inl ((aOdds (xN x) ((zs (i + 1)).toInt) ((zs (i + 2)).toInt)).1)] f1
  refine ly_i5 S1 dL_law_1924 ?_
  refine ly_al S1 dL_law_1926 rfl ?_
  refine ly_rd S1 R1 hL hi 1 rfl (by omega) dL_law_1927 dL_law_1928 dL_law_1930 dL_law_1931 dL_law_1932 ?_
  refine ly_rd S1 R1 hL hi 2 rfl (by omega) dL_law_1933 dL_law_1934 dL_law_1936 dL_law_1937 dL_law_1938 ?_
  refine ly_iv S1 (r := []) dL_law_1939 (zL_law_C215 sk) rfl (rX_rc hr1) (Nat.zero_le _) (odds_Q hr1 ok fun f2 h2 r2 => ?_)
  obtain ⟨I2, hg2⟩ := ly_I2 hcb hbo g'.1 h1 hg1 h2 r2
  exact ly_t1 S1 (q := 1942) ⟨dL_law_1942, dL_law_1944, dL_law_1945, dL_law_1948, dL_law_1950, dL_law_1955, dL_law_1957, dL_law_1960, dL_law_1961, dL_law_1962, dL_law_1963, dL_law_1965, dL_law_1966, dL_law_1967, dL_law_1972⟩ (by decide) h2 hg2 hv1 fun w5 w6 => hk _ _ f2 _ _ w5 w6 (Nat.le_refl _) (Nat.le_refl _) I2 g'
set_option maxHeartbeats 2000000 in
set_option maxRecDepth 20000 in
theorem lc_fare (C : ly_C p l s m meth c b L zs sk sv G cI cJ cR) (hcb : k0 + 242 ≤ mb) (hbo : mb + 14 ≤ o) (I : ly_I f k0 mb o x t) (g : gX M x) (hM : M + 1900000 ≤ 1000000000) (ha : a + 1 ≤ 601024) (hw : w + 6 ≤ 7293034) (hi : i + 6 ≤ L) (hk : ∀ (a' w' : Nat) (f' : pm_H) (x' : xs) (t' : Int) (w5 w6 : Option pm_V), a' ≤ a + 1 → w' ≤ w + 6 → ly_I f' k0 mb o x' t' → gX (M + 1700000) x' → ly_G p l e s m below meth c b G cI cJ cR a' w' 2266 (ly_V b k0 mb o i w5 w6) [] f') : ly_G p l e s m below meth c b G cI cJ cR a w 1975 (ly_V b k0 mb o i w5 w6) [] f := by
  have S0 : ly_S sk (ly_G p l e s m below meth c b G cI cJ cR a w) := ly_st C (by omega) (by omega)
  have R0 : ly_RD (ly_G p l e s m below meth c b G cI cJ cR a w) b L zs := ly_rd0 C
  have hL : L ≤ 3072 := C.2.2.2.2.2.2
  have ok := g.1
  obtain ⟨h, hr, g0, hg0⟩ := id I
  have S1 : ly_S sk (ly_G p l e s m below meth c b G cI cJ cR (a + 1) (w + 6)) := ly_st C (by omega) (by omega)
  have R1 : ly_RD (ly_G p l e s m below meth c b G cI cJ cR (a + 1) (w + 6)) b L zs := ly_rd0 C
  have bd := gX_bdA g hM
  have bdm := gX_bdM g hM
  have g' : gX (M + 1700000) x := gX_up g (by omega)
  have hex : wT T_X4_fare cvI [("java/lang/IndexOutOfBoundsException", 1)] [.inr (.inl (some k0)), .inl (zs (i + 1)).toInt, .inl (zs (i + 2)).toInt] o f (ly_Q k0 mb o x x t ((aFare (xN x) ((zs (i + 1)).toInt) ((zs (i + 2)).toInt)).1) ((aFare (xN x) ((zs (i + 1)).toInt) ((zs (i + 2)).toInt)).2) cvI) := by
    unfold wT
    exact fare_x h ok (fun h0 f1 h1 r => ly_rt hcb hbo I g'.1 h0 rfl h1 r) (fun h0 => ly_th hcb hbo I (by rw [h0]; simp) (by rw [h0]; decide) h cff_rf)
  refine ly_al S0 dL_law_1975 rfl ?_
  refine ly_rd S0 R0 hL hi 1 rfl (by omega) dL_law_1976 dL_law_1977 dL_law_1979 dL_law_1980 dL_law_1981 ?_
  refine ly_rd S0 R0 hL hi 2 rfl (by omega) dL_law_1982 dL_law_1983 dL_law_1985 dL_law_1986 dL_law_1987 ?_
  refine ly_al S0 dL_law_1988 rfl ?_
  refine ly_wr C (as := [.inr (.inl (some k0)), .inl (zs (i + 1)).toInt, .inl (zs (i + 2)).toInt, .inr (.inl (some o))]) (k := 4) (fun hok => wc_fare l sk C.2.1 sv G cI cJ cR (cX_ob h) hex hok) (by decide) (by decide) (pm_WS_mem 1154 (by decide +kernel) rfl) (pm_WS_mem 124 (by decide +kernel) rfl) ⟨by decide +kernel, by decide +kernel⟩ (by decide +kernel) rfl (pm_WS_mem 1152 (by decide +kernel) rfl) (pm_WS_mem 1153 (by decide +kernel) rfl) dL_law_1989 ha hw ?_
  rintro v f1 ⟨rfl, h1, hr1, g1, hg1, hv1⟩
  show ly_G p l e s m below meth c b G cI cJ cR (a + 1) (w + 6) 1992 (ly_V b k0 mb o i w5 w6) [.inl ((aFare (xN x) ((zs (i + 1)).toInt) ((zs (i + 2)).toInt)).1)] f1
  refine ly_i5 S1 dL_law_1992 ?_
  refine ly_al S1 dL_law_1994 rfl ?_
  refine ly_rd S1 R1 hL hi 1 rfl (by omega) dL_law_1995 dL_law_1996 dL_law_1998 dL_law_1999 dL_law_2000 ?_
  refine ly_rd S1 R1 hL hi 2 rfl (by omega) dL_law_2001 dL_law_2002 dL_law_2004 dL_law_2005 dL_law_2006 ?_
  refine ly_iv S1 (r := []) dL_law_2007 (zL_law_C218 sk) rfl (rX_rc hr1) (Nat.zero_le _) (fare_Q hr1 ok fun f2 h2 r2 => ?_)
  obtain ⟨I2, hg2⟩ := ly_I2 hcb hbo g'.1 h1 hg1 h2 r2
  exact ly_t1 S1 (q := 2010) ⟨dL_law_2010, dL_law_2012, dL_law_2013, dL_law_2016, dL_law_2018, dL_law_2023, dL_law_2025, dL_law_2028, dL_law_2029, dL_law_2030, dL_law_2031, dL_law_2033, dL_law_2034, dL_law_2035, dL_law_2040⟩ (by decide) h2 hg2 hv1 fun w5 w6 => hk _ _ f2 _ _ w5 w6 (Nat.le_refl _) (Nat.le_refl _) I2 g'
set_option maxHeartbeats 2000000 in
set_option maxRecDepth 20000 in
theorem lc_named (C : ly_C p l s m meth c b L zs sk sv G cI cJ cR) (hcb : k0 + 242 ≤ mb) (hbo : mb + 14 ≤ o) (I : ly_I f k0 mb o x t) (g : gX M x) (hM : M + 1900000 ≤ 1000000000) (ha : a + 1 ≤ 601024) (hw : w + 6 ≤ 7293034) (hi : i + 6 ≤ L) (hk : ∀ (a' w' : Nat) (f' : pm_H) (x' : xs) (t' : Int) (w5 w6 : Option pm_V), a' ≤ a + 1 → w' ≤ w + 6 → ly_I f' k0 mb o x' t' → gX (M + 1700000) x' → ly_G p l e s m below meth c b G cI cJ cR a' w' 2266 (ly_V b k0 mb o i w5 w6) [] f') : ly_G p l e s m below meth c b G cI cJ cR a w 2043 (ly_V b k0 mb o i w5 w6) [] f := by
  have S0 : ly_S sk (ly_G p l e s m below meth c b G cI cJ cR a w) := ly_st C (by omega) (by omega)
  have R0 : ly_RD (ly_G p l e s m below meth c b G cI cJ cR a w) b L zs := ly_rd0 C
  have hL : L ≤ 3072 := C.2.2.2.2.2.2
  have ok := g.1
  obtain ⟨h, hr, g0, hg0⟩ := id I
  have g' : gX (M + 1700000) x := gX_up g (by omega)
  refine ly_al S0 dL_law_2043 rfl ?_
  refine ly_rd S0 R0 hL hi 1 rfl (by omega) dL_law_2044 dL_law_2045 dL_law_2047 dL_law_2048 dL_law_2049 ?_
  refine ly_iv S0 (r := []) dL_law_2050 (zL_law_C219 sk) rfl (cX_rc h) (Nat.zero_le _) (named_c h ok ?_)
  show ly_G p l e s m below meth c b G cI cJ cR a w 2053 (ly_V b k0 mb o i w5 w6) [.inl (aNamed (xN x) ((zs (i + 1)).toInt)).2] f
  have h1 := h
  have hr1 := hr
  have hg1 := hg0
  refine ly_al S0 dL_law_2053 rfl ?_
  refine ly_rd S0 R0 hL hi 1 rfl (by omega) dL_law_2054 dL_law_2055 dL_law_2057 dL_law_2058 dL_law_2059 ?_
  refine ly_iv S0 (r := [.inl (aNamed (xN x) ((zs (i + 1)).toInt)).2]) dL_law_2060 (zL_law_C222 sk) rfl (rX_rc hr1) (Nat.le_of_ble_eq_true rfl) (named_Q hr1 ok fun f2 h2 r2 => ?_)
  obtain ⟨I2, hg2⟩ := ly_I2 hcb hbo g'.1 h1 hg1 h2 r2
  show ly_G p l e s m below meth c b G cI cJ cR a w 2063 (ly_V b k0 mb o i w5 w6) [.inl (aNamed (xN x) ((zs (i + 1)).toInt)).2, .inl (aNamed (xN x) ((zs (i + 1)).toInt)).2] f2
  exact ly_eqT S0 dL_law_2063 (by decide) rfl (hk _ _ f2 _ _ w5 w6 (by omega) (by omega) I2 g')
set_option maxHeartbeats 2000000 in
set_option maxRecDepth 20000 in
theorem lc_log (C : ly_C p l s m meth c b L zs sk sv G cI cJ cR) (hcb : k0 + 242 ≤ mb) (hbo : mb + 14 ≤ o) (I : ly_I f k0 mb o x t) (g : gX M x) (hM : M + 1900000 ≤ 1000000000) (ha : a + 1 ≤ 601024) (hw : w + 6 ≤ 7293034) (hi : i + 6 ≤ L) (hk : ∀ (a' w' : Nat) (f' : pm_H) (x' : xs) (t' : Int) (w5 w6 : Option pm_V), a' ≤ a + 1 → w' ≤ w + 6 → ly_I f' k0 mb o x' t' → gX (M + 1700000) x' → ly_G p l e s m below meth c b G cI cJ cR a' w' 2266 (ly_V b k0 mb o i w5 w6) [] f') : ly_G p l e s m below meth c b G cI cJ cR a w 2068 (ly_V b k0 mb o i w5 w6) [] f := by
  have S0 : ly_S sk (ly_G p l e s m below meth c b G cI cJ cR a w) := ly_st C (by omega) (by omega)
  have R0 : ly_RD (ly_G p l e s m below meth c b G cI cJ cR a w) b L zs := ly_rd0 C
  have hL : L ≤ 3072 := C.2.2.2.2.2.2
  have ok := g.1
  obtain ⟨h, hr, g0, hg0⟩ := id I
  have S1 : ly_S sk (ly_G p l e s m below meth c b G cI cJ cR (a + 1) (w + 6)) := ly_st C (by omega) (by omega)
  have R1 : ly_RD (ly_G p l e s m below meth c b G cI cJ cR (a + 1) (w + 6)) b L zs := ly_rd0 C
  have bd := gX_bdA g hM
  have bdm := gX_bdM g hM
  have g' : gX (M + 1700000) x := gX_up g (by omega)
  have hex : wT T_X4_log cvI [("java/util/NoSuchElementException", 1)] [.inr (.inl (some k0)), .inl (zs (i + 1)).toInt, .inl (zs (i + 2)).toInt] o f (ly_Q k0 mb o x x t ((aLog (xN x) ((zs (i + 1)).toInt) ((zs (i + 2)).toInt)).1) ((aLog (xN x) ((zs (i + 1)).toInt) ((zs (i + 2)).toInt)).2) cvI) := by
    unfold wT
    exact log_x h ok (fun h0 f1 h1 r => ly_rt hcb hbo I g'.1 h0 rfl h1 r) (fun h0 => ly_th hcb hbo I (by rw [h0]; simp) (by rw [h0]; decide) h cff_rf)
  refine ly_al S0 dL_law_2068 rfl ?_
  refine ly_rd S0 R0 hL hi 1 rfl (by omega) dL_law_2069 dL_law_2070 dL_law_2072 dL_law_2073 dL_law_2074 ?_
  refine ly_rd S0 R0 hL hi 2 rfl (by omega) dL_law_2075 dL_law_2076 dL_law_2078 dL_law_2079 dL_law_2080 ?_
  refine ly_al S0 dL_law_2081 rfl ?_
  refine ly_wr C (as := [.inr (.inl (some k0)), .inl (zs (i + 1)).toInt, .inl (zs (i + 2)).toInt, .inr (.inl (some o))]) (k := 4) (fun hok => wc_log l sk C.2.1 sv G cI cJ cR (cX_ob h) hex hok) (by decide) (by decide) (pm_WS_mem 1169 (by decide +kernel) rfl) (pm_WS_mem 124 (by decide +kernel) rfl) ⟨by decide +kernel, by decide +kernel⟩ (by decide +kernel) rfl (pm_WS_mem 1167 (by decide +kernel) rfl) (pm_WS_mem 1168 (by decide +kernel) rfl) dL_law_2082 ha hw ?_
  rintro v f1 ⟨rfl, h1, hr1, g1, hg1, hv1⟩
  show ly_G p l e s m below meth c b G cI cJ cR (a + 1) (w + 6) 2085 (ly_V b k0 mb o i w5 w6) [.inl ((aLog (xN x) ((zs (i + 1)).toInt) ((zs (i + 2)).toInt)).1)] f1
  refine ly_i5 S1 dL_law_2085 ?_
  refine ly_al S1 dL_law_2087 rfl ?_
  refine ly_rd S1 R1 hL hi 1 rfl (by omega) dL_law_2088 dL_law_2089 dL_law_2091 dL_law_2092 dL_law_2093 ?_
  refine ly_rd S1 R1 hL hi 2 rfl (by omega) dL_law_2094 dL_law_2095 dL_law_2097 dL_law_2098 dL_law_2099 ?_
  refine ly_iv S1 (r := []) dL_law_2100 (zL_law_C225 sk) rfl (rX_rc hr1) (Nat.zero_le _) (log_Q hr1 ok fun f2 h2 r2 => ?_)
  obtain ⟨I2, hg2⟩ := ly_I2 hcb hbo g'.1 h1 hg1 h2 r2
  exact ly_t1 S1 (q := 2103) ⟨dL_law_2103, dL_law_2105, dL_law_2106, dL_law_2109, dL_law_2111, dL_law_2116, dL_law_2118, dL_law_2121, dL_law_2122, dL_law_2123, dL_law_2124, dL_law_2126, dL_law_2127, dL_law_2128, dL_law_2133⟩ (by decide) h2 hg2 hv1 fun w5 w6 => hk _ _ f2 _ _ w5 w6 (Nat.le_refl _) (Nat.le_refl _) I2 g'
set_option maxHeartbeats 2000000 in
set_option maxRecDepth 20000 in
theorem lc_hinges (C : ly_C p l s m meth c b L zs sk sv G cI cJ cR) (hcb : k0 + 242 ≤ mb) (hbo : mb + 14 ≤ o) (I : ly_I f k0 mb o x t) (g : gX M x) (hM : M + 1900000 ≤ 1000000000) (ha : a + 1 ≤ 601024) (hw : w + 6 ≤ 7293034) (hi : i + 6 ≤ L) (hk : ∀ (a' w' : Nat) (f' : pm_H) (x' : xs) (t' : Int) (w5 w6 : Option pm_V), a' ≤ a + 1 → w' ≤ w + 6 → ly_I f' k0 mb o x' t' → gX (M + 1700000) x' → ly_G p l e s m below meth c b G cI cJ cR a' w' 2266 (ly_V b k0 mb o i w5 w6) [] f') : ly_G p l e s m below meth c b G cI cJ cR a w 2136 (ly_V b k0 mb o i w5 w6) [] f := by
  have S0 : ly_S sk (ly_G p l e s m below meth c b G cI cJ cR a w) := ly_st C (by omega) (by omega)
  have R0 : ly_RD (ly_G p l e s m below meth c b G cI cJ cR a w) b L zs := ly_rd0 C
  have hL : L ≤ 3072 := C.2.2.2.2.2.2
  have ok := g.1
  obtain ⟨h, hr, g0, hg0⟩ := id I
  have g' : gX (M + 1700000) x := gX_up g (by omega)
  refine ly_al S0 dL_law_2136 rfl ?_
  refine ly_iv S0 (r := []) dL_law_2137 (zL_law_C226 sk) rfl (cX_rc h) (Nat.zero_le _) (hinges_c h ok fun f1 h1 r1 => ?_)
  show ly_G p l e s m below meth c b G cI cJ cR a w 2140 (ly_V b k0 mb o i w5 w6) [.inl ((bs (hgN (xN x)) (nN (xN x)) : Nat) : Int)] f1
  obtain ⟨hr1, g1, hg1⟩ := ly_I1 hcb hbo I r1
  refine ly_al S0 dL_law_2140 rfl ?_
  refine ly_iv S0 (r := [.inl ((bs (hgN (xN x)) (nN (xN x)) : Nat) : Int)]) dL_law_2141 (zL_law_C229 sk) rfl (rX_rc hr1) (Nat.le_of_ble_eq_true rfl) (hinges_Q hr1 ok fun f2 h2 r2 => ?_)
  obtain ⟨I2, hg2⟩ := ly_I2 hcb hbo g'.1 h1 hg1 h2 r2
  show ly_G p l e s m below meth c b G cI cJ cR a w 2144 (ly_V b k0 mb o i w5 w6) [.inl ((bs (hgN (xN x)) (nN (xN x)) : Nat) : Int), .inl ((bs (hgN (xN x)) (nN (xN x)) : Nat) : Int)] f2
  exact ly_eqT S0 dL_law_2144 (by decide) rfl (hk _ _ f2 _ _ w5 w6 (by omega) (by omega) I2 g')
set_option maxHeartbeats 2000000 in
set_option maxRecDepth 20000 in
theorem lc_cut (C : ly_C p l s m meth c b L zs sk sv G cI cJ cR) (hcb : k0 + 242 ≤ mb) (hbo : mb + 14 ≤ o) (I : ly_I f k0 mb o x t) (g : gX M x) (hM : M + 1900000 ≤ 1000000000) (ha : a + 1 ≤ 601024) (hw : w + 6 ≤ 7293034) (hi : i + 6 ≤ L) (hk : ∀ (a' w' : Nat) (f' : pm_H) (x' : xs) (t' : Int) (w5 w6 : Option pm_V), a' ≤ a + 1 → w' ≤ w + 6 → ly_I f' k0 mb o x' t' → gX (M + 1700000) x' → ly_G p l e s m below meth c b G cI cJ cR a' w' 2266 (ly_V b k0 mb o i w5 w6) [] f') : ly_G p l e s m below meth c b G cI cJ cR a w 2149 (ly_V b k0 mb o i w5 w6) [] f := by
  have S0 : ly_S sk (ly_G p l e s m below meth c b G cI cJ cR a w) := ly_st C (by omega) (by omega)
  have R0 : ly_RD (ly_G p l e s m below meth c b G cI cJ cR a w) b L zs := ly_rd0 C
  have hL : L ≤ 3072 := C.2.2.2.2.2.2
  have ok := g.1
  obtain ⟨h, hr, g0, hg0⟩ := id I
  have S1 : ly_S sk (ly_G p l e s m below meth c b G cI cJ cR (a + 1) (w + 6)) := ly_st C (by omega) (by omega)
  have R1 : ly_RD (ly_G p l e s m below meth c b G cI cJ cR (a + 1) (w + 6)) b L zs := ly_rd0 C
  have bd := gX_bdA g hM
  have bdm := gX_bdM g hM
  have g' : gX (M + 1700000) x := gX_up g (by omega)
  have hex : wT T_X4_cut cvI [("java/lang/IndexOutOfBoundsException", 1)] [.inr (.inl (some k0)), .inl (zs (i + 1)).toInt, .inl (zs (i + 2)).toInt] o f (ly_Q k0 mb o x x t ((aCut (xN x) ((zs (i + 1)).toInt) ((zs (i + 2)).toInt)).1) ((aCut (xN x) ((zs (i + 1)).toInt) ((zs (i + 2)).toInt)).2) cvI) := by
    unfold wT
    exact cut_x h ok (fun h0 f1 h1 r => ly_rt hcb hbo I g'.1 h0 rfl h1 r) (fun h0 => ly_th hcb hbo I (by rw [h0]; simp) (by rw [h0]; decide) h cff_rf)
  refine ly_al S0 dL_law_2149 rfl ?_
  refine ly_rd S0 R0 hL hi 1 rfl (by omega) dL_law_2150 dL_law_2151 dL_law_2153 dL_law_2154 dL_law_2155 ?_
  refine ly_rd S0 R0 hL hi 2 rfl (by omega) dL_law_2156 dL_law_2157 dL_law_2159 dL_law_2160 dL_law_2161 ?_
  refine ly_al S0 dL_law_2162 rfl ?_
  refine ly_wr C (as := [.inr (.inl (some k0)), .inl (zs (i + 1)).toInt, .inl (zs (i + 2)).toInt, .inr (.inl (some o))]) (k := 4) (fun hok => wc_cut l sk C.2.1 sv G cI cJ cR (cX_ob h) hex hok) (by decide) (by decide) (pm_WS_mem 1177 (by decide +kernel) rfl) (pm_WS_mem 124 (by decide +kernel) rfl) ⟨by decide +kernel, by decide +kernel⟩ (by decide +kernel) rfl (pm_WS_mem 1175 (by decide +kernel) rfl) (pm_WS_mem 1176 (by decide +kernel) rfl) dL_law_2163 ha hw ?_
  rintro v f1 ⟨rfl, h1, hr1, g1, hg1, hv1⟩
  show ly_G p l e s m below meth c b G cI cJ cR (a + 1) (w + 6) 2166 (ly_V b k0 mb o i w5 w6) [.inl ((aCut (xN x) ((zs (i + 1)).toInt) ((zs (i + 2)).toInt)).1)] f1
  refine ly_i5 S1 dL_law_2166 ?_
  refine ly_al S1 dL_law_2168 rfl ?_
  refine ly_rd S1 R1 hL hi 1 rfl (by omega) dL_law_2169 dL_law_2170 dL_law_2172 dL_law_2173 dL_law_2174 ?_
  refine ly_rd S1 R1 hL hi 2 rfl (by omega) dL_law_2175 dL_law_2176 dL_law_2178 dL_law_2179 dL_law_2180 ?_
  refine ly_iv S1 (r := []) dL_law_2181 (zL_law_C232 sk) rfl (rX_rc hr1) (Nat.zero_le _) (cut_Q hr1 ok fun f2 h2 r2 => ?_)
  obtain ⟨I2, hg2⟩ := ly_I2 hcb hbo g'.1 h1 hg1 h2 r2
  exact ly_t1 S1 (q := 2184) ⟨dL_law_2184, dL_law_2186, dL_law_2187, dL_law_2190, dL_law_2192, dL_law_2197, dL_law_2199, dL_law_2202, dL_law_2203, dL_law_2204, dL_law_2205, dL_law_2207, dL_law_2208, dL_law_2209, dL_law_2214⟩ (by decide) h2 hg2 hv1 fun w5 w6 => hk _ _ f2 _ _ w5 w6 (Nat.le_refl _) (Nat.le_refl _) I2 g'
set_option maxHeartbeats 2000000 in
set_option maxRecDepth 20000 in
theorem lc_image (C : ly_C p l s m meth c b L zs sk sv G cI cJ cR) (hcb : k0 + 242 ≤ mb) (hbo : mb + 14 ≤ o) (I : ly_I f k0 mb o x t) (g : gX M x) (hM : M + 1900000 ≤ 1000000000) (ha : a + 1 ≤ 601024) (hw : w + 6 ≤ 7293034) (hi : i + 6 ≤ L) (hk : ∀ (a' w' : Nat) (f' : pm_H) (x' : xs) (t' : Int) (w5 w6 : Option pm_V), a' ≤ a + 1 → w' ≤ w + 6 → ly_I f' k0 mb o x' t' → gX (M + 1700000) x' → ly_G p l e s m below meth c b G cI cJ cR a' w' 2266 (ly_V b k0 mb o i w5 w6) [] f') : ly_G p l e s m below meth c b G cI cJ cR a w 2217 (ly_V b k0 mb o i w5 w6) [] f := by
  have S0 : ly_S sk (ly_G p l e s m below meth c b G cI cJ cR a w) := ly_st C (by omega) (by omega)
  have R0 : ly_RD (ly_G p l e s m below meth c b G cI cJ cR a w) b L zs := ly_rd0 C
  have hL : L ≤ 3072 := C.2.2.2.2.2.2
  have ok := g.1
  obtain ⟨h, hr, g0, hg0⟩ := id I
  have g' : gX (M + 1700000) (imageX x) := gX_image g
  refine ly_al S0 dL_law_2217 rfl ?_
  refine ly_iv S0 (r := []) dL_law_2218 (zL_law_C233 sk) rfl (cX_rc h) (Nat.zero_le _) (image_c h ok fun f1 h1 r1 => ?_)
  show ly_G p l e s m below meth c b G cI cJ cR a w 2221 (ly_V b k0 mb o i w5 w6) [] f1
  obtain ⟨hr1, g1, hg1⟩ := ly_I1 hcb hbo I r1
  refine ly_al S0 dL_law_2221 rfl ?_
  refine ly_iv S0 (r := []) dL_law_2222 (zL_law_C236 sk) rfl (rX_rc hr1) (Nat.le_of_ble_eq_true rfl) (image_q hr1 ok fun f2 h2 r2 => ?_)
  obtain ⟨I2, hg2⟩ := ly_I2 hcb hbo g'.1 h1 hg1 h2 r2
  show ly_G p l e s m below meth c b G cI cJ cR a w 2225 (ly_V b k0 mb o i w5 w6) [] f2
  exact ly_gt S0 dL_law_2225 (by decide) (hk _ _ f2 _ _ w5 w6 (by omega) (by omega) I2 g')
set_option maxHeartbeats 2000000 in
set_option maxRecDepth 20000 in
theorem lc_back (C : ly_C p l s m meth c b L zs sk sv G cI cJ cR) (hcb : k0 + 242 ≤ mb) (hbo : mb + 14 ≤ o) (I : ly_I f k0 mb o x t) (g : gX M x) (hM : M + 1900000 ≤ 1000000000) (ha : a + 1 ≤ 601024) (hw : w + 6 ≤ 7293034) (hi : i + 6 ≤ L) (hk : ∀ (a' w' : Nat) (f' : pm_H) (x' : xs) (t' : Int) (w5 w6 : Option pm_V), a' ≤ a + 1 → w' ≤ w + 6 → ly_I f' k0 mb o x' t' → gX (M + 1700000) x' → ly_G p l e s m below meth c b G cI cJ cR a' w' 2266 (ly_V b k0 mb o i w5 w6) [] f') : ly_G p l e s m below meth c b G cI cJ cR a w 2228 (ly_V b k0 mb o i w5 w6) [] f := by
  have S0 : ly_S sk (ly_G p l e s m below meth c b G cI cJ cR a w) := ly_st C (by omega) (by omega)
  have R0 : ly_RD (ly_G p l e s m below meth c b G cI cJ cR a w) b L zs := ly_rd0 C
  have hL : L ≤ 3072 := C.2.2.2.2.2.2
  have ok := g.1
  obtain ⟨h, hr, g0, hg0⟩ := id I
  have g' : gX (M + 1700000) (backX x) := gX_back g
  refine ly_al S0 dL_law_2228 rfl ?_
  refine ly_iv S0 (r := []) dL_law_2229 (zL_law_C237 sk) rfl (cX_rc h) (Nat.zero_le _) (back_c h ok fun f1 h1 r1 => ?_)
  show ly_G p l e s m below meth c b G cI cJ cR a w 2232 (ly_V b k0 mb o i w5 w6) [.inl (b2 (xI x).isSome)] f1
  obtain ⟨hr1, g1, hg1⟩ := ly_I1 hcb hbo I r1
  refine ly_al S0 dL_law_2232 rfl ?_
  refine ly_iv S0 (r := [.inl (b2 (xI x).isSome)]) dL_law_2233 (zL_law_C241 sk) rfl (rX_rc hr1) (Nat.le_of_ble_eq_true rfl) (back_q hr1 ok fun f2 h2 r2 => ?_)
  obtain ⟨I2, hg2⟩ := ly_I2 hcb hbo g'.1 h1 hg1 h2 r2
  show ly_G p l e s m below meth c b G cI cJ cR a w 2236 (ly_V b k0 mb o i w5 w6) [.inl (b2 (xI x).isSome), .inl (b2 (xI x).isSome)] f2
  exact ly_eqT S0 dL_law_2236 (by decide) rfl (hk _ _ f2 _ _ w5 w6 (by omega) (by omega) I2 g')
set_option maxHeartbeats 2000000 in
set_option maxRecDepth 20000 in
theorem lc_count (C : ly_C p l s m meth c b L zs sk sv G cI cJ cR) (hcb : k0 + 242 ≤ mb) (hbo : mb + 14 ≤ o) (I : ly_I f k0 mb o x t) (g : gX M x) (hM : M + 1900000 ≤ 1000000000) (ha : a + 1 ≤ 601024) (hw : w + 6 ≤ 7293034) (hi : i + 6 ≤ L) (hk : ∀ (a' w' : Nat) (f' : pm_H) (x' : xs) (t' : Int) (w5 w6 : Option pm_V), a' ≤ a + 1 → w' ≤ w + 6 → ly_I f' k0 mb o x' t' → gX (M + 1700000) x' → ly_G p l e s m below meth c b G cI cJ cR a' w' 2266 (ly_V b k0 mb o i w5 w6) [] f') : ly_G p l e s m below meth c b G cI cJ cR a w 2241 (ly_V b k0 mb o i w5 w6) [] f := by
  have S0 : ly_S sk (ly_G p l e s m below meth c b G cI cJ cR a w) := ly_st C (by omega) (by omega)
  have R0 : ly_RD (ly_G p l e s m below meth c b G cI cJ cR a w) b L zs := ly_rd0 C
  have hL : L ≤ 3072 := C.2.2.2.2.2.2
  have ok := g.1
  obtain ⟨h, hr, g0, hg0⟩ := id I
  have g' : gX (M + 1700000) x := gX_up g (by omega)
  refine ly_al S0 dL_law_2241 rfl ?_
  refine ly_rd S0 R0 hL hi 1 rfl (by omega) dL_law_2242 dL_law_2243 dL_law_2245 dL_law_2246 dL_law_2247 ?_
  refine ly_iv S0 (r := []) dL_law_2248 (zL_law_C242 sk) rfl (cX_rc h) (Nat.zero_le _) (count_c h ok fun f1 h1 r1 => ?_)
  show ly_G p l e s m below meth c b G cI cJ cR a w 2251 (ly_V b k0 mb o i w5 w6) [.inl (cuV (xN x) ((xP x).length : Int) ((zs (i + 1)).toInt))] f1
  obtain ⟨hr1, g1, hg1⟩ := ly_I1 hcb hbo I r1
  refine ly_al S0 dL_law_2251 rfl ?_
  refine ly_rd S0 R0 hL hi 1 rfl (by omega) dL_law_2252 dL_law_2253 dL_law_2255 dL_law_2256 dL_law_2257 ?_
  refine ly_iv S0 (r := [.inl (cuV (xN x) ((xP x).length : Int) ((zs (i + 1)).toInt))]) dL_law_2258 (zL_law_C245 sk) rfl (rX_rc hr1) (Nat.le_of_ble_eq_true rfl) (count_Q hr1 ok fun f2 h2 r2 => ?_)
  obtain ⟨I2, hg2⟩ := ly_I2 hcb hbo g'.1 h1 hg1 h2 r2
  show ly_G p l e s m below meth c b G cI cJ cR a w 2261 (ly_V b k0 mb o i w5 w6) [.inl (cuV (xN x) ((xP x).length : Int) ((zs (i + 1)).toInt)), .inl (cuV (xN x) ((xP x).length : Int) ((zs (i + 1)).toInt))] f2
  exact ly_eqT S0 dL_law_2261 (by decide) rfl (hk _ _ f2 _ _ w5 w6 (by omega) (by omega) I2 g')
set_option maxHeartbeats 2000000 in
set_option maxRecDepth 20000 in
/-- one turn: the call that the script spells -/
theorem lc_turn (C : ly_C p l s m meth c b L zs sk sv G cI cJ cR) (hcb : k0 + 242 ≤ mb) (hbo : mb + 14 ≤ o) (I : ly_I f k0 mb o x t) (g : gX M x) (hM : M + 1900000 ≤ 1000000000) (ha : a + 1 ≤ 601024) (hw : w + 6 ≤ 7293034) (hi : i + 6 ≤ L) (hk : ∀ (a' w' : Nat) (f' : pm_H) (x' : xs) (t' : Int) (w5 w6 : Option pm_V), a' ≤ a + 1 → w' ≤ w + 6 → ly_I f' k0 mb o x' t' → gX (M + 1700000) x' → ly_G p l e s m below meth c b G cI cJ cR a' w' 2266 (ly_V b k0 mb o i w5 w6) [] f') {z : Int} : ly_G p l e s m below meth c b G cI cJ cR a w 40 (ly_V b k0 mb o i w5 w6) [.inl z] f := by
  have S0 : ly_S sk (ly_G p l e s m below meth c b G cI cJ cR a w) := ly_st C (by omega) (by omega)
  refine ly_sw S0 dL_law_40 (by decide) ?_ ⟨2266, by decide, hk a w f x t w5 w6 (by omega) (by omega) I (gX_up g (by omega))⟩
  exact List.forall_mem_cons.mpr ⟨⟨208, by decide, lc_feed C hcb hbo I g hM ha hw hi hk⟩, List.forall_mem_cons.mpr ⟨⟨281, by decide, lc_end C hcb hbo I g hM ha hw hi hk⟩, List.forall_mem_cons.mpr ⟨⟨306, by decide, lc_acts C hcb hbo I g hM ha hw hi hk⟩, List.forall_mem_cons.mpr ⟨⟨350, by decide, lc_fault C hcb hbo I g hM ha hw hi hk⟩, List.forall_mem_cons.mpr ⟨⟨363, by decide, lc_why C hcb hbo I g hM ha hw hi hk⟩, List.forall_mem_cons.mpr ⟨⟨376, by decide, lc_net C hcb hbo I g hM ha hw hi hk⟩, List.forall_mem_cons.mpr ⟨⟨432, by decide, lc_lay C hcb hbo I g hM ha hw hi hk⟩, List.forall_mem_cons.mpr ⟨⟨500, by decide, lc_lift C hcb hbo I g hM ha hw hi hk⟩, List.forall_mem_cons.mpr ⟨⟨556, by decide, lc_cost C hcb hbo I g hM ha hw hi hk⟩, List.forall_mem_cons.mpr ⟨⟨624, by decide, lc_tries C hcb hbo I g hM ha hw hi hk⟩, List.forall_mem_cons.mpr ⟨⟨668, by decide, lc_swap C hcb hbo I g hM ha hw hi hk⟩, List.forall_mem_cons.mpr ⟨⟨736, by decide, lc_fail C hcb hbo I g hM ha hw hi hk⟩, List.forall_mem_cons.mpr ⟨⟨792, by decide, lc_tidy C hcb hbo I g hM ha hw hi hk⟩, List.forall_mem_cons.mpr ⟨⟨805, by decide, lc_undo C hcb hbo I g hM ha hw hi hk⟩, List.forall_mem_cons.mpr ⟨⟨849, by decide, lc_connected C hcb hbo I g hM ha hw hi hk⟩, List.forall_mem_cons.mpr ⟨⟨924, by decide, lc_node C hcb hbo I g hM ha hw hi hk⟩, List.forall_mem_cons.mpr ⟨⟨992, by decide, lc_cable C hcb hbo I g hM ha hw hi hk⟩, List.forall_mem_cons.mpr ⟨⟨1060, by decide, lc_part C hcb hbo I g hM ha hw hi hk⟩, List.forall_mem_cons.mpr ⟨⟨1128, by decide, lc_level C hcb hbo I g hM ha hw hi hk⟩, List.forall_mem_cons.mpr ⟨⟨1196, by decide, lc_tour C hcb hbo I g hM ha hw hi hk⟩, List.forall_mem_cons.mpr ⟨⟨1276, by decide, lc_deep C hcb hbo I g hM ha hw hi hk⟩, List.forall_mem_cons.mpr ⟨⟨1344, by decide, lc_way C hcb hbo I g hM ha hw hi hk⟩, List.forall_mem_cons.mpr ⟨⟨1424, by decide, lc_near C hcb hbo I g hM ha hw hi hk⟩, List.forall_mem_cons.mpr ⟨⟨1492, by decide, lc_heir C hcb hbo I g hM ha hw hi hk⟩, List.forall_mem_cons.mpr ⟨⟨1548, by decide, lc_would C hcb hbo I g hM ha hw hi hk⟩, List.forall_mem_cons.mpr ⟨⟨1616, by decide, lc_bridge C hcb hbo I g hM ha hw hi hk⟩, List.forall_mem_cons.mpr ⟨⟨1679, by decide, lc_kin C hcb hbo I g hM ha hw hi hk⟩, List.forall_mem_cons.mpr ⟨⟨1759, by decide, lc_meet C hcb hbo I g hM ha hw hi hk⟩, List.forall_mem_cons.mpr ⟨⟨1839, by decide, lc_within C hcb hbo I g hM ha hw hi hk⟩, List.forall_mem_cons.mpr ⟨⟨1907, by decide, lc_odds C hcb hbo I g hM ha hw hi hk⟩, List.forall_mem_cons.mpr ⟨⟨1975, by decide, lc_fare C hcb hbo I g hM ha hw hi hk⟩, List.forall_mem_cons.mpr ⟨⟨2043, by decide, lc_named C hcb hbo I g hM ha hw hi hk⟩, List.forall_mem_cons.mpr ⟨⟨2068, by decide, lc_log C hcb hbo I g hM ha hw hi hk⟩, List.forall_mem_cons.mpr ⟨⟨2136, by decide, lc_hinges C hcb hbo I g hM ha hw hi hk⟩, List.forall_mem_cons.mpr ⟨⟨2149, by decide, lc_cut C hcb hbo I g hM ha hw hi hk⟩, List.forall_mem_cons.mpr ⟨⟨2217, by decide, lc_image C hcb hbo I g hM ha hw hi hk⟩, List.forall_mem_cons.mpr ⟨⟨2228, by decide, lc_back C hcb hbo I g hM ha hw hi hk⟩, List.forall_mem_cons.mpr ⟨⟨2241, by decide, lc_count C hcb hbo I g hM ha hw hi hk⟩, fun _ h => absurd h List.not_mem_nil⟩⟩⟩⟩⟩⟩⟩⟩⟩⟩⟩⟩⟩⟩⟩⟩⟩⟩⟩⟩⟩⟩⟩⟩⟩⟩⟩⟩⟩⟩⟩⟩⟩⟩⟩⟩⟩⟩
end LYC
