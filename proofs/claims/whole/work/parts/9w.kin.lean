/-! KIN in a tour: the brackets round a node, the innermost one, the node above, those below -/
def inB (t : List Int) (x c : Nat) : Bool := decide ((100 + (c : Int)) ∈ t ∧ (x : Int) ∈ inL t (100 + (c : Int)))
theorem inB_iff {t : List Int} {x c : Nat} : inB t x c = true ↔ (100 + (c : Int)) ∈ t ∧ (x : Int) ∈ inL t (100 + (c : Int)) := by unfold inB; exact decide_eq_true_iff
def mnC (t : List Int) (x c : Nat) : Prop := inB t x c = true ∧ ∀ d, inB t x d = true → d ≠ c → (100 + (c : Int)) ∈ inL t (100 + (d : Int))
/-- the cable of the innermost brackets -/
def inC (t : List Int) (x : Nat) : Int := lstC (opn (t.takeWhile (fun y => decide (y ≠ (x : Int)))))
section KIN
variable {e0 e1 : Nat → Nat} {t : List Int}
theorem gT_spl (g : gT e0 e1 t) {x : Nat} (hx : x < 16) (hm : (x : Int) ∈ t) : ∃ t1 t2, t = t1 ++ (x : Int) :: t2 ∧ (x : Int) ∉ t1 ∧ (x : Int) ∉ t2 ∧ t.takeWhile (fun y => decide (y ≠ (x : Int))) = t1 := by
  obtain ⟨p, q, e, hp⟩ := spl1 hm
  refine ⟨p, q, e, hp, fun z => ?_, ?_⟩
  · have := g.1 x hx
    rw [e, List.count_append, List.count_cons_self] at this
    have := List.count_pos_iff.mpr z
    omega
  · rw [e]; exact (tw_eq hp).1
theorem inC_sp (g : gT e0 e1 t) (ok : okT t) {x : Nat} (hx : x < 16) (hm : (x : Int) ∈ t) : (inC t x = -1 ∧ ∀ c, inB t x c = false) ∨ ∃ c : Nat, c < 60 ∧ inC t x = (c : Int) ∧ mnC t x c := by
  obtain ⟨t1, t2, e, n1, n2, tw⟩ := gT_spl g hx hm
  have c2 : ∀ v, 100 ≤ v → v ∈ t1 ++ (x : Int) :: t2 → (t1 ++ (x : Int) :: t2).count v = 2 := fun v hv hm => by
    obtain ⟨c, rfl⟩ : ∃ c : Nat, v = 100 + (c : Int) := ⟨(v - 100).toNat, by omega⟩
    rw [← e] at hm ⊢
    exact (g.2.1 c hm).1
  have key : ∀ c : Nat, inB t x c = true ↔ (100 + (c : Int)) ∈ opn t1 := fun c => by
    rw [inB_iff, e]
    constructor
    · rintro ⟨z1, z2⟩
      exact (in_opn (c2 _ (by omega) z1) (by omega) (by omega) n1 n2).mp z2
    · intro z
      have m1 := opn_mem.mp z
      have mt : (100 + (c : Int)) ∈ t1 ++ (x : Int) :: t2 := by
        have : (100 + (c : Int)) ∈ t1 := List.count_pos_iff.mp (by omega)
        simp [this]
      exact ⟨mt, (in_opn (c2 _ (by omega) mt) (by omega) (by omega) n1 n2).mpr z⟩
  unfold inC
  rw [tw]
  rcases List.eq_nil_or_concat (opn t1) with z | ⟨O, v, z⟩
  · left
    rw [z]
    refine ⟨rfl, fun c => ?_⟩
    cases q : inB t x c
    · rfl
    · have := (key c).mp q
      rw [z] at this
      cases this
  · right
    rw [List.concat_eq_append] at z
    have mv := opn_mem.mp (show v ∈ opn t1 by rw [z]; simp)
    obtain ⟨c, rfl⟩ : ∃ c : Nat, v = 100 + (c : Int) := ⟨(v - 100).toNat, by omega⟩
    have vt : (100 + (c : Int)) ∈ t := by
      have : (100 + (c : Int)) ∈ t1 := List.count_pos_iff.mp (by omega)
      rw [e]; simp [this]
    refine ⟨c, by have := ok _ vt; omega, by rw [z, lst_snoc]; omega, (key c).mpr (by rw [z]; simp), fun d hd ne => ?_⟩
    have md := (key d).mp hd
    rw [z] at md
    have mO : (100 + (d : Int)) ∈ O := by
      rcases List.mem_append.mp md with y | y
      · exact y
      · have : (100 + (d : Int)) = 100 + (c : Int) := by simpa using y
        omega
    rw [e]
    exact lst_in c2 (by omega) z mO (by omega)
/-- what lies in a bracket that lies in another, lies in that one -/
theorem nest_in {C D v : Int} (h2C : t.count C = 2) (h2D : t.count D = 2) (hCD : C ≠ D) (hi : C ∈ inL t D) (ho : C ∉ outL t D) (hv : v ∈ inL t C) : v ∈ inL t D := by
  obtain ⟨p, m, q, rfl, hp, hm, hq⟩ := spl2 h2D
  rw [inL_eq hp hm] at hi ⊢
  rw [outL_eq hp hm] at ho
  have c1 : C ∉ p := fun z => ho (by simp [z])
  have c3 : C ∉ q := fun z => ho (by simp [z])
  have c2 : m.count C = 2 := by
    rw [List.count_append, cnt0 c1, List.count_cons_of_ne (Ne.symm hCD), List.count_append, List.count_cons_of_ne (Ne.symm hCD), cnt0 c3] at h2C
    omega
  have e : p ++ D :: (m ++ D :: q) = (p ++ [D]) ++ m ++ (D :: q) := by simp
  have := (io_mid (z := p ++ [D]) (a := m) (w := D :: q) (D := C) c2 (by simp [c1, hCD])).1
  rw [e, this] at hv
  exact (io_sub c2).1 hv
/-- its inside end is the node -/
theorem mn_end (g : gT e0 e1 t) {x c : Nat} (hx : x < 16) (h : mnC t x c) : (e0 c = x ∧ (e1 c : Int) ∈ outL t (100 + (c : Int))) ∨ (e1 c = x ∧ (e0 c : Int) ∈ outL t (100 + (c : Int))) := by
  obtain ⟨h1, h2⟩ := h
  obtain ⟨Ct, xC⟩ := inB_iff.mp h1
  have gc := g.2.1 c Ct
  have sub := fun v => io_sub (v := v) gc.1
  have key : ∀ e : Nat, e < 16 → (e = e0 c ∨ e = e1 c) → (e : Int) ∈ inL t (100 + (c : Int)) → e = x := fun e e16 he eC => Classical.byContradiction fun ne => by
    obtain ⟨d, Dt, hd⟩ := g.2.2.2 e x e16 hx ne ((sub _).1 eC) ((sub _).1 xC)
    have exx := gT_ex (n := x) g Ct hx
    have exe := gT_ex (n := e) g Ct e16
    have dc : d ≠ c := fun z => by
      subst z
      rcases hd with y | y
      · exact exx ⟨xC, y.2⟩
      · exact exe ⟨eC, y.1⟩
    have gd := g.2.1 d Dt
    have exxd := gT_ex (n := x) g Dt hx
    have exed := gT_ex (n := e) g Dt e16
    have h3 := g.2.2.1 c d (Ne.symm dc) Ct Dt
    rcases hd with y | y
    · rcases (io_mem gd.1 (show (100 + (c : Int)) ≠ 100 + (d : Int) by omega)).mp Ct with w | w
      · exact exxd ⟨nest_in gc.1 gd.1 (by omega) w (fun o => h3.1 ⟨w, o⟩) xC, y.2⟩
      · have := h3.2.2 w
        rcases he with q | q
        · rw [q] at y exed; exact exed ⟨y.1, this.1⟩
        · rw [q] at y exed; exact exed ⟨y.1, this.2⟩
    · have w := h2 d (inB_iff.mpr ⟨Dt, y.2⟩) dc
      have := h3.2.1 w
      rcases he with q | q
      · rw [q] at y exed; exact exed ⟨this.1, y.1⟩
      · rw [q] at y exed; exact exed ⟨this.2, y.1⟩
  rcases gc.2.2 with y | y
  · exact Or.inl ⟨key _ gc.2.1.1 (Or.inl rfl) y.1, y.2⟩
  · exact Or.inr ⟨key _ gc.2.1.2 (Or.inr rfl) y.2, y.1⟩
def paC (e0 e1 : Nat → Nat) (c x : Nat) : Nat := if e0 c = x then e1 c else e0 c
theorem pa_sp (g : gT e0 e1 t) {x c : Nat} (hx : x < 16) (h : mnC t x c) : paC e0 e1 c x < 16 ∧ (paC e0 e1 c x : Int) ∈ t ∧ ∀ d, inB t (paC e0 e1 c x) d = (inB t x d && !decide (d = c)) := by
  have en := mn_end g hx h
  obtain ⟨h1, h2⟩ := h
  obtain ⟨Ct, xC⟩ := inB_iff.mp h1
  have gc := g.2.1 c Ct
  have sub := fun v => io_sub (v := v) gc.1
  have exx := gT_ex (n := x) g Ct hx
  obtain ⟨p, hp, pe, po, p16, xe⟩ : ∃ p, paC e0 e1 c x = p ∧ (p = e0 c ∨ p = e1 c) ∧ (p : Int) ∈ outL t (100 + (c : Int)) ∧ p < 16 ∧ (x = e0 c ∨ x = e1 c) := by
    unfold paC
    rcases en with y | y
    · exact ⟨e1 c, if_pos y.1, Or.inr rfl, y.2, gc.2.1.2, Or.inl y.1.symm⟩
    · by_cases q : e0 c = x
      · exfalso
        rw [q] at y
        exact exx ⟨xC, y.2⟩
      · exact ⟨e0 c, if_neg q, Or.inl rfl, y.2, gc.2.1.1, Or.inr y.1.symm⟩
  rw [hp]
  refine ⟨p16, (sub _).2 po, fun d => ?_⟩
  have exp := gT_ex (n := p) g Ct p16
  have e : inB t p d = true ↔ (inB t x d && !decide (d = c)) = true := by
    rw [Bool.and_eq_true, inB_iff]
    constructor
    · rintro ⟨Dt, pD⟩
      have dc : d ≠ c := fun z => by
        subst z
        exact exp ⟨pD, po⟩
      refine ⟨?_, by simp [dc]⟩
      have gd := g.2.1 d Dt
      have h3 := g.2.2.1 c d (Ne.symm dc) Ct Dt
      have exd := gT_ex (n := p) g Dt p16
      rcases (io_mem gd.1 (show (100 + (c : Int)) ≠ 100 + (d : Int) by omega)).mp Ct with w | w
      · have := h3.2.1 w
        refine inB_iff.mpr ⟨Dt, ?_⟩
        rcases xe with q | q
        · rw [q]; exact this.1
        · rw [q]; exact this.2
      · exfalso
        have := h3.2.2 w
        rcases pe with q | q
        · rw [q] at pD exd; exact exd ⟨pD, this.1⟩
        · rw [q] at pD exd; exact exd ⟨pD, this.2⟩
    · rintro ⟨z1, z2⟩
      have dc : d ≠ c := by simpa using z2
      obtain ⟨Dt, xD⟩ := inB_iff.mp z1
      refine ⟨Dt, ?_⟩
      have := (g.2.2.1 c d (Ne.symm dc) Ct Dt).2.1 (h2 d z1 dc)
      rcases pe with q | q
      · rw [q]; exact this.1
      · rw [q]; exact this.2
  cases q : inB t p d
  · cases w : (inB t x d && !decide (d = c))
    · rfl
    · rw [e.mpr w] at q; cases q
  · exact (e.mp q).symm
def isz (t : List Int) (x : Nat) : Nat := cnt (inB t x) 60
theorem isz_pa (g : gT e0 e1 t) (ok : okT t) {x c : Nat} (hx : x < 16) (h : mnC t x c) : isz t x = isz t (paC e0 e1 c x) + 1 := by
  have c60 : c < 60 := by
    have := ok _ (inB_iff.mp h.1).1
    omega
  have sp := (pa_sp g hx h).2.2
  refine cnt_us c60 (by rw [sp c]; simp) fun d => ?_
  rw [sp d]
  by_cases e : d = c
  · rw [e, h.1]; simp
  · simp [e]
/-- all brackets round x lie round n too -/
def suB (t : List Int) (x n : Nat) : Bool := (List.range 60).all (fun d => !inB t x d || inB t n d)
theorem suB_iff (ok : okT t) {x n : Nat} : suB t x n = true ↔ ∀ d, inB t x d = true → inB t n d = true := by
  unfold suB
  rw [List.all_eq_true]
  constructor
  · intro h d hd
    have d60 : d < 60 := by
      have := ok _ (inB_iff.mp hd).1
      omega
    have := h d (List.mem_range.mpr d60)
    rw [hd] at this
    simpa using this
  · intro h d _
    cases q : inB t x d
    · rfl
    · rw [h d q]; rfl
theorem in_un (g : gT e0 e1 t) {x n : Nat} (hx : x < 16) (hn : n < 16) (mx : (x : Int) ∈ t) (mn : (n : Int) ∈ t) (h : ∀ d, inB t x d = inB t n d) : x = n := Classical.byContradiction fun ne => by
  obtain ⟨d, Dt, y⟩ := g.2.2.2 x n hx hn ne mx mn
  have ex := gT_ex (n := x) g Dt hx
  have en := gT_ex (n := n) g Dt hn
  rcases y with y | y
  · have := (h d).symm.trans (inB_iff.mpr ⟨Dt, y.1⟩)
    exact en ⟨(inB_iff.mp this).2, y.2⟩
  · have := (h d).trans (inB_iff.mpr ⟨Dt, y.2⟩)
    exact ex ⟨(inB_iff.mp this).2, y.1⟩
theorem mn_nest (g : gT e0 e1 t) {a c : Nat} (h : mnC t a c) {v : Int} (hv : v ∈ inL t (100 + (c : Int))) {d : Nat} (hd : inB t a d = true) : v ∈ inL t (100 + (d : Int)) := by
  by_cases dc : d = c
  · rw [dc]; exact hv
  · obtain ⟨Ct, _⟩ := inB_iff.mp h.1
    obtain ⟨Dt, _⟩ := inB_iff.mp hd
    have w := h.2 d hd dc
    exact nest_in (g.2.1 c Ct).1 (g.2.1 d Dt).1 (by omega) w (fun o => (g.2.2.1 c d (Ne.symm dc) Ct Dt).1 ⟨w, o⟩) hv
/-- a step up: what it has round it -/
theorem su_pa (g : gT e0 e1 t) (ok : okT t) {a c x : Nat} (ha : a < 16) (hx : x < 16) (ma : (a : Int) ∈ t) (mx : (x : Int) ∈ t) (h : mnC t a c) (ne : a ≠ x) : suB t x a = suB t x (paC e0 e1 c a) := by
  have sp := (pa_sp g ha h).2.2
  have e : suB t x a = true ↔ suB t x (paC e0 e1 c a) = true := by
    rw [suB_iff ok, suB_iff ok]
    constructor
    · intro z d hd
      rw [sp d, z d hd]
      by_cases dc : d = c
      · exfalso
        subst dc
        refine ne (in_un g ha hx ma mx fun d' => ?_)
        cases q : inB t a d'
        · cases w : inB t x d'
          · rfl
          · rw [z d' w] at q; cases q
        · exact (inB_iff.mpr ⟨(inB_iff.mp q).1, mn_nest g h (inB_iff.mp hd).2 q⟩).symm
      · simp [dc]
    · intro z d hd
      have := z d hd
      rw [sp d, Bool.and_eq_true] at this
      exact this.1
  cases q : suB t x a
  · cases w : suB t x (paC e0 e1 c a)
    · rfl
    · rw [e.mpr w] at q; cases q
  · exact (e.mp q).symm
theorem su_no (g : gT e0 e1 t) (ok : okT t) {a x : Nat} (ha : a < 16) (hx : x < 16) (ma : (a : Int) ∈ t) (mx : (x : Int) ∈ t) (h : ∀ c, inB t a c = false) (ne : a ≠ x) : suB t x a = false := by
  cases q : suB t x a
  · rfl
  · exfalso
    refine ne (in_un g ha hx ma mx fun d => ?_)
    rw [h d]
    cases w : inB t x d
    · rfl
    · have := (suB_iff ok).mp q d w
      rw [h d] at this
      cases this
theorem su_rf (ok : okT t) (x : Nat) : suB t x x = true := (suB_iff ok).mpr fun _ h => h
/-- below x: all in its innermost brackets -/
theorem su_in (g : gT e0 e1 t) (ok : okT t) {x n c : Nat} (hx : x < 16) (h : mnC t x c) : suB t x n = true ↔ (n : Int) ∈ inL t (100 + (c : Int)) := by
  rw [suB_iff ok]
  constructor
  · intro z
    exact (inB_iff.mp (z c h.1)).2
  · intro z d hd
    exact inB_iff.mpr ⟨(inB_iff.mp hd).1, mn_nest g h z hd⟩
theorem su_all (ok : okT t) {x n : Nat} (h : ∀ c, inB t x c = false) : suB t x n = true := (suB_iff ok).mpr fun d hd => by
  rw [h d] at hd
  cases hd
theorem isz_15 (g : gT e0 e1 t) (ok : okT t) : ∀ (k x : Nat), isz t x = k → x < 16 → (x : Int) ∈ t → k + 1 ≤ cnt (fun m => decide ((m : Int) ∈ t) && suB t m x) 16
  | 0, x, hk, hx, mx => by
    have := cnt_lt (p := fun _ => false) (q := fun m => decide ((m : Int) ∈ t) && suB t m x) (n := 16) (fun _ _ z => by cases z) hx rfl (by simp [mx, su_rf ok x])
    omega
  | k + 1, x, hk, hx, mx => by
    rcases inC_sp g ok hx mx with z | ⟨c, c60, _, h⟩
    · have : isz t x = 0 := cnt_none fun c _ => z.2 c
      omega
    · have sp := pa_sp g hx h
      have i := isz_15 g ok k (paC e0 e1 c x) (by have := isz_pa g ok hx h; omega) sp.1 sp.2.1
      have lt := cnt_lt (p := fun m => decide ((m : Int) ∈ t) && suB t m (paC e0 e1 c x)) (q := fun m => decide ((m : Int) ∈ t) && suB t m x) (n := 16) (fun m _ z => by
        rw [Bool.and_eq_true] at z ⊢
        refine ⟨z.1, (suB_iff ok).mpr fun d hd => ?_⟩
        have := (suB_iff ok).mp z.2 d hd
        rw [sp.2.2 d, Bool.and_eq_true] at this
        exact this.1) hx (by
        have : suB t x (paC e0 e1 c x) = false := by
          cases q : suB t x (paC e0 e1 c x)
          · rfl
          · have := (suB_iff ok).mp q c h.1
            rw [sp.2.2 c] at this
            simp at this
        rw [this, Bool.and_false]) (by simp [mx, su_rf ok x])
      omega
theorem isz_le (g : gT e0 e1 t) (ok : okT t) {x : Nat} (hx : x < 16) (mx : (x : Int) ∈ t) : isz t x ≤ 15 := by
  have := isz_15 g ok _ x rfl hx mx
  have := cnt_le (fun m => decide ((m : Int) ∈ t) && suB t m x) 16
  omega
end KIN
