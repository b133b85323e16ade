/-! THE PURE MACHINE: values are Int, references and longs; a step is a predicate transformer; the method's meaning is the least fixpoint. -/
abbrev pm_V : Type := Int ⊕ (Option Nat ⊕ Int64)
abbrev pm_C : Type := (Nat × (Nat → Int)) ⊕ ((Nat × Nat × (Nat → Option Nat)) ⊕ ((Nat × (Nat → Int64)) ⊕ (Nat × List pm_V)))
abbrev pm_H : Type := Nat → Option pm_C
abbrev pm_L : Type := List (Option pm_V)
abbrev pm_P : Type := Option pm_V → pm_H → Prop
abbrev pm_PX : Type := String → pm_H → Prop
abbrev pm_T : Type := List pm_V → pm_H → pm_P → Prop
abbrev pm_TX : Type := List pm_V → pm_H → pm_P → pm_PX → Prop
abbrev pm_K : Type := Nat → pm_L → List pm_V → pm_H → Prop
/-- a method's surroundings: its bytes, fields, callees, constants, throws, callees that throw, what it returns -/
abbrev pm_E : Type := ByteArray × (Nat → Option (Nat × Nat × Nat)) × (Nat → Option (Nat × Option Nat × pm_T)) × (Nat → Option pm_V) × (Nat → Option String) × (Nat → Option (Nat × Option Nat × pm_TX)) × Option FieldType
def pm_eB (E : pm_E) : ByteArray := E.1
def pm_eF (E : pm_E) : Nat → Option (Nat × Nat × Nat) := E.2.1
def pm_eC (E : pm_E) : Nat → Option (Nat × Option Nat × pm_T) := E.2.2.1
def pm_eK (E : pm_E) : Nat → Option pm_V := E.2.2.2.1
def pm_eT (E : pm_E) : Nat → Option String := E.2.2.2.2.1
def pm_eX (E : pm_E) : Nat → Option (Nat × Option Nat × pm_TX) := E.2.2.2.2.2.1
def pm_eR (E : pm_E) : Option FieldType := E.2.2.2.2.2.2
def pm_in (z : Int) : Prop := -2147483648 ≤ z ∧ z ≤ 2147483647
def pm_cv : pm_V → Value
  | .inl z => .int (Int32.ofInt z)
  | .inr (.inl r) => va_rf r
  | .inr (.inr x) => .long x
def pm_ok : pm_V → Prop
  | .inl z => pm_in z
  | _ => True
def pm_okc : pm_C → Prop
  | .inl (_, g) => ∀ j, pm_in (g j)
  | .inr (.inl (k, _, _)) => k < 2
  | .inr (.inr (.inr (_, fs))) => ∀ v ∈ fs, pm_ok v
  | _ => True
def pm_up (f : pm_H) (a : Nat) (c : pm_C) : pm_H := fun q => if q = a then some c else f q
def pm_us (g : Nat → Int) (k : Nat) (x : Int) : Nat → Int := fun j => if j = k then x else g j
def pm_lg : pm_L → Nat → Option pm_V
  | [], _ => none
  | w :: _, 0 => w
  | _ :: l, n + 1 => pm_lg l n
def pm_cl : Option pm_V → Option pm_V
  | some (.inr (.inr _)) => none
  | w => w
def pm_ls : pm_L → Nat → pm_V → pm_L
  | [], _, _ => []
  | _ :: l, 0, v => some v :: l
  | w :: l, 1, v => pm_cl w :: pm_ls l 0 v
  | w :: l, n + 2, v => w :: pm_ls l (n + 1) v
def pm_l0 : pm_L → Nat → pm_L
  | [], _ => []
  | _ :: l, 0 => none :: l
  | w :: l, n + 1 => w :: pm_l0 l n
/-- a long takes two places -/
def pm_ll (lv : pm_L) (i : Nat) (v : pm_V) : pm_L := pm_l0 (pm_ls lv i v) (i + 1)
def pm_kI (o : Option pm_V) (k : Int → Prop) : Prop := match o with
  | some (.inl z) => k z
  | _ => False
def pm_kR (o : Option pm_V) (k : Nat → Prop) : Prop := match o with
  | some (.inr (.inl (some a))) => k a
  | _ => False
def pm_kL (o : Option pm_V) (k : Int64 → Prop) : Prop := match o with
  | some (.inr (.inr a)) => k a
  | _ => False
def pm_1i (st : List pm_V) (k : Int → List pm_V → Prop) : Prop := match st with
  | .inl x :: r => k x r
  | _ => False
def pm_2i (st : List pm_V) (k : Int → Int → List pm_V → Prop) : Prop := match st with
  | .inl y :: .inl x :: r => k x y r
  | _ => False
def pm_1l (st : List pm_V) (k : Int64 → List pm_V → Prop) : Prop := match st with
  | .inr (.inr x) :: r => k x r
  | _ => False
def pm_2l (st : List pm_V) (k : Int64 → Int64 → List pm_V → Prop) : Prop := match st with
  | .inr (.inr y) :: .inr (.inr x) :: r => k x y r
  | _ => False
def pm_li (st : List pm_V) (k : Int64 → Int → List pm_V → Prop) : Prop := match st with
  | .inl y :: .inr (.inr x) :: r => k x y r
  | _ => False
def pm_1r (st : List pm_V) (k : Nat → List pm_V → Prop) : Prop := match st with
  | .inr (.inl (some a)) :: r => k a r
  | _ => False
def pm_ir (st : List pm_V) (k : Nat → Int → List pm_V → Prop) : Prop := match st with
  | .inl i :: .inr (.inl (some a)) :: r => k a i r
  | _ => False
def pm_ai (o : Option pm_C) (k : Nat → (Nat → Int) → Prop) : Prop := match o with
  | some (.inl (n, g)) => k n g
  | _ => False
def pm_ar (o : Option pm_C) (k : Nat → Nat → (Nat → Option Nat) → Prop) : Prop := match o with
  | some (.inr (.inl (q, n, g))) => k q n g
  | _ => False
def pm_al (o : Option pm_C) (k : Nat → (Nat → Int64) → Prop) : Prop := match o with
  | some (.inr (.inr (.inl (n, g)))) => k n g
  | _ => False
def pm_ob (o : Option pm_C) (k : Nat → List pm_V → Prop) : Prop := match o with
  | some (.inr (.inr (.inr (ci, fs)))) => k ci fs
  | _ => False
def pm_fe (o : Option (Nat × Nat × Nat)) (k : Nat → Nat → Nat → Prop) : Prop := match o with
  | some (ci, n, b) => k ci n b
  | _ => False
def pm_vv (o : Option pm_V) (k : pm_V → Prop) : Prop := match o with
  | some v => k v
  | _ => False
def pm_kt (o : Option Nat) (k : Nat → Prop) : Prop := match o with
  | some t => k t
  | _ => False
def pm_tg (pc : Nat) (off : Int) : Option Nat := if 0 ≤ (pc : Int) + off then some ((pc : Int) + off).toNat else none
def pm_pop : Nat → List pm_V → List pm_V → Option (List pm_V × List pm_V)
  | 0, acc, st => some (acc, st)
  | _ + 1, _, [] => none
  | n + 1, acc, v :: st => pm_pop n (v :: acc) st
def pm_isl : pm_V → Bool
  | .inr (.inr _) => true
  | _ => false
def pm_isi : pm_V → Bool
  | .inl _ => true
  | _ => false
def pm_cat (st : List pm_V) : Nat := (st.map fun v => (pm_cv v).category).sum
def pm_rcv (ci : Option Nat) (f : pm_H) (as : List pm_V) : Prop := match ci with
  | none => True
  | some n => n = 9 ∨ ∃ (b : Nat) (fs : List pm_V) (as' : List pm_V), as = .inr (.inl (some b)) :: as' ∧ f b = some (.inr (.inr (.inr (n, fs))))
/-- a call whose end may be used -/
def pm_ex (T : pm_T) (as : List pm_V) (f : pm_H) (k : Option pm_V → pm_H → Prop) : Prop := ∃ P' : pm_P, T as f P' ∧ ∀ v f', P' v f' → k v f'
def pm_exX (T : pm_TX) (as : List pm_V) (f : pm_H) (k : Option pm_V → pm_H → Prop) (PX : pm_PX) : Prop := ∃ (P' : pm_P) (PX' : pm_PX), T as f P' PX' ∧ (∀ v f', P' v f' → k v f') ∧ ∀ e f', PX' e f' → PX e f'
def pm_call (b : Bool) (o : Option (Nat × Option Nat × pm_T)) (st : List pm_V) (f : pm_H) (k : Option pm_V → List pm_V → pm_H → Prop) : Prop := match o with
  | some (n, ci, T) => match pm_pop n [] st with
    | some (as, r) => ci.isSome = b ∧ pm_rcv ci f as ∧ pm_cat r ≤ 8 ∧ pm_ex T as f (fun v f' => k v r f')
    | none => False
  | none => False
def pm_callX (b : Bool) (o : Option (Nat × Option Nat × pm_TX)) (st : List pm_V) (f : pm_H) (k : Option pm_V → List pm_V → pm_H → Prop) (PX : pm_PX) : Prop := match o with
  | some (n, ci, T) => match pm_pop n [] st with
    | some (as, r) => ci.isSome = b ∧ pm_rcv ci f as ∧ pm_cat r ≤ 8 ∧ pm_exX T as f (fun v f' => k v r f') PX
    | none => False
  | none => False
def pm_iv (x : Option (Nat × Option Nat × pm_TX)) (o : Option (Nat × Option Nat × pm_T)) (st : List pm_V) (f : pm_H) (k : Option pm_V → List pm_V → pm_H → Prop) (PX : pm_PX) : Prop := match x with
  | some q => pm_callX true (some q) st f k PX
  | none => pm_call true o st f k
def pm_cl2 (b : Bool) (ci : Option Nat) (T : pm_T) (o : Option (List pm_V × List pm_V)) (f : pm_H) (k : Option pm_V → List pm_V → pm_H → Prop) : Prop := match o with
  | some (as, r) => ci.isSome = b ∧ pm_rcv ci f as ∧ pm_cat r ≤ 8 ∧ pm_ex T as f (fun v f' => k v r f')
  | none => False
def pm_cx2 (b : Bool) (ci : Option Nat) (T : pm_TX) (o : Option (List pm_V × List pm_V)) (f : pm_H) (k : Option pm_V → List pm_V → pm_H → Prop) (PX : pm_PX) : Prop := match o with
  | some (as, r) => ci.isSome = b ∧ pm_rcv ci f as ∧ pm_cat r ≤ 8 ∧ pm_exX T as f (fun v f' => k v r f') PX
  | none => False
def pm_sw (x : Int) (k : Int → Prop) (d : Int) : Int → List Int → Prop
  | _, [] => k d
  | lo, o :: os => if x = lo then k o else pm_sw x k d (lo + 1) os
def pm_lw (x : Int) (k : Int → Prop) (d : Int) : List (Int × Int) → Prop
  | [] => k d
  | q :: qs => if x = q.1 then k q.2 else pm_lw x k d qs
def pm_re (P : pm_P) (rt : Option FieldType) (st : List pm_V) (f : pm_H) : Prop := match rt, st with
  | some .int, [.inl z] => P (some (.inl z)) f
  | some .boolean, [.inl z] => (z = 0 ∨ z = 1) ∧ P (some (.inl z)) f
  | _, _ => False
def pm_isR (rt : Option FieldType) : Prop := match rt with
  | some (.object _) => True
  | some (.array _) => True
  | _ => False
def pm_ra (P : pm_P) (rt : Option FieldType) (st : List pm_V) (f : pm_H) : Prop := match st with
  | [.inr (.inl (some a))] => pm_isR rt ∧ P (some (.inr (.inl (some a)))) f
  | _ => False
def pm_rl (P : pm_P) (rt : Option FieldType) (st : List pm_V) (f : pm_H) : Prop := match st with
  | [.inr (.inr a)] => rt = some .long ∧ P (some (.inr (.inr a))) f
  | _ => False
def pm_rv (P : pm_P) (rt : Option FieldType) (st : List pm_V) (f : pm_H) : Prop := match st with
  | [] => rt = none ∧ P none f
  | _ => False
def pm_d1 (st : List pm_V) (k : pm_V → List pm_V → Prop) : Prop := match st with
  | .inl a :: r => k (.inl a) r
  | .inr (.inl a) :: r => k (.inr (.inl a)) r
  | _ => False
def pm_d2 (st : List pm_V) (k : pm_V → pm_V → List pm_V → Prop) : Prop := match st with
  | .inl a :: .inl b :: r => k (.inl a) (.inl b) r
  | .inl a :: .inr (.inl b) :: r => k (.inl a) (.inr (.inl b)) r
  | _ => False
/-- what may be put into a field of kind b: 1 an int, 2 a boolean (0 and 1 alone); nothing into others -/
def pm_fit (b : Nat) (x : Int) : Prop := (b = 1 ∨ b = 2) ∧ (b = 2 → x = 0 ∨ x = 1)
def pm_and (x y : Int) : Int := (Int32.ofInt x &&& Int32.ofInt y).toInt
def pm_or (x y : Int) : Int := (Int32.ofInt x ||| Int32.ofInt y).toInt
def pm_xor (x y : Int) : Int := (Int32.ofInt x ^^^ Int32.ofInt y).toInt
def pm_shl (x y : Int) : Int := (Int32.ofInt x <<< (Int32.ofInt y &&& 31)).toInt
def pm_shr (x y : Int) : Int := (Int32.ofInt x >>> (Int32.ofInt y &&& 31)).toInt
def pm_ush (x y : Int) : Int := ((Int32.ofInt x).toUInt32 >>> ((Int32.ofInt y).toUInt32 &&& Int32.toUInt32 31)).toInt32.toInt
def pm_i2c (x : Int) : Int := ((Int32.ofInt x).toUInt32 % 65536).toInt32.toInt
def pm_i2l (x : Int) : Int64 := (Int32.ofInt x).toInt64
def pm_l2i (x : Int64) : Int := x.toInt32.toInt
def pm_lush (x : Int64) (y : Int) : Int64 := (x.toUInt64 >>> ((Int32.ofInt y).toInt64.toUInt64 &&& Int64.toUInt64 63)).toInt64
def pm_lshl (x : Int64) (y : Int) : Int64 := x <<< ((Int32.ofInt y).toInt64 &&& 63)
def pm_lcmp (x y : Int64) : Int := (lg_cmp x y).toInt
/-- one instruction -/
def pm_go (E : pm_E) (P : pm_P) (PX : pm_PX) (X : pm_K) (i : Instr) (len : Nat) (pc : Nat) (lv : pm_L) (st : List pm_V) (f : pm_H) : Prop :=
  match i, len with
  | .iconst n, 1 => (-1 ≤ n ∧ n ≤ 5) ∧ X (pc + 1) lv (.inl n :: st) f
  | .bipush n, 2 => (-128 ≤ n ∧ n ≤ 127) ∧ X (pc + 2) lv (.inl n :: st) f
  | .sipush n, 3 => (-32768 ≤ n ∧ n ≤ 32767) ∧ X (pc + 3) lv (.inl n :: st) f
  | .lconst n, 1 => X (pc + 1) lv (.inr (.inr (Int64.ofNat n.val)) :: st) f
  | .ldc n, 2 => pm_vv (pm_eK E n) fun v => pm_isl v = false ∧ X (pc + 2) lv (v :: st) f
  | .ldc_w n, 3 => pm_vv (pm_eK E n) fun v => pm_isi v = true ∧ X (pc + 3) lv (v :: st) f
  | .ldc2_w n, 3 => pm_vv (pm_eK E n) fun v => pm_isl v = true ∧ X (pc + 3) lv (v :: st) f
  | .iload n, 2 => pm_kI (pm_lg lv n) fun z => X (pc + 2) lv (.inl z :: st) f
  | .iload_n n, 1 => pm_kI (pm_lg lv n.val) fun z => X (pc + 1) lv (.inl z :: st) f
  | .aload n, 2 => pm_kR (pm_lg lv n) fun a => X (pc + 2) lv (.inr (.inl (some a)) :: st) f
  | .aload_n n, 1 => pm_kR (pm_lg lv n.val) fun a => X (pc + 1) lv (.inr (.inl (some a)) :: st) f
  | .lload_n n, 1 => pm_kL (pm_lg lv n.val) fun a => X (pc + 1) lv (.inr (.inr a) :: st) f
  | .istore n, 2 => pm_1i st fun x r => n < lv.length ∧ X (pc + 2) (pm_ls lv n (.inl x)) r f
  | .istore_n n, 1 => pm_1i st fun x r => n.val < lv.length ∧ X (pc + 1) (pm_ls lv n.val (.inl x)) r f
  | .astore n, 2 => pm_1r st fun x r => n < lv.length ∧ X (pc + 2) (pm_ls lv n (.inr (.inl (some x)))) r f
  | .astore_n n, 1 => pm_1r st fun x r => n.val < lv.length ∧ X (pc + 1) (pm_ls lv n.val (.inr (.inl (some x)))) r f
  | .lstore_n n, 1 => pm_1l st fun x r => n.val + 1 < lv.length ∧ X (pc + 1) (pm_ll lv n.val (.inr (.inr x))) r f
  | .iinc n k, 3 => pm_kI (pm_lg lv n) fun z => (-2147483648 ≤ z + k ∧ z + k ≤ 2147483647) ∧ X (pc + 3) (pm_ls lv n (.inl (z + k))) st f
  | .iadd, 1 => pm_2i st fun x y r => (-2147483648 ≤ x + y ∧ x + y ≤ 2147483647) ∧ X (pc + 1) lv (.inl (x + y) :: r) f
  | .isub, 1 => pm_2i st fun x y r => (-2147483648 ≤ x - y ∧ x - y ≤ 2147483647) ∧ X (pc + 1) lv (.inl (x - y) :: r) f
  | .imul, 1 => pm_2i st fun x y r => (-2147483648 ≤ x * y ∧ x * y ≤ 2147483647) ∧ X (pc + 1) lv (.inl (x * y) :: r) f
  | .ineg, 1 => pm_1i st fun x r => (-2147483648 < x) ∧ X (pc + 1) lv (.inl (-x) :: r) f
  | .irem, 1 => pm_2i st fun x y r => (0 ≤ x ∧ 0 < y) ∧ X (pc + 1) lv (.inl (x % y) :: r) f
  | .iand, 1 => pm_2i st fun x y r => X (pc + 1) lv (.inl (pm_and x y) :: r) f
  | .ior, 1 => pm_2i st fun x y r => X (pc + 1) lv (.inl (pm_or x y) :: r) f
  | .ixor, 1 => pm_2i st fun x y r => X (pc + 1) lv (.inl (pm_xor x y) :: r) f
  | .ishl, 1 => pm_2i st fun x y r => X (pc + 1) lv (.inl (pm_shl x y) :: r) f
  | .ishr, 1 => pm_2i st fun x y r => X (pc + 1) lv (.inl (pm_shr x y) :: r) f
  | .iushr, 1 => pm_2i st fun x y r => X (pc + 1) lv (.inl (pm_ush x y) :: r) f
  | .i2c, 1 => pm_1i st fun x r => X (pc + 1) lv (.inl (pm_i2c x) :: r) f
  | .i2l, 1 => pm_1i st fun x r => X (pc + 1) lv (.inr (.inr (pm_i2l x)) :: r) f
  | .l2i, 1 => pm_1l st fun x r => X (pc + 1) lv (.inl (pm_l2i x) :: r) f
  | .ladd, 1 => pm_2l st fun x y r => X (pc + 1) lv (.inr (.inr (x + y)) :: r) f
  | .lsub, 1 => pm_2l st fun x y r => X (pc + 1) lv (.inr (.inr (x - y)) :: r) f
  | .land, 1 => pm_2l st fun x y r => X (pc + 1) lv (.inr (.inr (x &&& y)) :: r) f
  | .lxor, 1 => pm_2l st fun x y r => X (pc + 1) lv (.inr (.inr (x ^^^ y)) :: r) f
  | .lshl, 1 => pm_li st fun x y r => X (pc + 1) lv (.inr (.inr (pm_lshl x y)) :: r) f
  | .lushr, 1 => pm_li st fun x y r => X (pc + 1) lv (.inr (.inr (pm_lush x y)) :: r) f
  | .lcmp, 1 => pm_2l st fun x y r => X (pc + 1) lv (.inl (pm_lcmp x y) :: r) f
  | .dup, 1 => pm_d1 st fun v r => X (pc + 1) lv (v :: v :: r) f
  | .dup2, 1 => pm_d2 st fun v w r => X (pc + 1) lv (v :: w :: v :: w :: r) f
  | .pop, 1 => pm_d1 st fun _ r => X (pc + 1) lv r f
  | .goto o, 3 => pm_kt (pm_tg pc o) fun t => X t lv st f
  | .ifCond .eq o, 3 => pm_kt (pm_tg pc o) fun t => pm_1i st fun x r => if x = 0 then X t lv r f else X (pc + 3) lv r f
  | .ifCond .ne o, 3 => pm_kt (pm_tg pc o) fun t => pm_1i st fun x r => if x = 0 then X (pc + 3) lv r f else X t lv r f
  | .ifCond .lt o, 3 => pm_kt (pm_tg pc o) fun t => pm_1i st fun x r => if x < 0 then X t lv r f else X (pc + 3) lv r f
  | .ifCond .ge o, 3 => pm_kt (pm_tg pc o) fun t => pm_1i st fun x r => if x < 0 then X (pc + 3) lv r f else X t lv r f
  | .ifCond .gt o, 3 => pm_kt (pm_tg pc o) fun t => pm_1i st fun x r => if 0 < x then X t lv r f else X (pc + 3) lv r f
  | .ifCond .le o, 3 => pm_kt (pm_tg pc o) fun t => pm_1i st fun x r => if 0 < x then X (pc + 3) lv r f else X t lv r f
  | .if_icmp .eq o, 3 => pm_kt (pm_tg pc o) fun t => pm_2i st fun x y r => if x = y then X t lv r f else X (pc + 3) lv r f
  | .if_icmp .ne o, 3 => pm_kt (pm_tg pc o) fun t => pm_2i st fun x y r => if x = y then X (pc + 3) lv r f else X t lv r f
  | .if_icmp .lt o, 3 => pm_kt (pm_tg pc o) fun t => pm_2i st fun x y r => if x < y then X t lv r f else X (pc + 3) lv r f
  | .if_icmp .ge o, 3 => pm_kt (pm_tg pc o) fun t => pm_2i st fun x y r => if x < y then X (pc + 3) lv r f else X t lv r f
  | .if_icmp .gt o, 3 => pm_kt (pm_tg pc o) fun t => pm_2i st fun x y r => if y < x then X t lv r f else X (pc + 3) lv r f
  | .if_icmp .le o, 3 => pm_kt (pm_tg pc o) fun t => pm_2i st fun x y r => if y < x then X (pc + 3) lv r f else X t lv r f
  | .tableswitch d lo hi offs, _ => pm_1i st fun x r => hi - lo + 1 = (offs.toList.length : Int) ∧ pm_sw x (fun o => pm_kt (pm_tg pc o) fun t => X t lv r f) d lo offs.toList
  | .lookupswitch d ps, _ => pm_1i st fun x r => (ps.toList.zip (ps.toList.drop 1)).all (fun (a, next) => a.1 < next.1) = true ∧ pm_lw x (fun o => pm_kt (pm_tg pc o) fun t => X t lv r f) d ps.toList
  | .getfield n, 3 => pm_fe (pm_eF E n) fun ci k _ => pm_1r st fun a r => pm_ob (f a) fun cj fs => cj = ci ∧ pm_vv fs[k]? fun v => X (pc + 3) lv (v :: r) f
  | .putfield n, 3 => pm_fe (pm_eF E n) fun ci k b => pm_1i st fun x r => pm_1r r fun a r => pm_ob (f a) fun cj fs => cj = ci ∧ pm_vv fs[k]? fun _ => pm_fit b x ∧ X (pc + 3) lv r (pm_up f a (.inr (.inr (.inr (ci, fs.set k (.inl x))))))
  | .iaload, 1 => pm_ir st fun a i r => pm_ai (f a) fun n g => (0 ≤ i ∧ i < (n : Int)) ∧ X (pc + 1) lv (.inl (g i.toNat) :: r) f
  | .laload, 1 => pm_ir st fun a i r => pm_al (f a) fun n g => (0 ≤ i ∧ i < (n : Int)) ∧ X (pc + 1) lv (.inr (.inr (g i.toNat)) :: r) f
  | .aaload, 1 => pm_ir st fun a i r => pm_ar (f a) fun _ n g => (0 ≤ i ∧ i < (n : Int)) ∧ X (pc + 1) lv (.inr (.inl (g i.toNat)) :: r) f
  | .arraylength, 1 => pm_1r st fun a r => pm_ai (f a) fun n _ => n < 2147483648 ∧ X (pc + 1) lv (.inl (n : Int) :: r) f
  | .iastore, 1 => pm_1i st fun x r => pm_ir r fun a i r => pm_ai (f a) fun n g => (0 ≤ i ∧ i < (n : Int)) ∧ X (pc + 1) lv r (pm_up f a (.inl (n, pm_us g i.toNat x)))
  | .lastore, 1 => pm_1l st fun x r => pm_ir r fun a i r => pm_al (f a) fun n g => (0 ≤ i ∧ i < (n : Int)) ∧ X (pc + 1) lv r (pm_up f a (.inr (.inr (.inl (n, vp_updL g i.toNat x)))))
  | .aastore, 1 => pm_1r st fun v r => pm_ir r fun a i r => pm_ar (f a) fun q n g => pm_ob (f v) fun ci _ => ci = q ∧ (0 ≤ i ∧ i < (n : Int)) ∧ X (pc + 1) lv r (pm_up f a (.inr (.inl (q, n, va_up g i.toNat (some v)))))
  | .invokevirtual n, 3 => match pm_eX E n with
    | some o => pm_callX true (some o) st f (fun v r f' => X (pc + 3) lv (v.toList ++ r) f') PX
    | none => pm_call true (pm_eC E n) st f fun v r f' => X (pc + 3) lv (v.toList ++ r) f'
  | .invokestatic n, 3 => pm_call false (pm_eC E n) st f fun v r f' => X (pc + 3) lv (v.toList ++ r) f'
  | .new _, 3 => match pm_eT E pc with
    | some e => st = [] ∧ PX e f
    | none => False
  | .ireturn, 1 => pm_re P (pm_eR E) st f
  | .areturn, 1 => pm_ra P (pm_eR E) st f
  | .lreturn, 1 => pm_rl P (pm_eR E) st f
  | .return_, 1 => pm_rv P (pm_eR E) st f
  | _, _ => False
def pm_D (E : pm_E) (P : pm_P) (PX : pm_PX) (X : pm_K) (o : Except DecodeError (Instr × Nat)) (pc : Nat) (lv : pm_L) (st : List pm_V) (f : pm_H) : Prop := match o with
  | .ok (i, len) => pm_go E P PX X i len pc lv st f
  | .error _ => False
def pm_S (E : pm_E) (P : pm_P) (PX : pm_PX) (X : pm_K) : pm_K := fun pc lv st f => pm_D E P PX X (decode (pm_eB E) pc) pc lv st f
/-- the least fixpoint: the method's run from here ends, in P or PX -/
def pm_W (E : pm_E) (P : pm_P) (PX : pm_PX) : pm_K := fun pc lv st f => ∀ X : pm_K, (∀ pc lv st f, pm_S E P PX X pc lv st f → X pc lv st f) → X pc lv st f
def pm_cut : List Nat → Nat → Bool
  | [], _ => false
  | c :: cs, pc => (pc == c) || pm_cut cs pc
/-- some instructions, up to the cuts -/
def pm_run (E : pm_E) (P : pm_P) (PX : pm_PX) (cuts : List Nat) (X : pm_K) : Nat → pm_K
  | 0 => X
  | n + 1 => fun pc lv st f => bif pm_cut cuts pc then X pc lv st f else pm_S E P PX (pm_run E P PX cuts X n) pc lv st f
def pm_put : List pm_V → pm_L
  | [] => []
  | .inr (.inr x) :: as => some (.inr (.inr x)) :: none :: pm_put as
  | v :: as => some v :: pm_put as
def pm_init (nL : Nat) (as : List pm_V) : pm_L := pm_put as ++ List.replicate (nL - (pm_put as).length) none
