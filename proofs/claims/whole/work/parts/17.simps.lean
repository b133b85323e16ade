section PMZ
variable {E : pm_E} {P : pm_P} {PX : pm_PX} {X : pm_K} {pc : Nat} {lv : pm_L} {st : List pm_V} {f : pm_H}
theorem pm_z_run {cuts : List Nat} {n : Nat} : pm_run E P PX cuts X (n + 1) pc lv st f = (bif pm_cut cuts pc then X pc lv st f else pm_D E P PX (pm_run E P PX cuts X n) (decode (pm_eB E) pc) pc lv st f) := rfl
theorem pm_z_S  : pm_S E P PX X pc lv st f = pm_D E P PX X (decode (pm_eB E) pc) pc lv st f := rfl
theorem pm_z_D {i : Instr} {len : Nat} : pm_D E P PX X (.ok (i, len)) pc lv st f = pm_go E P PX X i len pc lv st f := rfl
theorem pm_z_cut0 {n : Nat} : pm_cut [] n = false := rfl
theorem pm_z_cut1 {n c : Nat} {cs : List Nat} : pm_cut (c :: cs) n = ((n == c) || pm_cut cs n) := rfl
theorem pm_z_iconst {n : Int} : pm_go E P PX X (.iconst n) 1 pc lv st f = ((-1 ≤ n ∧ n ≤ 5) ∧ X (pc + 1) lv (.inl n :: st) f) := rfl
theorem pm_z_bipush {n : Int} : pm_go E P PX X (.bipush n) 2 pc lv st f = ((-128 ≤ n ∧ n ≤ 127) ∧ X (pc + 2) lv (.inl n :: st) f) := rfl
theorem pm_z_sipush {n : Int} : pm_go E P PX X (.sipush n) 3 pc lv st f = ((-32768 ≤ n ∧ n ≤ 32767) ∧ X (pc + 3) lv (.inl n :: st) f) := rfl
theorem pm_z_lconst0  : pm_go E P PX X (.lconst 0) 1 pc lv st f = X (pc + 1) lv (.inr (.inr 0) :: st) f := rfl
theorem pm_z_lconst1  : pm_go E P PX X (.lconst 1) 1 pc lv st f = X (pc + 1) lv (.inr (.inr 1) :: st) f := rfl
theorem pm_z_ldc {n : Nat} : pm_go E P PX X (.ldc n) 2 pc lv st f = pm_vv (pm_eK E n) fun v => pm_isl v = false ∧ X (pc + 2) lv (v :: st) f := rfl
theorem pm_z_ldcw {n : Nat} : pm_go E P PX X (.ldc_w n) 3 pc lv st f = pm_vv (pm_eK E n) fun v => pm_isi v = true ∧ X (pc + 3) lv (v :: st) f := rfl
theorem pm_z_ldc2 {n : Nat} : pm_go E P PX X (.ldc2_w n) 3 pc lv st f = pm_vv (pm_eK E n) fun v => pm_isl v = true ∧ X (pc + 3) lv (v :: st) f := rfl
theorem pm_z_iload {n : Nat} : pm_go E P PX X (.iload n) 2 pc lv st f = pm_kI (pm_lg lv n) fun z => X (pc + 2) lv (.inl z :: st) f := rfl
theorem pm_z_aload {n : Nat} : pm_go E P PX X (.aload n) 2 pc lv st f = pm_kR (pm_lg lv n) fun z => X (pc + 2) lv (.inr (.inl (some z)) :: st) f := rfl
theorem pm_z_istore {n : Nat} {x : Int} : pm_go E P PX X (.istore n) 2 pc lv (.inl x :: st) f = (n < lv.length ∧ X (pc + 2) (pm_ls lv n (.inl x)) st f) := rfl
theorem pm_z_astore {n a : Nat} : pm_go E P PX X (.astore n) 2 pc lv (.inr (.inl (some a)) :: st) f = (n < lv.length ∧ X (pc + 2) (pm_ls lv n (.inr (.inl (some a)))) st f) := rfl
theorem pm_z_iload_0  : pm_go E P PX X (.iload_n 0) 1 pc lv st f = pm_kI (pm_lg lv 0) fun z => X (pc + 1) lv (.inl z :: st) f := rfl
theorem pm_z_aload_0  : pm_go E P PX X (.aload_n 0) 1 pc lv st f = pm_kR (pm_lg lv 0) fun z => X (pc + 1) lv (.inr (.inl (some z)) :: st) f := rfl
theorem pm_z_lload_0  : pm_go E P PX X (.lload_n 0) 1 pc lv st f = pm_kL (pm_lg lv 0) fun z => X (pc + 1) lv (.inr (.inr z) :: st) f := rfl
theorem pm_z_istore_0 {x : Int} : pm_go E P PX X (.istore_n 0) 1 pc lv (.inl x :: st) f = (0 < lv.length ∧ X (pc + 1) (pm_ls lv 0 (.inl x)) st f) := rfl
theorem pm_z_astore_0 {a : Nat} : pm_go E P PX X (.astore_n 0) 1 pc lv (.inr (.inl (some a)) :: st) f = (0 < lv.length ∧ X (pc + 1) (pm_ls lv 0 (.inr (.inl (some a)))) st f) := rfl
theorem pm_z_lstore_0 {a : Int64} : pm_go E P PX X (.lstore_n 0) 1 pc lv (.inr (.inr a) :: st) f = (1 < lv.length ∧ X (pc + 1) (pm_ll lv 0 (.inr (.inr a))) st f) := rfl
theorem pm_z_iload_1  : pm_go E P PX X (.iload_n 1) 1 pc lv st f = pm_kI (pm_lg lv 1) fun z => X (pc + 1) lv (.inl z :: st) f := rfl
theorem pm_z_aload_1  : pm_go E P PX X (.aload_n 1) 1 pc lv st f = pm_kR (pm_lg lv 1) fun z => X (pc + 1) lv (.inr (.inl (some z)) :: st) f := rfl
theorem pm_z_lload_1  : pm_go E P PX X (.lload_n 1) 1 pc lv st f = pm_kL (pm_lg lv 1) fun z => X (pc + 1) lv (.inr (.inr z) :: st) f := rfl
theorem pm_z_istore_1 {x : Int} : pm_go E P PX X (.istore_n 1) 1 pc lv (.inl x :: st) f = (1 < lv.length ∧ X (pc + 1) (pm_ls lv 1 (.inl x)) st f) := rfl
theorem pm_z_astore_1 {a : Nat} : pm_go E P PX X (.astore_n 1) 1 pc lv (.inr (.inl (some a)) :: st) f = (1 < lv.length ∧ X (pc + 1) (pm_ls lv 1 (.inr (.inl (some a)))) st f) := rfl
theorem pm_z_lstore_1 {a : Int64} : pm_go E P PX X (.lstore_n 1) 1 pc lv (.inr (.inr a) :: st) f = (2 < lv.length ∧ X (pc + 1) (pm_ll lv 1 (.inr (.inr a))) st f) := rfl
theorem pm_z_iload_2  : pm_go E P PX X (.iload_n 2) 1 pc lv st f = pm_kI (pm_lg lv 2) fun z => X (pc + 1) lv (.inl z :: st) f := rfl
theorem pm_z_aload_2  : pm_go E P PX X (.aload_n 2) 1 pc lv st f = pm_kR (pm_lg lv 2) fun z => X (pc + 1) lv (.inr (.inl (some z)) :: st) f := rfl
theorem pm_z_lload_2  : pm_go E P PX X (.lload_n 2) 1 pc lv st f = pm_kL (pm_lg lv 2) fun z => X (pc + 1) lv (.inr (.inr z) :: st) f := rfl
theorem pm_z_istore_2 {x : Int} : pm_go E P PX X (.istore_n 2) 1 pc lv (.inl x :: st) f = (2 < lv.length ∧ X (pc + 1) (pm_ls lv 2 (.inl x)) st f) := rfl
theorem pm_z_astore_2 {a : Nat} : pm_go E P PX X (.astore_n 2) 1 pc lv (.inr (.inl (some a)) :: st) f = (2 < lv.length ∧ X (pc + 1) (pm_ls lv 2 (.inr (.inl (some a)))) st f) := rfl
theorem pm_z_lstore_2 {a : Int64} : pm_go E P PX X (.lstore_n 2) 1 pc lv (.inr (.inr a) :: st) f = (3 < lv.length ∧ X (pc + 1) (pm_ll lv 2 (.inr (.inr a))) st f) := rfl
theorem pm_z_iload_3  : pm_go E P PX X (.iload_n 3) 1 pc lv st f = pm_kI (pm_lg lv 3) fun z => X (pc + 1) lv (.inl z :: st) f := rfl
theorem pm_z_aload_3  : pm_go E P PX X (.aload_n 3) 1 pc lv st f = pm_kR (pm_lg lv 3) fun z => X (pc + 1) lv (.inr (.inl (some z)) :: st) f := rfl
theorem pm_z_lload_3  : pm_go E P PX X (.lload_n 3) 1 pc lv st f = pm_kL (pm_lg lv 3) fun z => X (pc + 1) lv (.inr (.inr z) :: st) f := rfl
theorem pm_z_istore_3 {x : Int} : pm_go E P PX X (.istore_n 3) 1 pc lv (.inl x :: st) f = (3 < lv.length ∧ X (pc + 1) (pm_ls lv 3 (.inl x)) st f) := rfl
theorem pm_z_astore_3 {a : Nat} : pm_go E P PX X (.astore_n 3) 1 pc lv (.inr (.inl (some a)) :: st) f = (3 < lv.length ∧ X (pc + 1) (pm_ls lv 3 (.inr (.inl (some a)))) st f) := rfl
theorem pm_z_lstore_3 {a : Int64} : pm_go E P PX X (.lstore_n 3) 1 pc lv (.inr (.inr a) :: st) f = (4 < lv.length ∧ X (pc + 1) (pm_ll lv 3 (.inr (.inr a))) st f) := rfl
theorem pm_z_iinc {n : Nat} {k : Int} : pm_go E P PX X (.iinc n k) 3 pc lv st f = pm_kI (pm_lg lv n) fun z => (-2147483648 ≤ z + k ∧ z + k ≤ 2147483647) ∧ X (pc + 3) (pm_ls lv n (.inl (z + k))) st f := rfl
theorem pm_z_iadd {x y : Int} : pm_go E P PX X (.iadd) 1 pc lv (.inl y :: .inl x :: st) f = ((-2147483648 ≤ x + y ∧ x + y ≤ 2147483647) ∧ X (pc + 1) lv (.inl (x + y) :: st) f) := rfl
theorem pm_z_isub {x y : Int} : pm_go E P PX X (.isub) 1 pc lv (.inl y :: .inl x :: st) f = ((-2147483648 ≤ x - y ∧ x - y ≤ 2147483647) ∧ X (pc + 1) lv (.inl (x - y) :: st) f) := rfl
theorem pm_z_imul {x y : Int} : pm_go E P PX X (.imul) 1 pc lv (.inl y :: .inl x :: st) f = ((-2147483648 ≤ x * y ∧ x * y ≤ 2147483647) ∧ X (pc + 1) lv (.inl (x * y) :: st) f) := rfl
theorem pm_z_ineg {x : Int} : pm_go E P PX X (.ineg) 1 pc lv (.inl x :: st) f = ((-2147483648 < x) ∧ X (pc + 1) lv (.inl (-x) :: st) f) := rfl
theorem pm_z_irem {x y : Int} : pm_go E P PX X (.irem) 1 pc lv (.inl y :: .inl x :: st) f = ((0 ≤ x ∧ 0 < y) ∧ X (pc + 1) lv (.inl (x % y) :: st) f) := rfl
theorem pm_z_iand {x y : Int} : pm_go E P PX X (.iand) 1 pc lv (.inl y :: .inl x :: st) f = X (pc + 1) lv (.inl (pm_and x y) :: st) f := rfl
theorem pm_z_ior {x y : Int} : pm_go E P PX X (.ior) 1 pc lv (.inl y :: .inl x :: st) f = X (pc + 1) lv (.inl (pm_or x y) :: st) f := rfl
theorem pm_z_ixor {x y : Int} : pm_go E P PX X (.ixor) 1 pc lv (.inl y :: .inl x :: st) f = X (pc + 1) lv (.inl (pm_xor x y) :: st) f := rfl
theorem pm_z_ishl {x y : Int} : pm_go E P PX X (.ishl) 1 pc lv (.inl y :: .inl x :: st) f = X (pc + 1) lv (.inl (pm_shl x y) :: st) f := rfl
theorem pm_z_ishr {x y : Int} : pm_go E P PX X (.ishr) 1 pc lv (.inl y :: .inl x :: st) f = X (pc + 1) lv (.inl (pm_shr x y) :: st) f := rfl
theorem pm_z_iushr {x y : Int} : pm_go E P PX X (.iushr) 1 pc lv (.inl y :: .inl x :: st) f = X (pc + 1) lv (.inl (pm_ush x y) :: st) f := rfl
theorem pm_z_i2c {x : Int} : pm_go E P PX X (.i2c) 1 pc lv (.inl x :: st) f = X (pc + 1) lv (.inl (pm_i2c x) :: st) f := rfl
theorem pm_z_i2l {x : Int} : pm_go E P PX X (.i2l) 1 pc lv (.inl x :: st) f = X (pc + 1) lv (.inr (.inr (pm_i2l x)) :: st) f := rfl
theorem pm_z_l2i {x : Int64} : pm_go E P PX X (.l2i) 1 pc lv (.inr (.inr x) :: st) f = X (pc + 1) lv (.inl (pm_l2i x) :: st) f := rfl
theorem pm_z_ladd {x y : Int64} : pm_go E P PX X (.ladd) 1 pc lv (.inr (.inr y) :: .inr (.inr x) :: st) f = X (pc + 1) lv (.inr (.inr (x + y)) :: st) f := rfl
theorem pm_z_lsub {x y : Int64} : pm_go E P PX X (.lsub) 1 pc lv (.inr (.inr y) :: .inr (.inr x) :: st) f = X (pc + 1) lv (.inr (.inr (x - y)) :: st) f := rfl
theorem pm_z_land {x y : Int64} : pm_go E P PX X (.land) 1 pc lv (.inr (.inr y) :: .inr (.inr x) :: st) f = X (pc + 1) lv (.inr (.inr (x &&& y)) :: st) f := rfl
theorem pm_z_lxor {x y : Int64} : pm_go E P PX X (.lxor) 1 pc lv (.inr (.inr y) :: .inr (.inr x) :: st) f = X (pc + 1) lv (.inr (.inr (x ^^^ y)) :: st) f := rfl
theorem pm_z_lshl {x : Int64} {y : Int} : pm_go E P PX X (.lshl) 1 pc lv (.inl y :: .inr (.inr x) :: st) f = X (pc + 1) lv (.inr (.inr (pm_lshl x y)) :: st) f := rfl
theorem pm_z_lushr {x : Int64} {y : Int} : pm_go E P PX X (.lushr) 1 pc lv (.inl y :: .inr (.inr x) :: st) f = X (pc + 1) lv (.inr (.inr (pm_lush x y)) :: st) f := rfl
theorem pm_z_lcmp {x y : Int64} : pm_go E P PX X (.lcmp) 1 pc lv (.inr (.inr y) :: .inr (.inr x) :: st) f = X (pc + 1) lv (.inl (pm_lcmp x y) :: st) f := rfl
theorem pm_z_dup_i {x : Int} : pm_go E P PX X (.dup) 1 pc lv (.inl x :: st) f = X (pc + 1) lv (.inl x :: .inl x :: st) f := rfl
theorem pm_z_dup_r {x : Option Nat} : pm_go E P PX X (.dup) 1 pc lv (.inr (.inl x) :: st) f = X (pc + 1) lv (.inr (.inl x) :: .inr (.inl x) :: st) f := rfl
theorem pm_z_dup2_i {x y : Int} : pm_go E P PX X (.dup2) 1 pc lv (.inl x :: .inl y :: st) f = X (pc + 1) lv (.inl x :: .inl y :: .inl x :: .inl y :: st) f := rfl
theorem pm_z_dup2_r {x : Int} {y : Option Nat} : pm_go E P PX X (.dup2) 1 pc lv (.inl x :: .inr (.inl y) :: st) f = X (pc + 1) lv (.inl x :: .inr (.inl y) :: .inl x :: .inr (.inl y) :: st) f := rfl
theorem pm_z_pop_i {x : Int} : pm_go E P PX X (.pop) 1 pc lv (.inl x :: st) f = X (pc + 1) lv st f := rfl
theorem pm_z_pop_r {x : Option Nat} : pm_go E P PX X (.pop) 1 pc lv (.inr (.inl x) :: st) f = X (pc + 1) lv st f := rfl
theorem pm_z_goto {o : Int} : pm_go E P PX X (.goto o) 3 pc lv st f = pm_kt (pm_tg pc o) fun t => X t lv st f := rfl
theorem pm_z_if_eq {x o : Int} : pm_go E P PX X (.ifCond .eq o) 3 pc lv (.inl x :: st) f = pm_kt (pm_tg pc o) fun t => if x = 0 then X t lv st f else X (pc + 3) lv st f := rfl
theorem pm_z_if_ne {x o : Int} : pm_go E P PX X (.ifCond .ne o) 3 pc lv (.inl x :: st) f = pm_kt (pm_tg pc o) fun t => if x = 0 then X (pc + 3) lv st f else X t lv st f := rfl
theorem pm_z_if_lt {x o : Int} : pm_go E P PX X (.ifCond .lt o) 3 pc lv (.inl x :: st) f = pm_kt (pm_tg pc o) fun t => if x < 0 then X t lv st f else X (pc + 3) lv st f := rfl
theorem pm_z_if_ge {x o : Int} : pm_go E P PX X (.ifCond .ge o) 3 pc lv (.inl x :: st) f = pm_kt (pm_tg pc o) fun t => if x < 0 then X (pc + 3) lv st f else X t lv st f := rfl
theorem pm_z_if_gt {x o : Int} : pm_go E P PX X (.ifCond .gt o) 3 pc lv (.inl x :: st) f = pm_kt (pm_tg pc o) fun t => if 0 < x then X t lv st f else X (pc + 3) lv st f := rfl
theorem pm_z_if_le {x o : Int} : pm_go E P PX X (.ifCond .le o) 3 pc lv (.inl x :: st) f = pm_kt (pm_tg pc o) fun t => if 0 < x then X (pc + 3) lv st f else X t lv st f := rfl
theorem pm_z_icmp_eq {x y o : Int} : pm_go E P PX X (.if_icmp .eq o) 3 pc lv (.inl y :: .inl x :: st) f = pm_kt (pm_tg pc o) fun t => if x = y then X t lv st f else X (pc + 3) lv st f := rfl
theorem pm_z_icmp_ne {x y o : Int} : pm_go E P PX X (.if_icmp .ne o) 3 pc lv (.inl y :: .inl x :: st) f = pm_kt (pm_tg pc o) fun t => if x = y then X (pc + 3) lv st f else X t lv st f := rfl
theorem pm_z_icmp_lt {x y o : Int} : pm_go E P PX X (.if_icmp .lt o) 3 pc lv (.inl y :: .inl x :: st) f = pm_kt (pm_tg pc o) fun t => if x < y then X t lv st f else X (pc + 3) lv st f := rfl
theorem pm_z_icmp_ge {x y o : Int} : pm_go E P PX X (.if_icmp .ge o) 3 pc lv (.inl y :: .inl x :: st) f = pm_kt (pm_tg pc o) fun t => if x < y then X (pc + 3) lv st f else X t lv st f := rfl
theorem pm_z_icmp_gt {x y o : Int} : pm_go E P PX X (.if_icmp .gt o) 3 pc lv (.inl y :: .inl x :: st) f = pm_kt (pm_tg pc o) fun t => if y < x then X t lv st f else X (pc + 3) lv st f := rfl
theorem pm_z_icmp_le {x y o : Int} : pm_go E P PX X (.if_icmp .le o) 3 pc lv (.inl y :: .inl x :: st) f = pm_kt (pm_tg pc o) fun t => if y < x then X (pc + 3) lv st f else X t lv st f := rfl
theorem pm_z_tsw {x d lo hi : Int} {offs : Array Int} {len : Nat} : pm_go E P PX X (.tableswitch d lo hi offs) len pc lv (.inl x :: st) f = (hi - lo + 1 = (offs.toList.length : Int) ∧ pm_sw x (fun o => pm_kt (pm_tg pc o) fun t => X t lv st f) d lo offs.toList) := rfl
theorem pm_z_lsw {x d : Int} {ps : Array (Int × Int)} {len : Nat} : pm_go E P PX X (.lookupswitch d ps) len pc lv (.inl x :: st) f = ((ps.toList.zip (ps.toList.drop 1)).all (fun (a, next) => a.1 < next.1) = true ∧ pm_lw x (fun o => pm_kt (pm_tg pc o) fun t => X t lv st f) d ps.toList) := rfl
theorem pm_z_getf {n a : Nat} : pm_go E P PX X (.getfield n) 3 pc lv (.inr (.inl (some a)) :: st) f = pm_fe (pm_eF E n) fun ci k _ => pm_ob (f a) fun cj fs => cj = ci ∧ pm_vv fs[k]? fun v => X (pc + 3) lv (v :: st) f := rfl
theorem pm_z_putf {n a : Nat} {x : Int} : pm_go E P PX X (.putfield n) 3 pc lv (.inl x :: .inr (.inl (some a)) :: st) f = pm_fe (pm_eF E n) fun ci k b => pm_ob (f a) fun cj fs => cj = ci ∧ pm_vv fs[k]? fun _ => pm_fit b x ∧ X (pc + 3) lv st (pm_up f a (.inr (.inr (.inr (ci, fs.set k (.inl x)))))) := rfl
theorem pm_z_iald {a : Nat} {i : Int} : pm_go E P PX X (.iaload) 1 pc lv (.inl i :: .inr (.inl (some a)) :: st) f = pm_ai (f a) fun n g => (0 ≤ i ∧ i < (n : Int)) ∧ X (pc + 1) lv (.inl (g i.toNat) :: st) f := rfl
theorem pm_z_lald {a : Nat} {i : Int} : pm_go E P PX X (.laload) 1 pc lv (.inl i :: .inr (.inl (some a)) :: st) f = pm_al (f a) fun n g => (0 ≤ i ∧ i < (n : Int)) ∧ X (pc + 1) lv (.inr (.inr (g i.toNat)) :: st) f := rfl
theorem pm_z_aald {a : Nat} {i : Int} : pm_go E P PX X (.aaload) 1 pc lv (.inl i :: .inr (.inl (some a)) :: st) f = pm_ar (f a) fun _ n g => (0 ≤ i ∧ i < (n : Int)) ∧ X (pc + 1) lv (.inr (.inl (g i.toNat)) :: st) f := rfl
theorem pm_z_alen {a : Nat} : pm_go E P PX X (.arraylength) 1 pc lv (.inr (.inl (some a)) :: st) f = pm_ai (f a) fun n _ => n < 2147483648 ∧ X (pc + 1) lv (.inl (n : Int) :: st) f := rfl
theorem pm_z_iast {a : Nat} {i x : Int} : pm_go E P PX X (.iastore) 1 pc lv (.inl x :: .inl i :: .inr (.inl (some a)) :: st) f = pm_ai (f a) fun n g => (0 ≤ i ∧ i < (n : Int)) ∧ X (pc + 1) lv st (pm_up f a (.inl (n, pm_us g i.toNat x))) := rfl
theorem pm_z_last {a : Nat} {i : Int} {x : Int64} : pm_go E P PX X (.lastore) 1 pc lv (.inr (.inr x) :: .inl i :: .inr (.inl (some a)) :: st) f = pm_al (f a) fun n g => (0 ≤ i ∧ i < (n : Int)) ∧ X (pc + 1) lv st (pm_up f a (.inr (.inr (.inl (n, vp_updL g i.toNat x))))) := rfl
theorem pm_z_aast {a v : Nat} {i : Int} : pm_go E P PX X (.aastore) 1 pc lv (.inr (.inl (some v)) :: .inl i :: .inr (.inl (some a)) :: st) f = pm_ar (f a) fun q n g => pm_ob (f v) fun ci _ => ci = q ∧ (0 ≤ i ∧ i < (n : Int)) ∧ X (pc + 1) lv st (pm_up f a (.inr (.inl (q, n, va_up g i.toNat (some v))))) := rfl
theorem pm_z_invs {n : Nat} : pm_go E P PX X (.invokestatic n) 3 pc lv st f = pm_call false (pm_eC E n) st f fun v r f' => X (pc + 3) lv (v.toList ++ r) f' := rfl
theorem pm_z_invv {n : Nat} : pm_go E P PX X (.invokevirtual n) 3 pc lv st f = pm_iv (pm_eX E n) (pm_eC E n) st f (fun v r f' => X (pc + 3) lv (v.toList ++ r) f') PX := rfl
theorem pm_z_ireti {z : Int} (h : pm_eR E = some .int) : pm_go E P PX X .ireturn 1 pc lv [.inl z] f = P (some (.inl z)) f := by show pm_re P (pm_eR E) _ f = _; rw [h]; rfl
theorem pm_z_iretz {z : Int} (h : pm_eR E = some .boolean) : pm_go E P PX X .ireturn 1 pc lv [.inl z] f = ((z = 0 ∨ z = 1) ∧ P (some (.inl z)) f) := by show pm_re P (pm_eR E) _ f = _; rw [h]; rfl
theorem pm_z_aret {a : Nat} : pm_go E P PX X (.areturn) 1 pc lv [.inr (.inl (some a))] f = (pm_isR (pm_eR E) ∧ P (some (.inr (.inl (some a)))) f) := rfl
theorem pm_z_lret {a : Int64} : pm_go E P PX X (.lreturn) 1 pc lv [.inr (.inr a)] f = (pm_eR E = some .long ∧ P (some (.inr (.inr a))) f) := rfl
theorem pm_z_vret  : pm_go E P PX X (.return_) 1 pc lv [] f = (pm_eR E = none ∧ P none f) := rfl
theorem pm_z_new {n : Nat} {x : String} (h : pm_eT E pc = some x) : pm_go E P PX X (.new n) 3 pc lv [] f = PX x f := by show (match pm_eT E pc with | some e => ([] : List pm_V) = [] ∧ PX e f | none => False) = _; rw [h]; exact propext ⟨fun q => q.2, fun q => ⟨rfl, q⟩⟩
end PMZ
theorem pm_z_kI {z : Int} {k : Int → Prop} : pm_kI (some (.inl z)) k = k z := rfl
theorem pm_z_kR {z : Nat} {k : Nat → Prop} : pm_kR (some (.inr (.inl (some z)))) k = k z := rfl
theorem pm_z_kL {z : Int64} {k : Int64 → Prop} : pm_kL (some (.inr (.inr z))) k = k z := rfl
theorem pm_z_lg0 {w : Option pm_V} {l : pm_L} : pm_lg (w :: l) 0 = w := rfl
theorem pm_z_lg1 {w : Option pm_V} {l : pm_L} {n : Nat} : pm_lg (w :: l) (n + 1) = pm_lg l n := rfl
theorem pm_z_ls0 {w : Option pm_V} {l : pm_L} {v : pm_V} : pm_ls (w :: l) 0 v = some v :: l := rfl
theorem pm_z_ls1 {w : Option pm_V} {l : pm_L} {v : pm_V} : pm_ls (w :: l) 1 v = pm_cl w :: pm_ls l 0 v := rfl
theorem pm_z_ls2 {w : Option pm_V} {l : pm_L} {v : pm_V} {n : Nat} : pm_ls (w :: l) (n + 2) v = w :: pm_ls l (n + 1) v := rfl
theorem pm_z_cli {x : Int} : pm_cl (some (.inl x)) = some (.inl x) := rfl
theorem pm_z_clr {x : Option Nat} : pm_cl (some (.inr (.inl x))) = some (.inr (.inl x)) := rfl
theorem pm_z_cln  : pm_cl none = none := rfl
theorem pm_z_cll {x : Int64} : pm_cl (some (.inr (.inr x))) = none := rfl
theorem pm_z_ll {lv : pm_L} {i : Nat} {v : pm_V} : pm_ll lv i v = pm_l0 (pm_ls lv i v) (i + 1) := rfl
theorem pm_z_l00 {w : Option pm_V} {l : pm_L} : pm_l0 (w :: l) 0 = none :: l := rfl
theorem pm_z_l01 {w : Option pm_V} {l : pm_L} {n : Nat} : pm_l0 (w :: l) (n + 1) = w :: pm_l0 l n := rfl
theorem pm_z_kt {t : Nat} {k : Nat → Prop} : pm_kt (some t) k = k t := rfl
theorem pm_z_vv {v : pm_V} {k : pm_V → Prop} : pm_vv (some v) k = k v := rfl
theorem pm_z_fe {a b c : Nat} {k : Nat → Nat → Nat → Prop} : pm_fe (some (a, b, c)) k = k a b c := rfl
theorem pm_z_ob {a : Nat} {fs : List pm_V} {k : Nat → List pm_V → Prop} : pm_ob (some (.inr (.inr (.inr (a, fs))))) k = k a fs := rfl
theorem pm_z_ai {n : Nat} {g : Nat → Int} {k : Nat → (Nat → Int) → Prop} : pm_ai (some (.inl (n, g))) k = k n g := rfl
theorem pm_z_ar {q n : Nat} {g : Nat → Option Nat} {k : Nat → Nat → (Nat → Option Nat) → Prop} : pm_ar (some (.inr (.inl (q, n, g)))) k = k q n g := rfl
theorem pm_z_al {n : Nat} {g : Nat → Int64} {k : Nat → (Nat → Int64) → Prop} : pm_al (some (.inr (.inr (.inl (n, g))))) k = k n g := rfl
theorem pm_z_pop0 {acc st : List pm_V} : pm_pop 0 acc st = some (acc, st) := rfl
theorem pm_z_pop1 {n : Nat} {acc st : List pm_V} {v : pm_V} : pm_pop (n + 1) acc (v :: st) = pm_pop n (v :: acc) st := rfl
theorem pm_z_cat0  : pm_cat [] = 0 := rfl
theorem pm_z_cati {x : Int} {r : List pm_V} : pm_cat (.inl x :: r) = 1 + pm_cat r := by simp [pm_cat, pm_cv, Value.category]
theorem pm_z_catr {x : Option Nat} {r : List pm_V} : pm_cat (.inr (.inl x) :: r) = 1 + pm_cat r := by cases x <;> simp [pm_cat, pm_cv, va_rf, Value.category]
theorem pm_z_catl {x : Int64} {r : List pm_V} : pm_cat (.inr (.inr x) :: r) = 2 + pm_cat r := by simp [pm_cat, pm_cv, Value.category]
theorem pm_z_call {b : Bool} {n : Nat} {ci : Option Nat} {T : pm_T} {st : List pm_V} {f : pm_H} {k : Option pm_V → List pm_V → pm_H → Prop} : pm_call b (some (n, ci, T)) st f k = pm_cl2 b ci T (pm_pop n [] st) f k := rfl
theorem pm_z_cl2 {b : Bool} {ci : Option Nat} {T : pm_T} {as r : List pm_V} {f : pm_H} {k : Option pm_V → List pm_V → pm_H → Prop} : pm_cl2 b ci T (some (as, r)) f k = (ci.isSome = b ∧ pm_rcv ci f as ∧ pm_cat r ≤ 8 ∧ pm_ex T as f (fun v f' => k v r f')) := rfl
theorem pm_z_callX {b : Bool} {n : Nat} {ci : Option Nat} {T : pm_TX} {st : List pm_V} {f : pm_H} {k : Option pm_V → List pm_V → pm_H → Prop} {PX : pm_PX} : pm_callX b (some (n, ci, T)) st f k PX = pm_cx2 b ci T (pm_pop n [] st) f k PX := rfl
theorem pm_z_cx2 {b : Bool} {ci : Option Nat} {T : pm_TX} {as r : List pm_V} {f : pm_H} {k : Option pm_V → List pm_V → pm_H → Prop} {PX : pm_PX} : pm_cx2 b ci T (some (as, r)) f k PX = (ci.isSome = b ∧ pm_rcv ci f as ∧ pm_cat r ≤ 8 ∧ pm_exX T as f (fun v f' => k v r f') PX) := rfl
theorem pm_z_iv0 {o : Option (Nat × Option Nat × pm_T)} {st : List pm_V} {f : pm_H} {k : Option pm_V → List pm_V → pm_H → Prop} {PX : pm_PX} : pm_iv none o st f k PX = pm_call true o st f k := rfl
theorem pm_z_iv1 {q : Nat × Option Nat × pm_TX} {o : Option (Nat × Option Nat × pm_T)} {st : List pm_V} {f : pm_H} {k : Option pm_V → List pm_V → pm_H → Prop} {PX : pm_PX} : pm_iv (some q) o st f k PX = pm_callX true (some q) st f k PX := rfl
theorem pm_z_rcv1 {n b : Nat} {fs : List pm_V} {f : pm_H} {as : List pm_V} (h : f b = some (.inr (.inr (.inr (n, fs))))) : pm_rcv (some n) f (.inr (.inl (some b)) :: as) = True := eq_true (Or.inr ⟨b, fs, as, rfl, h⟩)
theorem pm_z_rcv9 {f : pm_H} {as : List pm_V} : pm_rcv (some 9) f as = True := eq_true (Or.inl rfl)
theorem pm_z_rcv0 {f : pm_H} {as : List pm_V} : pm_rcv none f as = True := rfl
theorem pm_z_sw0 {x d lo : Int} {k : Int → Prop} : pm_sw x k d lo [] = k d := rfl
theorem pm_z_sw1 {x d lo o : Int} {os : List Int} {k : Int → Prop} : pm_sw x k d lo (o :: os) = if x = lo then k o else pm_sw x k d (lo + 1) os := rfl
theorem pm_z_lw0 {x d : Int} {k : Int → Prop} : pm_lw x k d [] = k d := rfl
theorem pm_z_lw1 {x d a b : Int} {os : List (Int × Int)} {k : Int → Prop} : pm_lw x k d ((a, b) :: os) = if x = a then k b else pm_lw x k d os := rfl
theorem pm_z_up {f : pm_H} {a : Nat} {c : pm_C} : pm_up f a c a = some c := by simp [pm_up]
theorem pm_z_un {f : pm_H} {a b : Nat} {c : pm_C} (h : b ≠ a) : pm_up f a c b = f b := by simp [pm_up, h]
theorem pm_z_tn {v : pm_V} {r : List pm_V} : (some v).toList ++ r = v :: r := rfl
theorem pm_z_t0 {r : List pm_V} : (none : Option pm_V).toList ++ r = r := rfl
theorem pm_z_put0  : pm_put [] = [] := rfl
theorem pm_z_puti {x : Int} {as : List pm_V} : pm_put (.inl x :: as) = some (.inl x) :: pm_put as := rfl
theorem pm_z_putr {x : Option Nat} {as : List pm_V} : pm_put (.inr (.inl x) :: as) = some (.inr (.inl x)) :: pm_put as := rfl
theorem pm_z_putl {x : Int64} {as : List pm_V} : pm_put (.inr (.inr x) :: as) = some (.inr (.inr x)) :: none :: pm_put as := rfl
theorem pm_z_isl1 {x : Int} : pm_isl (.inl x) = false := rfl
theorem pm_z_isl2 {x : Option Nat} : pm_isl (.inr (.inl x)) = false := rfl
theorem pm_z_isl3 {x : Int64} : pm_isl (.inr (.inr x)) = true := rfl
theorem pm_z_isi {x : Int} : pm_isi (.inl x) = true := rfl
