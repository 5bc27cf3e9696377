section LZ
variable {E : Ev} {X : Cx0} {μ : Mth} {Q : State → Prop} {pc q : Nat} {ls st : List Value} {M : Hp} {nc ns : Nat}
theorem gq_iload (hX : Cx E X μ) {i : Nat} {x : Int32} (d : decode μ.2.1 pc = .ok (.iload i, 2)) (hq : pc + 2 = q) (hl : ls[i]? = some (.int x)) (kk : Gq E X μ Q q ls (.int x :: st) M nc ns) : Gq E X μ Q pc ls (st) M nc ns := by
  subst hq
  exact fun H locs cells slots lsR hR hS hL h1 h2 => lv_iload hX.1 hX.2.1 d (hL.get hl (by intro h; cases h)) (kk H locs cells slots lsR hR hS hL h1 h2)
theorem gq_fload_n (hX : Cx E X μ) {k : Fin 4} {i : Nat} {x : UInt32} (d : decode μ.2.1 pc = .ok (.fload_n k, 1)) (hq : pc + 1 = q) (hi : (k : Nat) = i) (hl : ls[i]? = some (.float x)) (kk : Gq E X μ Q q ls (.float x :: st) M nc ns) : Gq E X μ Q pc ls (st) M nc ns := by
  subst hq
  exact fun H locs cells slots lsR hR hS hL h1 h2 => lv_fload_n hX.1 hX.2.1 d hi (hL.get hl (by intro h; cases h)) (kk H locs cells slots lsR hR hS hL h1 h2)
theorem gq_fload (hX : Cx E X μ) {i : Nat} {x : UInt32} (d : decode μ.2.1 pc = .ok (.fload i, 2)) (hq : pc + 2 = q) (hl : ls[i]? = some (.float x)) (kk : Gq E X μ Q q ls (.float x :: st) M nc ns) : Gq E X μ Q pc ls (st) M nc ns := by
  subst hq
  exact fun H locs cells slots lsR hR hS hL h1 h2 => lv_fload hX.1 hX.2.1 d (hL.get hl (by intro h; cases h)) (kk H locs cells slots lsR hR hS hL h1 h2)
theorem gq_dload_n (hX : Cx E X μ) {k : Fin 4} {i : Nat} {x : UInt64} (d : decode μ.2.1 pc = .ok (.dload_n k, 1)) (hq : pc + 1 = q) (hi : (k : Nat) = i) (hl : ls[i]? = some (.double x)) (kk : Gq E X μ Q q ls (.double x :: st) M nc ns) : Gq E X μ Q pc ls (st) M nc ns := by
  subst hq
  exact fun H locs cells slots lsR hR hS hL h1 h2 => lv_dload_n hX.1 hX.2.1 d hi (hL.get hl (by intro h; cases h)) (kk H locs cells slots lsR hR hS hL h1 h2)
theorem gq_dload (hX : Cx E X μ) {i : Nat} {x : UInt64} (d : decode μ.2.1 pc = .ok (.dload i, 2)) (hq : pc + 2 = q) (hl : ls[i]? = some (.double x)) (kk : Gq E X μ Q q ls (.double x :: st) M nc ns) : Gq E X μ Q pc ls (st) M nc ns := by
  subst hq
  exact fun H locs cells slots lsR hR hS hL h1 h2 => lv_dload hX.1 hX.2.1 d (hL.get hl (by intro h; cases h)) (kk H locs cells slots lsR hR hS hL h1 h2)
theorem gq_aload (hX : Cx E X μ) {i x : Nat} (d : decode μ.2.1 pc = .ok (.aload i, 2)) (hq : pc + 2 = q) (hl : ls[i]? = some (.ref x)) (kk : Gq E X μ Q q ls (.ref x :: st) M nc ns) : Gq E X μ Q pc ls (st) M nc ns := by
  subst hq
  exact fun H locs cells slots lsR hR hS hL h1 h2 => lv_aload hX.1 hX.2.1 d (hL.get hl (by intro h; cases h)) (kk H locs cells slots lsR hR hS hL h1 h2)
theorem gq_iconst (hX : Cx E X μ) {n : Int} {v : Int32} (d : decode μ.2.1 pc = .ok (.iconst n, 1)) (hq : pc + 1 = q) (hv : Int32.ofInt n = v) (kk : Gq E X μ Q q ls (.int v :: st) M nc ns) : Gq E X μ Q pc ls (st) M nc ns := by
  subst hq
  exact fun H locs cells slots lsR hR hS hL h1 h2 => lv_iconst hX.1 hX.2.1 d hv (kk H locs cells slots lsR hR hS hL h1 h2)
theorem gq_bipush (hX : Cx E X μ) {n : Int} {v : Int32} (d : decode μ.2.1 pc = .ok (.bipush n, 2)) (hq : pc + 2 = q) (hv : (Int8.ofInt n).toInt32 = v) (kk : Gq E X μ Q q ls (.int v :: st) M nc ns) : Gq E X μ Q pc ls (st) M nc ns := by
  subst hq
  exact fun H locs cells slots lsR hR hS hL h1 h2 => lv_bipush hX.1 hX.2.1 d hv (kk H locs cells slots lsR hR hS hL h1 h2)
theorem gq_sipush (hX : Cx E X μ) {n : Int} {v : Int32} (d : decode μ.2.1 pc = .ok (.sipush n, 3)) (hq : pc + 3 = q) (hv : (Int16.ofInt n).toInt32 = v) (kk : Gq E X μ Q q ls (.int v :: st) M nc ns) : Gq E X μ Q pc ls (st) M nc ns := by
  subst hq
  exact fun H locs cells slots lsR hR hS hL h1 h2 => lv_sipush hX.1 hX.2.1 d hv (kk H locs cells slots lsR hR hS hL h1 h2)
theorem gq_lconst (hX : Cx E X μ) {n : Fin 2} {v : Int64} (d : decode μ.2.1 pc = .ok (.lconst n, 1)) (hq : pc + 1 = q) (hv : Int64.ofNat (n : Nat) = v) (kk : Gq E X μ Q q ls (.long v :: st) M nc ns) : Gq E X μ Q pc ls (st) M nc ns := by
  subst hq
  exact fun H locs cells slots lsR hR hS hL h1 h2 => lv_lconst hX.1 hX.2.1 d hv (kk H locs cells slots lsR hR hS hL h1 h2)
theorem gq_iadd (hX : Cx E X μ) {x y : Int32} (d : decode μ.2.1 pc = .ok (.iadd, 1)) (hq : pc + 1 = q) (kk : Gq E X μ Q q ls (.int (x + y) :: st) M nc ns) : Gq E X μ Q pc ls (.int y :: .int x :: st) M nc ns := by
  subst hq
  exact fun H locs cells slots lsR hR hS hL h1 h2 => lv_iadd hX.1 hX.2.1 d (kk H locs cells slots lsR hR hS hL h1 h2)
theorem gq_isub (hX : Cx E X μ) {x y : Int32} (d : decode μ.2.1 pc = .ok (.isub, 1)) (hq : pc + 1 = q) (kk : Gq E X μ Q q ls (.int (x - y) :: st) M nc ns) : Gq E X μ Q pc ls (.int y :: .int x :: st) M nc ns := by
  subst hq
  exact fun H locs cells slots lsR hR hS hL h1 h2 => lv_isub hX.1 hX.2.1 d (kk H locs cells slots lsR hR hS hL h1 h2)
theorem gq_imul (hX : Cx E X μ) {x y : Int32} (d : decode μ.2.1 pc = .ok (.imul, 1)) (hq : pc + 1 = q) (kk : Gq E X μ Q q ls (.int (x * y) :: st) M nc ns) : Gq E X μ Q pc ls (.int y :: .int x :: st) M nc ns := by
  subst hq
  exact fun H locs cells slots lsR hR hS hL h1 h2 => lv_imul hX.1 hX.2.1 d (kk H locs cells slots lsR hR hS hL h1 h2)
theorem gq_iand (hX : Cx E X μ) {x y : Int32} (d : decode μ.2.1 pc = .ok (.iand, 1)) (hq : pc + 1 = q) (kk : Gq E X μ Q q ls (.int (x &&& y) :: st) M nc ns) : Gq E X μ Q pc ls (.int y :: .int x :: st) M nc ns := by
  subst hq
  exact fun H locs cells slots lsR hR hS hL h1 h2 => lv_iand hX.1 hX.2.1 d (kk H locs cells slots lsR hR hS hL h1 h2)
theorem gq_ior (hX : Cx E X μ) {x y : Int32} (d : decode μ.2.1 pc = .ok (.ior, 1)) (hq : pc + 1 = q) (kk : Gq E X μ Q q ls (.int (x ||| y) :: st) M nc ns) : Gq E X μ Q pc ls (.int y :: .int x :: st) M nc ns := by
  subst hq
  exact fun H locs cells slots lsR hR hS hL h1 h2 => lv_ior hX.1 hX.2.1 d (kk H locs cells slots lsR hR hS hL h1 h2)
theorem gq_ishl (hX : Cx E X μ) {x y : Int32} (d : decode μ.2.1 pc = .ok (.ishl, 1)) (hq : pc + 1 = q) (kk : Gq E X μ Q q ls (.int (x <<< (y &&& 31)) :: st) M nc ns) : Gq E X μ Q pc ls (.int y :: .int x :: st) M nc ns := by
  subst hq
  exact fun H locs cells slots lsR hR hS hL h1 h2 => lv_ishl hX.1 hX.2.1 d (kk H locs cells slots lsR hR hS hL h1 h2)
theorem gq_ishr (hX : Cx E X μ) {x y : Int32} (d : decode μ.2.1 pc = .ok (.ishr, 1)) (hq : pc + 1 = q) (kk : Gq E X μ Q q ls (.int (x >>> (y &&& 31)) :: st) M nc ns) : Gq E X μ Q pc ls (.int y :: .int x :: st) M nc ns := by
  subst hq
  exact fun H locs cells slots lsR hR hS hL h1 h2 => lv_ishr hX.1 hX.2.1 d (kk H locs cells slots lsR hR hS hL h1 h2)
theorem gq_ineg (hX : Cx E X μ) {x : Int32} (d : decode μ.2.1 pc = .ok (.ineg, 1)) (hq : pc + 1 = q) (kk : Gq E X μ Q q ls (.int (-x) :: st) M nc ns) : Gq E X μ Q pc ls (.int x :: st) M nc ns := by
  subst hq
  exact fun H locs cells slots lsR hR hS hL h1 h2 => lv_ineg hX.1 hX.2.1 d (kk H locs cells slots lsR hR hS hL h1 h2)
theorem gq_idiv (hX : Cx E X μ) {x y : Int32} (d : decode μ.2.1 pc = .ok (.idiv, 1)) (hq : pc + 1 = q) (hne : ¬ y = 0) (kk : Gq E X μ Q q ls (.int (x / y) :: st) M nc ns) : Gq E X μ Q pc ls (.int y :: .int x :: st) M nc ns := by
  subst hq
  exact fun H locs cells slots lsR hR hS hL h1 h2 => lv_idiv hX.1 hX.2.1 d hne (kk H locs cells slots lsR hR hS hL h1 h2)
theorem gq_irem (hX : Cx E X μ) {x y : Int32} (d : decode μ.2.1 pc = .ok (.irem, 1)) (hq : pc + 1 = q) (hne : ¬ y = 0) (kk : Gq E X μ Q q ls (.int (x - x / y * y) :: st) M nc ns) : Gq E X μ Q pc ls (.int y :: .int x :: st) M nc ns := by
  subst hq
  exact fun H locs cells slots lsR hR hS hL h1 h2 => lv_irem hX.1 hX.2.1 d hne (kk H locs cells slots lsR hR hS hL h1 h2)
theorem gq_i2l (hX : Cx E X μ) {x : Int32} (d : decode μ.2.1 pc = .ok (.i2l, 1)) (hq : pc + 1 = q) (kk : Gq E X μ Q q ls (.long x.toInt64 :: st) M nc ns) : Gq E X μ Q pc ls (.int x :: st) M nc ns := by
  subst hq
  exact fun H locs cells slots lsR hR hS hL h1 h2 => lv_i2l hX.1 hX.2.1 d rfl (kk H locs cells slots lsR hR hS hL h1 h2)
theorem gq_i2b (hX : Cx E X μ) {x : Int32} (d : decode μ.2.1 pc = .ok (.i2b, 1)) (hq : pc + 1 = q) (kk : Gq E X μ Q q ls (.int x.toInt8.toInt32 :: st) M nc ns) : Gq E X μ Q pc ls (.int x :: st) M nc ns := by
  subst hq
  exact fun H locs cells slots lsR hR hS hL h1 h2 => lv_i2b hX.1 hX.2.1 d rfl (kk H locs cells slots lsR hR hS hL h1 h2)
theorem gq_i2c (hX : Cx E X μ) {x v : Int32} (d : decode μ.2.1 pc = .ok (.i2c, 1)) (hq : pc + 1 = q) (hv : (x.toUInt32 % 65536).toInt32 = v) (kk : Gq E X μ Q q ls (.int v :: st) M nc ns) : Gq E X μ Q pc ls (.int x :: st) M nc ns := by
  subst hq
  exact fun H locs cells slots lsR hR hS hL h1 h2 => lv_i2c hX.1 hX.2.1 d hv (kk H locs cells slots lsR hR hS hL h1 h2)
theorem gq_i2d (hX : Cx E X μ) {x : Int32} (d : decode μ.2.1 pc = .ok (.i2d, 1)) (hq : pc + 1 = q) (kk : Gq E X μ Q q ls (.double (FP.i2d x) :: st) M nc ns) : Gq E X μ Q pc ls (.int x :: st) M nc ns := by
  subst hq
  exact fun H locs cells slots lsR hR hS hL h1 h2 => lv_i2d hX.1 hX.2.1 d (kk H locs cells slots lsR hR hS hL h1 h2)
theorem gq_i2f (hX : Cx E X μ) {x : Int32} (d : decode μ.2.1 pc = .ok (.i2f, 1)) (hq : pc + 1 = q) (kk : Gq E X μ Q q ls (.float (FP.i2f x) :: st) M nc ns) : Gq E X μ Q pc ls (.int x :: st) M nc ns := by
  subst hq
  exact fun H locs cells slots lsR hR hS hL h1 h2 => lv_i2f hX.1 hX.2.1 d (kk H locs cells slots lsR hR hS hL h1 h2)
theorem gq_ddiv (hX : Cx E X μ) {x y : UInt64} (d : decode μ.2.1 pc = .ok (.ddiv, 1)) (hq : pc + 1 = q) (hne : vf_n64 (FP.ddiv x y)) (kk : Gq E X μ Q q ls (.double (FP.ddiv x y) :: st) M nc ns) : Gq E X μ Q pc ls (.double y :: .double x :: st) M nc ns := by
  subst hq
  exact fun H locs cells slots lsR hR hS hL h1 h2 => lv_ddiv hX.1 hX.2.1 d hne (kk H locs cells slots lsR hR hS hL h1 h2)
theorem gq_fdiv (hX : Cx E X μ) {x y : UInt32} (d : decode μ.2.1 pc = .ok (.fdiv, 1)) (hq : pc + 1 = q) (hne : vf_n32 (FP.fdiv x y)) (kk : Gq E X μ Q q ls (.float (FP.fdiv x y) :: st) M nc ns) : Gq E X μ Q pc ls (.float y :: .float x :: st) M nc ns := by
  subst hq
  exact fun H locs cells slots lsR hR hS hL h1 h2 => lv_fdiv hX.1 hX.2.1 d hne (kk H locs cells slots lsR hR hS hL h1 h2)
theorem gq_f2d (hX : Cx E X μ) {x : UInt32} (d : decode μ.2.1 pc = .ok (.f2d, 1)) (hq : pc + 1 = q) (hne : vf_n64 (FP.f2d x)) (kk : Gq E X μ Q q ls (.double (FP.f2d x) :: st) M nc ns) : Gq E X μ Q pc ls (.float x :: st) M nc ns := by
  subst hq
  exact fun H locs cells slots lsR hR hS hL h1 h2 => lv_f2d hX.1 hX.2.1 d hne (kk H locs cells slots lsR hR hS hL h1 h2)
theorem gq_dcmp (hX : Cx E X μ) {x y : UInt64} {op : CmpOp} (d : decode μ.2.1 pc = .ok (.dcmp op, 1)) (hq : pc + 1 = q) (kk : Gq E X μ Q q ls (.int (Op.cmpValue (FP.dcmp x y) op) :: st) M nc ns) : Gq E X μ Q pc ls (.double y :: .double x :: st) M nc ns := by
  subst hq
  exact fun H locs cells slots lsR hR hS hL h1 h2 => lv_dcmp hX.1 hX.2.1 d (kk H locs cells slots lsR hR hS hL h1 h2)
theorem gq_fcmp (hX : Cx E X μ) {x y : UInt32} {op : CmpOp} (d : decode μ.2.1 pc = .ok (.fcmp op, 1)) (hq : pc + 1 = q) (kk : Gq E X μ Q q ls (.int (Op.cmpValue (FP.fcmp x y) op) :: st) M nc ns) : Gq E X μ Q pc ls (.float y :: .float x :: st) M nc ns := by
  subst hq
  exact fun H locs cells slots lsR hR hS hL h1 h2 => lv_fcmp hX.1 hX.2.1 d (kk H locs cells slots lsR hR hS hL h1 h2)
theorem gq_lcmp (hX : Cx E X μ) {x y : Int64} (d : decode μ.2.1 pc = .ok (.lcmp, 1)) (hq : pc + 1 = q) (kk : Gq E X μ Q q ls (.int (lg_cmp x y) :: st) M nc ns) : Gq E X μ Q pc ls (.long y :: .long x :: st) M nc ns := by
  subst hq
  exact fun H locs cells slots lsR hR hS hL h1 h2 => W.lcmp hX.1 hX.2.1 d (kk H locs cells slots lsR hR hS hL h1 h2)
theorem gq_dup (hX : Cx E X μ) {v : Value} (d : decode μ.2.1 pc = .ok (.dup, 1)) (hq : pc + 1 = q) (hv : v.category = 1) (kk : Gq E X μ Q q ls (v :: v :: st) M nc ns) : Gq E X μ Q pc ls (v :: st) M nc ns := by
  subst hq
  exact fun H locs cells slots lsR hR hS hL h1 h2 => lv_dup hX.1 hX.2.1 d hv (kk H locs cells slots lsR hR hS hL h1 h2)
theorem gq_pop (hX : Cx E X μ) {v : Value} (d : decode μ.2.1 pc = .ok (.pop, 1)) (hq : pc + 1 = q) (hv : v.category = 1) (kk : Gq E X μ Q q ls (st) M nc ns) : Gq E X μ Q pc ls (v :: st) M nc ns := by
  subst hq
  exact fun H locs cells slots lsR hR hS hL h1 h2 => lv_pop hX.1 hX.2.1 d hv (kk H locs cells slots lsR hR hS hL h1 h2)
theorem gq_dup_x1 (hX : Cx E X μ) {v w : Value} (d : decode μ.2.1 pc = .ok (.dup_x1, 1)) (hq : pc + 1 = q) (hv : v.category = 1) (hw : w.category = 1) (kk : Gq E X μ Q q ls (v :: w :: v :: st) M nc ns) : Gq E X μ Q pc ls (v :: w :: st) M nc ns := by
  subst hq
  exact fun H locs cells slots lsR hR hS hL h1 h2 => lv_dup_x1 hX.1 hX.2.1 d hv hw (kk H locs cells slots lsR hR hS hL h1 h2)
theorem gq_dup2 (hX : Cx E X μ) {v w : Value} (d : decode μ.2.1 pc = .ok (.dup2, 1)) (hq : pc + 1 = q) (hv : v.category = 1) (hw : w.category = 1) (kk : Gq E X μ Q q ls (v :: w :: v :: w :: st) M nc ns) : Gq E X μ Q pc ls (v :: w :: st) M nc ns := by
  subst hq
  exact fun H locs cells slots lsR hR hS hL h1 h2 => lv_dup2_11 hX.1 hX.2.1 d hv hw (kk H locs cells slots lsR hR hS hL h1 h2)
theorem gq_if_eq (hX : Cx E X μ) {x : Int32} {off : Int} {tgt : Nat} (d : decode μ.2.1 pc = .ok (.ifCond .eq off, 3)) (hq : pc + 3 = q) (ht : (pc : Int) + off = (tgt : Int)) (kt : x = 0 → Gq E X μ Q tgt ls st M nc ns) (kf : ¬ x = 0 → Gq E X μ Q q ls st M nc ns) : Gq E X μ Q pc ls (.int x :: st) M nc ns := by
  subst hq
  exact fun H locs cells slots lsR hR hS hL h1 h2 => lv_if_eq hX.1 hX.2.1 d ht (fun z => kt z H locs cells slots lsR hR hS hL h1 h2) (fun z => kf z H locs cells slots lsR hR hS hL h1 h2)
theorem gq_if_eqT (hX : Cx E X μ) {x : Int32} {off : Int} {tgt : Nat} (d : decode μ.2.1 pc = .ok (.ifCond .eq off, 3)) (ht : (pc : Int) + off = (tgt : Int)) (h : x = 0) (kt : Gq E X μ Q tgt ls st M nc ns) : Gq E X μ Q pc ls (.int x :: st) M nc ns :=
  gq_if_eq hX d rfl ht (fun _ => kt) (fun z => absurd h (by first | exact z | exact fun w => w z))
theorem gq_if_eqF (hX : Cx E X μ) {x : Int32} {off : Int} (d : decode μ.2.1 pc = .ok (.ifCond .eq off, 3)) (hq : pc + 3 = q) {tgt : Nat} (ht : (pc : Int) + off = (tgt : Int)) (h : ¬ x = 0) (kf : Gq E X μ Q q ls st M nc ns) : Gq E X μ Q pc ls (.int x :: st) M nc ns :=
  gq_if_eq hX d hq ht (fun z => absurd h (by first | exact z | exact fun w => w z)) (fun _ => kf)
theorem gq_icmp_eq (hX : Cx E X μ) {x y : Int32} {off : Int} {tgt : Nat} (d : decode μ.2.1 pc = .ok (.if_icmp .eq off, 3)) (hq : pc + 3 = q) (ht : (pc : Int) + off = (tgt : Int)) (kt : x = y → Gq E X μ Q tgt ls st M nc ns) (kf : ¬ x = y → Gq E X μ Q q ls st M nc ns) : Gq E X μ Q pc ls (.int y :: .int x :: st) M nc ns := by
  subst hq
  exact fun H locs cells slots lsR hR hS hL h1 h2 => lv_icmp_eq hX.1 hX.2.1 d ht (fun z => kt z H locs cells slots lsR hR hS hL h1 h2) (fun z => kf z H locs cells slots lsR hR hS hL h1 h2)
theorem gq_icmp_eqT (hX : Cx E X μ) {x y : Int32} {off : Int} {tgt : Nat} (d : decode μ.2.1 pc = .ok (.if_icmp .eq off, 3)) (ht : (pc : Int) + off = (tgt : Int)) (h : x = y) (kt : Gq E X μ Q tgt ls st M nc ns) : Gq E X μ Q pc ls (.int y :: .int x :: st) M nc ns :=
  gq_icmp_eq hX d rfl ht (fun _ => kt) (fun z => absurd h (by first | exact z | exact fun w => w z))
theorem gq_icmp_eqF (hX : Cx E X μ) {x y : Int32} {off : Int} (d : decode μ.2.1 pc = .ok (.if_icmp .eq off, 3)) (hq : pc + 3 = q) {tgt : Nat} (ht : (pc : Int) + off = (tgt : Int)) (h : ¬ x = y) (kf : Gq E X μ Q q ls st M nc ns) : Gq E X μ Q pc ls (.int y :: .int x :: st) M nc ns :=
  gq_icmp_eq hX d hq ht (fun z => absurd h (by first | exact z | exact fun w => w z)) (fun _ => kf)
theorem gq_if_ne (hX : Cx E X μ) {x : Int32} {off : Int} {tgt : Nat} (d : decode μ.2.1 pc = .ok (.ifCond .ne off, 3)) (hq : pc + 3 = q) (ht : (pc : Int) + off = (tgt : Int)) (kt : ¬ x = 0 → Gq E X μ Q tgt ls st M nc ns) (kf : x = 0 → Gq E X μ Q q ls st M nc ns) : Gq E X μ Q pc ls (.int x :: st) M nc ns := by
  subst hq
  exact fun H locs cells slots lsR hR hS hL h1 h2 => lv_if_ne hX.1 hX.2.1 d ht (fun z => kt z H locs cells slots lsR hR hS hL h1 h2) (fun z => kf z H locs cells slots lsR hR hS hL h1 h2)
theorem gq_if_neT (hX : Cx E X μ) {x : Int32} {off : Int} {tgt : Nat} (d : decode μ.2.1 pc = .ok (.ifCond .ne off, 3)) (ht : (pc : Int) + off = (tgt : Int)) (h : ¬ x = 0) (kt : Gq E X μ Q tgt ls st M nc ns) : Gq E X μ Q pc ls (.int x :: st) M nc ns :=
  gq_if_ne hX d rfl ht (fun _ => kt) (fun z => absurd h (by first | exact z | exact fun w => w z))
theorem gq_if_neF (hX : Cx E X μ) {x : Int32} {off : Int} (d : decode μ.2.1 pc = .ok (.ifCond .ne off, 3)) (hq : pc + 3 = q) {tgt : Nat} (ht : (pc : Int) + off = (tgt : Int)) (h : x = 0) (kf : Gq E X μ Q q ls st M nc ns) : Gq E X μ Q pc ls (.int x :: st) M nc ns :=
  gq_if_ne hX d hq ht (fun z => absurd h (by first | exact z | exact fun w => w z)) (fun _ => kf)
theorem gq_icmp_ne (hX : Cx E X μ) {x y : Int32} {off : Int} {tgt : Nat} (d : decode μ.2.1 pc = .ok (.if_icmp .ne off, 3)) (hq : pc + 3 = q) (ht : (pc : Int) + off = (tgt : Int)) (kt : ¬ x = y → Gq E X μ Q tgt ls st M nc ns) (kf : x = y → Gq E X μ Q q ls st M nc ns) : Gq E X μ Q pc ls (.int y :: .int x :: st) M nc ns := by
  subst hq
  exact fun H locs cells slots lsR hR hS hL h1 h2 => lv_icmp_ne hX.1 hX.2.1 d ht (fun z => kt z H locs cells slots lsR hR hS hL h1 h2) (fun z => kf z H locs cells slots lsR hR hS hL h1 h2)
theorem gq_icmp_neT (hX : Cx E X μ) {x y : Int32} {off : Int} {tgt : Nat} (d : decode μ.2.1 pc = .ok (.if_icmp .ne off, 3)) (ht : (pc : Int) + off = (tgt : Int)) (h : ¬ x = y) (kt : Gq E X μ Q tgt ls st M nc ns) : Gq E X μ Q pc ls (.int y :: .int x :: st) M nc ns :=
  gq_icmp_ne hX d rfl ht (fun _ => kt) (fun z => absurd h (by first | exact z | exact fun w => w z))
theorem gq_icmp_neF (hX : Cx E X μ) {x y : Int32} {off : Int} (d : decode μ.2.1 pc = .ok (.if_icmp .ne off, 3)) (hq : pc + 3 = q) {tgt : Nat} (ht : (pc : Int) + off = (tgt : Int)) (h : x = y) (kf : Gq E X μ Q q ls st M nc ns) : Gq E X μ Q pc ls (.int y :: .int x :: st) M nc ns :=
  gq_icmp_ne hX d hq ht (fun z => absurd h (by first | exact z | exact fun w => w z)) (fun _ => kf)
theorem gq_if_lt (hX : Cx E X μ) {x : Int32} {off : Int} {tgt : Nat} (d : decode μ.2.1 pc = .ok (.ifCond .lt off, 3)) (hq : pc + 3 = q) (ht : (pc : Int) + off = (tgt : Int)) (kt : x < 0 → Gq E X μ Q tgt ls st M nc ns) (kf : ¬ x < 0 → Gq E X μ Q q ls st M nc ns) : Gq E X μ Q pc ls (.int x :: st) M nc ns := by
  subst hq
  exact fun H locs cells slots lsR hR hS hL h1 h2 => lv_if_lt hX.1 hX.2.1 d ht (fun z => kt z H locs cells slots lsR hR hS hL h1 h2) (fun z => kf z H locs cells slots lsR hR hS hL h1 h2)
theorem gq_if_ltT (hX : Cx E X μ) {x : Int32} {off : Int} {tgt : Nat} (d : decode μ.2.1 pc = .ok (.ifCond .lt off, 3)) (ht : (pc : Int) + off = (tgt : Int)) (h : x < 0) (kt : Gq E X μ Q tgt ls st M nc ns) : Gq E X μ Q pc ls (.int x :: st) M nc ns :=
  gq_if_lt hX d rfl ht (fun _ => kt) (fun z => absurd h (by first | exact z | exact fun w => w z))
theorem gq_if_ltF (hX : Cx E X μ) {x : Int32} {off : Int} (d : decode μ.2.1 pc = .ok (.ifCond .lt off, 3)) (hq : pc + 3 = q) {tgt : Nat} (ht : (pc : Int) + off = (tgt : Int)) (h : ¬ x < 0) (kf : Gq E X μ Q q ls st M nc ns) : Gq E X μ Q pc ls (.int x :: st) M nc ns :=
  gq_if_lt hX d hq ht (fun z => absurd h (by first | exact z | exact fun w => w z)) (fun _ => kf)
theorem gq_icmp_lt (hX : Cx E X μ) {x y : Int32} {off : Int} {tgt : Nat} (d : decode μ.2.1 pc = .ok (.if_icmp .lt off, 3)) (hq : pc + 3 = q) (ht : (pc : Int) + off = (tgt : Int)) (kt : x < y → Gq E X μ Q tgt ls st M nc ns) (kf : ¬ x < y → Gq E X μ Q q ls st M nc ns) : Gq E X μ Q pc ls (.int y :: .int x :: st) M nc ns := by
  subst hq
  exact fun H locs cells slots lsR hR hS hL h1 h2 => lv_icmp_lt hX.1 hX.2.1 d ht (fun z => kt z H locs cells slots lsR hR hS hL h1 h2) (fun z => kf z H locs cells slots lsR hR hS hL h1 h2)
theorem gq_icmp_ltT (hX : Cx E X μ) {x y : Int32} {off : Int} {tgt : Nat} (d : decode μ.2.1 pc = .ok (.if_icmp .lt off, 3)) (ht : (pc : Int) + off = (tgt : Int)) (h : x < y) (kt : Gq E X μ Q tgt ls st M nc ns) : Gq E X μ Q pc ls (.int y :: .int x :: st) M nc ns :=
  gq_icmp_lt hX d rfl ht (fun _ => kt) (fun z => absurd h (by first | exact z | exact fun w => w z))
theorem gq_icmp_ltF (hX : Cx E X μ) {x y : Int32} {off : Int} (d : decode μ.2.1 pc = .ok (.if_icmp .lt off, 3)) (hq : pc + 3 = q) {tgt : Nat} (ht : (pc : Int) + off = (tgt : Int)) (h : ¬ x < y) (kf : Gq E X μ Q q ls st M nc ns) : Gq E X μ Q pc ls (.int y :: .int x :: st) M nc ns :=
  gq_icmp_lt hX d hq ht (fun z => absurd h (by first | exact z | exact fun w => w z)) (fun _ => kf)
theorem gq_if_ge (hX : Cx E X μ) {x : Int32} {off : Int} {tgt : Nat} (d : decode μ.2.1 pc = .ok (.ifCond .ge off, 3)) (hq : pc + 3 = q) (ht : (pc : Int) + off = (tgt : Int)) (kt : 0 ≤ x → Gq E X μ Q tgt ls st M nc ns) (kf : ¬ 0 ≤ x → Gq E X μ Q q ls st M nc ns) : Gq E X μ Q pc ls (.int x :: st) M nc ns := by
  subst hq
  exact fun H locs cells slots lsR hR hS hL h1 h2 => lv_if_ge hX.1 hX.2.1 d ht (fun z => kt z H locs cells slots lsR hR hS hL h1 h2) (fun z => kf z H locs cells slots lsR hR hS hL h1 h2)
theorem gq_if_geT (hX : Cx E X μ) {x : Int32} {off : Int} {tgt : Nat} (d : decode μ.2.1 pc = .ok (.ifCond .ge off, 3)) (ht : (pc : Int) + off = (tgt : Int)) (h : 0 ≤ x) (kt : Gq E X μ Q tgt ls st M nc ns) : Gq E X μ Q pc ls (.int x :: st) M nc ns :=
  gq_if_ge hX d rfl ht (fun _ => kt) (fun z => absurd h (by first | exact z | exact fun w => w z))
theorem gq_if_geF (hX : Cx E X μ) {x : Int32} {off : Int} (d : decode μ.2.1 pc = .ok (.ifCond .ge off, 3)) (hq : pc + 3 = q) {tgt : Nat} (ht : (pc : Int) + off = (tgt : Int)) (h : ¬ 0 ≤ x) (kf : Gq E X μ Q q ls st M nc ns) : Gq E X μ Q pc ls (.int x :: st) M nc ns :=
  gq_if_ge hX d hq ht (fun z => absurd h (by first | exact z | exact fun w => w z)) (fun _ => kf)
theorem gq_icmp_ge (hX : Cx E X μ) {x y : Int32} {off : Int} {tgt : Nat} (d : decode μ.2.1 pc = .ok (.if_icmp .ge off, 3)) (hq : pc + 3 = q) (ht : (pc : Int) + off = (tgt : Int)) (kt : y ≤ x → Gq E X μ Q tgt ls st M nc ns) (kf : ¬ y ≤ x → Gq E X μ Q q ls st M nc ns) : Gq E X μ Q pc ls (.int y :: .int x :: st) M nc ns := by
  subst hq
  exact fun H locs cells slots lsR hR hS hL h1 h2 => lv_icmp_ge hX.1 hX.2.1 d ht (fun z => kt z H locs cells slots lsR hR hS hL h1 h2) (fun z => kf z H locs cells slots lsR hR hS hL h1 h2)
theorem gq_icmp_geT (hX : Cx E X μ) {x y : Int32} {off : Int} {tgt : Nat} (d : decode μ.2.1 pc = .ok (.if_icmp .ge off, 3)) (ht : (pc : Int) + off = (tgt : Int)) (h : y ≤ x) (kt : Gq E X μ Q tgt ls st M nc ns) : Gq E X μ Q pc ls (.int y :: .int x :: st) M nc ns :=
  gq_icmp_ge hX d rfl ht (fun _ => kt) (fun z => absurd h (by first | exact z | exact fun w => w z))
theorem gq_icmp_geF (hX : Cx E X μ) {x y : Int32} {off : Int} (d : decode μ.2.1 pc = .ok (.if_icmp .ge off, 3)) (hq : pc + 3 = q) {tgt : Nat} (ht : (pc : Int) + off = (tgt : Int)) (h : ¬ y ≤ x) (kf : Gq E X μ Q q ls st M nc ns) : Gq E X μ Q pc ls (.int y :: .int x :: st) M nc ns :=
  gq_icmp_ge hX d hq ht (fun z => absurd h (by first | exact z | exact fun w => w z)) (fun _ => kf)
theorem gq_if_gt (hX : Cx E X μ) {x : Int32} {off : Int} {tgt : Nat} (d : decode μ.2.1 pc = .ok (.ifCond .gt off, 3)) (hq : pc + 3 = q) (ht : (pc : Int) + off = (tgt : Int)) (kt : 0 < x → Gq E X μ Q tgt ls st M nc ns) (kf : ¬ 0 < x → Gq E X μ Q q ls st M nc ns) : Gq E X μ Q pc ls (.int x :: st) M nc ns := by
  subst hq
  exact fun H locs cells slots lsR hR hS hL h1 h2 => lv_if_gt hX.1 hX.2.1 d ht (fun z => kt z H locs cells slots lsR hR hS hL h1 h2) (fun z => kf z H locs cells slots lsR hR hS hL h1 h2)
theorem gq_if_gtT (hX : Cx E X μ) {x : Int32} {off : Int} {tgt : Nat} (d : decode μ.2.1 pc = .ok (.ifCond .gt off, 3)) (ht : (pc : Int) + off = (tgt : Int)) (h : 0 < x) (kt : Gq E X μ Q tgt ls st M nc ns) : Gq E X μ Q pc ls (.int x :: st) M nc ns :=
  gq_if_gt hX d rfl ht (fun _ => kt) (fun z => absurd h (by first | exact z | exact fun w => w z))
theorem gq_if_gtF (hX : Cx E X μ) {x : Int32} {off : Int} (d : decode μ.2.1 pc = .ok (.ifCond .gt off, 3)) (hq : pc + 3 = q) {tgt : Nat} (ht : (pc : Int) + off = (tgt : Int)) (h : ¬ 0 < x) (kf : Gq E X μ Q q ls st M nc ns) : Gq E X μ Q pc ls (.int x :: st) M nc ns :=
  gq_if_gt hX d hq ht (fun z => absurd h (by first | exact z | exact fun w => w z)) (fun _ => kf)
theorem gq_icmp_gt (hX : Cx E X μ) {x y : Int32} {off : Int} {tgt : Nat} (d : decode μ.2.1 pc = .ok (.if_icmp .gt off, 3)) (hq : pc + 3 = q) (ht : (pc : Int) + off = (tgt : Int)) (kt : y < x → Gq E X μ Q tgt ls st M nc ns) (kf : ¬ y < x → Gq E X μ Q q ls st M nc ns) : Gq E X μ Q pc ls (.int y :: .int x :: st) M nc ns := by
  subst hq
  exact fun H locs cells slots lsR hR hS hL h1 h2 => lv_icmp_gt hX.1 hX.2.1 d ht (fun z => kt z H locs cells slots lsR hR hS hL h1 h2) (fun z => kf z H locs cells slots lsR hR hS hL h1 h2)
theorem gq_icmp_gtT (hX : Cx E X μ) {x y : Int32} {off : Int} {tgt : Nat} (d : decode μ.2.1 pc = .ok (.if_icmp .gt off, 3)) (ht : (pc : Int) + off = (tgt : Int)) (h : y < x) (kt : Gq E X μ Q tgt ls st M nc ns) : Gq E X μ Q pc ls (.int y :: .int x :: st) M nc ns :=
  gq_icmp_gt hX d rfl ht (fun _ => kt) (fun z => absurd h (by first | exact z | exact fun w => w z))
theorem gq_icmp_gtF (hX : Cx E X μ) {x y : Int32} {off : Int} (d : decode μ.2.1 pc = .ok (.if_icmp .gt off, 3)) (hq : pc + 3 = q) {tgt : Nat} (ht : (pc : Int) + off = (tgt : Int)) (h : ¬ y < x) (kf : Gq E X μ Q q ls st M nc ns) : Gq E X μ Q pc ls (.int y :: .int x :: st) M nc ns :=
  gq_icmp_gt hX d hq ht (fun z => absurd h (by first | exact z | exact fun w => w z)) (fun _ => kf)
theorem gq_if_le (hX : Cx E X μ) {x : Int32} {off : Int} {tgt : Nat} (d : decode μ.2.1 pc = .ok (.ifCond .le off, 3)) (hq : pc + 3 = q) (ht : (pc : Int) + off = (tgt : Int)) (kt : x ≤ 0 → Gq E X μ Q tgt ls st M nc ns) (kf : ¬ x ≤ 0 → Gq E X μ Q q ls st M nc ns) : Gq E X μ Q pc ls (.int x :: st) M nc ns := by
  subst hq
  exact fun H locs cells slots lsR hR hS hL h1 h2 => lv_if_le hX.1 hX.2.1 d ht (fun z => kt z H locs cells slots lsR hR hS hL h1 h2) (fun z => kf z H locs cells slots lsR hR hS hL h1 h2)
theorem gq_if_leT (hX : Cx E X μ) {x : Int32} {off : Int} {tgt : Nat} (d : decode μ.2.1 pc = .ok (.ifCond .le off, 3)) (ht : (pc : Int) + off = (tgt : Int)) (h : x ≤ 0) (kt : Gq E X μ Q tgt ls st M nc ns) : Gq E X μ Q pc ls (.int x :: st) M nc ns :=
  gq_if_le hX d rfl ht (fun _ => kt) (fun z => absurd h (by first | exact z | exact fun w => w z))
theorem gq_if_leF (hX : Cx E X μ) {x : Int32} {off : Int} (d : decode μ.2.1 pc = .ok (.ifCond .le off, 3)) (hq : pc + 3 = q) {tgt : Nat} (ht : (pc : Int) + off = (tgt : Int)) (h : ¬ x ≤ 0) (kf : Gq E X μ Q q ls st M nc ns) : Gq E X μ Q pc ls (.int x :: st) M nc ns :=
  gq_if_le hX d hq ht (fun z => absurd h (by first | exact z | exact fun w => w z)) (fun _ => kf)
theorem gq_icmp_le (hX : Cx E X μ) {x y : Int32} {off : Int} {tgt : Nat} (d : decode μ.2.1 pc = .ok (.if_icmp .le off, 3)) (hq : pc + 3 = q) (ht : (pc : Int) + off = (tgt : Int)) (kt : x ≤ y → Gq E X μ Q tgt ls st M nc ns) (kf : ¬ x ≤ y → Gq E X μ Q q ls st M nc ns) : Gq E X μ Q pc ls (.int y :: .int x :: st) M nc ns := by
  subst hq
  exact fun H locs cells slots lsR hR hS hL h1 h2 => lv_icmp_le hX.1 hX.2.1 d ht (fun z => kt z H locs cells slots lsR hR hS hL h1 h2) (fun z => kf z H locs cells slots lsR hR hS hL h1 h2)
theorem gq_icmp_leT (hX : Cx E X μ) {x y : Int32} {off : Int} {tgt : Nat} (d : decode μ.2.1 pc = .ok (.if_icmp .le off, 3)) (ht : (pc : Int) + off = (tgt : Int)) (h : x ≤ y) (kt : Gq E X μ Q tgt ls st M nc ns) : Gq E X μ Q pc ls (.int y :: .int x :: st) M nc ns :=
  gq_icmp_le hX d rfl ht (fun _ => kt) (fun z => absurd h (by first | exact z | exact fun w => w z))
theorem gq_icmp_leF (hX : Cx E X μ) {x y : Int32} {off : Int} (d : decode μ.2.1 pc = .ok (.if_icmp .le off, 3)) (hq : pc + 3 = q) {tgt : Nat} (ht : (pc : Int) + off = (tgt : Int)) (h : ¬ x ≤ y) (kf : Gq E X μ Q q ls st M nc ns) : Gq E X μ Q pc ls (.int y :: .int x :: st) M nc ns :=
  gq_icmp_le hX d hq ht (fun z => absurd h (by first | exact z | exact fun w => w z)) (fun _ => kf)
theorem gq_goto (hX : Cx E X μ) {off : Int} {tgt : Nat} (d : decode μ.2.1 pc = .ok (.goto off, 3)) (ht : (pc : Int) + off = (tgt : Int)) (kk : Gq E X μ Q tgt ls st M nc ns) : Gq E X μ Q pc ls st M nc ns :=
  fun H locs cells slots lsR hR hS hL h1 h2 => lv_goto hX.1 hX.2.1 d ht (kk H locs cells slots lsR hR hS hL h1 h2)
theorem gq_ifnull (hX : Cx E X μ) {x : Nat} {off : Int} (d : decode μ.2.1 pc = .ok (.ifnull off, 3)) (hq : pc + 3 = q) (kk : Gq E X μ Q q ls st M nc ns) : Gq E X μ Q pc ls (.ref x :: st) M nc ns := by
  subst hq
  exact fun H locs cells slots lsR hR hS hL h1 h2 => lv_ifnull hX.1 hX.2.1 d (kk H locs cells slots lsR hR hS hL h1 h2)
theorem gq_tableOut (hX : Cx E X μ) {dflt lo hi : Int} {offs : Array Int} {len : Nat} {x : Int32} {tgt : Nat} (d : decode μ.2.1 pc = .ok (.tableswitch dflt lo hi offs, len)) (h : x.toInt < lo ∨ hi < x.toInt) (ht : (pc : Int) + dflt = (tgt : Int)) (kk : Gq E X μ Q tgt ls st M nc ns) : Gq E X μ Q pc ls (.int x :: st) M nc ns :=
  fun H locs cells slots lsR hR hS hL h1 h2 => lv_tableOut hX.1 hX.2.1 d h ht (kk H locs cells slots lsR hR hS hL h1 h2)
theorem gq_tableIn (hX : Cx E X μ) {dflt lo hi : Int} {offs : Array Int} {len : Nat} {x : Int32} {off : Int} {tgt : Nat} (d : decode μ.2.1 pc = .ok (.tableswitch dflt lo hi offs, len)) (g1 : ¬ x.toInt < lo) (g2 : ¬ hi < x.toInt) (ho : offs[(x.toInt - lo).toNat]? = some off) (ht : (pc : Int) + off = (tgt : Int)) (kk : Gq E X μ Q tgt ls st M nc ns) : Gq E X μ Q pc ls (.int x :: st) M nc ns :=
  fun H locs cells slots lsR hR hS hL h1 h2 => lv_tableIn hX.1 hX.2.1 d g1 g2 ho ht (kk H locs cells slots lsR hR hS hL h1 h2)
theorem gq_lookup (hX : Cx E X μ) {dflt : Int} {ps : Array (Int × Int)} {len : Nat} {x : Int32} {off : Int} {tgt : Nat} (d : decode μ.2.1 pc = .ok (.lookupswitch dflt ps, len)) (hp : (ps.toList.zip (ps.toList.drop 1)).all (fun (a, next) => a.1 < next.1) = true) (ho : Op.lookupswitch.offset ps.toList dflt x.toInt = off) (ht : (pc : Int) + off = (tgt : Int)) (kk : Gq E X μ Q tgt ls st M nc ns) : Gq E X μ Q pc ls (.int x :: st) M nc ns :=
  fun H locs cells slots lsR hR hS hL h1 h2 => lv_lookup hX.1 hX.2.1 d hp ho ht (kk H locs cells slots lsR hR hS hL h1 h2)
/-- the listed locals of a list -/
def lvL (ls : List Value) : List (Nat × Value) := (ls.zipIdx.filter (fun x => !(x.1 == hole))).map (fun x => (x.2, x.1))
theorem lvL_mem {ls : List Value} {i : Nat} {v : Value} : (i, v) ∈ lvL ls ↔ ls[i]? = some v ∧ v ≠ hole := by
  unfold lvL
  constructor
  · intro h
    obtain ⟨⟨w, j⟩, h1, h2⟩ := List.mem_map.mp h
    cases h2
    obtain ⟨h3, h4⟩ := List.mem_filter.mp h1
    refine ⟨?_, by simpa using h4⟩
    have h5 := List.mem_zipIdx h3
    rw [List.getElem?_eq_getElem (by omega)]
    simp [h5.2.2]
  · rintro ⟨h1, h2⟩
    refine List.mem_map.mpr ⟨(v, i), List.mem_filter.mpr ⟨?_, by simpa using h2⟩, rfl⟩
    exact List.mk_mem_zipIdx_iff_getElem?.mpr h1
theorem lvP.has {lsR : Array Slot} {nL : Nat} {ls : List Value} (h : lvP lsR nL ls) : lv_has lsR nL (lvL ls) := ⟨h.1, h.2.1, fun x hx => h.2.2 x.1 x.2 (lvL_mem.mp hx).1 (lvL_mem.mp hx).2⟩
def catOK (ls : List Value) : Nat → Bool
  | 0 => true
  | i + 1 => match ls[i]? with
    | some v => v.category == 1
    | none => true
theorem lvP.of1 {lsR : Array Slot} {nL i : Nat} {ls : List Value} {v : Value} (hc : catOK ls i = true) (h : lv_has lsR nL ((i, v) :: (lvL ls).filter (fun q => !(q.1 == i) && !(q.1 + 1 == i && q.2.category == 2)))) : lvP lsR nL (ls.set i v) := by
  refine ⟨h.1, h.2.1, fun j w hw hn => ?_⟩
  by_cases hj : j = i
  · subst hj
    have h3 := List.getElem?_set (l := ls) (i := j) (j := j) (a := v)
    rw [h3] at hw
    simp only [if_true] at hw
    split at hw
    · cases hw
      exact h.2.2 (j, v) List.mem_cons_self
    · cases hw
  · rw [List.getElem?_set_ne (Ne.symm hj)] at hw
    refine h.2.2 (j, w) (List.mem_cons_of_mem _ (List.mem_filter.mpr ⟨lvL_mem.mpr ⟨hw, hn⟩, ?_⟩))
    have e1 : (j == i) = false := by simpa using hj
    by_cases hj1 : j + 1 = i
    · subst hj1
      have h4 : (w.category == 1) = true := by
        simpa only [catOK, hw] using hc
      have h5 : w.category = 1 := by simpa using h4
      simp [h5]
    · have e2 : (j + 1 == i) = false := by simpa using hj1
      simp [e1, e2]
theorem lvP.of2 {lsR : Array Slot} {nL i : Nat} {ls : List Value} {v : Value} (hc : catOK ls i = true) (h : lv_has lsR nL ((i, v) :: (lvL ls).filter (fun q => !(q.1 == i) && (!(q.1 == i + 1) && !(q.1 + 1 == i && q.2.category == 2))))) : lvP lsR nL ((ls.set i v).set (i + 1) hole) := by
  refine ⟨h.1, h.2.1, fun j w hw hn => ?_⟩
  by_cases hk : j = i + 1
  · subst hk
    rw [List.getElem?_set] at hw
    simp only [if_true] at hw
    split at hw
    · cases hw
      exact absurd rfl hn
    · cases hw
  rw [List.getElem?_set_ne (Ne.symm hk)] at hw
  by_cases hj : j = i
  · subst hj
    rw [List.getElem?_set] at hw
    simp only [if_true] at hw
    split at hw
    · cases hw
      exact h.2.2 (j, v) List.mem_cons_self
    · cases hw
  · rw [List.getElem?_set_ne (Ne.symm hj)] at hw
    refine h.2.2 (j, w) (List.mem_cons_of_mem _ (List.mem_filter.mpr ⟨lvL_mem.mpr ⟨hw, hn⟩, ?_⟩))
    have e1 : (j == i) = false := by simpa using hj
    have e3 : (j == i + 1) = false := by simpa using hk
    by_cases hj1 : j + 1 = i
    · subst hj1
      have h4 : (w.category == 1) = true := by
        simpa only [catOK, hw] using hc
      have h5 : w.category = 1 := by simpa using h4
      simp [h5, e1, e3]
    · have e2 : (j + 1 == i) = false := by simpa using hj1
      simp [e1, e2, e3]
theorem gq_istore_n (hX : Cx E X μ) {k : Fin 4} {i : Nat} {x : Int32} (d : decode μ.2.1 pc = .ok (.istore_n k, 1)) (hq : pc + 1 = q) (hi : (k : Nat) = i) (hn : i < μ.2.2.1) (hc : catOK ls i = true) (kk : Gq E X μ Q q (ls.set i (.int x)) st M nc ns) : Gq E X μ Q pc ls (.int x :: st) M nc ns := by
  subst hq
  exact fun H locs cells slots lsR hR hS hL h1 h2 => lv_istore_n hX.1 hX.2.1 d hi hL.has hn rfl (fun ls' hl => kk H locs cells slots ls' hR hS (lvP.of1 hc hl) h1 h2)
theorem gq_istore (hX : Cx E X μ) {i : Nat} {x : Int32} (d : decode μ.2.1 pc = .ok (.istore i, 2)) (hq : pc + 2 = q) (hn : i < μ.2.2.1) (hc : catOK ls i = true) (kk : Gq E X μ Q q (ls.set i (.int x)) st M nc ns) : Gq E X μ Q pc ls (.int x :: st) M nc ns := by
  subst hq
  exact fun H locs cells slots lsR hR hS hL h1 h2 => lv_istore hX.1 hX.2.1 d hL.has hn rfl (fun ls' hl => kk H locs cells slots ls' hR hS (lvP.of1 hc hl) h1 h2)
theorem gq_fstore_n (hX : Cx E X μ) {k : Fin 4} {i : Nat} {x : UInt32} (d : decode μ.2.1 pc = .ok (.fstore_n k, 1)) (hq : pc + 1 = q) (hi : (k : Nat) = i) (hn : i < μ.2.2.1) (hc : catOK ls i = true) (kk : Gq E X μ Q q (ls.set i (.float x)) st M nc ns) : Gq E X μ Q pc ls (.float x :: st) M nc ns := by
  subst hq
  exact fun H locs cells slots lsR hR hS hL h1 h2 => lv_fstore_n hX.1 hX.2.1 d hi hL.has hn rfl (fun ls' hl => kk H locs cells slots ls' hR hS (lvP.of1 hc hl) h1 h2)
theorem gq_fstore (hX : Cx E X μ) {i : Nat} {x : UInt32} (d : decode μ.2.1 pc = .ok (.fstore i, 2)) (hq : pc + 2 = q) (hn : i < μ.2.2.1) (hc : catOK ls i = true) (kk : Gq E X μ Q q (ls.set i (.float x)) st M nc ns) : Gq E X μ Q pc ls (.float x :: st) M nc ns := by
  subst hq
  exact fun H locs cells slots lsR hR hS hL h1 h2 => lv_fstore hX.1 hX.2.1 d hL.has hn rfl (fun ls' hl => kk H locs cells slots ls' hR hS (lvP.of1 hc hl) h1 h2)
theorem gq_astore_n (hX : Cx E X μ) {k : Fin 4} {i : Nat} {x : Nat} (d : decode μ.2.1 pc = .ok (.astore_n k, 1)) (hq : pc + 1 = q) (hi : (k : Nat) = i) (hn : i < μ.2.2.1) (hc : catOK ls i = true) (kk : Gq E X μ Q q (ls.set i (.ref x)) st M nc ns) : Gq E X μ Q pc ls (.ref x :: st) M nc ns := by
  subst hq
  exact fun H locs cells slots lsR hR hS hL h1 h2 => lv_astore_n hX.1 hX.2.1 d hi hL.has hn rfl (fun ls' hl => kk H locs cells slots ls' hR hS (lvP.of1 hc hl) h1 h2)
theorem gq_astore (hX : Cx E X μ) {i : Nat} {x : Nat} (d : decode μ.2.1 pc = .ok (.astore i, 2)) (hq : pc + 2 = q) (hn : i < μ.2.2.1) (hc : catOK ls i = true) (kk : Gq E X μ Q q (ls.set i (.ref x)) st M nc ns) : Gq E X μ Q pc ls (.ref x :: st) M nc ns := by
  subst hq
  exact fun H locs cells slots lsR hR hS hL h1 h2 => lv_astore hX.1 hX.2.1 d hL.has hn rfl (fun ls' hl => kk H locs cells slots ls' hR hS (lvP.of1 hc hl) h1 h2)
theorem gq_dstore (hX : Cx E X μ) {i : Nat} {x : UInt64} (d : decode μ.2.1 pc = .ok (.dstore i, 2)) (hq : pc + 2 = q) (hn : i + 1 < μ.2.2.1) (hc : catOK ls i = true) (kk : Gq E X μ Q q ((ls.set i (.double x)).set (i + 1) hole) st M nc ns) : Gq E X μ Q pc ls (.double x :: st) M nc ns := by
  subst hq
  exact fun H locs cells slots lsR hR hS hL h1 h2 => lv_dstore hX.1 hX.2.1 d hL.has hn rfl (fun ls' hl => kk H locs cells slots ls' hR hS (lvP.of2 hc hl) h1 h2)
theorem gq_iinc (hX : Cx E X μ) {i : Nat} {n : Int} {x v : Int32} (d : decode μ.2.1 pc = .ok (.iinc i n, 3)) (hq : pc + 3 = q) (hl : ls[i]? = some (.int x)) (hv : x + Int32.ofInt n = v) (hn : i < μ.2.2.1) (hc : catOK ls i = true) (kk : Gq E X μ Q q (ls.set i (.int v)) st M nc ns) : Gq E X μ Q pc ls st M nc ns := by
  subst hq
  intro H locs cells slots lsR hR hS hL h1 h2
  obtain ⟨k, hk⟩ := List.getElem?_of_mem (lvL_mem.mpr ⟨hl, (by intro h; cases h)⟩)
  exact lv_iinc hX.1 hX.2.1 d hL.has hk hv hn rfl (fun ls' hl => kk H locs cells slots ls' hR hS (lvP.of1 hc hl) h1 h2)
end LZ
