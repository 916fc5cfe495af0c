section ROWS
variable {m : GM} {pc z k n tgt : Nat} {L T : List (Option Value)} {rest : List Value} {M : Hp} {Φ : GR → Hp → Nat → Prop} {x y v : Int32} {xl yl vl : Int64} {a b : Nat} {off : Int} {va vb : Value}
theorem g_iconst {i : Int} (d : dc m pc (.iconst i) 1) (hv : Int32.ofInt i = v) (h : WP m (pc + 1) L (.int v :: rest) M z k n Φ) : WP m pc L rest M z k n Φ := by
  intro D dA base p l e s mid args below meth c C H locs ls hR hS hL
  exact lv_iconst C.1 C.2.1 d hv (h D dA base p l e s mid args below meth c C H locs ls hR hS hL)
theorem g_bipush {i : Int} (d : dc m pc (.bipush i) 2) (hv : (Int8.ofInt i).toInt32 = v) (h : WP m (pc + 2) L (.int v :: rest) M z k n Φ) : WP m pc L rest M z k n Φ := by
  intro D dA base p l e s mid args below meth c C H locs ls hR hS hL
  exact lv_bipush C.1 C.2.1 d hv (h D dA base p l e s mid args below meth c C H locs ls hR hS hL)
theorem g_sipush {i : Int} (d : dc m pc (.sipush i) 3) (hv : (Int16.ofInt i).toInt32 = v) (h : WP m (pc + 3) L (.int v :: rest) M z k n Φ) : WP m pc L rest M z k n Φ := by
  intro D dA base p l e s mid args below meth c C H locs ls hR hS hL
  exact lv_sipush C.1 C.2.1 d hv (h D dA base p l e s mid args below meth c C H locs ls hR hS hL)
theorem g_lconst {i : Fin 2} (d : dc m pc (.lconst i) 1) (hv : Int64.ofNat (i : Nat) = vl) (h : WP m (pc + 1) L (.long vl :: rest) M z k n Φ) : WP m pc L rest M z k n Φ := by
  intro D dA base p l e s mid args below meth c C H locs ls hR hS hL
  exact lv_lconst C.1 C.2.1 d hv (h D dA base p l e s mid args below meth c C H locs ls hR hS hL)
theorem g_ldc {i : Nat} (d : dc m pc (.ldc i) 2) (hw : Cond.constant (gy m).cls i v ∈ gW) (h : WP m (pc + 2) L (.int v :: rest) M z k n Φ) : WP m pc L rest M z k n Φ := by
  intro D dA base p l e s mid args below meth c C H locs ls hR hS hL
  exact lv_ldc C.1 C.2.1 C.2.2.2.1 (C.2.2.2.2.1 _ hw) d (h D dA base p l e s mid args below meth c C H locs ls hR hS hL)
theorem g_ldcf {i : Nat} {w : UInt32} (d : dc m pc (.ldc i) 2) (hw : Cond.constantFloat (gy m).cls i w ∈ gW) (h : WP m (pc + 2) L (.float w :: rest) M z k n Φ) : WP m pc L rest M z k n Φ := by
  intro D dA base p l e s mid args below meth c C H locs ls hR hS hL
  exact lv_ldcf C.1 C.2.1 C.2.2.2.1 (C.2.2.2.2.1 _ hw) d (h D dA base p l e s mid args below meth c C H locs ls hR hS hL)
theorem g_ldc2 {i : Nat} (d : dc m pc (.ldc2_w i) 3) (hw : Cond.constantLong (gy m).cls i vl ∈ gW) (h : WP m (pc + 3) L (.long vl :: rest) M z k n Φ) : WP m pc L rest M z k n Φ := by
  intro D dA base p l e s mid args below meth c C H locs ls hR hS hL
  exact lv_ldc2 C.1 C.2.1 C.2.2.2.1 (C.2.2.2.2.1 _ hw) d (h D dA base p l e s mid args below meth c C H locs ls hR hS hL)
theorem g_null (d : dc m pc .aconst_null 1) (h : WP m (pc + 1) L (.null :: rest) M z k n Φ) : WP m pc L rest M z k n Φ := by
  intro D dA base p l e s mid args below meth c C H locs ls hR hS hL
  exact lv_null C.1 C.2.1 d (h D dA base p l e s mid args below meth c C H locs ls hR hS hL)
theorem g_dconst0 (d : dc m pc (.dconst 0) 1) (h : WP m (pc + 1) L (.double 0 :: rest) M z k n Φ) : WP m pc L rest M z k n Φ := by
  intro D dA base p l e s mid args below meth c C H locs ls hR hS hL
  exact lv_dconst0 C.1 C.2.1 d (h D dA base p l e s mid args below meth c C H locs ls hR hS hL)
theorem g_iadd (d : dc m pc .iadd 1) (h : WP m (pc + 1) L (.int (x + y) :: rest) M z k n Φ) : WP m pc L (.int y :: .int x :: rest) M z k n Φ := by
  intro D dA base p l e s mid args below meth c C H locs ls hR hS hL
  exact lv_iadd C.1 C.2.1 d (h D dA base p l e s mid args below meth c C H locs ls hR hS hL)
theorem g_isub (d : dc m pc .isub 1) (h : WP m (pc + 1) L (.int (x - y) :: rest) M z k n Φ) : WP m pc L (.int y :: .int x :: rest) M z k n Φ := by
  intro D dA base p l e s mid args below meth c C H locs ls hR hS hL
  exact lv_isub C.1 C.2.1 d (h D dA base p l e s mid args below meth c C H locs ls hR hS hL)
theorem g_imul (d : dc m pc .imul 1) (h : WP m (pc + 1) L (.int (x * y) :: rest) M z k n Φ) : WP m pc L (.int y :: .int x :: rest) M z k n Φ := by
  intro D dA base p l e s mid args below meth c C H locs ls hR hS hL
  exact lv_imul C.1 C.2.1 d (h D dA base p l e s mid args below meth c C H locs ls hR hS hL)
theorem g_iand (d : dc m pc .iand 1) (h : WP m (pc + 1) L (.int (x &&& y) :: rest) M z k n Φ) : WP m pc L (.int y :: .int x :: rest) M z k n Φ := by
  intro D dA base p l e s mid args below meth c C H locs ls hR hS hL
  exact lv_iand C.1 C.2.1 d (h D dA base p l e s mid args below meth c C H locs ls hR hS hL)
theorem g_ior (d : dc m pc .ior 1) (h : WP m (pc + 1) L (.int (x ||| y) :: rest) M z k n Φ) : WP m pc L (.int y :: .int x :: rest) M z k n Φ := by
  intro D dA base p l e s mid args below meth c C H locs ls hR hS hL
  exact lv_ior C.1 C.2.1 d (h D dA base p l e s mid args below meth c C H locs ls hR hS hL)
theorem g_ixor (d : dc m pc .ixor 1) (h : WP m (pc + 1) L (.int (x ^^^ y) :: rest) M z k n Φ) : WP m pc L (.int y :: .int x :: rest) M z k n Φ := by
  intro D dA base p l e s mid args below meth c C H locs ls hR hS hL
  exact lv_ixor C.1 C.2.1 d (h D dA base p l e s mid args below meth c C H locs ls hR hS hL)
theorem g_idiv (d : dc m pc .idiv 1) (hne : ¬ y = 0) (h : WP m (pc + 1) L (.int (x / y) :: rest) M z k n Φ) : WP m pc L (.int y :: .int x :: rest) M z k n Φ := by
  intro D dA base p l e s mid args below meth c C H locs ls hR hS hL
  exact lv_idiv C.1 C.2.1 d hne (h D dA base p l e s mid args below meth c C H locs ls hR hS hL)
theorem g_irem (d : dc m pc .irem 1) (hne : ¬ y = 0) (h : WP m (pc + 1) L (.int (x - x / y * y) :: rest) M z k n Φ) : WP m pc L (.int y :: .int x :: rest) M z k n Φ := by
  intro D dA base p l e s mid args below meth c C H locs ls hR hS hL
  exact lv_irem C.1 C.2.1 d hne (h D dA base p l e s mid args below meth c C H locs ls hR hS hL)
theorem g_ineg (d : dc m pc .ineg 1) (h : WP m (pc + 1) L (.int (0 - x) :: rest) M z k n Φ) : WP m pc L (.int x :: rest) M z k n Φ := by
  intro D dA base p l e s mid args below meth c C H locs ls hR hS hL
  exact lv_ineg C.1 C.2.1 d (by first | exact (h D dA base p l e s mid args below meth c C H locs ls hR hS hL) | (rw [← Int32.zero_sub]; exact (h D dA base p l e s mid args below meth c C H locs ls hR hS hL)))
theorem g_ladd (d : dc m pc .ladd 1) (h : WP m (pc + 1) L (.long (xl + yl) :: rest) M z k n Φ) : WP m pc L (.long yl :: .long xl :: rest) M z k n Φ := by
  intro D dA base p l e s mid args below meth c C H locs ls hR hS hL
  exact lv_ladd C.1 C.2.1 d (h D dA base p l e s mid args below meth c C H locs ls hR hS hL)
theorem g_lmul (d : dc m pc .lmul 1) (h : WP m (pc + 1) L (.long (xl * yl) :: rest) M z k n Φ) : WP m pc L (.long yl :: .long xl :: rest) M z k n Φ := by
  intro D dA base p l e s mid args below meth c C H locs ls hR hS hL
  exact lv_lmul C.1 C.2.1 d (h D dA base p l e s mid args below meth c C H locs ls hR hS hL)
theorem g_land (d : dc m pc .land 1) (h : WP m (pc + 1) L (.long (xl &&& yl) :: rest) M z k n Φ) : WP m pc L (.long yl :: .long xl :: rest) M z k n Φ := by
  intro D dA base p l e s mid args below meth c C H locs ls hR hS hL
  exact lv_land C.1 C.2.1 d (h D dA base p l e s mid args below meth c C H locs ls hR hS hL)
theorem g_lor (d : dc m pc .lor 1) (h : WP m (pc + 1) L (.long (xl ||| yl) :: rest) M z k n Φ) : WP m pc L (.long yl :: .long xl :: rest) M z k n Φ := by
  intro D dA base p l e s mid args below meth c C H locs ls hR hS hL
  exact lv_lor C.1 C.2.1 d (h D dA base p l e s mid args below meth c C H locs ls hR hS hL)
theorem g_lcmp (d : dc m pc .lcmp 1) (h : WP m (pc + 1) L (.int (lg_cmp xl yl) :: rest) M z k n Φ) : WP m pc L (.long yl :: .long xl :: rest) M z k n Φ := by
  intro D dA base p l e s mid args below meth c C H locs ls hR hS hL
  exact W.lcmp C.1 C.2.1 d (h D dA base p l e s mid args below meth c C H locs ls hR hS hL)
theorem g_i2l (d : dc m pc .i2l 1) (h : WP m (pc + 1) L (.long x.toInt64 :: rest) M z k n Φ) : WP m pc L (.int x :: rest) M z k n Φ := by
  intro D dA base p l e s mid args below meth c C H locs ls hR hS hL
  exact lv_i2l C.1 C.2.1 d rfl (h D dA base p l e s mid args below meth c C H locs ls hR hS hL)
theorem g_l2i (d : dc m pc .l2i 1) (h : WP m (pc + 1) L (.int xl.toInt32 :: rest) M z k n Φ) : WP m pc L (.long xl :: rest) M z k n Φ := by
  intro D dA base p l e s mid args below meth c C H locs ls hR hS hL
  exact lv_l2i C.1 C.2.1 d rfl (h D dA base p l e s mid args below meth c C H locs ls hR hS hL)
theorem g_i2c (d : dc m pc .i2c 1) (hv : (x.toUInt32 % 65536).toInt32 = v) (h : WP m (pc + 1) L (.int v :: rest) M z k n Φ) : WP m pc L (.int x :: rest) M z k n Φ := by
  intro D dA base p l e s mid args below meth c C H locs ls hR hS hL
  exact lv_i2c C.1 C.2.1 d hv (h D dA base p l e s mid args below meth c C H locs ls hR hS hL)
theorem g_lushr (d : dc m pc .lushr 1) (h : WP m (pc + 1) L (.long (xl.toUInt64 >>> (y.toInt64.toUInt64 &&& Int64.toUInt64 63)).toInt64 :: rest) M z k n Φ) : WP m pc L (.int y :: .long xl :: rest) M z k n Φ := by
  intro D dA base p l e s mid args below meth c C H locs ls hR hS hL
  exact lv_lushr C.1 C.2.1 d rfl (h D dA base p l e s mid args below meth c C H locs ls hR hS hL)
theorem g_lshl (d : dc m pc .lshl 1) (h : WP m (pc + 1) L (.long (xl <<< (y.toInt64 &&& 63)) :: rest) M z k n Φ) : WP m pc L (.int y :: .long xl :: rest) M z k n Φ := by
  intro D dA base p l e s mid args below meth c C H locs ls hR hS hL
  exact lv_lshl C.1 C.2.1 d rfl (h D dA base p l e s mid args below meth c C H locs ls hR hS hL)
theorem g_i2f (d : dc m pc .i2f 1) {w : UInt32} (hw : w = FP.i2f x) (h : WP m (pc + 1) L (.float w :: rest) M z k n Φ) : WP m pc L (.int x :: rest) M z k n Φ := by
  intro D dA base p l e s mid args below meth c C H locs ls hR hS hL
  subst hw; exact lv_i2f C.1 C.2.1 d (h D dA base p l e s mid args below meth c C H locs ls hR hS hL)
theorem g_i2d (d : dc m pc .i2d 1) {w : UInt64} (hw : w = FP.i2d x) (h : WP m (pc + 1) L (.double w :: rest) M z k n Φ) : WP m pc L (.int x :: rest) M z k n Φ := by
  intro D dA base p l e s mid args below meth c C H locs ls hR hS hL
  subst hw; exact lv_i2d C.1 C.2.1 d (h D dA base p l e s mid args below meth c C H locs ls hR hS hL)
theorem g_fdiv {u w : UInt32} (d : dc m pc .fdiv 1) (hne : vf_n32 (FP.fdiv u w)) (h : WP m (pc + 1) L (.float (FP.fdiv u w) :: rest) M z k n Φ) : WP m pc L (.float w :: .float u :: rest) M z k n Φ := by
  intro D dA base p l e s mid args below meth c C H locs ls hR hS hL
  exact lv_fdiv C.1 C.2.1 d hne (h D dA base p l e s mid args below meth c C H locs ls hR hS hL)
theorem g_ddiv {u w : UInt64} (d : dc m pc .ddiv 1) (hne : vf_n64 (FP.ddiv u w)) (h : WP m (pc + 1) L (.double (FP.ddiv u w) :: rest) M z k n Φ) : WP m pc L (.double w :: .double u :: rest) M z k n Φ := by
  intro D dA base p l e s mid args below meth c C H locs ls hR hS hL
  exact lv_ddiv C.1 C.2.1 d hne (h D dA base p l e s mid args below meth c C H locs ls hR hS hL)
theorem g_f2d {u : UInt32} (d : dc m pc .f2d 1) (hne : vf_n64 (FP.f2d u)) (h : WP m (pc + 1) L (.double (FP.f2d u) :: rest) M z k n Φ) : WP m pc L (.float u :: rest) M z k n Φ := by
  intro D dA base p l e s mid args below meth c C H locs ls hR hS hL
  exact lv_f2d C.1 C.2.1 d hne (h D dA base p l e s mid args below meth c C H locs ls hR hS hL)
theorem g_dcmp {u w : UInt64} {o : CmpOp} (d : dc m pc (.dcmp o) 1) (h : WP m (pc + 1) L (.int (Op.cmpValue (FP.dcmp u w) o) :: rest) M z k n Φ) : WP m pc L (.double w :: .double u :: rest) M z k n Φ := by
  intro D dA base p l e s mid args below meth c C H locs ls hR hS hL
  exact lv_dcmp C.1 C.2.1 d (h D dA base p l e s mid args below meth c C H locs ls hR hS hL)
theorem g_dup (d : dc m pc .dup 1) (hv : va.category = 1) (h : WP m (pc + 1) L (va :: va :: rest) M z k n Φ) : WP m pc L (va :: rest) M z k n Φ := by
  intro D dA base p l e s mid args below meth c C H locs ls hR hS hL
  exact lv_dup C.1 C.2.1 d hv (h D dA base p l e s mid args below meth c C H locs ls hR hS hL)
theorem g_pop (d : dc m pc .pop 1) (hv : va.category = 1) (h : WP m (pc + 1) L rest M z k n Φ) : WP m pc L (va :: rest) M z k n Φ := by
  intro D dA base p l e s mid args below meth c C H locs ls hR hS hL
  exact lv_pop C.1 C.2.1 d hv (h D dA base p l e s mid args below meth c C H locs ls hR hS hL)
theorem g_dup2 (d : dc m pc .dup2 1) (hv : va.category = 1) (hv2 : vb.category = 1) (h : WP m (pc + 1) L (va :: vb :: va :: vb :: rest) M z k n Φ) : WP m pc L (va :: vb :: rest) M z k n Φ := by
  intro D dA base p l e s mid args below meth c C H locs ls hR hS hL
  exact lv_dup2_11 C.1 C.2.1 d hv hv2 (h D dA base p l e s mid args below meth c C H locs ls hR hS hL)
theorem g_if_eq (d : dc m pc (.ifCond .eq off) 3) (ht : (pc : Int) + off = (tgt : Int)) (h1 : x = 0 → WP m tgt L rest M z k n Φ) (h2 : ¬ x = 0 → WP m (pc + 3) L rest M z k n Φ) : WP m pc L (.int x :: rest) M z k n Φ := by
  intro D dA base p l e s mid args below meth c C H locs ls hR hS hL
  exact lv_if_eq C.1 C.2.1 d ht (fun q => (h1 q D dA base p l e s mid args below meth c C H locs ls hR hS hL)) (fun q => (h2 q D dA base p l e s mid args below meth c C H locs ls hR hS hL))
theorem g_if_ne (d : dc m pc (.ifCond .ne off) 3) (ht : (pc : Int) + off = (tgt : Int)) (h1 : ¬ x = 0 → WP m tgt L rest M z k n Φ) (h2 : x = 0 → WP m (pc + 3) L rest M z k n Φ) : WP m pc L (.int x :: rest) M z k n Φ := by
  intro D dA base p l e s mid args below meth c C H locs ls hR hS hL
  exact lv_if_ne C.1 C.2.1 d ht (fun q => (h1 q D dA base p l e s mid args below meth c C H locs ls hR hS hL)) (fun q => (h2 q D dA base p l e s mid args below meth c C H locs ls hR hS hL))
theorem g_if_lt (d : dc m pc (.ifCond .lt off) 3) (ht : (pc : Int) + off = (tgt : Int)) (h1 : x < 0 → WP m tgt L rest M z k n Φ) (h2 : ¬ x < 0 → WP m (pc + 3) L rest M z k n Φ) : WP m pc L (.int x :: rest) M z k n Φ := by
  intro D dA base p l e s mid args below meth c C H locs ls hR hS hL
  exact lv_if_lt C.1 C.2.1 d ht (fun q => (h1 q D dA base p l e s mid args below meth c C H locs ls hR hS hL)) (fun q => (h2 q D dA base p l e s mid args below meth c C H locs ls hR hS hL))
theorem g_if_ge (d : dc m pc (.ifCond .ge off) 3) (ht : (pc : Int) + off = (tgt : Int)) (h1 : 0 ≤ x → WP m tgt L rest M z k n Φ) (h2 : ¬ 0 ≤ x → WP m (pc + 3) L rest M z k n Φ) : WP m pc L (.int x :: rest) M z k n Φ := by
  intro D dA base p l e s mid args below meth c C H locs ls hR hS hL
  exact lv_if_ge C.1 C.2.1 d ht (fun q => (h1 q D dA base p l e s mid args below meth c C H locs ls hR hS hL)) (fun q => (h2 q D dA base p l e s mid args below meth c C H locs ls hR hS hL))
theorem g_if_gt (d : dc m pc (.ifCond .gt off) 3) (ht : (pc : Int) + off = (tgt : Int)) (h1 : 0 < x → WP m tgt L rest M z k n Φ) (h2 : ¬ 0 < x → WP m (pc + 3) L rest M z k n Φ) : WP m pc L (.int x :: rest) M z k n Φ := by
  intro D dA base p l e s mid args below meth c C H locs ls hR hS hL
  exact lv_if_gt C.1 C.2.1 d ht (fun q => (h1 q D dA base p l e s mid args below meth c C H locs ls hR hS hL)) (fun q => (h2 q D dA base p l e s mid args below meth c C H locs ls hR hS hL))
theorem g_if_le (d : dc m pc (.ifCond .le off) 3) (ht : (pc : Int) + off = (tgt : Int)) (h1 : x ≤ 0 → WP m tgt L rest M z k n Φ) (h2 : ¬ x ≤ 0 → WP m (pc + 3) L rest M z k n Φ) : WP m pc L (.int x :: rest) M z k n Φ := by
  intro D dA base p l e s mid args below meth c C H locs ls hR hS hL
  exact lv_if_le C.1 C.2.1 d ht (fun q => (h1 q D dA base p l e s mid args below meth c C H locs ls hR hS hL)) (fun q => (h2 q D dA base p l e s mid args below meth c C H locs ls hR hS hL))
theorem g_icmp_eq (d : dc m pc (.if_icmp .eq off) 3) (ht : (pc : Int) + off = (tgt : Int)) (h1 : x = y → WP m tgt L rest M z k n Φ) (h2 : ¬ x = y → WP m (pc + 3) L rest M z k n Φ) : WP m pc L (.int y :: .int x :: rest) M z k n Φ := by
  intro D dA base p l e s mid args below meth c C H locs ls hR hS hL
  exact lv_icmp_eq C.1 C.2.1 d ht (fun q => (h1 q D dA base p l e s mid args below meth c C H locs ls hR hS hL)) (fun q => (h2 q D dA base p l e s mid args below meth c C H locs ls hR hS hL))
theorem g_icmp_ne (d : dc m pc (.if_icmp .ne off) 3) (ht : (pc : Int) + off = (tgt : Int)) (h1 : ¬ x = y → WP m tgt L rest M z k n Φ) (h2 : x = y → WP m (pc + 3) L rest M z k n Φ) : WP m pc L (.int y :: .int x :: rest) M z k n Φ := by
  intro D dA base p l e s mid args below meth c C H locs ls hR hS hL
  exact lv_icmp_ne C.1 C.2.1 d ht (fun q => (h1 q D dA base p l e s mid args below meth c C H locs ls hR hS hL)) (fun q => (h2 q D dA base p l e s mid args below meth c C H locs ls hR hS hL))
theorem g_icmp_lt (d : dc m pc (.if_icmp .lt off) 3) (ht : (pc : Int) + off = (tgt : Int)) (h1 : x < y → WP m tgt L rest M z k n Φ) (h2 : ¬ x < y → WP m (pc + 3) L rest M z k n Φ) : WP m pc L (.int y :: .int x :: rest) M z k n Φ := by
  intro D dA base p l e s mid args below meth c C H locs ls hR hS hL
  exact lv_icmp_lt C.1 C.2.1 d ht (fun q => (h1 q D dA base p l e s mid args below meth c C H locs ls hR hS hL)) (fun q => (h2 q D dA base p l e s mid args below meth c C H locs ls hR hS hL))
theorem g_icmp_ge (d : dc m pc (.if_icmp .ge off) 3) (ht : (pc : Int) + off = (tgt : Int)) (h1 : y ≤ x → WP m tgt L rest M z k n Φ) (h2 : ¬ y ≤ x → WP m (pc + 3) L rest M z k n Φ) : WP m pc L (.int y :: .int x :: rest) M z k n Φ := by
  intro D dA base p l e s mid args below meth c C H locs ls hR hS hL
  exact lv_icmp_ge C.1 C.2.1 d ht (fun q => (h1 q D dA base p l e s mid args below meth c C H locs ls hR hS hL)) (fun q => (h2 q D dA base p l e s mid args below meth c C H locs ls hR hS hL))
theorem g_icmp_gt (d : dc m pc (.if_icmp .gt off) 3) (ht : (pc : Int) + off = (tgt : Int)) (h1 : y < x → WP m tgt L rest M z k n Φ) (h2 : ¬ y < x → WP m (pc + 3) L rest M z k n Φ) : WP m pc L (.int y :: .int x :: rest) M z k n Φ := by
  intro D dA base p l e s mid args below meth c C H locs ls hR hS hL
  exact lv_icmp_gt C.1 C.2.1 d ht (fun q => (h1 q D dA base p l e s mid args below meth c C H locs ls hR hS hL)) (fun q => (h2 q D dA base p l e s mid args below meth c C H locs ls hR hS hL))
theorem g_icmp_le (d : dc m pc (.if_icmp .le off) 3) (ht : (pc : Int) + off = (tgt : Int)) (h1 : x ≤ y → WP m tgt L rest M z k n Φ) (h2 : ¬ x ≤ y → WP m (pc + 3) L rest M z k n Φ) : WP m pc L (.int y :: .int x :: rest) M z k n Φ := by
  intro D dA base p l e s mid args below meth c C H locs ls hR hS hL
  exact lv_icmp_le C.1 C.2.1 d ht (fun q => (h1 q D dA base p l e s mid args below meth c C H locs ls hR hS hL)) (fun q => (h2 q D dA base p l e s mid args below meth c C H locs ls hR hS hL))
theorem g_goto (d : dc m pc (.goto off) 3) (ht : (pc : Int) + off = (tgt : Int)) (h : WP m tgt L rest M z k n Φ) : WP m pc L rest M z k n Φ := by
  intro D dA base p l e s mid args below meth c C H locs ls hR hS hL
  exact lv_goto C.1 C.2.1 d ht (h D dA base p l e s mid args below meth c C H locs ls hR hS hL)
theorem g_ifnull (d : dc m pc (.ifnull off) 3) (h : WP m (pc + 3) L rest M z k n Φ) : WP m pc L (.ref a :: rest) M z k n Φ := by
  intro D dA base p l e s mid args below meth c C H locs ls hR hS hL
  exact lv_ifnull C.1 C.2.1 d (h D dA base p l e s mid args below meth c C H locs ls hR hS hL)
theorem g_ifnullN (d : dc m pc (.ifnull off) 3) (ht : (pc : Int) + off = (tgt : Int)) (h : WP m tgt L rest M z k n Φ) : WP m pc L (.null :: rest) M z k n Φ := by
  intro D dA base p l e s mid args below meth c C H locs ls hR hS hL
  exact lv_ifnullN C.1 C.2.1 d ht (h D dA base p l e s mid args below meth c C H locs ls hR hS hL)
theorem g_ifnonnull (d : dc m pc (.ifnonnull off) 3) (ht : (pc : Int) + off = (tgt : Int)) (h : WP m tgt L rest M z k n Φ) : WP m pc L (.ref a :: rest) M z k n Φ := by
  intro D dA base p l e s mid args below meth c C H locs ls hR hS hL
  exact lv_ifnonnull C.1 C.2.1 d ht (h D dA base p l e s mid args below meth c C H locs ls hR hS hL)
theorem g_ifnonnullN (d : dc m pc (.ifnonnull off) 3) (h : WP m (pc + 3) L rest M z k n Φ) : WP m pc L (.null :: rest) M z k n Φ := by
  intro D dA base p l e s mid args below meth c C H locs ls hR hS hL
  exact lv_ifnonnullN C.1 C.2.1 d (h D dA base p l e s mid args below meth c C H locs ls hR hS hL)
theorem g_tabIn {dflt lo hi : Int} {offs : Array Int} {len : Nat} (d : dc m pc (.tableswitch dflt lo hi offs) len) (h1 : ¬ x.toInt < lo) (h2 : ¬ hi < x.toInt) (ho : offs[(x.toInt - lo).toNat]? = some off) (ht : (pc : Int) + off = (tgt : Int)) (h : WP m tgt L rest M z k n Φ) : WP m pc L (.int x :: rest) M z k n Φ := by
  intro D dA base p l e s mid args below meth c C H locs ls hR hS hL
  exact lv_tableIn C.1 C.2.1 d h1 h2 ho ht (h D dA base p l e s mid args below meth c C H locs ls hR hS hL)
theorem g_tabOut {dflt lo hi : Int} {offs : Array Int} {len : Nat} (d : dc m pc (.tableswitch dflt lo hi offs) len) (h1 : x.toInt < lo ∨ hi < x.toInt) (ht : (pc : Int) + dflt = (tgt : Int)) (h : WP m tgt L rest M z k n Φ) : WP m pc L (.int x :: rest) M z k n Φ := by
  intro D dA base p l e s mid args below meth c C H locs ls hR hS hL
  exact lv_tableOut C.1 C.2.1 d h1 ht (h D dA base p l e s mid args below meth c C H locs ls hR hS hL)
theorem g_iload_n {i : Fin 4} (d : dc m pc (.iload_n i) 1) (hi : L[(i : Nat)]? = some (some (.int x))) (h : WP m (pc + 1) L (.int x :: rest) M z k n Φ) : WP m pc L rest M z k n Φ := by
  intro D dA base p l e s mid args below meth c C H locs ls hR hS hL
  exact lv_iload_n C.1 C.2.1 d rfl (hL.get hi) (h D dA base p l e s mid args below meth c C H locs ls hR hS hL)
theorem g_iload {i : Nat} (d : dc m pc (.iload i) 2) (hi : L[i]? = some (some (.int x))) (h : WP m (pc + 2) L (.int x :: rest) M z k n Φ) : WP m pc L rest M z k n Φ := by
  intro D dA base p l e s mid args below meth c C H locs ls hR hS hL
  exact lv_iload C.1 C.2.1 d (hL.get hi) (h D dA base p l e s mid args below meth c C H locs ls hR hS hL)
theorem g_lload_n {i : Fin 4} (d : dc m pc (.lload_n i) 1) (hi : L[(i : Nat)]? = some (some (.long xl))) (h : WP m (pc + 1) L (.long xl :: rest) M z k n Φ) : WP m pc L rest M z k n Φ := by
  intro D dA base p l e s mid args below meth c C H locs ls hR hS hL
  exact lv_lload_n C.1 C.2.1 d rfl (hL.get hi) (h D dA base p l e s mid args below meth c C H locs ls hR hS hL)
theorem g_lload {i : Nat} (d : dc m pc (.lload i) 2) (hi : L[i]? = some (some (.long xl))) (h : WP m (pc + 2) L (.long xl :: rest) M z k n Φ) : WP m pc L rest M z k n Φ := by
  intro D dA base p l e s mid args below meth c C H locs ls hR hS hL
  exact lv_lload C.1 C.2.1 d (hL.get hi) (h D dA base p l e s mid args below meth c C H locs ls hR hS hL)
theorem g_aload_n {i : Fin 4} (d : dc m pc (.aload_n i) 1) (hi : L[(i : Nat)]? = some (some (.ref a))) (h : WP m (pc + 1) L (.ref a :: rest) M z k n Φ) : WP m pc L rest M z k n Φ := by
  intro D dA base p l e s mid args below meth c C H locs ls hR hS hL
  exact lv_aload_n C.1 C.2.1 d rfl (hL.get hi) (h D dA base p l e s mid args below meth c C H locs ls hR hS hL)
theorem g_aload {i : Nat} (d : dc m pc (.aload i) 2) (hi : L[i]? = some (some (.ref a))) (h : WP m (pc + 2) L (.ref a :: rest) M z k n Φ) : WP m pc L rest M z k n Φ := by
  intro D dA base p l e s mid args below meth c C H locs ls hR hS hL
  exact lv_aload C.1 C.2.1 d (hL.get hi) (h D dA base p l e s mid args below meth c C H locs ls hR hS hL)
theorem g_dload {i : Nat} {u : UInt64} (d : dc m pc (.dload i) 2) (hi : L[i]? = some (some (.double u))) (h : WP m (pc + 2) L (.double u :: rest) M z k n Φ) : WP m pc L rest M z k n Φ := by
  intro D dA base p l e s mid args below meth c C H locs ls hR hS hL
  exact lv_dload C.1 C.2.1 d (hL.get hi) (h D dA base p l e s mid args below meth c C H locs ls hR hS hL)
theorem g_aload_nN {i : Fin 4} (d : dc m pc (.aload_n i) 1) (hi : L[(i : Nat)]? = some (some (.null))) (h : WP m (pc + 1) L (.null :: rest) M z k n Φ) : WP m pc L rest M z k n Φ := by
  intro D dA base p l e s mid args below meth c C H locs ls hR hS hL
  exact lv_aload_nN C.1 C.2.1 d rfl (hL.get hi) (h D dA base p l e s mid args below meth c C H locs ls hR hS hL)
theorem g_aloadN {i : Nat} (d : dc m pc (.aload i) 2) (hi : L[i]? = some (some (.null))) (h : WP m (pc + 2) L (.null :: rest) M z k n Φ) : WP m pc L rest M z k n Φ := by
  intro D dA base p l e s mid args below meth c C H locs ls hR hS hL
  exact lv_aloadN C.1 C.2.1 d (hL.get hi) (h D dA base p l e s mid args below meth c C H locs ls hR hS hL)
theorem g_istore_n {i : Fin 4} (d : dc m pc (.istore_n i) 1) (hi : ((i : Nat)) < L.length) (hp : ∀ a, (((i : Nat)) ≠ 0 ∧ L[((i : Nat)) - 1]? = some a) → gw1 a = true) (hl : (L.set ((i : Nat)) (some (.int x))) = T) (h : WP m (pc + 1) T rest M z k n Φ) : WP m pc L (.int x :: rest) M z k n Φ := by
  intro D dA base p l e s mid args below meth c C H locs ls hR hS hL
  exact lv_istore_n C.1 C.2.1 d rfl hL.2 (by rw [← hL.1]; exact hi) rfl (fun ls1 hl1 => h D dA base p l e s mid args below meth c C H locs ls1 hR hS (by rw [← hl]; exact hL.set1 hp hl1))
theorem g_istore {i : Nat} (d : dc m pc (.istore i) 2) (hi : (i) < L.length) (hp : ∀ a, ((i) ≠ 0 ∧ L[(i) - 1]? = some a) → gw1 a = true) (hl : (L.set (i) (some (.int x))) = T) (h : WP m (pc + 2) T rest M z k n Φ) : WP m pc L (.int x :: rest) M z k n Φ := by
  intro D dA base p l e s mid args below meth c C H locs ls hR hS hL
  exact lv_istore C.1 C.2.1 d hL.2 (by rw [← hL.1]; exact hi) rfl (fun ls1 hl1 => h D dA base p l e s mid args below meth c C H locs ls1 hR hS (by rw [← hl]; exact hL.set1 hp hl1))
theorem g_astore_n {i : Fin 4} (d : dc m pc (.astore_n i) 1) (hi : ((i : Nat)) < L.length) (hp : ∀ a, (((i : Nat)) ≠ 0 ∧ L[((i : Nat)) - 1]? = some a) → gw1 a = true) (hl : (L.set ((i : Nat)) (some (.ref a))) = T) (h : WP m (pc + 1) T rest M z k n Φ) : WP m pc L (.ref a :: rest) M z k n Φ := by
  intro D dA base p l e s mid args below meth c C H locs ls hR hS hL
  exact lv_astore_n C.1 C.2.1 d rfl hL.2 (by rw [← hL.1]; exact hi) rfl (fun ls1 hl1 => h D dA base p l e s mid args below meth c C H locs ls1 hR hS (by rw [← hl]; exact hL.set1 hp hl1))
theorem g_astore {i : Nat} (d : dc m pc (.astore i) 2) (hi : (i) < L.length) (hp : ∀ a, ((i) ≠ 0 ∧ L[(i) - 1]? = some a) → gw1 a = true) (hl : (L.set (i) (some (.ref a))) = T) (h : WP m (pc + 2) T rest M z k n Φ) : WP m pc L (.ref a :: rest) M z k n Φ := by
  intro D dA base p l e s mid args below meth c C H locs ls hR hS hL
  exact lv_astore C.1 C.2.1 d hL.2 (by rw [← hL.1]; exact hi) rfl (fun ls1 hl1 => h D dA base p l e s mid args below meth c C H locs ls1 hR hS (by rw [← hl]; exact hL.set1 hp hl1))
theorem g_astore_nN {i : Fin 4} (d : dc m pc (.astore_n i) 1) (hi : ((i : Nat)) < L.length) (hp : ∀ a, (((i : Nat)) ≠ 0 ∧ L[((i : Nat)) - 1]? = some a) → gw1 a = true) (hl : (L.set ((i : Nat)) (some (.null))) = T) (h : WP m (pc + 1) T rest M z k n Φ) : WP m pc L (.null :: rest) M z k n Φ := by
  intro D dA base p l e s mid args below meth c C H locs ls hR hS hL
  exact lv_astore_nN C.1 C.2.1 d rfl hL.2 (by rw [← hL.1]; exact hi) rfl (fun ls1 hl1 => h D dA base p l e s mid args below meth c C H locs ls1 hR hS (by rw [← hl]; exact hL.set1 hp hl1))
theorem g_astoreN {i : Nat} (d : dc m pc (.astore i) 2) (hi : (i) < L.length) (hp : ∀ a, ((i) ≠ 0 ∧ L[(i) - 1]? = some a) → gw1 a = true) (hl : (L.set (i) (some (.null))) = T) (h : WP m (pc + 2) T rest M z k n Φ) : WP m pc L (.null :: rest) M z k n Φ := by
  intro D dA base p l e s mid args below meth c C H locs ls hR hS hL
  exact lv_astoreN C.1 C.2.1 d hL.2 (by rw [← hL.1]; exact hi) rfl (fun ls1 hl1 => h D dA base p l e s mid args below meth c C H locs ls1 hR hS (by rw [← hl]; exact hL.set1 hp hl1))
theorem g_lstore {i : Nat} (d : dc m pc (.lstore i) 2) (hi : (i) + 1 < L.length) (hp : ∀ a, ((i) ≠ 0 ∧ L[(i) - 1]? = some a) → gw1 a = true) (hl : ((L.set (i) (some (.long xl))).set ((i) + 1) none) = T) (h : WP m (pc + 2) T rest M z k n Φ) : WP m pc L (.long xl :: rest) M z k n Φ := by
  intro D dA base p l e s mid args below meth c C H locs ls hR hS hL
  exact lv_lstore C.1 C.2.1 d hL.2 (by rw [← hL.1]; exact hi) rfl (fun ls1 hl1 => h D dA base p l e s mid args below meth c C H locs ls1 hR hS (by rw [← hl]; exact hL.set2 hp hl1))
theorem g_lstore_n {i : Fin 4} (d : dc m pc (.lstore_n i) 1) (hi : ((i : Nat)) + 1 < L.length) (hp : ∀ a, (((i : Nat)) ≠ 0 ∧ L[((i : Nat)) - 1]? = some a) → gw1 a = true) (hl : ((L.set ((i : Nat)) (some (.long xl))).set (((i : Nat)) + 1) none) = T) (h : WP m (pc + 1) T rest M z k n Φ) : WP m pc L (.long xl :: rest) M z k n Φ := by
  intro D dA base p l e s mid args below meth c C H locs ls hR hS hL
  exact lv_lstore_n C.1 C.2.1 d rfl hL.2 (by rw [← hL.1]; exact hi) rfl (fun ls1 hl1 => h D dA base p l e s mid args below meth c C H locs ls1 hR hS (by rw [← hl]; exact hL.set2 hp hl1))
theorem g_dstore {i : Nat} {u : UInt64} (d : dc m pc (.dstore i) 2) (hi : i + 1 < L.length) (hp : ∀ a, ((i) ≠ 0 ∧ L[(i) - 1]? = some a) → gw1 a = true) (hl : ((L.set i (some (.double u))).set (i + 1) none) = T) (h : WP m (pc + 2) T rest M z k n Φ) : WP m pc L (.double u :: rest) M z k n Φ := by
  intro D dA base p l e s mid args below meth c C H locs ls hR hS hL
  exact lv_dstore C.1 C.2.1 d hL.2 (by rw [← hL.1]; exact hi) rfl (fun ls1 hl1 => h D dA base p l e s mid args below meth c C H locs ls1 hR hS (by rw [← hl]; exact hL.set2 hp hl1))
theorem g_iinc {i : Nat} {q : Int} (d : dc m pc (.iinc i q) 3) (hi : L[i]? = some (some (.int x))) (hp : ∀ a, ((i) ≠ 0 ∧ L[(i) - 1]? = some a) → gw1 a = true) (hv : Int32.ofInt q = y) (hl : L.set i (some (.int (x + y))) = T) (h : WP m (pc + 3) T rest M z k n Φ) : WP m pc L rest M z k n Φ := by
  intro D dA base p l e s mid args below meth c C H locs ls hR hS hL
  subst hv
  obtain ⟨j, hj⟩ := List.getElem?_of_mem ((gprs_mem L 0 i (.int x)).mpr ⟨i, by omega, hi⟩)
  exact lv_iinc C.1 C.2.1 d hL.2 hj rfl (by rw [← hL.1]; exact (List.getElem?_eq_some_iff.mp hi).1) rfl (fun ls1 hl1 => h D dA base p l e s mid args below meth c C H locs ls1 hR hS (by rw [← hl]; exact hL.set1 hp hl1))
theorem g_weak {L' : List (Option Value)} (hs : gsub L' L) (h : WP m pc L' rest M z k n Φ) : WP m pc L rest M z k n Φ := by
  intro D dA base p l e s mid args below meth c C H locs ls hR hS hL
  exact h D dA base p l e s mid args below meth c C H locs ls hR hS (hL.weak hs)
theorem g_iload_0 (d : dc m pc (.iload_n 0) 1) (h : WP m (pc + 1) (some (.int x) :: T) (.int x :: rest) M z k n Φ) : WP m pc (some (.int x) :: T) rest M z k n Φ := g_iload_n d rfl h
theorem g_iload_1 {p0 : Option Value} (d : dc m pc (.iload_n 1) 1) (h : WP m (pc + 1) (p0 :: some (.int x) :: T) (.int x :: rest) M z k n Φ) : WP m pc (p0 :: some (.int x) :: T) rest M z k n Φ := g_iload_n d rfl h
theorem g_iload_2 {p0 p1 : Option Value} (d : dc m pc (.iload_n 2) 1) (h : WP m (pc + 1) (p0 :: p1 :: some (.int x) :: T) (.int x :: rest) M z k n Φ) : WP m pc (p0 :: p1 :: some (.int x) :: T) rest M z k n Φ := g_iload_n d rfl h
theorem g_iload_3 {p0 p1 p2 : Option Value} (d : dc m pc (.iload_n 3) 1) (h : WP m (pc + 1) (p0 :: p1 :: p2 :: some (.int x) :: T) (.int x :: rest) M z k n Φ) : WP m pc (p0 :: p1 :: p2 :: some (.int x) :: T) rest M z k n Φ := g_iload_n d rfl h
theorem g_iload_4 {p0 p1 p2 p3 : Option Value} (d : dc m pc (.iload 4) 2) (h : WP m (pc + 2) (p0 :: p1 :: p2 :: p3 :: some (.int x) :: T) (.int x :: rest) M z k n Φ) : WP m pc (p0 :: p1 :: p2 :: p3 :: some (.int x) :: T) rest M z k n Φ := g_iload d rfl h
theorem g_iload_5 {p0 p1 p2 p3 p4 : Option Value} (d : dc m pc (.iload 5) 2) (h : WP m (pc + 2) (p0 :: p1 :: p2 :: p3 :: p4 :: some (.int x) :: T) (.int x :: rest) M z k n Φ) : WP m pc (p0 :: p1 :: p2 :: p3 :: p4 :: some (.int x) :: T) rest M z k n Φ := g_iload d rfl h
theorem g_iload_6 {p0 p1 p2 p3 p4 p5 : Option Value} (d : dc m pc (.iload 6) 2) (h : WP m (pc + 2) (p0 :: p1 :: p2 :: p3 :: p4 :: p5 :: some (.int x) :: T) (.int x :: rest) M z k n Φ) : WP m pc (p0 :: p1 :: p2 :: p3 :: p4 :: p5 :: some (.int x) :: T) rest M z k n Φ := g_iload d rfl h
theorem g_iload_7 {p0 p1 p2 p3 p4 p5 p6 : Option Value} (d : dc m pc (.iload 7) 2) (h : WP m (pc + 2) (p0 :: p1 :: p2 :: p3 :: p4 :: p5 :: p6 :: some (.int x) :: T) (.int x :: rest) M z k n Φ) : WP m pc (p0 :: p1 :: p2 :: p3 :: p4 :: p5 :: p6 :: some (.int x) :: T) rest M z k n Φ := g_iload d rfl h
theorem g_iload_8 {p0 p1 p2 p3 p4 p5 p6 p7 : Option Value} (d : dc m pc (.iload 8) 2) (h : WP m (pc + 2) (p0 :: p1 :: p2 :: p3 :: p4 :: p5 :: p6 :: p7 :: some (.int x) :: T) (.int x :: rest) M z k n Φ) : WP m pc (p0 :: p1 :: p2 :: p3 :: p4 :: p5 :: p6 :: p7 :: some (.int x) :: T) rest M z k n Φ := g_iload d rfl h
theorem g_iload_9 {p0 p1 p2 p3 p4 p5 p6 p7 p8 : Option Value} (d : dc m pc (.iload 9) 2) (h : WP m (pc + 2) (p0 :: p1 :: p2 :: p3 :: p4 :: p5 :: p6 :: p7 :: p8 :: some (.int x) :: T) (.int x :: rest) M z k n Φ) : WP m pc (p0 :: p1 :: p2 :: p3 :: p4 :: p5 :: p6 :: p7 :: p8 :: some (.int x) :: T) rest M z k n Φ := g_iload d rfl h
theorem g_aload_0 (d : dc m pc (.aload_n 0) 1) (h : WP m (pc + 1) (some (.ref a) :: T) (.ref a :: rest) M z k n Φ) : WP m pc (some (.ref a) :: T) rest M z k n Φ := g_aload_n d rfl h
theorem g_aload_1 {p0 : Option Value} (d : dc m pc (.aload_n 1) 1) (h : WP m (pc + 1) (p0 :: some (.ref a) :: T) (.ref a :: rest) M z k n Φ) : WP m pc (p0 :: some (.ref a) :: T) rest M z k n Φ := g_aload_n d rfl h
theorem g_aload_2 {p0 p1 : Option Value} (d : dc m pc (.aload_n 2) 1) (h : WP m (pc + 1) (p0 :: p1 :: some (.ref a) :: T) (.ref a :: rest) M z k n Φ) : WP m pc (p0 :: p1 :: some (.ref a) :: T) rest M z k n Φ := g_aload_n d rfl h
theorem g_aload_3 {p0 p1 p2 : Option Value} (d : dc m pc (.aload_n 3) 1) (h : WP m (pc + 1) (p0 :: p1 :: p2 :: some (.ref a) :: T) (.ref a :: rest) M z k n Φ) : WP m pc (p0 :: p1 :: p2 :: some (.ref a) :: T) rest M z k n Φ := g_aload_n d rfl h
theorem g_aload_4 {p0 p1 p2 p3 : Option Value} (d : dc m pc (.aload 4) 2) (h : WP m (pc + 2) (p0 :: p1 :: p2 :: p3 :: some (.ref a) :: T) (.ref a :: rest) M z k n Φ) : WP m pc (p0 :: p1 :: p2 :: p3 :: some (.ref a) :: T) rest M z k n Φ := g_aload d rfl h
theorem g_aload_5 {p0 p1 p2 p3 p4 : Option Value} (d : dc m pc (.aload 5) 2) (h : WP m (pc + 2) (p0 :: p1 :: p2 :: p3 :: p4 :: some (.ref a) :: T) (.ref a :: rest) M z k n Φ) : WP m pc (p0 :: p1 :: p2 :: p3 :: p4 :: some (.ref a) :: T) rest M z k n Φ := g_aload d rfl h
theorem g_aload_6 {p0 p1 p2 p3 p4 p5 : Option Value} (d : dc m pc (.aload 6) 2) (h : WP m (pc + 2) (p0 :: p1 :: p2 :: p3 :: p4 :: p5 :: some (.ref a) :: T) (.ref a :: rest) M z k n Φ) : WP m pc (p0 :: p1 :: p2 :: p3 :: p4 :: p5 :: some (.ref a) :: T) rest M z k n Φ := g_aload d rfl h
theorem g_aload_7 {p0 p1 p2 p3 p4 p5 p6 : Option Value} (d : dc m pc (.aload 7) 2) (h : WP m (pc + 2) (p0 :: p1 :: p2 :: p3 :: p4 :: p5 :: p6 :: some (.ref a) :: T) (.ref a :: rest) M z k n Φ) : WP m pc (p0 :: p1 :: p2 :: p3 :: p4 :: p5 :: p6 :: some (.ref a) :: T) rest M z k n Φ := g_aload d rfl h
theorem g_aload_8 {p0 p1 p2 p3 p4 p5 p6 p7 : Option Value} (d : dc m pc (.aload 8) 2) (h : WP m (pc + 2) (p0 :: p1 :: p2 :: p3 :: p4 :: p5 :: p6 :: p7 :: some (.ref a) :: T) (.ref a :: rest) M z k n Φ) : WP m pc (p0 :: p1 :: p2 :: p3 :: p4 :: p5 :: p6 :: p7 :: some (.ref a) :: T) rest M z k n Φ := g_aload d rfl h
theorem g_aload_9 {p0 p1 p2 p3 p4 p5 p6 p7 p8 : Option Value} (d : dc m pc (.aload 9) 2) (h : WP m (pc + 2) (p0 :: p1 :: p2 :: p3 :: p4 :: p5 :: p6 :: p7 :: p8 :: some (.ref a) :: T) (.ref a :: rest) M z k n Φ) : WP m pc (p0 :: p1 :: p2 :: p3 :: p4 :: p5 :: p6 :: p7 :: p8 :: some (.ref a) :: T) rest M z k n Φ := g_aload d rfl h
theorem g_lload_0 (d : dc m pc (.lload_n 0) 1) (h : WP m (pc + 1) (some (.long xl) :: T) (.long xl :: rest) M z k n Φ) : WP m pc (some (.long xl) :: T) rest M z k n Φ := g_lload_n d rfl h
theorem g_lload_1 {p0 : Option Value} (d : dc m pc (.lload_n 1) 1) (h : WP m (pc + 1) (p0 :: some (.long xl) :: T) (.long xl :: rest) M z k n Φ) : WP m pc (p0 :: some (.long xl) :: T) rest M z k n Φ := g_lload_n d rfl h
theorem g_lload_2 {p0 p1 : Option Value} (d : dc m pc (.lload_n 2) 1) (h : WP m (pc + 1) (p0 :: p1 :: some (.long xl) :: T) (.long xl :: rest) M z k n Φ) : WP m pc (p0 :: p1 :: some (.long xl) :: T) rest M z k n Φ := g_lload_n d rfl h
theorem g_lload_3 {p0 p1 p2 : Option Value} (d : dc m pc (.lload_n 3) 1) (h : WP m (pc + 1) (p0 :: p1 :: p2 :: some (.long xl) :: T) (.long xl :: rest) M z k n Φ) : WP m pc (p0 :: p1 :: p2 :: some (.long xl) :: T) rest M z k n Φ := g_lload_n d rfl h
theorem g_lload_4 {p0 p1 p2 p3 : Option Value} (d : dc m pc (.lload 4) 2) (h : WP m (pc + 2) (p0 :: p1 :: p2 :: p3 :: some (.long xl) :: T) (.long xl :: rest) M z k n Φ) : WP m pc (p0 :: p1 :: p2 :: p3 :: some (.long xl) :: T) rest M z k n Φ := g_lload d rfl h
theorem g_lload_5 {p0 p1 p2 p3 p4 : Option Value} (d : dc m pc (.lload 5) 2) (h : WP m (pc + 2) (p0 :: p1 :: p2 :: p3 :: p4 :: some (.long xl) :: T) (.long xl :: rest) M z k n Φ) : WP m pc (p0 :: p1 :: p2 :: p3 :: p4 :: some (.long xl) :: T) rest M z k n Φ := g_lload d rfl h
theorem g_lload_6 {p0 p1 p2 p3 p4 p5 : Option Value} (d : dc m pc (.lload 6) 2) (h : WP m (pc + 2) (p0 :: p1 :: p2 :: p3 :: p4 :: p5 :: some (.long xl) :: T) (.long xl :: rest) M z k n Φ) : WP m pc (p0 :: p1 :: p2 :: p3 :: p4 :: p5 :: some (.long xl) :: T) rest M z k n Φ := g_lload d rfl h
theorem g_lload_7 {p0 p1 p2 p3 p4 p5 p6 : Option Value} (d : dc m pc (.lload 7) 2) (h : WP m (pc + 2) (p0 :: p1 :: p2 :: p3 :: p4 :: p5 :: p6 :: some (.long xl) :: T) (.long xl :: rest) M z k n Φ) : WP m pc (p0 :: p1 :: p2 :: p3 :: p4 :: p5 :: p6 :: some (.long xl) :: T) rest M z k n Φ := g_lload d rfl h
theorem g_lload_8 {p0 p1 p2 p3 p4 p5 p6 p7 : Option Value} (d : dc m pc (.lload 8) 2) (h : WP m (pc + 2) (p0 :: p1 :: p2 :: p3 :: p4 :: p5 :: p6 :: p7 :: some (.long xl) :: T) (.long xl :: rest) M z k n Φ) : WP m pc (p0 :: p1 :: p2 :: p3 :: p4 :: p5 :: p6 :: p7 :: some (.long xl) :: T) rest M z k n Φ := g_lload d rfl h
theorem g_lload_9 {p0 p1 p2 p3 p4 p5 p6 p7 p8 : Option Value} (d : dc m pc (.lload 9) 2) (h : WP m (pc + 2) (p0 :: p1 :: p2 :: p3 :: p4 :: p5 :: p6 :: p7 :: p8 :: some (.long xl) :: T) (.long xl :: rest) M z k n Φ) : WP m pc (p0 :: p1 :: p2 :: p3 :: p4 :: p5 :: p6 :: p7 :: p8 :: some (.long xl) :: T) rest M z k n Φ := g_lload d rfl h
theorem g_dload_0 {u : UInt64} (d : dc m pc (.dload 0) 2) (h : WP m (pc + 2) (some (.double u) :: T) (.double u :: rest) M z k n Φ) : WP m pc (some (.double u) :: T) rest M z k n Φ := g_dload d rfl h
theorem g_dload_1 {p0 : Option Value} {u : UInt64} (d : dc m pc (.dload 1) 2) (h : WP m (pc + 2) (p0 :: some (.double u) :: T) (.double u :: rest) M z k n Φ) : WP m pc (p0 :: some (.double u) :: T) rest M z k n Φ := g_dload d rfl h
theorem g_dload_2 {p0 p1 : Option Value} {u : UInt64} (d : dc m pc (.dload 2) 2) (h : WP m (pc + 2) (p0 :: p1 :: some (.double u) :: T) (.double u :: rest) M z k n Φ) : WP m pc (p0 :: p1 :: some (.double u) :: T) rest M z k n Φ := g_dload d rfl h
theorem g_dload_3 {p0 p1 p2 : Option Value} {u : UInt64} (d : dc m pc (.dload 3) 2) (h : WP m (pc + 2) (p0 :: p1 :: p2 :: some (.double u) :: T) (.double u :: rest) M z k n Φ) : WP m pc (p0 :: p1 :: p2 :: some (.double u) :: T) rest M z k n Φ := g_dload d rfl h
theorem g_dload_4 {p0 p1 p2 p3 : Option Value} {u : UInt64} (d : dc m pc (.dload 4) 2) (h : WP m (pc + 2) (p0 :: p1 :: p2 :: p3 :: some (.double u) :: T) (.double u :: rest) M z k n Φ) : WP m pc (p0 :: p1 :: p2 :: p3 :: some (.double u) :: T) rest M z k n Φ := g_dload d rfl h
theorem g_dload_5 {p0 p1 p2 p3 p4 : Option Value} {u : UInt64} (d : dc m pc (.dload 5) 2) (h : WP m (pc + 2) (p0 :: p1 :: p2 :: p3 :: p4 :: some (.double u) :: T) (.double u :: rest) M z k n Φ) : WP m pc (p0 :: p1 :: p2 :: p3 :: p4 :: some (.double u) :: T) rest M z k n Φ := g_dload d rfl h
theorem g_dload_6 {p0 p1 p2 p3 p4 p5 : Option Value} {u : UInt64} (d : dc m pc (.dload 6) 2) (h : WP m (pc + 2) (p0 :: p1 :: p2 :: p3 :: p4 :: p5 :: some (.double u) :: T) (.double u :: rest) M z k n Φ) : WP m pc (p0 :: p1 :: p2 :: p3 :: p4 :: p5 :: some (.double u) :: T) rest M z k n Φ := g_dload d rfl h
theorem g_dload_7 {p0 p1 p2 p3 p4 p5 p6 : Option Value} {u : UInt64} (d : dc m pc (.dload 7) 2) (h : WP m (pc + 2) (p0 :: p1 :: p2 :: p3 :: p4 :: p5 :: p6 :: some (.double u) :: T) (.double u :: rest) M z k n Φ) : WP m pc (p0 :: p1 :: p2 :: p3 :: p4 :: p5 :: p6 :: some (.double u) :: T) rest M z k n Φ := g_dload d rfl h
theorem g_dload_8 {p0 p1 p2 p3 p4 p5 p6 p7 : Option Value} {u : UInt64} (d : dc m pc (.dload 8) 2) (h : WP m (pc + 2) (p0 :: p1 :: p2 :: p3 :: p4 :: p5 :: p6 :: p7 :: some (.double u) :: T) (.double u :: rest) M z k n Φ) : WP m pc (p0 :: p1 :: p2 :: p3 :: p4 :: p5 :: p6 :: p7 :: some (.double u) :: T) rest M z k n Φ := g_dload d rfl h
theorem g_dload_9 {p0 p1 p2 p3 p4 p5 p6 p7 p8 : Option Value} {u : UInt64} (d : dc m pc (.dload 9) 2) (h : WP m (pc + 2) (p0 :: p1 :: p2 :: p3 :: p4 :: p5 :: p6 :: p7 :: p8 :: some (.double u) :: T) (.double u :: rest) M z k n Φ) : WP m pc (p0 :: p1 :: p2 :: p3 :: p4 :: p5 :: p6 :: p7 :: p8 :: some (.double u) :: T) rest M z k n Φ := g_dload d rfl h
theorem g_aload_0N (d : dc m pc (.aload_n 0) 1) (h : WP m (pc + 1) (some .null :: T) (.null :: rest) M z k n Φ) : WP m pc (some .null :: T) rest M z k n Φ := g_aload_nN d rfl h
theorem g_aload_1N {p0 : Option Value} (d : dc m pc (.aload_n 1) 1) (h : WP m (pc + 1) (p0 :: some .null :: T) (.null :: rest) M z k n Φ) : WP m pc (p0 :: some .null :: T) rest M z k n Φ := g_aload_nN d rfl h
theorem g_aload_2N {p0 p1 : Option Value} (d : dc m pc (.aload_n 2) 1) (h : WP m (pc + 1) (p0 :: p1 :: some .null :: T) (.null :: rest) M z k n Φ) : WP m pc (p0 :: p1 :: some .null :: T) rest M z k n Φ := g_aload_nN d rfl h
theorem g_aload_3N {p0 p1 p2 : Option Value} (d : dc m pc (.aload_n 3) 1) (h : WP m (pc + 1) (p0 :: p1 :: p2 :: some .null :: T) (.null :: rest) M z k n Φ) : WP m pc (p0 :: p1 :: p2 :: some .null :: T) rest M z k n Φ := g_aload_nN d rfl h
theorem g_aload_4N {p0 p1 p2 p3 : Option Value} (d : dc m pc (.aload 4) 2) (h : WP m (pc + 2) (p0 :: p1 :: p2 :: p3 :: some .null :: T) (.null :: rest) M z k n Φ) : WP m pc (p0 :: p1 :: p2 :: p3 :: some .null :: T) rest M z k n Φ := g_aloadN d rfl h
theorem g_aload_5N {p0 p1 p2 p3 p4 : Option Value} (d : dc m pc (.aload 5) 2) (h : WP m (pc + 2) (p0 :: p1 :: p2 :: p3 :: p4 :: some .null :: T) (.null :: rest) M z k n Φ) : WP m pc (p0 :: p1 :: p2 :: p3 :: p4 :: some .null :: T) rest M z k n Φ := g_aloadN d rfl h
theorem g_aload_6N {p0 p1 p2 p3 p4 p5 : Option Value} (d : dc m pc (.aload 6) 2) (h : WP m (pc + 2) (p0 :: p1 :: p2 :: p3 :: p4 :: p5 :: some .null :: T) (.null :: rest) M z k n Φ) : WP m pc (p0 :: p1 :: p2 :: p3 :: p4 :: p5 :: some .null :: T) rest M z k n Φ := g_aloadN d rfl h
theorem g_aload_7N {p0 p1 p2 p3 p4 p5 p6 : Option Value} (d : dc m pc (.aload 7) 2) (h : WP m (pc + 2) (p0 :: p1 :: p2 :: p3 :: p4 :: p5 :: p6 :: some .null :: T) (.null :: rest) M z k n Φ) : WP m pc (p0 :: p1 :: p2 :: p3 :: p4 :: p5 :: p6 :: some .null :: T) rest M z k n Φ := g_aloadN d rfl h
theorem g_aload_8N {p0 p1 p2 p3 p4 p5 p6 p7 : Option Value} (d : dc m pc (.aload 8) 2) (h : WP m (pc + 2) (p0 :: p1 :: p2 :: p3 :: p4 :: p5 :: p6 :: p7 :: some .null :: T) (.null :: rest) M z k n Φ) : WP m pc (p0 :: p1 :: p2 :: p3 :: p4 :: p5 :: p6 :: p7 :: some .null :: T) rest M z k n Φ := g_aloadN d rfl h
theorem g_aload_9N {p0 p1 p2 p3 p4 p5 p6 p7 p8 : Option Value} (d : dc m pc (.aload 9) 2) (h : WP m (pc + 2) (p0 :: p1 :: p2 :: p3 :: p4 :: p5 :: p6 :: p7 :: p8 :: some .null :: T) (.null :: rest) M z k n Φ) : WP m pc (p0 :: p1 :: p2 :: p3 :: p4 :: p5 :: p6 :: p7 :: p8 :: some .null :: T) rest M z k n Φ := g_aloadN d rfl h
theorem g_istore_0 {q : Option Value} (d : dc m pc (.istore_n 0) 1) (h : WP m (pc + 1) (some (.int x) :: T) rest M z k n Φ) : WP m pc (q :: T) (.int x :: rest) M z k n Φ := g_istore_n d (by show 0 < List.length _; simp) (fun a h => absurd rfl h.1) rfl h
theorem g_istore_1 {p0 q : Option Value} (hp : gw1 p0 = true) (d : dc m pc (.istore_n 1) 1) (h : WP m (pc + 1) (p0 :: some (.int x) :: T) rest M z k n Φ) : WP m pc (p0 :: q :: T) (.int x :: rest) M z k n Φ := g_istore_n d (by show 1 < List.length _; simp) (fun a h => by have h2 : some p0 = some a := h.2; cases h2; exact hp) rfl h
theorem g_istore_2 {p0 p1 q : Option Value} (hp : gw1 p1 = true) (d : dc m pc (.istore_n 2) 1) (h : WP m (pc + 1) (p0 :: p1 :: some (.int x) :: T) rest M z k n Φ) : WP m pc (p0 :: p1 :: q :: T) (.int x :: rest) M z k n Φ := g_istore_n d (by show 2 < List.length _; simp) (fun a h => by have h2 : some p1 = some a := h.2; cases h2; exact hp) rfl h
theorem g_istore_3 {p0 p1 p2 q : Option Value} (hp : gw1 p2 = true) (d : dc m pc (.istore_n 3) 1) (h : WP m (pc + 1) (p0 :: p1 :: p2 :: some (.int x) :: T) rest M z k n Φ) : WP m pc (p0 :: p1 :: p2 :: q :: T) (.int x :: rest) M z k n Φ := g_istore_n d (by show 3 < List.length _; simp) (fun a h => by have h2 : some p2 = some a := h.2; cases h2; exact hp) rfl h
theorem g_istore_4 {p0 p1 p2 p3 q : Option Value} (hp : gw1 p3 = true) (d : dc m pc (.istore 4) 2) (h : WP m (pc + 2) (p0 :: p1 :: p2 :: p3 :: some (.int x) :: T) rest M z k n Φ) : WP m pc (p0 :: p1 :: p2 :: p3 :: q :: T) (.int x :: rest) M z k n Φ := g_istore d (by show 4 < List.length _; simp) (fun a h => by have h2 : some p3 = some a := h.2; cases h2; exact hp) rfl h
theorem g_istore_5 {p0 p1 p2 p3 p4 q : Option Value} (hp : gw1 p4 = true) (d : dc m pc (.istore 5) 2) (h : WP m (pc + 2) (p0 :: p1 :: p2 :: p3 :: p4 :: some (.int x) :: T) rest M z k n Φ) : WP m pc (p0 :: p1 :: p2 :: p3 :: p4 :: q :: T) (.int x :: rest) M z k n Φ := g_istore d (by show 5 < List.length _; simp) (fun a h => by have h2 : some p4 = some a := h.2; cases h2; exact hp) rfl h
theorem g_istore_6 {p0 p1 p2 p3 p4 p5 q : Option Value} (hp : gw1 p5 = true) (d : dc m pc (.istore 6) 2) (h : WP m (pc + 2) (p0 :: p1 :: p2 :: p3 :: p4 :: p5 :: some (.int x) :: T) rest M z k n Φ) : WP m pc (p0 :: p1 :: p2 :: p3 :: p4 :: p5 :: q :: T) (.int x :: rest) M z k n Φ := g_istore d (by show 6 < List.length _; simp) (fun a h => by have h2 : some p5 = some a := h.2; cases h2; exact hp) rfl h
theorem g_istore_7 {p0 p1 p2 p3 p4 p5 p6 q : Option Value} (hp : gw1 p6 = true) (d : dc m pc (.istore 7) 2) (h : WP m (pc + 2) (p0 :: p1 :: p2 :: p3 :: p4 :: p5 :: p6 :: some (.int x) :: T) rest M z k n Φ) : WP m pc (p0 :: p1 :: p2 :: p3 :: p4 :: p5 :: p6 :: q :: T) (.int x :: rest) M z k n Φ := g_istore d (by show 7 < List.length _; simp) (fun a h => by have h2 : some p6 = some a := h.2; cases h2; exact hp) rfl h
theorem g_istore_8 {p0 p1 p2 p3 p4 p5 p6 p7 q : Option Value} (hp : gw1 p7 = true) (d : dc m pc (.istore 8) 2) (h : WP m (pc + 2) (p0 :: p1 :: p2 :: p3 :: p4 :: p5 :: p6 :: p7 :: some (.int x) :: T) rest M z k n Φ) : WP m pc (p0 :: p1 :: p2 :: p3 :: p4 :: p5 :: p6 :: p7 :: q :: T) (.int x :: rest) M z k n Φ := g_istore d (by show 8 < List.length _; simp) (fun a h => by have h2 : some p7 = some a := h.2; cases h2; exact hp) rfl h
theorem g_istore_9 {p0 p1 p2 p3 p4 p5 p6 p7 p8 q : Option Value} (hp : gw1 p8 = true) (d : dc m pc (.istore 9) 2) (h : WP m (pc + 2) (p0 :: p1 :: p2 :: p3 :: p4 :: p5 :: p6 :: p7 :: p8 :: some (.int x) :: T) rest M z k n Φ) : WP m pc (p0 :: p1 :: p2 :: p3 :: p4 :: p5 :: p6 :: p7 :: p8 :: q :: T) (.int x :: rest) M z k n Φ := g_istore d (by show 9 < List.length _; simp) (fun a h => by have h2 : some p8 = some a := h.2; cases h2; exact hp) rfl h
theorem g_astore_0 {q : Option Value} (d : dc m pc (.astore_n 0) 1) (h : WP m (pc + 1) (some (.ref a) :: T) rest M z k n Φ) : WP m pc (q :: T) (.ref a :: rest) M z k n Φ := g_astore_n d (by show 0 < List.length _; simp) (fun a h => absurd rfl h.1) rfl h
theorem g_astore_1 {p0 q : Option Value} (hp : gw1 p0 = true) (d : dc m pc (.astore_n 1) 1) (h : WP m (pc + 1) (p0 :: some (.ref a) :: T) rest M z k n Φ) : WP m pc (p0 :: q :: T) (.ref a :: rest) M z k n Φ := g_astore_n d (by show 1 < List.length _; simp) (fun a h => by have h2 : some p0 = some a := h.2; cases h2; exact hp) rfl h
theorem g_astore_2 {p0 p1 q : Option Value} (hp : gw1 p1 = true) (d : dc m pc (.astore_n 2) 1) (h : WP m (pc + 1) (p0 :: p1 :: some (.ref a) :: T) rest M z k n Φ) : WP m pc (p0 :: p1 :: q :: T) (.ref a :: rest) M z k n Φ := g_astore_n d (by show 2 < List.length _; simp) (fun a h => by have h2 : some p1 = some a := h.2; cases h2; exact hp) rfl h
theorem g_astore_3 {p0 p1 p2 q : Option Value} (hp : gw1 p2 = true) (d : dc m pc (.astore_n 3) 1) (h : WP m (pc + 1) (p0 :: p1 :: p2 :: some (.ref a) :: T) rest M z k n Φ) : WP m pc (p0 :: p1 :: p2 :: q :: T) (.ref a :: rest) M z k n Φ := g_astore_n d (by show 3 < List.length _; simp) (fun a h => by have h2 : some p2 = some a := h.2; cases h2; exact hp) rfl h
theorem g_astore_4 {p0 p1 p2 p3 q : Option Value} (hp : gw1 p3 = true) (d : dc m pc (.astore 4) 2) (h : WP m (pc + 2) (p0 :: p1 :: p2 :: p3 :: some (.ref a) :: T) rest M z k n Φ) : WP m pc (p0 :: p1 :: p2 :: p3 :: q :: T) (.ref a :: rest) M z k n Φ := g_astore d (by show 4 < List.length _; simp) (fun a h => by have h2 : some p3 = some a := h.2; cases h2; exact hp) rfl h
theorem g_astore_5 {p0 p1 p2 p3 p4 q : Option Value} (hp : gw1 p4 = true) (d : dc m pc (.astore 5) 2) (h : WP m (pc + 2) (p0 :: p1 :: p2 :: p3 :: p4 :: some (.ref a) :: T) rest M z k n Φ) : WP m pc (p0 :: p1 :: p2 :: p3 :: p4 :: q :: T) (.ref a :: rest) M z k n Φ := g_astore d (by show 5 < List.length _; simp) (fun a h => by have h2 : some p4 = some a := h.2; cases h2; exact hp) rfl h
theorem g_astore_6 {p0 p1 p2 p3 p4 p5 q : Option Value} (hp : gw1 p5 = true) (d : dc m pc (.astore 6) 2) (h : WP m (pc + 2) (p0 :: p1 :: p2 :: p3 :: p4 :: p5 :: some (.ref a) :: T) rest M z k n Φ) : WP m pc (p0 :: p1 :: p2 :: p3 :: p4 :: p5 :: q :: T) (.ref a :: rest) M z k n Φ := g_astore d (by show 6 < List.length _; simp) (fun a h => by have h2 : some p5 = some a := h.2; cases h2; exact hp) rfl h
theorem g_astore_7 {p0 p1 p2 p3 p4 p5 p6 q : Option Value} (hp : gw1 p6 = true) (d : dc m pc (.astore 7) 2) (h : WP m (pc + 2) (p0 :: p1 :: p2 :: p3 :: p4 :: p5 :: p6 :: some (.ref a) :: T) rest M z k n Φ) : WP m pc (p0 :: p1 :: p2 :: p3 :: p4 :: p5 :: p6 :: q :: T) (.ref a :: rest) M z k n Φ := g_astore d (by show 7 < List.length _; simp) (fun a h => by have h2 : some p6 = some a := h.2; cases h2; exact hp) rfl h
theorem g_astore_8 {p0 p1 p2 p3 p4 p5 p6 p7 q : Option Value} (hp : gw1 p7 = true) (d : dc m pc (.astore 8) 2) (h : WP m (pc + 2) (p0 :: p1 :: p2 :: p3 :: p4 :: p5 :: p6 :: p7 :: some (.ref a) :: T) rest M z k n Φ) : WP m pc (p0 :: p1 :: p2 :: p3 :: p4 :: p5 :: p6 :: p7 :: q :: T) (.ref a :: rest) M z k n Φ := g_astore d (by show 8 < List.length _; simp) (fun a h => by have h2 : some p7 = some a := h.2; cases h2; exact hp) rfl h
theorem g_astore_9 {p0 p1 p2 p3 p4 p5 p6 p7 p8 q : Option Value} (hp : gw1 p8 = true) (d : dc m pc (.astore 9) 2) (h : WP m (pc + 2) (p0 :: p1 :: p2 :: p3 :: p4 :: p5 :: p6 :: p7 :: p8 :: some (.ref a) :: T) rest M z k n Φ) : WP m pc (p0 :: p1 :: p2 :: p3 :: p4 :: p5 :: p6 :: p7 :: p8 :: q :: T) (.ref a :: rest) M z k n Φ := g_astore d (by show 9 < List.length _; simp) (fun a h => by have h2 : some p8 = some a := h.2; cases h2; exact hp) rfl h
theorem g_astore_0N {q : Option Value} (d : dc m pc (.astore_n 0) 1) (h : WP m (pc + 1) (some (.null) :: T) rest M z k n Φ) : WP m pc (q :: T) (.null :: rest) M z k n Φ := g_astore_nN d (by show 0 < List.length _; simp) (fun a h => absurd rfl h.1) rfl h
theorem g_astore_1N {p0 q : Option Value} (hp : gw1 p0 = true) (d : dc m pc (.astore_n 1) 1) (h : WP m (pc + 1) (p0 :: some (.null) :: T) rest M z k n Φ) : WP m pc (p0 :: q :: T) (.null :: rest) M z k n Φ := g_astore_nN d (by show 1 < List.length _; simp) (fun a h => by have h2 : some p0 = some a := h.2; cases h2; exact hp) rfl h
theorem g_astore_2N {p0 p1 q : Option Value} (hp : gw1 p1 = true) (d : dc m pc (.astore_n 2) 1) (h : WP m (pc + 1) (p0 :: p1 :: some (.null) :: T) rest M z k n Φ) : WP m pc (p0 :: p1 :: q :: T) (.null :: rest) M z k n Φ := g_astore_nN d (by show 2 < List.length _; simp) (fun a h => by have h2 : some p1 = some a := h.2; cases h2; exact hp) rfl h
theorem g_astore_3N {p0 p1 p2 q : Option Value} (hp : gw1 p2 = true) (d : dc m pc (.astore_n 3) 1) (h : WP m (pc + 1) (p0 :: p1 :: p2 :: some (.null) :: T) rest M z k n Φ) : WP m pc (p0 :: p1 :: p2 :: q :: T) (.null :: rest) M z k n Φ := g_astore_nN d (by show 3 < List.length _; simp) (fun a h => by have h2 : some p2 = some a := h.2; cases h2; exact hp) rfl h
theorem g_astore_4N {p0 p1 p2 p3 q : Option Value} (hp : gw1 p3 = true) (d : dc m pc (.astore 4) 2) (h : WP m (pc + 2) (p0 :: p1 :: p2 :: p3 :: some (.null) :: T) rest M z k n Φ) : WP m pc (p0 :: p1 :: p2 :: p3 :: q :: T) (.null :: rest) M z k n Φ := g_astoreN d (by show 4 < List.length _; simp) (fun a h => by have h2 : some p3 = some a := h.2; cases h2; exact hp) rfl h
theorem g_astore_5N {p0 p1 p2 p3 p4 q : Option Value} (hp : gw1 p4 = true) (d : dc m pc (.astore 5) 2) (h : WP m (pc + 2) (p0 :: p1 :: p2 :: p3 :: p4 :: some (.null) :: T) rest M z k n Φ) : WP m pc (p0 :: p1 :: p2 :: p3 :: p4 :: q :: T) (.null :: rest) M z k n Φ := g_astoreN d (by show 5 < List.length _; simp) (fun a h => by have h2 : some p4 = some a := h.2; cases h2; exact hp) rfl h
theorem g_astore_6N {p0 p1 p2 p3 p4 p5 q : Option Value} (hp : gw1 p5 = true) (d : dc m pc (.astore 6) 2) (h : WP m (pc + 2) (p0 :: p1 :: p2 :: p3 :: p4 :: p5 :: some (.null) :: T) rest M z k n Φ) : WP m pc (p0 :: p1 :: p2 :: p3 :: p4 :: p5 :: q :: T) (.null :: rest) M z k n Φ := g_astoreN d (by show 6 < List.length _; simp) (fun a h => by have h2 : some p5 = some a := h.2; cases h2; exact hp) rfl h
theorem g_astore_7N {p0 p1 p2 p3 p4 p5 p6 q : Option Value} (hp : gw1 p6 = true) (d : dc m pc (.astore 7) 2) (h : WP m (pc + 2) (p0 :: p1 :: p2 :: p3 :: p4 :: p5 :: p6 :: some (.null) :: T) rest M z k n Φ) : WP m pc (p0 :: p1 :: p2 :: p3 :: p4 :: p5 :: p6 :: q :: T) (.null :: rest) M z k n Φ := g_astoreN d (by show 7 < List.length _; simp) (fun a h => by have h2 : some p6 = some a := h.2; cases h2; exact hp) rfl h
theorem g_astore_8N {p0 p1 p2 p3 p4 p5 p6 p7 q : Option Value} (hp : gw1 p7 = true) (d : dc m pc (.astore 8) 2) (h : WP m (pc + 2) (p0 :: p1 :: p2 :: p3 :: p4 :: p5 :: p6 :: p7 :: some (.null) :: T) rest M z k n Φ) : WP m pc (p0 :: p1 :: p2 :: p3 :: p4 :: p5 :: p6 :: p7 :: q :: T) (.null :: rest) M z k n Φ := g_astoreN d (by show 8 < List.length _; simp) (fun a h => by have h2 : some p7 = some a := h.2; cases h2; exact hp) rfl h
theorem g_astore_9N {p0 p1 p2 p3 p4 p5 p6 p7 p8 q : Option Value} (hp : gw1 p8 = true) (d : dc m pc (.astore 9) 2) (h : WP m (pc + 2) (p0 :: p1 :: p2 :: p3 :: p4 :: p5 :: p6 :: p7 :: p8 :: some (.null) :: T) rest M z k n Φ) : WP m pc (p0 :: p1 :: p2 :: p3 :: p4 :: p5 :: p6 :: p7 :: p8 :: q :: T) (.null :: rest) M z k n Φ := g_astoreN d (by show 9 < List.length _; simp) (fun a h => by have h2 : some p8 = some a := h.2; cases h2; exact hp) rfl h
theorem g_lstore_0 {q q2 : Option Value} (d : dc m pc (.lstore_n 0) 1) (h : WP m (pc + 1) (some (.long xl) :: none :: T) rest M z k n Φ) : WP m pc (q :: q2 :: T) (.long xl :: rest) M z k n Φ := g_lstore_n d (by show 0 + 1 < List.length _; simp) (fun a h => absurd rfl h.1) rfl h
theorem g_lstore_1 {p0 q q2 : Option Value} (hp : gw1 p0 = true) (d : dc m pc (.lstore_n 1) 1) (h : WP m (pc + 1) (p0 :: some (.long xl) :: none :: T) rest M z k n Φ) : WP m pc (p0 :: q :: q2 :: T) (.long xl :: rest) M z k n Φ := g_lstore_n d (by show 1 + 1 < List.length _; simp) (fun a h => by have h2 : some p0 = some a := h.2; cases h2; exact hp) rfl h
theorem g_lstore_2 {p0 p1 q q2 : Option Value} (hp : gw1 p1 = true) (d : dc m pc (.lstore_n 2) 1) (h : WP m (pc + 1) (p0 :: p1 :: some (.long xl) :: none :: T) rest M z k n Φ) : WP m pc (p0 :: p1 :: q :: q2 :: T) (.long xl :: rest) M z k n Φ := g_lstore_n d (by show 2 + 1 < List.length _; simp) (fun a h => by have h2 : some p1 = some a := h.2; cases h2; exact hp) rfl h
theorem g_lstore_3 {p0 p1 p2 q q2 : Option Value} (hp : gw1 p2 = true) (d : dc m pc (.lstore_n 3) 1) (h : WP m (pc + 1) (p0 :: p1 :: p2 :: some (.long xl) :: none :: T) rest M z k n Φ) : WP m pc (p0 :: p1 :: p2 :: q :: q2 :: T) (.long xl :: rest) M z k n Φ := g_lstore_n d (by show 3 + 1 < List.length _; simp) (fun a h => by have h2 : some p2 = some a := h.2; cases h2; exact hp) rfl h
theorem g_lstore_4 {p0 p1 p2 p3 q q2 : Option Value} (hp : gw1 p3 = true) (d : dc m pc (.lstore 4) 2) (h : WP m (pc + 2) (p0 :: p1 :: p2 :: p3 :: some (.long xl) :: none :: T) rest M z k n Φ) : WP m pc (p0 :: p1 :: p2 :: p3 :: q :: q2 :: T) (.long xl :: rest) M z k n Φ := g_lstore d (by show 4 + 1 < List.length _; simp) (fun a h => by have h2 : some p3 = some a := h.2; cases h2; exact hp) rfl h
theorem g_dstore_4 {p0 p1 p2 p3 q q2 : Option Value} {u : UInt64} (hp : gw1 p3 = true) (d : dc m pc (.dstore 4) 2) (h : WP m (pc + 2) (p0 :: p1 :: p2 :: p3 :: some (.double u) :: none :: T) rest M z k n Φ) : WP m pc (p0 :: p1 :: p2 :: p3 :: q :: q2 :: T) (.double u :: rest) M z k n Φ := g_dstore d (by show 4 + 1 < List.length _; simp) (fun a h => by have h2 : some p3 = some a := h.2; cases h2; exact hp) rfl h
theorem g_lstore_5 {p0 p1 p2 p3 p4 q q2 : Option Value} (hp : gw1 p4 = true) (d : dc m pc (.lstore 5) 2) (h : WP m (pc + 2) (p0 :: p1 :: p2 :: p3 :: p4 :: some (.long xl) :: none :: T) rest M z k n Φ) : WP m pc (p0 :: p1 :: p2 :: p3 :: p4 :: q :: q2 :: T) (.long xl :: rest) M z k n Φ := g_lstore d (by show 5 + 1 < List.length _; simp) (fun a h => by have h2 : some p4 = some a := h.2; cases h2; exact hp) rfl h
theorem g_dstore_5 {p0 p1 p2 p3 p4 q q2 : Option Value} {u : UInt64} (hp : gw1 p4 = true) (d : dc m pc (.dstore 5) 2) (h : WP m (pc + 2) (p0 :: p1 :: p2 :: p3 :: p4 :: some (.double u) :: none :: T) rest M z k n Φ) : WP m pc (p0 :: p1 :: p2 :: p3 :: p4 :: q :: q2 :: T) (.double u :: rest) M z k n Φ := g_dstore d (by show 5 + 1 < List.length _; simp) (fun a h => by have h2 : some p4 = some a := h.2; cases h2; exact hp) rfl h
theorem g_lstore_6 {p0 p1 p2 p3 p4 p5 q q2 : Option Value} (hp : gw1 p5 = true) (d : dc m pc (.lstore 6) 2) (h : WP m (pc + 2) (p0 :: p1 :: p2 :: p3 :: p4 :: p5 :: some (.long xl) :: none :: T) rest M z k n Φ) : WP m pc (p0 :: p1 :: p2 :: p3 :: p4 :: p5 :: q :: q2 :: T) (.long xl :: rest) M z k n Φ := g_lstore d (by show 6 + 1 < List.length _; simp) (fun a h => by have h2 : some p5 = some a := h.2; cases h2; exact hp) rfl h
theorem g_dstore_6 {p0 p1 p2 p3 p4 p5 q q2 : Option Value} {u : UInt64} (hp : gw1 p5 = true) (d : dc m pc (.dstore 6) 2) (h : WP m (pc + 2) (p0 :: p1 :: p2 :: p3 :: p4 :: p5 :: some (.double u) :: none :: T) rest M z k n Φ) : WP m pc (p0 :: p1 :: p2 :: p3 :: p4 :: p5 :: q :: q2 :: T) (.double u :: rest) M z k n Φ := g_dstore d (by show 6 + 1 < List.length _; simp) (fun a h => by have h2 : some p5 = some a := h.2; cases h2; exact hp) rfl h
theorem g_lstore_7 {p0 p1 p2 p3 p4 p5 p6 q q2 : Option Value} (hp : gw1 p6 = true) (d : dc m pc (.lstore 7) 2) (h : WP m (pc + 2) (p0 :: p1 :: p2 :: p3 :: p4 :: p5 :: p6 :: some (.long xl) :: none :: T) rest M z k n Φ) : WP m pc (p0 :: p1 :: p2 :: p3 :: p4 :: p5 :: p6 :: q :: q2 :: T) (.long xl :: rest) M z k n Φ := g_lstore d (by show 7 + 1 < List.length _; simp) (fun a h => by have h2 : some p6 = some a := h.2; cases h2; exact hp) rfl h
theorem g_dstore_7 {p0 p1 p2 p3 p4 p5 p6 q q2 : Option Value} {u : UInt64} (hp : gw1 p6 = true) (d : dc m pc (.dstore 7) 2) (h : WP m (pc + 2) (p0 :: p1 :: p2 :: p3 :: p4 :: p5 :: p6 :: some (.double u) :: none :: T) rest M z k n Φ) : WP m pc (p0 :: p1 :: p2 :: p3 :: p4 :: p5 :: p6 :: q :: q2 :: T) (.double u :: rest) M z k n Φ := g_dstore d (by show 7 + 1 < List.length _; simp) (fun a h => by have h2 : some p6 = some a := h.2; cases h2; exact hp) rfl h
theorem g_lstore_8 {p0 p1 p2 p3 p4 p5 p6 p7 q q2 : Option Value} (hp : gw1 p7 = true) (d : dc m pc (.lstore 8) 2) (h : WP m (pc + 2) (p0 :: p1 :: p2 :: p3 :: p4 :: p5 :: p6 :: p7 :: some (.long xl) :: none :: T) rest M z k n Φ) : WP m pc (p0 :: p1 :: p2 :: p3 :: p4 :: p5 :: p6 :: p7 :: q :: q2 :: T) (.long xl :: rest) M z k n Φ := g_lstore d (by show 8 + 1 < List.length _; simp) (fun a h => by have h2 : some p7 = some a := h.2; cases h2; exact hp) rfl h
theorem g_dstore_8 {p0 p1 p2 p3 p4 p5 p6 p7 q q2 : Option Value} {u : UInt64} (hp : gw1 p7 = true) (d : dc m pc (.dstore 8) 2) (h : WP m (pc + 2) (p0 :: p1 :: p2 :: p3 :: p4 :: p5 :: p6 :: p7 :: some (.double u) :: none :: T) rest M z k n Φ) : WP m pc (p0 :: p1 :: p2 :: p3 :: p4 :: p5 :: p6 :: p7 :: q :: q2 :: T) (.double u :: rest) M z k n Φ := g_dstore d (by show 8 + 1 < List.length _; simp) (fun a h => by have h2 : some p7 = some a := h.2; cases h2; exact hp) rfl h
theorem g_iinc_0 {q : Int} (d : dc m pc (.iinc 0 q) 3) (hv : Int32.ofInt q = y) (h : WP m (pc + 3) (some (.int (x + y)) :: T) rest M z k n Φ) : WP m pc (some (.int x) :: T) rest M z k n Φ := g_iinc d rfl (fun a h => absurd rfl h.1) hv rfl h
theorem g_iinc_1 {p0 : Option Value} {q : Int} (hp : gw1 p0 = true) (d : dc m pc (.iinc 1 q) 3) (hv : Int32.ofInt q = y) (h : WP m (pc + 3) (p0 :: some (.int (x + y)) :: T) rest M z k n Φ) : WP m pc (p0 :: some (.int x) :: T) rest M z k n Φ := g_iinc d rfl (fun a h => by have h2 : some p0 = some a := h.2; cases h2; exact hp) hv rfl h
theorem g_iinc_2 {p0 p1 : Option Value} {q : Int} (hp : gw1 p1 = true) (d : dc m pc (.iinc 2 q) 3) (hv : Int32.ofInt q = y) (h : WP m (pc + 3) (p0 :: p1 :: some (.int (x + y)) :: T) rest M z k n Φ) : WP m pc (p0 :: p1 :: some (.int x) :: T) rest M z k n Φ := g_iinc d rfl (fun a h => by have h2 : some p1 = some a := h.2; cases h2; exact hp) hv rfl h
theorem g_iinc_3 {p0 p1 p2 : Option Value} {q : Int} (hp : gw1 p2 = true) (d : dc m pc (.iinc 3 q) 3) (hv : Int32.ofInt q = y) (h : WP m (pc + 3) (p0 :: p1 :: p2 :: some (.int (x + y)) :: T) rest M z k n Φ) : WP m pc (p0 :: p1 :: p2 :: some (.int x) :: T) rest M z k n Φ := g_iinc d rfl (fun a h => by have h2 : some p2 = some a := h.2; cases h2; exact hp) hv rfl h
theorem g_iinc_4 {p0 p1 p2 p3 : Option Value} {q : Int} (hp : gw1 p3 = true) (d : dc m pc (.iinc 4 q) 3) (hv : Int32.ofInt q = y) (h : WP m (pc + 3) (p0 :: p1 :: p2 :: p3 :: some (.int (x + y)) :: T) rest M z k n Φ) : WP m pc (p0 :: p1 :: p2 :: p3 :: some (.int x) :: T) rest M z k n Φ := g_iinc d rfl (fun a h => by have h2 : some p3 = some a := h.2; cases h2; exact hp) hv rfl h
theorem g_iinc_5 {p0 p1 p2 p3 p4 : Option Value} {q : Int} (hp : gw1 p4 = true) (d : dc m pc (.iinc 5 q) 3) (hv : Int32.ofInt q = y) (h : WP m (pc + 3) (p0 :: p1 :: p2 :: p3 :: p4 :: some (.int (x + y)) :: T) rest M z k n Φ) : WP m pc (p0 :: p1 :: p2 :: p3 :: p4 :: some (.int x) :: T) rest M z k n Φ := g_iinc d rfl (fun a h => by have h2 : some p4 = some a := h.2; cases h2; exact hp) hv rfl h
theorem g_iinc_6 {p0 p1 p2 p3 p4 p5 : Option Value} {q : Int} (hp : gw1 p5 = true) (d : dc m pc (.iinc 6 q) 3) (hv : Int32.ofInt q = y) (h : WP m (pc + 3) (p0 :: p1 :: p2 :: p3 :: p4 :: p5 :: some (.int (x + y)) :: T) rest M z k n Φ) : WP m pc (p0 :: p1 :: p2 :: p3 :: p4 :: p5 :: some (.int x) :: T) rest M z k n Φ := g_iinc d rfl (fun a h => by have h2 : some p5 = some a := h.2; cases h2; exact hp) hv rfl h
theorem g_iinc_7 {p0 p1 p2 p3 p4 p5 p6 : Option Value} {q : Int} (hp : gw1 p6 = true) (d : dc m pc (.iinc 7 q) 3) (hv : Int32.ofInt q = y) (h : WP m (pc + 3) (p0 :: p1 :: p2 :: p3 :: p4 :: p5 :: p6 :: some (.int (x + y)) :: T) rest M z k n Φ) : WP m pc (p0 :: p1 :: p2 :: p3 :: p4 :: p5 :: p6 :: some (.int x) :: T) rest M z k n Φ := g_iinc d rfl (fun a h => by have h2 : some p6 = some a := h.2; cases h2; exact hp) hv rfl h
theorem g_iinc_8 {p0 p1 p2 p3 p4 p5 p6 p7 : Option Value} {q : Int} (hp : gw1 p7 = true) (d : dc m pc (.iinc 8 q) 3) (hv : Int32.ofInt q = y) (h : WP m (pc + 3) (p0 :: p1 :: p2 :: p3 :: p4 :: p5 :: p6 :: p7 :: some (.int (x + y)) :: T) rest M z k n Φ) : WP m pc (p0 :: p1 :: p2 :: p3 :: p4 :: p5 :: p6 :: p7 :: some (.int x) :: T) rest M z k n Φ := g_iinc d rfl (fun a h => by have h2 : some p7 = some a := h.2; cases h2; exact hp) hv rfl h
theorem g_iinc_9 {p0 p1 p2 p3 p4 p5 p6 p7 p8 : Option Value} {q : Int} (hp : gw1 p8 = true) (d : dc m pc (.iinc 9 q) 3) (hv : Int32.ofInt q = y) (h : WP m (pc + 3) (p0 :: p1 :: p2 :: p3 :: p4 :: p5 :: p6 :: p7 :: p8 :: some (.int (x + y)) :: T) rest M z k n Φ) : WP m pc (p0 :: p1 :: p2 :: p3 :: p4 :: p5 :: p6 :: p7 :: p8 :: some (.int x) :: T) rest M z k n Φ := g_iinc d rfl (fun a h => by have h2 : some p8 = some a := h.2; cases h2; exact hp) hv rfl h
theorem g_ireturn {ty : FieldType} (hr : gr m = some ty) (hnr : narrow ty (.int x) = .int x) (d : dc m pc .ireturn 1) (hk : k ≤ gce m) (hn : n ≤ gsl m) (hΦ : Φ (.inl (some (.int x))) M z) : WP m pc L [.int x] M z k n Φ := by
  intro D dA base p l e s mid args below meth c C H locs ls hR hS hL
  obtain ⟨hx, hb, hml, hown, hts, hlocks, hl, hname, hret, hT, hG, hbase, htab⟩ := C
  refine W.widen hk hn (vx_ret ?_)
  exact W.zret hx hb (hret.trans hr) hnr (fun t ht hW => ⟨⟨_, M, z, rfl, hΦ, by rw [ht]; exact hR⟩, va_S.F hS ht⟩) (fun q hq => hS.2.2 q hq) d hlocks
theorem g_return (hr : gr m = none) (d : dc m pc .return_ 1) (hk : k ≤ gce m) (hn : n ≤ gsl m) (hΦ : Φ (.inl none) M z) : WP m pc L [] M z k n Φ := by
  intro D dA base p l e s mid args below meth c C H locs ls hR hS hL
  obtain ⟨hx, hb, hml, hown, hts, hlocks, hl, hname, hret, hT, hG, hbase, htab⟩ := C
  refine W.widen hk hn (vx_ret ?_)
  exact W.vret hx hb (hret.trans hr) (fun t ht hW => ⟨⟨_, M, z, rfl, hΦ, by rw [ht]; exact hR⟩, va_S.F hS ht⟩) (fun q hq => hS.2.2 q hq) d hlocks
theorem g_areturn {ty : String} (hr : gr m = some (.object ty)) (d : dc m pc .areturn 1) (hk : k ≤ gce m) (hn : n ≤ gsl m) (hΦ : Φ (.inl (some (.ref a))) M z) : WP m pc L [.ref a] M z k n Φ := by
  intro D dA base p l e s mid args below meth c C H locs ls hR hS hL
  obtain ⟨hx, hb, hml, hown, hts, hlocks, hl, hname, hret, hT, hG, hbase, htab⟩ := C
  refine W.widen hk hn (vx_ret ?_)
  exact W.aret hx hb (hret.trans hr) (Or.inl ⟨ty, rfl⟩) (Or.inr ⟨a, rfl⟩) (fun t ht hW => ⟨⟨_, M, z, rfl, hΦ, by rw [ht]; exact hR⟩, va_S.F hS ht⟩) (fun q hq => hS.2.2 q hq) d hlocks
theorem g_areturnN {ty : String} (hr : gr m = some (.object ty)) (d : dc m pc .areturn 1) (hk : k ≤ gce m) (hn : n ≤ gsl m) (hΦ : Φ (.inl (some .null)) M z) : WP m pc L [.null] M z k n Φ := by
  intro D dA base p l e s mid args below meth c C H locs ls hR hS hL
  obtain ⟨hx, hb, hml, hown, hts, hlocks, hl, hname, hret, hT, hG, hbase, htab⟩ := C
  refine W.widen hk hn (vx_ret ?_)
  exact W.aret hx hb (hret.trans hr) (Or.inl ⟨ty, rfl⟩) (Or.inl rfl) (fun t ht hW => ⟨⟨_, M, z, rfl, hΦ, by rw [ht]; exact hR⟩, va_S.F hS ht⟩) (fun q hq => hS.2.2 q hq) d hlocks
theorem g_freturn {u : UInt32} (hr : gr m = some .float) (d : dc m pc .freturn 1) (hk : k ≤ gce m) (hn : n ≤ gsl m) (hΦ : Φ (.inl (some (.float u))) M z) : WP m pc L [.float u] M z k n Φ := by
  intro D dA base p l e s mid args below meth c C H locs ls hR hS hL
  obtain ⟨hx, hb, hml, hown, hts, hlocks, hl, hname, hret, hT, hG, hbase, htab⟩ := C
  refine W.widen hk hn (vx_ret ?_)
  exact W.fret hx hb (hret.trans hr) (fun t ht hW => ⟨⟨_, M, z, rfl, hΦ, by rw [ht]; exact hR⟩, va_S.F hS ht⟩) (fun q hq => hS.2.2 q hq) d hlocks
theorem g_dreturn {u : UInt64} (hr : gr m = some .double) (d : dc m pc .dreturn 1) (hk : k ≤ gce m) (hn : n ≤ gsl m) (hΦ : Φ (.inl (some (.double u))) M z) : WP m pc L [.double u] M z k n Φ := by
  intro D dA base p l e s mid args below meth c C H locs ls hR hS hL
  obtain ⟨hx, hb, hml, hown, hts, hlocks, hl, hname, hret, hT, hG, hbase, htab⟩ := C
  refine W.widen hk hn (vx_ret ?_)
  exact W.dret hx hb (hret.trans hr) (fun t ht hW => ⟨⟨_, M, z, rfl, hΦ, by rw [ht]; exact hR⟩, va_S.F hS ht⟩) (fun q hq => hS.2.2 q hq) d hlocks
end ROWS
