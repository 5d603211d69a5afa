/-! THE LIFTED ROWS: a row an instruction, over one heap that is a function. M: the machine's own things, in one tuple. -/
abbrev ac_M : Type := Program × Launch × Env × Room × State × MethodId × Array Value × List Frame × Method × Code × (State → Prop)
def ac_MC (G : ac_G) (own : String) (cc : ByteArray) (nL : Nat) (ret : Option FieldType) (M : ac_M) : Prop := ac_C G own cc nL ret M.1 M.2.2.2.2.1 M.2.2.2.2.2.1 M.2.2.2.2.2.2.1 M.2.2.2.2.2.2.2.2.1 M.2.2.2.2.2.2.2.2.2.1
def ac_W (M : ac_M) (H : Heap) (locs : List Loc) (k n : Nat) (g : JFrame) : Prop := W M.1 M.2.1 M.2.2.1 M.2.2.2.1 M.2.2.2.2.1 M.2.2.2.2.2.1 M.2.2.2.2.2.2.1 M.2.2.2.2.2.2.2.1 M.2.2.2.2.2.2.2.2.1 M.2.2.2.2.2.2.2.2.2.1 H locs k n M.2.2.2.2.2.2.2.2.2.2 g
abbrev ac_Rm (M : ac_M) : Room := M.2.2.2.1
abbrev ac_St (M : ac_M) : State := M.2.2.2.2.1
abbrev ac_Id (M : ac_M) : MethodId := M.2.2.2.2.2.1
abbrev ac_Ar (M : ac_M) : Array Value := M.2.2.2.2.2.2.1
abbrev ac_Be (M : ac_M) : List Frame := M.2.2.2.2.2.2.2.1
abbrev ac_Me (M : ac_M) : Method := M.2.2.2.2.2.2.2.2.1
abbrev ac_Co (M : ac_M) : Code := M.2.2.2.2.2.2.2.2.2.1
abbrev ac_Z (M : ac_M) : State → Prop := M.2.2.2.2.2.2.2.2.2.2
def aw (G : ac_G) (nL : Nat) (M : ac_M) (pc : Nat) (ls st : List Value) (h : ac_H) (k n : Nat) : Prop :=
  ∀ (H : Heap) (locs : List Loc) (la : Array Slot), ac_R G h H → va_S (ac_A G) (ac_St M).heap H locs → ac_L la nL ls → ac_W M H locs k n (F0 (ac_Id M) pc la st)
section
variable {G : ac_G} {own : String} {cc : ByteArray} {nL : Nat} {ret : Option FieldType} {M : ac_M} {pc q : Nat} {ls ls' st : List Value} {h : ac_H} {k n : Nat}
theorem ac_MC.x (C : ac_MC G own cc nL ret M) : M.1.tables.exec = Jvm.exec := C.1
theorem ac_MC.b (C : ac_MC G own cc nL ret M) : (ac_Co M).code = cc := C.2.1
theorem ac_MC.ml (C : ac_MC G own cc nL ret M) : (ac_Co M).maxLocals = nL := C.2.2.1
theorem ac_MC.ow (C : ac_MC G own cc nL ret M) : (ac_St M).vm.findClass own = some (ac_Id M).cls := C.2.2.2.1
theorem ac_MC.ws (C : ac_MC G own cc nL ret M) : ∀ w ∈ ac_ws, w.before (ac_Ar M) (ac_St M) = true := C.2.2.2.2.1
theorem ac_MC.U (C : ac_MC G own cc nL ret M) : ac_U G (ac_St M) := C.2.2.2.2.2.1
theorem ac_MC.K (C : ac_MC G own cc nL ret M) : va_K G.1 vwCl (ac_T G.2.1) (ac_St M) := C.U.1
theorem ac_MC.lk (C : ac_MC G own cc nL ret M) : (ac_Me M).locks = false := C.2.2.2.2.2.2.1
theorem ac_MC.rt (C : ac_MC G own cc nL ret M) : (ac_Me M).sig.returnType = ret := C.2.2.2.2.2.2.2
theorem aw_iadd {x y : Int32} (C : ac_MC G own cc nL ret M) (d : decode cc pc = .ok (.iadd, 1)) (hq : pc + 1 = q) (kk : aw G nL M q ls (.int (x + y) :: st) h k n) : aw G nL M pc ls (.int y :: .int x :: st) h k n := by
  subst hq
  exact fun H locs la hR hS hL => lv_iadd C.x C.b d (kk H locs la hR hS hL)
theorem aw_ladd {x y : Int64} (C : ac_MC G own cc nL ret M) (d : decode cc pc = .ok (.ladd, 1)) (hq : pc + 1 = q) (kk : aw G nL M q ls (.long (x + y) :: st) h k n) : aw G nL M pc ls (.long y :: .long x :: st) h k n := by
  subst hq
  exact fun H locs la hR hS hL => lv_ladd C.x C.b d (kk H locs la hR hS hL)
theorem aw_isub {x y : Int32} (C : ac_MC G own cc nL ret M) (d : decode cc pc = .ok (.isub, 1)) (hq : pc + 1 = q) (kk : aw G nL M q ls (.int (x - y) :: st) h k n) : aw G nL M pc ls (.int y :: .int x :: st) h k n := by
  subst hq
  exact fun H locs la hR hS hL => lv_isub C.x C.b d (kk H locs la hR hS hL)
theorem aw_lsub {x y : Int64} (C : ac_MC G own cc nL ret M) (d : decode cc pc = .ok (.lsub, 1)) (hq : pc + 1 = q) (kk : aw G nL M q ls (.long (x - y) :: st) h k n) : aw G nL M pc ls (.long y :: .long x :: st) h k n := by
  subst hq
  exact fun H locs la hR hS hL => lv_lsub C.x C.b d (kk H locs la hR hS hL)
theorem aw_imul {x y : Int32} (C : ac_MC G own cc nL ret M) (d : decode cc pc = .ok (.imul, 1)) (hq : pc + 1 = q) (kk : aw G nL M q ls (.int (x * y) :: st) h k n) : aw G nL M pc ls (.int y :: .int x :: st) h k n := by
  subst hq
  exact fun H locs la hR hS hL => lv_imul C.x C.b d (kk H locs la hR hS hL)
theorem aw_lmul {x y : Int64} (C : ac_MC G own cc nL ret M) (d : decode cc pc = .ok (.lmul, 1)) (hq : pc + 1 = q) (kk : aw G nL M q ls (.long (x * y) :: st) h k n) : aw G nL M pc ls (.long y :: .long x :: st) h k n := by
  subst hq
  exact fun H locs la hR hS hL => lv_lmul C.x C.b d (kk H locs la hR hS hL)
theorem aw_iand {x y : Int32} (C : ac_MC G own cc nL ret M) (d : decode cc pc = .ok (.iand, 1)) (hq : pc + 1 = q) (kk : aw G nL M q ls (.int (x &&& y) :: st) h k n) : aw G nL M pc ls (.int y :: .int x :: st) h k n := by
  subst hq
  exact fun H locs la hR hS hL => lv_iand C.x C.b d (kk H locs la hR hS hL)
theorem aw_land {x y : Int64} (C : ac_MC G own cc nL ret M) (d : decode cc pc = .ok (.land, 1)) (hq : pc + 1 = q) (kk : aw G nL M q ls (.long (x &&& y) :: st) h k n) : aw G nL M pc ls (.long y :: .long x :: st) h k n := by
  subst hq
  exact fun H locs la hR hS hL => lv_land C.x C.b d (kk H locs la hR hS hL)
theorem aw_ior {x y : Int32} (C : ac_MC G own cc nL ret M) (d : decode cc pc = .ok (.ior, 1)) (hq : pc + 1 = q) (kk : aw G nL M q ls (.int (x ||| y) :: st) h k n) : aw G nL M pc ls (.int y :: .int x :: st) h k n := by
  subst hq
  exact fun H locs la hR hS hL => lv_ior C.x C.b d (kk H locs la hR hS hL)
theorem aw_lor {x y : Int64} (C : ac_MC G own cc nL ret M) (d : decode cc pc = .ok (.lor, 1)) (hq : pc + 1 = q) (kk : aw G nL M q ls (.long (x ||| y) :: st) h k n) : aw G nL M pc ls (.long y :: .long x :: st) h k n := by
  subst hq
  exact fun H locs la hR hS hL => lv_lor C.x C.b d (kk H locs la hR hS hL)
theorem aw_ixor {x y : Int32} (C : ac_MC G own cc nL ret M) (d : decode cc pc = .ok (.ixor, 1)) (hq : pc + 1 = q) (kk : aw G nL M q ls (.int (x ^^^ y) :: st) h k n) : aw G nL M pc ls (.int y :: .int x :: st) h k n := by
  subst hq
  exact fun H locs la hR hS hL => lv_ixor C.x C.b d (kk H locs la hR hS hL)
theorem aw_lxor {x y : Int64} (C : ac_MC G own cc nL ret M) (d : decode cc pc = .ok (.lxor, 1)) (hq : pc + 1 = q) (kk : aw G nL M q ls (.long (x ^^^ y) :: st) h k n) : aw G nL M pc ls (.long y :: .long x :: st) h k n := by
  subst hq
  exact fun H locs la hR hS hL => lv_lxor C.x C.b d (kk H locs la hR hS hL)
theorem aw_idiv {x y : Int32} (C : ac_MC G own cc nL ret M) (d : decode cc pc = .ok (.idiv, 1)) (hne : ¬ y = 0) (hq : pc + 1 = q) (kk : aw G nL M q ls (.int (x / y) :: st) h k n) : aw G nL M pc ls (.int y :: .int x :: st) h k n := by
  subst hq
  exact fun H locs la hR hS hL => lv_idiv C.x C.b d hne (kk H locs la hR hS hL)
theorem aw_irem {x y : Int32} (C : ac_MC G own cc nL ret M) (d : decode cc pc = .ok (.irem, 1)) (hne : ¬ y = 0) (hq : pc + 1 = q) (kk : aw G nL M q ls (.int (x - x / y * y) :: st) h k n) : aw G nL M pc ls (.int y :: .int x :: st) h k n := by
  subst hq
  exact fun H locs la hR hS hL => lv_irem C.x C.b d hne (kk H locs la hR hS hL)
theorem aw_ldiv {x y : Int64} (C : ac_MC G own cc nL ret M) (d : decode cc pc = .ok (.ldiv, 1)) (hne : ¬ y = 0) (hq : pc + 1 = q) (kk : aw G nL M q ls (.long (x / y) :: st) h k n) : aw G nL M pc ls (.long y :: .long x :: st) h k n := by
  subst hq
  exact fun H locs la hR hS hL => lv_ldiv C.x C.b d hne (kk H locs la hR hS hL)
theorem aw_ineg {x : Int32} (C : ac_MC G own cc nL ret M) (d : decode cc pc = .ok (.ineg, 1)) (hq : pc + 1 = q) (kk : aw G nL M q ls (.int (-x) :: st) h k n) : aw G nL M pc ls (.int x :: st) h k n := by
  subst hq
  exact fun H locs la hR hS hL => lv_ineg C.x C.b d (kk H locs la hR hS hL)
theorem aw_lneg {x : Int64} (C : ac_MC G own cc nL ret M) (d : decode cc pc = .ok (.lneg, 1)) (hq : pc + 1 = q) (kk : aw G nL M q ls (.long (-x) :: st) h k n) : aw G nL M pc ls (.long x :: st) h k n := by
  subst hq
  exact fun H locs la hR hS hL => lv_lneg C.x C.b d (kk H locs la hR hS hL)
theorem aw_ishl {x y : Int32} (C : ac_MC G own cc nL ret M) (d : decode cc pc = .ok (.ishl, 1)) (hq : pc + 1 = q) (kk : aw G nL M q ls (.int (x <<< (y &&& 31)) :: st) h k n) : aw G nL M pc ls (.int y :: .int x :: st) h k n := by
  subst hq
  exact fun H locs la hR hS hL => lv_ishl C.x C.b d (kk H locs la hR hS hL)
theorem aw_ishr {x y : Int32} (C : ac_MC G own cc nL ret M) (d : decode cc pc = .ok (.ishr, 1)) (hq : pc + 1 = q) (kk : aw G nL M q ls (.int (x >>> (y &&& 31)) :: st) h k n) : aw G nL M pc ls (.int y :: .int x :: st) h k n := by
  subst hq
  exact fun H locs la hR hS hL => lv_ishr C.x C.b d (kk H locs la hR hS hL)
theorem aw_iushr {x y : Int32} (C : ac_MC G own cc nL ret M) (d : decode cc pc = .ok (.iushr, 1)) (hq : pc + 1 = q) (kk : aw G nL M q ls (.int (x.toUInt32 >>> (y.toUInt32 &&& Int32.toUInt32 31)).toInt32 :: st) h k n) : aw G nL M pc ls (.int y :: .int x :: st) h k n := by
  subst hq
  exact fun H locs la hR hS hL => lv_iushr C.x C.b d rfl (kk H locs la hR hS hL)
theorem aw_lshl {x : Int64} {y : Int32} (C : ac_MC G own cc nL ret M) (d : decode cc pc = .ok (.lshl, 1)) (hq : pc + 1 = q) (kk : aw G nL M q ls (.long (x <<< (y.toInt64 &&& 63)) :: st) h k n) : aw G nL M pc ls (.int y :: .long x :: st) h k n := by
  subst hq
  exact fun H locs la hR hS hL => lv_lshl C.x C.b d rfl (kk H locs la hR hS hL)
theorem aw_i2l {x : Int32} (C : ac_MC G own cc nL ret M) (d : decode cc pc = .ok (.i2l, 1)) (hq : pc + 1 = q) (kk : aw G nL M q ls (.long x.toInt64 :: st) h k n) : aw G nL M pc ls (.int x :: st) h k n := by
  subst hq
  exact fun H locs la hR hS hL => lv_i2l C.x C.b d rfl (kk H locs la hR hS hL)
theorem aw_l2i {x : Int64} (C : ac_MC G own cc nL ret M) (d : decode cc pc = .ok (.l2i, 1)) (hq : pc + 1 = q) (kk : aw G nL M q ls (.int x.toInt32 :: st) h k n) : aw G nL M pc ls (.long x :: st) h k n := by
  subst hq
  exact fun H locs la hR hS hL => lv_l2i C.x C.b d rfl (kk H locs la hR hS hL)
theorem aw_i2c {x : Int32} (C : ac_MC G own cc nL ret M) (d : decode cc pc = .ok (.i2c, 1)) (hq : pc + 1 = q) (kk : aw G nL M q ls (.int (x.toUInt32 % 65536).toInt32 :: st) h k n) : aw G nL M pc ls (.int x :: st) h k n := by
  subst hq
  exact fun H locs la hR hS hL => lv_i2c C.x C.b d rfl (kk H locs la hR hS hL)
theorem aw_lcmp {x y : Int64} (C : ac_MC G own cc nL ret M) (d : decode cc pc = .ok (.lcmp, 1)) (hq : pc + 1 = q) (kk : aw G nL M q ls (.int (lg_cmp x y) :: st) h k n) : aw G nL M pc ls (.long y :: .long x :: st) h k n := by
  subst hq
  exact fun H locs la hR hS hL => W.lcmp C.x C.b d (kk H locs la hR hS hL)
theorem aw_dup {v : Value} (C : ac_MC G own cc nL ret M) (d : decode cc pc = .ok (.dup, 1)) (hv : v.category = 1) (hq : pc + 1 = q) (kk : aw G nL M q ls (v :: v :: st) h k n) : aw G nL M pc ls (v :: st) h k n := by
  subst hq
  exact fun H locs la hR hS hL => lv_dup C.x C.b d hv (kk H locs la hR hS hL)
theorem aw_pop {v : Value} (C : ac_MC G own cc nL ret M) (d : decode cc pc = .ok (.pop, 1)) (hv : v.category = 1) (hq : pc + 1 = q) (kk : aw G nL M q ls (st) h k n) : aw G nL M pc ls (v :: st) h k n := by
  subst hq
  exact fun H locs la hR hS hL => lv_pop C.x C.b d hv (kk H locs la hR hS hL)
theorem aw_dup2_11 {v w : Value} (C : ac_MC G own cc nL ret M) (d : decode cc pc = .ok (.dup2, 1)) (hv : v.category = 1) (hw : w.category = 1) (hq : pc + 1 = q) (kk : aw G nL M q ls (v :: w :: v :: w :: st) h k n) : aw G nL M pc ls (v :: w :: st) h k n := by
  subst hq
  exact fun H locs la hR hS hL => lv_dup2_11 C.x C.b d hv hw (kk H locs la hR hS hL)
theorem aw_dup2_2 {v : Value} (C : ac_MC G own cc nL ret M) (d : decode cc pc = .ok (.dup2, 1)) (hv : v.category = 2) (hq : pc + 1 = q) (kk : aw G nL M q ls (v :: v :: st) h k n) : aw G nL M pc ls (v :: st) h k n := by
  subst hq
  exact fun H locs la hR hS hL => lv_dup2_2 C.x C.b d hv (kk H locs la hR hS hL)
theorem aw_null (C : ac_MC G own cc nL ret M) (d : decode cc pc = .ok (.aconst_null, 1)) (hq : pc + 1 = q) (kk : aw G nL M q ls (.null :: st) h k n) : aw G nL M pc ls (st) h k n := by
  subst hq
  exact fun H locs la hR hS hL => lv_null C.x C.b d (kk H locs la hR hS hL)
theorem aw_iconst {i : Int} {v : Int32} (C : ac_MC G own cc nL ret M) (d : decode cc pc = .ok (.iconst i, 1)) (hv : Int32.ofInt i = v) (hq : pc + 1 = q) (kk : aw G nL M q ls (.int v :: st) h k n) : aw G nL M pc ls (st) h k n := by
  subst hq
  exact fun H locs la hR hS hL => lv_iconst C.x C.b d hv (kk H locs la hR hS hL)
theorem aw_bipush {i : Int} {v : Int32} (C : ac_MC G own cc nL ret M) (d : decode cc pc = .ok (.bipush i, 2)) (hv : (Int8.ofInt i).toInt32 = v) (hq : pc + 2 = q) (kk : aw G nL M q ls (.int v :: st) h k n) : aw G nL M pc ls (st) h k n := by
  subst hq
  exact fun H locs la hR hS hL => lv_bipush C.x C.b d hv (kk H locs la hR hS hL)
theorem aw_sipush {i : Int} {v : Int32} (C : ac_MC G own cc nL ret M) (d : decode cc pc = .ok (.sipush i, 3)) (hv : (Int16.ofInt i).toInt32 = v) (hq : pc + 3 = q) (kk : aw G nL M q ls (.int v :: st) h k n) : aw G nL M pc ls (st) h k n := by
  subst hq
  exact fun H locs la hR hS hL => lv_sipush C.x C.b d hv (kk H locs la hR hS hL)
theorem aw_lconst {i : Fin 2} {v : Int64} (C : ac_MC G own cc nL ret M) (d : decode cc pc = .ok (.lconst i, 1)) (hv : Int64.ofNat (i : Nat) = v) (hq : pc + 1 = q) (kk : aw G nL M q ls (.long v :: st) h k n) : aw G nL M pc ls (st) h k n := by
  subst hq
  exact fun H locs la hR hS hL => lv_lconst C.x C.b d hv (kk H locs la hR hS hL)
theorem aw_ldc {i : Nat} {v : Int32} (C : ac_MC G own cc nL ret M) (d : decode cc pc = .ok (.ldc i, 2)) (hw : Cond.constant own i v ∈ ac_ws) (hq : pc + 2 = q) (kk : aw G nL M q ls (.int v :: st) h k n) : aw G nL M pc ls st h k n := by
  subst hq
  exact fun H locs la hR hS hL => lv_ldc C.x C.b C.ow (C.ws _ hw) d (kk H locs la hR hS hL)
theorem aw_ldc2 {i : Nat} {v : Int64} (C : ac_MC G own cc nL ret M) (d : decode cc pc = .ok (.ldc2_w i, 3)) (hw : Cond.constantLong own i v ∈ ac_ws) (hq : pc + 3 = q) (kk : aw G nL M q ls (.long v :: st) h k n) : aw G nL M pc ls st h k n := by
  subst hq
  exact fun H locs la hR hS hL => lv_ldc2 C.x C.b C.ow (C.ws _ hw) d (kk H locs la hR hS hL)
theorem ac_live_i (x : Int32) : ac_live (.int x) := fun _ z => by cases z
theorem ac_live_l (x : Int64) : ac_live (.long x) := fun _ z => by cases z
theorem ac_live_r (x : Nat) : ac_live (.ref x) := fun _ z => by cases z
theorem ac_live_n : ac_live .null := fun _ z => by cases z
theorem aw_iload_n {j : Fin 4} {i : Nat} {x : Int32} (C : ac_MC G own cc nL ret M) (d : decode cc pc = .ok (.iload_n j, 1)) (hi : (j : Nat) = i) (hl : ls[i]? = some (.int x)) (hq : pc + 1 = q) (kk : aw G nL M q ls (.int x :: st) h k n) : aw G nL M pc ls st h k n := by
  subst hq
  exact fun H locs la hR hS hL => lv_iload_n C.x C.b d hi (hL.at hl (ac_live_i x)) (kk H locs la hR hS hL)
theorem aw_iload {i : Nat} {x : Int32} (C : ac_MC G own cc nL ret M) (d : decode cc pc = .ok (.iload i, 2)) (hl : ls[i]? = some (.int x)) (hq : pc + 2 = q) (kk : aw G nL M q ls (.int x :: st) h k n) : aw G nL M pc ls st h k n := by
  subst hq
  exact fun H locs la hR hS hL => lv_iload C.x C.b d (hL.at hl (ac_live_i x)) (kk H locs la hR hS hL)
theorem aw_lload_n {j : Fin 4} {i : Nat} {x : Int64} (C : ac_MC G own cc nL ret M) (d : decode cc pc = .ok (.lload_n j, 1)) (hi : (j : Nat) = i) (hl : ls[i]? = some (.long x)) (hq : pc + 1 = q) (kk : aw G nL M q ls (.long x :: st) h k n) : aw G nL M pc ls st h k n := by
  subst hq
  exact fun H locs la hR hS hL => lv_lload_n C.x C.b d hi (hL.at hl (ac_live_l x)) (kk H locs la hR hS hL)
theorem aw_lload {i : Nat} {x : Int64} (C : ac_MC G own cc nL ret M) (d : decode cc pc = .ok (.lload i, 2)) (hl : ls[i]? = some (.long x)) (hq : pc + 2 = q) (kk : aw G nL M q ls (.long x :: st) h k n) : aw G nL M pc ls st h k n := by
  subst hq
  exact fun H locs la hR hS hL => lv_lload C.x C.b d (hL.at hl (ac_live_l x)) (kk H locs la hR hS hL)
theorem aw_aload_n {j : Fin 4} {i : Nat} {x : Nat} (C : ac_MC G own cc nL ret M) (d : decode cc pc = .ok (.aload_n j, 1)) (hi : (j : Nat) = i) (hl : ls[i]? = some (.ref x)) (hq : pc + 1 = q) (kk : aw G nL M q ls (.ref x :: st) h k n) : aw G nL M pc ls st h k n := by
  subst hq
  exact fun H locs la hR hS hL => lv_aload_n C.x C.b d hi (hL.at hl (ac_live_r x)) (kk H locs la hR hS hL)
theorem aw_aload {i : Nat} {x : Nat} (C : ac_MC G own cc nL ret M) (d : decode cc pc = .ok (.aload i, 2)) (hl : ls[i]? = some (.ref x)) (hq : pc + 2 = q) (kk : aw G nL M q ls (.ref x :: st) h k n) : aw G nL M pc ls st h k n := by
  subst hq
  exact fun H locs la hR hS hL => lv_aload C.x C.b d (hL.at hl (ac_live_r x)) (kk H locs la hR hS hL)
theorem aw_aload_nQ {j : Fin 4} {i : Nat} {r : Option Nat} (C : ac_MC G own cc nL ret M) (d : decode cc pc = .ok (.aload_n j, 1)) (hi : (j : Nat) = i) (hl : ls[i]? = some (va_rf r)) (hq : pc + 1 = q) (kk : aw G nL M q ls (va_rf r :: st) h k n) : aw G nL M pc ls st h k n := by
  cases r with
  | none =>
    subst hq
    exact fun H locs la hR hS hL => lv_aload_nN C.x C.b d hi (hL.at hl ac_live_n) (kk H locs la hR hS hL)
  | some x => exact aw_aload_n C d hi hl hq kk
theorem aw_aloadQ {i : Nat} {r : Option Nat} (C : ac_MC G own cc nL ret M) (d : decode cc pc = .ok (.aload i, 2)) (hl : ls[i]? = some (va_rf r)) (hq : pc + 2 = q) (kk : aw G nL M q ls (va_rf r :: st) h k n) : aw G nL M pc ls st h k n := by
  cases r with
  | none =>
    subst hq
    exact fun H locs la hR hS hL => lv_aloadN C.x C.b d (hL.at hl ac_live_n) (kk H locs la hR hS hL)
  | some x => exact aw_aload C d hl hq kk
theorem aw_istore_n {j : Fin 4} {i : Nat} {x : Int32} (C : ac_MC G own cc nL ret M) (d : decode cc pc = .ok (.istore_n j, 1)) (hi : (j : Nat) = i) (hn : i < nL) (hl : ac_s1 ls i (.int x) = ls') (hq : pc + 1 = q) (kk : aw G nL M q ls' st h k n) : aw G nL M pc ls (.int x :: st) h k n := by
  subst hq; subst hl
  exact fun H locs la hR hS hL => lv_istore_n C.x C.b d hi hL hn rfl (fun la' hL' => kk H locs la' hR hS (ac_L.s1 hL'))
theorem aw_istore {i : Nat} {x : Int32} (C : ac_MC G own cc nL ret M) (d : decode cc pc = .ok (.istore i, 2)) (hn : i < nL) (hl : ac_s1 ls i (.int x) = ls') (hq : pc + 2 = q) (kk : aw G nL M q ls' st h k n) : aw G nL M pc ls (.int x :: st) h k n := by
  subst hq; subst hl
  exact fun H locs la hR hS hL => lv_istore C.x C.b d hL hn rfl (fun la' hL' => kk H locs la' hR hS (ac_L.s1 hL'))
theorem aw_lstore_n {j : Fin 4} {i : Nat} {x : Int64} (C : ac_MC G own cc nL ret M) (d : decode cc pc = .ok (.lstore_n j, 1)) (hi : (j : Nat) = i) (hn : i + 1 < nL) (hl : ac_s2 ls i (.long x) = ls') (hq : pc + 1 = q) (kk : aw G nL M q ls' st h k n) : aw G nL M pc ls (.long x :: st) h k n := by
  subst hq; subst hl
  exact fun H locs la hR hS hL => lv_lstore_n C.x C.b d hi hL hn rfl (fun la' hL' => kk H locs la' hR hS (ac_L.s2 hL'))
theorem aw_lstore {i : Nat} {x : Int64} (C : ac_MC G own cc nL ret M) (d : decode cc pc = .ok (.lstore i, 2)) (hn : i + 1 < nL) (hl : ac_s2 ls i (.long x) = ls') (hq : pc + 2 = q) (kk : aw G nL M q ls' st h k n) : aw G nL M pc ls (.long x :: st) h k n := by
  subst hq; subst hl
  exact fun H locs la hR hS hL => lv_lstore C.x C.b d hL hn rfl (fun la' hL' => kk H locs la' hR hS (ac_L.s2 hL'))
theorem aw_astore_n {j : Fin 4} {i : Nat} {x : Nat} (C : ac_MC G own cc nL ret M) (d : decode cc pc = .ok (.astore_n j, 1)) (hi : (j : Nat) = i) (hn : i < nL) (hl : ac_s1 ls i (.ref x) = ls') (hq : pc + 1 = q) (kk : aw G nL M q ls' st h k n) : aw G nL M pc ls (.ref x :: st) h k n := by
  subst hq; subst hl
  exact fun H locs la hR hS hL => lv_astore_n C.x C.b d hi hL hn rfl (fun la' hL' => kk H locs la' hR hS (ac_L.s1 hL'))
theorem aw_astore {i : Nat} {x : Nat} (C : ac_MC G own cc nL ret M) (d : decode cc pc = .ok (.astore i, 2)) (hn : i < nL) (hl : ac_s1 ls i (.ref x) = ls') (hq : pc + 2 = q) (kk : aw G nL M q ls' st h k n) : aw G nL M pc ls (.ref x :: st) h k n := by
  subst hq; subst hl
  exact fun H locs la hR hS hL => lv_astore C.x C.b d hL hn rfl (fun la' hL' => kk H locs la' hR hS (ac_L.s1 hL'))
theorem aw_astore_nQ {j : Fin 4} {i : Nat} {r : Option Nat} (C : ac_MC G own cc nL ret M) (d : decode cc pc = .ok (.astore_n j, 1)) (hi : (j : Nat) = i) (hn : i < nL) (hl : ac_s1 ls i (va_rf r) = ls') (hq : pc + 1 = q) (kk : aw G nL M q ls' st h k n) : aw G nL M pc ls (va_rf r :: st) h k n := by
  cases r with
  | none =>
    subst hq; subst hl
    exact fun H locs la hR hS hL => lv_astore_nN C.x C.b d hi hL hn rfl (fun la' hL' => kk H locs la' hR hS (ac_L.s1 hL'))
  | some x => exact aw_astore_n C d hi hn hl hq kk
theorem aw_astoreQ {i : Nat} {r : Option Nat} (C : ac_MC G own cc nL ret M) (d : decode cc pc = .ok (.astore i, 2)) (hn : i < nL) (hl : ac_s1 ls i (va_rf r) = ls') (hq : pc + 2 = q) (kk : aw G nL M q ls' st h k n) : aw G nL M pc ls (va_rf r :: st) h k n := by
  cases r with
  | none =>
    subst hq; subst hl
    exact fun H locs la hR hS hL => lv_astoreN C.x C.b d hL hn rfl (fun la' hL' => kk H locs la' hR hS (ac_L.s1 hL'))
  | some x => exact aw_astore C d hn hl hq kk
theorem aw_iinc {i : Nat} {z : Int} {x v : Int32} (C : ac_MC G own cc nL ret M) (d : decode cc pc = .ok (.iinc i z, 3)) (hi : ls[i]? = some (.int x)) (hv : x + Int32.ofInt z = v) (hn : i < nL) (hl : ac_s1 ls i (.int v) = ls') (hq : pc + 3 = q) (kk : aw G nL M q ls' st h k n) : aw G nL M pc ls st h k n := by
  subst hq; subst hl
  intro H locs la hR hS hL
  have hm : (i, Value.int x) ∈ ac_al 0 ls := (ac_al_in ls 0 (i, .int x)).mpr ⟨Nat.zero_le _, hi, ac_live_i x⟩
  obtain ⟨j, hj⟩ := List.getElem?_of_mem hm
  exact lv_iinc C.x C.b d hL hj hv hn rfl (fun la' hL' => kk H locs la' hR hS (ac_L.s1 hL'))
theorem aw_goto {off : Int} (C : ac_MC G own cc nL ret M) (d : decode cc pc = .ok (.goto off, 3)) (ht : (pc : Int) + off = (q : Int)) (kk : aw G nL M q ls st h k n) : aw G nL M pc ls st h k n :=
  fun H locs la hR hS hL => lv_goto C.x C.b d ht (kk H locs la hR hS hL)
theorem aw_if_eq {off : Int} {x : Int32} {t : Nat} (C : ac_MC G own cc nL ret M) (d : decode cc pc = .ok (.ifCond .eq off, 3)) (ht : (pc : Int) + off = (t : Int)) (hq : pc + 3 = q) (kt : x = 0 → aw G nL M t ls st h k n) (kf : ¬ x = 0 → aw G nL M q ls st h k n) : aw G nL M pc ls (.int x :: st) h k n := by
  subst hq
  exact fun H locs la hR hS hL => lv_if_eq C.x C.b d ht (fun z => kt z H locs la hR hS hL) (fun z => kf z H locs la hR hS hL)
theorem aw_icmp_eq {off : Int} {x y : Int32} {t : Nat} (C : ac_MC G own cc nL ret M) (d : decode cc pc = .ok (.if_icmp .eq off, 3)) (ht : (pc : Int) + off = (t : Int)) (hq : pc + 3 = q) (kt : x = y → aw G nL M t ls st h k n) (kf : ¬ x = y → aw G nL M q ls st h k n) : aw G nL M pc ls (.int y :: .int x :: st) h k n := by
  subst hq
  exact fun H locs la hR hS hL => lv_icmp_eq C.x C.b d ht (fun z => kt z H locs la hR hS hL) (fun z => kf z H locs la hR hS hL)
theorem aw_if_ne {off : Int} {x : Int32} {t : Nat} (C : ac_MC G own cc nL ret M) (d : decode cc pc = .ok (.ifCond .ne off, 3)) (ht : (pc : Int) + off = (t : Int)) (hq : pc + 3 = q) (kt : ¬ x = 0 → aw G nL M t ls st h k n) (kf : x = 0 → aw G nL M q ls st h k n) : aw G nL M pc ls (.int x :: st) h k n := by
  subst hq
  exact fun H locs la hR hS hL => lv_if_ne C.x C.b d ht (fun z => kt z H locs la hR hS hL) (fun z => kf z H locs la hR hS hL)
theorem aw_icmp_ne {off : Int} {x y : Int32} {t : Nat} (C : ac_MC G own cc nL ret M) (d : decode cc pc = .ok (.if_icmp .ne off, 3)) (ht : (pc : Int) + off = (t : Int)) (hq : pc + 3 = q) (kt : ¬ x = y → aw G nL M t ls st h k n) (kf : x = y → aw G nL M q ls st h k n) : aw G nL M pc ls (.int y :: .int x :: st) h k n := by
  subst hq
  exact fun H locs la hR hS hL => lv_icmp_ne C.x C.b d ht (fun z => kt z H locs la hR hS hL) (fun z => kf z H locs la hR hS hL)
theorem aw_if_lt {off : Int} {x : Int32} {t : Nat} (C : ac_MC G own cc nL ret M) (d : decode cc pc = .ok (.ifCond .lt off, 3)) (ht : (pc : Int) + off = (t : Int)) (hq : pc + 3 = q) (kt : x < 0 → aw G nL M t ls st h k n) (kf : ¬ x < 0 → aw G nL M q ls st h k n) : aw G nL M pc ls (.int x :: st) h k n := by
  subst hq
  exact fun H locs la hR hS hL => lv_if_lt C.x C.b d ht (fun z => kt z H locs la hR hS hL) (fun z => kf z H locs la hR hS hL)
theorem aw_icmp_lt {off : Int} {x y : Int32} {t : Nat} (C : ac_MC G own cc nL ret M) (d : decode cc pc = .ok (.if_icmp .lt off, 3)) (ht : (pc : Int) + off = (t : Int)) (hq : pc + 3 = q) (kt : x < y → aw G nL M t ls st h k n) (kf : ¬ x < y → aw G nL M q ls st h k n) : aw G nL M pc ls (.int y :: .int x :: st) h k n := by
  subst hq
  exact fun H locs la hR hS hL => lv_icmp_lt C.x C.b d ht (fun z => kt z H locs la hR hS hL) (fun z => kf z H locs la hR hS hL)
theorem aw_if_ge {off : Int} {x : Int32} {t : Nat} (C : ac_MC G own cc nL ret M) (d : decode cc pc = .ok (.ifCond .ge off, 3)) (ht : (pc : Int) + off = (t : Int)) (hq : pc + 3 = q) (kt : 0 ≤ x → aw G nL M t ls st h k n) (kf : ¬ 0 ≤ x → aw G nL M q ls st h k n) : aw G nL M pc ls (.int x :: st) h k n := by
  subst hq
  exact fun H locs la hR hS hL => lv_if_ge C.x C.b d ht (fun z => kt z H locs la hR hS hL) (fun z => kf z H locs la hR hS hL)
theorem aw_icmp_ge {off : Int} {x y : Int32} {t : Nat} (C : ac_MC G own cc nL ret M) (d : decode cc pc = .ok (.if_icmp .ge off, 3)) (ht : (pc : Int) + off = (t : Int)) (hq : pc + 3 = q) (kt : y ≤ x → aw G nL M t ls st h k n) (kf : ¬ y ≤ x → aw G nL M q ls st h k n) : aw G nL M pc ls (.int y :: .int x :: st) h k n := by
  subst hq
  exact fun H locs la hR hS hL => lv_icmp_ge C.x C.b d ht (fun z => kt z H locs la hR hS hL) (fun z => kf z H locs la hR hS hL)
theorem aw_if_gt {off : Int} {x : Int32} {t : Nat} (C : ac_MC G own cc nL ret M) (d : decode cc pc = .ok (.ifCond .gt off, 3)) (ht : (pc : Int) + off = (t : Int)) (hq : pc + 3 = q) (kt : 0 < x → aw G nL M t ls st h k n) (kf : ¬ 0 < x → aw G nL M q ls st h k n) : aw G nL M pc ls (.int x :: st) h k n := by
  subst hq
  exact fun H locs la hR hS hL => lv_if_gt C.x C.b d ht (fun z => kt z H locs la hR hS hL) (fun z => kf z H locs la hR hS hL)
theorem aw_icmp_gt {off : Int} {x y : Int32} {t : Nat} (C : ac_MC G own cc nL ret M) (d : decode cc pc = .ok (.if_icmp .gt off, 3)) (ht : (pc : Int) + off = (t : Int)) (hq : pc + 3 = q) (kt : y < x → aw G nL M t ls st h k n) (kf : ¬ y < x → aw G nL M q ls st h k n) : aw G nL M pc ls (.int y :: .int x :: st) h k n := by
  subst hq
  exact fun H locs la hR hS hL => lv_icmp_gt C.x C.b d ht (fun z => kt z H locs la hR hS hL) (fun z => kf z H locs la hR hS hL)
theorem aw_if_le {off : Int} {x : Int32} {t : Nat} (C : ac_MC G own cc nL ret M) (d : decode cc pc = .ok (.ifCond .le off, 3)) (ht : (pc : Int) + off = (t : Int)) (hq : pc + 3 = q) (kt : x ≤ 0 → aw G nL M t ls st h k n) (kf : ¬ x ≤ 0 → aw G nL M q ls st h k n) : aw G nL M pc ls (.int x :: st) h k n := by
  subst hq
  exact fun H locs la hR hS hL => lv_if_le C.x C.b d ht (fun z => kt z H locs la hR hS hL) (fun z => kf z H locs la hR hS hL)
theorem aw_icmp_le {off : Int} {x y : Int32} {t : Nat} (C : ac_MC G own cc nL ret M) (d : decode cc pc = .ok (.if_icmp .le off, 3)) (ht : (pc : Int) + off = (t : Int)) (hq : pc + 3 = q) (kt : x ≤ y → aw G nL M t ls st h k n) (kf : ¬ x ≤ y → aw G nL M q ls st h k n) : aw G nL M pc ls (.int y :: .int x :: st) h k n := by
  subst hq
  exact fun H locs la hR hS hL => lv_icmp_le C.x C.b d ht (fun z => kt z H locs la hR hS hL) (fun z => kf z H locs la hR hS hL)
theorem aw_ifnull {off : Int} {r : Option Nat} {t : Nat} (C : ac_MC G own cc nL ret M) (d : decode cc pc = .ok (.ifnull off, 3)) (ht : (pc : Int) + off = (t : Int)) (hq : pc + 3 = q) (kt : r = none → aw G nL M t ls st h k n) (kf : ∀ a, r = some a → aw G nL M q ls st h k n) : aw G nL M pc ls (va_rf r :: st) h k n := by
  subst hq
  cases r with
  | none => exact fun H locs la hR hS hL => lv_ifnullN C.x C.b d ht (kt rfl H locs la hR hS hL)
  | some a => exact fun H locs la hR hS hL => lv_ifnull C.x C.b d (kf a rfl H locs la hR hS hL)
theorem aw_ifnonnull {off : Int} {r : Option Nat} {t : Nat} (C : ac_MC G own cc nL ret M) (d : decode cc pc = .ok (.ifnonnull off, 3)) (ht : (pc : Int) + off = (t : Int)) (hq : pc + 3 = q) (kt : ∀ a, r = some a → aw G nL M t ls st h k n) (kf : r = none → aw G nL M q ls st h k n) : aw G nL M pc ls (va_rf r :: st) h k n := by
  subst hq
  cases r with
  | none => exact fun H locs la hR hS hL => lv_ifnonnullN C.x C.b d (kf rfl H locs la hR hS hL)
  | some a => exact fun H locs la hR hS hL => lv_ifnonnull C.x C.b d ht (kt a rfl H locs la hR hS hL)
theorem aw_acmp_ne {off : Int} {rx ry : Option Nat} {t : Nat} (C : ac_MC G own cc nL ret M) (d : decode cc pc = .ok (.if_acmp .ne off, 3)) (ht : (pc : Int) + off = (t : Int)) (hq : pc + 3 = q) (kt : ¬ rx = ry → aw G nL M t ls st h k n) (kf : rx = ry → aw G nL M q ls st h k n) : aw G nL M pc ls (va_rf ry :: va_rf rx :: st) h k n := by
  subst hq
  exact fun H locs la hR hS hL => lv_acmp_ne C.x C.b d ht (fun z => kt z H locs la hR hS hL) (fun z => kf z H locs la hR hS hL)
theorem aw_acmp_eq {off : Int} {rx ry : Option Nat} {t : Nat} (C : ac_MC G own cc nL ret M) (d : decode cc pc = .ok (.if_acmp .eq off, 3)) (ht : (pc : Int) + off = (t : Int)) (hq : pc + 3 = q) (kt : rx = ry → aw G nL M t ls st h k n) (kf : ¬ rx = ry → aw G nL M q ls st h k n) : aw G nL M pc ls (va_rf ry :: va_rf rx :: st) h k n := by
  subst hq
  exact fun H locs la hR hS hL => lv_acmp_eq C.x C.b d ht (fun z => kt z H locs la hR hS hL) (fun z => kf z H locs la hR hS hL)
theorem aw_tableIn {dflt lo hi : Int} {offs : Array Int} {len : Nat} {x : Int32} {off : Int} (C : ac_MC G own cc nL ret M) (d : decode cc pc = .ok (.tableswitch dflt lo hi offs, len)) (h1 : ¬ x.toInt < lo) (h2 : ¬ hi < x.toInt) (ho : offs[(x.toInt - lo).toNat]? = some off) (ht : (pc : Int) + off = (q : Int)) (kk : aw G nL M q ls st h k n) : aw G nL M pc ls (.int x :: st) h k n :=
  fun H locs la hR hS hL => lv_tableIn C.x C.b d h1 h2 ho ht (kk H locs la hR hS hL)
theorem aw_tableOut {dflt lo hi : Int} {offs : Array Int} {len : Nat} {x : Int32} (C : ac_MC G own cc nL ret M) (d : decode cc pc = .ok (.tableswitch dflt lo hi offs, len)) (hx : x.toInt < lo ∨ hi < x.toInt) (ht : (pc : Int) + dflt = (q : Int)) (kk : aw G nL M q ls st h k n) : aw G nL M pc ls (.int x :: st) h k n :=
  fun H locs la hR hS hL => lv_tableOut C.x C.b d hx ht (kk H locs la hR hS hL)
theorem aw_lookup {dflt : Int} {ps : Array (Int × Int)} {len : Nat} {x : Int32} {off : Int} (C : ac_MC G own cc nL ret M) (d : decode cc pc = .ok (.lookupswitch dflt ps, len)) (hp : (ps.toList.zip (ps.toList.drop 1)).all (fun (a, next) => a.1 < next.1) = true) (ho : Op.lookupswitch.offset ps.toList dflt x.toInt = off) (ht : (pc : Int) + off = (q : Int)) (kk : aw G nL M q ls st h k n) : aw G nL M pc ls (.int x :: st) h k n :=
  fun H locs la hR hS hL => lv_lookup C.x C.b d hp ho ht (kk H locs la hR hS hL)
theorem aw_widen {k' n' : Nat} (h1 : k ≤ k') (h2 : n ≤ n') (kk : aw G nL M pc ls st h k' n') : aw G nL M pc ls st h k n :=
  fun H locs la hR hS hL => W.widen h1 h2 (kk H locs la hR hS hL)
/-- fields -/
theorem aw_get {ref C0 : String} {T : u_T} {N ci i a : Nat} {fs : List Value} {v : Value} (C : ac_MC G own cc nL ret M) (d : decode cc pc = .ok (.getfield i, 3)) (ha : h a = some (.inr (ci, fs))) (hc : vwCl[ci]? = some (C0, T, N)) (hin : ∀ w ∈ u_ws C0 T N, w ∈ ac_ws) (j : Nat) (hj : j < N) (hw : Cond.fieldLink own i ref (T j).2.1 (T j).2.2.1 ∈ ac_ws)
    (hsame : (T j).1 = ref ∨ Cond.sameField ref (T j).1 (T j).2.1 (T j).2.2.1 ∈ ac_ws) (hv : fs[j]? = some v) (hq : pc + 3 = q) (kk : aw G nL M q ls (v :: st) h k n) : aw G nL M pc ls (.ref a :: st) h k n := by
  subst hq
  intro H locs la hR hS hL
  obtain ⟨ws, hP, hD, hg⟩ := id hR
  obtain ⟨z, hz⟩ := hg a _ ha
  refine va_get C.x C.b C.ws hin C.ow C.K hP z hz hc j hj (C.ws _ hw) ?_ hv d (kk H locs la hR hS hL)
  intro x hx
  rcases hsame with e | e
  · rw [← e]; exact hx
  · exact u_same (C.ws _ e) x hx
theorem aw_put {ref C0 : String} {T : u_T} {N ci i a : Nat} {fs : List Value} {v : Value} (C : ac_MC G own cc nL ret M) (d : decode cc pc = .ok (.putfield i, 3)) (ha : h a = some (.inr (ci, fs))) (hc : vwCl[ci]? = some (C0, T, N)) (hin : ∀ w ∈ u_ws C0 T N, w ∈ ac_ws) (ty0 : Nat → FieldType) (hty : ∀ k, k < N → parseFieldDescriptor (T k).2.2.1 = some (ty0 k)) (hnm : ∀ a, a < N → ∀ b, b < N → a ≠ b → (T a).2.1 ≠ (T b).2.1) (j : Nat) (hj : j < N) (hw : Cond.fieldLink own i ref (T j).2.1 (T j).2.2.1 ∈ ac_ws)
    (hsame : (T j).1 = ref ∨ Cond.sameField ref (T j).1 (T j).2.1 (T j).2.2.1 ∈ ac_ws) (hfin : (T j).2.2.2 = false ∨ ((T j).2.2.2 = true ∧ (ac_Me M).name = "<init>" ∧ (T j).1 = own)) (hn : narrow (ty0 j) v = v) (hf : fits (ty0 j) v = true) (hl : j < fs.length) (hq : pc + 3 = q) (kk : aw G nL M q ls st (ac_up h a (.inr (ci, fs.set j v))) k n) : aw G nL M pc ls (v :: .ref a :: st) h k n := by
  subst hq
  intro H locs la hR hS hL
  obtain ⟨ws, hP, hD, hg⟩ := id hR
  obtain ⟨z, hz⟩ := hg a _ ha
  have hs : ∀ x, (ac_St M).fieldFound? (T j).1 (T j).2.1 (T j).2.2.1 = some x → (ac_St M).fieldFound? ref (T j).2.1 (T j).2.2.1 = some x := by
    intro x hx
    rcases hsame with e | e
    · rw [← e]; exact hx
    · exact u_same (C.ws _ e) x hx
  rcases hfin with hfin | ⟨hfin, hin2, hdecl⟩
  · exact va_put C.x C.b C.ws hin ty0 hty hnm C.ow C.K hP hD hS z hz hc j hj (C.ws _ hw) hs hfin (hty j hj) hn hf hl d (fun H1 locs1 hP1 hD1 hS1 => kk H1 locs1 la ⟨_, hP1, hD1, ac_g.set hg hD hz⟩ hS1 hL)
  · exact va_putF C.x C.b C.ws hin ty0 hty hnm C.ow C.K hP hD hS z hz hc j hj (C.ws _ hw) hs hfin hin2 hdecl (hty j hj) hn hf hl d (fun H1 locs1 hP1 hD1 hS1 => kk H1 locs1 la ⟨_, hP1, hD1, ac_g.set hg hD hz⟩ hS1 hL)
/-- arrays -/
theorem ac_t {dA : Nat → ClassId} {t : Nat} {ty : FieldType} (h : (ac_T dA)[t]? = some (dA t, ty)) : (ac_T dA)[t]? = some (dA t, ty) := h
theorem aw_iald {a N : Nat} {f : Nat → Int32} {i : Int32} (C : ac_MC G own cc nL ret M) (d : decode cc pc = .ok (.iaload, 1)) (ha : h a = some (.inl (1, N, .inl f))) (hi : vp_in i N) (hq : pc + 1 = q) (kk : aw G nL M q ls (.int (f i.toNatClampNeg) :: st) h k n) : aw G nL M pc ls (.int i :: .ref a :: st) h k n := by
  subst hq
  intro H locs la hR hS hL
  obtain ⟨ws, hP, hD, hg⟩ := id hR
  obtain ⟨z, hz⟩ := hg a _ ha
  exact va_iald C.x C.b C.K hP z 1 hz rfl hi d (kk H locs la hR hS hL)
theorem aw_cald {a N : Nat} {f : Nat → Int32} {i : Int32} (C : ac_MC G own cc nL ret M) (d : decode cc pc = .ok (.caload, 1)) (ha : h a = some (.inl (0, N, .inl f))) (hi : vp_in i N) (hq : pc + 1 = q) (kk : aw G nL M q ls (.int (f i.toNatClampNeg) :: st) h k n) : aw G nL M pc ls (.int i :: .ref a :: st) h k n := by
  subst hq
  intro H locs la hR hS hL
  obtain ⟨ws, hP, hD, hg⟩ := id hR
  obtain ⟨z, hz⟩ := hg a _ ha
  exact va_cald C.x C.b C.K hP z 0 hz rfl hi d (kk H locs la hR hS hL)
theorem aw_zald {a N : Nat} {f : Nat → Int32} {i : Int32} (C : ac_MC G own cc nL ret M) (d : decode cc pc = .ok (.baload, 1)) (ha : h a = some (.inl (3, N, .inl f))) (hi : vp_in i N) (hq : pc + 1 = q) (kk : aw G nL M q ls (.int (f i.toNatClampNeg) :: st) h k n) : aw G nL M pc ls (.int i :: .ref a :: st) h k n := by
  subst hq
  intro H locs la hR hS hL
  obtain ⟨ws, hP, hD, hg⟩ := id hR
  obtain ⟨z, hz⟩ := hg a _ ha
  exact va_zald C.x C.b C.K hP z 3 hz rfl hi d (kk H locs la hR hS hL)
theorem aw_lald {a N : Nat} {f : Nat → Int64} {i : Int32} (C : ac_MC G own cc nL ret M) (d : decode cc pc = .ok (.laload, 1)) (ha : h a = some (.inl (2, N, .inr (.inl f)))) (hi : vp_in i N) (hq : pc + 1 = q) (kk : aw G nL M q ls (.long (f i.toNatClampNeg) :: st) h k n) : aw G nL M pc ls (.int i :: .ref a :: st) h k n := by
  subst hq
  intro H locs la hR hS hL
  obtain ⟨ws, hP, hD, hg⟩ := id hR
  obtain ⟨z, hz⟩ := hg a _ ha
  exact va_lald C.x C.b C.K hP z 2 hz rfl hi d (kk H locs la hR hS hL)
theorem aw_iast {a N : Nat} {f : Nat → Int32} {i : Int32} {x : Int32} (C : ac_MC G own cc nL ret M) (d : decode cc pc = .ok (.iastore, 1)) (ha : h a = some (.inl (1, N, .inl f))) (hi : vp_in i N) (hq : pc + 1 = q) (kk : aw G nL M q ls st (ac_up h a (.inl (1, N, .inl (upd f i.toNatClampNeg x)))) k n) : aw G nL M pc ls (.int x :: .int i :: .ref a :: st) h k n := by
  subst hq
  intro H locs la hR hS hL
  obtain ⟨ws, hP, hD, hg⟩ := id hR
  obtain ⟨z, hz⟩ := hg a _ ha
  exact va_iast C.x C.b C.K hP hD hS z 1 hz rfl hi d (fun H1 locs1 hP1 hD1 hS1 => kk H1 locs1 la ⟨_, hP1, hD1, ac_g.set (e := .inl (1, N, .inl (upd f i.toNatClampNeg x))) hg hD hz⟩ hS1 hL)
theorem aw_cast {a N : Nat} {f : Nat → Int32} {i : Int32} {x : Int32} (C : ac_MC G own cc nL ret M) (d : decode cc pc = .ok (.castore, 1)) (ha : h a = some (.inl (0, N, .inl f))) (hi : vp_in i N) (hq : pc + 1 = q) (kk : aw G nL M q ls st (ac_up h a (.inl (0, N, .inl (upd f i.toNatClampNeg (vp_nar .char x))))) k n) : aw G nL M pc ls (.int x :: .int i :: .ref a :: st) h k n := by
  subst hq
  intro H locs la hR hS hL
  obtain ⟨ws, hP, hD, hg⟩ := id hR
  obtain ⟨z, hz⟩ := hg a _ ha
  exact va_cast C.x C.b C.K hP hD hS z 0 hz rfl hi d (fun H1 locs1 hP1 hD1 hS1 => kk H1 locs1 la ⟨_, hP1, hD1, ac_g.set (e := .inl (0, N, .inl (upd f i.toNatClampNeg (vp_nar .char x)))) hg hD hz⟩ hS1 hL)
theorem aw_zast {a N : Nat} {f : Nat → Int32} {i : Int32} {x : Int32} (C : ac_MC G own cc nL ret M) (d : decode cc pc = .ok (.bastore, 1)) (ha : h a = some (.inl (3, N, .inl f))) (hi : vp_in i N) (hq : pc + 1 = q) (kk : aw G nL M q ls st (ac_up h a (.inl (3, N, .inl (upd f i.toNatClampNeg (vp_nar .boolean x))))) k n) : aw G nL M pc ls (.int x :: .int i :: .ref a :: st) h k n := by
  subst hq
  intro H locs la hR hS hL
  obtain ⟨ws, hP, hD, hg⟩ := id hR
  obtain ⟨z, hz⟩ := hg a _ ha
  exact va_zast C.x C.b C.K hP hD hS z 3 hz rfl hi d (fun H1 locs1 hP1 hD1 hS1 => kk H1 locs1 la ⟨_, hP1, hD1, ac_g.set (e := .inl (3, N, .inl (upd f i.toNatClampNeg (vp_nar .boolean x)))) hg hD hz⟩ hS1 hL)
theorem aw_last {a N : Nat} {f : Nat → Int64} {i : Int32} {x : Int64} (C : ac_MC G own cc nL ret M) (d : decode cc pc = .ok (.lastore, 1)) (ha : h a = some (.inl (2, N, .inr (.inl f)))) (hi : vp_in i N) (hq : pc + 1 = q) (kk : aw G nL M q ls st (ac_up h a (.inl (2, N, .inr (.inl (vp_updL f i.toNatClampNeg x))))) k n) : aw G nL M pc ls (.long x :: .int i :: .ref a :: st) h k n := by
  subst hq
  intro H locs la hR hS hL
  obtain ⟨ws, hP, hD, hg⟩ := id hR
  obtain ⟨z, hz⟩ := hg a _ ha
  exact va_last C.x C.b C.K hP hD hS z 2 hz rfl hi d (fun H1 locs1 hP1 hD1 hS1 => kk H1 locs1 la ⟨_, hP1, hD1, ac_g.set (e := .inl (2, N, .inr (.inl (vp_updL f i.toNatClampNeg x)))) hg hD hz⟩ hS1 hL)
theorem aw_aald {a N : Nat} {f : Nat → Option Nat} {i : Int32} (C : ac_MC G own cc nL ret M) (d : decode cc pc = .ok (.aaload, 1)) (ha : h a = some (.inl (4, N, .inr (.inr (.inr (.inr f)))))) (hi : vp_in i N) (hq : pc + 1 = q) (kk : aw G nL M q ls (va_rf (f i.toNatClampNeg) :: st) h k n) : aw G nL M pc ls (.int i :: .ref a :: st) h k n := by
  subst hq
  intro H locs la hR hS hL
  obtain ⟨ws, hP, hD, hg⟩ := id hR
  obtain ⟨z, hz⟩ := hg a _ ha
  exact va_aldq C.x C.b C.K hP z 4 hz rfl hi d (kk H locs la hR hS hL)
theorem aw_aast {a N v : Nat} {f : Nat → Option Nat} {vs : List Value} {i : Int32} (C : ac_MC G own cc nL ret M) (d : decode cc pc = .ok (.aastore, 1)) (ha : h a = some (.inl (4, N, .inr (.inr (.inr (.inr f)))))) (hv : h v = some (.inr (6, vs))) (hi : vp_in i N) (hq : pc + 1 = q) (kk : aw G nL M q ls st (ac_up h a (.inl (4, N, .inr (.inr (.inr (.inr (va_up f i.toNatClampNeg (some v)))))))) k n) : aw G nL M pc ls (.ref v :: .int i :: .ref a :: st) h k n := by
  subst hq
  intro H locs la hR hS hL
  obtain ⟨ws, hP, hD, hg⟩ := id hR
  obtain ⟨z, hz⟩ := hg a _ ha
  obtain ⟨z2, hz2⟩ := hg v _ hv
  exact va_astq C.x C.b C.K hP hD hS z 4 z2 6 hz rfl hz2 rfl hi d (fun H1 locs1 hP1 hD1 hS1 => kk H1 locs1 la ⟨_, hP1, hD1, ac_g.set (e := .inl (4, N, .inr (.inr (.inr (.inr (va_up f i.toNatClampNeg (some v))))))) hg hD hz⟩ hS1 hL)
theorem aw_alen {a t : Nat} {x : vp_A} {ty : FieldType} {v : Int32} (C : ac_MC G own cc nL ret M) (d : decode cc pc = .ok (.arraylength, 1)) (ha : h a = some (.inl (t, x))) (ht : (ac_T G.2.1)[t]? = some (G.2.1 t, ty)) (hv : Int32.ofNat x.1 = v) (hq : pc + 1 = q) (kk : aw G nL M q ls (.int v :: st) h k n) : aw G nL M pc ls (.ref a :: st) h k n := by
  subst hq
  intro H locs la hR hS hL
  obtain ⟨ws, hP, hD, hg⟩ := id hR
  obtain ⟨z, hz⟩ := hg a _ ha
  exact va_alen C.x C.b C.K hP z t hz ht hv d (kk H locs la hR hS hL)
theorem aw_new {C0 : String} {T : u_T} {N ci i : Nat} {fs : List Value} (C : ac_MC G own cc nL ret M) (d : decode cc pc = .ok (.new i, 3)) (hc : vwCl[ci]? = some (C0, T, N)) (hin : ∀ w ∈ u_ws C0 T N, w ∈ ac_ws) (ty : Nat → FieldType) (hty : ∀ k, k < N → parseFieldDescriptor (T k).2.2.1 = some (ty k)) (hw1 : Cond.classLink own i C0 ∈ ac_ws) (hw2 : Cond.instantiable C0 N ∈ ac_ws) (hw3 : Cond.initialized C0 ∈ ac_ws)
    (hfs : ∀ j, j < N → defaultValue (ty j) = vp_V fs j) (hk : k + 1 ≤ (ac_Rm M).cells) (hn : n + N ≤ (ac_Rm M).slots) (hq : pc + 3 = q) (kk : ∀ a, h a = none → G.2.2.1 ≤ a → aw G nL M q ls (.ref a :: st) (ac_up h a (.inr (ci, fs))) (k + 1) (n + N)) : aw G nL M pc ls st h k n := by
  subst hq
  intro H locs la hR hS hL
  obtain ⟨ws, hP, hD, hg⟩ := id hR
  exact va_new C.x C.b C.ws hin ty hty C.ow (C.ws _ hw1) (C.ws _ hw2) (C.ws _ hw3) C.K hP hD hS (fun z hz => Nat.le_trans C.U.2.1 hz) hc hfs hk hn d (fun a H1 hP1 hD1 hS1 => kk a (hg.fresh hD1) (hD1.2 ws.length (a, .inr (ci, fs)) (by simp)) H1 locs la ⟨_, hP1, hD1, ac_g.push (e := .inr (ci, fs)) hg⟩ hS1 hL)
theorem aw_newa {aty : ArrayType} {t N : Nat} {ty : FieldType} {x : Int32} {a0 : vp_A} (C : ac_MC G own cc nL ret M) (d : decode cc pc = .ok (.newarray aty, 2)) (hty : newarray.typeOf aty = ty) (hw : Cond.arrayClass ty ∈ ac_ws) (ht : (ac_T G.2.1)[t]? = some (G.2.1 t, ty)) (hnr : ∀ C, ty ≠ .object C) (ha : ∀ cA : ClassId, vp_cell cA a0 = arrV cA N (fun _ => defaultValue ty)) (hx : ¬ x < 0) (hN : x.toNatClampNeg = N) (hb : N * componentBytes ty ≤ 536870912)
    (hk : k + 1 ≤ (ac_Rm M).cells) (hn : n + N ≤ (ac_Rm M).slots) (hq : pc + 2 = q) (kk : ∀ a, h a = none → G.2.2.1 ≤ a → aw G nL M q ls (.ref a :: st) (ac_up h a (.inl (t, a0))) (k + 1) (n + N)) : aw G nL M pc ls (.int x :: st) h k n := by
  subst hq
  intro H locs la hR hS hL
  obtain ⟨ws, hP, hD, hg⟩ := id hR
  refine va_newa C.x C.b (by rw [hty]; exact C.ws _ hw) hty C.K hP hD hS (fun z hz => Nat.le_trans C.U.2.1 hz) ha hx hN hb hk hn d (fun a cA H1 hK1 hP1 hD1 hS1 => ?_)
  have e1 : va_RA (ac_St M) cA ty := (hK1.2 (ac_T G.2.1).length (cA, ty) (by simp)).2
  have e2 : va_RA (ac_St M) (G.2.1 t) ty := (C.K.2 t _ ht).2
  have e3 : cA = G.2.1 t := by
    cases ty with
    | object C9 => exact absurd rfl (hnr C9)
    | _ => exact Option.some.inj (Eq.trans (Eq.symm e1) e2)
  subst e3
  exact kk a (hg.fresh hD1) (hD1.2 ws.length (a, .inl (G.2.1 t, a0)) (by simp)) H1 locs la ⟨_, hP1, hD1, ac_g.push (e := .inl (t, a0)) hg⟩ hS1 hL
end
