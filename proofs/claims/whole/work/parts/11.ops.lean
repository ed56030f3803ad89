/-! the plain machine, opcode by opcode -/
section AXE
variable {ks : ax_K} {M : ax_M} {pc : Nat} {ls : ax_L} {st : List Value} {h : ax_H}
theorem ex_iconst (n : Int) : ax_ex ks M pc ls st h (.iconst n) 1 = ax_go (pc + 1) ls h (some (.int (Int32.ofInt n) :: st)) := rfl
theorem ex_bipush (n : Int) : ax_ex ks M pc ls st h (.bipush n) 2 = ax_go (pc + 2) ls h (some (.int (Int8.ofInt n).toInt32 :: st)) := rfl
theorem ex_sipush (n : Int) : ax_ex ks M pc ls st h (.sipush n) 3 = ax_go (pc + 3) ls h (some (.int (Int16.ofInt n).toInt32 :: st)) := rfl
theorem ex_lconst (n : Fin 2) : ax_ex ks M pc ls st h (.lconst n) 1 = ax_go (pc + 1) ls h (some (.long (Int64.ofNat (n : Nat)) :: st)) := rfl
theorem ex_ldc2_w (j : Nat) : ax_ex ks M pc ls st h (.ldc2_w j) 3 = if M.1 = 5 ∧ j = 165 then ax_go (pc + 3) ls h (some (.long 64 :: st)) else none := rfl
theorem ex_iload_n (k : Fin 4) : ax_ex ks M pc ls st h (.iload_n k) 1 = ax_go (pc + 1) ls h (ax_ldi ls st k) := rfl
theorem ex_iload (k : Nat) : ax_ex ks M pc ls st h (.iload k) 2 = ax_go (pc + 2) ls h (ax_ldi ls st k) := rfl
theorem ex_lload_n (k : Fin 4) : ax_ex ks M pc ls st h (.lload_n k) 1 = ax_go (pc + 1) ls h (ax_ldl ls st k) := rfl
theorem ex_lload (k : Nat) : ax_ex ks M pc ls st h (.lload k) 2 = ax_go (pc + 2) ls h (ax_ldl ls st k) := rfl
theorem ex_aload_n (k : Fin 4) : ax_ex ks M pc ls st h (.aload_n k) 1 = ax_go (pc + 1) ls h (ax_lda ls st k) := rfl
theorem ex_istore_n (k : Fin 4) : ax_ex ks M pc ls st h (.istore_n k) 1 = ax_sti (pc + 1) ls st h k := rfl
theorem ex_istore (k : Nat) : ax_ex ks M pc ls st h (.istore k) 2 = ax_sti (pc + 2) ls st h k := rfl
theorem ex_lstore_n (k : Fin 4) : ax_ex ks M pc ls st h (.lstore_n k) 1 = ax_stl (pc + 1) ls st h k := rfl
theorem ex_lstore (k : Nat) : ax_ex ks M pc ls st h (.lstore k) 2 = ax_stl (pc + 2) ls st h k := rfl
theorem ex_astore_n (k : Fin 4) : ax_ex ks M pc ls st h (.astore_n k) 1 = ax_sta (pc + 1) ls st h k := rfl
theorem ex_iinc (k : Nat) (n : Int) : ax_ex ks M pc ls st h (.iinc k n) 3 = ax_inc (pc + 3) ls st h k n := rfl
theorem ex_iadd  : ax_ex ks M pc ls st h (.iadd) 1 = ax_go (pc + 1) ls h (ax_i2 st (fun x y => some (.int (x + y)))) := rfl
theorem ex_isub  : ax_ex ks M pc ls st h (.isub) 1 = ax_go (pc + 1) ls h (ax_i2 st (fun x y => some (.int (x - y)))) := rfl
theorem ex_imul  : ax_ex ks M pc ls st h (.imul) 1 = ax_go (pc + 1) ls h (ax_i2 st (fun x y => some (.int (x * y)))) := rfl
theorem ex_iand  : ax_ex ks M pc ls st h (.iand) 1 = ax_go (pc + 1) ls h (ax_i2 st (fun x y => some (.int (x &&& y)))) := rfl
theorem ex_ior  : ax_ex ks M pc ls st h (.ior) 1 = ax_go (pc + 1) ls h (ax_i2 st (fun x y => some (.int (x ||| y)))) := rfl
theorem ex_idiv  : ax_ex ks M pc ls st h (.idiv) 1 = ax_go (pc + 1) ls h (ax_i2 st (fun x y => if y = 0 then none else some (.int (x / y)))) := rfl
theorem ex_irem  : ax_ex ks M pc ls st h (.irem) 1 = ax_go (pc + 1) ls h (ax_i2 st (fun x y => if y = 0 then none else some (.int (x - x / y * y)))) := rfl
theorem ex_ishl  : ax_ex ks M pc ls st h (.ishl) 1 = ax_go (pc + 1) ls h (ax_i2 st (fun x y => some (.int (x <<< (y &&& 31))))) := rfl
theorem ex_ishr  : ax_ex ks M pc ls st h (.ishr) 1 = ax_go (pc + 1) ls h (ax_i2 st (fun x y => some (.int (x >>> (y &&& 31))))) := rfl
theorem ex_iushr  : ax_ex ks M pc ls st h (.iushr) 1 = ax_go (pc + 1) ls h (ax_i2 st (fun x y => some (.int (x.toUInt32 >>> (y.toUInt32 &&& Int32.toUInt32 31)).toInt32))) := rfl
theorem ex_ladd  : ax_ex ks M pc ls st h (.ladd) 1 = ax_go (pc + 1) ls h (ax_l2 st (fun x y => some (.long (x + y)))) := rfl
theorem ex_lsub  : ax_ex ks M pc ls st h (.lsub) 1 = ax_go (pc + 1) ls h (ax_l2 st (fun x y => some (.long (x - y)))) := rfl
theorem ex_lmul  : ax_ex ks M pc ls st h (.lmul) 1 = ax_go (pc + 1) ls h (ax_l2 st (fun x y => some (.long (x * y)))) := rfl
theorem ex_land  : ax_ex ks M pc ls st h (.land) 1 = ax_go (pc + 1) ls h (ax_l2 st (fun x y => some (.long (x &&& y)))) := rfl
theorem ex_lor  : ax_ex ks M pc ls st h (.lor) 1 = ax_go (pc + 1) ls h (ax_l2 st (fun x y => some (.long (x ||| y)))) := rfl
theorem ex_ldiv  : ax_ex ks M pc ls st h (.ldiv) 1 = ax_go (pc + 1) ls h (ax_l2 st (fun x y => if y = 0 then none else some (.long (x / y)))) := rfl
theorem ex_lrem  : ax_ex ks M pc ls st h (.lrem) 1 = ax_go (pc + 1) ls h (ax_l2 st (fun x y => if y = 0 then none else some (.long (x - x / y * y)))) := rfl
theorem ex_lcmp  : ax_ex ks M pc ls st h (.lcmp) 1 = ax_go (pc + 1) ls h (ax_l2 st (fun x y => some (.int (lg_cmp x y)))) := rfl
theorem ex_lshl  : ax_ex ks M pc ls st h (.lshl) 1 = ax_go (pc + 1) ls h (ax_li st (fun x y => some (.long (x <<< (y.toInt64 &&& 63))))) := rfl
theorem ex_lushr  : ax_ex ks M pc ls st h (.lushr) 1 = ax_go (pc + 1) ls h (ax_li st (fun x y => some (.long (x.toUInt64 >>> (y.toInt64.toUInt64 &&& Int64.toUInt64 63)).toInt64))) := rfl
theorem ex_i2l  : ax_ex ks M pc ls st h (.i2l) 1 = ax_go (pc + 1) ls h (ax_i1 st (fun x => some (.long x.toInt64))) := rfl
theorem ex_l2i  : ax_ex ks M pc ls st h (.l2i) 1 = ax_go (pc + 1) ls h (ax_l1 st (fun x => some (.int x.toInt32))) := rfl
theorem ex_dup  : ax_ex ks M pc ls st h (.dup) 1 = ax_go (pc + 1) ls h (ax_du st) := rfl
theorem ex_dup2  : ax_ex ks M pc ls st h (.dup2) 1 = ax_go (pc + 1) ls h (ax_d2 st) := rfl
theorem ex_pop  : ax_ex ks M pc ls st h (.pop) 1 = ax_go (pc + 1) ls h (ax_po st) := rfl
theorem ex_ifCond (c : Jvm.ClassFile.Cond) (off : Int) : ax_ex ks M pc ls st h (.ifCond c off) 3 = ax_br1 c pc off ls st h := rfl
theorem ex_if_icmp (c : Jvm.ClassFile.Cond) (off : Int) : ax_ex ks M pc ls st h (.if_icmp c off) 3 = ax_br2 c pc off ls st h := rfl
theorem ex_goto (off : Int) : ax_ex ks M pc ls st h (.goto off) 3 = ax_jm pc off ls st h := rfl
theorem ex_lookupswitch (len : Nat) (d : Int) (ps : Array (Int × Int)) : ax_ex ks M pc ls st h (.lookupswitch d ps) len = ax_lsw pc d ps ls st h := rfl
theorem ex_tableswitch (len : Nat) (d : Int) (lo : Int) (hi : Int) (offs : Array Int) : ax_ex ks M pc ls st h (.tableswitch d lo hi offs) len = ax_tsw pc d lo hi offs ls st h := rfl
theorem ex_getfield (j : Nat) : ax_ex ks M pc ls st h (.getfield j) 3 = ax_gf ks M.1 j pc ls st h := rfl
theorem ex_putfield (j : Nat) : ax_ex ks M pc ls st h (.putfield j) 3 = ax_pf ks M.1 j pc ls st h := rfl
theorem ex_iaload  : ax_ex ks M pc ls st h (.iaload) 1 = ax_al ks 1 pc ls st h := rfl
theorem ex_laload  : ax_ex ks M pc ls st h (.laload) 1 = ax_al ks 2 pc ls st h := rfl
theorem ex_baload  : ax_ex ks M pc ls st h (.baload) 1 = ax_al ks 3 pc ls st h := rfl
theorem ex_aaload  : ax_ex ks M pc ls st h (.aaload) 1 = ax_al ks 4 pc ls st h := rfl
theorem ex_iastore  : ax_ex ks M pc ls st h (.iastore) 1 = ax_as ks 1 pc ls st h := rfl
theorem ex_lastore  : ax_ex ks M pc ls st h (.lastore) 1 = ax_as ks 2 pc ls st h := rfl
theorem ex_bastore  : ax_ex ks M pc ls st h (.bastore) 1 = ax_as ks 3 pc ls st h := rfl
theorem ex_aastore  : ax_ex ks M pc ls st h (.aastore) 1 = ax_as ks 4 pc ls st h := rfl
theorem ex_arraylength  : ax_ex ks M pc ls st h (.arraylength) 1 = ax_len ks pc ls st h := rfl
theorem ex_invokevirtual (j : Nat) : ax_ex ks M pc ls st h (.invokevirtual j) 3 = ax_iv ks M.1 j st := rfl
theorem ex_invokestatic (j : Nat) : ax_ex ks M pc ls st h (.invokestatic j) 3 = if M.1 = 1 ∧ j = 153 then ax_mi pc ls st h else ax_is M.1 j st := rfl
theorem ex_ireturn  : ax_ex ks M pc ls st h (.ireturn) 1 = ax_ri M.2.2.2.2 st := rfl
theorem ex_lreturn  : ax_ex ks M pc ls st h (.lreturn) 1 = ax_rl M.2.2.2.2 st := rfl
theorem ex_return_  : ax_ex ks M pc ls st h (.return_) 1 = ax_rv M.2.2.2.2 st := rfl
end AXE
