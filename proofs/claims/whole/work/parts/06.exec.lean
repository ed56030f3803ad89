/-! one instruction of the plain machine -/
def ax_flk (o i : Nat) : Option (Nat × Nat × Bool × Nat) := if i < 1000 then ax_flL.lookup (o * 1000 + i) else none
def ax_mlk (o i : Nat) : Option (ax_M × Bool × Nat × Nat × Nat × Nat × Nat × Nat) := if i < 1000 then ax_mlL.lookup (o * 1000 + i) else none
abbrev ax_Re : Type := Option ((Nat × ax_L × List Value × ax_H) ⊕ Option Value ⊕ (ax_M × List Value × List Value))
def ax_go (pc : Nat) (ls : ax_L) (h : ax_H) (o : Option (List Value)) : ax_Re := o.map (fun st => .inl (pc, ls, st, h))
def ax_i1 (st : List Value) (f : Int32 → Option Value) : Option (List Value) := match st with
  | .int x :: r => (f x).map (fun v => v :: r)
  | _ => none
def ax_i2 (st : List Value) (f : Int32 → Int32 → Option Value) : Option (List Value) := match st with
  | .int y :: .int x :: r => (f x y).map (fun v => v :: r)
  | _ => none
def ax_l1 (st : List Value) (f : Int64 → Option Value) : Option (List Value) := match st with
  | .long x :: r => (f x).map (fun v => v :: r)
  | _ => none
def ax_l2 (st : List Value) (f : Int64 → Int64 → Option Value) : Option (List Value) := match st with
  | .long y :: .long x :: r => (f x y).map (fun v => v :: r)
  | _ => none
def ax_li (st : List Value) (f : Int64 → Int32 → Option Value) : Option (List Value) := match st with
  | .int y :: .long x :: r => (f x y).map (fun v => v :: r)
  | _ => none
def ax_ldi (ls : ax_L) (st : List Value) (i : Nat) : Option (List Value) := match ls[i]? with
  | some (some (.int x)) => some (.int x :: st)
  | _ => none
def ax_ldl (ls : ax_L) (st : List Value) (i : Nat) : Option (List Value) := match ls[i]? with
  | some (some (.long x)) => some (.long x :: st)
  | _ => none
def ax_lda (ls : ax_L) (st : List Value) (i : Nat) : Option (List Value) := match ls[i]? with
  | some (some (.ref x)) => some (.ref x :: st)
  | _ => none
def ax_sti (pc : Nat) (ls : ax_L) (st : List Value) (h : ax_H) (i : Nat) : ax_Re := match st with
  | .int x :: r => if i < ls.length then some (.inl (pc, ax_s1 ls i (.int x), r, h)) else none
  | _ => none
def ax_sta (pc : Nat) (ls : ax_L) (st : List Value) (h : ax_H) (i : Nat) : ax_Re := match st with
  | .ref x :: r => if i < ls.length then some (.inl (pc, ax_s1 ls i (.ref x), r, h)) else none
  | _ => none
def ax_stl (pc : Nat) (ls : ax_L) (st : List Value) (h : ax_H) (i : Nat) : ax_Re := match st with
  | .long x :: r => if i + 1 < ls.length then some (.inl (pc, ax_s2 ls i (.long x), r, h)) else none
  | _ => none
def ax_inc (pc : Nat) (ls : ax_L) (st : List Value) (h : ax_H) (i : Nat) (n : Int) : ax_Re := match ls[i]? with
  | some (some (.int x)) => some (.inl (pc, ax_s1 ls i (.int (x + Int32.ofInt n)), st, h))
  | _ => none
def ax_tg (pc : Nat) (off : Int) : Nat := ((pc : Int) + off).toNat
def ax_jm (pc : Nat) (off : Int) (ls : ax_L) (st : List Value) (h : ax_H) : ax_Re := if 0 ≤ (pc : Int) + off then some (.inl (ax_tg pc off, ls, st, h)) else none
def ax_cc (c : Jvm.ClassFile.Cond) (x y : Int32) : Bool := match c with
  | .eq => decide (x = y)
  | .ne => decide (¬ x = y)
  | .lt => decide (x < y)
  | .ge => decide (y ≤ x)
  | .gt => decide (y < x)
  | .le => decide (x ≤ y)
def ax_br1 (c : Jvm.ClassFile.Cond) (pc : Nat) (off : Int) (ls : ax_L) (st : List Value) (h : ax_H) : ax_Re := match st with
  | .int x :: r => if 0 ≤ (pc : Int) + off then some (.inl (if ax_cc c x 0 = true then ax_tg pc off else pc + 3, ls, r, h)) else none
  | _ => none
def ax_br2 (c : Jvm.ClassFile.Cond) (pc : Nat) (off : Int) (ls : ax_L) (st : List Value) (h : ax_H) : ax_Re := match st with
  | .int y :: .int x :: r => if 0 ≤ (pc : Int) + off then some (.inl (if ax_cc c x y = true then ax_tg pc off else pc + 3, ls, r, h)) else none
  | _ => none
def ax_lsw (pc : Nat) (d : Int) (ps : Array (Int × Int)) (ls : ax_L) (st : List Value) (h : ax_H) : ax_Re := match st with
  | .int x :: r => if (ps.toList.zip (ps.toList.drop 1)).all (fun (a, next) => a.1 < next.1) = true then ax_jm pc (Op.lookupswitch.offset ps.toList d x.toInt) ls r h else none
  | _ => none
def ax_tsw (pc : Nat) (d lo hi : Int) (offs : Array Int) (ls : ax_L) (st : List Value) (h : ax_H) : ax_Re := match st with
  | .int x :: r => if x.toInt < lo ∨ hi < x.toInt then ax_jm pc d ls r h else match offs[(x.toInt - lo).toNat]? with
    | some off => ax_jm pc off ls r h
    | none => none
  | _ => none
def ax_gf (ks : ax_K) (o i pc : Nat) (ls : ax_L) (st : List Value) (h : ax_H) : ax_Re := match st with
  | .ref r :: rest => match ax_flk o i with
    | some e => if ks[r]? = some (0, e.1) then some (.inl (pc + 3, ls, ax_fv h (ax_ty e.1 e.2.1) r e.2.1 :: rest, h)) else none
    | none => none
  | _ => none
/-- a value put into a place of a type -/
def ax_sv (ks : ax_K) (h : ax_H) (ty : FieldType) (r k : Nat) (v : Value) : Option ax_H := match ty, v with
  | .int, .int x => some (ax_upI h r k x)
  | .long, .long x => some (ax_upL h r k x)
  | .object _, .ref a => if a < ks.length then some (ax_upR h r k (some a)) else none
  | _, _ => none
def ax_pf (ks : ax_K) (o i pc : Nat) (ls : ax_L) (st : List Value) (h : ax_H) : ax_Re := match st with
  | v :: .ref r :: rest => match ax_flk o i with
    | some e => if ks[r]? = some (0, e.1) ∧ (ax_Tb e.1 e.2.1).2.2.2 = false then (ax_sv ks h (ax_ty e.1 e.2.1) r e.2.1 v).map (fun h' => .inl (pc + 3, ls, rest, h')) else none
    | none => none
  | _ => none
def ax_in (i : Int32) (n : Nat) : Bool := decide (0 ≤ i) && decide (i.toNatClampNeg < n)
/-- an element of an array: t its kind -/
def ax_al (ks : ax_K) (t : Nat) (pc : Nat) (ls : ax_L) (st : List Value) (h : ax_H) : ax_Re := match st with
  | .int i :: .ref r :: rest => match ks[r]? with
    | some (t', n) => if (t' = t ∨ (t = 4 ∧ t' = 5)) ∧ ax_in i n = true then some (.inl (pc + 1, ls, (match t with | 2 => .long (h.2.1 r i.toNatClampNeg) | 4 => va_rf (h.2.2 r i.toNatClampNeg) | _ => .int (h.1 r i.toNatClampNeg)) :: rest, h)) else none
    | none => none
  | _ => none
def ax_as (ks : ax_K) (t : Nat) (pc : Nat) (ls : ax_L) (st : List Value) (h : ax_H) : ax_Re := match st with
  | v :: .int i :: .ref r :: rest => match ks[r]? with
    | some (t', n) => if t' = t ∧ ax_in i n = true then (match t, v with
      | 1, .int x => some (.inl (pc + 1, ls, rest, ax_upI h r i.toNatClampNeg x))
      | 2, .long x => some (.inl (pc + 1, ls, rest, ax_upL h r i.toNatClampNeg x))
      | 3, .int x => some (.inl (pc + 1, ls, rest, ax_upI h r i.toNatClampNeg (vp_nar .boolean x)))
      | 4, .ref a => if ks[a]? = some (0, 3) then some (.inl (pc + 1, ls, rest, ax_upR h r i.toNatClampNeg (some a))) else none
      | _, _ => none) else none
    | none => none
  | _ => none
def ax_len (ks : ax_K) (pc : Nat) (ls : ax_L) (st : List Value) (h : ax_H) : ax_Re := match st with
  | .ref r :: rest => match ks[r]? with
    | some (t, n) => if 0 < t ∧ t < 6 then some (.inl (pc + 1, ls, .int (Int32.ofNat n) :: rest, h)) else none
    | none => none
  | _ => none
def ax_ct (st : List Value) : Nat := (st.map fun v => v.category).sum
def ax_iv (ks : ax_K) (o i : Nat) (st : List Value) : ax_Re := match ax_mlk o i with
  | some e => if e.2.1 = false ∧ e.2.2.1 ≤ st.length then (match st.drop e.2.2.1 with
    | .ref b :: rest => if ks[b]? = some (0, e.1.1) ∧ ax_ct rest ≤ 8 ∧ (ax_fl (.ref b :: (st.take e.2.2.1).reverse)).length ≤ e.1.2.2.2.1 then some (.inr (.inr (e.1, .ref b :: (st.take e.2.2.1).reverse, rest))) else none
    | _ => none) else none
  | none => none
def ax_is (o i : Nat) (st : List Value) : ax_Re := match ax_mlk o i with
  | some e => if e.2.1 = true ∧ e.2.2.1 ≤ st.length ∧ ax_ct (st.drop e.2.2.1) ≤ 8 ∧ (ax_fl (st.take e.2.2.1).reverse).length ≤ e.1.2.2.2.1 then some (.inr (.inr (e.1, (st.take e.2.2.1).reverse, st.drop e.2.2.1))) else none
  | none => none
def ax_mi (pc : Nat) (ls : ax_L) (st : List Value) (h : ax_H) : ax_Re := match st with
  | .int y :: .int x :: rest => if ax_ct rest ≤ 8 then some (.inl (pc + 3, ls, .int (if y < x then y else x) :: rest, h)) else none
  | _ => none
def ax_ri (ret : Option FieldType) (st : List Value) : ax_Re := match st with
  | [.int x] => if ret = some .int ∨ (ret = some .boolean ∧ (x = 0 ∨ x = 1)) then some (.inr (.inl (some (.int x)))) else none
  | _ => none
def ax_rl (ret : Option FieldType) (st : List Value) : ax_Re := match st with
  | [.long x] => if ret = some .long then some (.inr (.inl (some (.long x)))) else none
  | _ => none
def ax_rv (ret : Option FieldType) (st : List Value) : ax_Re := match st with
  | [] => if ret = none then some (.inr (.inl none)) else none
  | _ => none
def ax_du (st : List Value) : Option (List Value) := match st with
  | v :: r => if v.category = 1 then some (v :: v :: r) else none
  | _ => none
def ax_po (st : List Value) : Option (List Value) := match st with
  | v :: r => if v.category = 1 then some r else none
  | _ => none
def ax_d2 (st : List Value) : Option (List Value) := match st with
  | v :: w :: r => if v.category = 1 ∧ w.category = 1 then some (v :: w :: v :: w :: r) else none
  | _ => none
def ax_ex (ks : ax_K) (M : ax_M) (pc : Nat) (ls : ax_L) (st : List Value) (h : ax_H) (i : Instr) (len : Nat) : ax_Re := match i, len with
  | .iconst n, 1 => ax_go (pc + 1) ls h (some (.int (Int32.ofInt n) :: st))
  | .bipush n, 2 => ax_go (pc + 2) ls h (some (.int (Int8.ofInt n).toInt32 :: st))
  | .sipush n, 3 => ax_go (pc + 3) ls h (some (.int (Int16.ofInt n).toInt32 :: st))
  | .lconst n, 1 => ax_go (pc + 1) ls h (some (.long (Int64.ofNat (n : Nat)) :: st))
  | .ldc2_w j, 3 => if M.1 = 5 ∧ j = 165 then ax_go (pc + 3) ls h (some (.long 64 :: st)) else none
  | .iload_n k, 1 => ax_go (pc + 1) ls h (ax_ldi ls st k)
  | .iload k, 2 => ax_go (pc + 2) ls h (ax_ldi ls st k)
  | .lload_n k, 1 => ax_go (pc + 1) ls h (ax_ldl ls st k)
  | .lload k, 2 => ax_go (pc + 2) ls h (ax_ldl ls st k)
  | .aload_n k, 1 => ax_go (pc + 1) ls h (ax_lda ls st k)
  | .istore_n k, 1 => ax_sti (pc + 1) ls st h k
  | .istore k, 2 => ax_sti (pc + 2) ls st h k
  | .lstore_n k, 1 => ax_stl (pc + 1) ls st h k
  | .lstore k, 2 => ax_stl (pc + 2) ls st h k
  | .astore_n k, 1 => ax_sta (pc + 1) ls st h k
  | .iinc k n, 3 => ax_inc (pc + 3) ls st h k n
  | .iadd, 1 => ax_go (pc + 1) ls h (ax_i2 st (fun x y => some (.int (x + y))))
  | .isub, 1 => ax_go (pc + 1) ls h (ax_i2 st (fun x y => some (.int (x - y))))
  | .imul, 1 => ax_go (pc + 1) ls h (ax_i2 st (fun x y => some (.int (x * y))))
  | .iand, 1 => ax_go (pc + 1) ls h (ax_i2 st (fun x y => some (.int (x &&& y))))
  | .ior, 1 => ax_go (pc + 1) ls h (ax_i2 st (fun x y => some (.int (x ||| y))))
  | .idiv, 1 => ax_go (pc + 1) ls h (ax_i2 st (fun x y => if y = 0 then none else some (.int (x / y))))
  | .irem, 1 => ax_go (pc + 1) ls h (ax_i2 st (fun x y => if y = 0 then none else some (.int (x - x / y * y))))
  | .ishl, 1 => ax_go (pc + 1) ls h (ax_i2 st (fun x y => some (.int (x <<< (y &&& 31)))))
  | .ishr, 1 => ax_go (pc + 1) ls h (ax_i2 st (fun x y => some (.int (x >>> (y &&& 31)))))
  | .iushr, 1 => ax_go (pc + 1) ls h (ax_i2 st (fun x y => some (.int (x.toUInt32 >>> (y.toUInt32 &&& Int32.toUInt32 31)).toInt32)))
  | .ladd, 1 => ax_go (pc + 1) ls h (ax_l2 st (fun x y => some (.long (x + y))))
  | .lsub, 1 => ax_go (pc + 1) ls h (ax_l2 st (fun x y => some (.long (x - y))))
  | .lmul, 1 => ax_go (pc + 1) ls h (ax_l2 st (fun x y => some (.long (x * y))))
  | .land, 1 => ax_go (pc + 1) ls h (ax_l2 st (fun x y => some (.long (x &&& y))))
  | .lor, 1 => ax_go (pc + 1) ls h (ax_l2 st (fun x y => some (.long (x ||| y))))
  | .ldiv, 1 => ax_go (pc + 1) ls h (ax_l2 st (fun x y => if y = 0 then none else some (.long (x / y))))
  | .lrem, 1 => ax_go (pc + 1) ls h (ax_l2 st (fun x y => if y = 0 then none else some (.long (x - x / y * y))))
  | .lcmp, 1 => ax_go (pc + 1) ls h (ax_l2 st (fun x y => some (.int (lg_cmp x y))))
  | .lshl, 1 => ax_go (pc + 1) ls h (ax_li st (fun x y => some (.long (x <<< (y.toInt64 &&& 63)))))
  | .lushr, 1 => ax_go (pc + 1) ls h (ax_li st (fun x y => some (.long (x.toUInt64 >>> (y.toInt64.toUInt64 &&& Int64.toUInt64 63)).toInt64)))
  | .i2l, 1 => ax_go (pc + 1) ls h (ax_i1 st (fun x => some (.long x.toInt64)))
  | .l2i, 1 => ax_go (pc + 1) ls h (ax_l1 st (fun x => some (.int x.toInt32)))
  | .dup, 1 => ax_go (pc + 1) ls h (ax_du st)
  | .dup2, 1 => ax_go (pc + 1) ls h (ax_d2 st)
  | .pop, 1 => ax_go (pc + 1) ls h (ax_po st)
  | .ifCond c off, 3 => ax_br1 c pc off ls st h
  | .if_icmp c off, 3 => ax_br2 c pc off ls st h
  | .goto off, 3 => ax_jm pc off ls st h
  | .lookupswitch d ps, _ => ax_lsw pc d ps ls st h
  | .tableswitch d lo hi offs, _ => ax_tsw pc d lo hi offs ls st h
  | .getfield j, 3 => ax_gf ks M.1 j pc ls st h
  | .putfield j, 3 => ax_pf ks M.1 j pc ls st h
  | .iaload, 1 => ax_al ks 1 pc ls st h
  | .laload, 1 => ax_al ks 2 pc ls st h
  | .baload, 1 => ax_al ks 3 pc ls st h
  | .aaload, 1 => ax_al ks 4 pc ls st h
  | .iastore, 1 => ax_as ks 1 pc ls st h
  | .lastore, 1 => ax_as ks 2 pc ls st h
  | .bastore, 1 => ax_as ks 3 pc ls st h
  | .aastore, 1 => ax_as ks 4 pc ls st h
  | .arraylength, 1 => ax_len ks pc ls st h
  | .invokevirtual j, 3 => ax_iv ks M.1 j st
  | .invokestatic j, 3 => if M.1 = 1 ∧ j = 153 then ax_mi pc ls st h else ax_is M.1 j st
  | .ireturn, 1 => ax_ri M.2.2.2.2 st
  | .lreturn, 1 => ax_rl M.2.2.2.2 st
  | .return_, 1 => ax_rv M.2.2.2.2 st
  | _, _ => none
def ax_step (ks : ax_K) (M : ax_M) (pc : Nat) (ls : ax_L) (st : List Value) (h : ax_H) : ax_Re := match decode M.2.2.1 pc with
  | .ok (i, len) => ax_ex ks M pc ls st h i len
  | _ => none
def ax_run (ks : ax_K) : Nat → Nat → ax_M → Nat → ax_L → List Value → ax_H → Option (Option Value × ax_H)
  | 0, _, _, _, _, _, _ => none
  | n + 1, d, M, pc, ls, st, h => match ax_step ks M pc ls st h with
    | none => none
    | some (.inl x) => ax_run ks n d M x.1 x.2.1 x.2.2.1 x.2.2.2
    | some (.inr (.inl v)) => some (v, h)
    | some (.inr (.inr x)) => match d with
      | 0 => none
      | d' + 1 => match ax_run ks n d' x.1 0 (ax_en x.1.2.2.2.1 x.2.1) [] h with
        | none => none
        | some y => ax_run ks n (d' + 1) M (pc + 3) ls (y.1.toList ++ x.2.2) y.2
theorem ax_run_mono (ks : ax_K) : ∀ (n d : Nat) (M : ax_M) (pc : Nat) (ls : ax_L) (st : List Value) (h : ax_H) (y : Option Value × ax_H), ax_run ks n d M pc ls st h = some y → ax_run ks (n + 1) d M pc ls st h = some y
  | 0, _, _, _, _, _, _, _, hr => by simp [ax_run] at hr
  | n + 1, d, M, pc, ls, st, h, y, hr => by
    rw [ax_run] at hr ⊢
    split at hr
    · cases hr
    · rename_i x hs
      exact ax_run_mono ks n _ _ _ _ _ _ _ hr
    · exact hr
    · rename_i x hs
      cases d with
      | zero => cases hr
      | succ d' =>
        simp only at hr ⊢
        split at hr
        · cases hr
        · rename_i z hz
          rw [ax_run_mono ks n _ _ _ _ _ _ _ hz]
          exact ax_run_mono ks n _ _ _ _ _ _ _ hr
theorem ax_run_le (ks : ax_K) {n m d : Nat} {M : ax_M} {pc : Nat} {ls : ax_L} {st : List Value} {h : ax_H} {y : Option Value × ax_H} (hr : ax_run ks n d M pc ls st h = some y) (hm : n ≤ m) : ax_run ks m d M pc ls st h = some y := by
  induction m with
  | zero => have : n = 0 := by omega
            subst this; exact hr
  | succ m ih =>
    by_cases e : n = m + 1
    · subst e; exact hr
    · exact ax_run_mono ks _ _ _ _ _ _ _ _ (ih (by omega))
