/-! constructors that make arrays, one behind another -/
def ay_pu (lp N : Nat) : Instr := if lp = 1 then .iconst N else if lp = 2 then .bipush N else .sipush N
def ay_at (t : Nat) : ArrayType := if t = 1 then .int else if t = 2 then .long else .boolean
def ay_ar (ty : FieldType) : Bool := match ty with
  | .array _ => true
  | _ => false
/-- one array: how its length is pushed, its length, its kind, the field's link, its place, the place of its word -/
abbrev ay_G : Type := Nat × Nat × Nat × Nat × Nat × Nat
def ay_gok (cc : ByteArray) (o pc : Nat) (g : ay_G) : Bool :=
  decide (decode cc pc = .ok (.aload_n 0, 1)) && decide (decode cc (pc + 1) = .ok (ay_pu g.1 g.2.1, g.1)) && decide (decode cc (pc + 1 + g.1) = .ok (.newarray (ay_at g.2.2.1), 2)) && decide (decode cc (pc + 1 + g.1 + 2) = .ok (.putfield g.2.2.2.1, 3)) && decide (ax_flk o g.2.2.2.1 = some (o, g.2.2.2.2.1, false, g.2.2.2.2.2)) && (ax_Tb o g.2.2.2.2.1).2.2.2 && ay_ar (ax_ty o g.2.2.2.2.1) &&
  decide (1 ≤ g.2.2.1 ∧ g.2.2.1 ≤ 3 ∧ 1 ≤ g.1 ∧ g.1 ≤ 3 ∧ g.2.1 < 10000) && decide (if g.1 = 1 then Int32.ofInt (g.2.1 : Int) = nI g.2.1 else if g.1 = 2 then (Int8.ofInt (g.2.1 : Int)).toInt32 = nI g.2.1 else (Int16.ofInt (g.2.1 : Int)).toInt32 = nI g.2.1)
def ay_seq (cc : ByteArray) (o : Nat) : Nat → List ay_G → Bool
  | _, [] => true
  | pc, g :: gs => ay_gok cc o pc g && ay_seq cc o (pc + 1 + g.1 + 2 + 3) gs
def ay_end : Nat → List ay_G → Nat
  | pc, [] => pc
  | pc, g :: gs => ay_end (pc + 1 + g.1 + 2 + 3) gs
def ay_kd (g : ay_G) : Nat × Nat := (g.2.2.1, g.2.1)
def ay_sum (gs : List ay_G) : Nat := (gs.map (fun g => g.2.1)).sum
def ay_Rs (R : ay_R) (r : Nat) : Nat → List ay_G → ay_R
  | _, [] => R
  | n, g :: gs => ay_Rs (ay_up R r g.2.2.2.2.1 n) r (n + 1) gs
def ay_C (p : Program) (s : State) (m : MethodId) (args : Array Value) (meth : Method) (c : Code) (o nL : Nat) (cc : ByteArray) : Prop := p.tables.exec = Jvm.exec ∧ c.code = cc ∧ c.maxLocals = nL ∧ meth.sig.returnType = none ∧ meth.locks = false ∧ s.vm.findClass (ax_own o) = some m.cls ∧ (∀ w ∈ ax_tb, w.before args s = true) ∧ ay_N s ∧ meth.name = "<init>"
theorem ay_arr_mem : Jvm.Cond.arrayClass .int ∈ ax_tb ∧ Jvm.Cond.arrayClass .long ∈ ax_tb ∧ Jvm.Cond.arrayClass .boolean ∈ ax_tb := ⟨List.mem_filter.mpr ⟨List.mem_of_getElem? (i := 151) (by decide +kernel), rfl⟩, List.mem_filter.mpr ⟨List.mem_of_getElem? (i := 152) (by decide +kernel), rfl⟩, List.mem_filter.mpr ⟨List.mem_of_getElem? (i := 296) (by decide +kernel), rfl⟩⟩
theorem ay_obj_mem : Jvm.Cond.instanceMethod Lib.objectInit ∈ ax_tb ∧ Jvm.Cond.code Lib.objectInit ⟨#[0xb1]⟩ 1 none ∈ ax_tb := ⟨List.mem_filter.mpr ⟨List.mem_of_getElem? (i := 99) (by decide +kernel), rfl⟩, List.mem_filter.mpr ⟨List.mem_of_getElem? (i := 100) (by decide +kernel), rfl⟩⟩
section AY
variable {p : Program} {l : Launch} {e : Env} {Rm : Room} {s : State} {m : MethodId} {args : Array Value} {below : List Frame} {meth : Method} {c : Code} {Q : State → Prop}
variable {D : va_G} {cA : Nat → ClassId} {base : Nat} {cc : ByteArray} {la : Array Slot} {o nL : Nat}
theorem ay_group {H : Heap} {locs : List Loc} {cells slots : Nat} {q : Nat → Nat} {ks : ax_K} {R : ay_R} (C : ay_C p s m args meth c o nL cc) (hK : va_K D ax_cl (ax_tys cA) s) (hV : ay_V D cA base q ks R s H locs) {r pc : Nat} {rest : List Value} (hl : la[0]? = some (.val (.ref (q r)))) (hr : ks[r]? = some (0, o)) {g : ay_G} (hg : ay_gok cc o pc g = true) (hcells : cells + 1 ≤ Rm.cells) (hslots : slots + g.2.1 ≤ Rm.slots)
    (kk : ∀ H1 locs1 q', (∀ z, z < ks.length → q' z = q z) → ay_V D cA base q' (ks ++ [ay_kd g]) (ay_up R r g.2.2.2.2.1 ks.length) s H1 locs1 → W p l e Rm s m args below meth c H1 locs1 (cells + 1) (slots + g.2.1) Q (F0 m (pc + 1 + g.1 + 2 + 3) la rest)) : W p l e Rm s m args below meth c H locs cells slots Q (F0 m pc la rest) := by
  obtain ⟨lp, N, t, j, k, z⟩ := g
  obtain ⟨hx, hb, -, -, -, hown, hts, hN, hin⟩ := C
  have hrl : r < ks.length := (List.getElem?_eq_some_iff.mp hr).1
  simp only [ay_gok, Bool.and_eq_true, decide_eq_true_eq] at hg
  obtain ⟨⟨⟨⟨⟨⟨⟨⟨d0, d1⟩, d2⟩, d3⟩, he⟩, hfin⟩, hty⟩, hb1, hb2, hb3, hb4, hb5⟩, hc⟩ := hg
  refine lv_aload_n hx hb d0 rfl hl ?_
  have go : W p l e Rm s m args below meth c H locs cells slots Q (F0 m (pc + 1 + lp) la (.int (nI N) :: .ref (q r) :: rest)) := by
    have h3 : t = 1 ∨ t = 2 ∨ t = 3 := by omega
    have hat : (t = 1 ∧ ay_at t = .int) ∨ (t = 2 ∧ ay_at t = .long) ∨ (t = 3 ∧ ay_at t = .boolean) := by
      rcases h3 with rfl | rfl | rfl
      · exact Or.inl ⟨rfl, rfl⟩
      · exact Or.inr (Or.inl ⟨rfl, rfl⟩)
      · exact Or.inr (Or.inr ⟨rfl, rfl⟩)
    have ham : Jvm.Cond.arrayClass (newarray.typeOf (ay_at t)) ∈ ax_tb := by
      rcases h3 with rfl | rfl | rfl
      · exact ay_arr_mem.1
      · exact ay_arr_mem.2.1
      · exact ay_arr_mem.2.2
    refine ay_newa (aty := ay_at t) (t := t) hx hb hat (hts _ ham) (by omega) hK hV hcells hslots d2 (fun H1 a hV1 => ?_)
    have ea : ay_n q ks.length a ks.length = a := if_pos rfl
    have er : ay_n q ks.length a r = q r := if_neg (by omega)
    have hr2 : (ks ++ [(t, N)])[r]? = some (0, o) := by rw [List.getElem?_append_left hrl]; exact hr
    have key := ay_put (p := p) (l := l) (e := e) (Rm := Rm) (below := below) (Q := Q) (cells := cells + 1) (slots := slots + N) (pc := pc + 1 + lp + 2) (la := la) (rest := rest) (x := ks.length) hx hb hts hown hin hK hV1 he rfl rfl hr2 (by rw [List.length_append]; simp) hfin (by
      cases h9 : ax_ty o k with
      | array t9 => exact Or.inr ⟨t9, rfl⟩
      | _ => rw [h9] at hty; cases hty) d3 (fun H2 locs2 hV2 => kk H2 locs2 _ (fun z hz => if_neg (by omega)) hV2)
    rw [ea, er] at key
    exact key
  have : lp = 1 ∨ lp = 2 ∨ lp = 3 := by omega
  rcases this with rfl | rfl | rfl
  · exact lv_iconst hx hb d1 hc go
  · exact lv_bipush hx hb d1 hc go
  · exact lv_sipush hx hb d1 hc go
theorem ay_seqW (C : ay_C p s m args meth c o nL cc) (hK : va_K D ax_cl (ax_tys cA) s) {r : Nat} {rest : List Value} : ∀ (gs : List ay_G) (pc : Nat) (H : Heap) (locs : List Loc) (cells slots : Nat) (q : Nat → Nat) (ks : ax_K) (R : ay_R), ay_V D cA base q ks R s H locs → la[0]? = some (.val (.ref (q r))) → ks[r]? = some (0, o) → ay_seq cc o pc gs = true → cells + gs.length ≤ Rm.cells → slots + ay_sum gs ≤ Rm.slots →
    (∀ H1 locs1 q', (∀ z, z < ks.length → q' z = q z) → ay_V D cA base q' (ks ++ gs.map ay_kd) (ay_Rs R r ks.length gs) s H1 locs1 → W p l e Rm s m args below meth c H1 locs1 (cells + gs.length) (slots + ay_sum gs) Q (F0 m (ay_end pc gs) la rest)) → W p l e Rm s m args below meth c H locs cells slots Q (F0 m pc la rest)
  | [], pc, H, locs, cells, slots, q, ks, R, hV, hl, hr, hg, hc, hs, kk => by
    have := kk H locs q (fun _ _ => rfl) (by rw [List.map_nil, List.append_nil]; exact hV)
    exact this
  | g :: gs, pc, H, locs, cells, slots, q, ks, R, hV, hl, hr, hg, hc, hs, kk => by
    have hrl : r < ks.length := (List.getElem?_eq_some_iff.mp hr).1
    rw [ay_seq, Bool.and_eq_true] at hg
    have es : ay_sum (g :: gs) = g.2.1 + ay_sum gs := by simp [ay_sum]
    rw [es] at hs kk
    rw [List.length_cons] at hc kk
    refine ay_group C hK hV hl hr hg.1 (by omega) (by omega) (fun H1 locs1 q1 hq1 hV1 => ?_)
    refine ay_seqW C hK gs (pc + 1 + g.1 + 2 + 3) H1 locs1 (cells + 1) (slots + g.2.1) q1 (ks ++ [ay_kd g]) _ hV1 (by rw [hq1 r hrl]; exact hl) (by rw [List.getElem?_append_left hrl]; exact hr) hg.2 (by omega) (by omega) (fun H2 locs2 q2 hq2 hV2 => ?_)
    have h1 : (ks ++ [ay_kd g]).length = ks.length + 1 := by simp
    rw [h1] at hV2 hq2
    rw [List.append_assoc] at hV2
    have := kk H2 locs2 q2 (fun z hz => (hq2 z (by omega)).trans (hq1 z hz)) hV2
    rw [show cells + (gs.length + 1) = cells + 1 + gs.length by omega, show slots + (g.2.1 + ay_sum gs) = slots + g.2.1 + ay_sum gs by omega] at this
    exact this
end AY
def ay_room (gs : List ay_G) : Room := { frames := 1, cells := gs.length, slots := ay_sum gs, locals := 32 }
theorem ay_blind {D : va_G} {cA : Nat → ClassId} {base : Nat} {q : Nat → Nat} {ks : ax_K} {R : ay_R} {av : List Value} : FrameBlind (va_Pc av (ay_W D cA base q ks R)) := by
  intro a U g mk hq
  obtain ⟨q0, q1, q2, q3, q4, q5, q6⟩ := hq
  exact ⟨q0, q1, va_K.moved (u := U) (U := U.calling g mk a) (Vm.Alike.refl U.vm) q2, q3, q4, ay_N.same rfl q5, q6⟩
/-- a constructor that makes arrays, and nothing else -/
theorem ay_leaf (l : Launch) {D : va_G} {cA : Nat → ClassId} {base : Nat} {q : Nat → Nat} {ks : ax_K} {R : ay_R} {o r i : Nat} {y : MethodName} {cc : ByteArray} {gs : List ay_G} (hy : y.cls = ax_own o) (hyn : y.name = "<init>") (hpl : plainName y.cls = true) (hr : ks[r]? = some (0, o)) (d0 : decode cc 0 = .ok (.aload_n 0, 1)) (d1 : decode cc 1 = .ok (.invokespecial i, 3)) (hlink : Jvm.Cond.methodLink (ax_own o) i Lib.objectInit ∈ ax_tb) (hg : ay_seq cc o 4 gs = true) (d9 : decode cc (ay_end 4 gs) = .ok (.return_, 1)) :
    Met l y (Jvm.Cond.code y cc 1 none :: ax_tb) (ay_room gs) (va_Pc [.ref (q r)] (ay_W D cA base q ks R)) (ay_Q D cA base q ks.length (ks ++ gs.map ay_kd) (ay_Rs R r ks.length gs)) gs.length (ay_sum gs) (ay_A base) := by
  refine Met.ofW (cc := cc) (maxL := 1) (ret := none) hpl rfl ?_
  intro p e s m args below meth c s₁ B hml hv
  obtain ⟨rfl, w1, w2, w3, w4, w5, w6⟩ := hv
  have hx := B.exec
  have hb := B.bytes
  have hret := B.returns
  have hlocks := B.notSynchronized
  have hts0 := atoms_spec (ws := Jvm.Cond.code y cc 1 none :: ax_tb) B.pre
  have hts : ∀ w ∈ ax_tb, w.before _ s = true := fun w hw => hts0 w (List.mem_cons_of_mem _ hw)
  have hown : s.vm.findClass (ax_own o) = some m.cls := by rw [← hy]; exact findClass_of_methodNamed B.named
  have hin : meth.name = "<init>" := by rw [← hyn]; exact (name_of_methodNamed B.named B.method).1
  have hl := lv_entry ([.ref (q r)]) (n := 1) (Nat.le_of_ble_eq_true rfl)
  rw [lg_entry_eq]
  generalize (lg_sl ([.ref (q r)]) ++ List.replicate (1 - (lg_sl ([.ref (q r)])).length) Slot.unset).toArray = la at hl ⊢
  have hl : lv_has la 1 [(0, .ref (q r))] := hl
  refine lv_aload_n hx hb d0 rfl (lv_at hl 0 rfl) ?_
  refine W.objInit hx hb hown (hts _ hlink) (hts _ ay_obj_mem.1) (hts _ ay_obj_mem.2) rfl (by rw [hml]; exact hl.1) rfl d1 (Nat.le_of_ble_eq_true rfl) (Nat.le_of_ble_eq_true rfl) ?_
  refine W.eq (g2 := F0 m 4 la []) rfl ?_
  refine ay_seqW (o := o) (nL := 1) (r := r) ⟨hx, hb, hml, hret, hlocks, hown, hts, w5, hin⟩ w2 gs 4 s.heap [] 0 0 q ks R ⟨w1, w3, va_S.rf, w4, w6⟩ (lv_at hl 0 rfl) hr hg (by show 0 + gs.length ≤ gs.length; omega) (by show 0 + ay_sum gs ≤ ay_sum gs; omega) (fun H1 locs1 q1 hq1 hV1 => ?_)
  rw [Nat.zero_add, Nat.zero_add]
  exact W.vret hx hb hret (fun t ht hW => ⟨rfl, ⟨q1, hq1, by rw [ht]; exact hV1.1, va_K.moved hW.alike w2, hV1.2.1, hV1.2.2.2.1, ay_N.warm hW w5, by rw [ht]; exact Nat.le_trans w6 hV1.2.2.1.1⟩, hV1.2.2.1.F ht⟩) hV1.2.2.1.2.2 d9
