/-! the constructor of the class -/
theorem KG_len (ks : ax_K) : (KG ks).length = ks.length + 111 := by
  unfold KG; rw [List.length_append, List.length_append, List.length_append, ksL_len, List.length_append, List.length_map, List.length_map]
  show ks.length + 1 + 12 * 8 + 1 + 7 + 6 = _; omega
theorem KG_left {ks : ax_K} {r : Nat} (h : r < ks.length) : (KG ks)[r]? = ks[r]? := by
  unfold KG
  rw [List.append_assoc, List.append_assoc, List.getElem?_append_left (by rw [ksL_len, List.length_append]; omega), ksL_left _ _ _ _ (by rw [List.length_append]; omega), List.getElem?_append_left h]
def KP1 (ks : ax_K) : ax_K := (ks ++ [(0, 1)]) ++ gsR.map ay_kd
def KP2 (ks : ax_K) : ax_K := KG (KP1 ks ++ [(0, 2)])
def KP3 (ks : ax_K) : ax_K := KP2 ks ++ gsP1.map ay_kd
def KP4 (ks : ax_K) : ax_K := KP3 ks ++ [(5, 6)]
def KP5 (ks : ax_K) : ax_K := ksL 4 gsK 6 (KP4 ks)
def KP (ks : ax_K) : ax_K := KP5 ks ++ gsP2.map ay_kd
theorem KP1_len (ks : ax_K) : (KP1 ks).length = ks.length + 5 := by unfold KP1; rw [List.length_append, List.length_append]; rfl
theorem KP2_len (ks : ax_K) : (KP2 ks).length = ks.length + 117 := by unfold KP2; rw [KG_len, List.length_append, KP1_len]; rfl
theorem KP3_len (ks : ax_K) : (KP3 ks).length = ks.length + 118 := by unfold KP3; rw [List.length_append, KP2_len]; rfl
theorem KP4_len (ks : ax_K) : (KP4 ks).length = ks.length + 119 := by unfold KP4; rw [List.length_append, KP3_len]; rfl
theorem KP5_len (ks : ax_K) : (KP5 ks).length = ks.length + 155 := by unfold KP5; rw [ksL_len, KP4_len]; show ks.length + 119 + 6 * 6 = _; omega
theorem KP_len (ks : ax_K) : (KP ks).length = ks.length + 156 := by unfold KP; rw [List.length_append, KP5_len]; rfl
theorem KP1_left {ks : ax_K} {r : Nat} (h : r < ks.length) : (KP1 ks)[r]? = ks[r]? := by unfold KP1; rw [List.append_assoc, List.getElem?_append_left h]
theorem KP2_left {ks : ax_K} {r : Nat} (h : r < ks.length) : (KP2 ks)[r]? = ks[r]? := by unfold KP2; rw [KG_left (by rw [List.length_append, KP1_len]; omega), List.getElem?_append_left (by rw [KP1_len]; omega), KP1_left h]
theorem KP3_left {ks : ax_K} {r : Nat} (h : r < ks.length) : (KP3 ks)[r]? = ks[r]? := by unfold KP3; rw [List.getElem?_append_left (by rw [KP2_len]; omega), KP2_left h]
theorem KP4_left {ks : ax_K} {r : Nat} (h : r < ks.length) : (KP4 ks)[r]? = ks[r]? := by unfold KP4; rw [List.getElem?_append_left (by rw [KP3_len]; omega), KP3_left h]
theorem KP5_left {ks : ax_K} {r : Nat} (h : r < ks.length) : (KP5 ks)[r]? = ks[r]? := by unfold KP5; rw [ksL_left _ _ _ _ (by rw [KP4_len]; omega), KP4_left h]
def RP1 (R : ay_R) (r n : Nat) : ay_R := ay_up (ay_Rs R n (n + 1) gsR) r 0 n
def RP2 (R : ay_R) (r n : Nat) : ay_R := ay_up (RG (RP1 R r n) (n + 5) (n + 5 + 1)) r 1 (n + 5)
def RP3 (R : ay_R) (r n : Nat) : ay_R := ay_Rs (RP2 R r n) r (n + 117) gsP1
def RP4 (R : ay_R) (r n : Nat) : ay_R := ay_up (RP3 R r n) r 3 (n + 118)
def RP5 (R : ay_R) (r n : Nat) : ay_R := RsL gsK (n + 118) 6 0 (n + 119) (RP4 R r n)
def RP (R : ay_R) (r n : Nat) : ay_R := ay_Rs (RP5 R r n) r (n + 155) gsP2
def rmP : Room := { frames := 3, cells := 156, slots := 4273, locals := 100 }
theorem cI_0 (l : Launch) {D : va_G} {cA : Nat → ClassId} {base : Nat} {q : Nat → Nat} {ks : ax_K} {R : ay_R} {r : Nat} (hr : ks[r]? = some (0, 0)) : Met l (yI 0) (Jvm.Cond.code (yI 0) prog_1_method_1_code 2 none :: ax_tb) rmP (va_Pc [.ref (q r)] (ay_W D cA base q ks R)) (ay_Q D cA base q ks.length (KP ks) (RP R r ks.length)) 156 4273 (ay_A base) := by
  refine Met.ofW (cc := prog_1_method_1_code) (maxL := 2) (ret := none) (by decide) rfl ?_
  intro p e s m args below meth c s₁ B hml hv
  obtain ⟨rfl, w1, w2, w3, w4, w5, w6⟩ := hv
  have hx := B.exec
  have hb := B.bytes
  have hret := B.returns
  have hlocks := B.notSynchronized
  have hts0 := atoms_spec (ws := Jvm.Cond.code (yI 0) prog_1_method_1_code 2 none :: ax_tb) B.pre
  have hts : ∀ w ∈ ax_tb, w.before _ s = true := fun w hw => hts0 w (List.mem_cons_of_mem _ hw)
  have hown : s.vm.findClass (ax_own 0) = some m.cls := findClass_of_methodNamed B.named
  have hin : meth.name = "<init>" := (name_of_methodNamed B.named B.method).1
  have hrl : r < ks.length := (List.getElem?_eq_some_iff.mp hr).1
  have hl := lv_entry ([.ref (q r)]) (n := 2) (Nat.le_of_ble_eq_true rfl)
  rw [lg_entry_eq]
  generalize (lg_sl ([.ref (q r)]) ++ List.replicate (2 - (lg_sl ([.ref (q r)])).length) Slot.unset).toArray = la at hl ⊢
  have hl : lv_has la 2 [(0, .ref (q r))] := hl
  generalize (#[Value.ref (q r)] : Array Value) = av at hts ⊢
  have C : ay_C p s m av meth c 0 2 prog_1_method_1_code := ⟨hx, hb, hml, hret, hlocks, hown, hts, w5, hin⟩
  have S : CallFix p m c prog_1_method_1_code 2 s av ax_tb (ax_own 0) := ⟨hx, hb, hml, hown, hts⟩
  refine lv_aload_n hx hb (by decide +kernel : decode prog_1_method_1_code 0 = .ok (.aload_n 0, 1)) rfl (lv_at hl 0 rfl) ?_
  refine W.objInit hx hb hown (hts _ wI_0.2.2.2.2.1) (hts _ ay_obj_mem.1) (hts _ ay_obj_mem.2) rfl (by rw [hml]; exact hl.1) rfl (by decide +kernel : decode prog_1_method_1_code 1 = .ok (.invokespecial 1, 3)) (Nat.le_of_ble_eq_true rfl) (Nat.le_of_ble_eq_true rfl) ?_
  refine W.eq (g2 := F0 m 4 la []) rfl ?_
  -- the reader
  refine lv_aload_n hx hb (by decide +kernel : decode prog_1_method_1_code 4 = .ok (.aload_n 0, 1)) rfl (lv_at hl 0 rfl) ?_
  refine ay_make (base := base) (D := D) (cA := cA) (q := q) (ks := ks) (R := R) (F := fun ks => ks ++ gsR.map ay_kd) (G := fun R r n => ay_Rs R r n gsR) (i1 := 7) (i2 := 9) (pc := 5) S w5 w2 ⟨w1, w3, va_S.rf, w4, w6⟩ (by omega) wI_1.1 wI_1.2.1 wI_1.2.2.1 wI_1.2.2.2.1 wI_1.2.2.2.2.2.1 wI_1.2.2.2.2.2.2 (fun q ks R r hr => cI_1 l hr) ⟨rfl, rfl⟩ (by decide) ⟨by decide, by decide⟩ hl.1 (by show 1 + 0 ≤ 7; omega) (by decide +kernel) (by decide +kernel) (by decide +kernel) ⟨by decide, by decide⟩ (fun H1 locs1 q1 hq1 hV1 => ?_)
  have hV1 : ay_V D cA base q1 (KP1 ks) (ay_Rs R ks.length (ks.length + 1) gsR) s H1 locs1 := hV1
  have l1 := KP1_len ks
  have r1 := (KP1_left hrl).trans hr
  rw [← hq1 r hrl]
  refine ay_put (o := 0) (x := ks.length) (r := r) (ee := (0, 0, false, 297)) hx hb hts hown hin w2 hV1 (by decide +kernel) rfl rfl r1 (by omega) (by decide +kernel) (Or.inl ⟨_, rfl⟩) (by decide +kernel : decode prog_1_method_1_code 12 = .ok (.putfield 10, 3)) (fun H2 locs2 hV2 => ?_)
  have hV2 : ay_V D cA base q1 (KP1 ks) (RP1 R r ks.length) s H2 locs2 := hV2
  -- the graph
  refine lv_aload_n (x := q1 r) hx hb (by decide +kernel : decode prog_1_method_1_code 15 = .ok (.aload_n 0, 1)) rfl (by rw [hq1 r hrl]; exact lv_at hl 0 rfl) ?_
  refine ay_make (F := KG) (G := RG) (i1 := 16) (i2 := 18) (pc := 16) S w5 w2 hV2 (by omega) wI_2.1 wI_2.2.1 wI_2.2.2.1 wI_2.2.2.2.1 wI_2.2.2.2.2.2.1 wI_2.2.2.2.2.2.2 (fun q ks R r hr => cI_2 l hr) ⟨rfl, rfl⟩ (by decide) ⟨by decide, by decide⟩ hl.1 (by show 1 + 0 ≤ 7; omega) (by decide +kernel) (by decide +kernel) (by decide +kernel) ⟨by decide, by decide⟩ (fun H3 locs3 q3 hq3 hV3 => ?_)
  rw [l1] at hq3 hV3
  rw [l1]
  have hV3 : ay_V D cA base q3 (KP2 ks) (RG (RP1 R r ks.length) (ks.length + 5) (ks.length + 5 + 1)) s H3 locs3 := hV3
  have l3 := KP2_len ks
  have r3 := (KP2_left hrl).trans hr
  rw [← hq3 r (by omega)]
  refine ay_put (o := 0) (x := ks.length + 5) (r := r) (ee := (0, 1, false, 298)) hx hb hts hown hin w2 hV3 (by decide +kernel) rfl rfl r3 (by omega) (by decide +kernel) (Or.inl ⟨_, rfl⟩) (by decide +kernel : decode prog_1_method_1_code 23 = .ok (.putfield 19, 3)) (fun H4 locs4 hV4 => ?_)
  have hV4 : ay_V D cA base q3 (KP2 ks) (RP2 R r ks.length) s H4 locs4 := hV4
  have e4 : q3 r = q r := (hq3 r (by omega)).trans (hq1 r hrl)
  -- the patterns
  refine ay_seqW (o := 0) (nL := 2) (r := r) C w2 gsP1 26 H4 locs4 _ _ q3 _ _ hV4 (by rw [e4]; exact lv_at hl 0 rfl) r3 (by decide +kernel) (by decide) (by decide) (fun H5 locs5 q5 hq5 hV5 => ?_)
  rw [l3] at hq5 hV5
  have hV5 : ay_V D cA base q5 (KP3 ks) (RP3 R r ks.length) s H5 locs5 := hV5
  have l5 := KP3_len ks
  have r5 := (KP3_left hrl).trans hr
  have e5 : q5 r = q r := (hq5 r (by omega)).trans e4
  refine W.eq (g2 := F0 m 34 la []) rfl ?_
  -- the array of rules
  refine lv_aload_n (x := q5 r) hx hb (by decide +kernel : decode prog_1_method_1_code 34 = .ok (.aload_n 0, 1)) rfl (by rw [e5]; exact lv_at hl 0 rfl) ?_
  refine lv_bipush (v := nI 6) hx hb (by decide +kernel : decode prog_1_method_1_code 35 = .ok (.bipush 6, 2)) rfl ?_
  refine ay_newq (t := 5) hx hb hown (Or.inr ⟨rfl, rfl⟩) (hts _ wI_4.2.2.2.2.2.1) w5.2.2 (by omega) w2 hV5 (by decide) (by decide) (by decide +kernel : decode prog_1_method_1_code 37 = .ok (.anewarray 27, 3)) (fun H6 a hV6 => ?_)
  rw [l5] at hV6
  have ea : ay_n q5 (ks.length + 118) a (ks.length + 118) = a := if_pos rfl
  have ez : ∀ z, z < ks.length + 118 → ay_n q5 (ks.length + 118) a z = q5 z := fun z hz => if_neg (by omega)
  generalize ay_n q5 (ks.length + 118) a = q6 at hV6 ea ez
  have hV6 : ay_V D cA base q6 (KP4 ks) (RP3 R r ks.length) s H6 locs5 := hV6
  have l6 := KP4_len ks
  have r6 := (KP4_left hrl).trans hr
  rw [← ea, ← ez r (by omega)]
  refine ay_put (o := 0) (x := ks.length + 118) (r := r) (ee := (0, 3, false, 300)) hx hb hts hown hin w2 hV6 (by decide +kernel) rfl rfl r6 (by omega) (by decide +kernel) (Or.inr ⟨_, rfl⟩) (by decide +kernel : decode prog_1_method_1_code 40 = .ok (.putfield 29, 3)) (fun H7 locs7 hV7 => ?_)
  have hV7 : ay_V D cA base q6 (KP4 ks) (RP4 R r ks.length) s H7 locs7 := hV7
  have e6 : q6 r = q r := (ez r (by omega)).trans e5
  refine lv_iconst (v := nI 0) hx hb (by decide +kernel : decode prog_1_method_1_code 43 = .ok (.iconst 0, 1)) rfl ?_
  refine lv_istore_n (i := 1) (lv' := [(1, .int (nI 0)), (0, .ref (q6 r))]) hx hb (by decide +kernel : decode prog_1_method_1_code 44 = .ok (.istore_n 1, 1)) rfl hl (by omega) (by rw [e6]; rfl) (fun la2 hl2 => ?_)
  have ra : (KP4 ks)[ks.length + 118]? = some (5, 6) := by unfold KP4; rw [List.getElem?_append_right (by omega), l5, Nat.sub_self]; rfl
  have rR : RP4 R r ks.length r 3 = some (ks.length + 118) := by unfold RP4 ay_up; rw [if_pos ⟨rfl, rfl⟩]
  refine ay_loop (L := 45) (j := 29) (fk := 3) (n := 6) (t := 5) (ci := 4) (i1 := 27) (i2 := 33) (mN := 6) (gs := gsK) (a := ks.length + 118) (r := r) C w2 (by omega) (Or.inr ⟨rfl, rfl⟩) (z := 300) (by decide +kernel) rfl wI_4.1 wI_4.2.1 wI_4.2.2.1 wI_4.2.2.2.1 wI_4.2.2.2.2.2.1 wI_4.2.2.2.2.2.2 (fun q ks R r hr => cI_4 l hr) (by decide) (by decide) (by decide +kernel) (by decide +kernel) rfl (by decide +kernel) (by decide +kernel) (by decide +kernel) (by decide +kernel) (by decide +kernel) (by decide +kernel) (by decide +kernel) (by decide +kernel) (by decide +kernel) (by decide +kernel) rfl 6 0 H7 locs7 _ _ q6 _ _ la2 rfl hV7 hl2 r6 ra rR (by decide) (by decide) (fun H8 locs8 q8 la8 hq8 hV8 hl8 => ?_)
  rw [l6] at hq8 hV8
  have hV8 : ay_V D cA base q8 (KP5 ks) (RP5 R r ks.length) s H8 locs8 := hV8
  have l8 := KP5_len ks
  have r8 := (KP5_left hrl).trans hr
  -- the row of what is found
  refine W.eq (g2 := F0 m 70 la8 []) rfl ?_
  refine ay_seqW (o := 0) (nL := 2) (r := r) C w2 gsP2 70 H8 locs8 _ _ q8 _ _ hV8 (lv_at hl8 1 rfl) r8 (by decide +kernel) (by decide) (by decide) (fun H9 locs9 q9 hq9 hV9 => ?_)
  rw [l8] at hq9 hV9
  have hV9 : ay_V D cA base q9 (KP ks) (RP R r ks.length) s H9 locs9 := hV9
  have l9 := KP_len ks
  have e9 : q8 r = q9 r := (hq9 r (by omega)).symm
  have r9 : (KP ks)[r]? = some (0, 0) := by unfold KP; rw [List.getElem?_append_left (by omega)]; exact r8
  have la9 : la8[0]? = some (.val (.ref (q9 r))) := by rw [← e9]; exact lv_at hl8 1 rfl
  have hq : ∀ z, z < ks.length → q9 z = q z := fun z hz => (hq9 z (by omega)).trans ((hq8 z (by omega)).trans ((ez z (by omega)).trans ((hq5 z (by omega)).trans ((hq3 z (by omega)).trans (hq1 z hz)))))
  clear hV1 hV2 hV3 hV4 hV5 hV6 hV7 hV8
  refine W.eq (g2 := F0 m 79 la8 []) rfl ?_
  -- counts, and the typed text
  refine lv_aload_n hx hb (by decide +kernel : decode prog_1_method_1_code 79 = .ok (.aload_n 0, 1)) rfl la9 ?_
  refine lv_iconst (v := 0) hx hb (by decide +kernel : decode prog_1_method_1_code 80 = .ok (.iconst 0, 1)) rfl ?_
  refine ay_putN (v := .int 0) (z := 302) (k := 5) C w2 hV9 (by decide +kernel) r9 (by decide +kernel) (ay_sv_int rfl) hV9.2.2.2.1 (by decide +kernel : decode prog_1_method_1_code 81 = .ok (.putfield 40, 3)) (fun HA locsA hVA => ?_)
  refine lv_aload_n hx hb (by decide +kernel : decode prog_1_method_1_code 84 = .ok (.aload_n 0, 1)) rfl la9 ?_
  refine lv_iconst (v := 0) hx hb (by decide +kernel : decode prog_1_method_1_code 85 = .ok (.iconst 0, 1)) rfl ?_
  refine ay_putN (v := .int 0) (z := 303) (k := 6) C w2 hVA (by decide +kernel) r9 (by decide +kernel) (ay_sv_int rfl) hVA.2.2.2.1 (by decide +kernel : decode prog_1_method_1_code 86 = .ok (.putfield 44, 3)) (fun HB locsB hVB => ?_)
  refine lv_aload_n hx hb (by decide +kernel : decode prog_1_method_1_code 89 = .ok (.aload_n 0, 1)) rfl la9 ?_
  refine lv_lconst (v := 0) hx hb (by decide +kernel : decode prog_1_method_1_code 90 = .ok (.lconst 0, 1)) rfl ?_
  refine ay_putN (v := .long 0) (z := 304) (k := 7) C w2 hVB (by decide +kernel) r9 (by decide +kernel) (ay_sv_long rfl) hVB.2.2.2.1 (by decide +kernel : decode prog_1_method_1_code 91 = .ok (.putfield 49, 3)) (fun HC locsC hVC => ?_)
  refine W.cs (cells' := 156) (slots' := 4273) (by decide) (by decide) ?_
  exact W.vret hx hb hret (fun t ht hW => ⟨rfl, ⟨q9, hq, by rw [ht]; exact hVC.1, va_K.moved hW.alike w2, hVC.2.1, hVC.2.2.2.1, ay_N.warm hW w5, by rw [ht]; exact Nat.le_trans w6 hVC.2.2.1.1⟩, hVC.2.2.1.F ht⟩) hVC.2.2.1.2.2 (by decide +kernel : decode prog_1_method_1_code 94 = .ok (.return_, 1))
