/-! the constructors of the graph, and of the class itself -/
theorem ksL_len (ci : Nat) (gs : List ay_G) : ∀ (k : Nat) (ks : ax_K), (ksL ci gs k ks).length = ks.length + k * (1 + gs.length)
  | 0, ks => by simp [ksL]
  | k + 1, ks => by rw [ksL, ksL_len ci gs k, Nat.succ_mul, List.length_append, List.length_append, List.length_map]; simp; omega
theorem ksL_left (ci : Nat) (gs : List ay_G) {r : Nat} : ∀ (k : Nat) (ks : ax_K), r < ks.length → (ksL ci gs k ks)[r]? = ks[r]?
  | 0, ks, h => rfl
  | k + 1, ks, h => by rw [ksL, ksL_left ci gs k _ (by rw [List.length_append, List.length_append]; omega), List.append_assoc, List.getElem?_append_left h]
theorem ay_sv_obj {ks : ax_K} {R : ay_R} {n : String} {o k r a : Nat} (hty : ax_ty o k = .object n) (ha : a < ks.length) : ax_sv ks (ay_z R) (ax_ty o k) r k (.ref a) = some (ay_z (ay_up R r k a)) := by rw [hty]; exact if_pos ha
theorem ay_sv_int {ks : ax_K} {R : ay_R} {o k r : Nat} (hty : ax_ty o k = .int) : ax_sv ks (ay_z R) (ax_ty o k) r k (.int 0) = some (ay_z R) := by
  rw [hty]
  have e : ax_upI (ay_z R) r k 0 = ay_z R := by
    unfold ax_upI ay_z; congr 1; funext a b; split <;> rfl
  exact congrArg some e
theorem ay_sv_long {ks : ax_K} {R : ay_R} {o k r : Nat} (hty : ax_ty o k = .long) : ax_sv ks (ay_z R) (ax_ty o k) r k (.long 0) = some (ay_z R) := by
  rw [hty]
  have e : ax_upL (ay_z R) r k 0 = ay_z R := by
    unfold ax_upL ay_z; congr 2; funext a b; split <;> rfl
  exact congrArg some e
def KG (ks : ax_K) : ax_K := ((ksL 3 gsU 12 (ks ++ [(4, 12)]) ++ [(0, 3)]) ++ gsU.map ay_kd) ++ gsG.map ay_kd
def RG (R : ay_R) (r n : Nat) : ay_R := ay_Rs (ay_up (ay_Rs (RsL gsU n 12 0 (n + 1) (ay_up R r 0 n)) (n + 97) (n + 97 + 1) gsU) r 2 (n + 97)) r (n + 105) gsG
def rmG : Room := { frames := 2, cells := 111, slots := 3124, locals := 64 }
theorem cI_2 (l : Launch) {D : va_G} {cA : Nat → ClassId} {base : Nat} {q : Nat → Nat} {ks : ax_K} {R : ay_R} {r : Nat} (hr : ks[r]? = some (0, 2)) : Met l (yI 2) (Jvm.Cond.code (yI 2) prog_2_method_1_code 2 none :: ax_tb) rmG (va_Pc [.ref (q r)] (ay_W D cA base q ks R)) (ay_Q D cA base q ks.length (KG ks) (RG R r ks.length)) 111 3124 (ay_A base) := by
  refine Met.ofW (cc := prog_2_method_1_code) (maxL := 2) (ret := none) (by decide) rfl ?_
  intro p e s m args below meth c s₁ B hml hv
  obtain ⟨rfl, w1, w2, w3, w4, w5, w6⟩ := hv
  have hx := B.exec
  have hb := B.bytes
  have hret := B.returns
  have hlocks := B.notSynchronized
  have hts0 := atoms_spec (ws := Jvm.Cond.code (yI 2) prog_2_method_1_code 2 none :: ax_tb) B.pre
  have hts : ∀ w ∈ ax_tb, w.before _ s = true := fun w hw => hts0 w (List.mem_cons_of_mem _ hw)
  have hown : s.vm.findClass (ax_own 2) = some m.cls := findClass_of_methodNamed B.named
  have hin : meth.name = "<init>" := (name_of_methodNamed B.named B.method).1
  have hrl : r < ks.length := (List.getElem?_eq_some_iff.mp hr).1
  have hl := lv_entry ([.ref (q r)]) (n := 2) (Nat.le_of_ble_eq_true rfl)
  rw [lg_entry_eq]
  generalize (lg_sl ([.ref (q r)]) ++ List.replicate (2 - (lg_sl ([.ref (q r)])).length) Slot.unset).toArray = la at hl ⊢
  have hl : lv_has la 2 [(0, .ref (q r))] := hl
  generalize (#[Value.ref (q r)] : Array Value) = av at hts ⊢
  have C : ay_C p s m _ meth c 2 2 prog_2_method_1_code := ⟨hx, hb, hml, hret, hlocks, hown, hts, w5, hin⟩
  refine lv_aload_n hx hb (by decide +kernel : decode prog_2_method_1_code 0 = .ok (.aload_n 0, 1)) rfl (lv_at hl 0 rfl) ?_
  refine W.objInit hx hb hown (hts _ wI_2.2.2.2.2.1) (hts _ ay_obj_mem.1) (hts _ ay_obj_mem.2) rfl (by rw [hml]; exact hl.1) rfl (by decide +kernel : decode prog_2_method_1_code 1 = .ok (.invokespecial 3, 3)) (Nat.le_of_ble_eq_true rfl) (Nat.le_of_ble_eq_true rfl) ?_
  refine W.eq (g2 := F0 m 4 la []) rfl ?_
  refine lv_aload_n hx hb (by decide +kernel : decode prog_2_method_1_code 4 = .ok (.aload_n 0, 1)) rfl (lv_at hl 0 rfl) ?_
  refine lv_bipush (v := nI 12) hx hb (by decide +kernel : decode prog_2_method_1_code 5 = .ok (.bipush 12, 2)) rfl ?_
  refine ay_newq (q := q) (ks := ks) (R := R) (base := base) (D := D) (cA := cA) (t := 4) hx hb hown (Or.inl ⟨rfl, rfl⟩) (hts _ wI_3.2.2.2.2.2.1) w5.2.1 (by omega) w2 ⟨w1, w3, va_S.rf, w4, w6⟩ (by decide) (by decide) (by decide +kernel : decode prog_2_method_1_code 7 = .ok (.anewarray 9, 3)) (fun H1 a hV1 => ?_)
  have ea : ay_n q ks.length a ks.length = a := if_pos rfl
  have er : ay_n q ks.length a r = q r := if_neg (by omega)
  have ez : ∀ z, z < ks.length → ay_n q ks.length a z = q z := fun z hz => if_neg (by omega)
  generalize ay_n q ks.length a = q1 at hV1 ea er ez
  rw [← ea, ← er]
  have len1 : (ks ++ [(4, 12)]).length = ks.length + 1 := by simp
  have hr1 : (ks ++ [(4, 12)])[r]? = some (0, 2) := by rw [List.getElem?_append_left hrl]; exact hr
  refine ay_put (o := 2) (x := ks.length) (r := r) (ee := (2, 0, false, 224)) hx hb hts hown hin w2 hV1 (by decide +kernel) rfl rfl hr1 (by omega) (by decide +kernel) (Or.inr ⟨_, rfl⟩) (by decide +kernel : decode prog_2_method_1_code 10 = .ok (.putfield 11, 3)) (fun H2 locs2 hV2 => ?_)
  refine lv_iconst (v := nI 0) hx hb (by decide +kernel : decode prog_2_method_1_code 13 = .ok (.iconst 0, 1)) rfl ?_
  refine lv_istore_n (i := 1) (lv' := [(1, .int (nI 0)), (0, .ref (q1 r))]) hx hb (by decide +kernel : decode prog_2_method_1_code 14 = .ok (.istore_n 1, 1)) rfl hl (by omega) (by rw [er]; rfl) (fun la2 hl2 => ?_)
  refine ay_loop (L := 15) (j := 11) (fk := 0) (n := 12) (t := 4) (ci := 3) (i1 := 9) (i2 := 17) (mN := 8) (gs := gsU) (a := ks.length) (r := r) C w2 (by omega) (Or.inl ⟨rfl, rfl⟩) (z := 224) (by decide +kernel) rfl wI_3.1 wI_3.2.1 wI_3.2.2.1 wI_3.2.2.2.1 wI_3.2.2.2.2.2.1 wI_3.2.2.2.2.2.2 (fun q ks R r hr => cI_3 l hr) (by decide) (by decide) (by decide +kernel) (by decide +kernel) rfl (by decide +kernel) (by decide +kernel) (by decide +kernel) (by decide +kernel) (by decide +kernel) (by decide +kernel) (by decide +kernel) (by decide +kernel) (by decide +kernel) (by decide +kernel) rfl 12 0 H2 locs2 _ _ q1 _ _ la2 rfl hV2 hl2 hr1 (by rw [List.getElem?_append_right (Nat.le_refl _), Nat.sub_self]; rfl) (by unfold ay_up; rw [if_pos ⟨rfl, rfl⟩]) (by decide) (by decide) (fun H3 locs3 q3 la3 hq3 hV3 hl3 => ?_)
  rw [len1] at hq3 hV3
  have len3 : (ksL 3 gsU 12 (ks ++ [(4, 12)])).length = ks.length + 97 := by rw [ksL_len, len1]; show ks.length + 1 + 12 * 8 = _; omega
  have hr3 : (ksL 3 gsU 12 (ks ++ [(4, 12)]))[r]? = some (0, 2) := by rw [ksL_left _ _ _ _ (by omega)]; exact hr1
  refine lv_aload_n hx hb (by decide +kernel : decode prog_2_method_1_code 40 = .ok (.aload_n 0, 1)) rfl (lv_at hl3 1 rfl) ?_
  refine ay_make (F := fun ks => ks ++ gsU.map ay_kd) (G := fun R r n => ay_Rs R r n gsU) (i1 := 9) (i2 := 17) (pc := 41) ⟨hx, hb, hml, hown, hts⟩ w5 w2 hV3 (by omega) wI_3.1 wI_3.2.1 wI_3.2.2.1 wI_3.2.2.2.1 wI_3.2.2.2.2.2.1 wI_3.2.2.2.2.2.2 (fun q ks R r hr => cI_3 l hr) ⟨rfl, rfl⟩ (by decide) ⟨by decide, by decide⟩ hl3.1 (by show 1 + 0 ≤ 7; omega) (by decide +kernel) (by decide +kernel) (by decide +kernel) ⟨by decide, by decide⟩ (fun H4 locs4 q4 hq4 hV4 => ?_)
  rw [len3] at hq4 hV4
  rw [len3]
  have e4 : q3 r = q4 r := (hq4 r (by omega)).symm
  rw [e4]
  have len4 : ((ksL 3 gsU 12 (ks ++ [(4, 12)]) ++ [(0, 3)]) ++ gsU.map ay_kd).length = ks.length + 105 := by rw [List.length_append, List.length_append, len3]; rfl
  have hr4 : ((ksL 3 gsU 12 (ks ++ [(4, 12)]) ++ [(0, 3)]) ++ gsU.map ay_kd)[r]? = some (0, 2) := by rw [List.append_assoc, List.getElem?_append_left (by omega)]; exact hr3
  refine ay_putN (v := .ref (ks.length + 97)) (z := 228) (k := 2) C w2 hV4 (by decide +kernel) hr4 (by decide +kernel) (ay_sv_obj (n := "PackageRules$Unit") rfl (by omega)) (hV4.2.2.2.1.up (by omega) (by omega) 2) (by decide +kernel : decode prog_2_method_1_code 48 = .ok (.putfield 18, 3)) (fun H5 locs5 hV5 => ?_)
  refine ay_seqW (o := 2) (nL := 2) (r := r) C w2 gsG 51 H5 locs5 _ _ q4 _ _ hV5 (by rw [← e4]; exact lv_at hl3 1 rfl) hr4 (by decide +kernel) (by decide) (by decide) (fun H6 locs6 q6 hq6 hV6 => ?_)
  rw [len4] at hq6 hV6
  have hV7 : ay_V D cA base q6 (KG ks) (RG R r ks.length) s H6 locs6 := by unfold KG RG; exact hV6
  clear hV6
  refine W.cs (cells' := 111) (slots' := 3124) (by decide) (by decide) ?_
  exact W.vret hx hb hret (fun t ht hW => ⟨rfl, ⟨q6, fun z hz => (hq6 z (by omega)).trans ((hq4 z (by omega)).trans ((hq3 z (by omega)).trans (ez z hz))), by rw [ht]; exact hV7.1, va_K.moved hW.alike w2, hV7.2.1, hV7.2.2.2.1, ay_N.warm hW w5, by rw [ht]; exact Nat.le_trans w6 hV7.2.2.1.1⟩, hV7.2.2.1.F ht⟩) hV7.2.2.1.2.2 (by decide +kernel : decode prog_2_method_1_code 99 = .ok (.return_, 1))
