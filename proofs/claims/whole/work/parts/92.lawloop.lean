/-! the law's loop, and its start -/
theorem lw_sw : decode code 32 = .ok (.tableswitch 591 0 18 #[92, 125, 138, 151, 176, 189, 232, 255, 288, 311, 324, 357, 380, 413, 446, 479, 512, 535, 568], 92) := by decide +kernel
section LWM
variable {p : Program} {l : Launch} {e : Env} {Rm : Room} {s : State} {m : MethodId} {args : Array Value} {below : List Frame} {meth : Method} {c : Code} {H : Heap} {locs : List Loc} {cells slots : Nat} {Q : State → Prop}
variable {D : va_G} {cA : Nat → ClassId} {base b L i : Nat} {xs : Nat → Int32} {qC qM : Nat → Nat} {hC hM : ax_H} {la : Array Slot}
variable {bf : List Nat} {us ps : List (List Nat)} {ty : List Nat} {rs : List rl4}
theorem lw_body (G : lw_E p s m c args D cA base b L xs qC qM Rm) (V : lw_V s D cA base qC qM hC hM H locs) (hi : i + 4 ≤ L) (hl : lv_has la 4 [(3, .int (nI i)), (2, .ref (qM 0)), (1, .ref (qC 0)), (0, .ref b)]) (hcs : cells ≤ Rm.cells ∧ slots ≤ Rm.slots) (hsC : stC hC bf us ps ty rs) (hsM : stM hM bf us ps ty rs)
    (kk : ∀ hC' hM' H' locs' bf' us' ps' ty' rs', lw_V s D cA base qC qM hC' hM' H' locs' → stC hC' bf' us' ps' ty' rs' → stM hM' bf' us' ps' ty' rs' → W p l e Rm s m args below meth c H' locs' cells slots Q (F0 m 623 la [])) : W p l e Rm s m args below meth c H locs cells slots Q (F0 m 26 la []) := by
  obtain ⟨hx, hb, hml, hown, hts⟩ := G.fix
  have hsm := G.small
  obtain ⟨n1, n2⟩ := lw_nIin (a := i) (L := L) hsm (by omega)
  refine lv_aload_n hx hb (by decide +kernel : decode code 26 = .ok (.aload_n 0, 1)) rfl (lv_at hl 3 rfl) ?_
  refine lv_iload_n hx hb (by decide +kernel : decode code 27 = .ok (.iload_n 3, 1)) rfl (lv_at hl 0 rfl) ?_
  refine va_sld hx hb G.scr G.bl G.bb V.fr n1 (by decide +kernel : decode code 28 = .ok (.iaload, 1)) ?_
  refine lv_bipush (v := 31) hx hb (by decide +kernel : decode code 29 = .ok (.bipush 31, 2)) rfl ?_
  refine lv_iand hx hb (by decide +kernel : decode code 31 = .ok (.iand, 1)) ?_
  obtain ⟨j, hj, ej⟩ := pk_andE (xs (nI i).toNatClampNeg) (m := 31) 5 rfl
  rw [ej]
  by_cases h19 : j < 19
  · match j, h19 with
    | 0, _ => exact lv_tableIn (off := 92) (tgt := 124) hx hb lw_sw (by decide) (by decide) rfl rfl (lw_c0 G V hi hl hcs hsC hsM kk)
    | 1, _ => exact lv_tableIn (off := 125) (tgt := 157) hx hb lw_sw (by decide) (by decide) rfl rfl (lw_c1 G V hi hl hcs hsC hsM kk)
    | 2, _ => exact lv_tableIn (off := 138) (tgt := 170) hx hb lw_sw (by decide) (by decide) rfl rfl (lw_c2 G V hi hl hcs hsC hsM kk)
    | 3, _ => exact lv_tableIn (off := 151) (tgt := 183) hx hb lw_sw (by decide) (by decide) rfl rfl (lw_c3 G V hi hl hcs hsC hsM kk)
    | 4, _ => exact lv_tableIn (off := 176) (tgt := 208) hx hb lw_sw (by decide) (by decide) rfl rfl (lw_c4 G V hi hl hcs hsC hsM kk)
    | 5, _ => exact lv_tableIn (off := 189) (tgt := 221) hx hb lw_sw (by decide) (by decide) rfl rfl (lw_c5 G V hi hl hcs hsC hsM kk)
    | 6, _ => exact lv_tableIn (off := 232) (tgt := 264) hx hb lw_sw (by decide) (by decide) rfl rfl (lw_c6 G V hi hl hcs hsC hsM kk)
    | 7, _ => exact lv_tableIn (off := 255) (tgt := 287) hx hb lw_sw (by decide) (by decide) rfl rfl (lw_c7 G V hi hl hcs hsC hsM kk)
    | 8, _ => exact lv_tableIn (off := 288) (tgt := 320) hx hb lw_sw (by decide) (by decide) rfl rfl (lw_c8 G V hi hl hcs hsC hsM kk)
    | 9, _ => exact lv_tableIn (off := 311) (tgt := 343) hx hb lw_sw (by decide) (by decide) rfl rfl (lw_c9 G V hi hl hcs hsC hsM kk)
    | 10, _ => exact lv_tableIn (off := 324) (tgt := 356) hx hb lw_sw (by decide) (by decide) rfl rfl (lw_c10 G V hi hl hcs hsC hsM kk)
    | 11, _ => exact lv_tableIn (off := 357) (tgt := 389) hx hb lw_sw (by decide) (by decide) rfl rfl (lw_c11 G V hi hl hcs hsC hsM kk)
    | 12, _ => exact lv_tableIn (off := 380) (tgt := 412) hx hb lw_sw (by decide) (by decide) rfl rfl (lw_c12 G V hi hl hcs hsC hsM kk)
    | 13, _ => exact lv_tableIn (off := 413) (tgt := 445) hx hb lw_sw (by decide) (by decide) rfl rfl (lw_c13 G V hi hl hcs hsC hsM kk)
    | 14, _ => exact lv_tableIn (off := 446) (tgt := 478) hx hb lw_sw (by decide) (by decide) rfl rfl (lw_c14 G V hi hl hcs hsC hsM kk)
    | 15, _ => exact lv_tableIn (off := 479) (tgt := 511) hx hb lw_sw (by decide) (by decide) rfl rfl (lw_c15 G V hi hl hcs hsC hsM kk)
    | 16, _ => exact lv_tableIn (off := 512) (tgt := 544) hx hb lw_sw (by decide) (by decide) rfl rfl (lw_c16 G V hi hl hcs hsC hsM kk)
    | 17, _ => exact lv_tableIn (off := 535) (tgt := 567) hx hb lw_sw (by decide) (by decide) rfl rfl (lw_c17 G V hi hl hcs hsC hsM kk)
    | 18, _ => exact lv_tableIn (off := 568) (tgt := 600) hx hb lw_sw (by decide) (by decide) rfl rfl (lw_c18 G V hi hl hcs hsC hsM kk)
    | n + 19, h => omega
  · exact lv_tableOut (tgt := 623) hx hb lw_sw (Or.inr (by rw [nI_toInt (by omega)]; omega)) rfl (kk _ _ _ _ _ _ _ _ _ V hsC hsM)
theorem lw_loop {b : Nat} (G : lw_E p s m c #[Value.ref b] D cA s.heap.size b L xs qC qM room_1) (hr : meth.sig.returnType = ret) (hlk : meth.locks = false) (hcs : cells ≤ 600000 ∧ slots ≤ 7302250) : ∀ (n i : Nat) (H : Heap) (locs : List Loc) (hC hM : ax_H) (la : Array Slot) (bf : List Nat) (us ps : List (List Nat)) (ty : List Nat) (rs : List rl4), L - i ≤ n → i ≤ L → lw_V s D cA s.heap.size qC qM hC hM H locs → lv_has la 4 [(3, .int (nI i)), (2, .ref (qM 0)), (1, .ref (qC 0)), (0, .ref b)] → stC hC bf us ps ty rs → stM hM bf us ps ty rs →
    W p l e room_1 s m #[Value.ref b] below meth c H locs cells slots (lw_Z below #[Value.ref b] s) (F0 m 18 la []) := by
  obtain ⟨hx, hb, hml, hown, hts⟩ := G.fix
  have hsm := G.small
  intro n
  induction n using Nat.strongRecOn with
  | ind n ih =>
    intro i H locs hC hM la bf us ps ty rs hn hiL V hl hsC hsM
    refine lv_iload_n hx hb (by decide +kernel : decode code 18 = .ok (.iload_n 3, 1)) rfl (lv_at hl 0 rfl) ?_
    refine lv_aload_n hx hb (by decide +kernel : decode code 19 = .ok (.aload_n 0, 1)) rfl (lv_at hl 3 rfl) ?_
    refine va_slen hx hb G.scr G.bl G.bb V.fr (by decide +kernel : decode code 20 = .ok (.arraylength, 1)) ?_
    refine lv_iconst (v := nI 4) hx hb (by decide +kernel : decode code 21 = .ok (.iconst 4, 1)) rfl ?_
    refine lv_isub hx hb (by decide +kernel : decode code 22 = .ok (.isub, 1)) ?_
    refine lv_icmp_gt (tgt := 629) hx hb (by decide +kernel : decode code 23 = .ok (.if_icmp .gt 606, 3)) rfl (fun _ => ?_) (fun h => ?_)
    · refine lv_iconst (v := 1) hx hb (by decide +kernel : decode code 629 = .ok (.iconst 1, 1)) rfl ?_
      refine va_forget (fun q hq => V.fr.2.2 q hq) ?_
      refine W.widen hcs.1 hcs.2 ?_
      exact lw_ret hx hb hr hlk (by decide +kernel : decode code 630 = .ok (.ireturn, 1))
    · have hi : i + 4 ≤ L := by
        by_cases h4 : L < 4
        · refine absurd (Int32.lt_iff_toInt_lt.mpr ?_) h
          have e1 : (Int32.ofNat L - nI 4).toInt = (L : Int) - 4 := pk_sub_toInt (a := L) (b := 4) (by omega) (by decide)
          rw [e1, nI_toInt (by omega)]
          omega
        · have e1 : (Int32.ofNat L - nI 4).toInt = (L : Int) - 4 := pk_sub_toInt (a := L) (b := 4) (by omega) (by decide)
          rw [Int32.lt_iff_toInt_lt, e1, nI_toInt (by omega)] at h
          omega
      refine lw_body G V hi hl hcs hsC hsM (fun hC' hM' H' locs' bf' us' ps' ty' rs' V' a1 a2 => ?_)
      refine lv_iinc (k := 0) (v := nI (i + 4)) (lv' := [(3, .int (nI (i + 4))), (2, .ref (qM 0)), (1, .ref (qC 0)), (0, .ref b)]) hx hb (by decide +kernel : decode code 623 = .ok (.iinc 3 4, 3)) hl rfl (nI_add i 4) (by decide) rfl (fun la' hl' => ?_)
      refine lv_goto (tgt := 18) hx hb (by decide +kernel : decode code 626 = .ok (.goto (-608), 3)) rfl ?_
      exact ih (L - (i + 4)) (by omega) (i + 4) H' locs' hC' hM' la' bf' us' ps' ty' rs' (Nat.le_refl _) hi V' hl' a1 a2
end LWM
