/-! one case of the law: the call on the class, the call on the model, the same answer -/
def lw_len (k : Nat × Bool) : Nat := if k.2 then 6 else 5
def lw_end : List (Nat × Bool) → Nat → Nat
  | [], pc => pc
  | k :: ks, pc => lw_end ks (pc + lw_len k)
def lw_is (pc : Nat) (i : Instr) (n : Nat) : Bool := decide (decode code pc = .ok (i, n))
def lw_dec : List (Nat × Bool) → Nat → Bool
  | [], _ => true
  | k :: ks, pc => lw_is pc (.aload_n 0) 1 && lw_is (pc + 1) (.iload_n 3) 1 && lw_is (pc + 2) (.iconst k.1) 1 && lw_is (pc + 3) .iadd 1 && lw_is (pc + 4) .iaload 1 && decide (k.1 < 4) && (!k.2 || lw_is (pc + 5) .i2c 1) && lw_dec ks (pc + lw_len k)
def lw_x (c : Bool) (x : Int32) : Int32 := if c then nI (x.toBitVec.toNat % 65536) else x
def lw_vals (xs : Nat → Int32) (i : Nat) (ks : List (Nat × Bool)) : List Int32 := ks.map (fun k => lw_x k.2 (xs (i + k.1)))
def lw_caseB (pc jX jM : Nat) (ks : List (Nat × Bool)) : Bool :=
  lw_is pc (.aload_n 1) 1 && lw_dec ks (pc + 1) && lw_is (lw_end ks (pc + 1)) (.invokevirtual jX) 3 && lw_is (lw_end ks (pc + 1) + 3) (.aload_n 2) 1 && lw_dec ks (lw_end ks (pc + 1) + 3 + 1) && lw_is (lw_end ks (lw_end ks (pc + 1) + 3 + 1)) (.invokevirtual jM) 3 && lw_is (lw_end ks (lw_end ks (pc + 1) + 3 + 1) + 3) (.if_icmp .eq (623 - (lw_end ks (lw_end ks (pc + 1) + 3 + 1) + 3 : Nat))) 3
theorem lw_is_ok {pc : Nat} {i : Instr} {n : Nat} (h : lw_is pc i n = true) : decode code pc = .ok (i, n) := of_decide_eq_true h
def lw_E (p : Program) (s : State) (m : MethodId) (c : Code) (args : Array Value) (D : va_G) (cA : Nat → ClassId) (base b L : Nat) (xs : Nat → Int32) (qC qM : Nat → Nat) (Rm : Room) : Prop := (CallFix p m c code 4 s args ax_tb (ax_own 7)) ∧ (va_K D ax_cl (ax_tys cA) s) ∧ (ax_Ns s) ∧ (va_X b L xs s s.heap) ∧ (b < s.heap.size) ∧ (¬ ay_A base b) ∧ (L ≤ 2048) ∧ (27 ≤ Rm.frames ∧ 2000 ≤ Rm.locals) ∧ (∀ r, r < kC.length → base ≤ qC r) ∧ (∀ r, r < kM.length → base ≤ qM r) ∧ (∀ i j, i < kC.length → j < kM.length → qC i ≠ qM j)
theorem lw_E.fix {p : Program} {s : State} {m : MethodId} {c : Code} {args : Array Value} {D : va_G} {cA : Nat → ClassId} {base b L : Nat} {xs : Nat → Int32} {qC qM : Nat → Nat} {Rm : Room} (h : lw_E p s m c args D cA base b L xs qC qM Rm) : CallFix p m c code 4 s args ax_tb (ax_own 7) := h.1
theorem lw_E.known {p : Program} {s : State} {m : MethodId} {c : Code} {args : Array Value} {D : va_G} {cA : Nat → ClassId} {base b L : Nat} {xs : Nat → Int32} {qC qM : Nat → Nat} {Rm : Room} (h : lw_E p s m c args D cA base b L xs qC qM Rm) : va_K D ax_cl (ax_tys cA) s := h.2.1
theorem lw_E.nest {p : Program} {s : State} {m : MethodId} {c : Code} {args : Array Value} {D : va_G} {cA : Nat → ClassId} {base b L : Nat} {xs : Nat → Int32} {qC qM : Nat → Nat} {Rm : Room} (h : lw_E p s m c args D cA base b L xs qC qM Rm) : ax_Ns s := h.2.2.1
theorem lw_E.scr {p : Program} {s : State} {m : MethodId} {c : Code} {args : Array Value} {D : va_G} {cA : Nat → ClassId} {base b L : Nat} {xs : Nat → Int32} {qC qM : Nat → Nat} {Rm : Room} (h : lw_E p s m c args D cA base b L xs qC qM Rm) : va_X b L xs s s.heap := h.2.2.2.1
theorem lw_E.bl {p : Program} {s : State} {m : MethodId} {c : Code} {args : Array Value} {D : va_G} {cA : Nat → ClassId} {base b L : Nat} {xs : Nat → Int32} {qC qM : Nat → Nat} {Rm : Room} (h : lw_E p s m c args D cA base b L xs qC qM Rm) : b < s.heap.size := h.2.2.2.2.1
theorem lw_E.bb {p : Program} {s : State} {m : MethodId} {c : Code} {args : Array Value} {D : va_G} {cA : Nat → ClassId} {base b L : Nat} {xs : Nat → Int32} {qC qM : Nat → Nat} {Rm : Room} (h : lw_E p s m c args D cA base b L xs qC qM Rm) : ¬ ay_A base b := h.2.2.2.2.2.1
theorem lw_E.small {p : Program} {s : State} {m : MethodId} {c : Code} {args : Array Value} {D : va_G} {cA : Nat → ClassId} {base b L : Nat} {xs : Nat → Int32} {qC qM : Nat → Nat} {Rm : Room} (h : lw_E p s m c args D cA base b L xs qC qM Rm) : L ≤ 2048 := h.2.2.2.2.2.2.1
theorem lw_E.room {p : Program} {s : State} {m : MethodId} {c : Code} {args : Array Value} {D : va_G} {cA : Nat → ClassId} {base b L : Nat} {xs : Nat → Int32} {qC qM : Nat → Nat} {Rm : Room} (h : lw_E p s m c args D cA base b L xs qC qM Rm) : 27 ≤ Rm.frames ∧ 2000 ≤ Rm.locals := h.2.2.2.2.2.2.2.1
theorem lw_E.bC {p : Program} {s : State} {m : MethodId} {c : Code} {args : Array Value} {D : va_G} {cA : Nat → ClassId} {base b L : Nat} {xs : Nat → Int32} {qC qM : Nat → Nat} {Rm : Room} (h : lw_E p s m c args D cA base b L xs qC qM Rm) : ∀ r, r < kC.length → base ≤ qC r := h.2.2.2.2.2.2.2.2.1
theorem lw_E.bM {p : Program} {s : State} {m : MethodId} {c : Code} {args : Array Value} {D : va_G} {cA : Nat → ClassId} {base b L : Nat} {xs : Nat → Int32} {qC qM : Nat → Nat} {Rm : Room} (h : lw_E p s m c args D cA base b L xs qC qM Rm) : ∀ r, r < kM.length → base ≤ qM r := h.2.2.2.2.2.2.2.2.2.1
theorem lw_E.ne {p : Program} {s : State} {m : MethodId} {c : Code} {args : Array Value} {D : va_G} {cA : Nat → ClassId} {base b L : Nat} {xs : Nat → Int32} {qC qM : Nat → Nat} {Rm : Room} (h : lw_E p s m c args D cA base b L xs qC qM Rm) : ∀ i j, i < kC.length → j < kM.length → qC i ≠ qM j := h.2.2.2.2.2.2.2.2.2.2
def lw_V (s : State) (D : va_G) (cA : Nat → ClassId) (base : Nat) (qC qM : Nat → Nat) (hC hM : ax_H) (H : Heap) (locs : List Loc) : Prop := (va_P D ax_cl (ax_ws kC qC cA hC) H) ∧ (va_D (ax_A kC qC) (ax_ws kC qC cA hC)) ∧ (va_P D ax_cl (ax_ws kM qM cA hM) H) ∧ (va_D (ax_A kM qM) (ax_ws kM qM cA hM)) ∧ (va_S (ay_A base) s.heap H locs)
theorem lw_V.pC {s : State} {D : va_G} {cA : Nat → ClassId} {base : Nat} {qC qM : Nat → Nat} {hC hM : ax_H} {H : Heap} {locs : List Loc} (h : lw_V s D cA base qC qM hC hM H locs) : va_P D ax_cl (ax_ws kC qC cA hC) H := h.1
theorem lw_V.dC {s : State} {D : va_G} {cA : Nat → ClassId} {base : Nat} {qC qM : Nat → Nat} {hC hM : ax_H} {H : Heap} {locs : List Loc} (h : lw_V s D cA base qC qM hC hM H locs) : va_D (ax_A kC qC) (ax_ws kC qC cA hC) := h.2.1
theorem lw_V.pM {s : State} {D : va_G} {cA : Nat → ClassId} {base : Nat} {qC qM : Nat → Nat} {hC hM : ax_H} {H : Heap} {locs : List Loc} (h : lw_V s D cA base qC qM hC hM H locs) : va_P D ax_cl (ax_ws kM qM cA hM) H := h.2.2.1
theorem lw_V.dM {s : State} {D : va_G} {cA : Nat → ClassId} {base : Nat} {qC qM : Nat → Nat} {hC hM : ax_H} {H : Heap} {locs : List Loc} (h : lw_V s D cA base qC qM hC hM H locs) : va_D (ax_A kM qM) (ax_ws kM qM cA hM) := h.2.2.2.1
theorem lw_V.fr {s : State} {D : va_G} {cA : Nat → ClassId} {base : Nat} {qC qM : Nat → Nat} {hC hM : ax_H} {H : Heap} {locs : List Loc} (h : lw_V s D cA base qC qM hC hM H locs) : va_S (ay_A base) s.heap H locs := h.2.2.2.2
section LWK
variable {p : Program} {l : Launch} {e : Env} {Rm : Room} {s : State} {m : MethodId} {args : Array Value} {below : List Frame} {meth : Method} {c : Code} {H : Heap} {locs : List Loc} {cells slots : Nat} {Q : State → Prop}
variable {D : va_G} {cA : Nat → ClassId} {base b L i : Nat} {xs : Nat → Int32} {qC qM : Nat → Nat} {hC hM : ax_H} {pc : Nat} {la : Array Slot} {rest : List Value}
theorem lw_nIin {a L : Nat} (hL : L ≤ 2048) (h : a < L) : vp_in (nI a) L ∧ (nI a).toNatClampNeg = a := ⟨nI_in h (by omega), nI_clamp (by omega)⟩
theorem lw_push (G : lw_E p s m c args D cA base b L xs qC qM Rm) (hS : va_S (ay_A base) s.heap H locs) (hi : i + 4 ≤ L) (h0 : la[0]? = some (.val (.ref b))) (h3 : la[3]? = some (.val (.int (nI i)))) : ∀ (ks : List (Nat × Bool)) (pc : Nat) (rest : List Value), lw_dec ks pc = true → W p l e Rm s m args below meth c H locs cells slots Q (F0 m (lw_end ks pc) la (((lw_vals xs i ks).map Value.int).reverse ++ rest)) → W p l e Rm s m args below meth c H locs cells slots Q (F0 m pc la rest) := by
  intro ks
  induction ks with
  | nil => intro pc rest hd kk; exact kk
  | cons k ks ih =>
    intro pc rest hd kk
    obtain ⟨hx, hb, hml, hown, hts⟩ := G.fix
    have hsm := G.small
    unfold lw_dec at hd
    simp only [Bool.and_eq_true] at hd
    obtain ⟨⟨⟨⟨⟨⟨⟨d0, d1⟩, d2⟩, d3⟩, d4⟩, d5⟩, d6⟩, d7⟩ := hd
    have hk : k.1 < 4 := of_decide_eq_true d5
    refine lv_aload_n hx hb (lw_is_ok d0) rfl h0 ?_
    refine lv_iload_n hx hb (lw_is_ok d1) rfl h3 ?_
    refine lv_iconst (v := nI k.1) hx hb (lw_is_ok d2) rfl ?_
    refine lv_iadd hx hb (lw_is_ok d3) ?_
    rw [nI_add]
    obtain ⟨n1, n2⟩ := lw_nIin (a := i + k.1) (L := L) hsm (by omega)
    refine va_sld hx hb G.scr G.bl G.bb hS n1 (lw_is_ok d4) ?_
    rw [n2]
    obtain ⟨k1, k2⟩ := k
    cases k2 with
    | false =>
      refine ih (pc + 5) _ d7 ?_
      simp only [lw_vals, List.map_cons, List.reverse_cons, List.append_assoc, List.cons_append, List.nil_append] at kk ⊢
      exact kk
    | true =>
      refine lv_i2c hx hb (lw_is_ok (by simpa using d6)) (pk_char _) ?_
      refine ih (pc + 6) _ d7 ?_
      simp only [lw_vals, List.map_cons, List.reverse_cons, List.append_assoc, List.cons_append, List.nil_append] at kk ⊢
      exact kk
theorem ax_fl_ints (as : List Int32) : (ax_fl (.ref 0 :: as.map Value.int)).length = as.length + 1 := by
  have h : ∀ as : List Int32, (ax_fl (as.map Value.int)).length = as.length := fun as => by
    induction as with
    | nil => rfl
    | cons a as ih =>
      have e : ax_fl ((a :: as).map Value.int) = some (.int a) :: ax_fl (as.map Value.int) := rfl
      rw [e, List.length_cons, ih, List.length_cons]
  have e : ax_fl (.ref 0 :: as.map Value.int) = some (.ref 0) :: ax_fl (as.map Value.int) := rfl
  rw [e, List.length_cons, h]
theorem lw_case (G : lw_E p s m c args D cA base b L xs qC qM Rm) (V : lw_V s D cA base qC qM hC hM H locs) (hi : i + 4 ≤ L) (hl : lv_has la 4 [(3, .int (nI i)), (2, .ref (qM 0)), (1, .ref (qC 0)), (0, .ref b)]) (hcs : cells ≤ Rm.cells ∧ slots ≤ Rm.slots) (pc jX jM : Nat) (ks : List (Nat × Bool)) (hd : lw_caseB pc jX jM ks = true) {eX eM : ax_M × Bool × Nat × Nat × Nat × Nat × Nat × Nat} (heX : ax_mlk 7 jX = some eX) (heM : ax_mlk 7 jM = some eM) (fX : eX.2.1 = false) (fM : eM.2.1 = false) (lX : ks.length = eX.2.2.1) (lM : ks.length = eM.2.2.1) (oX : eX.1.1 = 0) (oM : eM.1.1 = 5) (nX : ks.length + 1 ≤ eX.1.2.2.2.1) (nM : ks.length + 1 ≤ eM.1.2.2.2.1) {a : Int32} {QC QM : ax_H → Prop}
    (wX : ax_wp kC 25 eX.1 0 (ax_en eX.1.2.2.2.1 (.ref 0 :: (lw_vals xs i ks).map Value.int)) [] hC (fun v h' => v = some (.int a) ∧ QC h')) (wM : ax_wp kM 25 eM.1 0 (ax_en eM.1.2.2.2.1 (.ref 0 :: (lw_vals xs i ks).map Value.int)) [] hM (fun v h' => v = some (.int a) ∧ QM h'))
    (kk : ∀ hC' hM' H' locs', lw_V s D cA base qC qM hC' hM' H' locs' → QC hC' → QM hM' → W p l e Rm s m args below meth c H' locs' cells slots Q (F0 m 623 la [])) : W p l e Rm s m args below meth c H locs cells slots Q (F0 m pc la []) := by
  obtain ⟨hx, hb, hml, hown, hts⟩ := G.fix
  unfold lw_caseB at hd
  simp only [Bool.and_eq_true] at hd
  obtain ⟨⟨⟨⟨⟨⟨d0, d1⟩, d2⟩, d3⟩, d4⟩, d5⟩, d6⟩ := hd
  have h0 := lv_at hl 3 rfl
  have h3 := lv_at hl 0 rfl
  have hlv : (lw_vals xs i ks).length = ks.length := by unfold lw_vals; rw [List.length_map]
  rw [← hlv, ← ax_fl_ints] at nX nM
  refine lv_aload_n hx hb (lw_is_ok d0) rfl (lv_at hl 2 rfl) ?_
  refine lw_push G V.fr hi h0 h3 ks _ _ d1 ?_
  refine lw_call (E := eX) (as := lw_vals xs i ks) (ks1 := kC) (ks2 := kM) (q1 := qC) (q2 := qM) (h2 := hM) G.fix G.known G.nest V.pC V.dC V.pM V.fr G.bC G.ne G.room heX fX (hlv.trans lX) (by rw [oX]; rfl) nX wX hl.1 (by simp) (lw_is_ok d2) hcs (fun v hC' H1 locs1 hv P1 D1 P2 S1 => ?_)
  obtain ⟨rfl, hQC⟩ := hv
  refine lv_aload_n hx hb (lw_is_ok d3) rfl (lv_at hl 1 rfl) ?_
  refine lw_push G S1 hi h0 h3 ks _ _ d4 ?_
  refine lw_call (E := eM) (as := lw_vals xs i ks) (ks1 := kM) (ks2 := kC) (q1 := qM) (q2 := qC) (h2 := hC') G.fix G.known G.nest P2 V.dM P1 S1 G.bM (fun x y hx hy h => G.ne y x hy hx h.symm) G.room heM fM (hlv.trans lM) (by rw [oM]; rfl) nM wM hl.1 (by show (1 : Nat) ≤ 8; decide) (lw_is_ok d5) hcs (fun v hM' H2 locs2 hv P3 D3 P4 S2 => ?_)
  obtain ⟨rfl, hQM⟩ := hv
  refine lv_icmp_eq (tgt := 623) hx hb (lw_is_ok d6) (by omega) (fun _ => ?_) (fun h => absurd rfl h)
  exact kk hC' hM' H2 locs2 ⟨P4, D1, P3, D3, S2⟩ hQC hQM
end LWK
