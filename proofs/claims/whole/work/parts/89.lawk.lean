/-! the law: what is known of the classes; a call on one of the two worlds -/
theorem lw_arr {s : State} {args : Array Value} {ty : FieldType} (h : (Cond.arrayClass ty).before args s = true) : ∃ c, ArrOfT s c ty ∧ s.vm.findClass ("[" ++ ty.toString) = some c := by
  obtain ⟨c, k, comp, h1, h2, h3⟩ := Cond.arrayClass_spec h
  exact ⟨c, fun n z => ⟨fun k h => (by cases h), k, h2, comp, h3⟩, h1⟩
theorem lw_ovr {s : State} {args : Array Value} {C : String} (h : (Cond.arrayOver (.object C)).before args s = true) : ∃ c, ArrOfT s c (.object C) ∧ va_RA s c (.object C) := by
  obtain ⟨comp, c, k, h1, h2, h3, h4, h5⟩ := Cond.arrayOver_spec h
  exact ⟨c, fun n z => ⟨fun k h => (by cases h), k, h3, comp, h4⟩, k, comp, h3, h4, h1, h5⟩
theorem lw_ins {ci : Nat} (h : ci < 6) : Jvm.Cond.instantiable (ax_own ci) (ax_N ci) ∈ ax_tb := by
  match ci, h with
  | 0, _ => exact wI_0.2.2.2.1
  | 1, _ => exact wI_1.2.2.2.1
  | 2, _ => exact wI_2.2.2.2.1
  | 3, _ => exact wI_3.2.2.2.1
  | 4, _ => exact wI_4.2.2.2.1
  | 5, _ => exact wI_5.2.2.2.1
theorem lw_K {s : State} {args : Array Value} (hts : ∀ w ∈ lw_tbl, w.before args s = true) : ∃ D cA, va_K D ax_cl (ax_tys cA) s := by
  have ht : ∀ w ∈ ax_tb, w.before args s = true := fun w hw => hts w (List.mem_filter.mp hw).1
  have hk : ∀ ci, ∃ (x : ClassId × (Nat → Nat)), ci < 6 → u_Kn s (ax_own ci) (ax_Tb ci) (ax_N ci) x.1 x.2 := fun ci => by
    by_cases h : ci < 6
    · obtain ⟨a, b, hk⟩ := u_known ht (ax_inA h) (ht _ (lw_ins h))
      exact ⟨(a, b), fun _ => hk⟩
    · exact ⟨(0, fun _ => 0), fun h2 => absurd h2 h⟩
  obtain ⟨c1, a1, b1⟩ := lw_arr (ht _ ay_arr_mem.1)
  obtain ⟨c2, a2, b2⟩ := lw_arr (ht _ ay_arr_mem.2.1)
  obtain ⟨c3, a3, b3⟩ := lw_arr (ht _ ay_arr_mem.2.2)
  obtain ⟨c4, a4, b4⟩ := lw_ovr (hts _ wAO.1)
  obtain ⟨c5, a5, b5⟩ := lw_ovr (hts _ wAO.2)
  refine ⟨(fun ci => (hk ci).choose.1, fun ci => (hk ci).choose.2), fun t => match t with | 1 => c1 | 2 => c2 | 3 => c3 | 4 => c4 | _ => c5, fun ci x hx => ?_, fun k x hx => ?_⟩
  · have hl : ci < 6 := (List.getElem?_eq_some_iff.mp hx).1
    rw [ax_cl_at hl] at hx
    cases hx
    exact (hk ci).choose_spec hl
  · have hl : k < 5 := (List.getElem?_eq_some_iff.mp hx).1
    match k, hl with
    | 0, _ => cases hx; exact ⟨a1, b1⟩
    | 1, _ => cases hx; exact ⟨a2, b2⟩
    | 2, _ => cases hx; exact ⟨a3, b3⟩
    | 3, _ => cases hx; exact ⟨a4, b4⟩
    | 4, _ => cases hx; exact ⟨a5, b5⟩
theorem lw_N {s : State} {args : Array Value} (hts : ∀ w ∈ lw_tbl, w.before args s = true) : ay_N s := ⟨fun a i b n d g hm => va_Nw.of rfl (hts _ hm), va_AO.of (hts _ wAO.1), va_AO.of (hts _ wAO.2)⟩
theorem ax_ws_in {ks : ax_K} {q : Nat → Nat} {cA : Nat → ClassId} {h : ax_H} {k : Nat} {x : Nat × va_E} (hx : (ax_ws ks q cA h)[k]? = some x) : k < ks.length ∧ x.1 = q k := by
  unfold ax_ws at hx
  rw [List.getElem?_mapIdx] at hx
  cases hk : ks[k]? with
  | none => rw [hk] at hx; cases hx
  | some kd => rw [hk] at hx; cases hx; exact ⟨(List.getElem?_eq_some_iff.mp hk).1, rfl⟩
section LWC
variable {p : Program} {l : Launch} {e : Env} {Rm : Room} {s : State} {m : MethodId} {args : Array Value} {below : List Frame} {meth : Method} {c : Code} {H : Heap} {locs : List Loc} {cells slots : Nat} {Q : State → Prop}
variable {D : va_G} {cA : Nat → ClassId} {base : Nat} {cc : ByteArray} {pc : Nat} {la : Array Slot} {rest : List Value}
theorem ax_cv_ints (q : Nat → Nat) (as : List Int32) : (as.map Value.int).map (ax_cv q) = as.map Value.int := by
  rw [List.map_map]; rfl
/-- a call of the law on one of its two worlds -/
theorem lw_call (S : CallFix p m c cc 4 s args ax_tb (ax_own 7)) (hK : va_K D ax_cl (ax_tys cA) s) (hN : ax_Ns s) {ks1 ks2 : ax_K} {q1 q2 : Nat → Nat} {h1 h2 : ax_H} (hP1 : va_P D ax_cl (ax_ws ks1 q1 cA h1) H) (hD1 : va_D (ax_A ks1 q1) (ax_ws ks1 q1 cA h1)) (hP2 : va_P D ax_cl (ax_ws ks2 q2 cA h2) H) (hS : va_S (ay_A base) s.heap H locs) (hb1 : ∀ r, r < ks1.length → base ≤ q1 r) (hne : ∀ i j, i < ks1.length → j < ks2.length → q1 i ≠ q2 j) (hR : 27 ≤ Rm.frames ∧ 2000 ≤ Rm.locals)
    {j : Nat} {E : ax_M × Bool × Nat × Nat × Nat × Nat × Nat × Nat} (he : ax_mlk 7 j = some E) (hf : E.2.1 = false) {as : List Int32} (hlen : as.length = E.2.2.1) (hkb : ks1[0]? = some (0, E.1.1)) (hfl : (ax_fl (.ref 0 :: as.map Value.int)).length ≤ E.1.2.2.2.1) {Q' : Option Value → ax_H → Prop} (hw : ax_wp ks1 25 E.1 0 (ax_en E.1.2.2.2.1 (.ref 0 :: as.map Value.int)) [] h1 Q') (hls : la.size = 4) (hrest : (rest.map fun v => v.category).sum ≤ 8) (hd : decode cc pc = .ok (.invokevirtual j, 3)) (hcs : cells ≤ Rm.cells ∧ slots ≤ Rm.slots)
    (kk : ∀ v h1' H1 locs1, Q' v h1' → va_P D ax_cl (ax_ws ks1 q1 cA h1') H1 → va_D (ax_A ks1 q1) (ax_ws ks1 q1 cA h1') → va_P D ax_cl (ax_ws ks2 q2 cA h2) H1 → va_S (ay_A base) s.heap H1 locs1 → W p l e Rm s m args below meth c H1 locs1 cells slots Q (F0 m (pc + 3) la ((v.map (ax_cv q1)).toList ++ rest))) :
    W p l e Rm s m args below meth c H locs cells slots Q (F0 m pc la ((as.map Value.int).reverse ++ .ref (q1 0) :: rest)) := by
  obtain ⟨n, v, h', hr, hq⟩ := hw
  have S0 := S
  obtain ⟨hx, hb, hml, hown, hts⟩ := S
  obtain ⟨w1, w2, w3, -, w4, w5, w6, w7, w8, w9⟩ := ax_mlk_spec he
  obtain ⟨w4, w10, w11⟩ := w4 hf
  have hM := ax_met_of (ax_sim l ks1 D cA q1 n) (M := E.1) ⟨w2, w5, w6⟩ hfl hr
  have hrec : ∃ cellB : Cell, H[q1 0]? = some cellB ∧ cellB.vm.isStatics = false ∧ s.vm.findClass E.1.2.1.cls = some cellB.cls := by
    rw [w5]
    exact va_recv hK hP1 (ax_cl_at w11) (ax_ws_at hkb)
  have hcw : CallW Rm s args (ax_own 7) E.1.2.1.cls j E.1.2.1 E.1.2.2.1 E.1.2.2.2.1 E.1.2.2.2.2 (ax_wM E.1) (ax_room 25) 0 0 E.2.2.1 :=
    ⟨callB_of E.2.2.1 hts (ax_goodT _ (List.forall_mem_cons.mpr ⟨w2, fun w hw => hw⟩)) rfl rfl rfl (hts _ w3) (hts _ w1) ⟨w7.1, w7.2, w8⟩ ⟨by show 25 + 1 + 1 ≤ Rm.frames; omega, by show 8 + (E.1.2.2.2.1 + 11) + 64 * (25 + 1) ≤ Rm.locals; omega⟩, hts _ w4, hts _ w10⟩
  have hpre : ∀ U : State, U.heap = H → s.WarmedH U.vm → va_Pc ((Value.ref 0 :: as.map Value.int).map (ax_cv q1)) (ax_W ks1 D cA q1 h1) ((Value.ref 0 :: as.map Value.int).map (ax_cv q1)).toArray U := fun U hU hW => ⟨rfl, by rw [hU]; exact hP1, va_K.moved hW.alike hK, hD1, ax_Ns.warm hW hN⟩
  have hrun := va_runV (e := e) (below := below) (meth := meth) (locs := locs) (cells := cells) (slots := slots) (g := F0 m pc la ((as.map Value.int).reverse ++ .ref (q1 0) :: rest)) (As := (as.map Value.int).map (ax_cv q1)) (rest := rest) S0 hM hcw ⟨ax_blind, hrec, hpre⟩ rfl (by simp [hlen]) hls (by rw [ax_cv_ints]) (lv_room hrest) hd ⟨by omega, by omega⟩
  intro T hT X
  obtain ⟨v', st₀, t, T', L, h0, X', hL, e1, e2, ⟨hv, hw, hz, hk⟩, stp⟩ := hrun T hT X
  cases hv
  rw [h0] at hz hk
  have hA : ∀ z, ax_A ks1 q1 z → ay_A base z := fun z ⟨r, hr, ez⟩ => by rw [ez]; exact hb1 r hr
  obtain ⟨t2, a1, b1⟩ := kk v h' T'.heap (locs ++ L) hq (by rw [e1]; exact hw.1) hw.2.2.1 (hP2.kept (fun k x hx => by
      obtain ⟨x1, x2⟩ := ax_ws_in hx
      rw [e1]
      exact hk x.1 (hP2 k x hx).lt (fun ⟨r, hr, ez⟩ => hne r k hr x1 (by rw [← ez, x2])))) ⟨Nat.le_trans hS.1 (by rw [e1]; exact hz), fun z z1 z2 => by rw [e1, hk z (Nat.lt_of_lt_of_le z1 hS.1) (fun h => z2 (hA z h))]; exact hS.2.1 z z1 z2, fun z hz2 => by
      rcases List.mem_append.mp hz2 with h | h
      · exact hS.2.2 z h
      · exact hA _ (hL z h)⟩ T' rfl X'
  exact ⟨t2, stp t2 a1, b1⟩
end LWC
