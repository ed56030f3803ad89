/-- from the entry, for every script of at most 2048 ints, the law comes to its end with true -/
theorem whole_start {p : Program} {e : Env} {s : State} {m : MethodId} {below : List Frame} {meth : Method} {c : Code} (l : Launch) {b L : Nat} {xs : Nat → Int32} (hL : L ≤ 2048) (C0 : lw_At p s m meth c b L xs) : W p l e room_1 s m #[Value.ref b] below meth c s.heap [] 0 0 (lw_Z below #[Value.ref b] s) (entryFrame m ([Value.ref b] : List Value).toArray 4) := by
  obtain ⟨hx, hb, hr, hml, hown, hts, hX, hbl, hlk, -⟩ := C0
  obtain ⟨D, cA, hK⟩ := lw_K hts
  have hN := lw_N hts
  have ht : ∀ w ∈ ax_tb, w.before #[Value.ref b] s = true := fun w hw => hts w (List.mem_filter.mp hw).1
  have S : CallFix p m c code 4 s #[Value.ref b] ax_tb "PackageRulesLaw" := ⟨hx, hb, hml, hown, ht⟩
  rw [lg_entry_eq]
  have hl : lv_has ((lg_sl [Value.ref b] ++ List.replicate (4 - (lg_sl [Value.ref b]).length) Slot.unset).toArray) 4 [(0, .ref b)] := lv_entry [Value.ref b] (n := 4) (show (1 : Nat) ≤ 4 by decide)
  generalize ((lg_sl [Value.ref b] ++ List.replicate (4 - (lg_sl [Value.ref b]).length) Slot.unset).toArray) = la0 at hl ⊢
  have hV0 : ay_V D cA s.heap.size (fun _ => 0) [] Rn s s.heap [] := ⟨fun k x hx => by simp [ay_ws, ax_ws] at hx, ⟨fun i j x y hx => by simp [ay_ws, ax_ws] at hx, fun k x hx => by simp [ay_ws, ax_ws] at hx⟩, va_S.rf, (fun r k x h => nomatch h), Nat.le_refl _⟩
  refine ay_make (F := KP) (G := RP) (i1 := 7) (i2 := 9) (ci := 0) (pc := 0) (maxL := 2) (mc := 156) (ms := 4273) (rm := rmP) S hN hK hV0 (by decide) wI_0.1 wI_0.2.1 wI_0.2.2.1 wI_0.2.2.2.1 wI_0.2.2.2.2.2.1 wI_0.2.2.2.2.2.2 (fun q ks R r hr => cI_0 l hr) ⟨rfl, rfl⟩ (by decide) (by decide) hl.1 (by decide) (by decide +kernel) (by decide +kernel) (by decide +kernel) (by decide) (fun H1 locs1 q1 hq1 hV1 => ?_)
  have hV1 : ay_V D cA s.heap.size q1 (KP [(0, 0)]) (RP Rn 0 1) s H1 locs1 := hV1
  have hlen : (KP [(0, 0)]).length = 157 := KP_len _
  refine lv_astore_n (i := 1) (x := q1 0) (lv' := [(1, .ref (q1 0)), (0, .ref b)]) hx hb (by decide +kernel : decode code 7 = .ok (.astore_n 1, 1)) rfl hl (by decide) rfl (fun la1 hl1 => ?_)
  refine ay_make (F := fun ks => ks ++ gsQ.map ay_kd) (G := fun R r n => ay_Rs R r n gsQ) (i1 := 10) (i2 := 12) (ci := 5) (pc := 8) (maxL := 1) (mc := gsQ.length) (ms := ay_sum gsQ) (rm := ay_room gsQ) S hN hK hV1 (by decide) wI_5.1 wI_5.2.1 wI_5.2.2.1 wI_5.2.2.2.1 wI_5.2.2.2.2.2.1 wI_5.2.2.2.2.2.2 (fun q ks R r hr => cI_5 l hr) ⟨rfl, rfl⟩ (by decide) (by decide +kernel) hl1.1 (by decide) (by decide +kernel) (by decide +kernel) (by decide +kernel) (by decide +kernel) (fun H2 locs2 q2 hq2 hV2 => ?_)
  rw [hlen] at hq2 hV2 ⊢
  have hV2 : ay_V D cA s.heap.size q2 kA RA s H2 locs2 := hV2
  have e0 : q1 0 = q2 0 := (hq2 0 (by decide)).symm
  rw [e0] at hl1
  refine lv_astore_n (i := 2) (x := q2 157) (lv' := [(2, .ref (q2 157)), (1, .ref (q2 0)), (0, .ref b)]) hx hb (by decide +kernel : decode code 15 = .ok (.astore_n 2, 1)) rfl hl1 (by decide) rfl (fun la2 hl2 => ?_)
  refine lv_iconst (v := nI 0) hx hb (by decide +kernel : decode code 16 = .ok (.iconst 0, 1)) rfl ?_
  refine lv_istore_n (i := 3) (lv' := [(3, .int (nI 0)), (2, .ref (q2 157)), (1, .ref (q2 0)), (0, .ref b)]) hx hb (by decide +kernel : decode code 17 = .ok (.istore_n 3, 1)) rfl hl2 (by decide) rfl (fun la3 hl3 => ?_)
  obtain ⟨P1, D1, B1⟩ := ay_part (f := piC) (ks' := kC) (R' := rC (fun c => c) 12 none) hV2.1 hV2.2.1 (fun r h => kA_C r (by rw [kC_len] at h; exact h)) (fun r h k => RA_C (by rw [kC_len] at h; exact h) k) (fun i hi j hj h => piC_inj i (by rw [kC_len] at hi; exact hi) j (by rw [kC_len] at hj; exact hj) h)
  obtain ⟨P2, D2, B2⟩ := ay_part (f := piM) (ks' := kM) (R' := rM) hV2.1 hV2.2.1 (fun r h => kA_M r (by rw [kM_len] at h; exact h)) (fun r h k => RA_M (by rw [kM_len] at h; exact h) k) (fun i hi j hj h => by unfold piM at h; omega)
  have ne : ∀ i j, i < kC.length → j < kM.length → q2 (piC i) ≠ q2 (piM j) := fun i j hi hj h => by
    have hi' := hi
    rw [kC_len] at hi'
    have hj' := hj
    rw [kM_len] at hj'
    have a1 : kC[i]? = some kC[i] := List.getElem?_eq_getElem hi
    have a2 : kM[j]? = some kM[j] := List.getElem?_eq_getElem hj
    have c1 := hV2.2.1.1 _ _ _ _ (ax_ws_at ((kA_C i hi').trans a1)) (ax_ws_at ((kA_M j hj').trans a2)) h
    have c2 := piC_lt i hi'
    unfold piM at c1
    omega
  have G : lw_E p s m c #[Value.ref b] D cA s.heap.size b L xs (fun x => q2 (piC x)) (fun x => q2 (piM x)) room_1 := ⟨S, hK, hN.1, hX, hbl, fun h => absurd hbl (Nat.not_lt.mpr h), hL, by decide, B1, B2, ne⟩
  exact lw_loop (e := e) (below := below) G hr hlk (by decide +kernel) L 0 H2 locs2 hC0 hM0 la3 [] [] [] [] [] (Nat.sub_le _ _) (Nat.zero_le _) ⟨P1, D1, P2, D2, hV2.2.2.1⟩ hl3 stC_0 stM_0
