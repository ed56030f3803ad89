/-! constructors with loops -/
def ksL (ci : Nat) (gs : List ay_G) : Nat → ax_K → ax_K
  | 0, ks => ks
  | k + 1, ks => ksL ci gs k ((ks ++ [(0, ci)]) ++ gs.map ay_kd)
def RsL (gs : List ay_G) (a : Nat) : Nat → Nat → Nat → ay_R → ay_R
  | 0, _, _, R => R
  | k + 1, i, nn, R => RsL gs a k (i + 1) (nn + 1 + gs.length) (ay_up (ay_Rs R nn (nn + 1) gs) a i nn)
theorem ay_Rs_ne (gs : List ay_G) {r a : Nat} (h : ¬ a = r) (b : Nat) : ∀ (n : Nat) (R : ay_R), ay_Rs R r n gs a b = R a b := by
  induction gs with
  | nil => intro n R; rfl
  | cons g gs ih => intro n R; rw [ay_Rs, ih]; unfold ay_up; rw [if_neg (fun w => h w.1)]
section AY
variable {p : Program} {l : Launch} {e : Env} {Rm : Room} {s : State} {m : MethodId} {args : Array Value} {below : List Frame} {meth : Method} {c : Code} {Q : State → Prop}
variable {D : va_G} {cA : Nat → ClassId} {base : Nat} {cc : ByteArray} {o nL : Nat}
/-- a place that is not final -/
theorem ay_putN {H : Heap} {locs : List Loc} {cells slots pc : Nat} {q : Nat → Nat} {ks : ax_K} {R R' : ay_R} {la : Array Slot} {rest : List Value} (C : ay_C p s m args meth c o nL cc) (hK : va_K D ax_cl (ax_tys cA) s) (hV : ay_V D cA base q ks R s H locs) {j r k z : Nat} {v : Value} (he : ax_flk o j = some (o, k, false, z)) (hr : ks[r]? = some (0, o)) (hfin : (ax_Tb o k).2.2.2 = false) (hsv : ax_sv ks (ay_z R) (ax_ty o k) r k v = some (ay_z R')) (hc : ay_c ks R') (hdg : decode cc pc = .ok (.putfield j, 3))
    (kk : ∀ H1 locs1, ay_V D cA base q ks R' s H1 locs1 → W p l e Rm s m args below meth c H1 locs1 cells slots Q (F0 m (pc + 3) la rest)) : W p l e Rm s m args below meth c H locs cells slots Q (F0 m pc la (ax_cv q v :: .ref (q r) :: rest)) := by
  obtain ⟨hx, hb, -, -, -, hown, hts, hN, hin⟩ := C
  obtain ⟨a1, a2, a3, a4⟩ := ax_flk_spec he
  obtain ⟨b1, b2, b3⟩ := ax_svP (q := q) (cA := cA) hr a2 rfl hsv
  rcases a4 with ⟨a4, -⟩ | ⟨-, a4⟩
  · cases a4
  · refine va_put (T := ax_Tb o) hx hb hts (ax_inA a1) (ax_ty o) (ax_tyA a1) (ax_nmA a1) hown hK hV.1 hV.2.1 hV.2.2.1 r (ax_ws_at hr) (ax_cl_at a1) k a2 (hts _ a4) (fun x hx => by rw [a3] at hx; exact hx) hfin (ax_tyA a1 _ a2) b2 b3 (by rw [ax_fs_len]; exact a2) hdg (fun H1 locs1 hP hD hS => ?_)
    have b9 : (ax_ws ks q cA (ay_z R)).set r (q r, .inr (o, (ax_fs q (ay_z R) o r).set k (ax_cv q v))) = ay_ws ks q cA R' := b1
    have hP : va_P D ax_cl ((ax_ws ks q cA (ay_z R)).set r (q r, .inr (o, (ax_fs q (ay_z R) o r).set k (ax_cv q v)))) H1 := hP
    have hD : va_D (ay_A base) ((ax_ws ks q cA (ay_z R)).set r (q r, .inr (o, (ax_fs q (ay_z R) o r).set k (ax_cv q v)))) := hD
    rw [b9] at hP hD
    exact kk H1 locs1 ⟨hP, hD, hS, hc, hV.2.2.2.2⟩
theorem ay_getR {H : Heap} {locs : List Loc} {cells slots pc : Nat} {q : Nat → Nat} {ks : ax_K} {R : ay_R} {la : Array Slot} {rest : List Value} (C : ay_C p s m args meth c o nL cc) (hK : va_K D ax_cl (ax_tys cA) s) (hV : ay_V D cA base q ks R s H locs) {j r k z a : Nat} (he : ax_flk o j = some (o, k, false, z)) (hr : ks[r]? = some (0, o)) (hty : ay_ar (ax_ty o k) = true) (ha : R r k = some a) (hdg : decode cc pc = .ok (.getfield j, 3))
    (kk : W p l e Rm s m args below meth c H locs cells slots Q (F0 m (pc + 3) la (.ref (q a) :: rest))) : W p l e Rm s m args below meth c H locs cells slots Q (F0 m pc la (.ref (q r) :: rest)) := by
  obtain ⟨hx, hb, -, -, -, hown, hts, hN, hin⟩ := C
  obtain ⟨a1, a2, a3, a4⟩ := ax_flk_spec he
  have hv : ax_cv q (ax_fv (ay_z R) (ax_ty o k) r k) = .ref (q a) := by
    have e1 : ax_cv q (va_rf (R r k)) = .ref (q a) := by rw [ha]; rfl
    cases h9 : ax_ty o k with
    | array t9 => exact e1
    | _ => rw [h9] at hty; cases hty
  rcases a4 with ⟨a4, -⟩ | ⟨-, a4⟩
  · cases a4
  · refine va_get (T := ax_Tb o) hx hb hts (ax_inA a1) hown hK hV.1 r (ax_ws_at hr) (ax_cl_at a1) k a2 (hts _ a4) (fun x hx => by rw [a3] at hx; exact hx) (v := .ref (q a)) (by rw [ax_fs_at a2, hv]) hdg kk
theorem ay_aast {H : Heap} {locs : List Loc} {cells slots pc : Nat} {q : Nat → Nat} {ks : ax_K} {R : ay_R} {la : Array Slot} {rest : List Value} (hx : p.tables.exec = Jvm.exec) (hb : c.code = cc) (hK : va_K D ax_cl (ax_tys cA) s) (hV : ay_V D cA base q ks R s H locs) {t ci a i n v : Nat} (ht : (t = 4 ∧ ci = 3) ∨ (t = 5 ∧ ci = 4)) (ha : ks[a]? = some (t, n)) (hv : ks[v]? = some (0, ci)) (hi : i < n) (hn : n < 1000) (hdg : decode cc pc = .ok (.aastore, 1))
    (kk : ∀ H1 locs1, ay_V D cA base q ks (ay_up R a i v) s H1 locs1 → W p l e Rm s m args below meth c H1 locs1 cells slots Q (F0 m (pc + 1) la rest)) : W p l e Rm s m args below meth c H locs cells slots Q (F0 m pc la (.ref (q v) :: .int (nI i) :: .ref (q a) :: rest)) := by
  have hal : a < ks.length := (List.getElem?_eq_some_iff.mp ha).1
  have hvl : v < ks.length := (List.getElem?_eq_some_iff.mp hv).1
  have hcl : (nI i).toNatClampNeg = i := nI_clamp (by omega)
  have hup : va_up (fun j => (R a j).map q) i (some (q v)) = fun j => (ay_up R a i v a j).map q := by
    funext j
    unfold va_up ay_up
    by_cases e9 : j = i
    · rw [if_pos e9, if_pos ⟨rfl, e9⟩]; rfl
    · rw [if_neg e9, if_neg (fun w => e9 w.2)]
  have hset : ∀ {ce : va_E}, ce = ax_ce q cA (ay_z (ay_up R a i v)) a (t, n) → (ay_ws ks q cA R).set a (q a, ce) = ay_ws ks q cA (ay_up R a i v) := fun hce => ax_ws_set (h' := ay_z (ay_up R a i v)) ha hce (fun b kd hb2 => ax_ce_R (k := i) (x := some v) b kd hb2)
  rcases ht with ⟨rfl, rfl⟩ | ⟨rfl, rfl⟩
  · refine va_astq (r := (ax_own 3, ax_Tb 3, ax_N 3)) hx hb hK hV.1 hV.2.1 hV.2.2.1 a 3 v 3 (ax_ws_at ha) rfl (ax_ws_at hv) (ax_cl_at (by omega)) (vp_in_nI hi (by omega)) hdg (fun H1 locs1 hP hD hS => ?_)
    rw [hcl] at hP hD
    have e0 := hset (ce := .inl (cA 4, n, .inr (.inr (.inr (.inr (va_up (fun j => (R a j).map q) i (some (q v)))))))) (by rw [hup]; rfl)
    have hP : va_P D ax_cl ((ay_ws ks q cA R).set a (q a, .inl (cA 4, n, .inr (.inr (.inr (.inr (va_up (fun j => (R a j).map q) i (some (q v))))))))) H1 := hP
    have hD : va_D (ay_A base) ((ay_ws ks q cA R).set a (q a, .inl (cA 4, n, .inr (.inr (.inr (.inr (va_up (fun j => (R a j).map q) i (some (q v))))))))) := hD
    rw [e0] at hP hD
    exact kk H1 locs1 ⟨hP, hD, hS, hV.2.2.2.1.up hal hvl _, hV.2.2.2.2⟩
  · refine va_astq (r := (ax_own 4, ax_Tb 4, ax_N 4)) hx hb hK hV.1 hV.2.1 hV.2.2.1 a 4 v 4 (ax_ws_at ha) rfl (ax_ws_at hv) (ax_cl_at (by omega)) (vp_in_nI hi (by omega)) hdg (fun H1 locs1 hP hD hS => ?_)
    rw [hcl] at hP hD
    have e0 := hset (ce := .inl (cA 5, n, .inr (.inr (.inr (.inr (va_up (fun j => (R a j).map q) i (some (q v)))))))) (by rw [hup]; rfl)
    have hP : va_P D ax_cl ((ay_ws ks q cA R).set a (q a, .inl (cA 5, n, .inr (.inr (.inr (.inr (va_up (fun j => (R a j).map q) i (some (q v))))))))) H1 := hP
    have hD : va_D (ay_A base) ((ay_ws ks q cA R).set a (q a, .inl (cA 5, n, .inr (.inr (.inr (.inr (va_up (fun j => (R a j).map q) i (some (q v))))))))) := hD
    rw [e0] at hP hD
    exact kk H1 locs1 ⟨hP, hD, hS, hV.2.2.2.1.up hal hvl _, hV.2.2.2.2⟩
/-- the loop that fills an array with new objects -/
theorem ay_loop (C : ay_C p s m args meth c o 2 cc) (hK : va_K D ax_cl (ax_tys cA) s) {r a n L j fk z t ci i1 i2 mN : Nat} {gs : List ay_G} {bytes : ByteArray} (hn : n < 100) (ht : (t = 4 ∧ ci = 3) ∨ (t = 5 ∧ ci = 4)) (he : ax_flk o j = some (o, fk, false, z)) (hty : ay_ar (ax_ty o fk) = true) (w0 : Jvm.Cond.code (yI ci) bytes 1 none ∈ ax_tb) (w1 : Jvm.Cond.instanceMethod (yI ci) ∈ ax_tb) (w2 : Jvm.Cond.initialized (ax_own ci) ∈ ax_tb) (w3 : Jvm.Cond.instantiable (ax_own ci) (ax_N ci) ∈ ax_tb) (w4 : Jvm.Cond.classLink (ax_own o) i1 (ax_own ci) ∈ ax_tb) (w5 : Jvm.Cond.methodLink (ax_own o) i2 (yI ci) ∈ ax_tb)
    (hM : ∀ (q : Nat → Nat) (ks : ax_K) (R : ay_R) (r : Nat), ks[r]? = some (0, ci) → Met l (yI ci) (Jvm.Cond.code (yI ci) bytes 1 none :: ax_tb) (ay_room gs) (va_Pc [.ref (q r)] (ay_W D cA base q ks R)) (ay_Q D cA base q ks.length (ks ++ gs.map ay_kd) (ay_Rs R r ks.length gs)) gs.length (ay_sum gs) (ay_A base)) (hy : (yI ci).cls ≠ "java/lang/invoke/MethodHandle" ∧ (yI ci).cls ≠ "java/lang/invoke/VarHandle") (hR : 2 ≤ Rm.frames ∧ 52 ≤ Rm.locals)
    (d0 : decode cc L = .ok (.iload_n 1, 1)) (d1 : decode cc (L + 1) = .ok (.bipush n, 2)) (hbi : (Int8.ofInt (n : Int)).toInt32 = nI n) (d3 : decode cc (L + 3) = .ok (.if_icmp .ge 22, 3)) (d6 : decode cc (L + 6) = .ok (.aload_n 0, 1)) (d7 : decode cc (L + 7) = .ok (.getfield j, 3)) (d10 : decode cc (L + 10) = .ok (.iload_n 1, 1)) (d11 : decode cc (L + 11) = .ok (.new i1, 3)) (d14 : decode cc (L + 11 + 3) = .ok (.dup, 1)) (d15 : decode cc (L + 11 + 3 + 1) = .ok (.invokespecial i2, 3)) (d18 : decode cc (L + 18) = .ok (.aastore, 1)) (d19 : decode cc (L + 19) = .ok (.iinc 1 1, 3)) (d22 : decode cc (L + 22) = .ok (.goto (-22), 3)) (hmN : mN = 1 + gs.length) :
    ∀ (k i : Nat) (H : Heap) (locs : List Loc) (cells slots : Nat) (q : Nat → Nat) (ks : ax_K) (R : ay_R) (la : Array Slot), i + k = n → ay_V D cA base q ks R s H locs → lv_has la 2 [(1, .int (nI i)), (0, .ref (q r))] → ks[r]? = some (0, o) → ks[a]? = some (t, n) → R r fk = some a → cells + k * mN ≤ Rm.cells → slots + k * (ax_N ci + ay_sum gs) ≤ Rm.slots →
      (∀ H1 locs1 q' la', (∀ z, z < ks.length → q' z = q z) → ay_V D cA base q' (ksL ci gs k ks) (RsL gs a k i ks.length R) s H1 locs1 → lv_has la' 2 [(1, .int (nI n)), (0, .ref (q' r))] → W p l e Rm s m args below meth c H1 locs1 (cells + k * mN) (slots + k * (ax_N ci + ay_sum gs)) Q (F0 m (L + 25) la' [])) → W p l e Rm s m args below meth c H locs cells slots Q (F0 m L la []) := by
  have C0 := C
  obtain ⟨hx, hb, hml, -, -, hown, hts, hN, hin⟩ := C
  intro k
  induction k with
  | zero =>
    intro i H locs cells slots q ks R la hi hV hl hr ha hRa hc hs kk
    have ei : i = n := by omega
    subst ei
    refine lv_iload_n hx hb d0 rfl (lv_at hl 0 rfl) ?_
    refine lv_bipush hx hb d1 hbi ?_
    refine lv_icmp_ge (tgt := L + 25) hx hb d3 (by omega) (fun _ => ?_) (fun h9 => absurd (Int32.le_refl _) h9)
    have := kk H locs q la (fun _ _ => rfl) hV hl
    rw [Nat.zero_mul, Nat.zero_mul, Nat.add_zero, Nat.add_zero] at this
    exact this
  | succ k ih =>
    intro i H locs cells slots q ks R la hi hV hl hr ha hRa hc hs kk
    have hrl : r < ks.length := (List.getElem?_eq_some_iff.mp hr).1
    have hal : a < ks.length := (List.getElem?_eq_some_iff.mp ha).1
    have hci : ci < 6 := by omega
    rw [Nat.succ_mul] at hc hs kk
    rw [Nat.succ_mul] at kk
    refine lv_iload_n hx hb d0 rfl (lv_at hl 0 rfl) ?_
    refine lv_bipush hx hb d1 hbi ?_
    refine lv_icmp_ge (tgt := L + 25) hx hb d3 (by omega) (fun h9 => absurd h9 (nI_ge (by omega) (by omega))) (fun _ => ?_)
    refine lv_aload_n hx hb d6 rfl (lv_at hl 1 rfl) ?_
    refine ay_getR C0 hK hV he hr hty hRa d7 ?_
    refine lv_iload_n hx hb d10 rfl (lv_at hl 0 rfl) ?_
    refine ay_make (F := fun ks => ks ++ gs.map ay_kd) (G := fun R r n => ay_Rs R r n gs) ⟨hx, hb, hml, hown, hts⟩ hN hK hV hci w0 w1 w2 w3 w4 w5 hM ⟨rfl, rfl⟩ hy ⟨hR.1, by show 8 + (1 + 11) + 32 ≤ _; omega⟩ hl.1 (by show 1 + (1 + 0) ≤ 7; omega) d11 d14 d15 ⟨by omega, by omega⟩ (fun H1 locs1 q1 hq1 hV1 => ?_)
    have hlen : ((ks ++ [(0, ci)]) ++ gs.map ay_kd).length = ks.length + 1 + gs.length := by rw [List.length_append, List.length_append, List.length_map]; rfl
    have ea : q a = q1 a := (hq1 a hal).symm
    rw [ea]
    refine ay_aast hx hb hK hV1 (a := a) (v := ks.length) (n := n) ht (by rw [List.append_assoc, List.getElem?_append_left hal]; exact ha) (by rw [List.append_assoc, List.getElem?_append_right (Nat.le_refl _), Nat.sub_self]; rfl) (by omega) (by omega) d18 (fun H2 locs2 hV2 => ?_)
    refine lv_iinc (v := nI (i + 1)) (k := 0) (lv' := [(1, .int (nI (i + 1))), (0, .ref (q1 r))]) hx hb d19 hl rfl (nI_1 i) (by omega) (by rw [hq1 r hrl]; rfl) (fun la2 hl2 => ?_)
    refine lv_goto (tgt := L) hx hb d22 (by omega) ?_
    refine ih (i + 1) H2 locs2 (cells + 1 + gs.length) (slots + ax_N ci + ay_sum gs) q1 _ _ la2 (by omega) hV2 hl2 (by rw [List.append_assoc, List.getElem?_append_left hrl]; exact hr) (by rw [List.append_assoc, List.getElem?_append_left hal]; exact ha) ?_ (by omega) (by omega) (fun H3 locs3 q3 la3 hq3 hV3 hl3 => ?_)
    · unfold ay_up
      by_cases e1 : r = a ∧ fk = i
      · exfalso
        have h5 : ks[a]? = some (0, o) := by rw [← e1.1]; exact hr
        rw [ha] at h5
        rcases ht with ⟨rfl, _⟩ | ⟨rfl, _⟩ <;> cases h5
      · rw [if_neg e1, ay_Rs_ne gs (by omega)]; exact hRa
    · rw [hlen] at hV3 hq3
      have := kk H3 locs3 q3 la3 (fun z hz => (hq3 z (by omega)).trans (hq1 z hz)) hV3 hl3
      rw [show cells + (k * mN + mN) = cells + 1 + gs.length + k * mN by omega, show slots + (k * (ax_N ci + ay_sum gs) + (ax_N ci + ay_sum gs)) = slots + ax_N ci + ay_sum gs + k * (ax_N ci + ay_sum gs) by omega] at this
      exact this
end AY
