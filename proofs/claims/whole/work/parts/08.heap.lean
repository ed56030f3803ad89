/-! the instructions that read or write a cell -/
section AXH
variable {p : Program} {l : Launch} {e : Env} {R : Room} {s : State} {m : MethodId} {args : Array Value} {below : List Frame} {meth : Method} {c : Code} {H : Heap} {locs : List Loc} {Q : State → Prop}
variable {ks : ax_K} {D : va_G} {cA : Nat → ClassId} {q : Nat → Nat} {h : ax_H} {M : ax_M} {pc : Nat} {la : Array Slot} {ls : ax_L} {st rest : List Value} {x : Nat × ax_L × List Value × ax_H}
theorem ax_gfW (C : ax_C p s m args meth c M) (hK : va_K D ax_cl (ax_tys cA) s) (hV : ax_V ks D cA q h s H locs) {j : Nat} (hd : decode M.2.2.1 pc = .ok (.getfield j, 3)) (hr : ax_gf ks M.1 j pc ls st h = some (.inl x))
    (kk : x.2.2.2 = h → x.2.1 = ls → W p l e R s m args below meth c H locs 0 0 Q (F0 m x.1 la (x.2.2.1.map (ax_cv q)))) : W p l e R s m args below meth c H locs 0 0 Q (F0 m pc la (st.map (ax_cv q))) := by
  obtain ⟨hx, hb, -, -, -, hown, hts, hN⟩ := C
  unfold ax_gf at hr
  split at hr
  · rename_i r rest
    split at hr
    · rename_i e he
      split at hr
      · rename_i hk
        cases hr
        obtain ⟨a1, a2, a3, a4⟩ := ax_flk_spec he
        have hw : (ax_ws ks q cA h)[r]? = some (q r, .inr (e.1, ax_fs q h e.1 r)) := ax_ws_at hk
        have kk := kk rfl rfl
        rcases a4 with ⟨-, a4⟩ | ⟨-, a4⟩
        · exact va_getN (T := ax_Tb e.1) hx hb hts (ax_inA a1) hown hK hV.1 r hw (ax_cl_at a1) e.2.1 a2 (va_Nw.use rfl (hN _ _ _ _ _ _ a4)) (fun x hx => by rw [a3] at hx; exact hx) (ax_fs_at a2) hd kk
        · exact va_get (T := ax_Tb e.1) hx hb hts (ax_inA a1) hown hK hV.1 r hw (ax_cl_at a1) e.2.1 a2 (hts _ a4) (fun x hx => by rw [a3] at hx; exact hx) (ax_fs_at a2) hd kk
      · cases hr
    · cases hr
  · cases hr
/-- a place of an object gets a value of its type -/
theorem ax_svP {ci r k : Nat} {ty : FieldType} {v : Value} {h' : ax_H} (hk : ks[r]? = some (0, ci)) (hn : k < ax_N ci) (hty : ax_ty ci k = ty) (hs : ax_sv ks h ty r k v = some h') :
    (ax_ws ks q cA h).set r (q r, .inr (ci, (ax_fs q h ci r).set k (ax_cv q v))) = ax_ws ks q cA h' ∧ narrow ty (ax_cv q v) = ax_cv q v ∧ fits ty (ax_cv q v) = true := by
  have key : ∀ {ce : va_E} {h1 : ax_H}, (∀ a kd, a ≠ r → ax_ce q cA h a kd = ax_ce q cA h1 a kd) → ax_cv q v = ax_cv q (ax_fv h1 (ax_ty ci k) r k) → (∀ j, j ≠ k → ax_fv h (ax_ty ci j) r j = ax_fv h1 (ax_ty ci j) r j) →
      (ax_ws ks q cA h).set r (q r, .inr (ci, (ax_fs q h ci r).set k (ax_cv q v))) = ax_ws ks q cA h1 := fun ho hv hj => ax_ws_set hk (by rw [ax_fs_set hn hv hj]; rfl) ho
  unfold ax_sv at hs
  split at hs
  · cases hs
    refine ⟨key (ce := .inr (0, [])) (fun a kd ha => ax_ce_I a kd ha) ?_ (fun j hj => ?_), rfl, rfl⟩
    · rw [hty]; simp [ax_fv, ax_upI]
    · unfold ax_fv; split <;> simp [ax_upI, hj]
  · cases hs
    refine ⟨key (ce := .inr (0, [])) (fun a kd ha => ax_ce_L a kd ha) ?_ (fun j hj => ?_), rfl, rfl⟩
    · rw [hty]; simp [ax_fv, ax_upL]
    · unfold ax_fv; split <;> simp [ax_upL, hj]
  · split at hs
    · cases hs
      refine ⟨key (ce := .inr (0, [])) (fun a kd ha => ax_ce_R a kd ha) ?_ (fun j hj => ?_), rfl, rfl⟩
      · rw [hty]; simp [ax_fv, ax_upR, va_rf]
      · unfold ax_fv; split <;> simp [ax_upR, hj]
    · cases hs
  · cases hs
theorem ax_pfW (C : ax_C p s m args meth c M) (hK : va_K D ax_cl (ax_tys cA) s) (hV : ax_V ks D cA q h s H locs) {j : Nat} (hd : decode M.2.2.1 pc = .ok (.putfield j, 3)) (hr : ax_pf ks M.1 j pc ls st h = some (.inl x))
    (kk : ∀ H' locs', ax_V ks D cA q x.2.2.2 s H' locs' → x.2.1 = ls → W p l e R s m args below meth c H' locs' 0 0 Q (F0 m x.1 la (x.2.2.1.map (ax_cv q)))) : W p l e R s m args below meth c H locs 0 0 Q (F0 m pc la (st.map (ax_cv q))) := by
  obtain ⟨hx, hb, -, -, -, hown, hts, hN⟩ := C
  unfold ax_pf at hr
  split at hr
  · rename_i v r rest
    split at hr
    · rename_i e he
      split at hr
      · rename_i hk
        obtain ⟨hk, hfin⟩ := hk
        cases hsv : ax_sv ks h (ax_ty e.1 e.2.1) r e.2.1 v with
        | none => rw [hsv] at hr; cases hr
        | some h' =>
          rw [hsv] at hr
          cases hr
          obtain ⟨a1, a2, a3, a4⟩ := ax_flk_spec he
          obtain ⟨b1, b2, b3⟩ := ax_svP (q := q) (cA := cA) hk a2 rfl hsv
          have hw : (ax_ws ks q cA h)[r]? = some (q r, .inr (e.1, ax_fs q h e.1 r)) := ax_ws_at hk
          rcases a4 with ⟨-, a4⟩ | ⟨-, a4⟩
          · refine va_putN (T := ax_Tb e.1) hx hb hts (ax_inA a1) (ax_ty e.1) (ax_tyA a1) (ax_nmA a1) hown hK hV.1 hV.2.1 hV.2.2 r hw (ax_cl_at a1) e.2.1 a2 (va_Nw.use rfl (hN _ _ _ _ _ _ a4)) (fun x hx => by rw [a3] at hx; exact hx) hfin (ax_tyA a1 _ a2) b2 b3 (by rw [ax_fs_len]; exact a2) hd (fun H1 locs1 hP hD hS => ?_)
            rw [b1] at hP hD
            exact kk H1 locs1 ⟨hP, hD, hS⟩ rfl
          · refine va_put (T := ax_Tb e.1) hx hb hts (ax_inA a1) (ax_ty e.1) (ax_tyA a1) (ax_nmA a1) hown hK hV.1 hV.2.1 hV.2.2 r hw (ax_cl_at a1) e.2.1 a2 (hts _ a4) (fun x hx => by rw [a3] at hx; exact hx) hfin (ax_tyA a1 _ a2) b2 b3 (by rw [ax_fs_len]; exact a2) hd (fun H1 locs1 hP hD hS => ?_)
            rw [b1] at hP hD
            exact kk H1 locs1 ⟨hP, hD, hS⟩ rfl
      · cases hr
    · cases hr
  · cases hr
theorem ax_lenW (C : ax_C p s m args meth c M) (hK : va_K D ax_cl (ax_tys cA) s) (hV : ax_V ks D cA q h s H locs) (hd : decode M.2.2.1 pc = .ok (.arraylength, 1)) (hr : ax_len ks pc ls st h = some (.inl x))
    (kk : x.2.2.2 = h → x.2.1 = ls → W p l e R s m args below meth c H locs 0 0 Q (F0 m x.1 la (x.2.2.1.map (ax_cv q)))) : W p l e R s m args below meth c H locs 0 0 Q (F0 m pc la (st.map (ax_cv q))) := by
  obtain ⟨hx, hb, -, -, -, hown, hts, hN⟩ := C
  unfold ax_len at hr
  split at hr
  · rename_i r rest
    split at hr
    · rename_i t n hk
      split at hr
      · rename_i ht
        cases hr
        have hw := ax_ws_at (q := q) (cA := cA) (h := h) hk
        have kk := kk rfl rfl
        match t, ht, hw with
        | 1, _, hw => exact va_alen hx hb hK hV.1 r 0 hw (ty := .int) rfl rfl hd kk
        | 2, _, hw => exact va_alen hx hb hK hV.1 r 1 hw (ty := .long) rfl rfl hd kk
        | 3, _, hw => exact va_alen hx hb hK hV.1 r 2 hw (ty := .boolean) rfl rfl hd kk
        | 4, _, hw => exact va_alen hx hb hK hV.1 r 3 hw (ty := .object "PackageRules$Unit") rfl rfl hd kk
        | 5, _, hw => exact va_alen hx hb hK hV.1 r 4 hw (ty := .object "PackageRules$Rule") rfl rfl hd kk
        | 0, ht, _ => exact absurd ht.1 (by omega)
        | n + 6, ht, _ => exact absurd ht.2 (by omega)
      · cases hr
    · cases hr
  · cases hr
theorem ax_alW (C : ax_C p s m args meth c M) (hK : va_K D ax_cl (ax_tys cA) s) (hV : ax_V ks D cA q h s H locs) {t : Nat} {i : Instr} (hi : (t = 1 ∧ i = .iaload) ∨ (t = 2 ∧ i = .laload) ∨ (t = 3 ∧ i = .baload) ∨ (t = 4 ∧ i = .aaload)) (hd : decode M.2.2.1 pc = .ok (i, 1)) (hr : ax_al ks t pc ls st h = some (.inl x))
    (kk : x.2.2.2 = h → x.2.1 = ls → W p l e R s m args below meth c H locs 0 0 Q (F0 m x.1 la (x.2.2.1.map (ax_cv q)))) : W p l e R s m args below meth c H locs 0 0 Q (F0 m pc la (st.map (ax_cv q))) := by
  obtain ⟨hx, hb, -, -, -, hown, hts, hN⟩ := C
  unfold ax_al at hr
  split at hr
  · rename_i j r rest
    split at hr
    · rename_i t' n hk
      split at hr
      · rename_i ht
        obtain ⟨ht, hin⟩ := ht
        cases hr
        have hw := ax_ws_at (q := q) (cA := cA) (h := h) hk
        have hin := ax_in_vp hin
        have kk := kk rfl rfl
        rcases hi with ⟨rfl, rfl⟩ | ⟨rfl, rfl⟩ | ⟨rfl, rfl⟩ | ⟨rfl, rfl⟩
        · have ht : t' = 1 := by omega
          subst ht
          exact va_iald hx hb hK hV.1 r 0 hw rfl hin hd kk
        · have ht : t' = 2 := by omega
          subst ht
          exact va_lald hx hb hK hV.1 r 1 hw rfl hin hd kk
        · have ht : t' = 3 := by omega
          subst ht
          exact va_zald hx hb hK hV.1 r 2 hw rfl hin hd kk
        · have e1 : ax_cv q (va_rf (h.2.2 r j.toNatClampNeg)) = va_rf ((h.2.2 r j.toNatClampNeg).map q) := ax_rf q _
          have kk : W p l e R s m args below meth c H locs 0 0 Q (F0 m (pc + 1) la (va_rf ((h.2.2 r j.toNatClampNeg).map q) :: rest.map (ax_cv q))) := by rw [← e1]; exact kk
          rcases ht with ht | ⟨-, ht⟩
          · subst ht
            exact va_aldq hx hb hK hV.1 r 3 hw (C := "PackageRules$Unit") rfl hin hd kk
          · subst ht
            exact va_aldq hx hb hK hV.1 r 4 hw (C := "PackageRules$Rule") rfl hin hd kk
      · cases hr
    · cases hr
  · cases hr
theorem ax_asW (C : ax_C p s m args meth c M) (hK : va_K D ax_cl (ax_tys cA) s) (hV : ax_V ks D cA q h s H locs) {t : Nat} {i : Instr} (hi : (t = 1 ∧ i = .iastore) ∨ (t = 2 ∧ i = .lastore) ∨ (t = 3 ∧ i = .bastore) ∨ (t = 4 ∧ i = .aastore)) (hd : decode M.2.2.1 pc = .ok (i, 1)) (hr : ax_as ks t pc ls st h = some (.inl x))
    (kk : ∀ H' locs', ax_V ks D cA q x.2.2.2 s H' locs' → x.2.1 = ls → W p l e R s m args below meth c H' locs' 0 0 Q (F0 m x.1 la (x.2.2.1.map (ax_cv q)))) : W p l e R s m args below meth c H locs 0 0 Q (F0 m pc la (st.map (ax_cv q))) := by
  obtain ⟨hx, hb, -, -, -, hown, hts, hN⟩ := C
  unfold ax_as at hr
  split at hr
  · rename_i v j r rest
    split at hr
    · rename_i t' n hk
      split at hr
      · rename_i ht
        obtain ⟨ht, hin⟩ := ht
        subst ht
        have hw := ax_ws_at (q := q) (cA := cA) (h := h) hk
        have hin := ax_in_vp hin
        split at hr
        · rename_i y
          cases hr
          rcases hi with ⟨-, rfl⟩ | ⟨h0, -⟩ | ⟨h0, -⟩ | ⟨h0, -⟩
          · refine va_iast hx hb hK hV.1 hV.2.1 hV.2.2 r 0 hw rfl hin hd (fun H1 locs1 hP hD hS => ?_)
            have b1 : (ax_ws ks q cA h).set r (q r, .inl (cA 1, n, .inl (upd (h.1 r) j.toNatClampNeg y))) = ax_ws ks q cA (ax_upI h r j.toNatClampNeg y) := ax_ws_set hk (by
              show _ = Sum.inl (cA 1, n, Sum.inl ((ax_upI h r j.toNatClampNeg y).1 r))
              congr 4; funext b; simp [upd, ax_upI]) (fun a kd ha => ax_ce_I a kd ha)
            exact kk H1 locs1 ⟨by rw [← b1]; exact hP, by rw [← b1]; exact hD, hS⟩ rfl
          · cases h0
          · cases h0
          · cases h0
        · rename_i y
          cases hr
          rcases hi with ⟨h0, -⟩ | ⟨-, rfl⟩ | ⟨h0, -⟩ | ⟨h0, -⟩
          · cases h0
          · refine va_last hx hb hK hV.1 hV.2.1 hV.2.2 r 1 hw rfl hin hd (fun H1 locs1 hP hD hS => ?_)
            have b1 : (ax_ws ks q cA h).set r (q r, .inl (cA 2, n, .inr (.inl (vp_updL (h.2.1 r) j.toNatClampNeg y)))) = ax_ws ks q cA (ax_upL h r j.toNatClampNeg y) := ax_ws_set hk (by
              show _ = Sum.inl (cA 2, n, Sum.inr (Sum.inl ((ax_upL h r j.toNatClampNeg y).2.1 r)))
              congr 5; funext b; simp [vp_updL, ax_upL]) (fun a kd ha => ax_ce_L a kd ha)
            exact kk H1 locs1 ⟨by rw [← b1]; exact hP, by rw [← b1]; exact hD, hS⟩ rfl
          · cases h0
          · cases h0
        · rename_i y
          cases hr
          rcases hi with ⟨h0, -⟩ | ⟨h0, -⟩ | ⟨-, rfl⟩ | ⟨h0, -⟩
          · cases h0
          · cases h0
          · refine va_zast hx hb hK hV.1 hV.2.1 hV.2.2 r 2 hw rfl hin hd (fun H1 locs1 hP hD hS => ?_)
            have b1 : (ax_ws ks q cA h).set r (q r, .inl (cA 3, n, .inl (upd (h.1 r) j.toNatClampNeg (vp_nar .boolean y)))) = ax_ws ks q cA (ax_upI h r j.toNatClampNeg (vp_nar .boolean y)) := ax_ws_set hk (by
              show _ = Sum.inl (cA 3, n, Sum.inl ((ax_upI h r j.toNatClampNeg (vp_nar .boolean y)).1 r))
              congr 4; funext b; simp [upd, ax_upI]) (fun a kd ha => ax_ce_I a kd ha)
            exact kk H1 locs1 ⟨by rw [← b1]; exact hP, by rw [← b1]; exact hD, hS⟩ rfl
          · cases h0
        · rename_i a
          split at hr
          · rename_i ha
            cases hr
            rcases hi with ⟨h0, -⟩ | ⟨h0, -⟩ | ⟨h0, -⟩ | ⟨-, rfl⟩
            · cases h0
            · cases h0
            · cases h0
            · have hw2 := ax_ws_at (q := q) (cA := cA) (h := h) ha
              refine va_astq hx hb hK hV.1 hV.2.1 hV.2.2 r 3 a 3 hw rfl hw2 (ax_cl_at (ci := 3) (by omega)) hin hd (fun H1 locs1 hP hD hS => ?_)
              have b1 : (ax_ws ks q cA h).set r (q r, .inl (cA 4, n, .inr (.inr (.inr (.inr (va_up (fun k => (h.2.2 r k).map q) j.toNatClampNeg (some (q a)))))))) = ax_ws ks q cA (ax_upR h r j.toNatClampNeg (some a)) := ax_ws_set hk (by
                show _ = Sum.inl (cA 4, n, Sum.inr (Sum.inr (Sum.inr (Sum.inr (fun k => ((ax_upR h r j.toNatClampNeg (some a)).2.2 r k).map q)))))
                congr 7; funext b; by_cases hb : b = j.toNatClampNeg <;> simp [va_up, ax_upR, hb]) (fun a kd ha => ax_ce_R a kd ha)
              exact kk H1 locs1 ⟨by rw [← b1]; exact hP, by rw [← b1]; exact hD, hS⟩ rfl
          · cases hr
        · cases hr
      · cases hr
    · cases hr
  · cases hr
end AXH
