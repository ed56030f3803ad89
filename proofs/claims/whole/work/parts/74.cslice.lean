/-! the class: slices, and the ways among them -/
def frD (h h' : ax_H) : Prop := h'.2.2 = h.2.2 ∧ (∀ a k, ¬ (a = 15 ∨ a = 16) → h'.1 a k = h.1 a k) ∧ ∀ a k, ¬ a = 14 → h'.2.1 a k = h.2.1 a k
theorem frD.rf {h : ax_H} : frD h h := ⟨rfl, fun _ _ _ => rfl, fun _ _ _ => rfl⟩
theorem frD.tr {h h' h2 : ax_H} (a : frD h h') (b : frD h' h2) : frD h h2 := ⟨b.1.trans a.1, fun r k h1 => (b.2.1 r k h1).trans (a.2.1 r k h1), fun r k h1 => (b.2.2 r k h1).trans (a.2.2 r k h1)⟩
theorem frR.d {h h' : ax_H} (f : frR 16 h h') : frD h h' := ⟨by rw [f.1], fun a k w => f.2 a k (by omega), fun a k _ => by rw [f.1]⟩
theorem usC.d {o : Nat → Nat} {s : Nat} {x : Option Nat} {h h' : ax_H} {us : List (List Nat)} (hc : usC o s x h us) (f : frD h h') : usC o s x h' us := hc.keep f.1 (f.2.1 _ _ (by omega)) (fun a k _ _ => f.2.1 _ _ (by omega)) (fun a k _ _ => f.2.2 _ _ (by omega))
def hdC (h : ax_H) (us : List (List Nat)) (w n : Nat) : Prop := ∀ b, b < n → h.2.1 14 b = lN (pL (slN us w b)) ∧ h.1 15 b = oI (lsU us w b)
theorem oI_eq {a b : Option Nat} (ha : ∀ r, a = some r → r < 1000) (hb : ∀ r, b = some r → r < 1000) : (oI a = oI b) = (a = b) := by
  cases a with
  | none =>
    cases b with
    | none => simp
    | some q => have := hb q rfl; rw [oI_n, oI_s, m1_ne_nI (by omega)]; simp
  | some p =>
    have := ha p rfl
    cases b with
    | none => rw [oI_n, oI_s, nI_ne_m1 (by omega)]; simp
    | some q => have := hb q rfl; rw [oI_s, oI_s, nI_eq' (by omega) (by omega)]; simp
theorem sl_vT {o : Nat → Nat} {s : Nat} {x : Option Nat} {h : ax_H} {us : List (List Nat)} (hc : usC o s x h us) (w : Nat) {c : Nat} (h1 : c < us.length) : vT (slN us w c) := fWd_vT (hc.own h1).1 w
theorem lsF_is (us : List (List Nat)) (w : Nat) (s : List Nat) : ∀ (m k r : Nat), k ≤ r → r < k + m → (∀ i, k ≤ i → i < r → ¬ slN us w i = s) → slN us w r = s → lsF us w s m k = some r
  | 0, k, r, h1, h2, _, _ => absurd h2 (by omega)
  | m + 1, k, r, h1, h2, h3, h4 => by
    rw [lsF]
    by_cases e : k = r
    · subst e; rw [if_pos h4]
    · rw [if_neg (h3 k (by omega) (by omega))]
      exact lsF_is us w s m (k + 1) r (by omega) (by omega) (fun i q1 q2 => h3 i (by omega) q2) h4
theorem lsF_first (us : List (List Nat)) (w : Nat) (s : List Nat) : ∀ (m k r : Nat), lsF us w s m k = some r → ∀ i, k ≤ i → i < r → ¬ slN us w i = s
  | 0, k, r, h, _, _, _ => by cases h
  | m + 1, k, r, h, i, h1, h2 => by
    rw [lsF] at h
    by_cases e : slN us w k = s
    · rw [if_pos e] at h
      have : k = r := by simpa using h
      omega
    · rw [if_neg e] at h
      by_cases e2 : i = k
      · rw [e2]; exact e
      · exact lsF_first us w s m (k + 1) r h i (by omega) h2
theorem lsU_head {us : List (List Nat)} {w c r : Nat} (h : lsU us w c = some r) : lsU us w r = some r := by
  have k := lsU_some h
  unfold lsU at h ⊢
  rw [if_neg k.2.2] at h
  rw [k.2.1, if_neg k.2.2]
  exact lsF_is us w _ (r + 1) 0 r (by omega) (by omega) (lsF_first us w _ _ _ _ h) k.2.1
section CS
variable {d : Nat} {Q : Option Value → ax_H → Prop} {o : Nat → Nat} {s : Nat} {x : Option Nat} {us : List (List Nat)}
theorem mG_headOf_l {h : ax_H} (hc : usC o s x h us) (w c : Nat) (hcl : c < us.length) (hs : ∀ b, b ≤ c → h.2.1 14 b = lN (pL (slN us w b))) : ∀ (m b : Nat), b + m = c → ax_wp kC d mG_headOf 15 [some (.ref 2), some (.int (nI c)), some (.int (nI b))] [] h Q = Q (some (.int (oI (lsF us w (slN us w c) (m + 1) b)))) h
  | 0, b, hb => by
    have h12 := hc.2.2.1
    have e : b = c := by omega
    subst e
    rw [sG_headOf_15, lsF, if_pos rfl]
    simp (disch := omega) only [sG_headOf_16, sG_headOf_17, sG_headOf_44, sG_headOf_45, ax_clr_i, ax_clr_l, ax_clr_r, ax_clr_n, ax_ct_0, ax_ct_i, ax_ct_l, ax_ct_r, va_rf_s, Option.toList_some, Option.toList_none, List.cons_append, List.nil_append, and_true, true_and, and_self, ite_true, ite_false, if_true, if_false, Nat.reduceAdd, Nat.reduceLeDiff, Nat.reduceMul, Nat.reduceLT, nI_add, pk_mul, nI_lt', nI_le', nI_eq', nI_lt0, nI_ge0, nI_eq0, nI_gt0, nI_le0, nI_ne_m1, m1_ne_nI, m1_lt_nI, m1_le_nI, nI_lt_m1, nI_le_m1, nI_clamp, ax_in_nI, nI_shl, nI_shr, lg_cmp0, nx_and, nI_eq1, bI_0, bI_1, bf_or, eq_self, or_true, true_or, lt_T, le_T, lt_F, le_F, eq_F, eq_T]
    rfl
  | m + 1, b, hb => by
    have h12 := hc.2.2.1
    have hr := hc.1
    have s1 := hs b (by omega)
    have s2 := hs c (by omega)
    have e := lpL_eq (sl_vT hc w (show b < us.length by omega)) (sl_vT hc w hcl)
    rw [sG_headOf_15, lsF]
    simp (disch := omega) only [sG_headOf_16, sG_headOf_17, sG_headOf_20, sG_headOf_21, sG_headOf_24, sG_headOf_25, sG_headOf_26, sG_headOf_27, sG_headOf_30, sG_headOf_31, sG_headOf_32, sG_headOf_33, ax_clr_i, ax_clr_l, ax_clr_r, ax_clr_n, ax_ct_0, ax_ct_i, ax_ct_l, ax_ct_r, va_rf_s, Option.toList_some, Option.toList_none, List.cons_append, List.nil_append, and_true, true_and, and_self, ite_true, ite_false, if_true, if_false, Nat.reduceAdd, Nat.reduceLeDiff, Nat.reduceMul, Nat.reduceLT, nI_add, pk_mul, nI_lt', nI_le', nI_eq', nI_lt0, nI_ge0, nI_eq0, nI_gt0, nI_le0, nI_ne_m1, m1_ne_nI, m1_lt_nI, m1_le_nI, nI_lt_m1, nI_le_m1, nI_clamp, ax_in_nI, nI_shl, nI_shr, lg_cmp0, nx_and, nI_eq1, bI_0, bI_1, bf_or, eq_self, or_true, true_or, lt_T, le_T, lt_F, le_F, eq_F, eq_T, kdC_0, kdC_1, kdC_2, kdC_3, kdC_4, kdC_5, kdC_6, kdC_7, kdC_8, kdC_9, kdC_10, kdC_11, kdC_12, kdC_13, kdC_14, kdC_15, kdC_16, kdU_1, kdU_2, kdU_3, kdU_4, kdU_5, kdU_6, kdU_7, kdU_, kdR_1, kdR_2, kdR_3, kdR_4, kdR_5, kdR_, rC_00, rC_01, rC_02, rC_03, rC_04, rC_10, rC_16, rC_18, rC_19, rC_1a, rC_20, rC_22, rC_23, rC_24, rC_25, rC_26, rC_27, rC_28, rC_4, rC_10k, rC_u3, rC_u5, rC_u7, rC_u9, rC_ua, rC_ub, rC_uc, rC_r4, rC_r5, rC_r6, rC_r7, rC_r8, Nat.add_zero, hr, s1, s2, e]
    by_cases e2 : slN us w b = slN us w c
    · rw [if_pos e2, if_pos e2]
      simp (disch := omega) only [sG_headOf_36, sG_headOf_37, ax_clr_i, ax_clr_l, ax_clr_r, ax_clr_n, ax_ct_0, ax_ct_i, ax_ct_l, ax_ct_r, va_rf_s, Option.toList_some, Option.toList_none, List.cons_append, List.nil_append, and_true, true_and, and_self, ite_true, ite_false, if_true, if_false, Nat.reduceAdd, Nat.reduceLeDiff, Nat.reduceMul, Nat.reduceLT]
      rfl
    · rw [if_neg e2, if_neg e2]
      simp (disch := omega) only [sG_headOf_38, sG_headOf_41, ax_clr_i, ax_clr_l, ax_clr_r, ax_clr_n, ax_ct_0, ax_ct_i, ax_ct_l, ax_ct_r, va_rf_s, Option.toList_some, Option.toList_none, List.cons_append, List.nil_append, and_true, true_and, and_self, ite_true, ite_false, if_true, if_false, Nat.reduceAdd, Nat.reduceLeDiff, Nat.reduceMul, Nat.reduceLT, nI_add]
      exact mG_headOf_l hc w c hcl hs m (b + 1) (by omega)
theorem mG_headOf_ {h : ax_H} (hc : usC o s x h us) (w c : Nat) (hcl : c < us.length) (hs : ∀ b, b ≤ c → h.2.1 14 b = lN (pL (slN us w b))) : ax_wp kC d mG_headOf 0 [some (.ref 2), some (.int (nI c)), none] [] h Q = Q (some (.int (oI (lsU us w c)))) h := by
  have h12 := hc.2.2.1
  have hr := hc.1
  have s2 := hs c (by omega)
  have e : (lN (pL (slN us w c)) = 0) = (slN us w c = []) := lpL_eq (sl_vT hc w hcl) vT_nil
  unfold lsU
  simp (disch := omega) only [sG_headOf_0, sG_headOf_1, sG_headOf_4, sG_headOf_5, sG_headOf_6, sG_headOf_7, sG_headOf_8, ax_clr_i, ax_clr_l, ax_clr_r, ax_clr_n, ax_ct_0, ax_ct_i, ax_ct_l, ax_ct_r, va_rf_s, Option.toList_some, Option.toList_none, List.cons_append, List.nil_append, and_true, true_and, and_self, ite_true, ite_false, if_true, if_false, Nat.reduceAdd, Nat.reduceLeDiff, Nat.reduceMul, Nat.reduceLT, nI_add, pk_mul, nI_lt', nI_le', nI_eq', nI_lt0, nI_ge0, nI_eq0, nI_gt0, nI_le0, nI_ne_m1, m1_ne_nI, m1_lt_nI, m1_le_nI, nI_lt_m1, nI_le_m1, nI_clamp, ax_in_nI, nI_shl, nI_shr, lg_cmp0, nx_and, nI_eq1, bI_0, bI_1, bf_or, eq_self, or_true, true_or, lt_T, le_T, lt_F, le_F, eq_F, eq_T, kdC_0, kdC_1, kdC_2, kdC_3, kdC_4, kdC_5, kdC_6, kdC_7, kdC_8, kdC_9, kdC_10, kdC_11, kdC_12, kdC_13, kdC_14, kdC_15, kdC_16, kdU_1, kdU_2, kdU_3, kdU_4, kdU_5, kdU_6, kdU_7, kdU_, kdR_1, kdR_2, kdR_3, kdR_4, kdR_5, kdR_, rC_00, rC_01, rC_02, rC_03, rC_04, rC_10, rC_16, rC_18, rC_19, rC_1a, rC_20, rC_22, rC_23, rC_24, rC_25, rC_26, rC_27, rC_28, rC_4, rC_10k, rC_u3, rC_u5, rC_u7, rC_u9, rC_ua, rC_ub, rC_uc, rC_r4, rC_r5, rC_r6, rC_r7, rC_r8, Nat.add_zero, hr, s2, e]
  by_cases e2 : slN us w c = []
  · rw [if_pos e2, if_pos e2]
    simp (disch := omega) only [sG_headOf_11, sG_headOf_12, ax_clr_i, ax_clr_l, ax_clr_r, ax_clr_n, ax_ct_0, ax_ct_i, ax_ct_l, ax_ct_r, va_rf_s, Option.toList_some, Option.toList_none, List.cons_append, List.nil_append, and_true, true_and, and_self, ite_true, ite_false, if_true, if_false, Nat.reduceAdd, Nat.reduceLeDiff, Nat.reduceMul, Nat.reduceLT]
    rfl
  · rw [if_neg e2, if_neg e2]
    simp (disch := omega) only [sG_headOf_13, sG_headOf_14, ax_clr_i, ax_clr_l, ax_clr_r, ax_clr_n, ax_ct_0, ax_ct_i, ax_ct_l, ax_ct_r, va_rf_s, Option.toList_some, Option.toList_none, List.cons_append, List.nil_append, and_true, true_and, and_self, ite_true, ite_false, if_true, if_false, Nat.reduceAdd, Nat.reduceLeDiff, Nat.reduceMul, Nat.reduceLT]
    exact mG_headOf_l hc w c hcl hs c 0 (by omega)
theorem mG_cutSlices_l (w : Nat) (hw : w < 100) : ∀ (m c n : Nat) (h : ax_H), c + m = us.length → usC o s x h us → hdC h us w c → (∀ h', frD h h' → hdC h' us w us.length → Q (some (.int (nI (slC us w m c n)))) h') → ax_wp kC (d + 2) mG_cutSlices 4 [some (.ref 2), some (.int (nI w)), some (.int (nI n)), some (.int (nI c))] [] h Q
  | 0, c, n, h, hm, hc, hd, hQ => by
    have e : c = us.length := by omega
    subst e
    have h12 := hc.2.2.1
    have h1 := hc.2.1
    rw [sG_cutSlices_4]
    simp (disch := omega) only [sG_cutSlices_5, sG_cutSlices_6, sG_cutSlices_9, sG_cutSlices_61, sG_cutSlices_62, ax_clr_i, ax_clr_l, ax_clr_r, ax_clr_n, ax_ct_0, ax_ct_i, ax_ct_l, ax_ct_r, va_rf_s, Option.toList_some, Option.toList_none, List.cons_append, List.nil_append, and_true, true_and, and_self, ite_true, ite_false, if_true, if_false, Nat.reduceAdd, Nat.reduceLeDiff, Nat.reduceMul, Nat.reduceLT, nI_add, pk_mul, nI_lt', nI_le', nI_eq', nI_lt0, nI_ge0, nI_eq0, nI_gt0, nI_le0, nI_ne_m1, m1_ne_nI, m1_lt_nI, m1_le_nI, nI_lt_m1, nI_le_m1, nI_clamp, ax_in_nI, nI_shl, nI_shr, lg_cmp0, nx_and, nI_eq1, bI_0, bI_1, bf_or, eq_self, or_true, true_or, lt_T, le_T, lt_F, le_F, eq_F, eq_T, kdC_0, kdC_1, kdC_2, kdC_3, kdC_4, kdC_5, kdC_6, kdC_7, kdC_8, kdC_9, kdC_10, kdC_11, kdC_12, kdC_13, kdC_14, kdC_15, kdC_16, kdU_1, kdU_2, kdU_3, kdU_4, kdU_5, kdU_6, kdU_7, kdU_, kdR_1, kdR_2, kdR_3, kdR_4, kdR_5, kdR_, rC_00, rC_01, rC_02, rC_03, rC_04, rC_10, rC_16, rC_18, rC_19, rC_1a, rC_20, rC_22, rC_23, rC_24, rC_25, rC_26, rC_27, rC_28, rC_4, rC_10k, rC_u3, rC_u5, rC_u7, rC_u9, rC_ua, rC_ub, rC_uc, rC_r4, rC_r5, rC_r6, rC_r7, rC_r8, Nat.add_zero, h1]
    exact hQ h frD.rf hd
  | m + 1, c, n, h, hm, hc, hd, hQ => by
    have h12 := hc.2.2.1
    have h1 := hc.2.1
    have hr := hc.1
    have ho := hc.2.2.2.2.1 c (by omega)
    have h0 := (hc.2.2.2.1 c (by omega)).1.1
    have vo := (hc.own (show c < us.length by omega)).1
    rw [slC] at hQ
    rw [sG_cutSlices_4]
    simp (disch := omega) only [sG_cutSlices_5, sG_cutSlices_6, sG_cutSlices_9, sG_cutSlices_12, sG_cutSlices_13, sG_cutSlices_16, sG_cutSlices_17, sG_cutSlices_18, sG_cutSlices_21, sG_cutSlices_22, sG_cutSlices_23, sG_cutSlices_26, sG_cutSlices_27, sG_cutSlices_30, sG_cutSlices_31, sG_cutSlices_32, sG_cutSlices_35, sG_cutSlices_36, sG_cutSlices_37, sG_cutSlices_38, ax_clr_i, ax_clr_l, ax_clr_r, ax_clr_n, ax_ct_0, ax_ct_i, ax_ct_l, ax_ct_r, va_rf_s, Option.toList_some, Option.toList_none, List.cons_append, List.nil_append, and_true, true_and, and_self, ite_true, ite_false, if_true, if_false, Nat.reduceAdd, Nat.reduceLeDiff, Nat.reduceMul, Nat.reduceLT, nI_add, pk_mul, nI_lt', nI_le', nI_eq', nI_lt0, nI_ge0, nI_eq0, nI_gt0, nI_le0, nI_ne_m1, m1_ne_nI, m1_lt_nI, m1_le_nI, nI_lt_m1, nI_le_m1, nI_clamp, ax_in_nI, nI_shl, nI_shr, lg_cmp0, nx_and, nI_eq1, bI_0, bI_1, bf_or, eq_self, or_true, true_or, lt_T, le_T, lt_F, le_F, eq_F, eq_T, kdC_0, kdC_1, kdC_2, kdC_3, kdC_4, kdC_5, kdC_6, kdC_7, kdC_8, kdC_9, kdC_10, kdC_11, kdC_12, kdC_13, kdC_14, kdC_15, kdC_16, kdU_1, kdU_2, kdU_3, kdU_4, kdU_5, kdU_6, kdU_7, kdU_, kdR_1, kdR_2, kdR_3, kdR_4, kdR_5, kdR_, rC_00, rC_01, rC_02, rC_03, rC_04, rC_10, rC_16, rC_18, rC_19, rC_1a, rC_20, rC_22, rC_23, rC_24, rC_25, rC_26, rC_27, rC_28, rC_4, rC_10k, rC_u3, rC_u5, rC_u7, rC_u9, rC_ua, rC_ub, rC_uc, rC_r4, rC_r5, rC_r6, rC_r7, rC_r8, Nat.add_zero, hr, h1, h0, mT_firstWords_ _ vo w hw, up_L3]
    have es : fWd (ownU (uAt us c)) w = slN us w c := rfl
    rw [es]
    have f1 : frD h (ax_upL h 14 c (lN (pL (slN us w c)))) := ⟨rfl, fun _ _ _ => rfl, fun a k q => by rw [up_L, if_neg (by omega)]⟩
    have hs1 : ∀ b, b ≤ c → (ax_upL h 14 c (lN (pL (slN us w c)))).2.1 14 b = lN (pL (slN us w b)) := fun b hb => by
      rw [up_L]
      by_cases e : b = c
      · rw [if_pos ⟨rfl, e⟩, e]
      · rw [if_neg (by omega)]; exact (hd b (by omega)).1
    have hd1 : ∀ b, b < c → (ax_upL h 14 c (lN (pL (slN us w c)))).1 15 b = oI (lsU us w b) := fun b hb => (hd b hb).2
    generalize ax_upL h 14 c (lN (pL (slN us w c))) = h2 at f1 hs1 hd1 ⊢
    have hc2 := hc.d f1
    have hr2 := hc2.1
    rw [mG_headOf_ hc2 w c (by omega) hs1]
    have ll : ∀ r, lsU us w c = some r → r < 1000 := fun r q => by have := (lsU_some q).1; omega
    have e9 : (oI (lsU us w c) = nI c) = (lsU us w c = some c) := oI_eq (b := some c) ll (fun r q => by cases q; omega)
    simp (disch := omega) only [sG_cutSlices_41, sG_cutSlices_42, sG_cutSlices_43, sG_cutSlices_46, sG_cutSlices_47, sG_cutSlices_48, sG_cutSlices_49, ax_clr_i, ax_clr_l, ax_clr_r, ax_clr_n, ax_ct_0, ax_ct_i, ax_ct_l, ax_ct_r, va_rf_s, Option.toList_some, Option.toList_none, List.cons_append, List.nil_append, and_true, true_and, and_self, ite_true, ite_false, if_true, if_false, Nat.reduceAdd, Nat.reduceLeDiff, Nat.reduceMul, Nat.reduceLT, nI_add, pk_mul, nI_lt', nI_le', nI_eq', nI_lt0, nI_ge0, nI_eq0, nI_gt0, nI_le0, nI_ne_m1, m1_ne_nI, m1_lt_nI, m1_le_nI, nI_lt_m1, nI_le_m1, nI_clamp, ax_in_nI, nI_shl, nI_shr, lg_cmp0, nx_and, nI_eq1, bI_0, bI_1, bf_or, eq_self, or_true, true_or, lt_T, le_T, lt_F, le_F, eq_F, eq_T, kdC_0, kdC_1, kdC_2, kdC_3, kdC_4, kdC_5, kdC_6, kdC_7, kdC_8, kdC_9, kdC_10, kdC_11, kdC_12, kdC_13, kdC_14, kdC_15, kdC_16, kdU_1, kdU_2, kdU_3, kdU_4, kdU_5, kdU_6, kdU_7, kdU_, kdR_1, kdR_2, kdR_3, kdR_4, kdR_5, kdR_, rC_00, rC_01, rC_02, rC_03, rC_04, rC_10, rC_16, rC_18, rC_19, rC_1a, rC_20, rC_22, rC_23, rC_24, rC_25, rC_26, rC_27, rC_28, rC_4, rC_10k, rC_u3, rC_u5, rC_u7, rC_u9, rC_ua, rC_ub, rC_uc, rC_r4, rC_r5, rC_r6, rC_r7, rC_r8, Nat.add_zero, hr2, up_at, up_I2, e9]
    have f3 : frD h (ax_upI h2 15 c (oI (lsU us w c))) := f1.tr ⟨rfl, fun a k q => by rw [up_I, if_neg (by omega)], fun _ _ _ => rfl⟩
    have hd3 : hdC (ax_upI h2 15 c (oI (lsU us w c))) us w (c + 1) := fun b hb => by
      refine ⟨hs1 b (by omega), ?_⟩
      rw [up_I]
      by_cases e : b = c
      · rw [if_pos ⟨rfl, e⟩, e]
      · rw [if_neg (by omega)]; exact hd1 b (by omega)
    by_cases e2 : lsU us w c = some c
    · rw [if_pos e2] at hQ
      rw [if_pos e2]
      simp (disch := omega) only [sG_cutSlices_52, sG_cutSlices_55, sG_cutSlices_58, ax_clr_i, ax_clr_l, ax_clr_r, ax_clr_n, ax_ct_0, ax_ct_i, ax_ct_l, ax_ct_r, va_rf_s, Option.toList_some, Option.toList_none, List.cons_append, List.nil_append, and_true, true_and, and_self, ite_true, ite_false, if_true, if_false, Nat.reduceAdd, Nat.reduceLeDiff, Nat.reduceMul, Nat.reduceLT, nI_add]
      exact mG_cutSlices_l w hw m (c + 1) (n + 1) _ (by omega) (hc.d f3) hd3 (fun h' f => hQ h' (f3.tr f))
    · rw [if_neg e2] at hQ
      rw [if_neg e2]
      simp (disch := omega) only [sG_cutSlices_55, sG_cutSlices_58, ax_clr_i, ax_clr_l, ax_clr_r, ax_clr_n, ax_ct_0, ax_ct_i, ax_ct_l, ax_ct_r, va_rf_s, Option.toList_some, Option.toList_none, List.cons_append, List.nil_append, and_true, true_and, and_self, ite_true, ite_false, if_true, if_false, Nat.reduceAdd, Nat.reduceLeDiff, Nat.reduceMul, Nat.reduceLT, nI_add]
      exact mG_cutSlices_l w hw m (c + 1) n _ (by omega) (hc.d f3) hd3 (fun h' f => hQ h' (f3.tr f))
theorem mG_cutSlices_ {h : ax_H} (hc : usC o s x h us) (w : Nat) (hw : w < 100) (hQ : ∀ h', frD h h' → hdC h' us w us.length → Q (some (.int (nI (slC us w us.length 0 0)))) h') : ax_wp kC (d + 2) mG_cutSlices 0 [some (.ref 2), some (.int (nI w)), none, none] [] h Q := by
  simp only [sG_cutSlices_0, sG_cutSlices_1, sG_cutSlices_2, sG_cutSlices_3, ax_clr_i, ax_clr_l, ax_clr_r, ax_clr_n, ax_ct_0, ax_ct_i, ax_ct_l, ax_ct_r, va_rf_s, Option.toList_some, Option.toList_none, List.cons_append, List.nil_append, and_true, true_and, and_self, ite_true, ite_false, if_true, if_false, Nat.reduceAdd, Nat.reduceLeDiff, Nat.reduceMul, Nat.reduceLT]
  exact mG_cutSlices_l w hw us.length 0 0 h (by omega) hc (fun b hb => by omega) hQ
/-- the slices that a class leads to -/
def wC (us : List (List Nat)) (w c i k : Nat) : Bool := eS us w c (k % 12) i
theorem wC_step (us : List (List Nat)) (w c i : Nat) (hl : ∀ r, sTo us w c i = some r → r < 12) : rwB (wC us w c (i + 1)) 0 = match sTo us w c i with
    | none => rwB (wC us w c i) 0
    | some r => if lsU us w c = some r then rwB (wC us w c i) 0 else rwB (wC us w c i) 0 ||| 2 ^ r := by
  apply Nat.eq_of_testBit_eq
  intro j
  have wc : ∀ i, j < 12 → wC us w c i (12 * 0 + j) = eS us w c j i := fun i hj => by unfold wC; rw [show (12 * 0 + j) % 12 = j by omega]
  by_cases e : j < 12
  · rw [rwb_at _ _ e, wc _ e, eS_succ]
    unfold e1S
    cases q : sTo us w c i with
    | none => dsimp only; rw [rwb_at _ _ e, wc _ e]; simp
    | some r =>
      dsimp only
      by_cases e2 : lsU us w c = some r
      · rw [if_pos e2, rwb_at _ _ e, wc _ e, e2]
        by_cases e3 : r = j <;> simp [e3]
      · rw [if_neg e2, tb_or, rwb_at _ _ e, wc _ e]
        by_cases e3 : r = j
        · subst e3; simp [e2]
        · simp [e3]
  · rw [rwb_tb, decide_eq_false e, Bool.false_and]
    cases q : sTo us w c i with
    | none => dsimp only; rw [rwb_tb, decide_eq_false e, Bool.false_and]
    | some r =>
      have := hl r q
      dsimp only
      by_cases e2 : lsU us w c = some r
      · rw [if_pos e2, rwb_tb, decide_eq_false e, Bool.false_and]
      · rw [if_neg e2, tb_or, rwb_tb, decide_eq_false e, Bool.false_and, decide_eq_false (by omega)]; rfl
theorem wC_0 (us : List (List Nat)) (w c : Nat) : rwB (wC us w c 0) 0 = 0 := by
  apply Nat.eq_of_testBit_eq
  intro j
  rw [Nat.zero_testBit, rwb_tb]
  have : wC us w c 0 (12 * 0 + j) = false := by unfold wC eS; simp
  rw [this, Bool.and_false]
theorem mG_slicesNamedIn_l {h : ax_H} (hc : usC o s x h us) (w : Nat) (hd : hdC h us w us.length) (c : Nat) (hcl : c < us.length) : ∀ (m i : Nat) (x4 : Option Value), i + m = (ocU (uAt us c)).length → ax_wp kC (d + 1) mG_slicesNamedIn 4 [some (.ref 2), some (.int (nI c)), some (.int (nI (rwB (wC us w c i) 0))), some (.int (nI i)), x4] [] h Q = Q (some (.int (nI (rwB (wC us w c (ocU (uAt us c)).length) 0)))) h
  | 0, i, x4, hm => by
    have e : i = (ocU (uAt us c)).length := by omega
    subst e
    have h12 := hc.2.2.1
    have hr := hc.1
    have ho := hc.2.2.2.2.1 c (by omega)
    have l := (ocU_v (hc.2.2.2.1 c hcl).2).2
    have h8 := (hc.2.2.2.1 c hcl).1.2.2.2.2.2.1
    rw [sG_slicesNamedIn_4]
    simp (disch := omega) only [sG_slicesNamedIn_5, sG_slicesNamedIn_6, sG_slicesNamedIn_9, sG_slicesNamedIn_10, sG_slicesNamedIn_11, sG_slicesNamedIn_14, sG_slicesNamedIn_74, sG_slicesNamedIn_75, ax_clr_i, ax_clr_l, ax_clr_r, ax_clr_n, ax_ct_0, ax_ct_i, ax_ct_l, ax_ct_r, va_rf_s, Option.toList_some, Option.toList_none, List.cons_append, List.nil_append, and_true, true_and, and_self, ite_true, ite_false, if_true, if_false, Nat.reduceAdd, Nat.reduceLeDiff, Nat.reduceMul, Nat.reduceLT, nI_add, pk_mul, nI_lt', nI_le', nI_eq', nI_lt0, nI_ge0, nI_eq0, nI_gt0, nI_le0, nI_ne_m1, m1_ne_nI, m1_lt_nI, m1_le_nI, nI_lt_m1, nI_le_m1, nI_clamp, ax_in_nI, nI_shl, nI_shr, lg_cmp0, nx_and, nI_eq1, bI_0, bI_1, bf_or, eq_self, or_true, true_or, lt_T, le_T, lt_F, le_F, eq_F, eq_T, kdC_0, kdC_1, kdC_2, kdC_3, kdC_4, kdC_5, kdC_6, kdC_7, kdC_8, kdC_9, kdC_10, kdC_11, kdC_12, kdC_13, kdC_14, kdC_15, kdC_16, kdU_1, kdU_2, kdU_3, kdU_4, kdU_5, kdU_6, kdU_7, kdU_, kdR_1, kdR_2, kdR_3, kdR_4, kdR_5, kdR_, rC_00, rC_01, rC_02, rC_03, rC_04, rC_10, rC_16, rC_18, rC_19, rC_1a, rC_20, rC_22, rC_23, rC_24, rC_25, rC_26, rC_27, rC_28, rC_4, rC_10k, rC_u3, rC_u5, rC_u7, rC_u9, rC_ua, rC_ub, rC_uc, rC_r4, rC_r5, rC_r6, rC_r7, rC_r8, Nat.add_zero, hr, h8]
  | m + 1, i, x4, hm => by
    have h12 := hc.2.2.1
    have hr := hc.1
    have ho := hc.2.2.2.2.1 c (by omega)
    have l := (ocU_v (hc.2.2.2.1 c hcl).2).2
    have h8 := (hc.2.2.2.1 c hcl).1.2.2.2.2.2.1
    obtain ⟨w1, w2, w3, w4, w5, w6⟩ := hc.occ hcl (show i < (ocU (uAt us c)).length by omega)
    have lw := rwb_lt (wC us w c i) 0
    have slt : ∀ r, sTo us w c i = some r → r < 12 := fun r q => by
      unfold sTo at q
      cases e : ixOf us (oOf us c i).2.2.1 with
      | none => rw [e] at q; cases q
      | some c1 => rw [e] at q; have := (lsU_some q).1; have := (ixOf_some e).1; omega
    have st := wC_step us w c i slt
    have ih := fun x4 => mG_slicesNamedIn_l hc w hd c hcl m (i + 1) x4 (by omega)
    rw [sG_slicesNamedIn_4]
    simp (disch := omega) only [sG_slicesNamedIn_5, sG_slicesNamedIn_6, sG_slicesNamedIn_9, sG_slicesNamedIn_10, sG_slicesNamedIn_11, sG_slicesNamedIn_14, sG_slicesNamedIn_17, sG_slicesNamedIn_18, sG_slicesNamedIn_19, sG_slicesNamedIn_22, sG_slicesNamedIn_23, sG_slicesNamedIn_24, sG_slicesNamedIn_27, sG_slicesNamedIn_28, sG_slicesNamedIn_29, sG_slicesNamedIn_32, sG_slicesNamedIn_34, sG_slicesNamedIn_36, ax_clr_i, ax_clr_l, ax_clr_r, ax_clr_n, ax_ct_0, ax_ct_i, ax_ct_l, ax_ct_r, va_rf_s, Option.toList_some, Option.toList_none, List.cons_append, List.nil_append, and_true, true_and, and_self, ite_true, ite_false, if_true, if_false, Nat.reduceAdd, Nat.reduceLeDiff, Nat.reduceMul, Nat.reduceLT, nI_add, pk_mul, nI_lt', nI_le', nI_eq', nI_lt0, nI_ge0, nI_eq0, nI_gt0, nI_le0, nI_ne_m1, m1_ne_nI, m1_lt_nI, m1_le_nI, nI_lt_m1, nI_le_m1, nI_clamp, ax_in_nI, nI_shl, nI_shr, lg_cmp0, nx_and, nI_eq1, bI_0, bI_1, bf_or, eq_self, or_true, true_or, lt_T, le_T, lt_F, le_F, eq_F, eq_T, kdC_0, kdC_1, kdC_2, kdC_3, kdC_4, kdC_5, kdC_6, kdC_7, kdC_8, kdC_9, kdC_10, kdC_11, kdC_12, kdC_13, kdC_14, kdC_15, kdC_16, kdU_1, kdU_2, kdU_3, kdU_4, kdU_5, kdU_6, kdU_7, kdU_, kdR_1, kdR_2, kdR_3, kdR_4, kdR_5, kdR_, rC_00, rC_01, rC_02, rC_03, rC_04, rC_10, rC_16, rC_18, rC_19, rC_1a, rC_20, rC_22, rC_23, rC_24, rC_25, rC_26, rC_27, rC_28, rC_4, rC_10k, rC_u3, rC_u5, rC_u7, rC_u9, rC_ua, rC_ub, rC_uc, rC_r4, rC_r5, rC_r6, rC_r7, rC_r8, Nat.add_zero, hr, h8, w3, mG_numberOf_ hc _ w5.2.1]
    have nx : ∀ (y : Nat) (x4 : Option Value), y = rwB (wC us w c (i + 1)) 0 → ax_wp kC (d + 1) mG_slicesNamedIn 68 [some (.ref 2), some (.int (nI c)), some (.int (nI y)), some (.int (nI i)), x4] [] h Q = Q (some (.int (nI (rwB (wC us w c (ocU (uAt us c)).length) 0)))) h := fun y x4 hy => by
      simp (disch := omega) only [sG_slicesNamedIn_68, sG_slicesNamedIn_71, ax_clr_i, ax_clr_l, ax_clr_r, ax_clr_n, ax_ct_0, ax_ct_i, ax_ct_l, ax_ct_r, va_rf_s, Option.toList_some, Option.toList_none, List.cons_append, List.nil_append, and_true, true_and, and_self, ite_true, ite_false, if_true, if_false, Nat.reduceAdd, Nat.reduceLeDiff, Nat.reduceMul, Nat.reduceLT, nI_add]
      rw [hy]
      exact ih x4
    unfold sTo at st
    cases e : ixOf us (oOf us c i).2.2.1 with
    | none =>
      rw [e] at st
      simp (disch := omega) only [sG_slicesNamedIn_37, ax_clr_i, ax_clr_l, ax_clr_r, ax_clr_n, ax_ct_0, ax_ct_i, ax_ct_l, ax_ct_r, va_rf_s, Option.toList_some, Option.toList_none, List.cons_append, List.nil_append, and_true, true_and, and_self, ite_true, ite_false, if_true, if_false, Nat.reduceAdd, Nat.reduceLeDiff, Nat.reduceMul, Nat.reduceLT, nI_add, pk_mul, nI_lt', nI_le', nI_eq', nI_lt0, nI_ge0, nI_eq0, nI_gt0, nI_le0, nI_ne_m1, m1_ne_nI, m1_lt_nI, m1_le_nI, nI_lt_m1, nI_le_m1, nI_clamp, ax_in_nI, nI_shl, nI_shr, lg_cmp0, nx_and, nI_eq1, bI_0, bI_1, bf_or, eq_self, or_true, true_or, oI_n]
      exact nx _ _ st.symm
    | some c1 =>
      rw [e] at st
      dsimp only at st
      have l1 := (ixOf_some e).1
      have d1 := (hd c1 l1).2
      have d2 := (hd c hcl).2
      have ll : ∀ c, c < us.length → ∀ r, lsU us w c = some r → r < 1000 := fun c hc r q => by have := (lsU_some q).1; omega
      have l31 : ∀ r, lsU us w c1 = some r → r < 31 := fun r q => by have := (lsU_some q).1; omega
      have e9 : (oI (lsU us w c1) = oI (lsU us w c)) = (lsU us w c1 = lsU us w c) := oI_eq (ll c1 l1) (ll c hcl)
      simp (disch := omega) only [sG_slicesNamedIn_37, sG_slicesNamedIn_40, sG_slicesNamedIn_41, sG_slicesNamedIn_44, sG_slicesNamedIn_46, sG_slicesNamedIn_47, sG_slicesNamedIn_48, sG_slicesNamedIn_51, sG_slicesNamedIn_52, sG_slicesNamedIn_53, ax_clr_i, ax_clr_l, ax_clr_r, ax_clr_n, ax_ct_0, ax_ct_i, ax_ct_l, ax_ct_r, va_rf_s, Option.toList_some, Option.toList_none, List.cons_append, List.nil_append, and_true, true_and, and_self, ite_true, ite_false, if_true, if_false, Nat.reduceAdd, Nat.reduceLeDiff, Nat.reduceMul, Nat.reduceLT, nI_add, pk_mul, nI_lt', nI_le', nI_eq', nI_lt0, nI_ge0, nI_eq0, nI_gt0, nI_le0, nI_ne_m1, m1_ne_nI, m1_lt_nI, m1_le_nI, nI_lt_m1, nI_le_m1, nI_clamp, ax_in_nI, nI_shl, nI_shr, lg_cmp0, nx_and, nI_eq1, bI_0, bI_1, bf_or, eq_self, or_true, true_or, lt_T, le_T, lt_F, le_F, eq_F, eq_T, kdC_0, kdC_1, kdC_2, kdC_3, kdC_4, kdC_5, kdC_6, kdC_7, kdC_8, kdC_9, kdC_10, kdC_11, kdC_12, kdC_13, kdC_14, kdC_15, kdC_16, kdU_1, kdU_2, kdU_3, kdU_4, kdU_5, kdU_6, kdU_7, kdU_, kdR_1, kdR_2, kdR_3, kdR_4, kdR_5, kdR_, rC_00, rC_01, rC_02, rC_03, rC_04, rC_10, rC_16, rC_18, rC_19, rC_1a, rC_20, rC_22, rC_23, rC_24, rC_25, rC_26, rC_27, rC_28, rC_4, rC_10k, rC_u3, rC_u5, rC_u7, rC_u9, rC_ua, rC_ub, rC_uc, rC_r4, rC_r5, rC_r6, rC_r7, rC_r8, Nat.add_zero, oI_s, hr, d1, d2, e9]
      by_cases e2 : lsU us w c1 = lsU us w c
      · rw [if_pos e2]
        refine nx _ _ ?_
        rw [st, e2]
        cases q : lsU us w c with
        | none => rfl
        | some r => dsimp only; rw [if_pos rfl]
      · rw [if_neg e2]
        simp (disch := omega) only [sG_slicesNamedIn_56, sG_slicesNamedIn_57, sG_slicesNamedIn_58, sG_slicesNamedIn_61, sG_slicesNamedIn_63, sG_slicesNamedIn_64, sG_slicesNamedIn_67, ax_clr_i, ax_clr_l, ax_clr_r, ax_clr_n, ax_ct_0, ax_ct_i, ax_ct_l, ax_ct_r, va_rf_s, Option.toList_some, Option.toList_none, List.cons_append, List.nil_append, and_true, true_and, and_self, ite_true, ite_false, if_true, if_false, Nat.reduceAdd, Nat.reduceLeDiff, Nat.reduceMul, Nat.reduceLT, nI_add, pk_mul, nI_lt', nI_le', nI_eq', nI_lt0, nI_ge0, nI_eq0, nI_gt0, nI_le0, nI_ne_m1, m1_ne_nI, m1_lt_nI, m1_le_nI, nI_lt_m1, nI_le_m1, nI_clamp, ax_in_nI, nI_shl, nI_shr, lg_cmp0, nx_and, nI_eq1, bI_0, bI_1, bf_or, eq_self, or_true, true_or, lt_T, le_T, lt_F, le_F, eq_F, eq_T, kdC_0, kdC_1, kdC_2, kdC_3, kdC_4, kdC_5, kdC_6, kdC_7, kdC_8, kdC_9, kdC_10, kdC_11, kdC_12, kdC_13, kdC_14, kdC_15, kdC_16, kdU_1, kdU_2, kdU_3, kdU_4, kdU_5, kdU_6, kdU_7, kdU_, kdR_1, kdR_2, kdR_3, kdR_4, kdR_5, kdR_, rC_00, rC_01, rC_02, rC_03, rC_04, rC_10, rC_16, rC_18, rC_19, rC_1a, rC_20, rC_22, rC_23, rC_24, rC_25, rC_26, rC_27, rC_28, rC_4, rC_10k, rC_u3, rC_u5, rC_u7, rC_u9, rC_ua, rC_ub, rC_uc, rC_r4, rC_r5, rC_r6, rC_r7, rC_r8, Nat.add_zero, hr, d1, mG_with_ _ _ (show rwB (wC us w c i) 0 < 2 ^ 31 by omega) l31]
        refine nx _ _ ?_
        rw [st]
        cases q : lsU us w c1 with
        | none => rfl
        | some r => dsimp only; rw [if_neg (fun q2 => e2 (q.trans q2.symm))]; rfl
theorem mG_slicesNamedIn_ {h : ax_H} (hc : usC o s x h us) (w : Nat) (hd : hdC h us w us.length) (c : Nat) (hcl : c < us.length) : ax_wp kC (d + 1) mG_slicesNamedIn 0 [some (.ref 2), some (.int (nI c)), none, none, none] [] h Q = Q (some (.int (nI (rwB (wC us w c (ocU (uAt us c)).length) 0)))) h := by
  simp only [sG_slicesNamedIn_0, sG_slicesNamedIn_1, sG_slicesNamedIn_2, sG_slicesNamedIn_3, ax_clr_i, ax_clr_l, ax_clr_r, ax_clr_n, ax_ct_0, ax_ct_i, ax_ct_l, ax_ct_r, va_rf_s, Option.toList_some, Option.toList_none, List.cons_append, List.nil_append, and_true, true_and, and_self, ite_true, ite_false, if_true, if_false, Nat.reduceAdd, Nat.reduceLeDiff, Nat.reduceMul, Nat.reduceLT]
  have := mG_slicesNamedIn_l (d := d) (Q := Q) hc w hd c hcl (ocU (uAt us c)).length 0 none (by omega)
  rw [wC_0] at this
  exact this
theorem wS_row (us : List (List Nat)) (w k a : Nat) : rwB (wS us w (k + 1)) a = if lsU us w k = some a then rwB (wS us w k) a ||| rwB (wC us w k (ocU (uAt us k)).length) 0 else rwB (wS us w k) a := by
  apply Nat.eq_of_testBit_eq
  intro j
  by_cases e : j < 12
  · rw [rwb_at _ _ e, wS_succ, show (12 * a + j) / 12 = a by omega, show (12 * a + j) % 12 = j by omega]
    by_cases e2 : lsU us w k = some a
    · rw [if_pos e2, Nat.testBit_or, rwb_at _ _ e, rwb_at _ _ e, decide_eq_true e2, Bool.true_and]
      unfold wC
      rw [show (12 * 0 + j) % 12 = j by omega]
    · rw [if_neg e2, rwb_at _ _ e, decide_eq_false e2, Bool.false_and, Bool.or_false]
  · rw [rwb_tb, decide_eq_false e, Bool.false_and]
    split
    · rw [Nat.testBit_or, rwb_tb, rwb_tb, decide_eq_false e]; rfl
    · rw [rwb_tb, decide_eq_false e]; rfl
theorem wS_0 (us : List (List Nat)) (w a : Nat) : rwB (wS us w 0) a = 0 := by
  apply Nat.eq_of_testBit_eq
  intro j
  rw [Nat.zero_testBit, rwb_tb]
  have : wS us w 0 (12 * a + j) = false := by unfold wS; simp
  rw [this, Bool.and_false]
theorem wS_col (us : List (List Nat)) (w : Nat) : ∀ a j, us.length ≤ j → j < 12 → wS us w us.length (12 * a + j) = false := fun a j h1 h2 => by
  unfold wS
  rw [List.any_eq_false]
  intro c _ hk
  rw [Bool.and_eq_true, show (12 * a + j) % 12 = j by omega] at hk
  have k2 := hk.2
  unfold eS at k2
  rw [List.any_eq_true] at k2
  obtain ⟨i, _, k3⟩ := k2
  unfold e1S at k3
  rw [Bool.and_eq_true] at k3
  have k4 := of_decide_eq_true k3.1
  unfold sTo at k4
  cases e : ixOf us (oOf us c i).2.2.1 with
  | none => rw [e] at k4; cases k4
  | some c1 => rw [e] at k4; have := (lsU_some k4).1; have := (ixOf_some e).1; omega
theorem clN_row {w : Nat → Bool} {a : Nat} : ∀ (m j : Nat), m ≤ 12 → j < 12 → clN w m (12 * a + j) = true → ∃ j', j' < 12 ∧ w (12 * a + j') = true
  | 0, j, _, hj, h => ⟨j, hj, h⟩
  | m + 1, j, hm, hj, h => by
    rw [clN, clS_at _ _ _ hj, Bool.or_eq_true, Bool.and_eq_true] at h
    rcases h with h | h
    · exact clN_row m j (by omega) hj h
    · exact clN_row m m (by omega) (by omega) h.1
theorem wS_head {us : List (List Nat)} {w a : Nat} (h : clN (wS us w us.length) 12 (12 * a + a) = true) (ha : a < 12) : lsU us w a = some a := by
  obtain ⟨j, hj, k⟩ := clN_row 12 a (by omega) ha h
  unfold wS at k
  rw [List.any_eq_true] at k
  obtain ⟨c, _, k2⟩ := k
  rw [Bool.and_eq_true, show (12 * a + j) / 12 = a by omega] at k2
  exact lsU_head (of_decide_eq_true k2.1)
theorem mG_linkSlices_z (w : Nat) (y1 : Int32) : ∀ (m c : Nat) (h : ax_H), c + m = us.length → usC o s x h us → hdC h us w us.length → rowC h 16 (wS us w 0) c → (∀ h', frD h h' → hdC h' us w us.length → rowC h' 16 (wS us w 0) us.length → ax_wp kC (d + 3) mG_linkSlices 29 [some (.ref 2), some (.int y1), some (.int (nI us.length))] [] h' Q) → ax_wp kC (d + 3) mG_linkSlices 8 [some (.ref 2), some (.int y1), some (.int (nI c))] [] h Q
  | 0, c, h, hm, hc, hd, hw, hQ => by
    have e : c = us.length := by omega
    subst e
    have h12 := hc.2.2.1
    have h1 := hc.2.1
    rw [sG_linkSlices_8]
    simp (disch := omega) only [sG_linkSlices_9, sG_linkSlices_10, sG_linkSlices_13, ax_clr_i, ax_clr_l, ax_clr_r, ax_clr_n, ax_ct_0, ax_ct_i, ax_ct_l, ax_ct_r, va_rf_s, Option.toList_some, Option.toList_none, List.cons_append, List.nil_append, and_true, true_and, and_self, ite_true, ite_false, if_true, if_false, Nat.reduceAdd, Nat.reduceLeDiff, Nat.reduceMul, Nat.reduceLT, nI_add, pk_mul, nI_lt', nI_le', nI_eq', nI_lt0, nI_ge0, nI_eq0, nI_gt0, nI_le0, nI_ne_m1, m1_ne_nI, m1_lt_nI, m1_le_nI, nI_lt_m1, nI_le_m1, nI_clamp, ax_in_nI, nI_shl, nI_shr, lg_cmp0, nx_and, nI_eq1, bI_0, bI_1, bf_or, eq_self, or_true, true_or, lt_T, le_T, lt_F, le_F, eq_F, eq_T, kdC_0, kdC_1, kdC_2, kdC_3, kdC_4, kdC_5, kdC_6, kdC_7, kdC_8, kdC_9, kdC_10, kdC_11, kdC_12, kdC_13, kdC_14, kdC_15, kdC_16, kdU_1, kdU_2, kdU_3, kdU_4, kdU_5, kdU_6, kdU_7, kdU_, kdR_1, kdR_2, kdR_3, kdR_4, kdR_5, kdR_, rC_00, rC_01, rC_02, rC_03, rC_04, rC_10, rC_16, rC_18, rC_19, rC_1a, rC_20, rC_22, rC_23, rC_24, rC_25, rC_26, rC_27, rC_28, rC_4, rC_10k, rC_u3, rC_u5, rC_u7, rC_u9, rC_ua, rC_ub, rC_uc, rC_r4, rC_r5, rC_r6, rC_r7, rC_r8, Nat.add_zero, h1]
    exact hQ h frD.rf hd hw
  | m + 1, c, h, hm, hc, hd, hw, hQ => by
    have h12 := hc.2.2.1
    have h1 := hc.2.1
    have hr := hc.1
    rw [sG_linkSlices_8]
    simp (disch := omega) only [sG_linkSlices_9, sG_linkSlices_10, sG_linkSlices_13, sG_linkSlices_16, sG_linkSlices_17, sG_linkSlices_20, sG_linkSlices_21, sG_linkSlices_22, sG_linkSlices_23, sG_linkSlices_26, ax_clr_i, ax_clr_l, ax_clr_r, ax_clr_n, ax_ct_0, ax_ct_i, ax_ct_l, ax_ct_r, va_rf_s, Option.toList_some, Option.toList_none, List.cons_append, List.nil_append, and_true, true_and, and_self, ite_true, ite_false, if_true, if_false, Nat.reduceAdd, Nat.reduceLeDiff, Nat.reduceMul, Nat.reduceLT, nI_add, pk_mul, nI_lt', nI_le', nI_eq', nI_lt0, nI_ge0, nI_eq0, nI_gt0, nI_le0, nI_ne_m1, m1_ne_nI, m1_lt_nI, m1_le_nI, nI_lt_m1, nI_le_m1, nI_clamp, ax_in_nI, nI_shl, nI_shr, lg_cmp0, nx_and, nI_eq1, bI_0, bI_1, bf_or, eq_self, or_true, true_or, lt_T, le_T, lt_F, le_F, eq_F, eq_T, kdC_0, kdC_1, kdC_2, kdC_3, kdC_4, kdC_5, kdC_6, kdC_7, kdC_8, kdC_9, kdC_10, kdC_11, kdC_12, kdC_13, kdC_14, kdC_15, kdC_16, kdU_1, kdU_2, kdU_3, kdU_4, kdU_5, kdU_6, kdU_7, kdU_, kdR_1, kdR_2, kdR_3, kdR_4, kdR_5, kdR_, rC_00, rC_01, rC_02, rC_03, rC_04, rC_10, rC_16, rC_18, rC_19, rC_1a, rC_20, rC_22, rC_23, rC_24, rC_25, rC_26, rC_27, rC_28, rC_4, rC_10k, rC_u3, rC_u5, rC_u7, rC_u9, rC_ua, rC_ub, rC_uc, rC_r4, rC_r5, rC_r6, rC_r7, rC_r8, Nat.add_zero, hr, h1]
    have f1 : frD h (ax_upI h 16 c (nI 0)) := ⟨rfl, fun a k q => by rw [up_I, if_neg (by omega)], fun _ _ _ => rfl⟩
    refine mG_linkSlices_z w y1 m (c + 1) _ (by omega) (hc.d f1) (fun b hb => ⟨(hd b hb).1, by rw [up_I, if_neg (by omega)]; exact (hd b hb).2⟩) (fun a ha => ?_) (fun h' f => hQ h' (f1.tr f))
    rw [up_I]
    by_cases e : a = c
    · rw [if_pos ⟨rfl, e⟩, wS_0]
    · rw [if_neg (by omega)]; exact hw a (by omega)
theorem mG_linkSlices_l (w : Nat) (y1 : Int32) : ∀ (m c : Nat) (h : ax_H), c + m = us.length → usC o s x h us → hdC h us w us.length → rowC h 16 (wS us w c) us.length → (∀ h', frD h h' → hdC h' us w us.length → rowC h' 16 (wS us w us.length) us.length → ax_wp kC (d + 3) mG_linkSlices 74 [some (.ref 2), some (.int y1), some (.int (nI us.length))] [] h' Q) → ax_wp kC (d + 3) mG_linkSlices 31 [some (.ref 2), some (.int y1), some (.int (nI c))] [] h Q
  | 0, c, h, hm, hc, hd, hw, hQ => by
    have e : c = us.length := by omega
    subst e
    have h12 := hc.2.2.1
    have h1 := hc.2.1
    rw [sG_linkSlices_31]
    simp (disch := omega) only [sG_linkSlices_32, sG_linkSlices_33, sG_linkSlices_36, ax_clr_i, ax_clr_l, ax_clr_r, ax_clr_n, ax_ct_0, ax_ct_i, ax_ct_l, ax_ct_r, va_rf_s, Option.toList_some, Option.toList_none, List.cons_append, List.nil_append, and_true, true_and, and_self, ite_true, ite_false, if_true, if_false, Nat.reduceAdd, Nat.reduceLeDiff, Nat.reduceMul, Nat.reduceLT, nI_add, pk_mul, nI_lt', nI_le', nI_eq', nI_lt0, nI_ge0, nI_eq0, nI_gt0, nI_le0, nI_ne_m1, m1_ne_nI, m1_lt_nI, m1_le_nI, nI_lt_m1, nI_le_m1, nI_clamp, ax_in_nI, nI_shl, nI_shr, lg_cmp0, nx_and, nI_eq1, bI_0, bI_1, bf_or, eq_self, or_true, true_or, lt_T, le_T, lt_F, le_F, eq_F, eq_T, kdC_0, kdC_1, kdC_2, kdC_3, kdC_4, kdC_5, kdC_6, kdC_7, kdC_8, kdC_9, kdC_10, kdC_11, kdC_12, kdC_13, kdC_14, kdC_15, kdC_16, kdU_1, kdU_2, kdU_3, kdU_4, kdU_5, kdU_6, kdU_7, kdU_, kdR_1, kdR_2, kdR_3, kdR_4, kdR_5, kdR_, rC_00, rC_01, rC_02, rC_03, rC_04, rC_10, rC_16, rC_18, rC_19, rC_1a, rC_20, rC_22, rC_23, rC_24, rC_25, rC_26, rC_27, rC_28, rC_4, rC_10k, rC_u3, rC_u5, rC_u7, rC_u9, rC_ua, rC_ub, rC_uc, rC_r4, rC_r5, rC_r6, rC_r7, rC_r8, Nat.add_zero, h1]
    exact hQ h frD.rf hd hw
  | m + 1, c, h, hm, hc, hd, hw, hQ => by
    have h12 := hc.2.2.1
    have h1 := hc.2.1
    have hr := hc.1
    have hcl : c < us.length := by omega
    have d1 := (hd c hcl).2
    rw [sG_linkSlices_31]
    simp (disch := omega) only [sG_linkSlices_32, sG_linkSlices_33, sG_linkSlices_36, sG_linkSlices_39, sG_linkSlices_40, sG_linkSlices_43, sG_linkSlices_44, sG_linkSlices_45, ax_clr_i, ax_clr_l, ax_clr_r, ax_clr_n, ax_ct_0, ax_ct_i, ax_ct_l, ax_ct_r, va_rf_s, Option.toList_some, Option.toList_none, List.cons_append, List.nil_append, and_true, true_and, and_self, ite_true, ite_false, if_true, if_false, Nat.reduceAdd, Nat.reduceLeDiff, Nat.reduceMul, Nat.reduceLT, nI_add, pk_mul, nI_lt', nI_le', nI_eq', nI_lt0, nI_ge0, nI_eq0, nI_gt0, nI_le0, nI_ne_m1, m1_ne_nI, m1_lt_nI, m1_le_nI, nI_lt_m1, nI_le_m1, nI_clamp, ax_in_nI, nI_shl, nI_shr, lg_cmp0, nx_and, nI_eq1, bI_0, bI_1, bf_or, eq_self, or_true, true_or, lt_T, le_T, lt_F, le_F, eq_F, eq_T, kdC_0, kdC_1, kdC_2, kdC_3, kdC_4, kdC_5, kdC_6, kdC_7, kdC_8, kdC_9, kdC_10, kdC_11, kdC_12, kdC_13, kdC_14, kdC_15, kdC_16, kdU_1, kdU_2, kdU_3, kdU_4, kdU_5, kdU_6, kdU_7, kdU_, kdR_1, kdR_2, kdR_3, kdR_4, kdR_5, kdR_, rC_00, rC_01, rC_02, rC_03, rC_04, rC_10, rC_16, rC_18, rC_19, rC_1a, rC_20, rC_22, rC_23, rC_24, rC_25, rC_26, rC_27, rC_28, rC_4, rC_10k, rC_u3, rC_u5, rC_u7, rC_u9, rC_ua, rC_ub, rC_uc, rC_r4, rC_r5, rC_r6, rC_r7, rC_r8, Nat.add_zero, hr, h1, d1]
    cases e : lsU us w c with
    | none =>
      simp (disch := omega) only [sG_linkSlices_46, sG_linkSlices_68, sG_linkSlices_71, ax_clr_i, ax_clr_l, ax_clr_r, ax_clr_n, ax_ct_0, ax_ct_i, ax_ct_l, ax_ct_r, va_rf_s, Option.toList_some, Option.toList_none, List.cons_append, List.nil_append, and_true, true_and, and_self, ite_true, ite_false, if_true, if_false, Nat.reduceAdd, Nat.reduceLeDiff, Nat.reduceMul, Nat.reduceLT, nI_add, pk_mul, nI_lt', nI_le', nI_eq', nI_lt0, nI_ge0, nI_eq0, nI_gt0, nI_le0, nI_ne_m1, m1_ne_nI, m1_lt_nI, m1_le_nI, nI_lt_m1, nI_le_m1, nI_clamp, ax_in_nI, nI_shl, nI_shr, lg_cmp0, nx_and, nI_eq1, bI_0, bI_1, bf_or, eq_self, or_true, true_or, oI_n]
      refine mG_linkSlices_l w y1 m (c + 1) h (by omega) hc hd (fun a ha => ?_) hQ
      rw [wS_row, if_neg (by rw [e]; simp)]; exact hw a ha
    | some r =>
      have lr := (lsU_some e).1
      have wr := hw r (by omega)
      have l1 := rwb_lt (wS us w c) r
      have l2 := rwb_lt (wC us w c (ocU (uAt us c)).length) 0
      rw [e] at d1
      simp (disch := omega) only [sG_linkSlices_46, sG_linkSlices_49, sG_linkSlices_50, sG_linkSlices_53, sG_linkSlices_54, sG_linkSlices_57, sG_linkSlices_58, sG_linkSlices_59, sG_linkSlices_60, sG_linkSlices_61, sG_linkSlices_62, sG_linkSlices_63, sG_linkSlices_66, sG_linkSlices_67, sG_linkSlices_68, sG_linkSlices_71, ax_clr_i, ax_clr_l, ax_clr_r, ax_clr_n, ax_ct_0, ax_ct_i, ax_ct_l, ax_ct_r, va_rf_s, Option.toList_some, Option.toList_none, List.cons_append, List.nil_append, and_true, true_and, and_self, ite_true, ite_false, if_true, if_false, Nat.reduceAdd, Nat.reduceLeDiff, Nat.reduceMul, Nat.reduceLT, nI_add, pk_mul, nI_lt', nI_le', nI_eq', nI_lt0, nI_ge0, nI_eq0, nI_gt0, nI_le0, nI_ne_m1, m1_ne_nI, m1_lt_nI, m1_le_nI, nI_lt_m1, nI_le_m1, nI_clamp, ax_in_nI, nI_shl, nI_shr, lg_cmp0, nx_and, nI_eq1, bI_0, bI_1, bf_or, eq_self, or_true, true_or, lt_T, le_T, lt_F, le_F, eq_F, eq_T, kdC_0, kdC_1, kdC_2, kdC_3, kdC_4, kdC_5, kdC_6, kdC_7, kdC_8, kdC_9, kdC_10, kdC_11, kdC_12, kdC_13, kdC_14, kdC_15, kdC_16, kdU_1, kdU_2, kdU_3, kdU_4, kdU_5, kdU_6, kdU_7, kdU_, kdR_1, kdR_2, kdR_3, kdR_4, kdR_5, kdR_, rC_00, rC_01, rC_02, rC_03, rC_04, rC_10, rC_16, rC_18, rC_19, rC_1a, rC_20, rC_22, rC_23, rC_24, rC_25, rC_26, rC_27, rC_28, rC_4, rC_10k, rC_u3, rC_u5, rC_u7, rC_u9, rC_ua, rC_ub, rC_uc, rC_r4, rC_r5, rC_r6, rC_r7, rC_r8, Nat.add_zero, oI_s, hr, d1, wr, mG_slicesNamedIn_ hc w hd c hcl, nI_or]
      have f1 : frD h (ax_upI h 16 r (nI (rwB (wS us w c) r ||| rwB (wC us w c (ocU (uAt us c)).length) 0))) := ⟨rfl, fun a k q => by rw [up_I, if_neg (by omega)], fun _ _ _ => rfl⟩
      refine mG_linkSlices_l w y1 m (c + 1) _ (by omega) (hc.d f1) (fun b hb => ⟨(hd b hb).1, by rw [up_I, if_neg (by omega)]; exact (hd b hb).2⟩) (fun a ha => ?_) (fun h' f => hQ h' (f1.tr f))
      rw [up_I, wS_row]
      by_cases e2 : a = r
      · rw [if_pos ⟨rfl, e2⟩, e2, if_pos e]
      · rw [if_neg (by omega), if_neg (by rw [e]; intro q; cases q; exact e2 rfl)]; exact hw a ha
theorem mG_linkSlices_ {h : ax_H} (hc : usC o s x h us) (w : Nat) (hw : w < 100) (hQ : ∀ h', frD h h' → hdC h' us w us.length → rowC h' 16 (clN (wS us w us.length) 12) us.length → Q none h') : ax_wp kC (d + 3) mG_linkSlices 0 [some (.ref 2), some (.int (nI w)), none] [] h Q := by
  have h12 := hc.2.2.1
  simp (disch := omega) only [sG_linkSlices_0, sG_linkSlices_1, sG_linkSlices_2, ax_clr_i, ax_clr_l, ax_clr_r, ax_clr_n, ax_ct_0, ax_ct_i, ax_ct_l, ax_ct_r, va_rf_s, Option.toList_some, Option.toList_none, List.cons_append, List.nil_append, and_true, true_and, and_self, ite_true, ite_false, if_true, if_false, Nat.reduceAdd, Nat.reduceLeDiff, Nat.reduceMul, Nat.reduceLT, kdC_0, kdC_1, kdC_2, kdC_3, kdC_4, kdC_5, kdC_6, kdC_7, kdC_8, kdC_9, kdC_10, kdC_11, kdC_12, kdC_13, kdC_14, kdC_15, kdC_16, kdU_1, kdU_2, kdU_3, kdU_4, kdU_5, kdU_6, kdU_7, kdU_, kdR_1, kdR_2, kdR_3, kdR_4, kdR_5, kdR_, rC_00, rC_01, rC_02, rC_03, rC_04, rC_10, rC_16, rC_18, rC_19, rC_1a, rC_20, rC_22, rC_23, rC_24, rC_25, rC_26, rC_27, rC_28, rC_4, rC_10k, rC_u3, rC_u5, rC_u7, rC_u9, rC_ua, rC_ub, rC_uc, rC_r4, rC_r5, rC_r6, rC_r7, rC_r8, Nat.add_zero]
  refine mG_cutSlices_ hc w hw (fun h1 f1 d1 => ?_)
  simp (disch := omega) only [sG_linkSlices_5, sG_linkSlices_5r, sG_linkSlices_6, sG_linkSlices_7, ax_clr_i, ax_clr_l, ax_clr_r, ax_clr_n, ax_ct_0, ax_ct_i, ax_ct_l, ax_ct_r, va_rf_s, Option.toList_some, Option.toList_none, List.cons_append, List.nil_append, and_true, true_and, and_self, ite_true, ite_false, if_true, if_false, Nat.reduceAdd, Nat.reduceLeDiff, Nat.reduceMul, Nat.reduceLT]
  refine mG_linkSlices_z w (nI w) us.length 0 h1 (by omega) (hc.d f1) d1 (fun a ha => by omega) (fun h2 f2 d2 w2 => ?_)
  simp (disch := omega) only [sG_linkSlices_29, sG_linkSlices_30, ax_clr_i, ax_clr_l, ax_clr_r, ax_clr_n, ax_ct_0, ax_ct_i, ax_ct_l, ax_ct_r, va_rf_s, Option.toList_some, Option.toList_none, List.cons_append, List.nil_append, and_true, true_and, and_self, ite_true, ite_false, if_true, if_false, Nat.reduceAdd, Nat.reduceLeDiff, Nat.reduceMul, Nat.reduceLT]
  refine mG_linkSlices_l w (nI w) us.length 0 h2 (by omega) ((hc.d f1).d f2) d2 w2 (fun h3 f3 d3 w3 => ?_)
  have hc3 := ((hc.d f1).d f2).d f3
  have hr3 := hc3.1
  simp (disch := omega) only [sG_linkSlices_74, sG_linkSlices_75, sG_linkSlices_76, sG_linkSlices_79, ax_clr_i, ax_clr_l, ax_clr_r, ax_clr_n, ax_ct_0, ax_ct_i, ax_ct_l, ax_ct_r, va_rf_s, Option.toList_some, Option.toList_none, List.cons_append, List.nil_append, and_true, true_and, and_self, ite_true, ite_false, if_true, if_false, Nat.reduceAdd, Nat.reduceLeDiff, Nat.reduceMul, Nat.reduceLT, kdC_0, kdC_1, kdC_2, kdC_3, kdC_4, kdC_5, kdC_6, kdC_7, kdC_8, kdC_9, kdC_10, kdC_11, kdC_12, kdC_13, kdC_14, kdC_15, kdC_16, kdU_1, kdU_2, kdU_3, kdU_4, kdU_5, kdU_6, kdU_7, kdU_, kdR_1, kdR_2, kdR_3, kdR_4, kdR_5, kdR_, rC_00, rC_01, rC_02, rC_03, rC_04, rC_10, rC_16, rC_18, rC_19, rC_1a, rC_20, rC_22, rC_23, rC_24, rC_25, rC_26, rC_27, rC_28, rC_4, rC_10k, rC_u3, rC_u5, rC_u7, rC_u9, rC_ua, rC_ub, rC_uc, rC_r4, rC_r5, rC_r6, rC_r7, rC_r8, Nat.add_zero, hr3]
  refine mG_follow_ 16 us.length kdC_16 h12 (by omega) (wS us w us.length) hc3.2.1 w3 (fun h4 f4 w4 => ?_)
  simp (disch := omega) only [sG_linkSlices_82, ax_clr_i, ax_clr_l, ax_clr_r, ax_clr_n, ax_ct_0, ax_ct_i, ax_ct_l, ax_ct_r, va_rf_s, Option.toList_some, Option.toList_none, List.cons_append, List.nil_append, and_true, true_and, and_self, ite_true, ite_false, if_true, if_false, Nat.reduceAdd, Nat.reduceLeDiff, Nat.reduceMul, Nat.reduceLT]
  refine hQ h4 (((f1.tr f2).tr f3).tr f4.d) (fun b hb => ⟨by rw [f4.1]; exact (d3 b hb).1, by rw [f4.2 _ _ (by omega)]; exact (d3 b hb).2⟩) (fun a ha => ?_)
  rw [w4 a ha]
  congr 1
  exact rwb_ext (fun j hj => by
    have := clN_up (wS_col us w) (12 - us.length) (by omega) a j hj
    rw [show us.length + (12 - us.length) = 12 by omega] at this
    exact this.symm)
theorem mG_headsCycle_ {h : ax_H} (hc : usC o s x h us) (w : Nat) (hd : hdC h us w us.length) (hw : rowC h 16 (clN (wS us w us.length) 12) us.length) (c : Nat) (hcl : c < us.length) : ax_wp kC (d + 1) mG_headsCycle 0 [some (.ref 2), some (.int (nI c))] [] h Q = Q (some (.int (bI (clN (wS us w us.length) 12 (13 * c))))) h := by
  have h12 := hc.2.2.1
  have hr := hc.1
  have d1 := (hd c hcl).2
  have r1 := hw c hcl
  have l1 := rwb_lt (clN (wS us w us.length) 12) c
  have ll : ∀ r, lsU us w c = some r → r < 1000 := fun r q => by have := (lsU_some q).1; omega
  have e9 : (oI (lsU us w c) = nI c) = (lsU us w c = some c) := oI_eq (b := some c) ll (fun r q => by cases q; omega)
  rw [show 13 * c = 12 * c + c by omega]
  simp (disch := omega) only [sG_headsCycle_0, sG_headsCycle_1, sG_headsCycle_4, sG_headsCycle_5, sG_headsCycle_6, sG_headsCycle_7, ax_clr_i, ax_clr_l, ax_clr_r, ax_clr_n, ax_ct_0, ax_ct_i, ax_ct_l, ax_ct_r, va_rf_s, Option.toList_some, Option.toList_none, List.cons_append, List.nil_append, and_true, true_and, and_self, ite_true, ite_false, if_true, if_false, Nat.reduceAdd, Nat.reduceLeDiff, Nat.reduceMul, Nat.reduceLT, nI_add, pk_mul, nI_lt', nI_le', nI_eq', nI_lt0, nI_ge0, nI_eq0, nI_gt0, nI_le0, nI_ne_m1, m1_ne_nI, m1_lt_nI, m1_le_nI, nI_lt_m1, nI_le_m1, nI_clamp, ax_in_nI, nI_shl, nI_shr, lg_cmp0, nx_and, nI_eq1, bI_0, bI_1, bf_or, eq_self, or_true, true_or, lt_T, le_T, lt_F, le_F, eq_F, eq_T, kdC_0, kdC_1, kdC_2, kdC_3, kdC_4, kdC_5, kdC_6, kdC_7, kdC_8, kdC_9, kdC_10, kdC_11, kdC_12, kdC_13, kdC_14, kdC_15, kdC_16, kdU_1, kdU_2, kdU_3, kdU_4, kdU_5, kdU_6, kdU_7, kdU_, kdR_1, kdR_2, kdR_3, kdR_4, kdR_5, kdR_, rC_00, rC_01, rC_02, rC_03, rC_04, rC_10, rC_16, rC_18, rC_19, rC_1a, rC_20, rC_22, rC_23, rC_24, rC_25, rC_26, rC_27, rC_28, rC_4, rC_10k, rC_u3, rC_u5, rC_u7, rC_u9, rC_ua, rC_ub, rC_uc, rC_r4, rC_r5, rC_r6, rC_r7, rC_r8, Nat.add_zero, hr, d1, e9]
  by_cases e : lsU us w c = some c
  · rw [if_pos e]
    simp (disch := omega) only [sG_headsCycle_10, sG_headsCycle_11, sG_headsCycle_14, sG_headsCycle_15, sG_headsCycle_16, sG_headsCycle_17, sG_headsCycle_20, ax_clr_i, ax_clr_l, ax_clr_r, ax_clr_n, ax_ct_0, ax_ct_i, ax_ct_l, ax_ct_r, va_rf_s, Option.toList_some, Option.toList_none, List.cons_append, List.nil_append, and_true, true_and, and_self, ite_true, ite_false, if_true, if_false, Nat.reduceAdd, Nat.reduceLeDiff, Nat.reduceMul, Nat.reduceLT, nI_add, pk_mul, nI_lt', nI_le', nI_eq', nI_lt0, nI_ge0, nI_eq0, nI_gt0, nI_le0, nI_ne_m1, m1_ne_nI, m1_lt_nI, m1_le_nI, nI_lt_m1, nI_le_m1, nI_clamp, ax_in_nI, nI_shl, nI_shr, lg_cmp0, nx_and, nI_eq1, bI_0, bI_1, bf_or, eq_self, or_true, true_or, lt_T, le_T, lt_F, le_F, eq_F, eq_T, kdC_0, kdC_1, kdC_2, kdC_3, kdC_4, kdC_5, kdC_6, kdC_7, kdC_8, kdC_9, kdC_10, kdC_11, kdC_12, kdC_13, kdC_14, kdC_15, kdC_16, kdU_1, kdU_2, kdU_3, kdU_4, kdU_5, kdU_6, kdU_7, kdU_, kdR_1, kdR_2, kdR_3, kdR_4, kdR_5, kdR_, rC_00, rC_01, rC_02, rC_03, rC_04, rC_10, rC_16, rC_18, rC_19, rC_1a, rC_20, rC_22, rC_23, rC_24, rC_25, rC_26, rC_27, rC_28, rC_4, rC_10k, rC_u3, rC_u5, rC_u7, rC_u9, rC_ua, rC_ub, rC_uc, rC_r4, rC_r5, rC_r6, rC_r7, rC_r8, Nat.add_zero, hr, r1, mG_isIn_ _ c (show rwB (clN (wS us w us.length) 12) c < 2 ^ 31 by omega) (by omega), rwb_at _ c (show c < 12 by omega)]
    by_cases b : clN (wS us w us.length) 12 (12 * c + c) = true
    · rw [if_neg (by rw [b]; simp), b]
      simp (disch := omega) only [sG_headsCycle_23, sG_headsCycle_24, sG_headsCycle_27, sG_headsCycle_28, ax_clr_i, ax_clr_l, ax_clr_r, ax_clr_n, ax_ct_0, ax_ct_i, ax_ct_l, ax_ct_r, va_rf_s, Option.toList_some, Option.toList_none, List.cons_append, List.nil_append, and_true, true_and, and_self, ite_true, ite_false, if_true, if_false, Nat.reduceAdd, Nat.reduceLeDiff, Nat.reduceMul, Nat.reduceLT, nI_add, pk_mul, nI_lt', nI_le', nI_eq', nI_lt0, nI_ge0, nI_eq0, nI_gt0, nI_le0, nI_ne_m1, m1_ne_nI, m1_lt_nI, m1_le_nI, nI_lt_m1, nI_le_m1, nI_clamp, ax_in_nI, nI_shl, nI_shr, lg_cmp0, nx_and, nI_eq1, bI_0, bI_1, bf_or, eq_self, or_true, true_or]
      rfl
    · have b2 : clN (wS us w us.length) 12 (12 * c + c) = false := by simpa using b
      rw [if_pos b2, b2]
      simp (disch := omega) only [sG_headsCycle_27, sG_headsCycle_28, ax_clr_i, ax_clr_l, ax_clr_r, ax_clr_n, ax_ct_0, ax_ct_i, ax_ct_l, ax_ct_r, va_rf_s, Option.toList_some, Option.toList_none, List.cons_append, List.nil_append, and_true, true_and, and_self, ite_true, ite_false, if_true, if_false, Nat.reduceAdd, Nat.reduceLeDiff, Nat.reduceMul, Nat.reduceLT, nI_add, pk_mul, nI_lt', nI_le', nI_eq', nI_lt0, nI_ge0, nI_eq0, nI_gt0, nI_le0, nI_ne_m1, m1_ne_nI, m1_lt_nI, m1_le_nI, nI_lt_m1, nI_le_m1, nI_clamp, ax_in_nI, nI_shl, nI_shr, lg_cmp0, nx_and, nI_eq1, bI_0, bI_1, bf_or, eq_self, or_true, true_or]
      rfl
  · rw [if_neg e]
    have b2 : clN (wS us w us.length) 12 (12 * c + c) = false := by
      cases q : clN (wS us w us.length) 12 (12 * c + c) with
      | false => rfl
      | true => exact absurd (wS_head q (by omega)) e
    rw [b2]
    simp (disch := omega) only [sG_headsCycle_27, sG_headsCycle_28, ax_clr_i, ax_clr_l, ax_clr_r, ax_clr_n, ax_ct_0, ax_ct_i, ax_ct_l, ax_ct_r, va_rf_s, Option.toList_some, Option.toList_none, List.cons_append, List.nil_append, and_true, true_and, and_self, ite_true, ite_false, if_true, if_false, Nat.reduceAdd, Nat.reduceLeDiff, Nat.reduceMul, Nat.reduceLT, nI_add, pk_mul, nI_lt', nI_le', nI_eq', nI_lt0, nI_ge0, nI_eq0, nI_gt0, nI_le0, nI_ne_m1, m1_ne_nI, m1_lt_nI, m1_le_nI, nI_lt_m1, nI_le_m1, nI_clamp, ax_in_nI, nI_shl, nI_shr, lg_cmp0, nx_and, nI_eq1, bI_0, bI_1, bf_or, eq_self, or_true, true_or]
    rfl
end CS
