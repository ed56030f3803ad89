/-! the class: violations -/
def fnC (h : ax_H) (V : List (Nat × Nat)) : Prop := ∀ j, j < V.length → h.1 5 j = nI (64 * (vA V j).1 + (vA V j).2)
def flC (h : ax_H) (L : List Nat) : Prop := ∀ j, j < L.length → h.1 5 j = nI (bg L j)
theorem fnC.app {h h' : ax_H} {V : List (Nat × Nat)} (hv : fnC h V) (c i : Nat) (f : ∀ j, j < V.length → h'.1 5 j = h.1 5 j) (e : h'.1 5 V.length = nI (64 * c + i)) : fnC h' (V ++ [(c, i)]) := fun j hj => by
  simp only [List.length_append, List.length_cons, List.length_nil] at hj
  rw [vA_app (by omega)]
  by_cases q : j = V.length
  · rw [if_pos q, q]; exact e
  · rw [if_neg q, f j (by omega)]; exact hv j (by omega)
theorem flC.app {h h' : ax_H} {L : List Nat} (hv : flC h L) (y : Nat) (f : ∀ j, j < L.length → h'.1 5 j = h.1 5 j) (e : h'.1 5 L.length = nI y) : flC h' (L ++ [y]) := fun j hj => by
  simp only [List.length_append, List.length_cons, List.length_nil] at hj
  rw [bg_app (by omega)]
  by_cases q : j = L.length
  · rw [if_pos q, q]; exact e
  · rw [if_neg q, f j (by omega)]; exact hv j (by omega)
theorem gI_off (us ps : List (List Nat)) (x : rl4) (c : Nat) (hw : waU us ps x c = false) : ∀ (m i : Nat), gI us ps x c m i = []
  | 0, i => rfl
  | m + 1, i => by rw [gI, vio_eq, hw, Bool.false_and, if_neg (by simp), gI_off us ps x c hw m (i + 1)]; rfl
/-- what a look for violations works on -/
def ckC (o : Nat → Nat) (s : Nat) (x : Option Nat) (h : ax_H) (us ps : List (List Nat)) (ty : List Nat) (r : Nat) (y : rl4) : Prop := usC o s x h us ∧ lkC h us ∧ patC h ps ty ∧ ruC1 h ps.length r y
theorem ckC.q {o : Nat → Nat} {s : Nat} {x : Option Nat} {h h' : ax_H} {us ps : List (List Nat)} {ty : List Nat} {r : Nat} {y : rl4} (hk : ckC o s x h us ps ty r y) (f : frq h h') : ckC o s x h' us ps ty r y := ⟨hk.1.q f, hk.2.1.q f, hk.2.2.1.q f, hk.2.2.2.q f⟩
section CV
variable {d : Nat} {Q : Option Value → ax_H → Prop} {o : Nat → Nat} {s : Nat} {x : Option Nat} {us ps : List (List Nat)} {ty : List Nat}
theorem mP_findAll_i (r : Nat) (hr6 : r < 6) (y : rl4) (hk2 : y.1 ≤ 2) (c : Nat) (hcl : c < us.length) (hw : waU us ps y c = true) : ∀ (m i : Nat) (V : List (Nat × Nat)) (h : ax_H), i + m = (ocU (uAt us c)).length → ckC o s x h us ps ty r y → fnC h V → V.length ≤ 52 * c + i → (∀ h' V', frq h h' → fnC h' V' → V' = V ++ gI us ps y c m i → ax_wp kC (d + 18) mP_findAll 122 [some (.ref 0), some (.ref (121 + 6 * r)), some (.int (nI V'.length)), some (.int (nI c)), some (.int (nI (ocU (uAt us c)).length)), some (.int (nI (ocU (uAt us c)).length))] [] h' Q) → ax_wp kC (d + 18) mP_findAll 73 [some (.ref 0), some (.ref (121 + 6 * r)), some (.int (nI V.length)), some (.int (nI c)), some (.int (nI (ocU (uAt us c)).length)), some (.int (nI i))] [] h Q
  | 0, i, V, h, hm, hk, hv, hl, hQ => by
    have e : i = (ocU (uAt us c)).length := by omega
    subst e
    have l := (ocU_v (hk.1.2.2.2.1 c hcl).2).2
    rw [sP_findAll_73]
    simp (disch := omega) only [sP_findAll_75, sP_findAll_77, ax_clr_i, ax_clr_l, ax_clr_r, ax_clr_n, ax_ct_0, ax_ct_i, ax_ct_l, ax_ct_r, va_rf_s, Option.toList_some, Option.toList_none, List.cons_append, List.nil_append, and_true, true_and, and_self, ite_true, ite_false, if_true, if_false, Nat.reduceAdd, Nat.reduceLeDiff, Nat.reduceMul, Nat.reduceLT, nI_add, pk_mul, nI_lt', nI_le', nI_eq', nI_lt0, nI_ge0, nI_eq0, nI_gt0, nI_le0, nI_ne_m1, m1_ne_nI, m1_lt_nI, m1_le_nI, nI_lt_m1, nI_le_m1, nI_clamp, ax_in_nI, nI_shl, nI_shr, lg_cmp0, nx_and, nI_eq1, bI_0, bI_1, bf_or, eq_self, or_true, true_or, lt_T, le_T, lt_F, le_F, eq_F, eq_T]
    exact hQ h V frq.rf hv (by rw [gI, List.append_nil])
  | m + 1, i, V, h, hm, hk, hv, hl, hQ => by
    have l := (ocU_v (hk.1.2.2.2.1 c hcl).2).2
    have h12 := hk.1.2.2.1
    have hr := hk.1.1
    rw [sP_findAll_73]
    simp (disch := omega) only [sP_findAll_75, sP_findAll_77, sP_findAll_80, sP_findAll_81, sP_findAll_82, sP_findAll_85, sP_findAll_86, sP_findAll_89, sP_findAll_90, sP_findAll_91, sP_findAll_92, ax_clr_i, ax_clr_l, ax_clr_r, ax_clr_n, ax_ct_0, ax_ct_i, ax_ct_l, ax_ct_r, va_rf_s, Option.toList_some, Option.toList_none, List.cons_append, List.nil_append, and_true, true_and, and_self, ite_true, ite_false, if_true, if_false, Nat.reduceAdd, Nat.reduceLeDiff, Nat.reduceMul, Nat.reduceLT, nI_add, pk_mul, nI_lt', nI_le', nI_eq', nI_lt0, nI_ge0, nI_eq0, nI_gt0, nI_le0, nI_ne_m1, m1_ne_nI, m1_lt_nI, m1_le_nI, nI_lt_m1, nI_le_m1, nI_clamp, ax_in_nI, nI_shl, nI_shr, lg_cmp0, nx_and, nI_eq1, bI_0, bI_1, bf_or, eq_self, or_true, true_or, lt_T, le_T, lt_F, le_F, eq_F, eq_T, kdC_0, kdC_1, kdC_2, kdC_3, kdC_4, kdC_5, kdC_6, kdC_7, kdC_8, kdC_9, kdC_10, kdC_11, kdC_12, kdC_13, kdC_14, kdC_15, kdC_16, kdU_1, kdU_2, kdU_3, kdU_4, kdU_5, kdU_6, kdU_7, kdU_, kdR_1, kdR_2, kdR_3, kdR_4, kdR_5, kdR_, rC_00, rC_01, rC_02, rC_03, rC_04, rC_10, rC_16, rC_18, rC_19, rC_1a, rC_20, rC_22, rC_23, rC_24, rC_25, rC_26, rC_27, rC_28, rC_4, rC_10k, rC_u3, rC_u5, rC_u7, rC_u9, rC_ua, rC_ub, rC_uc, rC_r4, rC_r5, rC_r6, rC_r7, rC_r8, Nat.add_zero, hr]
    rw [sP_findAll_94]
    refine ⟨⟨by simp only [kdC_0, kdC_1, kdC_2, kdC_3, kdC_4, kdC_5, kdC_6, kdC_7, kdC_8, kdC_9, kdC_10, kdC_11, kdC_12, kdC_13, kdC_14, kdC_15, kdC_16, kdU_1, kdU_2, kdU_3, kdU_4, kdU_5, kdU_6, kdU_7, kdU_, kdR_1, kdR_2, kdR_3, kdR_4, kdR_5, kdR_, rC_00, rC_01, rC_02, rC_03, rC_04, rC_10, rC_16, rC_18, rC_19, rC_1a, rC_20, rC_22, rC_23, rC_24, rC_25, rC_26, rC_27, rC_28, rC_4, rC_10k, rC_u3, rC_u5, rC_u7, rC_u9, rC_ua, rC_ub, rC_uc, rC_r4, rC_r5, rC_r6, rC_r7, rC_r8, Nat.add_zero], by simp only [ax_clr_i, ax_clr_l, ax_clr_r, ax_clr_n, ax_ct_0, ax_ct_i, ax_ct_l, ax_ct_r, va_rf_s, Option.toList_some, Option.toList_none, List.cons_append, List.nil_append, and_true, true_and, and_self, ite_true, ite_false, if_true, if_false, Nat.reduceAdd, Nat.reduceLeDiff, Nat.reduceMul, Nat.reduceLT]⟩, ?_⟩
    refine mP_breaks_ hk.1 hk.2.1 hk.2.2.1 r hr6 y hk.2.2.2 hk2 c i hcl (by omega) (fun h1 f1 => ?_)
    rw [gI, vio_eq, hw, Bool.true_and] at hQ
    have hk1 := hk.q f1.q
    have hr1 := hk1.1.1
    have hv1 : fnC h1 V := fun j hj => by rw [f1.2 _ _ (by omega)]; exact hv j hj
    cases b : brU us ps y c i with
    | true =>
      rw [b, if_pos rfl] at hQ
      simp (disch := omega) only [sP_findAll_97, sP_findAll_100, sP_findAll_101, sP_findAll_104, sP_findAll_105, sP_findAll_107, sP_findAll_108, sP_findAll_109, sP_findAll_111, sP_findAll_112, sP_findAll_113, sP_findAll_116, sP_findAll_119, ax_clr_i, ax_clr_l, ax_clr_r, ax_clr_n, ax_ct_0, ax_ct_i, ax_ct_l, ax_ct_r, va_rf_s, Option.toList_some, Option.toList_none, List.cons_append, List.nil_append, and_true, true_and, and_self, ite_true, ite_false, if_true, if_false, Nat.reduceAdd, Nat.reduceLeDiff, Nat.reduceMul, Nat.reduceLT, nI_add, pk_mul, nI_lt', nI_le', nI_eq', nI_lt0, nI_ge0, nI_eq0, nI_gt0, nI_le0, nI_ne_m1, m1_ne_nI, m1_lt_nI, m1_le_nI, nI_lt_m1, nI_le_m1, nI_clamp, ax_in_nI, nI_shl, nI_shr, lg_cmp0, nx_and, nI_eq1, bI_0, bI_1, bf_or, eq_self, or_true, true_or, lt_T, le_T, lt_F, le_F, eq_F, eq_T, kdC_0, kdC_1, kdC_2, kdC_3, kdC_4, kdC_5, kdC_6, kdC_7, kdC_8, kdC_9, kdC_10, kdC_11, kdC_12, kdC_13, kdC_14, kdC_15, kdC_16, kdU_1, kdU_2, kdU_3, kdU_4, kdU_5, kdU_6, kdU_7, kdU_, kdR_1, kdR_2, kdR_3, kdR_4, kdR_5, kdR_, rC_00, rC_01, rC_02, rC_03, rC_04, rC_10, rC_16, rC_18, rC_19, rC_1a, rC_20, rC_22, rC_23, rC_24, rC_25, rC_26, rC_27, rC_28, rC_4, rC_10k, rC_u3, rC_u5, rC_u7, rC_u9, rC_ua, rC_ub, rC_uc, rC_r4, rC_r5, rC_r6, rC_r7, rC_r8, Nat.add_zero, hr1, Bool.true_eq_false]
      have f2 : frq h1 (ax_upI h1 5 V.length (nI (64 * c + i))) := frq.up5
      have hv2 := hv1.app (h' := ax_upI h1 5 V.length (nI (64 * c + i))) c i (fun j hj => by rw [up_I, if_neg (by omega)]) (up_at _ _ _ _)
      have el : V.length + 1 = (V ++ [(c, i)]).length := by simp
      rw [el]
      exact mP_findAll_i r hr6 y hk2 c hcl hw m (i + 1) (V ++ [(c, i)]) _ (by omega) (hk1.q f2) hv2 (by simp; omega) (fun h' V' f3 w1 w2 => hQ h' V' ((f1.q.tr f2).tr f3) w1 (by rw [w2, List.append_assoc]))
    | false =>
      rw [b, if_neg (by simp), List.nil_append] at hQ
      simp (disch := omega) only [sP_findAll_97, sP_findAll_116, sP_findAll_119, ax_clr_i, ax_clr_l, ax_clr_r, ax_clr_n, ax_ct_0, ax_ct_i, ax_ct_l, ax_ct_r, va_rf_s, Option.toList_some, Option.toList_none, List.cons_append, List.nil_append, and_true, true_and, and_self, ite_true, ite_false, if_true, if_false, Nat.reduceAdd, Nat.reduceLeDiff, Nat.reduceMul, Nat.reduceLT, nI_add, pk_mul, nI_lt', nI_le', nI_eq', nI_lt0, nI_ge0, nI_eq0, nI_gt0, nI_le0, nI_ne_m1, m1_ne_nI, m1_lt_nI, m1_le_nI, nI_lt_m1, nI_le_m1, nI_clamp, ax_in_nI, nI_shl, nI_shr, lg_cmp0, nx_and, nI_eq1, bI_0, bI_1, bf_or, eq_self, or_true, true_or]
      exact mP_findAll_i r hr6 y hk2 c hcl hw m (i + 1) V h1 (by omega) hk1 hv1 (by omega) (fun h' V' f3 w1 w2 => hQ h' V' (f1.q.tr f3) w1 w2)
theorem mP_findAll_l (r : Nat) (hr6 : r < 6) (y : rl4) (hk2 : y.1 ≤ 2) : ∀ (m c : Nat) (V : List (Nat × Nat)) (h : ax_H) (x4 x5 : Option Value), c + m = us.length → ckC o s x h us ps ty r y → fnC h V → V.length ≤ 52 * c → (∀ h' V', frq h h' → fnC h' V' → V' = V ++ gC us ps y m c → Q (some (.int (nI V'.length))) h') → ax_wp kC (d + 18) mP_findAll 21 [some (.ref 0), some (.ref (121 + 6 * r)), some (.int (nI V.length)), some (.int (nI c)), x4, x5] [] h Q
  | 0, c, V, h, x4, x5, hm, hk, hv, hl, hQ => by
    have e : c = us.length := by omega
    subst e
    have h1 := hk.1.2.1
    have h12 := hk.1.2.2.1
    have hr := hk.1.1
    rw [sP_findAll_21]
    simp (disch := omega) only [sP_findAll_22, sP_findAll_23, sP_findAll_26, sP_findAll_29, sP_findAll_128, sP_findAll_129, ax_clr_i, ax_clr_l, ax_clr_r, ax_clr_n, ax_ct_0, ax_ct_i, ax_ct_l, ax_ct_r, va_rf_s, Option.toList_some, Option.toList_none, List.cons_append, List.nil_append, and_true, true_and, and_self, ite_true, ite_false, if_true, if_false, Nat.reduceAdd, Nat.reduceLeDiff, Nat.reduceMul, Nat.reduceLT, nI_add, pk_mul, nI_lt', nI_le', nI_eq', nI_lt0, nI_ge0, nI_eq0, nI_gt0, nI_le0, nI_ne_m1, m1_ne_nI, m1_lt_nI, m1_le_nI, nI_lt_m1, nI_le_m1, nI_clamp, ax_in_nI, nI_shl, nI_shr, lg_cmp0, nx_and, nI_eq1, bI_0, bI_1, bf_or, eq_self, or_true, true_or, lt_T, le_T, lt_F, le_F, eq_F, eq_T, kdC_0, kdC_1, kdC_2, kdC_3, kdC_4, kdC_5, kdC_6, kdC_7, kdC_8, kdC_9, kdC_10, kdC_11, kdC_12, kdC_13, kdC_14, kdC_15, kdC_16, kdU_1, kdU_2, kdU_3, kdU_4, kdU_5, kdU_6, kdU_7, kdU_, kdR_1, kdR_2, kdR_3, kdR_4, kdR_5, kdR_, rC_00, rC_01, rC_02, rC_03, rC_04, rC_10, rC_16, rC_18, rC_19, rC_1a, rC_20, rC_22, rC_23, rC_24, rC_25, rC_26, rC_27, rC_28, rC_4, rC_10k, rC_u3, rC_u5, rC_u7, rC_u9, rC_ua, rC_ub, rC_uc, rC_r4, rC_r5, rC_r6, rC_r7, rC_r8, Nat.add_zero, hr, h1]
    exact hQ h V frq.rf hv (by rw [gC, List.append_nil])
  | m + 1, c, V, h, x4, x5, hm, hk, hv, hl, hQ => by
    have hcl : c < us.length := by omega
    have h1 := hk.1.2.1
    have h12 := hk.1.2.2.1
    have hr := hk.1.1
    have ho := hk.1.2.2.2.2.1 c (by omega)
    have l := (ocU_v (hk.1.2.2.2.1 c hcl).2).2
    have h0 := (hk.1.2.2.2.1 c hcl).1.1
    have h8 := (hk.1.2.2.2.1 c hcl).1.2.2.2.2.2.1
    rw [gC] at hQ
    rw [sP_findAll_21]
    simp (disch := omega) only [sP_findAll_22, sP_findAll_23, sP_findAll_26, sP_findAll_29, sP_findAll_32, sP_findAll_33, sP_findAll_34, sP_findAll_35, sP_findAll_38, sP_findAll_41, sP_findAll_42, sP_findAll_43, sP_findAll_46, sP_findAll_49, ax_clr_i, ax_clr_l, ax_clr_r, ax_clr_n, ax_ct_0, ax_ct_i, ax_ct_l, ax_ct_r, va_rf_s, Option.toList_some, Option.toList_none, List.cons_append, List.nil_append, and_true, true_and, and_self, ite_true, ite_false, if_true, if_false, Nat.reduceAdd, Nat.reduceLeDiff, Nat.reduceMul, Nat.reduceLT, nI_add, pk_mul, nI_lt', nI_le', nI_eq', nI_lt0, nI_ge0, nI_eq0, nI_gt0, nI_le0, nI_ne_m1, m1_ne_nI, m1_lt_nI, m1_le_nI, nI_lt_m1, nI_le_m1, nI_clamp, ax_in_nI, nI_shl, nI_shr, lg_cmp0, nx_and, nI_eq1, bI_0, bI_1, bf_or, eq_self, or_true, true_or, lt_T, le_T, lt_F, le_F, eq_F, eq_T, kdC_0, kdC_1, kdC_2, kdC_3, kdC_4, kdC_5, kdC_6, kdC_7, kdC_8, kdC_9, kdC_10, kdC_11, kdC_12, kdC_13, kdC_14, kdC_15, kdC_16, kdU_1, kdU_2, kdU_3, kdU_4, kdU_5, kdU_6, kdU_7, kdU_, kdR_1, kdR_2, kdR_3, kdR_4, kdR_5, kdR_, rC_00, rC_01, rC_02, rC_03, rC_04, rC_10, rC_16, rC_18, rC_19, rC_1a, rC_20, rC_22, rC_23, rC_24, rC_25, rC_26, rC_27, rC_28, rC_4, rC_10k, rC_u3, rC_u5, rC_u7, rC_u9, rC_ua, rC_ub, rC_uc, rC_r4, rC_r5, rC_r6, rC_r7, rC_r8, Nat.add_zero, hr, h1, h0, mP_watches_ hk.1 hk.2.2.1 r hr6 y hk.2.2.2 hk2 c hcl]
    have nx : ∀ (h' : ax_H) (V' : List (Nat × Nat)) (x4 x5 : Option Value), frq h h' → fnC h' V' → V' = V ++ gI us ps y c (ocU (uAt us c)).length 0 → ax_wp kC (d + 18) mP_findAll 122 [some (.ref 0), some (.ref (121 + 6 * r)), some (.int (nI V'.length)), some (.int (nI c)), x4, x5] [] h' Q := fun h' V' x4 x5 f w1 w2 => by
      have gl := (gI_v us ps y c (ocU (uAt us c)).length 0).1
      simp (disch := omega) only [sP_findAll_122, sP_findAll_125, ax_clr_i, ax_clr_l, ax_clr_r, ax_clr_n, ax_ct_0, ax_ct_i, ax_ct_l, ax_ct_r, va_rf_s, Option.toList_some, Option.toList_none, List.cons_append, List.nil_append, and_true, true_and, and_self, ite_true, ite_false, if_true, if_false, Nat.reduceAdd, Nat.reduceLeDiff, Nat.reduceMul, Nat.reduceLT, nI_add]
      refine mP_findAll_l r hr6 y hk2 m (c + 1) V' h' x4 x5 (by omega) (hk.q f) w1 (by rw [w2, List.length_append]; omega) (fun h2 V2 f2 z1 z2 => hQ h2 V2 (f.tr f2) z1 (by rw [z2, w2, List.append_assoc]))
    cases b : waU us ps y c with
    | true =>
      simp (disch := omega) only [sP_findAll_52, sP_findAll_53, sP_findAll_56, sP_findAll_59, sP_findAll_60, sP_findAll_61, sP_findAll_64, sP_findAll_67, sP_findAll_68, sP_findAll_70, sP_findAll_71, ax_clr_i, ax_clr_l, ax_clr_r, ax_clr_n, ax_ct_0, ax_ct_i, ax_ct_l, ax_ct_r, va_rf_s, Option.toList_some, Option.toList_none, List.cons_append, List.nil_append, and_true, true_and, and_self, ite_true, ite_false, if_true, if_false, Nat.reduceAdd, Nat.reduceLeDiff, Nat.reduceMul, Nat.reduceLT, nI_add, pk_mul, nI_lt', nI_le', nI_eq', nI_lt0, nI_ge0, nI_eq0, nI_gt0, nI_le0, nI_ne_m1, m1_ne_nI, m1_lt_nI, m1_le_nI, nI_lt_m1, nI_le_m1, nI_clamp, ax_in_nI, nI_shl, nI_shr, lg_cmp0, nx_and, nI_eq1, bI_0, bI_1, bf_or, eq_self, or_true, true_or, lt_T, le_T, lt_F, le_F, eq_F, eq_T, kdC_0, kdC_1, kdC_2, kdC_3, kdC_4, kdC_5, kdC_6, kdC_7, kdC_8, kdC_9, kdC_10, kdC_11, kdC_12, kdC_13, kdC_14, kdC_15, kdC_16, kdU_1, kdU_2, kdU_3, kdU_4, kdU_5, kdU_6, kdU_7, kdU_, kdR_1, kdR_2, kdR_3, kdR_4, kdR_5, kdR_, rC_00, rC_01, rC_02, rC_03, rC_04, rC_10, rC_16, rC_18, rC_19, rC_1a, rC_20, rC_22, rC_23, rC_24, rC_25, rC_26, rC_27, rC_28, rC_4, rC_10k, rC_u3, rC_u5, rC_u7, rC_u9, rC_ua, rC_ub, rC_uc, rC_r4, rC_r5, rC_r6, rC_r7, rC_r8, Nat.add_zero, hr, h8, Bool.true_eq_false]
      exact mP_findAll_i r hr6 y hk2 c hcl b (ocU (uAt us c)).length 0 V h (by omega) hk hv (by omega) (fun h' V' f w1 w2 => nx h' V' _ _ f w1 w2)
    | false =>
      simp (disch := omega) only [sP_findAll_67, sP_findAll_68, sP_findAll_70, sP_findAll_71, ax_clr_i, ax_clr_l, ax_clr_r, ax_clr_n, ax_ct_0, ax_ct_i, ax_ct_l, ax_ct_r, va_rf_s, Option.toList_some, Option.toList_none, List.cons_append, List.nil_append, and_true, true_and, and_self, ite_true, ite_false, if_true, if_false, Nat.reduceAdd, Nat.reduceLeDiff, Nat.reduceMul, Nat.reduceLT, nI_add, pk_mul, nI_lt', nI_le', nI_eq', nI_lt0, nI_ge0, nI_eq0, nI_gt0, nI_le0, nI_ne_m1, m1_ne_nI, m1_lt_nI, m1_le_nI, nI_lt_m1, nI_le_m1, nI_clamp, ax_in_nI, nI_shl, nI_shr, lg_cmp0, nx_and, nI_eq1, bI_0, bI_1, bf_or, eq_self, or_true, true_or]
      rw [sP_findAll_73]
      simp (disch := omega) only [sP_findAll_75, sP_findAll_77, ax_clr_i, ax_clr_l, ax_clr_r, ax_clr_n, ax_ct_0, ax_ct_i, ax_ct_l, ax_ct_r, va_rf_s, Option.toList_some, Option.toList_none, List.cons_append, List.nil_append, and_true, true_and, and_self, ite_true, ite_false, if_true, if_false, Nat.reduceAdd, Nat.reduceLeDiff, Nat.reduceMul, Nat.reduceLT, nI_add, pk_mul, nI_lt', nI_le', nI_eq', nI_lt0, nI_ge0, nI_eq0, nI_gt0, nI_le0, nI_ne_m1, m1_ne_nI, m1_lt_nI, m1_le_nI, nI_lt_m1, nI_le_m1, nI_clamp, ax_in_nI, nI_shl, nI_shr, lg_cmp0, nx_and, nI_eq1, bI_0, bI_1, bf_or, eq_self, or_true, true_or, lt_T, le_T, lt_F, le_F, eq_F, eq_T]
      exact nx h V _ _ frq.rf hv (by rw [gI_off us ps y c b, List.append_nil])
theorem mP_findCycles_l (w : Nat) : ∀ (m c : Nat) (L : List Nat) (h : ax_H) (y1 : Int32), c + m = us.length → usC o s x h us → hdC h us w us.length → rowC h 16 (clN (wS us w us.length) 12) us.length → flC h L → L.length ≤ c → (∀ h' L', frq h h' → flC h' L' → L' = cyF (clN (wS us w us.length) 12) m c L → Q (some (.int (nI L'.length))) h') → ax_wp kC (d + 4) mP_findCycles 12 [some (.ref 0), some (.int y1), some (.int (nI L.length)), some (.int (nI c))] [] h Q
  | 0, c, L, h, y1, hm, hc, hd, hw, hl, hlen, hQ => by
    have e : c = us.length := by omega
    subst e
    have h1 := hc.2.1
    have h12 := hc.2.2.1
    have hr := hc.1
    rw [sP_findCycles_12]
    simp (disch := omega) only [sP_findCycles_13, sP_findCycles_14, sP_findCycles_17, sP_findCycles_20, sP_findCycles_56, sP_findCycles_57, ax_clr_i, ax_clr_l, ax_clr_r, ax_clr_n, ax_ct_0, ax_ct_i, ax_ct_l, ax_ct_r, va_rf_s, Option.toList_some, Option.toList_none, List.cons_append, List.nil_append, and_true, true_and, and_self, ite_true, ite_false, if_true, if_false, Nat.reduceAdd, Nat.reduceLeDiff, Nat.reduceMul, Nat.reduceLT, nI_add, pk_mul, nI_lt', nI_le', nI_eq', nI_lt0, nI_ge0, nI_eq0, nI_gt0, nI_le0, nI_ne_m1, m1_ne_nI, m1_lt_nI, m1_le_nI, nI_lt_m1, nI_le_m1, nI_clamp, ax_in_nI, nI_shl, nI_shr, lg_cmp0, nx_and, nI_eq1, bI_0, bI_1, bf_or, eq_self, or_true, true_or, lt_T, le_T, lt_F, le_F, eq_F, eq_T, kdC_0, kdC_1, kdC_2, kdC_3, kdC_4, kdC_5, kdC_6, kdC_7, kdC_8, kdC_9, kdC_10, kdC_11, kdC_12, kdC_13, kdC_14, kdC_15, kdC_16, kdU_1, kdU_2, kdU_3, kdU_4, kdU_5, kdU_6, kdU_7, kdU_, kdR_1, kdR_2, kdR_3, kdR_4, kdR_5, kdR_, rC_00, rC_01, rC_02, rC_03, rC_04, rC_10, rC_16, rC_18, rC_19, rC_1a, rC_20, rC_22, rC_23, rC_24, rC_25, rC_26, rC_27, rC_28, rC_4, rC_10k, rC_u3, rC_u5, rC_u7, rC_u9, rC_ua, rC_ub, rC_uc, rC_r4, rC_r5, rC_r6, rC_r7, rC_r8, Nat.add_zero, hr, h1]
    exact hQ h L frq.rf hl rfl
  | m + 1, c, L, h, y1, hm, hc, hd, hw, hl, hlen, hQ => by
    have h1 := hc.2.1
    have h12 := hc.2.2.1
    have hr := hc.1
    rw [cyF] at hQ
    rw [sP_findCycles_12]
    simp (disch := omega) only [sP_findCycles_13, sP_findCycles_14, sP_findCycles_17, sP_findCycles_20, sP_findCycles_23, sP_findCycles_24, sP_findCycles_27, sP_findCycles_28, sP_findCycles_31, ax_clr_i, ax_clr_l, ax_clr_r, ax_clr_n, ax_ct_0, ax_ct_i, ax_ct_l, ax_ct_r, va_rf_s, Option.toList_some, Option.toList_none, List.cons_append, List.nil_append, and_true, true_and, and_self, ite_true, ite_false, if_true, if_false, Nat.reduceAdd, Nat.reduceLeDiff, Nat.reduceMul, Nat.reduceLT, nI_add, pk_mul, nI_lt', nI_le', nI_eq', nI_lt0, nI_ge0, nI_eq0, nI_gt0, nI_le0, nI_ne_m1, m1_ne_nI, m1_lt_nI, m1_le_nI, nI_lt_m1, nI_le_m1, nI_clamp, ax_in_nI, nI_shl, nI_shr, lg_cmp0, nx_and, nI_eq1, bI_0, bI_1, bf_or, eq_self, or_true, true_or, lt_T, le_T, lt_F, le_F, eq_F, eq_T, kdC_0, kdC_1, kdC_2, kdC_3, kdC_4, kdC_5, kdC_6, kdC_7, kdC_8, kdC_9, kdC_10, kdC_11, kdC_12, kdC_13, kdC_14, kdC_15, kdC_16, kdU_1, kdU_2, kdU_3, kdU_4, kdU_5, kdU_6, kdU_7, kdU_, kdR_1, kdR_2, kdR_3, kdR_4, kdR_5, kdR_, rC_00, rC_01, rC_02, rC_03, rC_04, rC_10, rC_16, rC_18, rC_19, rC_1a, rC_20, rC_22, rC_23, rC_24, rC_25, rC_26, rC_27, rC_28, rC_4, rC_10k, rC_u3, rC_u5, rC_u7, rC_u9, rC_ua, rC_ub, rC_uc, rC_r4, rC_r5, rC_r6, rC_r7, rC_r8, Nat.add_zero, hr, h1, mG_headsCycle_ hc w hd hw c (show c < us.length by omega)]
    by_cases b : clN (wS us w us.length) 12 (13 * c) = true
    · rw [if_pos b] at hQ
      rw [if_neg (by rw [b]; simp)]
      simp (disch := omega) only [sP_findCycles_34, sP_findCycles_35, sP_findCycles_38, sP_findCycles_39, sP_findCycles_41, sP_findCycles_42, sP_findCycles_43, sP_findCycles_45, sP_findCycles_46, sP_findCycles_47, sP_findCycles_50, sP_findCycles_53, ax_clr_i, ax_clr_l, ax_clr_r, ax_clr_n, ax_ct_0, ax_ct_i, ax_ct_l, ax_ct_r, va_rf_s, Option.toList_some, Option.toList_none, List.cons_append, List.nil_append, and_true, true_and, and_self, ite_true, ite_false, if_true, if_false, Nat.reduceAdd, Nat.reduceLeDiff, Nat.reduceMul, Nat.reduceLT, nI_add, pk_mul, nI_lt', nI_le', nI_eq', nI_lt0, nI_ge0, nI_eq0, nI_gt0, nI_le0, nI_ne_m1, m1_ne_nI, m1_lt_nI, m1_le_nI, nI_lt_m1, nI_le_m1, nI_clamp, ax_in_nI, nI_shl, nI_shr, lg_cmp0, nx_and, nI_eq1, bI_0, bI_1, bf_or, eq_self, or_true, true_or, lt_T, le_T, lt_F, le_F, eq_F, eq_T, kdC_0, kdC_1, kdC_2, kdC_3, kdC_4, kdC_5, kdC_6, kdC_7, kdC_8, kdC_9, kdC_10, kdC_11, kdC_12, kdC_13, kdC_14, kdC_15, kdC_16, kdU_1, kdU_2, kdU_3, kdU_4, kdU_5, kdU_6, kdU_7, kdU_, kdR_1, kdR_2, kdR_3, kdR_4, kdR_5, kdR_, rC_00, rC_01, rC_02, rC_03, rC_04, rC_10, rC_16, rC_18, rC_19, rC_1a, rC_20, rC_22, rC_23, rC_24, rC_25, rC_26, rC_27, rC_28, rC_4, rC_10k, rC_u3, rC_u5, rC_u7, rC_u9, rC_ua, rC_ub, rC_uc, rC_r4, rC_r5, rC_r6, rC_r7, rC_r8, Nat.add_zero, hr]
      have f2 : frq h (ax_upI h 5 L.length (nI (64 * c + 63))) := frq.up5
      have hl2 := hl.app (h' := ax_upI h 5 L.length (nI (64 * c + 63))) (64 * c + 63) (fun j hj => by rw [up_I, if_neg (by omega)]) (up_at _ _ _ _)
      have el : L.length + 1 = (L ++ [64 * c + 63]).length := by simp
      rw [el]
      exact mP_findCycles_l w m (c + 1) (L ++ [64 * c + 63]) _ y1 (by omega) (hc.q f2) (fun b hb => ⟨(hd b hb).1, by rw [up_I, if_neg (by omega)]; exact (hd b hb).2⟩) (fun a ha => by rw [up_I, if_neg (by omega)]; exact hw a ha) hl2 (by simp; omega) (fun h' L' f w1 w2 => hQ h' L' (f2.tr f) w1 w2)
    · rw [if_neg b] at hQ
      rw [if_pos (by simpa using b)]
      simp (disch := omega) only [sP_findCycles_50, sP_findCycles_53, ax_clr_i, ax_clr_l, ax_clr_r, ax_clr_n, ax_ct_0, ax_ct_i, ax_ct_l, ax_ct_r, va_rf_s, Option.toList_some, Option.toList_none, List.cons_append, List.nil_append, and_true, true_and, and_self, ite_true, ite_false, if_true, if_false, Nat.reduceAdd, Nat.reduceLeDiff, Nat.reduceMul, Nat.reduceLT, nI_add]
      exact mP_findCycles_l w m (c + 1) L h y1 (by omega) hc hd hw hl (by omega) hQ
theorem cyF_up (w : Nat → Bool) : ∀ (m c : Nat) (L : List Nat), (∀ a, c ≤ a → w (13 * a) = false) → cyF w m c L = L
  | 0, c, L, _ => rfl
  | m + 1, c, L, h => by rw [cyF, h c (Nat.le_refl _), if_neg (by simp)]; exact cyF_up w m (c + 1) L (fun a ha => h a (by omega))
theorem cyF_split (w : Nat → Bool) : ∀ (m n c : Nat) (L : List Nat), cyF w (m + n) c L = cyF w n (c + m) (cyF w m c L)
  | 0, n, c, L => by rw [Nat.zero_add]; rfl
  | m + 1, n, c, L => by rw [show m + 1 + n = (m + n) + 1 by omega, cyF, cyF, cyF_split w m n (c + 1), show c + 1 + m = c + (m + 1) by omega]
theorem cyL_eq (h12 : us.length ≤ 12) (w : Nat) : cyL us w = cyF (clN (wS us w us.length) 12) us.length 0 [] := by
  unfold cyL
  have e : (12 : Nat) = us.length + (12 - us.length) := by omega
  have sp := cyF_split (clN (wS us w us.length) 12) us.length (12 - us.length) 0 []
  rw [← e] at sp
  rw [sp]
  by_cases q : us.length = 12
  · rw [q]; rfl
  · have up : ∀ (m c : Nat) (L : List Nat), us.length ≤ c → c + m ≤ 12 → cyF (clN (wS us w us.length) 12) m c L = L := by
      intro m
      induction m with
      | zero => intro c L _ _; rfl
      | succ m ih =>
        intro c L h1 h2
        have := clN_col (wS_col us w) 12 c c h1 (by omega)
        rw [show 12 * c + c = 13 * c by omega] at this
        rw [cyF, this, if_neg (by simp)]
        exact ih (c + 1) L (by omega) (by omega)
    exact up _ _ _ (by omega) (by omega)
theorem mP_findCycles_ {h : ax_H} (hc : usC o s x h us) (w : Nat) (hw : w < 100) (hQ : ∀ h', frq h h' → flC h' (cyL us w) → Q (some (.int (nI (cyL us w).length))) h') : ax_wp kC (d + 4) mP_findCycles 0 [some (.ref 0), some (.int (nI w)), none, none] [] h Q := by
  have hr := hc.1
  have h12 := hc.2.2.1
  simp (disch := omega) only [sP_findCycles_0, sP_findCycles_1, sP_findCycles_4, sP_findCycles_5, ax_clr_i, ax_clr_l, ax_clr_r, ax_clr_n, ax_ct_0, ax_ct_i, ax_ct_l, ax_ct_r, va_rf_s, Option.toList_some, Option.toList_none, List.cons_append, List.nil_append, and_true, true_and, and_self, ite_true, ite_false, if_true, if_false, Nat.reduceAdd, Nat.reduceLeDiff, Nat.reduceMul, Nat.reduceLT, kdC_0, kdC_1, kdC_2, kdC_3, kdC_4, kdC_5, kdC_6, kdC_7, kdC_8, kdC_9, kdC_10, kdC_11, kdC_12, kdC_13, kdC_14, kdC_15, kdC_16, kdU_1, kdU_2, kdU_3, kdU_4, kdU_5, kdU_6, kdU_7, kdU_, kdR_1, kdR_2, kdR_3, kdR_4, kdR_5, kdR_, rC_00, rC_01, rC_02, rC_03, rC_04, rC_10, rC_16, rC_18, rC_19, rC_1a, rC_20, rC_22, rC_23, rC_24, rC_25, rC_26, rC_27, rC_28, rC_4, rC_10k, rC_u3, rC_u5, rC_u7, rC_u9, rC_ua, rC_ub, rC_uc, rC_r4, rC_r5, rC_r6, rC_r7, rC_r8, Nat.add_zero, hr]
  refine mG_linkSlices_ hc w hw (fun h1 f1 d1 w1 => ?_)
  simp (disch := omega) only [sP_findCycles_8, sP_findCycles_9, sP_findCycles_10, sP_findCycles_11, ax_clr_i, ax_clr_l, ax_clr_r, ax_clr_n, ax_ct_0, ax_ct_i, ax_ct_l, ax_ct_r, va_rf_s, Option.toList_some, Option.toList_none, List.cons_append, List.nil_append, and_true, true_and, and_self, ite_true, ite_false, if_true, if_false, Nat.reduceAdd, Nat.reduceLeDiff, Nat.reduceMul, Nat.reduceLT]
  refine mP_findCycles_l w us.length 0 [] h1 (nI w) (by omega) (hc.d f1) d1 w1 (fun j hj => by simp at hj) (by simp) (fun h2 L' f2 l2 e2 => ?_)
  rw [← cyL_eq h12] at e2
  subst e2
  exact hQ h2 (f1.q.tr f2) l2
/-- all violations -/
theorem mP_findAll_ {h : ax_H} (r : Nat) (hr6 : r < 6) (y : rl4) (hk : ckC o s x h us ps ty r y) (hk2 : y.1 ≤ 2) (hQ : ∀ h', frq h h' → fnC h' (gaU us ps y) → Q (some (.int (nI (gaU us ps y).length))) h') : ax_wp kC (d + 18) mP_findAll 0 [some (.ref 0), some (.ref (121 + 6 * r)), none, none, none, none] [] h Q := by
  have y1 := hk.2.2.2.1
  simp (disch := omega) only [sP_findAll_0, sP_findAll_1, sP_findAll_4, sP_findAll_5, sP_findAll_17, sP_findAll_18, sP_findAll_19, sP_findAll_20, ax_clr_i, ax_clr_l, ax_clr_r, ax_clr_n, ax_ct_0, ax_ct_i, ax_ct_l, ax_ct_r, va_rf_s, Option.toList_some, Option.toList_none, List.cons_append, List.nil_append, and_true, true_and, and_self, ite_true, ite_false, if_true, if_false, Nat.reduceAdd, Nat.reduceLeDiff, Nat.reduceMul, Nat.reduceLT, nI_add, pk_mul, nI_lt', nI_le', nI_eq', nI_lt0, nI_ge0, nI_eq0, nI_gt0, nI_le0, nI_ne_m1, m1_ne_nI, m1_lt_nI, m1_le_nI, nI_lt_m1, nI_le_m1, nI_clamp, ax_in_nI, nI_shl, nI_shr, lg_cmp0, nx_and, nI_eq1, bI_0, bI_1, bf_or, eq_self, or_true, true_or, lt_T, le_T, lt_F, le_F, eq_F, eq_T, kdC_0, kdC_1, kdC_2, kdC_3, kdC_4, kdC_5, kdC_6, kdC_7, kdC_8, kdC_9, kdC_10, kdC_11, kdC_12, kdC_13, kdC_14, kdC_15, kdC_16, kdU_1, kdU_2, kdU_3, kdU_4, kdU_5, kdU_6, kdU_7, kdU_, kdR_1, kdR_2, kdR_3, kdR_4, kdR_5, kdR_, rC_00, rC_01, rC_02, rC_03, rC_04, rC_10, rC_16, rC_18, rC_19, rC_1a, rC_20, rC_22, rC_23, rC_24, rC_25, rC_26, rC_27, rC_28, rC_4, rC_10k, rC_u3, rC_u5, rC_u7, rC_u9, rC_ua, rC_ub, rC_uc, rC_r4, rC_r5, rC_r6, rC_r7, rC_r8, Nat.add_zero, y1]
  refine mP_findAll_l r hr6 y hk2 us.length 0 [] h none none (by omega) hk (fun j hj => by simp at hj) (by simp) (fun h2 V' f2 v2 e2 => ?_)
  rw [List.nil_append] at e2
  subst e2
  exact hQ h2 f2 v2
theorem mP_findAll_c {h : ax_H} (r : Nat) (hr6 : r < 6) (y : rl4) (hk : ckC o s x h us ps ty r y) (hk3 : y.1 = 3) (hQ : ∀ h', frq h h' → flC h' (cyL us y.2.1) → Q (some (.int (nI (cyL us y.2.1).length))) h') : ax_wp kC (d + 18) mP_findAll 0 [some (.ref 0), some (.ref (121 + 6 * r)), none, none, none, none] [] h Q := by
  have y1 := hk.2.2.2.1
  have y2 := hk.2.2.2.2.1
  have y5 := hk.2.2.2.2.2.2.2
  have hb : y.2.1 < 100 := by rcases y5.1 with w | w <;> omega
  rw [hk3] at y1
  simp (disch := omega) only [sP_findAll_0, sP_findAll_1, sP_findAll_4, sP_findAll_5, sP_findAll_8, sP_findAll_9, sP_findAll_10, sP_findAll_13, ax_clr_i, ax_clr_l, ax_clr_r, ax_clr_n, ax_ct_0, ax_ct_i, ax_ct_l, ax_ct_r, va_rf_s, Option.toList_some, Option.toList_none, List.cons_append, List.nil_append, and_true, true_and, and_self, ite_true, ite_false, if_true, if_false, Nat.reduceAdd, Nat.reduceLeDiff, Nat.reduceMul, Nat.reduceLT, nI_add, pk_mul, nI_lt', nI_le', nI_eq', nI_lt0, nI_ge0, nI_eq0, nI_gt0, nI_le0, nI_ne_m1, m1_ne_nI, m1_lt_nI, m1_le_nI, nI_lt_m1, nI_le_m1, nI_clamp, ax_in_nI, nI_shl, nI_shr, lg_cmp0, nx_and, nI_eq1, bI_0, bI_1, bf_or, eq_self, or_true, true_or, lt_T, le_T, lt_F, le_F, eq_F, eq_T, kdC_0, kdC_1, kdC_2, kdC_3, kdC_4, kdC_5, kdC_6, kdC_7, kdC_8, kdC_9, kdC_10, kdC_11, kdC_12, kdC_13, kdC_14, kdC_15, kdC_16, kdU_1, kdU_2, kdU_3, kdU_4, kdU_5, kdU_6, kdU_7, kdU_, kdR_1, kdR_2, kdR_3, kdR_4, kdR_5, kdR_, rC_00, rC_01, rC_02, rC_03, rC_04, rC_10, rC_16, rC_18, rC_19, rC_1a, rC_20, rC_22, rC_23, rC_24, rC_25, rC_26, rC_27, rC_28, rC_4, rC_10k, rC_u3, rC_u5, rC_u7, rC_u9, rC_ua, rC_ub, rC_uc, rC_r4, rC_r5, rC_r6, rC_r7, rC_r8, Nat.add_zero, y1, y2]
  refine mP_findCycles_ (d := d + 13) hk.1 y.2.1 hb (fun h1 f1 l1 => ?_)
  simp (disch := omega) only [sP_findAll_16, ax_clr_i, ax_clr_l, ax_clr_r, ax_clr_n, ax_ct_0, ax_ct_i, ax_ct_l, ax_ct_r, va_rf_s, Option.toList_some, Option.toList_none, List.cons_append, List.nil_append, and_true, true_and, and_self, ite_true, ite_false, if_true, if_false, Nat.reduceAdd, Nat.reduceLeDiff, Nat.reduceMul, Nat.reduceLT]
  exact hQ h1 f1 l1
theorem dv64 {c i : Nat} (hc : c < 12) (hi : i < 64) : nI (64 * c + i) / nI 64 = nI c ∧ nI (64 * c + i) - nI (64 * c + i) / nI 64 * nI 64 = nI i := by
  have e : nI (64 * c + i) / nI 64 = nI c := by rw [pk_div (by omega) (by omega) (by omega), show (64 * c + i) / 64 = c by omega]
  refine ⟨e, ?_⟩
  rw [e, pk_mul, pk_sub (by omega), show 64 * c + i - c * 64 = i by omega]
theorem mP_findNew_l (r : Nat) (hr6 : r < 6) (y : rl4) (hk2 : y.1 ≤ 2) (n : Nat) (hn : n ≤ 624) : ∀ (S : List (Nat × Nat)) (i u : Nat) (L : List Nat) (h : ax_H) (x5 : Option Value), i + S.length = n → ckC o s x h us ps ty r y → (∀ v ∈ S, v.1 < us.length ∧ v.2 < (ocU (uAt us v.1)).length) → usd h r u y.2.2.2.length → (∀ j, j < S.length → h.1 5 (i + j) = nI (64 * (vA S j).1 + (vA S j).2)) → flC h L → L.length ≤ i → (∀ h' L', frq h h' → flC h' L' → L' = L ++ rnF us y.2.2.2 S u → Q (some (.int (nI L'.length))) h') → ax_wp kC (d + 19) mP_findNew 25 [some (.ref 0), some (.ref (121 + 6 * r)), some (.int (nI n)), some (.int (nI L.length)), some (.int (nI i)), x5] [] h Q
  | [], i, u, L, h, x5, hm, hk, hS, hu, hf, hl, hlen, hQ => by
    have e : i = n := by simpa using hm
    subst e
    rw [sP_findNew_25]
    simp (disch := omega) only [sP_findNew_27, sP_findNew_28, sP_findNew_94, sP_findNew_95, ax_clr_i, ax_clr_l, ax_clr_r, ax_clr_n, ax_ct_0, ax_ct_i, ax_ct_l, ax_ct_r, va_rf_s, Option.toList_some, Option.toList_none, List.cons_append, List.nil_append, and_true, true_and, and_self, ite_true, ite_false, if_true, if_false, Nat.reduceAdd, Nat.reduceLeDiff, Nat.reduceMul, Nat.reduceLT, nI_add, pk_mul, nI_lt', nI_le', nI_eq', nI_lt0, nI_ge0, nI_eq0, nI_gt0, nI_le0, nI_ne_m1, m1_ne_nI, m1_lt_nI, m1_le_nI, nI_lt_m1, nI_le_m1, nI_clamp, ax_in_nI, nI_shl, nI_shr, lg_cmp0, nx_and, nI_eq1, bI_0, bI_1, bf_or, eq_self, or_true, true_or, lt_T, le_T, lt_F, le_F, eq_F, eq_T]
    exact hQ h L frq.rf hl (by rw [rnF, List.append_nil])
  | v :: S, i, u, L, h, x5, hm, hk, hS, hu, hf, hl, hlen, hQ => by
    simp only [List.length_cons] at hm
    have h12 := hk.1.2.2.1
    have hr := hk.1.1
    obtain ⟨v1, v2⟩ := hS v (List.mem_cons_self ..)
    have lv := (ocU_v (hk.1.2.2.2.1 v.1 v1).2).2
    have ho := hk.1.2.2.2.2.1 v.1 (by omega)
    have f0 := hf 0 (by simp)
    rw [Nat.add_zero] at f0
    have f0 : h.1 5 i = nI (64 * v.1 + v.2) := f0
    obtain ⟨q1, q2⟩ := dv64 (c := v.1) (i := v.2) (by omega) (by omega)
    have n64 : (nI 64 = 0) = False := by rw [nI_eq0 (by omega)]; simp
    have hS2 : ∀ w ∈ S, w.1 < us.length ∧ w.2 < (ocU (uAt us w.1)).length := fun w hw => hS w (List.mem_cons_of_mem _ hw)
    have hf2 : ∀ j, j < S.length → h.1 5 (i + 1 + j) = nI (64 * (vA S j).1 + (vA S j).2) := fun j hj => by
      have := hf (j + 1) (by simp; omega)
      rw [show i + (j + 1) = i + 1 + j by omega] at this
      exact this
    obtain ⟨y1, y2, y3, y4, y5⟩ := hk.2.2.2
    rw [rnF] at hQ
    rw [sP_findNew_25]
    simp (disch := omega) only [sP_findNew_27, sP_findNew_28, sP_findNew_31, sP_findNew_32, sP_findNew_35, sP_findNew_37, sP_findNew_38, sP_findNew_40, sP_findNew_41, sP_findNew_43, sP_findNew_44, sP_findNew_46, sP_findNew_47, sP_findNew_50, sP_findNew_53, sP_findNew_55, sP_findNew_56, sP_findNew_57, sP_findNew_60, sP_findNew_62, sP_findNew_63, sP_findNew_65, ax_clr_i, ax_clr_l, ax_clr_r, ax_clr_n, ax_ct_0, ax_ct_i, ax_ct_l, ax_ct_r, va_rf_s, Option.toList_some, Option.toList_none, List.cons_append, List.nil_append, and_true, true_and, and_self, ite_true, ite_false, if_true, if_false, Nat.reduceAdd, Nat.reduceLeDiff, Nat.reduceMul, Nat.reduceLT, nI_add, pk_mul, nI_lt', nI_le', nI_eq', nI_lt0, nI_ge0, nI_eq0, nI_gt0, nI_le0, nI_ne_m1, m1_ne_nI, m1_lt_nI, m1_le_nI, nI_lt_m1, nI_le_m1, nI_clamp, ax_in_nI, nI_shl, nI_shr, lg_cmp0, nx_and, nI_eq1, bI_0, bI_1, bf_or, eq_self, or_true, true_or, lt_T, le_T, lt_F, le_F, eq_F, eq_T, kdC_0, kdC_1, kdC_2, kdC_3, kdC_4, kdC_5, kdC_6, kdC_7, kdC_8, kdC_9, kdC_10, kdC_11, kdC_12, kdC_13, kdC_14, kdC_15, kdC_16, kdU_1, kdU_2, kdU_3, kdU_4, kdU_5, kdU_6, kdU_7, kdU_, kdR_1, kdR_2, kdR_3, kdR_4, kdR_5, kdR_, rC_00, rC_01, rC_02, rC_03, rC_04, rC_10, rC_16, rC_18, rC_19, rC_1a, rC_20, rC_22, rC_23, rC_24, rC_25, rC_26, rC_27, rC_28, rC_4, rC_10k, rC_u3, rC_u5, rC_u7, rC_u9, rC_ua, rC_ub, rC_uc, rC_r4, rC_r5, rC_r6, rC_r7, rC_r8, Nat.add_zero, hr, f0, q2, n64, not_false_eq_true]
    simp (disch := omega) only [q1, q2, sP_findNew_41, sP_findNew_43, sP_findNew_44, sP_findNew_46, sP_findNew_47, sP_findNew_50, sP_findNew_53, sP_findNew_55, sP_findNew_56, sP_findNew_57, sP_findNew_60, sP_findNew_62, sP_findNew_63, sP_findNew_65, ax_clr_i, ax_clr_l, ax_clr_r, ax_clr_n, ax_ct_0, ax_ct_i, ax_ct_l, ax_ct_r, va_rf_s, Option.toList_some, Option.toList_none, List.cons_append, List.nil_append, and_true, true_and, and_self, ite_true, ite_false, if_true, if_false, Nat.reduceAdd, Nat.reduceLeDiff, Nat.reduceMul, Nat.reduceLT, nI_add, pk_mul, nI_lt', nI_le', nI_eq', nI_lt0, nI_ge0, nI_eq0, nI_gt0, nI_le0, nI_ne_m1, m1_ne_nI, m1_lt_nI, m1_le_nI, nI_lt_m1, nI_le_m1, nI_clamp, ax_in_nI, nI_shl, nI_shr, lg_cmp0, nx_and, nI_eq1, bI_0, bI_1, bf_or, eq_self, or_true, true_or, lt_T, le_T, lt_F, le_F, eq_F, eq_T, kdC_0, kdC_1, kdC_2, kdC_3, kdC_4, kdC_5, kdC_6, kdC_7, kdC_8, kdC_9, kdC_10, kdC_11, kdC_12, kdC_13, kdC_14, kdC_15, kdC_16, kdU_1, kdU_2, kdU_3, kdU_4, kdU_5, kdU_6, kdU_7, kdU_, kdR_1, kdR_2, kdR_3, kdR_4, kdR_5, kdR_, rC_00, rC_01, rC_02, rC_03, rC_04, rC_10, rC_16, rC_18, rC_19, rC_1a, rC_20, rC_22, rC_23, rC_24, rC_25, rC_26, rC_27, rC_28, rC_4, rC_10k, rC_u3, rC_u5, rC_u7, rC_u9, rC_ua, rC_ub, rC_uc, rC_r4, rC_r5, rC_r6, rC_r7, rC_r8, Nat.add_zero, hr, f0, n64, not_false_eq_true]
    rw [sP_findNew_66]
    refine ⟨⟨by simp (disch := omega) only [kdC_0, kdC_1, kdC_2, kdC_3, kdC_4, kdC_5, kdC_6, kdC_7, kdC_8, kdC_9, kdC_10, kdC_11, kdC_12, kdC_13, kdC_14, kdC_15, kdC_16, kdU_1, kdU_2, kdU_3, kdU_4, kdU_5, kdU_6, kdU_7, kdU_, kdR_1, kdR_2, kdR_3, kdR_4, kdR_5, kdR_, rC_00, rC_01, rC_02, rC_03, rC_04, rC_10, rC_16, rC_18, rC_19, rC_1a, rC_20, rC_22, rC_23, rC_24, rC_25, rC_26, rC_27, rC_28, rC_4, rC_10k, rC_u3, rC_u5, rC_u7, rC_u9, rC_ua, rC_ub, rC_uc, rC_r4, rC_r5, rC_r6, rC_r7, rC_r8, Nat.add_zero], by simp only [ax_clr_i, ax_clr_l, ax_clr_r, ax_clr_n, ax_ct_0, ax_ct_i, ax_ct_l, ax_ct_r, va_rf_s, Option.toList_some, Option.toList_none, List.cons_append, List.nil_append, and_true, true_and, and_self, ite_true, ite_false, if_true, if_false, Nat.reduceAdd, Nat.reduceLeDiff, Nat.reduceMul, Nat.reduceLT]⟩, ?_⟩
    refine mK_useKnown_ hk.1 r hr6 y.2.2.2 y4 y5.2.1 y5.2.2 v.1 v.2 u v1 v2 hu (fun k e => ?_) (fun e => ?_)
    · rw [show ((v.1, v.2) : Nat × Nat) = v from rfl] at e
      rw [e] at hQ
      have kl := fdF_some _ _ _ _ e
      have f2 : frq h (ax_upI h (121 + 6 * r + 5) k (bI true)) := frq.upu
      simp (disch := omega) only [sP_findNew_69, sP_findNew_88, sP_findNew_91, ax_clr_i, ax_clr_l, ax_clr_r, ax_clr_n, ax_ct_0, ax_ct_i, ax_ct_l, ax_ct_r, va_rf_s, Option.toList_some, Option.toList_none, List.cons_append, List.nil_append, and_true, true_and, and_self, ite_true, ite_false, if_true, if_false, Nat.reduceAdd, Nat.reduceLeDiff, Nat.reduceMul, Nat.reduceLT, nI_add, pk_mul, nI_lt', nI_le', nI_eq', nI_lt0, nI_ge0, nI_eq0, nI_gt0, nI_le0, nI_ne_m1, m1_ne_nI, m1_lt_nI, m1_le_nI, nI_lt_m1, nI_le_m1, nI_clamp, ax_in_nI, nI_shl, nI_shr, lg_cmp0, nx_and, nI_eq1, bI_0, bI_1, bf_or, eq_self, or_true, true_or, Bool.true_eq_false]
      refine mP_findNew_l r hr6 y hk2 n hn S (i + 1) (u ||| 2 ^ k) L _ _ (by omega) (hk.q f2) hS2 (fun j hj => ?_) (fun j hj => by rw [up_I, if_neg (by omega)]; exact hf2 j hj) (fun j hj => by rw [up_I, if_neg (by omega)]; exact hl j hj) (by omega) (fun h' L' f w1 w2 => hQ h' L' (f2.tr f) w1 w2)
      rw [up_I, tb_or]
      by_cases ej : j = k
      · rw [if_pos ⟨rfl, ej⟩, ej, decide_eq_true rfl, Bool.or_true]
      · rw [if_neg (by omega), decide_eq_false (fun q => ej q.symm), Bool.or_false]; exact hu j hj
    · rw [show ((v.1, v.2) : Nat × Nat) = v from rfl] at e
      rw [e] at hQ
      have f2 : frq h (ax_upI h 5 L.length (nI (64 * v.1 + v.2))) := frq.up5
      simp (disch := omega) only [sP_findNew_69, sP_findNew_72, sP_findNew_73, sP_findNew_76, sP_findNew_77, sP_findNew_78, sP_findNew_81, sP_findNew_83, sP_findNew_84, sP_findNew_85, sP_findNew_88, sP_findNew_91, ax_clr_i, ax_clr_l, ax_clr_r, ax_clr_n, ax_ct_0, ax_ct_i, ax_ct_l, ax_ct_r, va_rf_s, Option.toList_some, Option.toList_none, List.cons_append, List.nil_append, and_true, true_and, and_self, ite_true, ite_false, if_true, if_false, Nat.reduceAdd, Nat.reduceLeDiff, Nat.reduceMul, Nat.reduceLT, nI_add, pk_mul, nI_lt', nI_le', nI_eq', nI_lt0, nI_ge0, nI_eq0, nI_gt0, nI_le0, nI_ne_m1, m1_ne_nI, m1_lt_nI, m1_le_nI, nI_lt_m1, nI_le_m1, nI_clamp, ax_in_nI, nI_shl, nI_shr, lg_cmp0, nx_and, nI_eq1, bI_0, bI_1, bf_or, eq_self, or_true, true_or, lt_T, le_T, lt_F, le_F, eq_F, eq_T, kdC_0, kdC_1, kdC_2, kdC_3, kdC_4, kdC_5, kdC_6, kdC_7, kdC_8, kdC_9, kdC_10, kdC_11, kdC_12, kdC_13, kdC_14, kdC_15, kdC_16, kdU_1, kdU_2, kdU_3, kdU_4, kdU_5, kdU_6, kdU_7, kdU_, kdR_1, kdR_2, kdR_3, kdR_4, kdR_5, kdR_, rC_00, rC_01, rC_02, rC_03, rC_04, rC_10, rC_16, rC_18, rC_19, rC_1a, rC_20, rC_22, rC_23, rC_24, rC_25, rC_26, rC_27, rC_28, rC_4, rC_10k, rC_u3, rC_u5, rC_u7, rC_u9, rC_ua, rC_ub, rC_uc, rC_r4, rC_r5, rC_r6, rC_r7, rC_r8, Nat.add_zero, hr, f0]
      have el : L.length + 1 = (L ++ [64 * v.1 + v.2]).length := by simp
      rw [el]
      have hl2 := hl.app (h' := ax_upI h 5 L.length (nI (64 * v.1 + v.2))) (64 * v.1 + v.2) (fun j hj => by rw [up_I, if_neg (by omega)]) (up_at _ _ _ _)
      refine mP_findNew_l r hr6 y hk2 n hn S (i + 1) u (L ++ [64 * v.1 + v.2]) _ _ (by omega) (hk.q f2) hS2 (fun j hj => by rw [up_I, if_neg (by omega)]; exact hu j hj) (fun j hj => by rw [up_I, if_neg (by omega)]; exact hf2 j hj) hl2 (by simp; omega) (fun h' L' f w1 w2 => hQ h' L' (f2.tr f) w1 (by rw [w2, List.append_assoc]; rfl))
theorem mP_findNew_ {h : ax_H} (r : Nat) (hr6 : r < 6) (y : rl4) (hk : ckC o s x h us ps ty r y) (hQ : ∀ h', frq h h' → flC h' (frU us ps y) → Q (some (.int (nI (frU us ps y).length))) h') : ax_wp kC (d + 19) mP_findNew 0 [some (.ref 0), some (.ref (121 + 6 * r)), none, none, none, none] [] h Q := by
  have y5 := hk.2.2.2.2.2.2.2
  simp (disch := omega) only [sP_findNew_0, sP_findNew_1, sP_findNew_2, ax_clr_i, ax_clr_l, ax_clr_r, ax_clr_n, ax_ct_0, ax_ct_i, ax_ct_l, ax_ct_r, va_rf_s, Option.toList_some, Option.toList_none, List.cons_append, List.nil_append, and_true, true_and, and_self, ite_true, ite_false, if_true, if_false, Nat.reduceAdd, Nat.reduceLeDiff, Nat.reduceMul, Nat.reduceLT, kdC_0, kdC_1, kdC_2, kdC_3, kdC_4, kdC_5, kdC_6, kdC_7, kdC_8, kdC_9, kdC_10, kdC_11, kdC_12, kdC_13, kdC_14, kdC_15, kdC_16, kdU_1, kdU_2, kdU_3, kdU_4, kdU_5, kdU_6, kdU_7, kdU_, kdR_1, kdR_2, kdR_3, kdR_4, kdR_5, kdR_, rC_00, rC_01, rC_02, rC_03, rC_04, rC_10, rC_16, rC_18, rC_19, rC_1a, rC_20, rC_22, rC_23, rC_24, rC_25, rC_26, rC_27, rC_28, rC_4, rC_10k, rC_u3, rC_u5, rC_u7, rC_u9, rC_ua, rC_ub, rC_uc, rC_r4, rC_r5, rC_r6, rC_r7, rC_r8, Nat.add_zero]
  unfold frU at hQ
  by_cases e3 : y.1 = 3
  · rw [if_pos e3] at hQ
    refine mP_findAll_c r hr6 y hk e3 (fun h1 f1 l1 => ?_)
    have y1 := (hk.q f1).2.2.2.1
    rw [e3] at y1
    simp (disch := omega) only [sP_findNew_5, sP_findNew_6, sP_findNew_7, sP_findNew_10, sP_findNew_11, sP_findNew_14, sP_findNew_15, ax_clr_i, ax_clr_l, ax_clr_r, ax_clr_n, ax_ct_0, ax_ct_i, ax_ct_l, ax_ct_r, va_rf_s, Option.toList_some, Option.toList_none, List.cons_append, List.nil_append, and_true, true_and, and_self, ite_true, ite_false, if_true, if_false, Nat.reduceAdd, Nat.reduceLeDiff, Nat.reduceMul, Nat.reduceLT, nI_add, pk_mul, nI_lt', nI_le', nI_eq', nI_lt0, nI_ge0, nI_eq0, nI_gt0, nI_le0, nI_ne_m1, m1_ne_nI, m1_lt_nI, m1_le_nI, nI_lt_m1, nI_le_m1, nI_clamp, ax_in_nI, nI_shl, nI_shr, lg_cmp0, nx_and, nI_eq1, bI_0, bI_1, bf_or, eq_self, or_true, true_or, lt_T, le_T, lt_F, le_F, eq_F, eq_T, kdC_0, kdC_1, kdC_2, kdC_3, kdC_4, kdC_5, kdC_6, kdC_7, kdC_8, kdC_9, kdC_10, kdC_11, kdC_12, kdC_13, kdC_14, kdC_15, kdC_16, kdU_1, kdU_2, kdU_3, kdU_4, kdU_5, kdU_6, kdU_7, kdU_, kdR_1, kdR_2, kdR_3, kdR_4, kdR_5, kdR_, rC_00, rC_01, rC_02, rC_03, rC_04, rC_10, rC_16, rC_18, rC_19, rC_1a, rC_20, rC_22, rC_23, rC_24, rC_25, rC_26, rC_27, rC_28, rC_4, rC_10k, rC_u3, rC_u5, rC_u7, rC_u9, rC_ua, rC_ub, rC_uc, rC_r4, rC_r5, rC_r6, rC_r7, rC_r8, Nat.add_zero, y1]
    exact hQ h1 f1 l1
  · rw [if_neg e3] at hQ
    have hk2 : y.1 ≤ 2 := by rcases y5.1 with w | w <;> omega
    refine mP_findAll_ r hr6 y hk hk2 (fun h1 f1 v1 => ?_)
    have hk1 := hk.q f1
    have y1 := hk1.2.2.2.1
    have y4 := hk1.2.2.2.2.2.2.1
    have h12 := hk.1.2.2.1
    have gv := gC_v us ps y (fun c hc => (hk.1.2.2.2.1 c hc).2) us.length 0 (by omega)
    have gl : (gaU us ps y).length ≤ 52 * us.length := gv.1
    simp (disch := omega) only [sP_findNew_5, sP_findNew_6, sP_findNew_7, sP_findNew_10, sP_findNew_11, sP_findNew_14, sP_findNew_15, sP_findNew_16, sP_findNew_17, ax_clr_i, ax_clr_l, ax_clr_r, ax_clr_n, ax_ct_0, ax_ct_i, ax_ct_l, ax_ct_r, va_rf_s, Option.toList_some, Option.toList_none, List.cons_append, List.nil_append, and_true, true_and, and_self, ite_true, ite_false, if_true, if_false, Nat.reduceAdd, Nat.reduceLeDiff, Nat.reduceMul, Nat.reduceLT, nI_add, pk_mul, nI_lt', nI_le', nI_eq', nI_lt0, nI_ge0, nI_eq0, nI_gt0, nI_le0, nI_ne_m1, m1_ne_nI, m1_lt_nI, m1_le_nI, nI_lt_m1, nI_le_m1, nI_clamp, ax_in_nI, nI_shl, nI_shr, lg_cmp0, nx_and, nI_eq1, bI_0, bI_1, bf_or, eq_self, or_true, true_or, lt_T, le_T, lt_F, le_F, eq_F, eq_T, kdC_0, kdC_1, kdC_2, kdC_3, kdC_4, kdC_5, kdC_6, kdC_7, kdC_8, kdC_9, kdC_10, kdC_11, kdC_12, kdC_13, kdC_14, kdC_15, kdC_16, kdU_1, kdU_2, kdU_3, kdU_4, kdU_5, kdU_6, kdU_7, kdU_, kdR_1, kdR_2, kdR_3, kdR_4, kdR_5, kdR_, rC_00, rC_01, rC_02, rC_03, rC_04, rC_10, rC_16, rC_18, rC_19, rC_1a, rC_20, rC_22, rC_23, rC_24, rC_25, rC_26, rC_27, rC_28, rC_4, rC_10k, rC_u3, rC_u5, rC_u7, rC_u9, rC_ua, rC_ub, rC_uc, rC_r4, rC_r5, rC_r6, rC_r7, rC_r8, Nat.add_zero, y1]
    refine mK_forgetUses_ r hr6 y.2.2.2.length y5.2.1 hk1.1.1 y4.1 (fun h2 f2 u2 => ?_)
    simp (disch := omega) only [sP_findNew_20, sP_findNew_21, sP_findNew_22, sP_findNew_23, ax_clr_i, ax_clr_l, ax_clr_r, ax_clr_n, ax_ct_0, ax_ct_i, ax_ct_l, ax_ct_r, va_rf_s, Option.toList_some, Option.toList_none, List.cons_append, List.nil_append, and_true, true_and, and_self, ite_true, ite_false, if_true, if_false, Nat.reduceAdd, Nat.reduceLeDiff, Nat.reduceMul, Nat.reduceLT]
    refine mP_findNew_l r hr6 y hk2 (gaU us ps y).length (by omega) (gaU us ps y) 0 0 [] h2 none (by omega) (hk1.q f2.qu) gv.2 u2 (fun j hj => ?_) (fun j hj => by simp at hj) (by simp) (fun h3 L' f3 w1 w2 => ?_)
    · rw [Nat.zero_add]
      have := v1 j hj
      rw [← this]
      exact f2.2 _ _ (by omega)
    · rw [List.nil_append] at w2
      subst w2
      exact hQ h3 ((f1.tr f2.qu).tr f3) w1
end CV
