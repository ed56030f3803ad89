/-! the class: methods that are not where the access begins; targets -/
section CT
variable {d : Nat} {Q : Option Value → ax_H → Prop} {o : Nat → Nat} {s : Nat} {x : Option Nat} {us : List (List Nat)}
theorem mG_methodFrom_1 {h : ax_H} (hc : usC o s x h us) (hl : lkC h us) (t : List Nat) (ht : vT t) (y1 : Int32) : ∀ (f i : Nat) (q : Option Nat), i + f = 12 → (∀ y, q = some y → y < us.length) → (∀ r, mO1 us t f q = some r → Q (some (.int (nI r))) h) → (mO1 us t f q = none → ∀ y4 y5 : Int32, ax_wp kC (d + 15) mG_methodFrom 51 [some (.ref 2), some (.int y1), some (.long (lN (pL t))), none, some (.int y4), some (.int y5), none, none] [] h Q) → ax_wp kC (d + 15) mG_methodFrom 6 [some (.ref 2), some (.int y1), some (.long (lN (pL t))), none, some (.int (oI q)), some (.int (nI i)), none, none] [] h Q
  | 0, i, q, hi, hq, hQ1, hQ0 => by
    rw [sG_methodFrom_6]
    simp (disch := omega) only [sG_methodFrom_8, sG_methodFrom_10, ax_clr_i, ax_clr_l, ax_clr_r, ax_clr_n, ax_ct_0, ax_ct_i, ax_ct_l, ax_ct_r, va_rf_s, Option.toList_some, Option.toList_none, List.cons_append, List.nil_append, and_true, true_and, and_self, ite_true, ite_false, if_true, if_false, Nat.reduceAdd, Nat.reduceLeDiff, Nat.reduceMul, Nat.reduceLT, nI_add, pk_mul, nI_lt', nI_le', nI_eq', nI_lt0, nI_ge0, nI_eq0, nI_gt0, nI_le0, nI_ne_m1, m1_ne_nI, m1_lt_nI, m1_le_nI, nI_lt_m1, nI_le_m1, nI_clamp, ax_in_nI, nI_shl, nI_shr, lg_cmp0, nx_and, nI_eq1, bI_0, bI_1, bf_or, eq_self, or_true, true_or, lt_T, le_T, lt_F, le_F, eq_F, eq_T]
    exact hQ0 rfl _ _
  | f + 1, i, none, hi, hq, hQ1, hQ0 => by
    rw [sG_methodFrom_6]
    simp (disch := omega) only [sG_methodFrom_8, sG_methodFrom_10, sG_methodFrom_13, sG_methodFrom_15, sG_methodFrom_16, ax_clr_i, ax_clr_l, ax_clr_r, ax_clr_n, ax_ct_0, ax_ct_i, ax_ct_l, ax_ct_r, va_rf_s, Option.toList_some, Option.toList_none, List.cons_append, List.nil_append, and_true, true_and, and_self, ite_true, ite_false, if_true, if_false, Nat.reduceAdd, Nat.reduceLeDiff, Nat.reduceMul, Nat.reduceLT, nI_add, pk_mul, nI_lt', nI_le', nI_eq', nI_lt0, nI_ge0, nI_eq0, nI_gt0, nI_le0, nI_ne_m1, m1_ne_nI, m1_lt_nI, m1_le_nI, nI_lt_m1, nI_le_m1, nI_clamp, ax_in_nI, nI_shl, nI_shr, lg_cmp0, nx_and, nI_eq1, bI_0, bI_1, bf_or, eq_self, or_true, true_or, lt_T, le_T, lt_F, le_F, eq_F, eq_T, oI_n]
    exact hQ0 rfl _ _
  | f + 1, i, some c, hi, hq, hQ1, hQ0 => by
    have hcl := hq c rfl
    have hr := hc.1
    have h12 := hc.2.2.1
    have ho := hc.2.2.2.2.1 c (by omega)
    have hk1 := (hc.2.2.2.1 c hcl)
    have r0 := (hl c hcl).1
    rw [mO1] at hQ1 hQ0
    rw [sG_methodFrom_6]
    simp (disch := omega) only [sG_methodFrom_8, sG_methodFrom_10, sG_methodFrom_13, sG_methodFrom_15, sG_methodFrom_16, sG_methodFrom_19, sG_methodFrom_20, sG_methodFrom_23, sG_methodFrom_25, sG_methodFrom_26, sG_methodFrom_27, ax_clr_i, ax_clr_l, ax_clr_r, ax_clr_n, ax_ct_0, ax_ct_i, ax_ct_l, ax_ct_r, va_rf_s, Option.toList_some, Option.toList_none, List.cons_append, List.nil_append, and_true, true_and, and_self, ite_true, ite_false, if_true, if_false, Nat.reduceAdd, Nat.reduceLeDiff, Nat.reduceMul, Nat.reduceLT, nI_add, pk_mul, nI_lt', nI_le', nI_eq', nI_lt0, nI_ge0, nI_eq0, nI_gt0, nI_le0, nI_ne_m1, m1_ne_nI, m1_lt_nI, m1_le_nI, nI_lt_m1, nI_le_m1, nI_clamp, ax_in_nI, nI_shl, nI_shr, lg_cmp0, nx_and, nI_eq1, bI_0, bI_1, bf_or, eq_self, or_true, true_or, lt_T, le_T, lt_F, le_F, eq_F, eq_T, kdC_0, kdC_1, kdC_2, kdC_3, kdC_4, kdC_5, kdC_6, kdC_7, kdC_8, kdC_9, kdC_10, kdC_11, kdC_12, kdC_13, kdC_14, kdC_15, kdC_16, kdU_1, kdU_2, kdU_3, kdU_4, kdU_5, kdU_6, kdU_7, kdU_, kdR_1, kdR_2, kdR_3, kdR_4, kdR_5, kdR_, rC_00, rC_01, rC_02, rC_03, rC_04, rC_10, rC_16, rC_18, rC_19, rC_1a, rC_20, rC_22, rC_23, rC_24, rC_25, rC_26, rC_27, rC_28, rC_4, rC_10k, rC_u3, rC_u5, rC_u7, rC_u9, rC_ua, rC_ub, rC_uc, rC_r4, rC_r5, rC_r6, rC_r7, rC_r8, Nat.add_zero, oI_s, hr, mU_hasMethod_ hr (o c) ho hk1.1.2.2.2.2.1 (mtU_v hk1.2).1 (mtU_v hk1.2).2 t ht, hasM_any]
    have ehs : hasM (uAt us c) t = hsU us false t c := rfl
    rw [ehs]
    by_cases b2 : hsU us false t c = true
    · rw [if_pos b2] at hQ1
      simp (disch := omega) only [sG_methodFrom_30, sG_methodFrom_33, sG_methodFrom_35, ax_clr_i, ax_clr_l, ax_clr_r, ax_clr_n, ax_ct_0, ax_ct_i, ax_ct_l, ax_ct_r, va_rf_s, Option.toList_some, Option.toList_none, List.cons_append, List.nil_append, and_true, true_and, and_self, ite_true, ite_false, if_true, if_false, Nat.reduceAdd, Nat.reduceLeDiff, Nat.reduceMul, Nat.reduceLT, nI_add, pk_mul, nI_lt', nI_le', nI_eq', nI_lt0, nI_ge0, nI_eq0, nI_gt0, nI_le0, nI_ne_m1, m1_ne_nI, m1_lt_nI, m1_le_nI, nI_lt_m1, nI_le_m1, nI_clamp, ax_in_nI, nI_shl, nI_shr, lg_cmp0, nx_and, nI_eq1, bI_0, bI_1, bf_or, eq_self, or_true, true_or, b2, Bool.true_eq_false]
      exact hQ1 c rfl
    · rw [if_neg b2] at hQ1 hQ0
      have b3 : hsU us false t c = false := by simpa using b2
      simp (disch := omega) only [sG_methodFrom_30, sG_methodFrom_36, sG_methodFrom_37, sG_methodFrom_40, sG_methodFrom_42, sG_methodFrom_43, sG_methodFrom_45, sG_methodFrom_48, ax_clr_i, ax_clr_l, ax_clr_r, ax_clr_n, ax_ct_0, ax_ct_i, ax_ct_l, ax_ct_r, va_rf_s, Option.toList_some, Option.toList_none, List.cons_append, List.nil_append, and_true, true_and, and_self, ite_true, ite_false, if_true, if_false, Nat.reduceAdd, Nat.reduceLeDiff, Nat.reduceMul, Nat.reduceLT, nI_add, pk_mul, nI_lt', nI_le', nI_eq', nI_lt0, nI_ge0, nI_eq0, nI_gt0, nI_le0, nI_ne_m1, m1_ne_nI, m1_lt_nI, m1_le_nI, nI_lt_m1, nI_le_m1, nI_clamp, ax_in_nI, nI_shl, nI_shr, lg_cmp0, nx_and, nI_eq1, bI_0, bI_1, bf_or, eq_self, or_true, true_or, lt_T, le_T, lt_F, le_F, eq_F, eq_T, kdC_0, kdC_1, kdC_2, kdC_3, kdC_4, kdC_5, kdC_6, kdC_7, kdC_8, kdC_9, kdC_10, kdC_11, kdC_12, kdC_13, kdC_14, kdC_15, kdC_16, kdU_1, kdU_2, kdU_3, kdU_4, kdU_5, kdU_6, kdU_7, kdU_, kdR_1, kdR_2, kdR_3, kdR_4, kdR_5, kdR_, rC_00, rC_01, rC_02, rC_03, rC_04, rC_10, rC_16, rC_18, rC_19, rC_1a, rC_20, rC_22, rC_23, rC_24, rC_25, rC_26, rC_27, rC_28, rC_4, rC_10k, rC_u3, rC_u5, rC_u7, rC_u9, rC_ua, rC_ub, rC_uc, rC_r4, rC_r5, rC_r6, rC_r7, rC_r8, Nat.add_zero, b3, hr, r0]
      exact mG_methodFrom_1 hc hl t ht y1 f (i + 1) (parU us c 0) (by omega) (fun y w => parU_lt w) hQ1 hQ0
theorem mG_methodFrom_j (t : List Nat) (ht : vT t) (y1 y6 : Int32) (c : Nat) (hcl : c < us.length) : ∀ (m j v : Nat) (h : ax_H), j + m = niU us c → usC o s x h us → lkC h us → h.1 2 9 = nI v → v < 2 ^ 12 → (∀ h' j', fr9 h h' → h'.1 2 9 = nI (dL (dF us false t 13) (lI us c m j) v).2 → ax_wp kC (d + 15) mG_methodFrom 125 [some (.ref 2), some (.int y1), some (.long (lN (pL t))), none, some (.int (nI c)), some (.int (oI (dL (dF us false t 13) (lI us c m j) v).1)), some (.int y6), some (.int (nI j'))] [] h' Q) → ax_wp kC (d + 15) mG_methodFrom 82 [some (.ref 2), some (.int y1), some (.long (lN (pL t))), none, some (.int (nI c)), some (.int (-1)), some (.int y6), some (.int (nI j))] [] h Q
  | 0, j, v, h, hm, hc, hl, h9, hv, hQ => by
    have hr := hc.1
    have h12 := hc.2.2.1
    have ho := hc.2.2.2.2.1 c (by omega)
    obtain ⟨i1, i2, i3⟩ := hc.ifc hcl
    rw [sG_methodFrom_82]
    simp (disch := omega) only [sG_methodFrom_84, sG_methodFrom_85, sG_methodFrom_88, sG_methodFrom_90, sG_methodFrom_91, sG_methodFrom_94, ax_clr_i, ax_clr_l, ax_clr_r, ax_clr_n, ax_ct_0, ax_ct_i, ax_ct_l, ax_ct_r, va_rf_s, Option.toList_some, Option.toList_none, List.cons_append, List.nil_append, and_true, true_and, and_self, ite_true, ite_false, if_true, if_false, Nat.reduceAdd, Nat.reduceLeDiff, Nat.reduceMul, Nat.reduceLT, nI_add, pk_mul, nI_lt', nI_le', nI_eq', nI_lt0, nI_ge0, nI_eq0, nI_gt0, nI_le0, nI_ne_m1, m1_ne_nI, m1_lt_nI, m1_le_nI, nI_lt_m1, nI_le_m1, nI_clamp, ax_in_nI, nI_shl, nI_shr, lg_cmp0, nx_and, nI_eq1, bI_0, bI_1, bf_or, eq_self, or_true, true_or, lt_T, le_T, lt_F, le_F, eq_F, eq_T, kdC_0, kdC_1, kdC_2, kdC_3, kdC_4, kdC_5, kdC_6, kdC_7, kdC_8, kdC_9, kdC_10, kdC_11, kdC_12, kdC_13, kdC_14, kdC_15, kdC_16, kdU_1, kdU_2, kdU_3, kdU_4, kdU_5, kdU_6, kdU_7, kdU_, kdR_1, kdR_2, kdR_3, kdR_4, kdR_5, kdR_, rC_00, rC_01, rC_02, rC_03, rC_04, rC_10, rC_16, rC_18, rC_19, rC_1a, rC_20, rC_22, rC_23, rC_24, rC_25, rC_26, rC_27, rC_28, rC_4, rC_10k, rC_u3, rC_u5, rC_u7, rC_u9, rC_ua, rC_ub, rC_uc, rC_r4, rC_r5, rC_r6, rC_r7, rC_r8, Nat.add_zero, hr, i1]
    exact hQ h j fr9.rf h9
  | m + 1, j, v, h, hm, hc, hl, h9, hv, hQ => by
    have hr := hc.1
    have h12 := hc.2.2.1
    have ho := hc.2.2.2.2.1 c (by omega)
    obtain ⟨i1, i2, i3⟩ := hc.ifc hcl
    have pl : ∀ y, parU us c (j + 1) = some y → y < us.length := fun y w => parU_lt w
    have vl := dF_lt h12 false t 13 (parU us c (j + 1)) v (fun y w => by have := pl y w; omega) hv
    rw [sG_methodFrom_82]
    simp (disch := omega) only [sG_methodFrom_84, sG_methodFrom_85, sG_methodFrom_88, sG_methodFrom_90, sG_methodFrom_91, sG_methodFrom_94, sG_methodFrom_97, sG_methodFrom_99, sG_methodFrom_100, sG_methodFrom_103, sG_methodFrom_104, sG_methodFrom_105, sG_methodFrom_107, sG_methodFrom_109, sG_methodFrom_112, sG_methodFrom_113, ax_clr_i, ax_clr_l, ax_clr_r, ax_clr_n, ax_ct_0, ax_ct_i, ax_ct_l, ax_ct_r, va_rf_s, Option.toList_some, Option.toList_none, List.cons_append, List.nil_append, and_true, true_and, and_self, ite_true, ite_false, if_true, if_false, Nat.reduceAdd, Nat.reduceLeDiff, Nat.reduceMul, Nat.reduceLT, nI_add, pk_mul, nI_lt', nI_le', nI_eq', nI_lt0, nI_ge0, nI_eq0, nI_gt0, nI_le0, nI_ne_m1, m1_ne_nI, m1_lt_nI, m1_le_nI, nI_lt_m1, nI_le_m1, nI_clamp, ax_in_nI, nI_shl, nI_shr, lg_cmp0, nx_and, nI_eq1, bI_0, bI_1, bf_or, eq_self, or_true, true_or, lt_T, le_T, lt_F, le_F, eq_F, eq_T, kdC_0, kdC_1, kdC_2, kdC_3, kdC_4, kdC_5, kdC_6, kdC_7, kdC_8, kdC_9, kdC_10, kdC_11, kdC_12, kdC_13, kdC_14, kdC_15, kdC_16, kdU_1, kdU_2, kdU_3, kdU_4, kdU_5, kdU_6, kdU_7, kdU_, kdR_1, kdR_2, kdR_3, kdR_4, kdR_5, kdR_, rC_00, rC_01, rC_02, rC_03, rC_04, rC_10, rC_16, rC_18, rC_19, rC_1a, rC_20, rC_22, rC_23, rC_24, rC_25, rC_26, rC_27, rC_28, rC_4, rC_10k, rC_u3, rC_u5, rC_u7, rC_u9, rC_ua, rC_ub, rC_uc, rC_r4, rC_r5, rC_r6, rC_r7, rC_r8, Nat.add_zero, hr, i1, mG_interfaceOf_ hc hl c j hcl (show j < niU us c by omega)]
    rw [sG_methodFrom_114]
    refine ⟨⟨by simp only [kdC_0, kdC_1, kdC_2, kdC_3, kdC_4, kdC_5, kdC_6, kdC_7, kdC_8, kdC_9, kdC_10, kdC_11, kdC_12, kdC_13, kdC_14, kdC_15, kdC_16, kdU_1, kdU_2, kdU_3, kdU_4, kdU_5, kdU_6, kdU_7, kdU_, kdR_1, kdR_2, kdR_3, kdR_4, kdR_5, kdR_, rC_00, rC_01, rC_02, rC_03, rC_04, rC_10, rC_16, rC_18, rC_19, rC_1a, rC_20, rC_22, rC_23, rC_24, rC_25, rC_26, rC_27, rC_28, rC_4, rC_10k, rC_u3, rC_u5, rC_u7, rC_u9, rC_ua, rC_ub, rC_uc, rC_r4, rC_r5, rC_r6, rC_r7, rC_r8, Nat.add_zero], by simp only [ax_clr_i, ax_clr_l, ax_clr_r, ax_clr_n, ax_ct_0, ax_ct_i, ax_ct_l, ax_ct_r, va_rf_s, Option.toList_some, Option.toList_none, List.cons_append, List.nil_append, and_true, true_and, and_self, ite_true, ite_false, if_true, if_false, Nat.reduceAdd, Nat.reduceLeDiff, Nat.reduceMul, Nat.reduceLT]⟩, ?_⟩
    refine mG_faceFrom_s (d := d) t ht 13 0 (parU us c (j + 1)) v h _ (by omega) hc hl h9 hv pl (fun h1 f1 n1 => ?_)
    rw [lI, dL] at hQ
    rcases hd : dF us false t 13 (parU us c (j + 1)) v with ⟨o1, v1⟩
    rw [hd] at hQ n1 vl
    simp (disch := omega) only [sG_methodFrom_117, sG_methodFrom_119, sG_methodFrom_122, ax_clr_i, ax_clr_l, ax_clr_r, ax_clr_n, ax_ct_0, ax_ct_i, ax_ct_l, ax_ct_r, va_rf_s, Option.toList_some, Option.toList_none, List.cons_append, List.nil_append, and_true, true_and, and_self, ite_true, ite_false, if_true, if_false, Nat.reduceAdd, Nat.reduceLeDiff, Nat.reduceMul, Nat.reduceLT, nI_add]
    cases o1 with
    | some r =>
      have rl : r < us.length := dF_some_lt (us := us) h12 (fl := false) (t := t) 13 (parU us c (j + 1)) v r (fun y w => pl y w) (by rw [hd])
      have hc1 := hc.f9 f1
      have hr1 := hc1.1
      have i11 := (hc1.ifc hcl).1
      rw [sG_methodFrom_82]
      simp (disch := omega) only [sG_methodFrom_84, sG_methodFrom_85, sG_methodFrom_88, sG_methodFrom_90, sG_methodFrom_91, sG_methodFrom_94, sG_methodFrom_97, sG_methodFrom_99, sG_methodFrom_100, ax_clr_i, ax_clr_l, ax_clr_r, ax_clr_n, ax_ct_0, ax_ct_i, ax_ct_l, ax_ct_r, va_rf_s, Option.toList_some, Option.toList_none, List.cons_append, List.nil_append, and_true, true_and, and_self, ite_true, ite_false, if_true, if_false, Nat.reduceAdd, Nat.reduceLeDiff, Nat.reduceMul, Nat.reduceLT, nI_add, pk_mul, nI_lt', nI_le', nI_eq', nI_lt0, nI_ge0, nI_eq0, nI_gt0, nI_le0, nI_ne_m1, m1_ne_nI, m1_lt_nI, m1_le_nI, nI_lt_m1, nI_le_m1, nI_clamp, ax_in_nI, nI_shl, nI_shr, lg_cmp0, nx_and, nI_eq1, bI_0, bI_1, bf_or, eq_self, or_true, true_or, lt_T, le_T, lt_F, le_F, eq_F, eq_T, kdC_0, kdC_1, kdC_2, kdC_3, kdC_4, kdC_5, kdC_6, kdC_7, kdC_8, kdC_9, kdC_10, kdC_11, kdC_12, kdC_13, kdC_14, kdC_15, kdC_16, kdU_1, kdU_2, kdU_3, kdU_4, kdU_5, kdU_6, kdU_7, kdU_, kdR_1, kdR_2, kdR_3, kdR_4, kdR_5, kdR_, rC_00, rC_01, rC_02, rC_03, rC_04, rC_10, rC_16, rC_18, rC_19, rC_1a, rC_20, rC_22, rC_23, rC_24, rC_25, rC_26, rC_27, rC_28, rC_4, rC_10k, rC_u3, rC_u5, rC_u7, rC_u9, rC_ua, rC_ub, rC_uc, rC_r4, rC_r5, rC_r6, rC_r7, rC_r8, Nat.add_zero, hr1, i11, oI_s, ite_self]
      exact hQ h1 (j + 1) f1 n1
    | none =>
      exact mG_methodFrom_j t ht y1 y6 c hcl m (j + 1) v1 h1 (by omega) (hc.f9 f1) (hl.f9 f1) n1 vl (fun h' j' f => hQ h' j' (f1.tr f))
theorem mG_methodFrom_2 (t : List Nat) (ht : vT t) (y1 : Int32) : ∀ (f i : Nat) (q : Option Nat) (v : Nat) (h : ax_H) (x7 : Option Value), i + f = 12 → usC o s x h us → lkC h us → h.1 2 9 = nI v → v < 2 ^ 12 → clo us false t v → (∀ y, q = some y → y < us.length) → (∀ h', fr9 h h' → Q (some (.int (oI (mO2 us t f q)))) h') → ax_wp kC (d + 15) mG_methodFrom 60 [some (.ref 2), some (.int y1), some (.long (lN (pL t))), none, some (.int (oI q)), some (.int (-1)), some (.int (nI i)), x7] [] h Q
  | 0, i, q, v, h, x7, hi, hc, hl, h9, hv, hV, hq, hQ => by
    rw [sG_methodFrom_60]
    simp (disch := omega) only [sG_methodFrom_62, sG_methodFrom_64, sG_methodFrom_140, sG_methodFrom_142, ax_clr_i, ax_clr_l, ax_clr_r, ax_clr_n, ax_ct_0, ax_ct_i, ax_ct_l, ax_ct_r, va_rf_s, Option.toList_some, Option.toList_none, List.cons_append, List.nil_append, and_true, true_and, and_self, ite_true, ite_false, if_true, if_false, Nat.reduceAdd, Nat.reduceLeDiff, Nat.reduceMul, Nat.reduceLT, nI_add, pk_mul, nI_lt', nI_le', nI_eq', nI_lt0, nI_ge0, nI_eq0, nI_gt0, nI_le0, nI_ne_m1, m1_ne_nI, m1_lt_nI, m1_le_nI, nI_lt_m1, nI_le_m1, nI_clamp, ax_in_nI, nI_shl, nI_shr, lg_cmp0, nx_and, nI_eq1, bI_0, bI_1, bf_or, eq_self, or_true, true_or, lt_T, le_T, lt_F, le_F, eq_F, eq_T]
    exact hQ h fr9.rf
  | f + 1, i, none, v, h, x7, hi, hc, hl, h9, hv, hV, hq, hQ => by
    rw [sG_methodFrom_60]
    simp (disch := omega) only [sG_methodFrom_62, sG_methodFrom_64, sG_methodFrom_67, sG_methodFrom_69, sG_methodFrom_70, sG_methodFrom_140, sG_methodFrom_142, ax_clr_i, ax_clr_l, ax_clr_r, ax_clr_n, ax_ct_0, ax_ct_i, ax_ct_l, ax_ct_r, va_rf_s, Option.toList_some, Option.toList_none, List.cons_append, List.nil_append, and_true, true_and, and_self, ite_true, ite_false, if_true, if_false, Nat.reduceAdd, Nat.reduceLeDiff, Nat.reduceMul, Nat.reduceLT, nI_add, pk_mul, nI_lt', nI_le', nI_eq', nI_lt0, nI_ge0, nI_eq0, nI_gt0, nI_le0, nI_ne_m1, m1_ne_nI, m1_lt_nI, m1_le_nI, nI_lt_m1, nI_le_m1, nI_clamp, ax_in_nI, nI_shl, nI_shr, lg_cmp0, nx_and, nI_eq1, bI_0, bI_1, bf_or, eq_self, or_true, true_or, lt_T, le_T, lt_F, le_F, eq_F, eq_T, oI_n]
    exact hQ h fr9.rf
  | f + 1, i, some c, v, h, x7, hi, hc, hl, h9, hv, hV, hq, hQ => by
    have hcl := hq c rfl
    have h12 := hc.2.2.1
    have h3 := (hc.ifc hcl).2.1
    have fc := fc3_dL h12 hV c
    rw [mO2] at hQ
    rw [sG_methodFrom_60]
    simp (disch := omega) only [sG_methodFrom_62, sG_methodFrom_64, sG_methodFrom_67, sG_methodFrom_69, sG_methodFrom_70, sG_methodFrom_73, sG_methodFrom_75, sG_methodFrom_76, sG_methodFrom_79, sG_methodFrom_80, ax_clr_i, ax_clr_l, ax_clr_r, ax_clr_n, ax_ct_0, ax_ct_i, ax_ct_l, ax_ct_r, va_rf_s, Option.toList_some, Option.toList_none, List.cons_append, List.nil_append, and_true, true_and, and_self, ite_true, ite_false, if_true, if_false, Nat.reduceAdd, Nat.reduceLeDiff, Nat.reduceMul, Nat.reduceLT, nI_add, pk_mul, nI_lt', nI_le', nI_eq', nI_lt0, nI_ge0, nI_eq0, nI_gt0, nI_le0, nI_ne_m1, m1_ne_nI, m1_lt_nI, m1_le_nI, nI_lt_m1, nI_le_m1, nI_clamp, ax_in_nI, nI_shl, nI_shr, lg_cmp0, nx_and, nI_eq1, bI_0, bI_1, bf_or, eq_self, or_true, true_or, lt_T, le_T, lt_F, le_F, eq_F, eq_T, oI_s]
    refine mG_methodFrom_j t ht y1 (nI i) c hcl (niU us c) 0 v h (by omega) hc hl h9 hv (fun h1 j' f1 n1 => ?_)
    have hc1 := hc.f9 f1
    have hl1 := hl.f9 f1
    have hr1 := hc1.1
    have r0 := (hl1 c hcl).1
    rw [dL_lI us false t 13 c v h3] at n1 ⊢
    have vl := dL_lt (dF us false t 13) (fun q v => dF_lt h12 false t 13 q v) (l3 us c) v (fun y hy => by unfold l3 at hy; simp only [List.mem_cons, List.not_mem_nil, or_false] at hy; rcases hy with w | w | w <;> (have := parU_lt w.symm; omega)) hv
    have sl := fun r => dL_some_lt (n := us.length) (dF us false t 13) (fun q v r hq h => dF_some_lt h12 13 q v r hq h) (l3 us c) v r (fun y hy => by unfold l3 at hy; simp only [List.mem_cons, List.not_mem_nil, or_false] at hy; rcases hy with w | w | w <;> exact parU_lt w.symm)
    rw [← fc.1] at hQ
    rcases hd : dL (dF us false t 13) (l3 us c) v with ⟨o1, v1⟩
    rw [hd] at fc hQ n1 vl sl
    simp (disch := omega) only [sG_methodFrom_125, sG_methodFrom_126, sG_methodFrom_129, sG_methodFrom_131, sG_methodFrom_132, sG_methodFrom_134, sG_methodFrom_137, ax_clr_i, ax_clr_l, ax_clr_r, ax_clr_n, ax_ct_0, ax_ct_i, ax_ct_l, ax_ct_r, va_rf_s, Option.toList_some, Option.toList_none, List.cons_append, List.nil_append, and_true, true_and, and_self, ite_true, ite_false, if_true, if_false, Nat.reduceAdd, Nat.reduceLeDiff, Nat.reduceMul, Nat.reduceLT, nI_add, pk_mul, nI_lt', nI_le', nI_eq', nI_lt0, nI_ge0, nI_eq0, nI_gt0, nI_le0, nI_ne_m1, m1_ne_nI, m1_lt_nI, m1_le_nI, nI_lt_m1, nI_le_m1, nI_clamp, ax_in_nI, nI_shl, nI_shr, lg_cmp0, nx_and, nI_eq1, bI_0, bI_1, bf_or, eq_self, or_true, true_or, lt_T, le_T, lt_F, le_F, eq_F, eq_T, kdC_0, kdC_1, kdC_2, kdC_3, kdC_4, kdC_5, kdC_6, kdC_7, kdC_8, kdC_9, kdC_10, kdC_11, kdC_12, kdC_13, kdC_14, kdC_15, kdC_16, kdU_1, kdU_2, kdU_3, kdU_4, kdU_5, kdU_6, kdU_7, kdU_, kdR_1, kdR_2, kdR_3, kdR_4, kdR_5, kdR_, rC_00, rC_01, rC_02, rC_03, rC_04, rC_10, rC_16, rC_18, rC_19, rC_1a, rC_20, rC_22, rC_23, rC_24, rC_25, rC_26, rC_27, rC_28, rC_4, rC_10k, rC_u3, rC_u5, rC_u7, rC_u9, rC_ua, rC_ub, rC_uc, rC_r4, rC_r5, rC_r6, rC_r7, rC_r8, Nat.add_zero, hr1, r0]
    cases o1 with
    | some r =>
      have rl := sl r rfl
      have hQ2 := hQ h1 f1
      rw [sG_methodFrom_60]
      cases e0 : parU us c 0 with
      | none =>
        simp (disch := omega) only [sG_methodFrom_62, sG_methodFrom_64, sG_methodFrom_67, sG_methodFrom_69, sG_methodFrom_70, sG_methodFrom_73, sG_methodFrom_75, sG_methodFrom_76, sG_methodFrom_140, sG_methodFrom_142, ax_clr_i, ax_clr_l, ax_clr_r, ax_clr_n, ax_ct_0, ax_ct_i, ax_ct_l, ax_ct_r, va_rf_s, Option.toList_some, Option.toList_none, List.cons_append, List.nil_append, and_true, true_and, and_self, ite_true, ite_false, if_true, if_false, Nat.reduceAdd, Nat.reduceLeDiff, Nat.reduceMul, Nat.reduceLT, nI_add, pk_mul, nI_lt', nI_le', nI_eq', nI_lt0, nI_ge0, nI_eq0, nI_gt0, nI_le0, nI_ne_m1, m1_ne_nI, m1_lt_nI, m1_le_nI, nI_lt_m1, nI_le_m1, nI_clamp, ax_in_nI, nI_shl, nI_shr, lg_cmp0, nx_and, nI_eq1, bI_0, bI_1, bf_or, eq_self, or_true, true_or, lt_T, le_T, lt_F, le_F, eq_F, eq_T, oI_s, oI_n, ite_self]
        exact hQ2
      | some c2 =>
        have := parU_lt e0
        simp (disch := omega) only [sG_methodFrom_62, sG_methodFrom_64, sG_methodFrom_67, sG_methodFrom_69, sG_methodFrom_70, sG_methodFrom_73, sG_methodFrom_75, sG_methodFrom_76, sG_methodFrom_140, sG_methodFrom_142, ax_clr_i, ax_clr_l, ax_clr_r, ax_clr_n, ax_ct_0, ax_ct_i, ax_ct_l, ax_ct_r, va_rf_s, Option.toList_some, Option.toList_none, List.cons_append, List.nil_append, and_true, true_and, and_self, ite_true, ite_false, if_true, if_false, Nat.reduceAdd, Nat.reduceLeDiff, Nat.reduceMul, Nat.reduceLT, nI_add, pk_mul, nI_lt', nI_le', nI_eq', nI_lt0, nI_ge0, nI_eq0, nI_gt0, nI_le0, nI_ne_m1, m1_ne_nI, m1_lt_nI, m1_le_nI, nI_lt_m1, nI_le_m1, nI_clamp, ax_in_nI, nI_shl, nI_shr, lg_cmp0, nx_and, nI_eq1, bI_0, bI_1, bf_or, eq_self, or_true, true_or, lt_T, le_T, lt_F, le_F, eq_F, eq_T, oI_s, oI_n, ite_self]
        exact hQ2
    | none =>
      exact mG_methodFrom_2 t ht y1 f (i + 1) (parU us c 0) v1 h1 _ (by omega) hc1 hl1 n1 vl (fc.2 rfl) (fun y w => parU_lt w) (fun h' f2 => hQ h' (f1.tr f2))
theorem mG_methodFrom_ {h : ax_H} (hc : usC o s x h us) (hl : lkC h us) (h9 : h.1 2 9 = nI 0) (t : List Nat) (ht : vT t) (c : Nat) (hcl : c < us.length) (hQ : ∀ h', fr9 h h' → Q (some (.int (oI (methU us t c)))) h') : ax_wp kC (d + 15) mG_methodFrom 0 [some (.ref 2), some (.int (nI c)), some (.long (lN (pL t))), none, none, none, none, none] [] h Q := by
  unfold methU at hQ
  simp only [sG_methodFrom_0, sG_methodFrom_1, sG_methodFrom_3, sG_methodFrom_4, ax_clr_i, ax_clr_l, ax_clr_r, ax_clr_n, ax_ct_0, ax_ct_i, ax_ct_l, ax_ct_r, va_rf_s, Option.toList_some, Option.toList_none, List.cons_append, List.nil_append, and_true, true_and, and_self, ite_true, ite_false, if_true, if_false, Nat.reduceAdd, Nat.reduceLeDiff, Nat.reduceMul, Nat.reduceLT]
  refine mG_methodFrom_1 hc hl t ht (nI c) 12 0 (some c) (by omega) (fun y w => by cases w; exact hcl) (fun r e => ?_) (fun e y4 y5 => ?_)
  · rw [e] at hQ
    exact hQ h fr9.rf
  · rw [e] at hQ
    simp (disch := omega) only [sG_methodFrom_51, sG_methodFrom_52, sG_methodFrom_54, sG_methodFrom_55, sG_methodFrom_57, sG_methodFrom_58, ax_clr_i, ax_clr_l, ax_clr_r, ax_clr_n, ax_ct_0, ax_ct_i, ax_ct_l, ax_ct_r, va_rf_s, Option.toList_some, Option.toList_none, List.cons_append, List.nil_append, and_true, true_and, and_self, ite_true, ite_false, if_true, if_false, Nat.reduceAdd, Nat.reduceLeDiff, Nat.reduceMul, Nat.reduceLT]
    exact mG_methodFrom_2 t ht (nI c) 12 0 (some c) 0 h none (by omega) hc hl h9 (by omega) (clo_0 us false t) (fun y w => by cases w; exact hcl) hQ
theorem usC.occ {h : ax_H} (hc : usC o s x h us) {c i : Nat} (hcl : c < us.length) (hi : i < (ocU (uAt us c)).length) : h.1 (17 + 8 * o c + 4) i = nI (oOf us c i).1 ∧ h.1 (17 + 8 * o c + 5) i = nI (oOf us c i).2.1 ∧ h.2.1 (17 + 8 * o c + 6) i = lN (pL (oOf us c i).2.2.1) ∧ h.2.1 (17 + 8 * o c + 7) i = lN (pL (oOf us c i).2.2.2) ∧ ocv (oOf us c i) ∧ i < 52 := by
  have k := (hc.2.2.2.1 c hcl)
  have w := k.1.2.2.2.2.2
  have w2 := w.2.2 i hi
  exact ⟨w2.1, w2.2.1, w2.2.2.1, w2.2.2.2, ocA_v k.2 hi, by have := w.2.1; omega⟩
theorem mG_targetOf_ {h : ax_H} (hc : usC o s x h us) (hl : lkC h us) (c i : Nat) (hcl : c < us.length) (hi : i < (ocU (uAt us c)).length) (hQ : ∀ h', fr9 h h' → Q (some (.int (oI (tgtU us (oOf us c i).1 (oOf us c i).2.2.1 (oOf us c i).2.2.2)))) h') : ax_wp kC (d + 16) mG_targetOf 0 [some (.ref 2), some (.int (nI c)), some (.int (nI i)), none, none, none, none] [] h Q := by
  have hr := hc.1
  have h12 := hc.2.2.1
  have ho := hc.2.2.2.2.1 c (by omega)
  obtain ⟨w1, w2, w3, w4, w5, w6⟩ := hc.occ hcl hi
  obtain ⟨v1, v2, v3, v4⟩ := w5
  unfold tgtU at hQ
  simp (disch := omega) only [sG_targetOf_0, sG_targetOf_1, sG_targetOf_4, sG_targetOf_5, sG_targetOf_6, sG_targetOf_9, sG_targetOf_10, sG_targetOf_11, sG_targetOf_12, sG_targetOf_13, sG_targetOf_14, sG_targetOf_17, sG_targetOf_18, sG_targetOf_19, sG_targetOf_22, sG_targetOf_23, sG_targetOf_24, sG_targetOf_27, sG_targetOf_29, sG_targetOf_30, sG_targetOf_31, ax_clr_i, ax_clr_l, ax_clr_r, ax_clr_n, ax_ct_0, ax_ct_i, ax_ct_l, ax_ct_r, va_rf_s, Option.toList_some, Option.toList_none, List.cons_append, List.nil_append, and_true, true_and, and_self, ite_true, ite_false, if_true, if_false, Nat.reduceAdd, Nat.reduceLeDiff, Nat.reduceMul, Nat.reduceLT, nI_add, pk_mul, nI_lt', nI_le', nI_eq', nI_lt0, nI_ge0, nI_eq0, nI_gt0, nI_le0, nI_ne_m1, m1_ne_nI, m1_lt_nI, m1_le_nI, nI_lt_m1, nI_le_m1, nI_clamp, ax_in_nI, nI_shl, nI_shr, lg_cmp0, nx_and, nI_eq1, bI_0, bI_1, bf_or, eq_self, or_true, true_or, lt_T, le_T, lt_F, le_F, eq_F, eq_T, kdC_0, kdC_1, kdC_2, kdC_3, kdC_4, kdC_5, kdC_6, kdC_7, kdC_8, kdC_9, kdC_10, kdC_11, kdC_12, kdC_13, kdC_14, kdC_15, kdC_16, kdU_1, kdU_2, kdU_3, kdU_4, kdU_5, kdU_6, kdU_7, kdU_, kdR_1, kdR_2, kdR_3, kdR_4, kdR_5, kdR_, rC_00, rC_01, rC_02, rC_03, rC_04, rC_10, rC_16, rC_18, rC_19, rC_1a, rC_20, rC_22, rC_23, rC_24, rC_25, rC_26, rC_27, rC_28, rC_4, rC_10k, rC_u3, rC_u5, rC_u7, rC_u9, rC_ua, rC_ub, rC_uc, rC_r4, rC_r5, rC_r6, rC_r7, rC_r8, Nat.add_zero, hr, w1, w3, mG_numberOf_ hc _ v2]
  by_cases e1 : 2 < (oOf us c i).1
  · rw [if_pos e1] at hQ
    rw [if_pos e1]
    simp (disch := omega) only [sG_targetOf_49, sG_targetOf_50, ax_clr_i, ax_clr_l, ax_clr_r, ax_clr_n, ax_ct_0, ax_ct_i, ax_ct_l, ax_ct_r, va_rf_s, Option.toList_some, Option.toList_none, List.cons_append, List.nil_append, and_true, true_and, and_self, ite_true, ite_false, if_true, if_false, Nat.reduceAdd, Nat.reduceLeDiff, Nat.reduceMul, Nat.reduceLT]
    exact hQ h fr9.rf
  · rw [if_neg e1] at hQ
    rw [if_neg e1]
    cases e2 : ixOf us (oOf us c i).2.2.1 with
    | none =>
      rw [e2] at hQ
      simp (disch := omega) only [sG_targetOf_34, sG_targetOf_36, sG_targetOf_37, sG_targetOf_49, sG_targetOf_50, ax_clr_i, ax_clr_l, ax_clr_r, ax_clr_n, ax_ct_0, ax_ct_i, ax_ct_l, ax_ct_r, va_rf_s, Option.toList_some, Option.toList_none, List.cons_append, List.nil_append, and_true, true_and, and_self, ite_true, ite_false, if_true, if_false, Nat.reduceAdd, Nat.reduceLeDiff, Nat.reduceMul, Nat.reduceLT, nI_add, pk_mul, nI_lt', nI_le', nI_eq', nI_lt0, nI_ge0, nI_eq0, nI_gt0, nI_le0, nI_ne_m1, m1_ne_nI, m1_lt_nI, m1_le_nI, nI_lt_m1, nI_le_m1, nI_clamp, ax_in_nI, nI_shl, nI_shr, lg_cmp0, nx_and, nI_eq1, bI_0, bI_1, bf_or, eq_self, or_true, true_or, oI_n]
      exact hQ h fr9.rf
    | some c1 =>
      have l1 := (ixOf_some e2).1
      rw [e2] at hQ
      dsimp only at hQ
      simp (disch := omega) only [sG_targetOf_34, sG_targetOf_36, sG_targetOf_37, sG_targetOf_40, sG_targetOf_41, sG_targetOf_43, sG_targetOf_46, ax_clr_i, ax_clr_l, ax_clr_r, ax_clr_n, ax_ct_0, ax_ct_i, ax_ct_l, ax_ct_r, va_rf_s, Option.toList_some, Option.toList_none, List.cons_append, List.nil_append, and_true, true_and, and_self, ite_true, ite_false, if_true, if_false, Nat.reduceAdd, Nat.reduceLeDiff, Nat.reduceMul, Nat.reduceLT, nI_add, pk_mul, nI_lt', nI_le', nI_eq', nI_lt0, nI_ge0, nI_eq0, nI_gt0, nI_le0, nI_ne_m1, m1_ne_nI, m1_lt_nI, m1_le_nI, nI_lt_m1, nI_le_m1, nI_clamp, ax_in_nI, nI_shl, nI_shr, lg_cmp0, nx_and, nI_eq1, bI_0, bI_1, bf_or, eq_self, or_true, true_or, lt_T, le_T, lt_F, le_F, eq_F, eq_T, kdC_0, kdC_1, kdC_2, kdC_3, kdC_4, kdC_5, kdC_6, kdC_7, kdC_8, kdC_9, kdC_10, kdC_11, kdC_12, kdC_13, kdC_14, kdC_15, kdC_16, kdU_1, kdU_2, kdU_3, kdU_4, kdU_5, kdU_6, kdU_7, kdU_, kdR_1, kdR_2, kdR_3, kdR_4, kdR_5, kdR_, rC_00, rC_01, rC_02, rC_03, rC_04, rC_10, rC_16, rC_18, rC_19, rC_1a, rC_20, rC_22, rC_23, rC_24, rC_25, rC_26, rC_27, rC_28, rC_4, rC_10k, rC_u3, rC_u5, rC_u7, rC_u9, rC_ua, rC_ub, rC_uc, rC_r4, rC_r5, rC_r6, rC_r7, rC_r8, Nat.add_zero, oI_s, mG_isCircular_ hc hl c1 l1]
      by_cases e3 : cirU us c1 = true
      · rw [if_pos e3] at hQ
        rw [if_neg (by rw [e3]; simp)]
        simp (disch := omega) only [sG_targetOf_49, sG_targetOf_50, ax_clr_i, ax_clr_l, ax_clr_r, ax_clr_n, ax_ct_0, ax_ct_i, ax_ct_l, ax_ct_r, va_rf_s, Option.toList_some, Option.toList_none, List.cons_append, List.nil_append, and_true, true_and, and_self, ite_true, ite_false, if_true, if_false, Nat.reduceAdd, Nat.reduceLeDiff, Nat.reduceMul, Nat.reduceLT]
        exact hQ h fr9.rf
      · rw [if_neg e3] at hQ
        rw [if_pos (by simpa using e3)]
        have f1 : fr9 h (ax_upI h 2 9 (nI 0)) := fr9.up
        have n1 : (ax_upI h 2 9 (nI 0)).1 2 9 = nI 0 := up_at _ _ _ _
        simp (disch := omega) only [sG_targetOf_51, sG_targetOf_52, sG_targetOf_53, ax_clr_i, ax_clr_l, ax_clr_r, ax_clr_n, ax_ct_0, ax_ct_i, ax_ct_l, ax_ct_r, va_rf_s, Option.toList_some, Option.toList_none, List.cons_append, List.nil_append, and_true, true_and, and_self, ite_true, ite_false, if_true, if_false, Nat.reduceAdd, Nat.reduceLeDiff, Nat.reduceMul, Nat.reduceLT, kdC_0, kdC_1, kdC_2, kdC_3, kdC_4, kdC_5, kdC_6, kdC_7, kdC_8, kdC_9, kdC_10, kdC_11, kdC_12, kdC_13, kdC_14, kdC_15, kdC_16, kdU_1, kdU_2, kdU_3, kdU_4, kdU_5, kdU_6, kdU_7, kdU_, kdR_1, kdR_2, kdR_3, kdR_4, kdR_5, kdR_, rC_00, rC_01, rC_02, rC_03, rC_04, rC_10, rC_16, rC_18, rC_19, rC_1a, rC_20, rC_22, rC_23, rC_24, rC_25, rC_26, rC_27, rC_28, rC_4, rC_10k, rC_u3, rC_u5, rC_u7, rC_u9, rC_ua, rC_ub, rC_uc, rC_r4, rC_r5, rC_r6, rC_r7, rC_r8, Nat.add_zero]
        generalize ax_upI h 2 9 (nI 0) = h1 at f1 n1 ⊢
        have hc1 := hc.f9 f1
        have hl1 := hl.f9 f1
        have hr1 := hc1.1
        have x4 := (hc1.occ hcl hi).2.2.2.1
        simp (disch := omega) only [sG_targetOf_56, sG_targetOf_57, sG_targetOf_60, sG_targetOf_61, sG_targetOf_62, sG_targetOf_65, sG_targetOf_66, sG_targetOf_67, sG_targetOf_69, sG_targetOf_70, sG_targetOf_71, ax_clr_i, ax_clr_l, ax_clr_r, ax_clr_n, ax_ct_0, ax_ct_i, ax_ct_l, ax_ct_r, va_rf_s, Option.toList_some, Option.toList_none, List.cons_append, List.nil_append, and_true, true_and, and_self, ite_true, ite_false, if_true, if_false, Nat.reduceAdd, Nat.reduceLeDiff, Nat.reduceMul, Nat.reduceLT, nI_add, pk_mul, nI_lt', nI_le', nI_eq', nI_lt0, nI_ge0, nI_eq0, nI_gt0, nI_le0, nI_ne_m1, m1_ne_nI, m1_lt_nI, m1_le_nI, nI_lt_m1, nI_le_m1, nI_clamp, ax_in_nI, nI_shl, nI_shr, lg_cmp0, nx_and, nI_eq1, bI_0, bI_1, bf_or, eq_self, or_true, true_or, lt_T, le_T, lt_F, le_F, eq_F, eq_T, kdC_0, kdC_1, kdC_2, kdC_3, kdC_4, kdC_5, kdC_6, kdC_7, kdC_8, kdC_9, kdC_10, kdC_11, kdC_12, kdC_13, kdC_14, kdC_15, kdC_16, kdU_1, kdU_2, kdU_3, kdU_4, kdU_5, kdU_6, kdU_7, kdU_, kdR_1, kdR_2, kdR_3, kdR_4, kdR_5, kdR_, rC_00, rC_01, rC_02, rC_03, rC_04, rC_10, rC_16, rC_18, rC_19, rC_1a, rC_20, rC_22, rC_23, rC_24, rC_25, rC_26, rC_27, rC_28, rC_4, rC_10k, rC_u3, rC_u5, rC_u7, rC_u9, rC_ua, rC_ub, rC_uc, rC_r4, rC_r5, rC_r6, rC_r7, rC_r8, Nat.add_zero, hr1, x4]
        by_cases e4 : (oOf us c i).1 = 2
        · rw [if_pos e4] at hQ
          rw [if_pos e4]
          simp (disch := omega) only [sG_targetOf_74, sG_targetOf_75, sG_targetOf_77, sG_targetOf_79, ax_clr_i, ax_clr_l, ax_clr_r, ax_clr_n, ax_ct_0, ax_ct_i, ax_ct_l, ax_ct_r, va_rf_s, Option.toList_some, Option.toList_none, List.cons_append, List.nil_append, and_true, true_and, and_self, ite_true, ite_false, if_true, if_false, Nat.reduceAdd, Nat.reduceLeDiff, Nat.reduceMul, Nat.reduceLT, kdC_0, kdC_1, kdC_2, kdC_3, kdC_4, kdC_5, kdC_6, kdC_7, kdC_8, kdC_9, kdC_10, kdC_11, kdC_12, kdC_13, kdC_14, kdC_15, kdC_16, kdU_1, kdU_2, kdU_3, kdU_4, kdU_5, kdU_6, kdU_7, kdU_, kdR_1, kdR_2, kdR_3, kdR_4, kdR_5, kdR_, rC_00, rC_01, rC_02, rC_03, rC_04, rC_10, rC_16, rC_18, rC_19, rC_1a, rC_20, rC_22, rC_23, rC_24, rC_25, rC_26, rC_27, rC_28, rC_4, rC_10k, rC_u3, rC_u5, rC_u7, rC_u9, rC_ua, rC_ub, rC_uc, rC_r4, rC_r5, rC_r6, rC_r7, rC_r8, Nat.add_zero]
          refine mG_methodFrom_ hc1 hl1 n1 _ v4 c1 l1 (fun h2 f2 => ?_)
          simp (disch := omega) only [sG_targetOf_82, sG_targetOf_94, ax_clr_i, ax_clr_l, ax_clr_r, ax_clr_n, ax_ct_0, ax_ct_i, ax_ct_l, ax_ct_r, va_rf_s, Option.toList_some, Option.toList_none, List.cons_append, List.nil_append, and_true, true_and, and_self, ite_true, ite_false, if_true, if_false, Nat.reduceAdd, Nat.reduceLeDiff, Nat.reduceMul, Nat.reduceLT]
          exact hQ h2 (f1.tr f2)
        · rw [if_neg e4] at hQ
          rw [if_neg e4]
          simp (disch := omega) only [sG_targetOf_85, sG_targetOf_86, sG_targetOf_88, sG_targetOf_90, ax_clr_i, ax_clr_l, ax_clr_r, ax_clr_n, ax_ct_0, ax_ct_i, ax_ct_l, ax_ct_r, va_rf_s, Option.toList_some, Option.toList_none, List.cons_append, List.nil_append, and_true, true_and, and_self, ite_true, ite_false, if_true, if_false, Nat.reduceAdd, Nat.reduceLeDiff, Nat.reduceMul, Nat.reduceLT]
          rw [sG_targetOf_91]
          refine ⟨⟨by simp only [kdC_0, kdC_1, kdC_2, kdC_3, kdC_4, kdC_5, kdC_6, kdC_7, kdC_8, kdC_9, kdC_10, kdC_11, kdC_12, kdC_13, kdC_14, kdC_15, kdC_16, kdU_1, kdU_2, kdU_3, kdU_4, kdU_5, kdU_6, kdU_7, kdU_, kdR_1, kdR_2, kdR_3, kdR_4, kdR_5, kdR_, rC_00, rC_01, rC_02, rC_03, rC_04, rC_10, rC_16, rC_18, rC_19, rC_1a, rC_20, rC_22, rC_23, rC_24, rC_25, rC_26, rC_27, rC_28, rC_4, rC_10k, rC_u3, rC_u5, rC_u7, rC_u9, rC_ua, rC_ub, rC_uc, rC_r4, rC_r5, rC_r6, rC_r7, rC_r8, Nat.add_zero], by simp only [ax_clr_i, ax_clr_l, ax_clr_r, ax_clr_n, ax_ct_0, ax_ct_i, ax_ct_l, ax_ct_r, va_rf_s, Option.toList_some, Option.toList_none, List.cons_append, List.nil_append, and_true, true_and, and_self, ite_true, ite_false, if_true, if_false, Nat.reduceAdd, Nat.reduceLeDiff, Nat.reduceMul, Nat.reduceLT]⟩, ?_⟩
          refine mG_fieldFrom_s (d := d + 1) _ v4 13 0 (some c1) 0 h1 _ (by omega) hc1 hl1 n1 (by omega) (fun y w => by cases w; exact l1) (fun h2 f2 n2 => ?_)
          simp (disch := omega) only [sG_targetOf_94, ax_clr_i, ax_clr_l, ax_clr_r, ax_clr_n, ax_ct_0, ax_ct_i, ax_ct_l, ax_ct_r, va_rf_s, Option.toList_some, Option.toList_none, List.cons_append, List.nil_append, and_true, true_and, and_self, ite_true, ite_false, if_true, if_false, Nat.reduceAdd, Nat.reduceLeDiff, Nat.reduceMul, Nat.reduceLT]
          rw [srU_dF h12 l1] at hQ
          exact hQ h2 (f1.tr f2)
end CT
