/-! the model: the list of a class's occurrences -/
theorem ocI_succ (u : List Nat) (m i : Nat) : ocI u (m + 1) i = (8, 0, nmU u (bg u (piU u + 1 + i)), []) :: ocI u m (i + 1) := by
  unfold ocI
  rw [List.range_succ_eq_map, List.map_cons, List.map_map]
  refine congr (congrArg _ (by simp)) ?_
  apply List.map_congr_left
  intro j hj
  simp only [Function.comp]
  rw [show i + (j + 1) = i + 1 + j by omega]
section MI
variable {d : Nat} {u : List Nat} {c : Nat} {Q : Option Value → ax_H → Prop}
theorem mQ_list_i (hc : c ≤ 12) (hk : okU u) : ∀ (m i : Nat) (h : ax_H) (L : List oc4), untM h c u → ocM h L → i + m = bg u (piU u) → L.length + m ≤ 10 → (∀ h', frO h h' → ocM h' (L ++ ocI u m i) → ax_wp kM (d + 5) mQ_list 83 [some (.ref 0), some (.int (nI c)), some (.int (nI (120 * c + piU u))), some (.int (nI (bg u (piU u) + 1))), none, none] [] h' Q) → ax_wp kM (d + 5) mQ_list 46 [some (.ref 0), some (.int (nI c)), some (.int (nI (120 * c + piU u))), some (.int (nI (i + 1))), none, none] [] h Q
  | 0, i, h, L, hu, ho, hi, hl, hQ => by
    have hr := hu.1
    have hz := hu.2.1
    have kk := hk.rest
    have b1 := hu.2.2.1 (piU u) (by omega)
    have e : i = bg u (piU u) := by omega
    subst e
    rw [sQ_list_46]
    simp (disch := omega) only [sQ_list_47, sQ_list_48, sQ_list_51, sQ_list_52, sQ_list_53, sQ_list_56, sQ_list_57, sQ_list_59, sQ_list_60, sQ_list_61, sQ_list_62, sQ_list_63, sQ_list_66, sQ_list_67, sQ_list_68, sQ_list_69, sQ_list_70, sQ_list_73, sQ_list_74, sQ_list_77, sQ_list_80, ax_clr_i, ax_clr_l, ax_clr_r, ax_clr_n, ax_ct_0, ax_ct_i, ax_ct_l, ax_ct_r, va_rf_s, Option.toList_some, Option.toList_none, List.cons_append, List.nil_append, and_true, true_and, and_self, ite_true, ite_false, if_true, if_false, Nat.reduceAdd, Nat.reduceLeDiff, Nat.reduceMul, Nat.reduceLT, nI_add, pk_mul, nI_lt', nI_le', nI_eq', nI_lt0, nI_ge0, nI_eq0, nI_gt0, nI_le0, nI_ne_m1, m1_ne_nI, m1_lt_nI, m1_le_nI, nI_lt_m1, nI_le_m1, nI_clamp, ax_in_nI, nI_shl, nI_shr, lg_cmp0, nx_and, nI_eq1, bI_0, bI_1, bf_or, eq_self, or_true, true_or, lt_T, le_T, lt_F, le_F, eq_F, eq_T, kdM_0, kdM_1, kdM_2, kdM_3, kdM_4, kdM_5, kdM_6, kdM_7, kdM_8, kdM_9, kdM_10, kdM_11, kdM_12, kdM_13, kdM_14, kdM_15, kdM_16, kdM_17, kdM_18, kdM_19, kdM_20, kdM_21, kdM_22, kdM_23, kdM_24, rM_0, rM_1, rM_5, rM_6, rM_7, rM_10, rM_11, rM_12, rM_13, rM_14, rM_15, rM_16, rM_18, rM_19, rM_20, rM_21, rM_23, rM_24, rM_25, rM_26, rM_28, rM_29, rM_30, rM_31, hr, b1]
    have := hQ h frO.rf (by unfold ocI; simpa using ho)
    exact this
  | m + 1, i, h, L, hu, ho, hi, hl, hQ => by
    have hr := hu.1
    have hz := hu.2.1
    have kk := hk.rest
    have epf : pfU u = piU u + 1 + bg u (piU u) := rfl
    have b1 := hu.2.2.1 (piU u) (by omega)
    have b2 := hu.2.2.1 (piU u + 1 + i) (by omega)
    have l2 := hu.lt (piU u + 1 + i)
    have t7 := kk.2.2.2.1 i (by omega)
    rw [show 120 * c + (piU u + 1 + i) = 120 * c + piU u + (i + 1) by omega] at b2
    rw [sQ_list_46]
    simp (disch := omega) only [sQ_list_47, sQ_list_48, sQ_list_51, sQ_list_52, sQ_list_53, sQ_list_56, sQ_list_57, sQ_list_59, sQ_list_60, sQ_list_61, sQ_list_62, sQ_list_63, sQ_list_66, sQ_list_67, sQ_list_68, sQ_list_69, sQ_list_70, sQ_list_73, sQ_list_74, sQ_list_77, sQ_list_80, ax_clr_i, ax_clr_l, ax_clr_r, ax_clr_n, ax_ct_0, ax_ct_i, ax_ct_l, ax_ct_r, va_rf_s, Option.toList_some, Option.toList_none, List.cons_append, List.nil_append, and_true, true_and, and_self, ite_true, ite_false, if_true, if_false, Nat.reduceAdd, Nat.reduceLeDiff, Nat.reduceMul, Nat.reduceLT, nI_add, pk_mul, nI_lt', nI_le', nI_eq', nI_lt0, nI_ge0, nI_eq0, nI_gt0, nI_le0, nI_ne_m1, m1_ne_nI, m1_lt_nI, m1_le_nI, nI_lt_m1, nI_le_m1, nI_clamp, ax_in_nI, nI_shl, nI_shr, lg_cmp0, nx_and, nI_eq1, bI_0, bI_1, bf_or, eq_self, or_true, true_or, lt_T, le_T, lt_F, le_F, eq_F, eq_T, kdM_0, kdM_1, kdM_2, kdM_3, kdM_4, kdM_5, kdM_6, kdM_7, kdM_8, kdM_9, kdM_10, kdM_11, kdM_12, kdM_13, kdM_14, kdM_15, kdM_16, kdM_17, kdM_18, kdM_19, kdM_20, kdM_21, kdM_22, kdM_23, kdM_24, rM_0, rM_1, rM_5, rM_6, rM_7, rM_10, rM_11, rM_12, rM_13, rM_14, rM_15, rM_16, rM_18, rM_19, rM_20, rM_21, rM_23, rM_24, rM_25, rM_26, rM_28, rM_29, rM_30, rM_31, hr, b1, b2, mQ_nameOf_c hu hc hk _ t7]
    rw [lN_0, ← pB_nil]
    refine mQ_occurrence_ hr ho (by omega) _ _ _ _ (fun h' f o => ?_)
    simp (disch := omega) only [sQ_list_47, sQ_list_48, sQ_list_51, sQ_list_52, sQ_list_53, sQ_list_56, sQ_list_57, sQ_list_59, sQ_list_60, sQ_list_61, sQ_list_62, sQ_list_63, sQ_list_66, sQ_list_67, sQ_list_68, sQ_list_69, sQ_list_70, sQ_list_73, sQ_list_74, sQ_list_77, sQ_list_80, ax_clr_i, ax_clr_l, ax_clr_r, ax_clr_n, ax_ct_0, ax_ct_i, ax_ct_l, ax_ct_r, va_rf_s, Option.toList_some, Option.toList_none, List.cons_append, List.nil_append, and_true, true_and, and_self, ite_true, ite_false, if_true, if_false, Nat.reduceAdd, Nat.reduceLeDiff, Nat.reduceMul, Nat.reduceLT, nI_add, pk_mul, nI_lt', nI_le', nI_eq', nI_lt0, nI_ge0, nI_eq0, nI_gt0, nI_le0, nI_ne_m1, m1_ne_nI, m1_lt_nI, m1_le_nI, nI_lt_m1, nI_le_m1, nI_clamp, ax_in_nI, nI_shl, nI_shr, lg_cmp0, nx_and, nI_eq1, bI_0, bI_1, bf_or, eq_self, or_true, true_or]
    refine mQ_list_i hc hk m (i + 1) h' _ (hu.frO f) o (by omega) (by rw [List.length_append]; simp; omega) (fun h2 f2 o2 => hQ h2 (f.tr f2) ?_)
    rw [ocI_succ, ← List.singleton_append, ← List.append_assoc]
    exact o2
theorem mQ_list_m (hc : c ≤ 12) (hk : okU u) : ∀ (m i : Nat) (h : ax_H) (L : List oc4) (x5 : Option Value), untM h c u → ocM h L → i + m = bg u (pmU u) → L.length ≤ 4 + 12 * i → (∀ h', frO h h' → ocM h' (L ++ ocMs u m i) → Q none h') → ax_wp kM (d + 5) mQ_list 118 [some (.ref 0), some (.int (nI c)), some (.int (nI (120 * c + pmj u i))), some (.int (nI (bg u (pmU u)))), some (.int (nI i)), x5] [] h Q
  | 0, i, h, L, x5, hu, ho, hi, hl, hQ => by
    have hl := hu.lt (pmU u)
    rw [sQ_list_118]
    simp (disch := omega) only [sQ_list_120, sQ_list_121, sQ_list_124, sQ_list_125, sQ_list_126, sQ_list_127, sQ_list_128, sQ_list_131, sQ_list_132, sQ_list_133, sQ_list_134, sQ_list_135, sQ_list_136, sQ_list_138, sQ_list_139, sQ_list_140, sQ_list_141, sQ_list_142, sQ_list_143, sQ_list_145, sQ_list_146, sQ_list_149, sQ_list_150, sQ_list_151, sQ_list_152, sQ_list_153, sQ_list_156, sQ_list_158, sQ_list_159, sQ_list_162, sQ_list_165, ax_clr_i, ax_clr_l, ax_clr_r, ax_clr_n, ax_ct_0, ax_ct_i, ax_ct_l, ax_ct_r, va_rf_s, Option.toList_some, Option.toList_none, List.cons_append, List.nil_append, and_true, true_and, and_self, ite_true, ite_false, if_true, if_false, Nat.reduceAdd, Nat.reduceLeDiff, Nat.reduceMul, Nat.reduceLT, nI_add, pk_mul, nI_lt', nI_le', nI_eq', nI_lt0, nI_ge0, nI_eq0, nI_gt0, nI_le0, nI_ne_m1, m1_ne_nI, m1_lt_nI, m1_le_nI, nI_lt_m1, nI_le_m1, nI_clamp, ax_in_nI, nI_shl, nI_shr, lg_cmp0, nx_and, nI_eq1, bI_0, bI_1, bf_or, eq_self, or_true, true_or, lt_T, le_T, lt_F, le_F, eq_F, eq_T]
    exact hQ h frO.rf (by rw [ocMs, List.append_nil]; exact ho)
  | m + 1, i, h, L, x5, hu, ho, hi, hl, hQ => by
    have hr := hu.1
    have hz := hu.2.1
    have hlm := hu.lt (pmU u)
    have kk := hk.rest
    have km := sMt_len (kk.2.2.2.2.2.2.2.1 i (by omega))
    have b1 := hu.2.2.1 (pmj u i + 1) (by omega)
    have b2 := hu.2.2.1 (pmj u i + 2) (by omega)
    have l1 := hu.lt (pmj u i + 1)
    rw [← Nat.add_assoc] at b1 b2
    have epm : pmj u (i + 1) = pmj u i + 3 + bg u (pmj u i + 2) := rfl
    rw [sQ_list_118]
    simp (disch := omega) only [sQ_list_120, sQ_list_121, sQ_list_124, sQ_list_125, sQ_list_126, sQ_list_127, sQ_list_128, sQ_list_131, sQ_list_132, sQ_list_133, sQ_list_134, sQ_list_135, sQ_list_136, sQ_list_138, sQ_list_139, sQ_list_140, sQ_list_141, sQ_list_142, sQ_list_143, sQ_list_145, sQ_list_146, sQ_list_149, sQ_list_150, sQ_list_151, sQ_list_152, sQ_list_153, ax_clr_i, ax_clr_l, ax_clr_r, ax_clr_n, ax_ct_0, ax_ct_i, ax_ct_l, ax_ct_r, va_rf_s, Option.toList_some, Option.toList_none, List.cons_append, List.nil_append, and_true, true_and, and_self, ite_true, ite_false, if_true, if_false, Nat.reduceAdd, Nat.reduceLeDiff, Nat.reduceMul, Nat.reduceLT, nI_add, pk_mul, nI_lt', nI_le', nI_eq', nI_lt0, nI_ge0, nI_eq0, nI_gt0, nI_le0, nI_ne_m1, m1_ne_nI, m1_lt_nI, m1_le_nI, nI_lt_m1, nI_le_m1, nI_clamp, ax_in_nI, nI_shl, nI_shr, lg_cmp0, nx_and, nI_eq1, bI_0, bI_1, bf_or, eq_self, or_true, true_or, lt_T, le_T, lt_F, le_F, eq_F, eq_T, kdM_0, kdM_1, kdM_2, kdM_3, kdM_4, kdM_5, kdM_6, kdM_7, kdM_8, kdM_9, kdM_10, kdM_11, kdM_12, kdM_13, kdM_14, kdM_15, kdM_16, kdM_17, kdM_18, kdM_19, kdM_20, kdM_21, kdM_22, kdM_23, kdM_24, rM_0, rM_1, rM_5, rM_6, rM_7, rM_10, rM_11, rM_12, rM_13, rM_14, rM_15, rM_16, rM_18, rM_19, rM_20, rM_21, rM_23, rM_24, rM_25, rM_26, rM_28, rM_29, rM_30, rM_31, hr, b1, b2]
    rw [show 120 * c + pmj u i + 3 + bg u (pmj u i + 2) = 120 * c + (pmj u i + 3 + bg u (pmj u i + 2)) by omega, Nat.add_assoc (120 * c) (pmj u i) 3]
    simp only [sQ_listCode_0, sQ_listCode_1, sQ_listCode_3, sQ_listCode_5, ax_clr_i, ax_clr_l, ax_clr_r, ax_clr_n, ax_ct_0, ax_ct_i, ax_ct_l, ax_ct_r, va_rf_s, Option.toList_some, Option.toList_none, List.cons_append, List.nil_append, and_true, true_and, and_self, ite_true, ite_false, if_true, if_false, Nat.reduceAdd, Nat.reduceLeDiff, Nat.reduceMul, Nat.reduceLT]
    have hln := ocC_len u (bg u 1) (offU u (bg u 1)) (pmj u i + 3) (pmj u i + 3 + bg u (pmj u i + 2)) (bg u (pmj u i + 2)) (pmj u i + 3) (bg u (pmj u i + 1)) (by omega) (by omega) km.2.2.2.2
    refine mQ_listCode_l hc hk (pmj u i + 3) (pmj u i + 3 + bg u (pmj u i + 2)) _ (by omega) (bg u (pmj u i + 2)) (pmj u i + 3) (bg u (pmj u i + 1)) h L none hu ho (by omega) (by omega) (by omega) (by omega) (by omega) km.2.2.2.2 (fun h' f o => ?_)
    simp (disch := omega) only [sQ_list_156, sQ_list_158, sQ_list_159, sQ_list_162, ax_clr_i, ax_clr_l, ax_clr_r, ax_clr_n, ax_ct_0, ax_ct_i, ax_ct_l, ax_ct_r, va_rf_s, Option.toList_some, Option.toList_none, List.cons_append, List.nil_append, and_true, true_and, and_self, ite_true, ite_false, if_true, if_false, Nat.reduceAdd, Nat.reduceLeDiff, Nat.reduceMul, Nat.reduceLT, nI_add, pk_mul, nI_lt', nI_le', nI_eq', nI_lt0, nI_ge0, nI_eq0, nI_gt0, nI_le0, nI_ne_m1, m1_ne_nI, m1_lt_nI, m1_le_nI, nI_lt_m1, nI_le_m1, nI_clamp, ax_in_nI, nI_shl, nI_shr, lg_cmp0, nx_and, nI_eq1, bI_0, bI_1, bf_or, eq_self, or_true, true_or]
    rw [← epm]
    refine mQ_list_m hc hk m (i + 1) h' _ _ (hu.frO f) o (by omega) (by rw [List.length_append]; omega) (fun h2 f2 o2 => hQ h2 (f.tr f2) ?_)
    rw [ocMs, ← List.append_assoc]
    exact o2
theorem mQ_list_ {h : ax_H} (hu : untM h c u) (hc : c ≤ 12) (hk : okU u) (hQ : ∀ h', frO h h' → ocM h' (ocU u) → Q none h') : ax_wp kM (d + 5) mQ_list 0 [some (.ref 0), some (.int (nI c)), none, none, none, none] [] h Q := by
  have hr := hu.1
  have hz := hu.2.1
  have kk := hk.rest
  have l1 := hu.lt (hdU u + 1)
  have epi : piU u = hdU u + 2 := rfl
  have epf : pfU u = piU u + 1 + bg u (piU u) := rfl
  have epm : pmU u = pfU u + 1 + bg u (pfU u) := rfl
  have f0 : frO h (ax_upI h 0 17 (nI 0)) := ⟨rfl, fun r k a _ _ => by rw [up_I, if_neg a], fun _ _ _ _ => rfl⟩
  have hu0 := hu.frO f0
  have o0 : ocM (ax_upI h 0 17 (nI 0)) [] := ⟨up_at _ _ _ _, by simp, fun i hi => absurd hi (by simp)⟩
  have hh := fun (Q : Option Value → ax_H → Prop) d => mQ_headOf_ (d := d) (Q := Q) hu0 hc hk.1
  simp only [show cAt u (bg u 1 + 1) = hdU u from rfl] at hh
  have b1 := hu0.2.2.1 (hdU u + 1) (by omega)
  rw [← Nat.add_assoc] at b1
  have hr0 := hu0.1
  simp (disch := omega) only [sQ_list_0, sQ_list_1, sQ_list_2, sQ_list_5, sQ_list_6, sQ_list_7, sQ_list_10, sQ_list_11, sQ_list_12, sQ_list_13, sQ_list_14, sQ_list_17, sQ_list_18, sQ_list_19, sQ_list_22, sQ_list_23, sQ_list_25, sQ_list_26, sQ_list_27, sQ_list_28, sQ_list_29, sQ_list_32, sQ_list_33, sQ_list_34, ax_clr_i, ax_clr_l, ax_clr_r, ax_clr_n, ax_ct_0, ax_ct_i, ax_ct_l, ax_ct_r, va_rf_s, Option.toList_some, Option.toList_none, List.cons_append, List.nil_append, and_true, true_and, and_self, ite_true, ite_false, if_true, if_false, Nat.reduceAdd, Nat.reduceLeDiff, Nat.reduceMul, Nat.reduceLT, nI_add, pk_mul, nI_lt', nI_le', nI_eq', nI_lt0, nI_ge0, nI_eq0, nI_gt0, nI_le0, nI_ne_m1, m1_ne_nI, m1_lt_nI, m1_le_nI, nI_lt_m1, nI_le_m1, nI_clamp, ax_in_nI, nI_shl, nI_shr, lg_cmp0, nx_and, nI_eq1, bI_0, bI_1, bf_or, eq_self, or_true, true_or, lt_T, kdM_0, kdM_1, kdM_2, kdM_3, kdM_4, kdM_5, kdM_6, kdM_7, kdM_8, kdM_9, kdM_10, kdM_11, kdM_12, kdM_13, kdM_14, kdM_15, kdM_16, kdM_17, kdM_18, kdM_19, kdM_20, kdM_21, kdM_22, kdM_23, kdM_24, rM_0, rM_1, rM_5, rM_6, rM_7, rM_10, rM_11, rM_12, rM_13, rM_14, rM_15, rM_16, rM_18, rM_19, rM_20, rM_21, rM_23, rM_24, rM_25, rM_26, rM_28, rM_29, rM_30, rM_31, hr0, hh, b1]
  -- behind SUPER
  have rest : ∀ (h1 : ax_H) (L1 : List oc4), untM h1 c u → ocM h1 L1 → L1.length ≤ 1 → (∀ h', frO h1 h' → ocM h' (L1 ++ ocI u (bg u (piU u)) 0 ++ ocMs u (bg u (pmU u)) 0) → Q none h') → ax_wp kM (d + 5) mQ_list 41 [some (.ref 0), some (.int (nI c)), some (.int (nI (120 * c + hdU u + 1))), none, none, none] [] h1 Q := by
    intro h1 L1 hu1 ho1 hl1 hQ1
    simp (disch := omega) only [sQ_list_41, sQ_list_44, sQ_list_45, ax_clr_i, ax_clr_l, ax_clr_r, ax_clr_n, ax_ct_0, ax_ct_i, ax_ct_l, ax_ct_r, va_rf_s, Option.toList_some, Option.toList_none, List.cons_append, List.nil_append, and_true, true_and, and_self, ite_true, ite_false, if_true, if_false, Nat.reduceAdd, Nat.reduceLeDiff, Nat.reduceMul, Nat.reduceLT, nI_add, pk_mul, nI_lt', nI_le', nI_eq', nI_lt0, nI_ge0, nI_eq0, nI_gt0, nI_le0, nI_ne_m1, m1_ne_nI, m1_lt_nI, m1_le_nI, nI_lt_m1, nI_le_m1, nI_clamp, ax_in_nI, nI_shl, nI_shr, lg_cmp0, nx_and, nI_eq1, bI_0, bI_1, bf_or, eq_self, or_true, true_or]
    rw [show 120 * c + hdU u + 1 + 1 = 120 * c + piU u by omega]
    refine mQ_list_i hc hk (bg u (piU u)) 0 h1 L1 hu1 ho1 (by omega) (by omega) (fun h2 f2 o2 => ?_)
    have hu2 := hu1.frO f2
    have hr2 := hu2.1
    have c1 := hu2.2.2.1 (piU u) (by omega)
    have c2 := hu2.2.2.1 (pfU u) (by omega)
    have c3 := hu2.2.2.1 (pmU u) (by omega)
    have e1 : 120 * c + piU u + (1 + bg u (piU u)) = 120 * c + pfU u := by omega
    have e2 : 120 * c + pfU u + (1 + bg u (pfU u)) = 120 * c + pmU u := by omega
    simp (disch := omega) only [sQ_list_83, sQ_list_84, sQ_list_85, sQ_list_86, sQ_list_89, sQ_list_90, sQ_list_91, sQ_list_92, sQ_list_93, sQ_list_94, sQ_list_95, sQ_list_96, sQ_list_97, sQ_list_100, sQ_list_101, sQ_list_102, sQ_list_103, sQ_list_104, sQ_list_105, sQ_list_106, sQ_list_109, sQ_list_110, sQ_list_111, sQ_list_112, sQ_list_115, sQ_list_116, ax_clr_i, ax_clr_l, ax_clr_r, ax_clr_n, ax_ct_0, ax_ct_i, ax_ct_l, ax_ct_r, va_rf_s, Option.toList_some, Option.toList_none, List.cons_append, List.nil_append, and_true, true_and, and_self, ite_true, ite_false, if_true, if_false, Nat.reduceAdd, Nat.reduceLeDiff, Nat.reduceMul, Nat.reduceLT, nI_add, pk_mul, nI_lt', nI_le', nI_eq', nI_lt0, nI_ge0, nI_eq0, nI_gt0, nI_le0, nI_ne_m1, m1_ne_nI, m1_lt_nI, m1_le_nI, nI_lt_m1, nI_le_m1, nI_clamp, ax_in_nI, nI_shl, nI_shr, lg_cmp0, nx_and, nI_eq1, bI_0, bI_1, bf_or, eq_self, or_true, true_or, lt_T, le_T, lt_F, le_F, eq_F, eq_T, kdM_0, kdM_1, kdM_2, kdM_3, kdM_4, kdM_5, kdM_6, kdM_7, kdM_8, kdM_9, kdM_10, kdM_11, kdM_12, kdM_13, kdM_14, kdM_15, kdM_16, kdM_17, kdM_18, kdM_19, kdM_20, kdM_21, kdM_22, kdM_23, kdM_24, rM_0, rM_1, rM_5, rM_6, rM_7, rM_10, rM_11, rM_12, rM_13, rM_14, rM_15, rM_16, rM_18, rM_19, rM_20, rM_21, rM_23, rM_24, rM_25, rM_26, rM_28, rM_29, rM_30, rM_31, hr2, c1, e1, c2, e2, c3]
    refine mQ_list_m hc hk (bg u (pmU u)) 0 h2 _ _ hu2 o2 (by omega) ?_ (fun h3 f3 o3 => hQ1 h3 (f2.tr f3) o3)
    rw [List.length_append]
    simp [ocI]; omega
  by_cases e0 : bg u (hdU u + 1) = 0
  · rw [if_pos e0]
    refine rest _ [] hu0 o0 (by simp) (fun h' f o => hQ h' (f0.tr f) ?_)
    unfold ocU
    rw [if_neg (by omega)]
    exact o
  · rw [if_neg e0]
    have t7 := kk.2.1.resolve_left e0
    rw [mQ_nameOf_c hu0 hc hk _ t7]
    simp (disch := omega) only [sQ_list_37, sQ_list_38, ax_clr_i, ax_clr_l, ax_clr_r, ax_clr_n, ax_ct_0, ax_ct_i, ax_ct_l, ax_ct_r, va_rf_s, Option.toList_some, Option.toList_none, List.cons_append, List.nil_append, and_true, true_and, and_self, ite_true, ite_false, if_true, if_false, Nat.reduceAdd, Nat.reduceLeDiff, Nat.reduceMul, Nat.reduceLT, nI_add, pk_mul, nI_lt', nI_le', nI_eq', nI_lt0, nI_ge0, nI_eq0, nI_gt0, nI_le0, nI_ne_m1, m1_ne_nI, m1_lt_nI, m1_le_nI, nI_lt_m1, nI_le_m1, nI_clamp, ax_in_nI, nI_shl, nI_shr, lg_cmp0, nx_and, nI_eq1, bI_0, bI_1, bf_or, eq_self, or_true, true_or, kdM_0, kdM_1, kdM_2, kdM_3, kdM_4, kdM_5, kdM_6, kdM_7, kdM_8, kdM_9, kdM_10, kdM_11, kdM_12, kdM_13, kdM_14, kdM_15, kdM_16, kdM_17, kdM_18, kdM_19, kdM_20, kdM_21, kdM_22, kdM_23, kdM_24, rM_0, rM_1, rM_5, rM_6, rM_7, rM_10, rM_11, rM_12, rM_13, rM_14, rM_15, rM_16, rM_18, rM_19, rM_20, rM_21, rM_23, rM_24, rM_25, rM_26, rM_28, rM_29, rM_30, rM_31]
    rw [lN_0, ← pB_nil]
    refine mQ_occurrence_ hr0 o0 (by simp) _ _ _ _ (fun h' f o => ?_)
    simp (disch := omega) only [ax_clr_i, ax_clr_l, ax_clr_r, ax_clr_n, ax_ct_0, ax_ct_i, ax_ct_l, ax_ct_r, va_rf_s, Option.toList_some, Option.toList_none, List.cons_append, List.nil_append, and_true, true_and, and_self, ite_true, ite_false, if_true, if_false, Nat.reduceAdd, Nat.reduceLeDiff, Nat.reduceMul, Nat.reduceLT]
    refine rest _ _ (hu0.frO f) o (by simp) (fun h2 f2 o2 => hQ h2 ((f0.tr f).tr f2) ?_)
    unfold ocU
    rw [if_pos (by omega)]
    exact o2
end MI
