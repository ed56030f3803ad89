/-! the model: whether a class has a field or a method of a word -/
def fldU (u : List Nat) (i : Nat) : List Nat := txt u (cAt u (bg u (pfU u + 1 + i)))
def mtdU (u : List Nat) (j : Nat) : List Nat := txt u (cAt u (bg u (pmj u j)))
def hasF (u t : List Nat) : Bool := (List.range (bg u (pfU u))).any (fun i => decide (fldU u i = t))
def hasM (u t : List Nat) : Bool := (List.range (bg u (pmU u))).any (fun j => decide (mtdU u j = t))
theorem any_shift (f : Nat → Bool) (m i : Nat) : (List.range (m + 1)).any (fun j => f (i + j)) = (f i || (List.range m).any (fun j => f (i + 1 + j))) := by
  rw [List.range_succ_eq_map, List.any_cons, List.any_map]
  simp only [Nat.add_zero]
  congr 2
  funext j
  simp only [Function.comp]
  rw [show i + (j + 1) = i + 1 + j by omega]
section MH
variable {d : Nat} {h : ax_H} {u : List Nat} {c : Nat} {Q : Option Value → ax_H → Prop}
theorem mQ_has_fl (hu : untM h c u) (hc : c ≤ 12) (hk : okU u) (t : List Nat) (ht : vT t) (x8 : Option Value) : ∀ (m i : Nat) (fd : Bool), i + m = bg u (pfU u) → ax_wp kM (d + 2) mQ_has 29 [some (.ref 0), some (.int (nI c)), some (.long (lN (pB t))), none, some (.int (nI 1)), some (.int (nI (120 * c + pfU u))), some (.int (bI fd)), some (.int (nI (i + 1))), x8] [] h Q = Q (some (.int (bI (fd || (List.range m).any (fun j => decide (fldU u (i + j) = t)))))) h
  | 0, i, fd, hi => by
    have hr := hu.1
    have hz := hu.2.1
    have kk := hk.rest
    have b1 := hu.2.2.1 (pfU u) (by omega)
    rw [sQ_has_29]
    simp (disch := omega) only [sQ_has_31, sQ_has_32, sQ_has_35, sQ_has_37, sQ_has_38, sQ_has_41, sQ_has_43, sQ_has_46, sQ_has_48, sQ_has_51, sQ_has_52, sQ_has_53, sQ_has_54, sQ_has_57, sQ_has_59, sQ_has_61, sQ_has_62, sQ_has_63, sQ_has_66, sQ_has_67, sQ_has_68, sQ_has_71, sQ_has_72, sQ_has_75, sQ_has_76, sQ_has_78, sQ_has_81, sQ_has_84, sQ_has_86, sQ_has_89, sQ_has_91, ax_clr_i, ax_clr_l, ax_clr_r, ax_clr_n, ax_ct_0, ax_ct_i, ax_ct_l, ax_ct_r, va_rf_s, Option.toList_some, Option.toList_none, List.cons_append, List.nil_append, and_true, true_and, and_self, ite_true, ite_false, if_true, if_false, Nat.reduceAdd, Nat.reduceLeDiff, Nat.reduceMul, Nat.reduceLT, nI_add, pk_mul, nI_lt', nI_le', nI_eq', nI_lt0, nI_ge0, nI_eq0, nI_gt0, nI_le0, nI_ne_m1, m1_ne_nI, m1_lt_nI, m1_le_nI, nI_lt_m1, nI_le_m1, nI_clamp, ax_in_nI, nI_shl, nI_shr, lg_cmp0, nx_and, nI_eq1, bI_0, bI_1, bf_or, eq_self, or_true, true_or, lt_T, le_T, lt_F, le_F, eq_F, eq_T, kdM_0, kdM_1, kdM_2, kdM_3, kdM_4, kdM_5, kdM_6, kdM_7, kdM_8, kdM_9, kdM_10, kdM_11, kdM_12, kdM_13, kdM_14, kdM_15, kdM_16, kdM_17, kdM_18, kdM_19, kdM_20, kdM_21, kdM_22, kdM_23, kdM_24, rM_0, rM_1, rM_5, rM_6, rM_7, rM_10, rM_11, rM_12, rM_13, rM_14, rM_15, rM_16, rM_18, rM_19, rM_20, rM_21, rM_23, rM_24, rM_25, rM_26, rM_28, rM_29, rM_30, rM_31, hr, b1]
    simp
  | m + 1, i, fd, hi => by
    have hr := hu.1
    have hz := hu.2.1
    have kk := hk.rest
    have b1 := hu.2.2.1 (pfU u) (by omega)
    have e9 : pmU u = pfU u + 1 + bg u (pfU u) := rfl
    have b2 := hu.2.2.1 (pfU u + 1 + i) (by omega)
    have l2 := hu.lt (pfU u + 1 + i)
    have t1 := (fU_20 hk.1 (kk.2.2.2.2.2.1 i (by omega))).1
    have hv := (txt_vT hk.1 t1).1
    rw [show 120 * c + (pfU u + 1 + i) = 120 * c + pfU u + (i + 1) by omega] at b2
    have ih := fun fd => mQ_has_fl hu hc hk t ht x8 m (i + 1) fd (by omega)
    rw [sQ_has_29, any_shift (fun j => decide (fldU u j = t))]
    cases fd with
    | true =>
      simp (disch := omega) only [sQ_has_31, sQ_has_32, sQ_has_35, sQ_has_37, sQ_has_38, sQ_has_41, sQ_has_43, sQ_has_46, sQ_has_48, sQ_has_51, sQ_has_52, sQ_has_53, sQ_has_54, sQ_has_57, sQ_has_59, sQ_has_61, sQ_has_62, sQ_has_63, sQ_has_66, sQ_has_67, sQ_has_68, sQ_has_71, sQ_has_72, sQ_has_75, sQ_has_76, sQ_has_78, sQ_has_81, ax_clr_i, ax_clr_l, ax_clr_r, ax_clr_n, ax_ct_0, ax_ct_i, ax_ct_l, ax_ct_r, va_rf_s, Option.toList_some, Option.toList_none, List.cons_append, List.nil_append, and_true, true_and, and_self, ite_true, ite_false, if_true, if_false, Nat.reduceAdd, Nat.reduceLeDiff, Nat.reduceMul, Nat.reduceLT, nI_add, pk_mul, nI_lt', nI_le', nI_eq', nI_lt0, nI_ge0, nI_eq0, nI_gt0, nI_le0, nI_ne_m1, m1_ne_nI, m1_lt_nI, m1_le_nI, nI_lt_m1, nI_le_m1, nI_clamp, ax_in_nI, nI_shl, nI_shr, lg_cmp0, nx_and, nI_eq1, bI_0, bI_1, bf_or, eq_self, or_true, true_or, lt_T, le_T, lt_F, le_F, eq_F, eq_T, kdM_0, kdM_1, kdM_2, kdM_3, kdM_4, kdM_5, kdM_6, kdM_7, kdM_8, kdM_9, kdM_10, kdM_11, kdM_12, kdM_13, kdM_14, kdM_15, kdM_16, kdM_17, kdM_18, kdM_19, kdM_20, kdM_21, kdM_22, kdM_23, kdM_24, rM_0, rM_1, rM_5, rM_6, rM_7, rM_10, rM_11, rM_12, rM_13, rM_14, rM_15, rM_16, rM_18, rM_19, rM_20, rM_21, rM_23, rM_24, rM_25, rM_26, rM_28, rM_29, rM_30, rM_31, hr, b1, Bool.true_eq_false, bI_t]
      have ihT := ih true
      rw [bI_t] at ihT
      rw [ihT]; simp
    | false =>
      simp (disch := omega) only [sQ_has_31, sQ_has_32, sQ_has_35, sQ_has_37, sQ_has_38, sQ_has_41, sQ_has_43, sQ_has_46, sQ_has_48, sQ_has_51, sQ_has_52, sQ_has_53, sQ_has_54, sQ_has_57, sQ_has_59, sQ_has_61, sQ_has_62, sQ_has_63, sQ_has_66, sQ_has_67, sQ_has_68, sQ_has_71, sQ_has_72, sQ_has_75, sQ_has_76, sQ_has_78, sQ_has_81, ax_clr_i, ax_clr_l, ax_clr_r, ax_clr_n, ax_ct_0, ax_ct_i, ax_ct_l, ax_ct_r, va_rf_s, Option.toList_some, Option.toList_none, List.cons_append, List.nil_append, and_true, true_and, and_self, ite_true, ite_false, if_true, if_false, Nat.reduceAdd, Nat.reduceLeDiff, Nat.reduceMul, Nat.reduceLT, nI_add, pk_mul, nI_lt', nI_le', nI_eq', nI_lt0, nI_ge0, nI_eq0, nI_gt0, nI_le0, nI_ne_m1, m1_ne_nI, m1_lt_nI, m1_le_nI, nI_lt_m1, nI_le_m1, nI_clamp, ax_in_nI, nI_shl, nI_shr, lg_cmp0, nx_and, nI_eq1, bI_0, bI_1, bf_or, eq_self, or_true, true_or, lt_T, le_T, lt_F, le_F, eq_F, eq_T, kdM_0, kdM_1, kdM_2, kdM_3, kdM_4, kdM_5, kdM_6, kdM_7, kdM_8, kdM_9, kdM_10, kdM_11, kdM_12, kdM_13, kdM_14, kdM_15, kdM_16, kdM_17, kdM_18, kdM_19, kdM_20, kdM_21, kdM_22, kdM_23, kdM_24, rM_0, rM_1, rM_5, rM_6, rM_7, rM_10, rM_11, rM_12, rM_13, rM_14, rM_15, rM_16, rM_18, rM_19, rM_20, rM_21, rM_23, rM_24, rM_25, rM_26, rM_28, rM_29, rM_30, rM_31, hr, b1, b2, mQ_textOf_ hu hc hk.1 _ t1, lB_eq hv ht, bI_f]
      have ihT := ih true
      have ihF := ih false
      rw [bI_t] at ihT
      rw [bI_f] at ihF
      rw [ihT, ihF]
      have e5 : txt u (cAt u (bg u (pfU u + 1 + i))) = fldU u i := rfl
      rw [e5]
      by_cases e : fldU u i = t <;> simp [e]
theorem mQ_has_f (hu : untM h c u) (hc : c ≤ 12) (hk : okU u) (t : List Nat) (ht : vT t) : ax_wp kM (d + 2) mQ_has 0 [some (.ref 0), some (.int (nI c)), some (.long (lN (pB t))), none, some (.int (nI 1)), none, none, none, none] [] h Q = Q (some (.int (bI (hasF u t)))) h := by
  have hr := hu.1
  have hz := hu.2.1
  have kk := hk.rest
  have b1 := hu.2.2.1 (piU u) (by omega)
  have hh := fun (Q : Option Value → ax_H → Prop) d => mQ_headOf_ (d := d) (Q := Q) hu hc hk.1
  simp only [show cAt u (bg u 1 + 1) = hdU u from rfl] at hh
  have e9 : pfU u = piU u + 1 + bg u (piU u) := rfl
  have e8 : piU u = hdU u + 2 := rfl
  rw [e8, ← Nat.add_assoc, ← e8] at b1
  simp (disch := omega) only [sQ_has_0, sQ_has_1, sQ_has_2, sQ_has_5, sQ_has_6, sQ_has_7, sQ_has_9, sQ_has_11, sQ_has_12, sQ_has_13, sQ_has_16, sQ_has_18, sQ_has_19, sQ_has_20, sQ_has_21, sQ_has_23, sQ_has_24, sQ_has_26, sQ_has_27, ax_clr_i, ax_clr_l, ax_clr_r, ax_clr_n, ax_ct_0, ax_ct_i, ax_ct_l, ax_ct_r, va_rf_s, Option.toList_some, Option.toList_none, List.cons_append, List.nil_append, and_true, true_and, and_self, ite_true, ite_false, if_true, if_false, Nat.reduceAdd, Nat.reduceLeDiff, Nat.reduceMul, Nat.reduceLT, nI_add, pk_mul, nI_lt', nI_le', nI_eq', nI_lt0, nI_ge0, nI_eq0, nI_gt0, nI_le0, nI_ne_m1, m1_ne_nI, m1_lt_nI, m1_le_nI, nI_lt_m1, nI_le_m1, nI_clamp, ax_in_nI, nI_shl, nI_shr, lg_cmp0, nx_and, nI_eq1, bI_0, bI_1, bf_or, eq_self, or_true, true_or, lt_T, le_T, lt_F, le_F, eq_F, eq_T, kdM_0, kdM_1, kdM_2, kdM_3, kdM_4, kdM_5, kdM_6, kdM_7, kdM_8, kdM_9, kdM_10, kdM_11, kdM_12, kdM_13, kdM_14, kdM_15, kdM_16, kdM_17, kdM_18, kdM_19, kdM_20, kdM_21, kdM_22, kdM_23, kdM_24, rM_0, rM_1, rM_5, rM_6, rM_7, rM_10, rM_11, rM_12, rM_13, rM_14, rM_15, rM_16, rM_18, rM_19, rM_20, rM_21, rM_23, rM_24, rM_25, rM_26, rM_28, rM_29, rM_30, rM_31, hr, b1, hh]
  have h9 := mQ_has_fl (d := d) (Q := Q) hu hc hk t ht none (bg u (pfU u)) 0 false (by omega)
  simp only [Nat.zero_add, Bool.false_or, bI_f] at h9
  rw [show 120 * c + hdU u + 2 + (1 + bg u (piU u)) = 120 * c + pfU u by omega]
  exact h9
theorem mQ_has_ml (hu : untM h c u) (hc : c ≤ 12) (hk : okU u) (t : List Nat) (ht : vT t) (y4 : Int32) : ∀ (m i : Nat) (fd : Bool), i + m = bg u (pmU u) → ax_wp kM (d + 2) mQ_has 121 [some (.ref 0), some (.int (nI c)), some (.long (lN (pB t))), none, some (.int y4), some (.int (nI (120 * c + pmj u i))), some (.int (bI fd)), some (.int (nI (bg u (pmU u)))), some (.int (nI i))] [] h Q = Q (some (.int (bI (fd || (List.range m).any (fun j => decide (mtdU u (i + j) = t)))))) h
  | 0, i, fd, hi => by
    have hl := hu.lt (pmU u)
    rw [sQ_has_121]
    simp (disch := omega) only [sQ_has_123, sQ_has_125, sQ_has_128, sQ_has_130, sQ_has_133, sQ_has_134, sQ_has_135, sQ_has_136, sQ_has_139, sQ_has_141, sQ_has_142, sQ_has_145, sQ_has_146, sQ_has_147, sQ_has_150, sQ_has_151, sQ_has_154, sQ_has_155, sQ_has_157, sQ_has_159, sQ_has_160, sQ_has_161, sQ_has_164, sQ_has_166, sQ_has_167, sQ_has_168, sQ_has_169, sQ_has_170, sQ_has_171, sQ_has_173, sQ_has_176, sQ_has_179, sQ_has_181, ax_clr_i, ax_clr_l, ax_clr_r, ax_clr_n, ax_ct_0, ax_ct_i, ax_ct_l, ax_ct_r, va_rf_s, Option.toList_some, Option.toList_none, List.cons_append, List.nil_append, and_true, true_and, and_self, ite_true, ite_false, if_true, if_false, Nat.reduceAdd, Nat.reduceLeDiff, Nat.reduceMul, Nat.reduceLT, nI_add, pk_mul, nI_lt', nI_le', nI_eq', nI_lt0, nI_ge0, nI_eq0, nI_gt0, nI_le0, nI_ne_m1, m1_ne_nI, m1_lt_nI, m1_le_nI, nI_lt_m1, nI_le_m1, nI_clamp, ax_in_nI, nI_shl, nI_shr, lg_cmp0, nx_and, nI_eq1, bI_0, bI_1, bf_or, eq_self, or_true, true_or, lt_T, le_T, lt_F, le_F, eq_F, eq_T]
    simp
  | m + 1, i, fd, hi => by
    have hr := hu.1
    have hz := hu.2.1
    have kk := hk.rest
    have hl := hu.lt (pmU u)
    have km := sMt_len (kk.2.2.2.2.2.2.2.1 i (by omega))
    have b1 := hu.2.2.1 (pmj u i) (by omega)
    have b2 := hu.2.2.1 (pmj u i + 2) (by omega)
    have l1 := hu.lt (pmj u i)
    have l2 := hu.lt (pmj u i + 2)
    have t1 := (fU_20 hk.1 km.2.2.1).1
    have hv := (txt_vT hk.1 t1).1
    rw [← Nat.add_assoc] at b2
    have e9 : pmj u (i + 1) = pmj u i + 3 + bg u (pmj u i + 2) := rfl
    have ih := fun fd => mQ_has_ml hu hc hk t ht y4 m (i + 1) fd (by omega)
    rw [e9, show 120 * c + (pmj u i + 3 + bg u (pmj u i + 2)) = 120 * c + pmj u i + (3 + bg u (pmj u i + 2)) by omega] at ih
    rw [sQ_has_121, any_shift (fun j => decide (mtdU u j = t))]
    cases fd with
    | true =>
      simp (disch := omega) only [sQ_has_123, sQ_has_125, sQ_has_128, sQ_has_130, sQ_has_133, sQ_has_134, sQ_has_135, sQ_has_136, sQ_has_139, sQ_has_141, sQ_has_142, sQ_has_145, sQ_has_146, sQ_has_147, sQ_has_150, sQ_has_151, sQ_has_154, sQ_has_155, sQ_has_157, sQ_has_159, sQ_has_160, sQ_has_161, sQ_has_164, sQ_has_166, sQ_has_167, sQ_has_168, sQ_has_169, sQ_has_170, sQ_has_171, sQ_has_173, sQ_has_176, ax_clr_i, ax_clr_l, ax_clr_r, ax_clr_n, ax_ct_0, ax_ct_i, ax_ct_l, ax_ct_r, va_rf_s, Option.toList_some, Option.toList_none, List.cons_append, List.nil_append, and_true, true_and, and_self, ite_true, ite_false, if_true, if_false, Nat.reduceAdd, Nat.reduceLeDiff, Nat.reduceMul, Nat.reduceLT, nI_add, pk_mul, nI_lt', nI_le', nI_eq', nI_lt0, nI_ge0, nI_eq0, nI_gt0, nI_le0, nI_ne_m1, m1_ne_nI, m1_lt_nI, m1_le_nI, nI_lt_m1, nI_le_m1, nI_clamp, ax_in_nI, nI_shl, nI_shr, lg_cmp0, nx_and, nI_eq1, bI_0, bI_1, bf_or, eq_self, or_true, true_or, lt_T, le_T, lt_F, le_F, eq_F, eq_T, kdM_0, kdM_1, kdM_2, kdM_3, kdM_4, kdM_5, kdM_6, kdM_7, kdM_8, kdM_9, kdM_10, kdM_11, kdM_12, kdM_13, kdM_14, kdM_15, kdM_16, kdM_17, kdM_18, kdM_19, kdM_20, kdM_21, kdM_22, kdM_23, kdM_24, rM_0, rM_1, rM_5, rM_6, rM_7, rM_10, rM_11, rM_12, rM_13, rM_14, rM_15, rM_16, rM_18, rM_19, rM_20, rM_21, rM_23, rM_24, rM_25, rM_26, rM_28, rM_29, rM_30, rM_31, hr, b1, b2, Bool.true_eq_false, bI_t]
      have ihT := ih true
      rw [bI_t] at ihT
      rw [ihT]; simp
    | false =>
      simp (disch := omega) only [sQ_has_123, sQ_has_125, sQ_has_128, sQ_has_130, sQ_has_133, sQ_has_134, sQ_has_135, sQ_has_136, sQ_has_139, sQ_has_141, sQ_has_142, sQ_has_145, sQ_has_146, sQ_has_147, sQ_has_150, sQ_has_151, sQ_has_154, sQ_has_155, sQ_has_157, sQ_has_159, sQ_has_160, sQ_has_161, sQ_has_164, sQ_has_166, sQ_has_167, sQ_has_168, sQ_has_169, sQ_has_170, sQ_has_171, sQ_has_173, sQ_has_176, ax_clr_i, ax_clr_l, ax_clr_r, ax_clr_n, ax_ct_0, ax_ct_i, ax_ct_l, ax_ct_r, va_rf_s, Option.toList_some, Option.toList_none, List.cons_append, List.nil_append, and_true, true_and, and_self, ite_true, ite_false, if_true, if_false, Nat.reduceAdd, Nat.reduceLeDiff, Nat.reduceMul, Nat.reduceLT, nI_add, pk_mul, nI_lt', nI_le', nI_eq', nI_lt0, nI_ge0, nI_eq0, nI_gt0, nI_le0, nI_ne_m1, m1_ne_nI, m1_lt_nI, m1_le_nI, nI_lt_m1, nI_le_m1, nI_clamp, ax_in_nI, nI_shl, nI_shr, lg_cmp0, nx_and, nI_eq1, bI_0, bI_1, bf_or, eq_self, or_true, true_or, lt_T, le_T, lt_F, le_F, eq_F, eq_T, kdM_0, kdM_1, kdM_2, kdM_3, kdM_4, kdM_5, kdM_6, kdM_7, kdM_8, kdM_9, kdM_10, kdM_11, kdM_12, kdM_13, kdM_14, kdM_15, kdM_16, kdM_17, kdM_18, kdM_19, kdM_20, kdM_21, kdM_22, kdM_23, kdM_24, rM_0, rM_1, rM_5, rM_6, rM_7, rM_10, rM_11, rM_12, rM_13, rM_14, rM_15, rM_16, rM_18, rM_19, rM_20, rM_21, rM_23, rM_24, rM_25, rM_26, rM_28, rM_29, rM_30, rM_31, hr, b1, b2, mQ_textOf_ hu hc hk.1 _ t1, lB_eq hv ht, bI_f]
      have ihT := ih true
      have ihF := ih false
      rw [bI_t] at ihT
      rw [bI_f] at ihF
      rw [ihT, ihF]
      have e5 : txt u (cAt u (bg u (pmj u i))) = mtdU u i := rfl
      rw [e5]
      by_cases e : mtdU u i = t <;> simp [e]
set_option maxRecDepth 8000 in
theorem mQ_has_m (hu : untM h c u) (hc : c ≤ 12) (hk : okU u) (t : List Nat) (ht : vT t) : ax_wp kM (d + 2) mQ_has 0 [some (.ref 0), some (.int (nI c)), some (.long (lN (pB t))), none, some (.int (nI 0)), none, none, none, none] [] h Q = Q (some (.int (bI (hasM u t)))) h := by
  have hr := hu.1
  have hz := hu.2.1
  have kk := hk.rest
  have b1 := hu.2.2.1 (piU u) (by omega)
  have b3 := hu.2.2.1 (pfU u) (by omega)
  have b4 := hu.2.2.1 (pmU u) (by omega)
  have lf := hu.lt (pfU u)
  have hh := fun (Q : Option Value → ax_H → Prop) d => mQ_headOf_ (d := d) (Q := Q) hu hc hk.1
  simp only [show cAt u (bg u 1 + 1) = hdU u from rfl] at hh
  have e9 : pfU u = piU u + 1 + bg u (piU u) := rfl
  have e7 : pmU u = pfU u + 1 + bg u (pfU u) := rfl
  have e8 : piU u = hdU u + 2 := rfl
  rw [e8, ← Nat.add_assoc, ← e8] at b1
  have e6 : 120 * c + hdU u + 2 + (1 + bg u (piU u)) = 120 * c + pfU u := by omega
  have e5 : 120 * c + pfU u + (1 + bg u (pfU u)) = 120 * c + pmU u := by omega
  have e4 : 120 * c + pmU u + 1 = 120 * c + pmj u 0 := rfl
  simp (disch := omega) only [sQ_has_0, sQ_has_1, sQ_has_2, sQ_has_5, sQ_has_6, sQ_has_7, sQ_has_9, sQ_has_11, sQ_has_12, sQ_has_13, sQ_has_16, sQ_has_18, sQ_has_19, sQ_has_20, sQ_has_21, sQ_has_23, sQ_has_24, sQ_has_26, sQ_has_27, ax_clr_i, ax_clr_l, ax_clr_r, ax_clr_n, ax_ct_0, ax_ct_i, ax_ct_l, ax_ct_r, va_rf_s, Option.toList_some, Option.toList_none, List.cons_append, List.nil_append, and_true, true_and, and_self, ite_true, ite_false, if_true, if_false, Nat.reduceAdd, Nat.reduceLeDiff, Nat.reduceMul, Nat.reduceLT, nI_add, pk_mul, nI_lt', nI_le', nI_eq', nI_lt0, nI_ge0, nI_eq0, nI_gt0, nI_le0, nI_ne_m1, m1_ne_nI, m1_lt_nI, m1_le_nI, nI_lt_m1, nI_le_m1, nI_clamp, ax_in_nI, nI_shl, nI_shr, lg_cmp0, nx_and, nI_eq1, bI_0, bI_1, bf_or, eq_self, or_true, true_or, kdM_0, kdM_1, kdM_2, kdM_3, kdM_4, kdM_5, kdM_6, kdM_7, kdM_8, kdM_9, kdM_10, kdM_11, kdM_12, kdM_13, kdM_14, kdM_15, kdM_16, kdM_17, kdM_18, kdM_19, kdM_20, kdM_21, kdM_22, kdM_23, kdM_24, rM_0, rM_1, rM_5, rM_6, rM_7, rM_10, rM_11, rM_12, rM_13, rM_14, rM_15, rM_16, rM_18, rM_19, rM_20, rM_21, rM_23, rM_24, rM_25, rM_26, rM_28, rM_29, rM_30, rM_31, hr, b1, hh, e6, lt_T]
  rw [sQ_has_29]
  simp (disch := omega) only [sQ_has_31, sQ_has_32, sQ_has_35, sQ_has_37, sQ_has_38, sQ_has_41, sQ_has_43, sQ_has_84, sQ_has_86, sQ_has_89, sQ_has_91, sQ_has_92, sQ_has_94, sQ_has_95, sQ_has_96, sQ_has_99, sQ_has_101, sQ_has_102, sQ_has_103, sQ_has_104, sQ_has_106, sQ_has_107, sQ_has_110, sQ_has_112, sQ_has_113, sQ_has_115, sQ_has_118, sQ_has_119, ax_clr_i, ax_clr_l, ax_clr_r, ax_clr_n, ax_ct_0, ax_ct_i, ax_ct_l, ax_ct_r, va_rf_s, Option.toList_some, Option.toList_none, List.cons_append, List.nil_append, and_true, true_and, and_self, ite_true, ite_false, if_true, if_false, Nat.reduceAdd, Nat.reduceLeDiff, Nat.reduceMul, Nat.reduceLT, nI_add, pk_mul, nI_lt', nI_le', nI_eq', nI_lt0, nI_ge0, nI_eq0, nI_gt0, nI_le0, nI_ne_m1, m1_ne_nI, m1_lt_nI, m1_le_nI, nI_lt_m1, nI_le_m1, nI_clamp, ax_in_nI, nI_shl, nI_shr, lg_cmp0, nx_and, nI_eq1, bI_0, bI_1, bf_or, eq_self, or_true, true_or, kdM_0, kdM_1, kdM_2, kdM_3, kdM_4, kdM_5, kdM_6, kdM_7, kdM_8, kdM_9, kdM_10, kdM_11, kdM_12, kdM_13, kdM_14, kdM_15, kdM_16, kdM_17, kdM_18, kdM_19, kdM_20, kdM_21, kdM_22, kdM_23, kdM_24, rM_0, rM_1, rM_5, rM_6, rM_7, rM_10, rM_11, rM_12, rM_13, rM_14, rM_15, rM_16, rM_18, rM_19, rM_20, rM_21, rM_23, rM_24, rM_25, rM_26, rM_28, rM_29, rM_30, rM_31, hr, b3, e5, b4, e4, lt_T]
  have h9 := mQ_has_ml (d := d) (Q := Q) hu hc hk t ht (nI 0) (bg u (pmU u)) 0 false (by omega)
  simp only [Nat.zero_add, Bool.false_or, bI_f] at h9
  first | exact h9 | (split <;> exact h9)
end MH
