/-! the model: public calls -/
def aOcs (us : List (List Nat)) (x : Int32) : Int32 := match ixN x us.length with
  | none => -1
  | some c => nI (ocU (uAt us c)).length
def oAt (us : List (List Nat)) (x y : Int32) : Option (Nat × Nat) := match ixN x us.length with
  | none => none
  | some c => match ixN y (ocU (uAt us c)).length with
    | none => none
    | some i => some (c, i)
def oOf (us : List (List Nat)) (c i : Nat) : oc4 := ocA (ocU (uAt us c)) i
def aKind (us : List (List Nat)) (x y : Int32) : Int32 := match oAt us x y with
  | none => -1
  | some (c, i) => nI (oOf us c i).1
def aLine (us : List (List Nat)) (x y : Int32) : Int32 := match oAt us x y with
  | none => -1
  | some (c, i) => nI (oOf us c i).2.1
def aNamd (us : List (List Nat)) (x y : Int32) : Int32 := match oAt us x y with
  | none => -1
  | some (c, i) => oI (ixOf us (oOf us c i).2.2.1)
def aTarg (us : List (List Nat)) (x y : Int32) : Int32 := match oAt us x y with
  | none => -1
  | some (c, i) => oI (tgtU us (oOf us c i).1 (oOf us c i).2.2.1 (oOf us c i).2.2.2)
def aCirc (us : List (List Nat)) (x : Int32) : Bool := match ixN x us.length with
  | none => false
  | some c => cirU us c
theorem oAt_s {us : List (List Nat)} {x y : Int32} {c i : Nat} (h12 : us.length ≤ 12) (hk : ∀ c, c < us.length → okU (uAt us c)) (h : oAt us x y = some (c, i)) : ixN x us.length = some c ∧ x = nI c ∧ c < us.length ∧ ixN y (ocU (uAt us c)).length = some i ∧ y = nI i ∧ i < (ocU (uAt us c)).length := by
  unfold oAt at h
  cases e : ixN x us.length with
  | none => rw [e] at h; cases h
  | some c1 =>
    rw [e] at h
    dsimp only at h
    obtain ⟨a1, a2⟩ := ixN_some (by omega) e
    have l := (ocU_v (hk c1 a1)).2
    cases e2 : ixN y (ocU (uAt us c1)).length with
    | none => rw [e2] at h; cases h
    | some i1 =>
      rw [e2] at h
      obtain ⟨b1, b2⟩ := ixN_some (by omega) e2
      simp only [Option.some.injEq, Prod.mk.injEq] at h
      obtain ⟨rfl, rfl⟩ := h
      exact ⟨rfl, a2, a1, e2, b2, b1⟩
section MP
variable {d : Nat} {Q : Option Value → ax_H → Prop} {us : List (List Nat)}
theorem mQ_isClass_s {h : ax_H} (hc : clsM h us) (c : Nat) (hcl : c < us.length) : ax_wp kM d mQ_isClass 0 [some (.ref 0), some (.int (nI c))] [] h Q = Q (some (.int (bI true))) h := by
  rw [mQ_isClass_ hc, decide_eq_true (isC_is hc.2.2.1 hcl)]
theorem mQ_isClass_n {h : ax_H} (hc : clsM h us) (x : Int32) (hx : ixN x us.length = none) : ax_wp kM d mQ_isClass 0 [some (.ref 0), some (.int x)] [] h Q = Q (some (.int (bI false))) h := by
  rw [mQ_isClass_ hc, decide_eq_false (ixN_none hx)]
theorem mQ_bytes_ {h : ax_H} {b : List Nat} (hb : bufM h b) : ax_wp kM d mQ_bytes 0 [some (.ref 0)] [] h Q = Q (some (.int (nI b.length))) h := by
  have hr := hb.1
  have h1 := hb.2.1
  simp (disch := omega) only [sQ_bytes_0, sQ_bytes_1, sQ_bytes_4, sQ_bytes_6, sQ_bytes_7, ax_clr_i, ax_clr_l, ax_clr_r, ax_clr_n, ax_ct_0, ax_ct_i, ax_ct_l, ax_ct_r, va_rf_s, Option.toList_some, Option.toList_none, List.cons_append, List.nil_append, and_true, true_and, and_self, ite_true, ite_false, if_true, if_false, Nat.reduceAdd, Nat.reduceLeDiff, Nat.reduceMul, Nat.reduceLT, nI_add, pk_mul, nI_lt', nI_le', nI_eq', nI_lt0, nI_ge0, nI_eq0, nI_gt0, nI_le0, nI_ne_m1, m1_ne_nI, m1_lt_nI, m1_le_nI, nI_lt_m1, nI_le_m1, nI_clamp, ax_in_nI, nI_shl, nI_shr, lg_cmp0, nx_and, nI_eq1, bI_0, bI_1, bf_or, eq_self, or_true, true_or, lt_T, le_T, lt_F, le_F, eq_F, eq_T, kdM_0, kdM_1, kdM_2, kdM_3, kdM_4, kdM_5, kdM_6, kdM_7, kdM_8, kdM_9, kdM_10, kdM_11, kdM_12, kdM_13, kdM_14, kdM_15, kdM_16, kdM_17, kdM_18, kdM_19, kdM_20, kdM_21, kdM_22, kdM_23, kdM_24, rM_0, rM_1, rM_5, rM_6, rM_7, rM_10, rM_11, rM_12, rM_13, rM_14, rM_15, rM_16, rM_18, rM_19, rM_20, rM_21, rM_23, rM_24, rM_25, rM_26, rM_28, rM_29, rM_30, rM_31, hr, h1]
theorem mQ_classes_ {h : ax_H} (hc : clsM h us) : ax_wp kM d mQ_classes 0 [some (.ref 0)] [] h Q = Q (some (.int (nI us.length))) h := by
  have h1 := hc.2.1
  simp (disch := omega) only [sQ_classes_0, sQ_classes_1, sQ_classes_4, ax_clr_i, ax_clr_l, ax_clr_r, ax_clr_n, ax_ct_0, ax_ct_i, ax_ct_l, ax_ct_r, va_rf_s, Option.toList_some, Option.toList_none, List.cons_append, List.nil_append, and_true, true_and, and_self, ite_true, ite_false, if_true, if_false, Nat.reduceAdd, Nat.reduceLeDiff, Nat.reduceMul, Nat.reduceLT, nI_add, pk_mul, nI_lt', nI_le', nI_eq', nI_lt0, nI_ge0, nI_eq0, nI_gt0, nI_le0, nI_ne_m1, m1_ne_nI, m1_lt_nI, m1_le_nI, nI_lt_m1, nI_le_m1, nI_clamp, ax_in_nI, nI_shl, nI_shr, lg_cmp0, nx_and, nI_eq1, bI_0, bI_1, bf_or, eq_self, or_true, true_or, lt_T, le_T, lt_F, le_F, eq_F, eq_T, kdM_0, kdM_1, kdM_2, kdM_3, kdM_4, kdM_5, kdM_6, kdM_7, kdM_8, kdM_9, kdM_10, kdM_11, kdM_12, kdM_13, kdM_14, kdM_15, kdM_16, kdM_17, kdM_18, kdM_19, kdM_20, kdM_21, kdM_22, kdM_23, kdM_24, rM_0, rM_1, rM_5, rM_6, rM_7, rM_10, rM_11, rM_12, rM_13, rM_14, rM_15, rM_16, rM_18, rM_19, rM_20, rM_21, rM_23, rM_24, rM_25, rM_26, rM_28, rM_29, rM_30, rM_31, h1]
theorem mQ_occurrences_ {h : ax_H} (hc : clsM h us) (x : Int32) (hQ : ∀ h', frA h h' → Q (some (.int (aOcs us x))) h') : ax_wp kM (d + 6) mQ_occurrences 0 [some (.ref 0), some (.int x)] [] h Q := by
  have h12 := hc.2.2.1
  unfold aOcs at hQ
  cases e : ixN x us.length with
  | none =>
    rw [e] at hQ
    simp (disch := omega) only [sQ_occurrences_0, sQ_occurrences_1, sQ_occurrences_2, sQ_occurrences_5, sQ_occurrences_8, sQ_occurrences_9, ax_clr_i, ax_clr_l, ax_clr_r, ax_clr_n, ax_ct_0, ax_ct_i, ax_ct_l, ax_ct_r, va_rf_s, Option.toList_some, Option.toList_none, List.cons_append, List.nil_append, and_true, true_and, and_self, ite_true, ite_false, if_true, if_false, Nat.reduceAdd, Nat.reduceLeDiff, Nat.reduceMul, Nat.reduceLT, nI_add, pk_mul, nI_lt', nI_le', nI_eq', nI_lt0, nI_ge0, nI_eq0, nI_gt0, nI_le0, nI_ne_m1, m1_ne_nI, m1_lt_nI, m1_le_nI, nI_lt_m1, nI_le_m1, nI_clamp, ax_in_nI, nI_shl, nI_shr, lg_cmp0, nx_and, nI_eq1, bI_0, bI_1, bf_or, eq_self, or_true, true_or, kdM_0, kdM_1, kdM_2, kdM_3, kdM_4, kdM_5, kdM_6, kdM_7, kdM_8, kdM_9, kdM_10, kdM_11, kdM_12, kdM_13, kdM_14, kdM_15, kdM_16, kdM_17, kdM_18, kdM_19, kdM_20, kdM_21, kdM_22, kdM_23, kdM_24, rM_0, rM_1, rM_5, rM_6, rM_7, rM_10, rM_11, rM_12, rM_13, rM_14, rM_15, rM_16, rM_18, rM_19, rM_20, rM_21, rM_23, rM_24, rM_25, rM_26, rM_28, rM_29, rM_30, rM_31, mQ_isClass_n hc x e]
    exact hQ h frA.rf
  | some c =>
    obtain ⟨a1, rfl⟩ := ixN_some (by omega) e
    rw [e] at hQ
    simp (disch := omega) only [sQ_occurrences_0, sQ_occurrences_1, sQ_occurrences_2, sQ_occurrences_5, sQ_occurrences_8, sQ_occurrences_9, sQ_occurrences_10, sQ_occurrences_11, sQ_occurrences_12, ax_clr_i, ax_clr_l, ax_clr_r, ax_clr_n, ax_ct_0, ax_ct_i, ax_ct_l, ax_ct_r, va_rf_s, Option.toList_some, Option.toList_none, List.cons_append, List.nil_append, and_true, true_and, and_self, ite_true, ite_false, if_true, if_false, Nat.reduceAdd, Nat.reduceLeDiff, Nat.reduceMul, Nat.reduceLT, nI_add, pk_mul, nI_lt', nI_le', nI_eq', nI_lt0, nI_ge0, nI_eq0, nI_gt0, nI_le0, nI_ne_m1, m1_ne_nI, m1_lt_nI, m1_le_nI, nI_lt_m1, nI_le_m1, nI_clamp, ax_in_nI, nI_shl, nI_shr, lg_cmp0, nx_and, nI_eq1, bI_0, bI_1, bf_or, eq_self, or_true, true_or, kdM_0, kdM_1, kdM_2, kdM_3, kdM_4, kdM_5, kdM_6, kdM_7, kdM_8, kdM_9, kdM_10, kdM_11, kdM_12, kdM_13, kdM_14, kdM_15, kdM_16, kdM_17, kdM_18, kdM_19, kdM_20, kdM_21, kdM_22, kdM_23, kdM_24, rM_0, rM_1, rM_5, rM_6, rM_7, rM_10, rM_11, rM_12, rM_13, rM_14, rM_15, rM_16, rM_18, rM_19, rM_20, rM_21, rM_23, rM_24, rM_25, rM_26, rM_28, rM_29, rM_30, rM_31, mQ_isClass_s hc c a1, Bool.true_eq_false]
    refine mQ_list_ (hc.2.2.2.2 c a1).1 (by omega) (hc.2.2.2.2 c a1).2 (fun h' f o => ?_)
    have o1 := o.1
    simp (disch := omega) only [sQ_occurrences_15, sQ_occurrences_16, sQ_occurrences_19, ax_clr_i, ax_clr_l, ax_clr_r, ax_clr_n, ax_ct_0, ax_ct_i, ax_ct_l, ax_ct_r, va_rf_s, Option.toList_some, Option.toList_none, List.cons_append, List.nil_append, and_true, true_and, and_self, ite_true, ite_false, if_true, if_false, Nat.reduceAdd, Nat.reduceLeDiff, Nat.reduceMul, Nat.reduceLT, nI_add, pk_mul, nI_lt', nI_le', nI_eq', nI_lt0, nI_ge0, nI_eq0, nI_gt0, nI_le0, nI_ne_m1, m1_ne_nI, m1_lt_nI, m1_le_nI, nI_lt_m1, nI_le_m1, nI_clamp, ax_in_nI, nI_shl, nI_shr, lg_cmp0, nx_and, nI_eq1, bI_0, bI_1, bf_or, eq_self, or_true, true_or, kdM_0, kdM_1, kdM_2, kdM_3, kdM_4, kdM_5, kdM_6, kdM_7, kdM_8, kdM_9, kdM_10, kdM_11, kdM_12, kdM_13, kdM_14, kdM_15, kdM_16, kdM_17, kdM_18, kdM_19, kdM_20, kdM_21, kdM_22, kdM_23, kdM_24, rM_0, rM_1, rM_5, rM_6, rM_7, rM_10, rM_11, rM_12, rM_13, rM_14, rM_15, rM_16, rM_18, rM_19, rM_20, rM_21, rM_23, rM_24, rM_25, rM_26, rM_28, rM_29, rM_30, rM_31, o1]
    exact hQ h' f.a
theorem mQ_isOccurrence_n {h : ax_H} (hc : clsM h us) (x y : Int32) (e : oAt us x y = none) (hQ : ∀ h', frA h h' → Q (some (.int (bI false))) h') : ax_wp kM (d + 6) mQ_isOccurrence 0 [some (.ref 0), some (.int x), some (.int y)] [] h Q := by
  have h12 := hc.2.2.1
  unfold oAt at e
  cases e1 : ixN x us.length with
  | none =>
    simp (disch := omega) only [sQ_isOccurrence_0, sQ_isOccurrence_1, sQ_isOccurrence_2, sQ_isOccurrence_5, sQ_isOccurrence_8, sQ_isOccurrence_9, sQ_isOccurrence_12, sQ_isOccurrence_13, ax_clr_i, ax_clr_l, ax_clr_r, ax_clr_n, ax_ct_0, ax_ct_i, ax_ct_l, ax_ct_r, va_rf_s, Option.toList_some, Option.toList_none, List.cons_append, List.nil_append, and_true, true_and, and_self, ite_true, ite_false, if_true, if_false, Nat.reduceAdd, Nat.reduceLeDiff, Nat.reduceMul, Nat.reduceLT, nI_add, pk_mul, nI_lt', nI_le', nI_eq', nI_lt0, nI_ge0, nI_eq0, nI_gt0, nI_le0, nI_ne_m1, m1_ne_nI, m1_lt_nI, m1_le_nI, nI_lt_m1, nI_le_m1, nI_clamp, ax_in_nI, nI_shl, nI_shr, lg_cmp0, nx_and, nI_eq1, bI_0, bI_1, bf_or, eq_self, or_true, true_or, kdM_0, kdM_1, kdM_2, kdM_3, kdM_4, kdM_5, kdM_6, kdM_7, kdM_8, kdM_9, kdM_10, kdM_11, kdM_12, kdM_13, kdM_14, kdM_15, kdM_16, kdM_17, kdM_18, kdM_19, kdM_20, kdM_21, kdM_22, kdM_23, kdM_24, rM_0, rM_1, rM_5, rM_6, rM_7, rM_10, rM_11, rM_12, rM_13, rM_14, rM_15, rM_16, rM_18, rM_19, rM_20, rM_21, rM_23, rM_24, rM_25, rM_26, rM_28, rM_29, rM_30, rM_31, mQ_isClass_n hc x e1]
    exact hQ h frA.rf
  | some c =>
    obtain ⟨a1, rfl⟩ := ixN_some (by omega) e1
    rw [e1] at e
    dsimp only at e
    have hy : ixN y (ocU (uAt us c)).length = none := by
      cases e2 : ixN y (ocU (uAt us c)).length with
      | none => rfl
      | some i => rw [e2] at e; cases e
    have hy2 := ixN_none hy
    simp (disch := omega) only [sQ_isOccurrence_0, sQ_isOccurrence_1, sQ_isOccurrence_2, sQ_isOccurrence_5, sQ_isOccurrence_8, sQ_isOccurrence_9, ax_clr_i, ax_clr_l, ax_clr_r, ax_clr_n, ax_ct_0, ax_ct_i, ax_ct_l, ax_ct_r, va_rf_s, Option.toList_some, Option.toList_none, List.cons_append, List.nil_append, and_true, true_and, and_self, ite_true, ite_false, if_true, if_false, Nat.reduceAdd, Nat.reduceLeDiff, Nat.reduceMul, Nat.reduceLT, bI_0, kdM_0, kdM_1, kdM_2, kdM_3, kdM_4, kdM_5, kdM_6, kdM_7, kdM_8, kdM_9, kdM_10, kdM_11, kdM_12, kdM_13, kdM_14, kdM_15, kdM_16, kdM_17, kdM_18, kdM_19, kdM_20, kdM_21, kdM_22, kdM_23, kdM_24, rM_0, rM_1, rM_5, rM_6, rM_7, rM_10, rM_11, rM_12, rM_13, rM_14, rM_15, rM_16, rM_18, rM_19, rM_20, rM_21, rM_23, rM_24, rM_25, rM_26, rM_28, rM_29, rM_30, rM_31, mQ_isClass_s hc c a1, Bool.true_eq_false]
    by_cases e3 : 0 ≤ y
    · rw [if_pos e3]
      simp (disch := omega) only [sQ_isOccurrence_14, sQ_isOccurrence_15, sQ_isOccurrence_16, ax_clr_i, ax_clr_l, ax_clr_r, ax_clr_n, ax_ct_0, ax_ct_i, ax_ct_l, ax_ct_r, va_rf_s, Option.toList_some, Option.toList_none, List.cons_append, List.nil_append, and_true, true_and, and_self, ite_true, ite_false, if_true, if_false, Nat.reduceAdd, Nat.reduceLeDiff, Nat.reduceMul, Nat.reduceLT, kdM_0, kdM_1, kdM_2, kdM_3, kdM_4, kdM_5, kdM_6, kdM_7, kdM_8, kdM_9, kdM_10, kdM_11, kdM_12, kdM_13, kdM_14, kdM_15, kdM_16, kdM_17, kdM_18, kdM_19, kdM_20, kdM_21, kdM_22, kdM_23, kdM_24, rM_0, rM_1, rM_5, rM_6, rM_7, rM_10, rM_11, rM_12, rM_13, rM_14, rM_15, rM_16, rM_18, rM_19, rM_20, rM_21, rM_23, rM_24, rM_25, rM_26, rM_28, rM_29, rM_30, rM_31]
      refine mQ_list_ (hc.2.2.2.2 c a1).1 (by omega) (hc.2.2.2.2 c a1).2 (fun h' f o => ?_)
      have o1 := o.1
      simp (disch := omega) only [sQ_isOccurrence_19, sQ_isOccurrence_20, sQ_isOccurrence_21, sQ_isOccurrence_24, sQ_isOccurrence_27, sQ_isOccurrence_28, sQ_isOccurrence_31, sQ_isOccurrence_32, ax_clr_i, ax_clr_l, ax_clr_r, ax_clr_n, ax_ct_0, ax_ct_i, ax_ct_l, ax_ct_r, va_rf_s, Option.toList_some, Option.toList_none, List.cons_append, List.nil_append, and_true, true_and, and_self, ite_true, ite_false, if_true, if_false, Nat.reduceAdd, Nat.reduceLeDiff, Nat.reduceMul, Nat.reduceLT, kdM_0, kdM_1, kdM_2, kdM_3, kdM_4, kdM_5, kdM_6, kdM_7, kdM_8, kdM_9, kdM_10, kdM_11, kdM_12, kdM_13, kdM_14, kdM_15, kdM_16, kdM_17, kdM_18, kdM_19, kdM_20, kdM_21, kdM_22, kdM_23, kdM_24, rM_0, rM_1, rM_5, rM_6, rM_7, rM_10, rM_11, rM_12, rM_13, rM_14, rM_15, rM_16, rM_18, rM_19, rM_20, rM_21, rM_23, rM_24, rM_25, rM_26, rM_28, rM_29, rM_30, rM_31, o1]
      rw [if_pos (by rw [← Int32.not_lt]; exact fun q => hy2 ⟨e3, q⟩)]
      simp (disch := omega) only [sQ_isOccurrence_19, sQ_isOccurrence_20, sQ_isOccurrence_21, sQ_isOccurrence_24, sQ_isOccurrence_27, sQ_isOccurrence_28, sQ_isOccurrence_31, sQ_isOccurrence_32, ax_clr_i, ax_clr_l, ax_clr_r, ax_clr_n, ax_ct_0, ax_ct_i, ax_ct_l, ax_ct_r, va_rf_s, Option.toList_some, Option.toList_none, List.cons_append, List.nil_append, and_true, true_and, and_self, ite_true, ite_false, if_true, if_false, Nat.reduceAdd, Nat.reduceLeDiff, Nat.reduceMul, Nat.reduceLT, nI_add, pk_mul, nI_lt', nI_le', nI_eq', nI_lt0, nI_ge0, nI_eq0, nI_gt0, nI_le0, nI_ne_m1, m1_ne_nI, m1_lt_nI, m1_le_nI, nI_lt_m1, nI_le_m1, nI_clamp, ax_in_nI, nI_shl, nI_shr, lg_cmp0, nx_and, nI_eq1, bI_0, bI_1, bf_or, eq_self, or_true, true_or]
      exact hQ h' f.a
    · rw [if_neg e3]
      simp (disch := omega) only [sQ_isOccurrence_12, sQ_isOccurrence_13, ax_clr_i, ax_clr_l, ax_clr_r, ax_clr_n, ax_ct_0, ax_ct_i, ax_ct_l, ax_ct_r, va_rf_s, Option.toList_some, Option.toList_none, List.cons_append, List.nil_append, and_true, true_and, and_self, ite_true, ite_false, if_true, if_false, Nat.reduceAdd, Nat.reduceLeDiff, Nat.reduceMul, Nat.reduceLT, nI_add, pk_mul, nI_lt', nI_le', nI_eq', nI_lt0, nI_ge0, nI_eq0, nI_gt0, nI_le0, nI_ne_m1, m1_ne_nI, m1_lt_nI, m1_le_nI, nI_lt_m1, nI_le_m1, nI_clamp, ax_in_nI, nI_shl, nI_shr, lg_cmp0, nx_and, nI_eq1, bI_0, bI_1, bf_or, eq_self, or_true, true_or]
      exact hQ h frA.rf
theorem mQ_isOccurrence_s {h : ax_H} (hc : clsM h us) (x y : Int32) (c i : Nat) (e : oAt us x y = some (c, i)) (hQ : ∀ h', frA h h' → ocM h' (ocU (uAt us c)) → Q (some (.int (bI true))) h') : ax_wp kM (d + 6) mQ_isOccurrence 0 [some (.ref 0), some (.int x), some (.int y)] [] h Q := by
  have h12 := hc.2.2.1
  obtain ⟨e1, rfl, a1, e2, rfl, b1⟩ := oAt_s h12 (fun c h1 => (hc.2.2.2.2 c h1).2) e
  have l := (ocU_v (hc.2.2.2.2 c a1).2).2
  simp (disch := omega) only [sQ_isOccurrence_0, sQ_isOccurrence_1, sQ_isOccurrence_2, sQ_isOccurrence_5, sQ_isOccurrence_8, sQ_isOccurrence_9, sQ_isOccurrence_12, sQ_isOccurrence_13, sQ_isOccurrence_14, sQ_isOccurrence_15, sQ_isOccurrence_16, ax_clr_i, ax_clr_l, ax_clr_r, ax_clr_n, ax_ct_0, ax_ct_i, ax_ct_l, ax_ct_r, va_rf_s, Option.toList_some, Option.toList_none, List.cons_append, List.nil_append, and_true, true_and, and_self, ite_true, ite_false, if_true, if_false, Nat.reduceAdd, Nat.reduceLeDiff, Nat.reduceMul, Nat.reduceLT, bI_0, nI_ge0, kdM_0, kdM_1, kdM_2, kdM_3, kdM_4, kdM_5, kdM_6, kdM_7, kdM_8, kdM_9, kdM_10, kdM_11, kdM_12, kdM_13, kdM_14, kdM_15, kdM_16, kdM_17, kdM_18, kdM_19, kdM_20, kdM_21, kdM_22, kdM_23, kdM_24, rM_0, rM_1, rM_5, rM_6, rM_7, rM_10, rM_11, rM_12, rM_13, rM_14, rM_15, rM_16, rM_18, rM_19, rM_20, rM_21, rM_23, rM_24, rM_25, rM_26, rM_28, rM_29, rM_30, rM_31, mQ_isClass_s hc c a1, Bool.true_eq_false]
  refine mQ_list_ (hc.2.2.2.2 c a1).1 (by omega) (hc.2.2.2.2 c a1).2 (fun h' f o => ?_)
  have o1 := o.1
  simp (disch := omega) only [sQ_isOccurrence_19, sQ_isOccurrence_20, sQ_isOccurrence_21, sQ_isOccurrence_24, sQ_isOccurrence_27, sQ_isOccurrence_28, sQ_isOccurrence_31, sQ_isOccurrence_32, ax_clr_i, ax_clr_l, ax_clr_r, ax_clr_n, ax_ct_0, ax_ct_i, ax_ct_l, ax_ct_r, va_rf_s, Option.toList_some, Option.toList_none, List.cons_append, List.nil_append, and_true, true_and, and_self, ite_true, ite_false, if_true, if_false, Nat.reduceAdd, Nat.reduceLeDiff, Nat.reduceMul, Nat.reduceLT, nI_add, pk_mul, nI_lt', nI_le', nI_eq', nI_lt0, nI_ge0, nI_eq0, nI_gt0, nI_le0, nI_ne_m1, m1_ne_nI, m1_lt_nI, m1_le_nI, nI_lt_m1, nI_le_m1, nI_clamp, ax_in_nI, nI_shl, nI_shr, lg_cmp0, nx_and, nI_eq1, bI_0, bI_1, bf_or, eq_self, or_true, true_or, kdM_0, kdM_1, kdM_2, kdM_3, kdM_4, kdM_5, kdM_6, kdM_7, kdM_8, kdM_9, kdM_10, kdM_11, kdM_12, kdM_13, kdM_14, kdM_15, kdM_16, kdM_17, kdM_18, kdM_19, kdM_20, kdM_21, kdM_22, kdM_23, kdM_24, rM_0, rM_1, rM_5, rM_6, rM_7, rM_10, rM_11, rM_12, rM_13, rM_14, rM_15, rM_16, rM_18, rM_19, rM_20, rM_21, rM_23, rM_24, rM_25, rM_26, rM_28, rM_29, rM_30, rM_31, o1, le_F]
  exact hQ h' f.a o
theorem mQ_kind_ {h : ax_H} (hc : clsM h us) (x y : Int32) (hQ : ∀ h', frA h h' → Q (some (.int (aKind us x y))) h') : ax_wp kM (d + 7) mQ_kind 0 [some (.ref 0), some (.int x), some (.int y)] [] h Q := by
  have h12 := hc.2.2.1
  unfold aKind at hQ
  simp (disch := omega) only [sQ_kind_0, sQ_kind_1, sQ_kind_2, sQ_kind_3, ax_clr_i, ax_clr_l, ax_clr_r, ax_clr_n, ax_ct_0, ax_ct_i, ax_ct_l, ax_ct_r, va_rf_s, Option.toList_some, Option.toList_none, List.cons_append, List.nil_append, and_true, true_and, and_self, ite_true, ite_false, if_true, if_false, Nat.reduceAdd, Nat.reduceLeDiff, Nat.reduceMul, Nat.reduceLT, kdM_0, kdM_1, kdM_2, kdM_3, kdM_4, kdM_5, kdM_6, kdM_7, kdM_8, kdM_9, kdM_10, kdM_11, kdM_12, kdM_13, kdM_14, kdM_15, kdM_16, kdM_17, kdM_18, kdM_19, kdM_20, kdM_21, kdM_22, kdM_23, kdM_24, rM_0, rM_1, rM_5, rM_6, rM_7, rM_10, rM_11, rM_12, rM_13, rM_14, rM_15, rM_16, rM_18, rM_19, rM_20, rM_21, rM_23, rM_24, rM_25, rM_26, rM_28, rM_29, rM_30, rM_31]
  cases e : oAt us x y with
  | none =>
    rw [e] at hQ
    refine mQ_isOccurrence_n hc x y e (fun h' f => ?_)
    simp (disch := omega) only [sQ_kind_6, sQ_kind_9, sQ_kind_10, sQ_kind_13, sQ_kind_14, sQ_kind_15, sQ_kind_18, sQ_kind_19, ax_clr_i, ax_clr_l, ax_clr_r, ax_clr_n, ax_ct_0, ax_ct_i, ax_ct_l, ax_ct_r, va_rf_s, Option.toList_some, Option.toList_none, List.cons_append, List.nil_append, and_true, true_and, and_self, ite_true, ite_false, if_true, if_false, Nat.reduceAdd, Nat.reduceLeDiff, Nat.reduceMul, Nat.reduceLT, nI_add, pk_mul, nI_lt', nI_le', nI_eq', nI_lt0, nI_ge0, nI_eq0, nI_gt0, nI_le0, nI_ne_m1, m1_ne_nI, m1_lt_nI, m1_le_nI, nI_lt_m1, nI_le_m1, nI_clamp, ax_in_nI, nI_shl, nI_shr, lg_cmp0, nx_and, nI_eq1, bI_0, bI_1, bf_or, eq_self, or_true, true_or]
    exact hQ h' f
  | some q =>
    obtain ⟨c, i⟩ := q
    obtain ⟨e1, ex, a1, e2, ey, b1⟩ := oAt_s h12 (fun c h1 => (hc.2.2.2.2 c h1).2) e
    have l := (ocU_v (hc.2.2.2.2 c a1).2).2
    rw [e] at hQ
    refine mQ_isOccurrence_s hc x y c i e (fun h' f o => ?_)
    have hr : h'.2.2 = rM := by rw [f.1]; exact hc.1
    have o1 := (o.2.2 i b1).1
    subst ey
    simp (disch := omega) only [sQ_kind_6, sQ_kind_9, sQ_kind_10, sQ_kind_13, sQ_kind_14, sQ_kind_15, sQ_kind_18, sQ_kind_19, ax_clr_i, ax_clr_l, ax_clr_r, ax_clr_n, ax_ct_0, ax_ct_i, ax_ct_l, ax_ct_r, va_rf_s, Option.toList_some, Option.toList_none, List.cons_append, List.nil_append, and_true, true_and, and_self, ite_true, ite_false, if_true, if_false, Nat.reduceAdd, Nat.reduceLeDiff, Nat.reduceMul, Nat.reduceLT, nI_add, pk_mul, nI_lt', nI_le', nI_eq', nI_lt0, nI_ge0, nI_eq0, nI_gt0, nI_le0, nI_ne_m1, m1_ne_nI, m1_lt_nI, m1_le_nI, nI_lt_m1, nI_le_m1, nI_clamp, ax_in_nI, nI_shl, nI_shr, lg_cmp0, nx_and, nI_eq1, bI_0, bI_1, bf_or, eq_self, or_true, true_or, kdM_0, kdM_1, kdM_2, kdM_3, kdM_4, kdM_5, kdM_6, kdM_7, kdM_8, kdM_9, kdM_10, kdM_11, kdM_12, kdM_13, kdM_14, kdM_15, kdM_16, kdM_17, kdM_18, kdM_19, kdM_20, kdM_21, kdM_22, kdM_23, kdM_24, rM_0, rM_1, rM_5, rM_6, rM_7, rM_10, rM_11, rM_12, rM_13, rM_14, rM_15, rM_16, rM_18, rM_19, rM_20, rM_21, rM_23, rM_24, rM_25, rM_26, rM_28, rM_29, rM_30, rM_31, lt_T, le_T, lt_F, le_F, eq_F, eq_T, hr, o1, Bool.true_eq_false]
    exact hQ h' f
theorem mQ_line_ {h : ax_H} (hc : clsM h us) (x y : Int32) (hQ : ∀ h', frA h h' → Q (some (.int (aLine us x y))) h') : ax_wp kM (d + 7) mQ_line 0 [some (.ref 0), some (.int x), some (.int y)] [] h Q := by
  have h12 := hc.2.2.1
  unfold aLine at hQ
  simp (disch := omega) only [sQ_line_0, sQ_line_1, sQ_line_2, sQ_line_3, ax_clr_i, ax_clr_l, ax_clr_r, ax_clr_n, ax_ct_0, ax_ct_i, ax_ct_l, ax_ct_r, va_rf_s, Option.toList_some, Option.toList_none, List.cons_append, List.nil_append, and_true, true_and, and_self, ite_true, ite_false, if_true, if_false, Nat.reduceAdd, Nat.reduceLeDiff, Nat.reduceMul, Nat.reduceLT, kdM_0, kdM_1, kdM_2, kdM_3, kdM_4, kdM_5, kdM_6, kdM_7, kdM_8, kdM_9, kdM_10, kdM_11, kdM_12, kdM_13, kdM_14, kdM_15, kdM_16, kdM_17, kdM_18, kdM_19, kdM_20, kdM_21, kdM_22, kdM_23, kdM_24, rM_0, rM_1, rM_5, rM_6, rM_7, rM_10, rM_11, rM_12, rM_13, rM_14, rM_15, rM_16, rM_18, rM_19, rM_20, rM_21, rM_23, rM_24, rM_25, rM_26, rM_28, rM_29, rM_30, rM_31]
  cases e : oAt us x y with
  | none =>
    rw [e] at hQ
    refine mQ_isOccurrence_n hc x y e (fun h' f => ?_)
    simp (disch := omega) only [sQ_line_6, sQ_line_9, sQ_line_10, sQ_line_13, sQ_line_14, sQ_line_15, sQ_line_18, sQ_line_19, ax_clr_i, ax_clr_l, ax_clr_r, ax_clr_n, ax_ct_0, ax_ct_i, ax_ct_l, ax_ct_r, va_rf_s, Option.toList_some, Option.toList_none, List.cons_append, List.nil_append, and_true, true_and, and_self, ite_true, ite_false, if_true, if_false, Nat.reduceAdd, Nat.reduceLeDiff, Nat.reduceMul, Nat.reduceLT, nI_add, pk_mul, nI_lt', nI_le', nI_eq', nI_lt0, nI_ge0, nI_eq0, nI_gt0, nI_le0, nI_ne_m1, m1_ne_nI, m1_lt_nI, m1_le_nI, nI_lt_m1, nI_le_m1, nI_clamp, ax_in_nI, nI_shl, nI_shr, lg_cmp0, nx_and, nI_eq1, bI_0, bI_1, bf_or, eq_self, or_true, true_or]
    exact hQ h' f
  | some q =>
    obtain ⟨c, i⟩ := q
    obtain ⟨e1, ex, a1, e2, ey, b1⟩ := oAt_s h12 (fun c h1 => (hc.2.2.2.2 c h1).2) e
    have l := (ocU_v (hc.2.2.2.2 c a1).2).2
    rw [e] at hQ
    refine mQ_isOccurrence_s hc x y c i e (fun h' f o => ?_)
    have hr : h'.2.2 = rM := by rw [f.1]; exact hc.1
    have o1 := (o.2.2 i b1).2.1
    subst ey
    simp (disch := omega) only [sQ_line_6, sQ_line_9, sQ_line_10, sQ_line_13, sQ_line_14, sQ_line_15, sQ_line_18, sQ_line_19, ax_clr_i, ax_clr_l, ax_clr_r, ax_clr_n, ax_ct_0, ax_ct_i, ax_ct_l, ax_ct_r, va_rf_s, Option.toList_some, Option.toList_none, List.cons_append, List.nil_append, and_true, true_and, and_self, ite_true, ite_false, if_true, if_false, Nat.reduceAdd, Nat.reduceLeDiff, Nat.reduceMul, Nat.reduceLT, nI_add, pk_mul, nI_lt', nI_le', nI_eq', nI_lt0, nI_ge0, nI_eq0, nI_gt0, nI_le0, nI_ne_m1, m1_ne_nI, m1_lt_nI, m1_le_nI, nI_lt_m1, nI_le_m1, nI_clamp, ax_in_nI, nI_shl, nI_shr, lg_cmp0, nx_and, nI_eq1, bI_0, bI_1, bf_or, eq_self, or_true, true_or, kdM_0, kdM_1, kdM_2, kdM_3, kdM_4, kdM_5, kdM_6, kdM_7, kdM_8, kdM_9, kdM_10, kdM_11, kdM_12, kdM_13, kdM_14, kdM_15, kdM_16, kdM_17, kdM_18, kdM_19, kdM_20, kdM_21, kdM_22, kdM_23, kdM_24, rM_0, rM_1, rM_5, rM_6, rM_7, rM_10, rM_11, rM_12, rM_13, rM_14, rM_15, rM_16, rM_18, rM_19, rM_20, rM_21, rM_23, rM_24, rM_25, rM_26, rM_28, rM_29, rM_30, rM_31, lt_T, le_T, lt_F, le_F, eq_F, eq_T, hr, o1, Bool.true_eq_false]
    exact hQ h' f
theorem mQ_named_ {h : ax_H} (hc : clsM h us) (x y : Int32) (hQ : ∀ h', frA h h' → Q (some (.int (aNamd us x y))) h') : ax_wp kM (d + 7) mQ_named 0 [some (.ref 0), some (.int x), some (.int y)] [] h Q := by
  have h12 := hc.2.2.1
  unfold aNamd at hQ
  simp (disch := omega) only [sQ_named_0, sQ_named_1, sQ_named_2, sQ_named_3, ax_clr_i, ax_clr_l, ax_clr_r, ax_clr_n, ax_ct_0, ax_ct_i, ax_ct_l, ax_ct_r, va_rf_s, Option.toList_some, Option.toList_none, List.cons_append, List.nil_append, and_true, true_and, and_self, ite_true, ite_false, if_true, if_false, Nat.reduceAdd, Nat.reduceLeDiff, Nat.reduceMul, Nat.reduceLT, kdM_0, kdM_1, kdM_2, kdM_3, kdM_4, kdM_5, kdM_6, kdM_7, kdM_8, kdM_9, kdM_10, kdM_11, kdM_12, kdM_13, kdM_14, kdM_15, kdM_16, kdM_17, kdM_18, kdM_19, kdM_20, kdM_21, kdM_22, kdM_23, kdM_24, rM_0, rM_1, rM_5, rM_6, rM_7, rM_10, rM_11, rM_12, rM_13, rM_14, rM_15, rM_16, rM_18, rM_19, rM_20, rM_21, rM_23, rM_24, rM_25, rM_26, rM_28, rM_29, rM_30, rM_31]
  cases e : oAt us x y with
  | none =>
    rw [e] at hQ
    refine mQ_isOccurrence_n hc x y e (fun h' f => ?_)
    simp (disch := omega) only [sQ_named_6, sQ_named_9, sQ_named_10, sQ_named_11, sQ_named_14, sQ_named_15, sQ_named_16, sQ_named_19, sQ_named_22, sQ_named_23, ax_clr_i, ax_clr_l, ax_clr_r, ax_clr_n, ax_ct_0, ax_ct_i, ax_ct_l, ax_ct_r, va_rf_s, Option.toList_some, Option.toList_none, List.cons_append, List.nil_append, and_true, true_and, and_self, ite_true, ite_false, if_true, if_false, Nat.reduceAdd, Nat.reduceLeDiff, Nat.reduceMul, Nat.reduceLT, nI_add, pk_mul, nI_lt', nI_le', nI_eq', nI_lt0, nI_ge0, nI_eq0, nI_gt0, nI_le0, nI_ne_m1, m1_ne_nI, m1_lt_nI, m1_le_nI, nI_lt_m1, nI_le_m1, nI_clamp, ax_in_nI, nI_shl, nI_shr, lg_cmp0, nx_and, nI_eq1, bI_0, bI_1, bf_or, eq_self, or_true, true_or]
    exact hQ h' f
  | some q =>
    obtain ⟨c, i⟩ := q
    obtain ⟨e1, ex, a1, e2, ey, b1⟩ := oAt_s h12 (fun c h1 => (hc.2.2.2.2 c h1).2) e
    have l := (ocU_v (hc.2.2.2.2 c a1).2).2
    have v := ocA_v (hc.2.2.2.2 c a1).2 b1
    rw [e] at hQ
    refine mQ_isOccurrence_s hc x y c i e (fun h' f o => ?_)
    have hc' := hc.a f
    have hr := hc'.1
    have o1 := (o.2.2 i b1).2.2.1
    subst ey
    simp (disch := omega) only [sQ_named_6, sQ_named_9, sQ_named_10, sQ_named_11, sQ_named_14, sQ_named_15, sQ_named_16, sQ_named_19, sQ_named_22, sQ_named_23, ax_clr_i, ax_clr_l, ax_clr_r, ax_clr_n, ax_ct_0, ax_ct_i, ax_ct_l, ax_ct_r, va_rf_s, Option.toList_some, Option.toList_none, List.cons_append, List.nil_append, and_true, true_and, and_self, ite_true, ite_false, if_true, if_false, Nat.reduceAdd, Nat.reduceLeDiff, Nat.reduceMul, Nat.reduceLT, nI_add, pk_mul, nI_lt', nI_le', nI_eq', nI_lt0, nI_ge0, nI_eq0, nI_gt0, nI_le0, nI_ne_m1, m1_ne_nI, m1_lt_nI, m1_le_nI, nI_lt_m1, nI_le_m1, nI_clamp, ax_in_nI, nI_shl, nI_shr, lg_cmp0, nx_and, nI_eq1, bI_0, bI_1, bf_or, eq_self, or_true, true_or, kdM_0, kdM_1, kdM_2, kdM_3, kdM_4, kdM_5, kdM_6, kdM_7, kdM_8, kdM_9, kdM_10, kdM_11, kdM_12, kdM_13, kdM_14, kdM_15, kdM_16, kdM_17, kdM_18, kdM_19, kdM_20, kdM_21, kdM_22, kdM_23, kdM_24, rM_0, rM_1, rM_5, rM_6, rM_7, rM_10, rM_11, rM_12, rM_13, rM_14, rM_15, rM_16, rM_18, rM_19, rM_20, rM_21, rM_23, rM_24, rM_25, rM_26, rM_28, rM_29, rM_30, rM_31, lt_T, le_T, lt_F, le_F, eq_F, eq_T, hr, o1, Bool.true_eq_false, mQ_indexOf_ hc' _ v.2.1]
    exact hQ h' f
theorem mQ_target_ {h : ax_H} (hc : clsM h us) (x y : Int32) (hQ : ∀ h', frA h h' → Q (some (.int (aTarg us x y))) h') : ax_wp kM (d + 9) mQ_target 0 [some (.ref 0), some (.int x), some (.int y)] [] h Q := by
  have h12 := hc.2.2.1
  unfold aTarg at hQ
  simp (disch := omega) only [sQ_target_0, sQ_target_1, sQ_target_2, sQ_target_3, ax_clr_i, ax_clr_l, ax_clr_r, ax_clr_n, ax_ct_0, ax_ct_i, ax_ct_l, ax_ct_r, va_rf_s, Option.toList_some, Option.toList_none, List.cons_append, List.nil_append, and_true, true_and, and_self, ite_true, ite_false, if_true, if_false, Nat.reduceAdd, Nat.reduceLeDiff, Nat.reduceMul, Nat.reduceLT, kdM_0, kdM_1, kdM_2, kdM_3, kdM_4, kdM_5, kdM_6, kdM_7, kdM_8, kdM_9, kdM_10, kdM_11, kdM_12, kdM_13, kdM_14, kdM_15, kdM_16, kdM_17, kdM_18, kdM_19, kdM_20, kdM_21, kdM_22, kdM_23, kdM_24, rM_0, rM_1, rM_5, rM_6, rM_7, rM_10, rM_11, rM_12, rM_13, rM_14, rM_15, rM_16, rM_18, rM_19, rM_20, rM_21, rM_23, rM_24, rM_25, rM_26, rM_28, rM_29, rM_30, rM_31]
  cases e : oAt us x y with
  | none =>
    rw [e] at hQ
    refine mQ_isOccurrence_n (d := d + 2) hc x y e (fun h' f => ?_)
    simp (disch := omega) only [sQ_target_6, sQ_target_9, sQ_target_10, sQ_target_11, sQ_target_14, sQ_target_15, sQ_target_16, sQ_target_17, sQ_target_20, sQ_target_21, sQ_target_22, sQ_target_23, sQ_target_26, sQ_target_27, sQ_target_28, sQ_target_31, sQ_target_34, sQ_target_35, ax_clr_i, ax_clr_l, ax_clr_r, ax_clr_n, ax_ct_0, ax_ct_i, ax_ct_l, ax_ct_r, va_rf_s, Option.toList_some, Option.toList_none, List.cons_append, List.nil_append, and_true, true_and, and_self, ite_true, ite_false, if_true, if_false, Nat.reduceAdd, Nat.reduceLeDiff, Nat.reduceMul, Nat.reduceLT, nI_add, pk_mul, nI_lt', nI_le', nI_eq', nI_lt0, nI_ge0, nI_eq0, nI_gt0, nI_le0, nI_ne_m1, m1_ne_nI, m1_lt_nI, m1_le_nI, nI_lt_m1, nI_le_m1, nI_clamp, ax_in_nI, nI_shl, nI_shr, lg_cmp0, nx_and, nI_eq1, bI_0, bI_1, bf_or, eq_self, or_true, true_or]
    exact hQ h' f
  | some q =>
    obtain ⟨c, i⟩ := q
    obtain ⟨e1, ex, a1, e2, ey, b1⟩ := oAt_s h12 (fun c h1 => (hc.2.2.2.2 c h1).2) e
    have l := (ocU_v (hc.2.2.2.2 c a1).2).2
    have v := ocA_v (hc.2.2.2.2 c a1).2 b1
    rw [e] at hQ
    refine mQ_isOccurrence_s (d := d + 2) hc x y c i e (fun h' f o => ?_)
    have hc' := hc.a f
    have hr := hc'.1
    have o1 := (o.2.2 i b1).1
    have o3 := (o.2.2 i b1).2.2.1
    have o4 := (o.2.2 i b1).2.2.2
    have v1 := v.1
    subst ey
    simp (disch := omega) only [sQ_target_6, sQ_target_9, sQ_target_10, sQ_target_11, sQ_target_14, sQ_target_15, sQ_target_16, sQ_target_17, sQ_target_20, sQ_target_21, sQ_target_22, sQ_target_23, sQ_target_26, sQ_target_27, sQ_target_28, ax_clr_i, ax_clr_l, ax_clr_r, ax_clr_n, ax_ct_0, ax_ct_i, ax_ct_l, ax_ct_r, va_rf_s, Option.toList_some, Option.toList_none, List.cons_append, List.nil_append, and_true, true_and, and_self, ite_true, ite_false, if_true, if_false, Nat.reduceAdd, Nat.reduceLeDiff, Nat.reduceMul, Nat.reduceLT, nI_add, pk_mul, nI_lt', nI_le', nI_eq', nI_lt0, nI_ge0, nI_eq0, nI_gt0, nI_le0, nI_ne_m1, m1_ne_nI, m1_lt_nI, m1_le_nI, nI_lt_m1, nI_le_m1, nI_clamp, ax_in_nI, nI_shl, nI_shr, lg_cmp0, nx_and, nI_eq1, bI_0, bI_1, bf_or, eq_self, or_true, true_or, kdM_0, kdM_1, kdM_2, kdM_3, kdM_4, kdM_5, kdM_6, kdM_7, kdM_8, kdM_9, kdM_10, kdM_11, kdM_12, kdM_13, kdM_14, kdM_15, kdM_16, kdM_17, kdM_18, kdM_19, kdM_20, kdM_21, kdM_22, kdM_23, kdM_24, rM_0, rM_1, rM_5, rM_6, rM_7, rM_10, rM_11, rM_12, rM_13, rM_14, rM_15, rM_16, rM_18, rM_19, rM_20, rM_21, rM_23, rM_24, rM_25, rM_26, rM_28, rM_29, rM_30, rM_31, lt_T, le_T, lt_F, le_F, eq_F, eq_T, hr, o1, o3, o4, Bool.true_eq_false]
    refine mQ_targetOf_ hc' _ (by omega) _ _ v.2.1 v.2.2.2 (fun h2 f2 => ?_)
    simp (disch := omega) only [sQ_target_31, sQ_target_34, sQ_target_35, ax_clr_i, ax_clr_l, ax_clr_r, ax_clr_n, ax_ct_0, ax_ct_i, ax_ct_l, ax_ct_r, va_rf_s, Option.toList_some, Option.toList_none, List.cons_append, List.nil_append, and_true, true_and, and_self, ite_true, ite_false, if_true, if_false, Nat.reduceAdd, Nat.reduceLeDiff, Nat.reduceMul, Nat.reduceLT, nI_add, pk_mul, nI_lt', nI_le', nI_eq', nI_lt0, nI_ge0, nI_eq0, nI_gt0, nI_le0, nI_ne_m1, m1_ne_nI, m1_lt_nI, m1_le_nI, nI_lt_m1, nI_le_m1, nI_clamp, ax_in_nI, nI_shl, nI_shr, lg_cmp0, nx_and, nI_eq1, bI_0, bI_1, bf_or, eq_self, or_true, true_or]
    exact hQ h2 (f.tr f2.a)
theorem mQ_circular_x {h : ax_H} (hc : clsM h us) (x : Int32) (hQ : ∀ h', frA h h' → Q (some (.int (bI (aCirc us x)))) h') : ax_wp kM (d + 7) mQ_circular 0 [some (.ref 0), some (.int x), none, none] [] h Q := by
  have h12 := hc.2.2.1
  unfold aCirc at hQ
  cases e : ixN x us.length with
  | none => rw [e] at hQ; rw [mQ_circular_n hc x (ixN_none e)]; exact hQ h frA.rf
  | some c =>
    obtain ⟨a1, rfl⟩ := ixN_some (by omega) e
    rw [e] at hQ
    exact mQ_circular_ hc c a1 (fun h' f => hQ h' f.x.a)
end MP
