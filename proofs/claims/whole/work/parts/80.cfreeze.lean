/-! the class: freeze -/
def frk (r : Nat) (h h' : ax_H) : Prop := h'.2.2 = h.2.2 ∧ (∀ a k, ¬ (a = 121 + 6 * r ∧ k = 3) → ¬ (a = 121 + 6 * r + 1 ∨ a = 121 + 6 * r + 2) → h'.1 a k = h.1 a k) ∧ ∀ a k, ¬ (a = 121 + 6 * r + 3 ∨ a = 121 + 6 * r + 4) → h'.2.1 a k = h.2.1 a k
theorem frk.rf {r : Nat} {h : ax_H} : frk r h h := ⟨rfl, fun _ _ _ _ => rfl, fun _ _ _ => rfl⟩
theorem frk.tr {r : Nat} {h h' h2 : ax_H} (a : frk r h h') (b : frk r h' h2) : frk r h h2 := ⟨b.1.trans a.1, fun x k h1 h3 => (b.2.1 x k h1 h3).trans (a.2.1 x k h1 h3), fun x k h1 => (b.2.2 x k h1).trans (a.2.2 x k h1)⟩
theorem usC.k {o : Nat → Nat} {s : Nat} {x : Option Nat} {h h' : ax_H} {us : List (List Nat)} {r : Nat} (hc : usC o s x h us) (f : frk r h h') : usC o s x h' us := hc.keep f.1 (f.2.1 _ _ (by omega) (by omega)) (fun a k _ _ => f.2.1 _ _ (by omega) (by omega)) (fun a k _ _ => f.2.2 _ _ (by omega))
section CZ
variable {d : Nat} {Q : Option Value → ax_H → Prop} {o : Nat → Nat} {s : Nat} {x : Option Nat} {b : List Nat} {us ps : List (List Nat)} {ty : List Nat} {rs : List rl4}
theorem mK_addKnown_ {h : ax_H} (hc : usC o s x h us) (r : Nat) (hr6 : r < 6) (K : List oc4) (hK : knC h r K) (h8 : K.length < 8) (c i : Nat) (hcl : c < us.length) (hi : i < (ocU (uAt us c)).length) (hQ : ∀ h', frk r h h' → knC h' r (K ++ [knO us (c, i)]) → Q none h') : ax_wp kC d mK_addKnown 0 [some (.ref (121 + 6 * r)), some (.int (nI c)), some (.ref (17 + 8 * o c)), some (.int (nI i))] [] h Q := by
  have h12 := hc.2.2.1
  have hr := hc.1
  have ho := hc.2.2.2.2.1 c (by omega)
  have h3 := hK.1
  obtain ⟨w1, w2, w3, w4, w5, w6⟩ := hc.occ hcl hi
  have b1 : ∀ y, (ax_upI h (121 + 6 * r + 1) K.length y).1 (121 + 6 * r) 3 = nI K.length := fun y => by rw [up_I, if_neg (by omega)]; exact h3
  have b2 : ∀ y, (ax_upI h (121 + 6 * r + 1) K.length y).1 (17 + 8 * o c + 4) i = nI (oOf us c i).1 := fun y => by rw [up_I, if_neg (by omega)]; exact w1
  simp (disch := omega) only [sK_addKnown_0, sK_addKnown_1, sK_addKnown_4, sK_addKnown_6, sK_addKnown_9, sK_addKnown_10, sK_addKnown_13, sK_addKnown_14, sK_addKnown_17, sK_addKnown_18, sK_addKnown_19, sK_addKnown_20, sK_addKnown_23, sK_addKnown_24, sK_addKnown_27, sK_addKnown_28, sK_addKnown_31, sK_addKnown_32, sK_addKnown_33, ax_clr_i, ax_clr_l, ax_clr_r, ax_clr_n, ax_ct_0, ax_ct_i, ax_ct_l, ax_ct_r, va_rf_s, Option.toList_some, Option.toList_none, List.cons_append, List.nil_append, and_true, true_and, and_self, ite_true, ite_false, if_true, if_false, Nat.reduceAdd, Nat.reduceLeDiff, Nat.reduceMul, Nat.reduceLT, nI_add, pk_mul, nI_lt', nI_le', nI_eq', nI_lt0, nI_ge0, nI_eq0, nI_gt0, nI_le0, nI_ne_m1, m1_ne_nI, m1_lt_nI, m1_le_nI, nI_lt_m1, nI_le_m1, nI_clamp, ax_in_nI, nI_shl, nI_shr, lg_cmp0, nx_and, nI_eq1, bI_0, bI_1, bf_or, eq_self, or_true, true_or, lt_T, le_T, lt_F, le_F, eq_F, eq_T, kdC_0, kdC_1, kdC_2, kdC_3, kdC_4, kdC_5, kdC_6, kdC_7, kdC_8, kdC_9, kdC_10, kdC_11, kdC_12, kdC_13, kdC_14, kdC_15, kdC_16, kdU_1, kdU_2, kdU_3, kdU_4, kdU_5, kdU_6, kdU_7, kdU_, kdR_1, kdR_2, kdR_3, kdR_4, kdR_5, kdR_, rC_00, rC_01, rC_02, rC_03, rC_04, rC_10, rC_16, rC_18, rC_19, rC_1a, rC_20, rC_22, rC_23, rC_24, rC_25, rC_26, rC_27, rC_28, rC_4, rC_10k, rC_u3, rC_u5, rC_u7, rC_u9, rC_ua, rC_ub, rC_uc, rC_r4, rC_r5, rC_r6, rC_r7, rC_r8, Nat.add_zero, hr, h3, up_I2, b1, b2]
  have g1 : ∀ a k, ¬ (a = 121 + 6 * r + 1 ∨ a = 121 + 6 * r + 2) → (ax_upI (ax_upI h (121 + 6 * r + 1) K.length (nI c)) (121 + 6 * r + 2) K.length (nI (oOf us c i).1)).1 a k = h.1 a k := fun a k q => by rw [up_I, if_neg (by omega), up_I, if_neg (by omega)]
  have g2 : (ax_upI (ax_upI h (121 + 6 * r + 1) K.length (nI c)) (121 + 6 * r + 2) K.length (nI (oOf us c i).1)).2 = h.2 := rfl
  have g3 : ∀ k, (ax_upI (ax_upI h (121 + 6 * r + 1) K.length (nI c)) (121 + 6 * r + 2) K.length (nI (oOf us c i).1)).1 (121 + 6 * r + 1) k = if k = K.length then nI c else h.1 (121 + 6 * r + 1) k := fun k => by
    rw [up_I, if_neg (by omega), up_I]
    by_cases e : k = K.length
    · rw [if_pos ⟨rfl, e⟩, if_pos e]
    · rw [if_neg (fun q => e q.2), if_neg e]
  have g4 : ∀ k, (ax_upI (ax_upI h (121 + 6 * r + 1) K.length (nI c)) (121 + 6 * r + 2) K.length (nI (oOf us c i).1)).1 (121 + 6 * r + 2) k = if k = K.length then nI (oOf us c i).1 else h.1 (121 + 6 * r + 2) k := fun k => by
    rw [up_I]
    by_cases e : k = K.length
    · rw [if_pos ⟨rfl, e⟩, if_pos e]
    · rw [if_neg (fun q => e q.2), if_neg e, up_I, if_neg (by omega)]
  generalize ax_upI (ax_upI h (121 + 6 * r + 1) K.length (nI c)) (121 + 6 * r + 2) K.length (nI (oOf us c i).1) = h1 at g1 g2 g3 g4 ⊢
  have hr1 : h1.2.2 = rC o s x := by rw [g2]; exact hr
  have h31 : h1.1 (121 + 6 * r) 3 = nI K.length := by rw [g1 _ _ (by omega)]; exact h3
  have x3 : h1.2.1 (17 + 8 * o c + 6) i = lN (pL (oOf us c i).2.2.1) := by rw [g2]; exact w3
  have x4 : ∀ y, (ax_upL h1 (121 + 6 * r + 3) K.length y).2.1 (17 + 8 * o c + 7) i = lN (pL (oOf us c i).2.2.2) := fun y => by rw [up_L, if_neg (by omega), g2]; exact w4
  simp (disch := omega) only [sK_addKnown_34, sK_addKnown_35, sK_addKnown_38, sK_addKnown_39, sK_addKnown_42, sK_addKnown_43, sK_addKnown_46, sK_addKnown_47, sK_addKnown_48, sK_addKnown_49, sK_addKnown_50, sK_addKnown_53, sK_addKnown_54, sK_addKnown_57, sK_addKnown_58, sK_addKnown_61, sK_addKnown_62, sK_addKnown_63, sK_addKnown_64, sK_addKnown_65, sK_addKnown_65r, sK_addKnown_66, sK_addKnown_69, sK_addKnown_70, sK_addKnown_71, sK_addKnown_74, ax_clr_i, ax_clr_l, ax_clr_r, ax_clr_n, ax_ct_0, ax_ct_i, ax_ct_l, ax_ct_r, va_rf_s, Option.toList_some, Option.toList_none, List.cons_append, List.nil_append, and_true, true_and, and_self, ite_true, ite_false, if_true, if_false, Nat.reduceAdd, Nat.reduceLeDiff, Nat.reduceMul, Nat.reduceLT, nI_add, pk_mul, nI_lt', nI_le', nI_eq', nI_lt0, nI_ge0, nI_eq0, nI_gt0, nI_le0, nI_ne_m1, m1_ne_nI, m1_lt_nI, m1_le_nI, nI_lt_m1, nI_le_m1, nI_clamp, ax_in_nI, nI_shl, nI_shr, lg_cmp0, nx_and, nI_eq1, bI_0, bI_1, bf_or, eq_self, or_true, true_or, lt_T, le_T, lt_F, le_F, eq_F, eq_T, kdC_0, kdC_1, kdC_2, kdC_3, kdC_4, kdC_5, kdC_6, kdC_7, kdC_8, kdC_9, kdC_10, kdC_11, kdC_12, kdC_13, kdC_14, kdC_15, kdC_16, kdU_1, kdU_2, kdU_3, kdU_4, kdU_5, kdU_6, kdU_7, kdU_, kdR_1, kdR_2, kdR_3, kdR_4, kdR_5, kdR_, rC_00, rC_01, rC_02, rC_03, rC_04, rC_10, rC_16, rC_18, rC_19, rC_1a, rC_20, rC_22, rC_23, rC_24, rC_25, rC_26, rC_27, rC_28, rC_4, rC_10k, rC_u3, rC_u5, rC_u7, rC_u9, rC_ua, rC_ub, rC_uc, rC_r4, rC_r5, rC_r6, rC_r7, rC_r8, Nat.add_zero, hr1, h31, up_L1, up_L3, x3, x4]
  refine hQ _ ⟨by rw [up_I2, up_L3, up_L3, g2], fun a k q1 q2 => by rw [up_I, if_neg (by omega), up_L1, up_L1, g1 a k q2], fun a k q => by rw [up_I2, up_L, if_neg (by omega), up_L, if_neg (by omega), g2]⟩ ⟨by rw [up_at]; simp, fun j hj => ?_⟩
  simp only [List.length_append, List.length_cons, List.length_nil] at hj
  rw [ocA_app (by omega)]
  have n1 : ∀ y z w, (ax_upI (ax_upL (ax_upL h1 (121 + 6 * r + 3) K.length y) (121 + 6 * r + 4) K.length z) (121 + 6 * r) 3 w).1 (121 + 6 * r + 1) j = h1.1 (121 + 6 * r + 1) j := fun y z w => by rw [up_I, if_neg (by omega)]; rfl
  have n2 : ∀ y z w, (ax_upI (ax_upL (ax_upL h1 (121 + 6 * r + 3) K.length y) (121 + 6 * r + 4) K.length z) (121 + 6 * r) 3 w).1 (121 + 6 * r + 2) j = h1.1 (121 + 6 * r + 2) j := fun y z w => by rw [up_I, if_neg (by omega)]; rfl
  have n3 : ∀ y z w, (ax_upI (ax_upL (ax_upL h1 (121 + 6 * r + 3) K.length y) (121 + 6 * r + 4) K.length z) (121 + 6 * r) 3 w).2.1 (121 + 6 * r + 3) j = if j = K.length then y else h.2.1 (121 + 6 * r + 3) j := fun y z w => by
    rw [up_I2, up_L, if_neg (by omega), up_L]
    by_cases e : j = K.length
    · rw [if_pos ⟨rfl, e⟩, if_pos e]
    · rw [if_neg (fun q => e q.2), if_neg e, g2]
  have n4 : ∀ y z w, (ax_upI (ax_upL (ax_upL h1 (121 + 6 * r + 3) K.length y) (121 + 6 * r + 4) K.length z) (121 + 6 * r) 3 w).2.1 (121 + 6 * r + 4) j = if j = K.length then z else h.2.1 (121 + 6 * r + 4) j := fun y z w => by
    rw [up_I2, up_L]
    by_cases e : j = K.length
    · rw [if_pos ⟨rfl, e⟩, if_pos e]
    · rw [if_neg (fun q => e q.2), if_neg e, up_L, if_neg (by omega), g2]
  rw [n1, n2, n3, n4, g3, g4]
  by_cases e : j = K.length
  · rw [if_pos e, if_pos e, if_pos e, if_pos e, if_pos e]
    exact ⟨rfl, rfl, rfl, rfl⟩
  · rw [if_neg e, if_neg e, if_neg e, if_neg e, if_neg e]
    exact hK.2 j (by omega)
theorem mP_freeze_l (r : Nat) (hr6 : r < 6) (n : Nat) (hn : n ≤ 8) : ∀ (S : List (Nat × Nat)) (i : Nat) (K : List oc4) (h : ax_H) (x4 : Option Value), i + S.length = n → K.length = i → usC o s x h us → knC h r K → (∀ v ∈ S, v.1 < us.length ∧ v.2 < (ocU (uAt us v.1)).length) → (∀ j, j < S.length → h.1 5 (i + j) = nI (64 * (vA S j).1 + (vA S j).2)) → (∀ h', frk r h h' → knC h' r (K ++ S.map (knO us)) → Q (some (.int (nI n))) h') → ax_wp kC (d + 1) mP_freeze 53 [some (.ref 0), some (.int (nI r)), some (.int (nI n)), some (.int (nI i)), x4] [] h Q
  | [], i, K, h, x4, hm, hKi, hc, hK, hS, hf, hQ => by
    have e : i = n := by simpa using hm
    subst e
    rw [sP_freeze_53]
    simp (disch := omega) only [sP_freeze_54, sP_freeze_55, sP_freeze_105, sP_freeze_106, ax_clr_i, ax_clr_l, ax_clr_r, ax_clr_n, ax_ct_0, ax_ct_i, ax_ct_l, ax_ct_r, va_rf_s, Option.toList_some, Option.toList_none, List.cons_append, List.nil_append, and_true, true_and, and_self, ite_true, ite_false, if_true, if_false, Nat.reduceAdd, Nat.reduceLeDiff, Nat.reduceMul, Nat.reduceLT, nI_add, pk_mul, nI_lt', nI_le', nI_eq', nI_lt0, nI_ge0, nI_eq0, nI_gt0, nI_le0, nI_ne_m1, m1_ne_nI, m1_lt_nI, m1_le_nI, nI_lt_m1, nI_le_m1, nI_clamp, ax_in_nI, nI_shl, nI_shr, lg_cmp0, nx_and, nI_eq1, bI_0, bI_1, bf_or, eq_self, or_true, true_or, lt_T, le_T, lt_F, le_F, eq_F, eq_T]
    exact hQ h frk.rf (by simpa using hK)
  | v :: S, i, K, h, x4, hm, hKi, hc, hK, hS, hf, hQ => by
    simp only [List.length_cons] at hm
    have h12 := hc.2.2.1
    have hr := hc.1
    obtain ⟨v1, v2⟩ := hS v (List.mem_cons_self ..)
    have lv := (ocU_v (hc.2.2.2.1 v.1 v1).2).2
    have ho := hc.2.2.2.2.1 v.1 (by omega)
    have f0 := hf 0 (by simp)
    rw [Nat.add_zero] at f0
    have f0 : h.1 5 i = nI (64 * v.1 + v.2) := f0
    obtain ⟨q1, q2⟩ := dv64 (c := v.1) (i := v.2) (by omega) (by omega)
    have n64 : (nI 64 = 0) = False := by rw [nI_eq0 (by omega)]; simp
    rw [sP_freeze_53]
    simp (disch := omega) only [sP_freeze_54, sP_freeze_55, sP_freeze_58, sP_freeze_59, sP_freeze_62, sP_freeze_63, sP_freeze_64, sP_freeze_66, ax_clr_i, ax_clr_l, ax_clr_r, ax_clr_n, ax_ct_0, ax_ct_i, ax_ct_l, ax_ct_r, va_rf_s, Option.toList_some, Option.toList_none, List.cons_append, List.nil_append, and_true, true_and, and_self, ite_true, ite_false, if_true, if_false, Nat.reduceAdd, Nat.reduceLeDiff, Nat.reduceMul, Nat.reduceLT, nI_add, pk_mul, nI_lt', nI_le', nI_eq', nI_lt0, nI_ge0, nI_eq0, nI_gt0, nI_le0, nI_ne_m1, m1_ne_nI, m1_lt_nI, m1_le_nI, nI_lt_m1, nI_le_m1, nI_clamp, ax_in_nI, nI_shl, nI_shr, lg_cmp0, nx_and, nI_eq1, bI_0, bI_1, bf_or, eq_self, or_true, true_or, lt_T, le_T, lt_F, le_F, eq_F, eq_T, kdC_0, kdC_1, kdC_2, kdC_3, kdC_4, kdC_5, kdC_6, kdC_7, kdC_8, kdC_9, kdC_10, kdC_11, kdC_12, kdC_13, kdC_14, kdC_15, kdC_16, kdU_1, kdU_2, kdU_3, kdU_4, kdU_5, kdU_6, kdU_7, kdU_, kdR_1, kdR_2, kdR_3, kdR_4, kdR_5, kdR_, rC_00, rC_01, rC_02, rC_03, rC_04, rC_10, rC_16, rC_18, rC_19, rC_1a, rC_20, rC_22, rC_23, rC_24, rC_25, rC_26, rC_27, rC_28, rC_4, rC_10k, rC_u3, rC_u5, rC_u7, rC_u9, rC_ua, rC_ub, rC_uc, rC_r4, rC_r5, rC_r6, rC_r7, rC_r8, Nat.add_zero, hr, f0, n64, not_false_eq_true, q1]
    simp (disch := omega) only [sP_freeze_67, sP_freeze_69, sP_freeze_70, sP_freeze_73, sP_freeze_74, sP_freeze_75, sP_freeze_77, sP_freeze_78, sP_freeze_81, sP_freeze_84, sP_freeze_86, sP_freeze_87, sP_freeze_88, sP_freeze_91, sP_freeze_92, ax_clr_i, ax_clr_l, ax_clr_r, ax_clr_n, ax_ct_0, ax_ct_i, ax_ct_l, ax_ct_r, va_rf_s, Option.toList_some, Option.toList_none, List.cons_append, List.nil_append, and_true, true_and, and_self, ite_true, ite_false, if_true, if_false, Nat.reduceAdd, Nat.reduceLeDiff, Nat.reduceMul, Nat.reduceLT, nI_add, pk_mul, nI_lt', nI_le', nI_eq', nI_lt0, nI_ge0, nI_eq0, nI_gt0, nI_le0, nI_ne_m1, m1_ne_nI, m1_lt_nI, m1_le_nI, nI_lt_m1, nI_le_m1, nI_clamp, ax_in_nI, nI_shl, nI_shr, lg_cmp0, nx_and, nI_eq1, bI_0, bI_1, bf_or, eq_self, or_true, true_or, lt_T, le_T, lt_F, le_F, eq_F, eq_T, kdC_0, kdC_1, kdC_2, kdC_3, kdC_4, kdC_5, kdC_6, kdC_7, kdC_8, kdC_9, kdC_10, kdC_11, kdC_12, kdC_13, kdC_14, kdC_15, kdC_16, kdU_1, kdU_2, kdU_3, kdU_4, kdU_5, kdU_6, kdU_7, kdU_, kdR_1, kdR_2, kdR_3, kdR_4, kdR_5, kdR_, rC_00, rC_01, rC_02, rC_03, rC_04, rC_10, rC_16, rC_18, rC_19, rC_1a, rC_20, rC_22, rC_23, rC_24, rC_25, rC_26, rC_27, rC_28, rC_4, rC_10k, rC_u3, rC_u5, rC_u7, rC_u9, rC_ua, rC_ub, rC_uc, rC_r4, rC_r5, rC_r6, rC_r7, rC_r8, Nat.add_zero, hr, f0]
    rw [sP_freeze_93, sP_freeze_95]
    refine ⟨by rw [n64]; exact not_false, ?_⟩
    rw [q2, sP_freeze_96]
    refine ⟨⟨by simp (disch := omega) only [kdC_0, kdC_1, kdC_2, kdC_3, kdC_4, kdC_5, kdC_6, kdC_7, kdC_8, kdC_9, kdC_10, kdC_11, kdC_12, kdC_13, kdC_14, kdC_15, kdC_16, kdU_1, kdU_2, kdU_3, kdU_4, kdU_5, kdU_6, kdU_7, kdU_, kdR_1, kdR_2, kdR_3, kdR_4, kdR_5, kdR_, rC_00, rC_01, rC_02, rC_03, rC_04, rC_10, rC_16, rC_18, rC_19, rC_1a, rC_20, rC_22, rC_23, rC_24, rC_25, rC_26, rC_27, rC_28, rC_4, rC_10k, rC_u3, rC_u5, rC_u7, rC_u9, rC_ua, rC_ub, rC_uc, rC_r4, rC_r5, rC_r6, rC_r7, rC_r8, Nat.add_zero], by simp only [ax_clr_i, ax_clr_l, ax_clr_r, ax_clr_n, ax_ct_0, ax_ct_i, ax_ct_l, ax_ct_r, va_rf_s, Option.toList_some, Option.toList_none, List.cons_append, List.nil_append, and_true, true_and, and_self, ite_true, ite_false, if_true, if_false, Nat.reduceAdd, Nat.reduceLeDiff, Nat.reduceMul, Nat.reduceLT]⟩, ?_⟩
    refine mK_addKnown_ hc r hr6 K hK (by omega) v.1 v.2 v1 v2 (fun h1 f1 k1 => ?_)
    simp (disch := omega) only [sP_freeze_99, sP_freeze_102, ax_clr_i, ax_clr_l, ax_clr_r, ax_clr_n, ax_ct_0, ax_ct_i, ax_ct_l, ax_ct_r, va_rf_s, Option.toList_some, Option.toList_none, List.cons_append, List.nil_append, and_true, true_and, and_self, ite_true, ite_false, if_true, if_false, Nat.reduceAdd, Nat.reduceLeDiff, Nat.reduceMul, Nat.reduceLT, nI_add]
    refine mP_freeze_l r hr6 n hn S (i + 1) (K ++ [knO us v]) h1 _ (by omega) (by simp; omega) (hc.k f1) k1 (fun w hw => hS w (List.mem_cons_of_mem _ hw)) (fun j hj => ?_) (fun h' f w1 => hQ h' (f1.tr f) (by rw [List.append_assoc] at w1; exact w1))
    rw [f1.2.1 _ _ (by omega) (by omega)]
    have := hf (j + 1) (by simp; omega)
    rw [show i + (j + 1) = i + 1 + j by omega] at this
    exact this
theorem mP_freeze_ {h : ax_H} (hs : stC h b us ps ty rs) (y : Int32) (hQ : ∀ h', stC h' b us ps ty (nFrz us ps rs y) → Q (some (.int (aFrz us ps rs y))) h') : ax_wp kC (d + 19) mP_freeze 0 [some (.ref 0), some (.int y), none, none, none] [] h Q := by
  have hs0 := hs
  obtain ⟨o, s, xx, a1, a2, a3, a4, a5⟩ := hs
  have hr := a1.1
  have r6 := a5.2.1
  have h12 := a1.2.2.1
  unfold aFrz nFrz oFrz at hQ
  simp (disch := omega) only [sP_freeze_0, sP_freeze_1, sP_freeze_2, ax_clr_i, ax_clr_l, ax_clr_r, ax_clr_n, ax_ct_0, ax_ct_i, ax_ct_l, ax_ct_r, va_rf_s, Option.toList_some, Option.toList_none, List.cons_append, List.nil_append, and_true, true_and, and_self, ite_true, ite_false, if_true, if_false, Nat.reduceAdd, Nat.reduceLeDiff, Nat.reduceMul, Nat.reduceLT, kdC_0, kdC_1, kdC_2, kdC_3, kdC_4, kdC_5, kdC_6, kdC_7, kdC_8, kdC_9, kdC_10, kdC_11, kdC_12, kdC_13, kdC_14, kdC_15, kdC_16, kdU_1, kdU_2, kdU_3, kdU_4, kdU_5, kdU_6, kdU_7, kdU_, kdR_1, kdR_2, kdR_3, kdR_4, kdR_5, kdR_, rC_00, rC_01, rC_02, rC_03, rC_04, rC_10, rC_16, rC_18, rC_19, rC_1a, rC_20, rC_22, rC_23, rC_24, rC_25, rC_26, rC_27, rC_28, rC_4, rC_10k, rC_u3, rC_u5, rC_u7, rC_u9, rC_ua, rC_ub, rC_uc, rC_r4, rC_r5, rC_r6, rC_r7, rC_r8, Nat.add_zero, mP_isRule_ a5]
  cases e : ixN y rs.length with
  | none =>
    rw [e] at hQ
    simp (disch := omega) only [sP_freeze_5, sP_freeze_21, sP_freeze_22, ax_clr_i, ax_clr_l, ax_clr_r, ax_clr_n, ax_ct_0, ax_ct_i, ax_ct_l, ax_ct_r, va_rf_s, Option.toList_some, Option.toList_none, List.cons_append, List.nil_append, and_true, true_and, and_self, ite_true, ite_false, if_true, if_false, Nat.reduceAdd, Nat.reduceLeDiff, Nat.reduceMul, Nat.reduceLT, nI_add, pk_mul, nI_lt', nI_le', nI_eq', nI_lt0, nI_ge0, nI_eq0, nI_gt0, nI_le0, nI_ne_m1, m1_ne_nI, m1_lt_nI, m1_le_nI, nI_lt_m1, nI_le_m1, nI_clamp, ax_in_nI, nI_shl, nI_shr, lg_cmp0, nx_and, nI_eq1, bI_0, bI_1, bf_or, eq_self, or_true, true_or, Option.isSome_none]
    exact hQ h hs0
  | some r =>
    obtain ⟨l1, rfl⟩ := ixN_some (by omega) e
    rw [e] at hQ
    dsimp only at hQ
    obtain ⟨k1, k2, k3, k4, k5⟩ := a5.2.2.1 r l1
    have kk : (rA rs r).1 ≤ 3 := by rcases k5.1 with q | q <;> omega
    simp (disch := omega) only [sP_freeze_5, sP_freeze_8, sP_freeze_9, sP_freeze_12, sP_freeze_13, sP_freeze_14, sP_freeze_17, sP_freeze_18, ax_clr_i, ax_clr_l, ax_clr_r, ax_clr_n, ax_ct_0, ax_ct_i, ax_ct_l, ax_ct_r, va_rf_s, Option.toList_some, Option.toList_none, List.cons_append, List.nil_append, and_true, true_and, and_self, ite_true, ite_false, if_true, if_false, Nat.reduceAdd, Nat.reduceLeDiff, Nat.reduceMul, Nat.reduceLT, nI_add, pk_mul, nI_lt', nI_le', nI_eq', nI_lt0, nI_ge0, nI_eq0, nI_gt0, nI_le0, nI_ne_m1, m1_ne_nI, m1_lt_nI, m1_le_nI, nI_lt_m1, nI_le_m1, nI_clamp, ax_in_nI, nI_shl, nI_shr, lg_cmp0, nx_and, nI_eq1, bI_0, bI_1, bf_or, eq_self, or_true, true_or, lt_T, le_T, lt_F, le_F, eq_F, eq_T, kdC_0, kdC_1, kdC_2, kdC_3, kdC_4, kdC_5, kdC_6, kdC_7, kdC_8, kdC_9, kdC_10, kdC_11, kdC_12, kdC_13, kdC_14, kdC_15, kdC_16, kdU_1, kdU_2, kdU_3, kdU_4, kdU_5, kdU_6, kdU_7, kdU_, kdR_1, kdR_2, kdR_3, kdR_4, kdR_5, kdR_, rC_00, rC_01, rC_02, rC_03, rC_04, rC_10, rC_16, rC_18, rC_19, rC_1a, rC_20, rC_22, rC_23, rC_24, rC_25, rC_26, rC_27, rC_28, rC_4, rC_10k, rC_u3, rC_u5, rC_u7, rC_u9, rC_ua, rC_ub, rC_uc, rC_r4, rC_r5, rC_r6, rC_r7, rC_r8, Nat.add_zero, hr, k1, Option.isSome_some, Bool.true_eq_false]
    by_cases e3 : (rA rs r).1 = 3
    · rw [if_pos e3] at hQ
      rw [if_pos e3]
      simp (disch := omega) only [sP_freeze_21, sP_freeze_22, ax_clr_i, ax_clr_l, ax_clr_r, ax_clr_n, ax_ct_0, ax_ct_i, ax_ct_l, ax_ct_r, va_rf_s, Option.toList_some, Option.toList_none, List.cons_append, List.nil_append, and_true, true_and, and_self, ite_true, ite_false, if_true, if_false, Nat.reduceAdd, Nat.reduceLeDiff, Nat.reduceMul, Nat.reduceLT]
      exact hQ h hs0
    · rw [if_neg e3] at hQ
      rw [if_neg e3]
      simp (disch := omega) only [sP_freeze_23, sP_freeze_24, sP_freeze_25, sP_freeze_28, sP_freeze_29, sP_freeze_30, ax_clr_i, ax_clr_l, ax_clr_r, ax_clr_n, ax_ct_0, ax_ct_i, ax_ct_l, ax_ct_r, va_rf_s, Option.toList_some, Option.toList_none, List.cons_append, List.nil_append, and_true, true_and, and_self, ite_true, ite_false, if_true, if_false, Nat.reduceAdd, Nat.reduceLeDiff, Nat.reduceMul, Nat.reduceLT, nI_add, pk_mul, nI_lt', nI_le', nI_eq', nI_lt0, nI_ge0, nI_eq0, nI_gt0, nI_le0, nI_ne_m1, m1_ne_nI, m1_lt_nI, m1_le_nI, nI_lt_m1, nI_le_m1, nI_clamp, ax_in_nI, nI_shl, nI_shr, lg_cmp0, nx_and, nI_eq1, bI_0, bI_1, bf_or, eq_self, or_true, true_or, lt_T, le_T, lt_F, le_F, eq_F, eq_T, kdC_0, kdC_1, kdC_2, kdC_3, kdC_4, kdC_5, kdC_6, kdC_7, kdC_8, kdC_9, kdC_10, kdC_11, kdC_12, kdC_13, kdC_14, kdC_15, kdC_16, kdU_1, kdU_2, kdU_3, kdU_4, kdU_5, kdU_6, kdU_7, kdU_, kdR_1, kdR_2, kdR_3, kdR_4, kdR_5, kdR_, rC_00, rC_01, rC_02, rC_03, rC_04, rC_10, rC_16, rC_18, rC_19, rC_1a, rC_20, rC_22, rC_23, rC_24, rC_25, rC_26, rC_27, rC_28, rC_4, rC_10k, rC_u3, rC_u5, rC_u7, rC_u9, rC_ua, rC_ub, rC_uc, rC_r4, rC_r5, rC_r6, rC_r7, rC_r8, Nat.add_zero, hr]
      refine mP_findAll_ r (by omega) (rA rs r) (stC.ck a1 a2 a4 a5 l1) (by omega) (fun h1 f1 v1 => ?_)
      have hs1 := hs0.q f1
      have c1 := a1.q f1
      have hr1 := c1.1
      obtain ⟨g1, g2⟩ := gC_v us ps (rA rs r) (fun c h1 => (a1.2.2.2.1 c h1).2) us.length 0 (by omega)
      have hV : ∀ v ∈ gaU us ps (rA rs r), v.1 < us.length ∧ v.2 < (ocU (uAt us v.1)).length := g2
      have gl : (gaU us ps (rA rs r)).length ≤ 52 * us.length := g1
      generalize gaU us ps (rA rs r) = V at *
      simp (disch := omega) only [sP_freeze_33, sP_freeze_34, sP_freeze_35, sP_freeze_37, ax_clr_i, ax_clr_l, ax_clr_r, ax_clr_n, ax_ct_0, ax_ct_i, ax_ct_l, ax_ct_r, va_rf_s, Option.toList_some, Option.toList_none, List.cons_append, List.nil_append, and_true, true_and, and_self, ite_true, ite_false, if_true, if_false, Nat.reduceAdd, Nat.reduceLeDiff, Nat.reduceMul, Nat.reduceLT, nI_add, pk_mul, nI_lt', nI_le', nI_eq', nI_lt0, nI_ge0, nI_eq0, nI_gt0, nI_le0, nI_ne_m1, m1_ne_nI, m1_lt_nI, m1_le_nI, nI_lt_m1, nI_le_m1, nI_clamp, ax_in_nI, nI_shl, nI_shr, lg_cmp0, nx_and, nI_eq1, bI_0, bI_1, bf_or, eq_self, or_true, true_or]
      by_cases e4 : V.length ≤ 8
      · rw [if_pos e4] at hQ
        rw [if_pos e4]
        dsimp only at hQ
        simp (disch := omega) only [sP_freeze_42, sP_freeze_43, sP_freeze_46, sP_freeze_47, sP_freeze_48, sK_forgetKnown_0, sK_forgetKnown_1, sK_forgetKnown_2, sK_forgetKnown_5, ax_clr_i, ax_clr_l, ax_clr_r, ax_clr_n, ax_ct_0, ax_ct_i, ax_ct_l, ax_ct_r, va_rf_s, Option.toList_some, Option.toList_none, List.cons_append, List.nil_append, and_true, true_and, and_self, ite_true, ite_false, if_true, if_false, Nat.reduceAdd, Nat.reduceLeDiff, Nat.reduceMul, Nat.reduceLT, nI_add, pk_mul, nI_lt', nI_le', nI_eq', nI_lt0, nI_ge0, nI_eq0, nI_gt0, nI_le0, nI_ne_m1, m1_ne_nI, m1_lt_nI, m1_le_nI, nI_lt_m1, nI_le_m1, nI_clamp, ax_in_nI, nI_shl, nI_shr, lg_cmp0, nx_and, nI_eq1, bI_0, bI_1, bf_or, eq_self, or_true, true_or, lt_T, le_T, lt_F, le_F, eq_F, eq_T, kdC_0, kdC_1, kdC_2, kdC_3, kdC_4, kdC_5, kdC_6, kdC_7, kdC_8, kdC_9, kdC_10, kdC_11, kdC_12, kdC_13, kdC_14, kdC_15, kdC_16, kdU_1, kdU_2, kdU_3, kdU_4, kdU_5, kdU_6, kdU_7, kdU_, kdR_1, kdR_2, kdR_3, kdR_4, kdR_5, kdR_, rC_00, rC_01, rC_02, rC_03, rC_04, rC_10, rC_16, rC_18, rC_19, rC_1a, rC_20, rC_22, rC_23, rC_24, rC_25, rC_26, rC_27, rC_28, rC_4, rC_10k, rC_u3, rC_u5, rC_u7, rC_u9, rC_ua, rC_ub, rC_uc, rC_r4, rC_r5, rC_r6, rC_r7, rC_r8, Nat.add_zero, hr1]
        simp (disch := omega) only [sP_freeze_51, sP_freeze_52, ax_clr_i, ax_clr_l, ax_clr_r, ax_clr_n, ax_ct_0, ax_ct_i, ax_ct_l, ax_ct_r, va_rf_s, Option.toList_some, Option.toList_none, List.cons_append, List.nil_append, and_true, true_and, and_self, ite_true, ite_false, if_true, if_false, Nat.reduceAdd, Nat.reduceLeDiff, Nat.reduceMul, Nat.reduceLT]
        have f2 : frk r h1 (ax_upI h1 (121 + 6 * r) 3 (nI 0)) := ⟨rfl, fun a k q1 q2 => by rw [up_I, if_neg q1], fun _ _ _ => rfl⟩
        refine mP_freeze_l r (by omega) V.length e4 V 0 [] _ none (by omega) rfl (c1.k f2) ⟨up_at _ _ _ _, fun i hi => by simp at hi⟩ hV (fun j hj => ?_) (fun h3 f3 k3 => ?_)
        · rw [Nat.zero_add, up_I, if_neg (by omega)]; exact v1 j hj
        · rw [List.nil_append] at k3
          have f := f2.tr f3
          obtain ⟨m1, m2, m3, m4⟩ := (a5.q f1)
          obtain ⟨p1, p2, p3, p4, p5⟩ := (a4.q f1)
          refine hQ h3 (hs1.kp f.1 (fun a k q1 q2 => f.2.1 _ _ (by omega) (by omega)) (fun a k q1 q2 => f.2.2 _ _ (by omega)) ⟨by rw [f.2.1 _ _ (by omega) (by omega)]; exact p1, p2, fun p q => by rw [f.2.2 _ _ (by omega)]; exact p3 p q, by rw [f.2.2 _ _ (by omega)]; exact p4, p5⟩ ⟨by rw [List.length_set, f.2.1 _ _ (by omega) (by omega)]; exact m1, by rw [List.length_set]; exact m2, fun j hj => ?_, fun j q1 q2 => ?_⟩)
          · rw [List.length_set] at hj
            rw [rA_set l1]
            by_cases e5 : j = r
            · subst e5
              rw [if_pos rfl]
              obtain ⟨c1, c2, c3, c4, c5⟩ := m3 j hj
              refine ⟨by rw [f.2.1 _ _ (by omega) (by omega)]; exact c1, by rw [f.2.1 _ _ (by omega) (by omega)]; exact c2, by rw [f.2.1 _ _ (by omega) (by omega)]; exact c3, k3, c5.1, by simpa using e4, fun y hy => ?_⟩
              dsimp only at hy
              obtain ⟨v, hv, rfl⟩ := List.mem_map.mp hy
              have q := hV v hv
              have ov := ocA_v (a1.2.2.2.1 v.1 q.1).2 q.2
              exact ⟨by show v.1 < 12; omega, ov.1, ov.2.1, ov.2.2.2⟩
            · rw [if_neg e5]
              obtain ⟨c1, c2, c3, c4, c5⟩ := m3 j hj
              refine ⟨by rw [f.2.1 _ _ (by omega) (by omega)]; exact c1, by rw [f.2.1 _ _ (by omega) (by omega)]; exact c2, by rw [f.2.1 _ _ (by omega) (by omega)]; exact c3, ⟨by rw [f.2.1 _ _ (by omega) (by omega)]; exact c4.1, fun i hi => ?_⟩, c5⟩
              rw [f.2.1 _ _ (by omega) (by omega), f.2.1 _ _ (by omega) (by omega), f.2.2 _ _ (by omega), f.2.2 _ _ (by omega)]
              exact c4.2 i hi
          · rw [List.length_set] at q1
            rw [f.2.1 _ _ (by omega) (by omega)]
            exact m4 j q1 q2
      · rw [if_neg e4] at hQ
        rw [if_neg e4]
        simp (disch := omega) only [sP_freeze_40, sP_freeze_41, ax_clr_i, ax_clr_l, ax_clr_r, ax_clr_n, ax_ct_0, ax_ct_i, ax_ct_l, ax_ct_r, va_rf_s, Option.toList_some, Option.toList_none, List.cons_append, List.nil_append, and_true, true_and, and_self, ite_true, ite_false, if_true, if_false, Nat.reduceAdd, Nat.reduceLeDiff, Nat.reduceMul, Nat.reduceLT]
        exact hQ h1 hs1
end CZ
