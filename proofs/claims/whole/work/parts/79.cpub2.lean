/-! the class: its other public methods -/
theorem stC.kp {h h' : ax_H} {b : List Nat} {us ps : List (List Nat)} {ty : List Nat} {rs : List rl4} (hs : stC h b us ps ty rs) {ps' : List (List Nat)} {ty' : List Nat} {rs' : List rl4} (f0 : h'.2.2 = h.2.2) (f1 : ∀ a k, ¬ a = 0 → ¬ 121 ≤ a → h'.1 a k = h.1 a k) (f2 : ∀ a k, 17 ≤ a → a < 121 → h'.2.1 a k = h.2.1 a k) (hp : patC h' ps' ty') (hr : rulC h' ps'.length rs') : stC h' b us ps' ty' rs' := by
  obtain ⟨o, s, x, a1, a2, a3, a4, a5⟩ := hs
  exact ⟨o, s, x, a1.keep f0 (f1 _ _ (by omega) (by omega)) (fun a k _ _ => f1 _ _ (by omega) (by omega)) f2, a2.keep (fun a k q => f1 _ _ (by omega) (by omega)), ⟨by rw [f1 _ _ (by omega) (by omega)]; exact a3.1, a3.2.1, fun j hj => by rw [f1 _ _ (by omega) (by omega)]; exact a3.2.2.1 j hj, a3.2.2.2⟩, hp, hr⟩
theorem rlv_up {n m : Nat} {x : rl4} (h : rlv n x) (hm : n ≤ m) : rlv m x := ⟨by rcases h.1 with w | w <;> omega, h.2⟩
section CP
variable {d : Nat} {Q : Option Value → ax_H → Prop} {b : List Nat} {us ps : List (List Nat)} {ty : List Nat} {rs : List rl4}
theorem mP_type_ {h : ax_H} (hs : stC h b us ps ty rs) (n : Nat) (hn : n < 2 ^ 16) (hQ : ∀ h', stC h' b us ps (nTyp ty n) rs → Q (some (.int (bI (oTyp ty n)))) h') : ax_wp kC (d + 2) mP_type 0 [some (.ref 0), some (.int (nI n)), none, none] [] h Q := by
  have hs0 := hs
  obtain ⟨o, s, x, a1, a2, a3, a4, a5⟩ := hs
  obtain ⟨p1, p2, p3, p4, p5⟩ := a4
  have h10 := p5.1.1
  have cl := cod_le n
  unfold nTyp at hQ
  simp (disch := omega) only [sP_type_0, sP_type_1, sP_type_4, sP_type_5, sP_type_6, sP_type_9, sP_type_12, sP_type_13, sP_type_14, ax_clr_i, ax_clr_l, ax_clr_r, ax_clr_n, ax_ct_0, ax_ct_i, ax_ct_l, ax_ct_r, va_rf_s, Option.toList_some, Option.toList_none, List.cons_append, List.nil_append, and_true, true_and, and_self, ite_true, ite_false, if_true, if_false, Nat.reduceAdd, Nat.reduceLeDiff, Nat.reduceMul, Nat.reduceLT, kdC_0, kdC_1, kdC_2, kdC_3, kdC_4, kdC_5, kdC_6, kdC_7, kdC_8, kdC_9, kdC_10, kdC_11, kdC_12, kdC_13, kdC_14, kdC_15, kdC_16, kdU_1, kdU_2, kdU_3, kdU_4, kdU_5, kdU_6, kdU_7, kdU_, kdR_1, kdR_2, kdR_3, kdR_4, kdR_5, kdR_, rC_00, rC_01, rC_02, rC_03, rC_04, rC_10, rC_16, rC_18, rC_19, rC_1a, rC_20, rC_22, rC_23, rC_24, rC_25, rC_26, rC_27, rC_28, rC_4, rC_10k, rC_u3, rC_u5, rC_u7, rC_u9, rC_ua, rC_ub, rC_uc, rC_r4, rC_r5, rC_r6, rC_r7, rC_r8, Nat.add_zero, mT_codeOf_ n hn, p4, mT_lengthOf_ ty p5.1, nI_eq0]
  have no : oTyp ty n = false → ax_wp kC (d + 2) mP_type 23 [some (.ref 0), some (.int (nI n)), some (.int (nI (cod n))), some (.int (nI ty.length))] [] h Q := fun e => by
    rw [e, if_neg (by simp)] at hQ
    simp (disch := omega) only [sP_type_23, sP_type_24, ax_clr_i, ax_clr_l, ax_clr_r, ax_clr_n, ax_ct_0, ax_ct_i, ax_ct_l, ax_ct_r, va_rf_s, Option.toList_some, Option.toList_none, List.cons_append, List.nil_append, and_true, true_and, and_self, ite_true, ite_false, if_true, if_false, Nat.reduceAdd, Nat.reduceLeDiff, Nat.reduceMul, Nat.reduceLT, nI_add, pk_mul, nI_lt', nI_le', nI_eq', nI_lt0, nI_ge0, nI_eq0, nI_gt0, nI_le0, nI_ne_m1, m1_ne_nI, m1_lt_nI, m1_le_nI, nI_lt_m1, nI_le_m1, nI_clamp, ax_in_nI, nI_shl, nI_shr, lg_cmp0, nx_and, nI_eq1, bI_0, bI_1, bf_or, eq_self, or_true, true_or]
    exact hQ h hs0
  by_cases e : cod n = 0
  · rw [if_pos e]; exact no (by unfold oTyp; exact decide_eq_false (fun q => q.1 e))
  · rw [if_neg e]
    simp (disch := omega) only [sP_type_17, sP_type_18, sP_type_20, ax_clr_i, ax_clr_l, ax_clr_r, ax_clr_n, ax_ct_0, ax_ct_i, ax_ct_l, ax_ct_r, va_rf_s, Option.toList_some, Option.toList_none, List.cons_append, List.nil_append, and_true, true_and, and_self, ite_true, ite_false, if_true, if_false, Nat.reduceAdd, Nat.reduceLeDiff, Nat.reduceMul, Nat.reduceLT, nI_lt']
    by_cases e2 : ty.length < 10
    · rw [if_pos e2]
      have ot : oTyp ty n = true := by unfold oTyp; exact decide_eq_true ⟨e, e2⟩
      rw [ot, if_pos rfl] at hQ
      simp (disch := omega) only [sP_type_25, sP_type_26, sP_type_27, sP_type_30, sP_type_31, sP_type_32, sP_type_35, sP_type_38, sP_type_39, ax_clr_i, ax_clr_l, ax_clr_r, ax_clr_n, ax_ct_0, ax_ct_i, ax_ct_l, ax_ct_r, va_rf_s, Option.toList_some, Option.toList_none, List.cons_append, List.nil_append, and_true, true_and, and_self, ite_true, ite_false, if_true, if_false, Nat.reduceAdd, Nat.reduceLeDiff, Nat.reduceMul, Nat.reduceLT, nI_add, pk_mul, nI_lt', nI_le', nI_eq', nI_lt0, nI_ge0, nI_eq0, nI_gt0, nI_le0, nI_ne_m1, m1_ne_nI, m1_lt_nI, m1_le_nI, nI_lt_m1, nI_le_m1, nI_clamp, ax_in_nI, nI_shl, nI_shr, lg_cmp0, nx_and, nI_eq1, bI_0, bI_1, bf_or, eq_self, or_true, true_or, kdC_0, kdC_1, kdC_2, kdC_3, kdC_4, kdC_5, kdC_6, kdC_7, kdC_8, kdC_9, kdC_10, kdC_11, kdC_12, kdC_13, kdC_14, kdC_15, kdC_16, kdU_1, kdU_2, kdU_3, kdU_4, kdU_5, kdU_6, kdU_7, kdU_, kdR_1, kdR_2, kdR_3, kdR_4, kdR_5, kdR_, rC_00, rC_01, rC_02, rC_03, rC_04, rC_10, rC_16, rC_18, rC_19, rC_1a, rC_20, rC_22, rC_23, rC_24, rC_25, rC_26, rC_27, rC_28, rC_4, rC_10k, rC_u3, rC_u5, rC_u7, rC_u9, rC_ua, rC_ub, rC_uc, rC_r4, rC_r5, rC_r6, rC_r7, rC_r8, Nat.add_zero, p4, mT_withCode_ ty (cod n) p5.1 e2 (show cod n < 64 by omega)]
      refine hQ _ (hs0.kp rfl (fun _ _ _ _ => rfl) (fun a k _ _ => by rw [up_L, if_neg (by omega)]) ⟨p1, p2, fun p q => by rw [up_L, if_neg (by omega)]; exact p3 p q, by simp [up_L], p5.app e2 (by omega) cl⟩ ⟨a5.1, a5.2.1, fun r q => ?_, a5.2.2.2⟩)
      obtain ⟨c1, c2, c3, c4, c5⟩ := a5.2.2.1 r q
      exact ⟨c1, c2, c3, ⟨c4.1, fun i hi => by rw [up_L1, up_L, if_neg (by omega), up_L, if_neg (by omega)]; exact c4.2 i hi⟩, c5⟩
    · rw [if_neg e2]; exact no (by unfold oTyp; exact decide_eq_false (fun q => e2 q.2))
theorem mP_pattern_ {h : ax_H} (hs : stC h b us ps ty rs) (hQ : ∀ h', stC h' b us (nPs ps ty) (nTy ps ty) rs → Q (some (.int (aPat ps ty))) h') : ax_wp kC d mP_pattern 0 [some (.ref 0)] [] h Q := by
  have hs0 := hs
  obtain ⟨o, s, x, a1, a2, a3, a4, a5⟩ := hs
  obtain ⟨p1, p2, p3, p4, p5⟩ := a4
  have hr := a1.1
  have e9 : (lN (pL ty) = 0) = (ty = []) := lpL_eq p5.1 vT_nil
  unfold nPs nTy aPat at hQ
  have no : oPat ps ty = false → ax_wp kC d mP_pattern 18 [some (.ref 0)] [] h Q := fun e => by
    rw [e, if_neg (by simp), if_neg (by simp), if_neg (by simp)] at hQ
    simp (disch := omega) only [sP_pattern_18, sP_pattern_19, ax_clr_i, ax_clr_l, ax_clr_r, ax_clr_n, ax_ct_0, ax_ct_i, ax_ct_l, ax_ct_r, va_rf_s, Option.toList_some, Option.toList_none, List.cons_append, List.nil_append, and_true, true_and, and_self, ite_true, ite_false, if_true, if_false, Nat.reduceAdd, Nat.reduceLeDiff, Nat.reduceMul, Nat.reduceLT]
    exact hQ h hs0
  simp (disch := omega) only [sP_pattern_0, sP_pattern_1, sP_pattern_4, sP_pattern_5, sP_pattern_6, ax_clr_i, ax_clr_l, ax_clr_r, ax_clr_n, ax_ct_0, ax_ct_i, ax_ct_l, ax_ct_r, va_rf_s, Option.toList_some, Option.toList_none, List.cons_append, List.nil_append, and_true, true_and, and_self, ite_true, ite_false, if_true, if_false, Nat.reduceAdd, Nat.reduceLeDiff, Nat.reduceMul, Nat.reduceLT, kdC_0, kdC_1, kdC_2, kdC_3, kdC_4, kdC_5, kdC_6, kdC_7, kdC_8, kdC_9, kdC_10, kdC_11, kdC_12, kdC_13, kdC_14, kdC_15, kdC_16, kdU_1, kdU_2, kdU_3, kdU_4, kdU_5, kdU_6, kdU_7, kdU_, kdR_1, kdR_2, kdR_3, kdR_4, kdR_5, kdR_, rC_00, rC_01, rC_02, rC_03, rC_04, rC_10, rC_16, rC_18, rC_19, rC_1a, rC_20, rC_22, rC_23, rC_24, rC_25, rC_26, rC_27, rC_28, rC_4, rC_10k, rC_u3, rC_u5, rC_u7, rC_u9, rC_ua, rC_ub, rC_uc, rC_r4, rC_r5, rC_r6, rC_r7, rC_r8, Nat.add_zero, p4, lg_cmp0, e9]
  by_cases e : ty = []
  · rw [if_pos e]; exact no (by unfold oPat; exact decide_eq_false (fun q => q.1 e))
  · rw [if_neg e]
    simp (disch := omega) only [sP_pattern_9, sP_pattern_10, sP_pattern_13, sP_pattern_15, ax_clr_i, ax_clr_l, ax_clr_r, ax_clr_n, ax_ct_0, ax_ct_i, ax_ct_l, ax_ct_r, va_rf_s, Option.toList_some, Option.toList_none, List.cons_append, List.nil_append, and_true, true_and, and_self, ite_true, ite_false, if_true, if_false, Nat.reduceAdd, Nat.reduceLeDiff, Nat.reduceMul, Nat.reduceLT, kdC_0, kdC_1, kdC_2, kdC_3, kdC_4, kdC_5, kdC_6, kdC_7, kdC_8, kdC_9, kdC_10, kdC_11, kdC_12, kdC_13, kdC_14, kdC_15, kdC_16, kdU_1, kdU_2, kdU_3, kdU_4, kdU_5, kdU_6, kdU_7, kdU_, kdR_1, kdR_2, kdR_3, kdR_4, kdR_5, kdR_, rC_00, rC_01, rC_02, rC_03, rC_04, rC_10, rC_16, rC_18, rC_19, rC_1a, rC_20, rC_22, rC_23, rC_24, rC_25, rC_26, rC_27, rC_28, rC_4, rC_10k, rC_u3, rC_u5, rC_u7, rC_u9, rC_ua, rC_ub, rC_uc, rC_r4, rC_r5, rC_r6, rC_r7, rC_r8, Nat.add_zero, p1, nI_lt']
    by_cases e2 : ps.length < 6
    · rw [if_pos e2]
      have ot : oPat ps ty = true := by unfold oPat; exact decide_eq_true ⟨e, e2⟩
      rw [ot, if_pos rfl, if_pos rfl, if_pos rfl] at hQ
      simp (disch := omega) only [sP_pattern_20, sP_pattern_21, sP_pattern_24, sP_pattern_25, sP_pattern_28, sP_pattern_29, sP_pattern_32, sP_pattern_33, sP_pattern_34, sP_pattern_35, sP_pattern_38, sP_pattern_39, sP_pattern_39r, sP_pattern_40, sP_pattern_43, sP_pattern_44, sP_pattern_45, sP_pattern_48, sP_pattern_49, sP_pattern_52, sP_pattern_53, sP_pattern_54, ax_clr_i, ax_clr_l, ax_clr_r, ax_clr_n, ax_ct_0, ax_ct_i, ax_ct_l, ax_ct_r, va_rf_s, Option.toList_some, Option.toList_none, List.cons_append, List.nil_append, and_true, true_and, and_self, ite_true, ite_false, if_true, if_false, Nat.reduceAdd, Nat.reduceLeDiff, Nat.reduceMul, Nat.reduceLT, nI_add, pk_mul, nI_lt', nI_le', nI_eq', nI_lt0, nI_ge0, nI_eq0, nI_gt0, nI_le0, nI_ne_m1, m1_ne_nI, m1_lt_nI, m1_le_nI, nI_lt_m1, nI_le_m1, nI_clamp, ax_in_nI, nI_shl, nI_shr, lg_cmp0, nx_and, nI_eq1, bI_0, bI_1, bf_or, eq_self, or_true, true_or, lt_T, le_T, lt_F, le_F, eq_F, eq_T, kdC_0, kdC_1, kdC_2, kdC_3, kdC_4, kdC_5, kdC_6, kdC_7, kdC_8, kdC_9, kdC_10, kdC_11, kdC_12, kdC_13, kdC_14, kdC_15, kdC_16, kdU_1, kdU_2, kdU_3, kdU_4, kdU_5, kdU_6, kdU_7, kdU_, kdR_1, kdR_2, kdR_3, kdR_4, kdR_5, kdR_, rC_00, rC_01, rC_02, rC_03, rC_04, rC_10, rC_16, rC_18, rC_19, rC_1a, rC_20, rC_22, rC_23, rC_24, rC_25, rC_26, rC_27, rC_28, rC_4, rC_10k, rC_u3, rC_u5, rC_u7, rC_u9, rC_ua, rC_ub, rC_uc, rC_r4, rC_r5, rC_r6, rC_r7, rC_r8, Nat.add_zero, hr, p1, p4, up_at, up_I, up_I2, up_L, up_L1, up_L3, Nat.reduceEqDiff, and_false, false_and, reduceIte, pk_sub, Nat.add_sub_cancel]
      refine hQ _ (hs0.kp rfl (fun a k w1 w2 => by rw [up_I, if_neg (by omega)]; rfl) (fun a k _ _ => by rw [up_I2, up_L, if_neg (by omega), up_L, if_neg (by omega)]) ⟨by rw [up_at]; simp, by simp; omega, fun p q => ?_, by simp [up_L, up_I2]; rfl, ⟨vT_nil, fun c hc => by simp at hc⟩⟩ ⟨by rw [up_I, if_neg (by omega)]; exact a5.1, a5.2.1, fun r q => ?_, fun r w1 w2 => by rw [up_I, if_neg (by omega)]; exact a5.2.2.2 r w1 w2⟩)
      · simp only [List.length_append, List.length_cons, List.length_nil] at q
        rw [pA_app (by omega), up_I2, up_L, if_neg (by omega), up_L]
        by_cases ep : p = ps.length
        · rw [if_pos ⟨rfl, ep⟩, if_pos ep]; exact ⟨rfl, p5⟩
        · rw [if_neg (by omega), if_neg ep]; exact p3 p (by omega)
      · obtain ⟨c1, c2, c3, c4, c5⟩ := a5.2.2.1 r q
        refine ⟨by rw [up_I, if_neg (by omega)]; exact c1, by rw [up_I, if_neg (by omega)]; exact c2, by rw [up_I, if_neg (by omega)]; exact c3, ⟨by rw [up_I, if_neg (by omega)]; exact c4.1, fun i hi => ?_⟩, rlv_up c5 (by simp)⟩
        rw [up_I, if_neg (by omega), up_I, if_neg (by omega), up_I2, up_L, if_neg (by omega), up_L, if_neg (by omega), up_L, if_neg (by omega), up_L, if_neg (by omega)]
        exact c4.2 i hi
    · rw [if_neg e2]; exact no (by unfold oPat; exact decide_eq_false (fun q => e2 q.2))
theorem mP_isPattern_ {h : ax_H} (hp : patC h ps ty) (y : Int32) : ax_wp kC d mP_isPattern 0 [some (.ref 0), some (.int y)] [] h Q = Q (some (.int (bI (ixN y ps.length).isSome))) h := by
  have h1 := hp.1
  have h12 := hp.2.1
  cases e : ixN y ps.length with
  | none =>
    have n := ixN_none e
    simp (disch := omega) only [sP_isPattern_0, sP_isPattern_1, ax_clr_i, ax_clr_l, ax_clr_r, ax_clr_n, ax_ct_0, ax_ct_i, ax_ct_l, ax_ct_r, va_rf_s, Option.toList_some, Option.toList_none, List.cons_append, List.nil_append, and_true, true_and, and_self, ite_true, ite_false, if_true, if_false, Nat.reduceAdd, Nat.reduceLeDiff, Nat.reduceMul, Nat.reduceLT]
    by_cases e0 : y < 0
    · rw [if_pos e0]
      simp (disch := omega) only [sP_isPattern_16, sP_isPattern_17, ax_clr_i, ax_clr_l, ax_clr_r, ax_clr_n, ax_ct_0, ax_ct_i, ax_ct_l, ax_ct_r, va_rf_s, Option.toList_some, Option.toList_none, List.cons_append, List.nil_append, and_true, true_and, and_self, ite_true, ite_false, if_true, if_false, Nat.reduceAdd, Nat.reduceLeDiff, Nat.reduceMul, Nat.reduceLT, nI_add, pk_mul, nI_lt', nI_le', nI_eq', nI_lt0, nI_ge0, nI_eq0, nI_gt0, nI_le0, nI_ne_m1, m1_ne_nI, m1_lt_nI, m1_le_nI, nI_lt_m1, nI_le_m1, nI_clamp, ax_in_nI, nI_shl, nI_shr, lg_cmp0, nx_and, nI_eq1, bI_0, bI_1, bf_or, eq_self, or_true, true_or]
      rfl
    · rw [if_neg e0]
      simp (disch := omega) only [sP_isPattern_4, sP_isPattern_5, sP_isPattern_6, sP_isPattern_9, ax_clr_i, ax_clr_l, ax_clr_r, ax_clr_n, ax_ct_0, ax_ct_i, ax_ct_l, ax_ct_r, va_rf_s, Option.toList_some, Option.toList_none, List.cons_append, List.nil_append, and_true, true_and, and_self, ite_true, ite_false, if_true, if_false, Nat.reduceAdd, Nat.reduceLeDiff, Nat.reduceMul, Nat.reduceLT, kdC_0, kdC_1, kdC_2, kdC_3, kdC_4, kdC_5, kdC_6, kdC_7, kdC_8, kdC_9, kdC_10, kdC_11, kdC_12, kdC_13, kdC_14, kdC_15, kdC_16, kdU_1, kdU_2, kdU_3, kdU_4, kdU_5, kdU_6, kdU_7, kdU_, kdR_1, kdR_2, kdR_3, kdR_4, kdR_5, kdR_, rC_00, rC_01, rC_02, rC_03, rC_04, rC_10, rC_16, rC_18, rC_19, rC_1a, rC_20, rC_22, rC_23, rC_24, rC_25, rC_26, rC_27, rC_28, rC_4, rC_10k, rC_u3, rC_u5, rC_u7, rC_u9, rC_ua, rC_ub, rC_uc, rC_r4, rC_r5, rC_r6, rC_r7, rC_r8, Nat.add_zero, h1]
      rw [if_pos (lt_not n e0)]
      simp (disch := omega) only [sP_isPattern_16, sP_isPattern_17, ax_clr_i, ax_clr_l, ax_clr_r, ax_clr_n, ax_ct_0, ax_ct_i, ax_ct_l, ax_ct_r, va_rf_s, Option.toList_some, Option.toList_none, List.cons_append, List.nil_append, and_true, true_and, and_self, ite_true, ite_false, if_true, if_false, Nat.reduceAdd, Nat.reduceLeDiff, Nat.reduceMul, Nat.reduceLT, nI_add, pk_mul, nI_lt', nI_le', nI_eq', nI_lt0, nI_ge0, nI_eq0, nI_gt0, nI_le0, nI_ne_m1, m1_ne_nI, m1_lt_nI, m1_le_nI, nI_lt_m1, nI_le_m1, nI_clamp, ax_in_nI, nI_shl, nI_shr, lg_cmp0, nx_and, nI_eq1, bI_0, bI_1, bf_or, eq_self, or_true, true_or]
      rfl
  | some c =>
    obtain ⟨a1, rfl⟩ := ixN_some (by omega) e
    simp (disch := omega) only [sP_isPattern_0, sP_isPattern_1, sP_isPattern_4, sP_isPattern_5, sP_isPattern_6, sP_isPattern_9, sP_isPattern_12, sP_isPattern_13, sP_isPattern_16, sP_isPattern_17, ax_clr_i, ax_clr_l, ax_clr_r, ax_clr_n, ax_ct_0, ax_ct_i, ax_ct_l, ax_ct_r, va_rf_s, Option.toList_some, Option.toList_none, List.cons_append, List.nil_append, and_true, true_and, and_self, ite_true, ite_false, if_true, if_false, Nat.reduceAdd, Nat.reduceLeDiff, Nat.reduceMul, Nat.reduceLT, nI_add, pk_mul, nI_lt', nI_le', nI_eq', nI_lt0, nI_ge0, nI_eq0, nI_gt0, nI_le0, nI_ne_m1, m1_ne_nI, m1_lt_nI, m1_le_nI, nI_lt_m1, nI_le_m1, nI_clamp, ax_in_nI, nI_shl, nI_shr, lg_cmp0, nx_and, nI_eq1, bI_0, bI_1, bf_or, eq_self, or_true, true_or, lt_T, le_T, lt_F, le_F, eq_F, eq_T, kdC_0, kdC_1, kdC_2, kdC_3, kdC_4, kdC_5, kdC_6, kdC_7, kdC_8, kdC_9, kdC_10, kdC_11, kdC_12, kdC_13, kdC_14, kdC_15, kdC_16, kdU_1, kdU_2, kdU_3, kdU_4, kdU_5, kdU_6, kdU_7, kdU_, kdR_1, kdR_2, kdR_3, kdR_4, kdR_5, kdR_, rC_00, rC_01, rC_02, rC_03, rC_04, rC_10, rC_16, rC_18, rC_19, rC_1a, rC_20, rC_22, rC_23, rC_24, rC_25, rC_26, rC_27, rC_28, rC_4, rC_10k, rC_u3, rC_u5, rC_u7, rC_u9, rC_ua, rC_ub, rC_uc, rC_r4, rC_r5, rC_r6, rC_r7, rC_r8, Nat.add_zero, h1]
    rfl
theorem mP_isRule_ {h : ax_H} {n : Nat} (hp : rulC h n rs) (y : Int32) : ax_wp kC d mP_isRule 0 [some (.ref 0), some (.int y)] [] h Q = Q (some (.int (bI (ixN y rs.length).isSome))) h := by
  have h1 := hp.1
  have h12 := hp.2.1
  cases e : ixN y rs.length with
  | none =>
    have n := ixN_none e
    simp (disch := omega) only [sP_isRule_0, sP_isRule_1, ax_clr_i, ax_clr_l, ax_clr_r, ax_clr_n, ax_ct_0, ax_ct_i, ax_ct_l, ax_ct_r, va_rf_s, Option.toList_some, Option.toList_none, List.cons_append, List.nil_append, and_true, true_and, and_self, ite_true, ite_false, if_true, if_false, Nat.reduceAdd, Nat.reduceLeDiff, Nat.reduceMul, Nat.reduceLT]
    by_cases e0 : y < 0
    · rw [if_pos e0]
      simp (disch := omega) only [sP_isRule_16, sP_isRule_17, ax_clr_i, ax_clr_l, ax_clr_r, ax_clr_n, ax_ct_0, ax_ct_i, ax_ct_l, ax_ct_r, va_rf_s, Option.toList_some, Option.toList_none, List.cons_append, List.nil_append, and_true, true_and, and_self, ite_true, ite_false, if_true, if_false, Nat.reduceAdd, Nat.reduceLeDiff, Nat.reduceMul, Nat.reduceLT, nI_add, pk_mul, nI_lt', nI_le', nI_eq', nI_lt0, nI_ge0, nI_eq0, nI_gt0, nI_le0, nI_ne_m1, m1_ne_nI, m1_lt_nI, m1_le_nI, nI_lt_m1, nI_le_m1, nI_clamp, ax_in_nI, nI_shl, nI_shr, lg_cmp0, nx_and, nI_eq1, bI_0, bI_1, bf_or, eq_self, or_true, true_or]
      rfl
    · rw [if_neg e0]
      simp (disch := omega) only [sP_isRule_4, sP_isRule_5, sP_isRule_6, sP_isRule_9, ax_clr_i, ax_clr_l, ax_clr_r, ax_clr_n, ax_ct_0, ax_ct_i, ax_ct_l, ax_ct_r, va_rf_s, Option.toList_some, Option.toList_none, List.cons_append, List.nil_append, and_true, true_and, and_self, ite_true, ite_false, if_true, if_false, Nat.reduceAdd, Nat.reduceLeDiff, Nat.reduceMul, Nat.reduceLT, kdC_0, kdC_1, kdC_2, kdC_3, kdC_4, kdC_5, kdC_6, kdC_7, kdC_8, kdC_9, kdC_10, kdC_11, kdC_12, kdC_13, kdC_14, kdC_15, kdC_16, kdU_1, kdU_2, kdU_3, kdU_4, kdU_5, kdU_6, kdU_7, kdU_, kdR_1, kdR_2, kdR_3, kdR_4, kdR_5, kdR_, rC_00, rC_01, rC_02, rC_03, rC_04, rC_10, rC_16, rC_18, rC_19, rC_1a, rC_20, rC_22, rC_23, rC_24, rC_25, rC_26, rC_27, rC_28, rC_4, rC_10k, rC_u3, rC_u5, rC_u7, rC_u9, rC_ua, rC_ub, rC_uc, rC_r4, rC_r5, rC_r6, rC_r7, rC_r8, Nat.add_zero, h1]
      rw [if_pos (lt_not n e0)]
      simp (disch := omega) only [sP_isRule_16, sP_isRule_17, ax_clr_i, ax_clr_l, ax_clr_r, ax_clr_n, ax_ct_0, ax_ct_i, ax_ct_l, ax_ct_r, va_rf_s, Option.toList_some, Option.toList_none, List.cons_append, List.nil_append, and_true, true_and, and_self, ite_true, ite_false, if_true, if_false, Nat.reduceAdd, Nat.reduceLeDiff, Nat.reduceMul, Nat.reduceLT, nI_add, pk_mul, nI_lt', nI_le', nI_eq', nI_lt0, nI_ge0, nI_eq0, nI_gt0, nI_le0, nI_ne_m1, m1_ne_nI, m1_lt_nI, m1_le_nI, nI_lt_m1, nI_le_m1, nI_clamp, ax_in_nI, nI_shl, nI_shr, lg_cmp0, nx_and, nI_eq1, bI_0, bI_1, bf_or, eq_self, or_true, true_or]
      rfl
  | some c =>
    obtain ⟨a1, rfl⟩ := ixN_some (by omega) e
    simp (disch := omega) only [sP_isRule_0, sP_isRule_1, sP_isRule_4, sP_isRule_5, sP_isRule_6, sP_isRule_9, sP_isRule_12, sP_isRule_13, sP_isRule_16, sP_isRule_17, ax_clr_i, ax_clr_l, ax_clr_r, ax_clr_n, ax_ct_0, ax_ct_i, ax_ct_l, ax_ct_r, va_rf_s, Option.toList_some, Option.toList_none, List.cons_append, List.nil_append, and_true, true_and, and_self, ite_true, ite_false, if_true, if_false, Nat.reduceAdd, Nat.reduceLeDiff, Nat.reduceMul, Nat.reduceLT, nI_add, pk_mul, nI_lt', nI_le', nI_eq', nI_lt0, nI_ge0, nI_eq0, nI_gt0, nI_le0, nI_ne_m1, m1_ne_nI, m1_lt_nI, m1_le_nI, nI_lt_m1, nI_le_m1, nI_clamp, ax_in_nI, nI_shl, nI_shr, lg_cmp0, nx_and, nI_eq1, bI_0, bI_1, bf_or, eq_self, or_true, true_or, lt_T, le_T, lt_F, le_F, eq_F, eq_T, kdC_0, kdC_1, kdC_2, kdC_3, kdC_4, kdC_5, kdC_6, kdC_7, kdC_8, kdC_9, kdC_10, kdC_11, kdC_12, kdC_13, kdC_14, kdC_15, kdC_16, kdU_1, kdU_2, kdU_3, kdU_4, kdU_5, kdU_6, kdU_7, kdU_, kdR_1, kdR_2, kdR_3, kdR_4, kdR_5, kdR_, rC_00, rC_01, rC_02, rC_03, rC_04, rC_10, rC_16, rC_18, rC_19, rC_1a, rC_20, rC_22, rC_23, rC_24, rC_25, rC_26, rC_27, rC_28, rC_4, rC_10k, rC_u3, rC_u5, rC_u7, rC_u9, rC_ua, rC_ub, rC_uc, rC_r4, rC_r5, rC_r6, rC_r7, rC_r8, Nat.add_zero, h1]
    rfl
theorem ix3 (y : Int32) : (ixN y 3 = some 1 ↔ y = nI 1) ∧ (ixN y 3 = some 2 ↔ y = nI 2) ∧ ((∃ k, ixN y 3 = some k ∧ ¬ k = 0) ↔ (y = nI 1 ∨ y = nI 2)) := by
  have a : ∀ j, j < 3 → (ixN y 3 = some j ↔ y = nI j) := fun j hj => ⟨fun h => (ixN_some (by omega) h).2, fun h => by rw [h]; exact ixN_nI (by omega) hj⟩
  refine ⟨a 1 (by omega), a 2 (by omega), ⟨fun ⟨k, h1, h2⟩ => ?_, fun h => ?_⟩⟩
  · have q := ixN_some (by omega) h1
    have : k = 1 ∨ k = 2 := by omega
    rcases this with w | w
    · left; rw [q.2, w]
    · right; rw [q.2, w]
  · rcases h with w | w
    · exact ⟨1, (a 1 (by omega)).mpr w, by omega⟩
    · exact ⟨2, (a 2 (by omega)).mpr w, by omega⟩
theorem mP_isDepth_ {h : ax_H} (y : Int32) : ax_wp kC d mP_isDepth 0 [some (.int y)] [] h Q = Q (some (.int (bI (decide (y = nI 1 ∨ y = nI 2))))) h := by
  simp (disch := omega) only [sP_isDepth_0, sP_isDepth_1, sP_isDepth_2, ax_clr_i, ax_clr_l, ax_clr_r, ax_clr_n, ax_ct_0, ax_ct_i, ax_ct_l, ax_ct_r, va_rf_s, Option.toList_some, Option.toList_none, List.cons_append, List.nil_append, and_true, true_and, and_self, ite_true, ite_false, if_true, if_false, Nat.reduceAdd, Nat.reduceLeDiff, Nat.reduceMul, Nat.reduceLT]
  by_cases e1 : y = nI 1
  · rw [if_pos e1, decide_eq_true (Or.inl e1)]
    simp (disch := omega) only [sP_isDepth_10, sP_isDepth_11, sP_isDepth_14, sP_isDepth_15, ax_clr_i, ax_clr_l, ax_clr_r, ax_clr_n, ax_ct_0, ax_ct_i, ax_ct_l, ax_ct_r, va_rf_s, Option.toList_some, Option.toList_none, List.cons_append, List.nil_append, and_true, true_and, and_self, ite_true, ite_false, if_true, if_false, Nat.reduceAdd, Nat.reduceLeDiff, Nat.reduceMul, Nat.reduceLT, nI_add, pk_mul, nI_lt', nI_le', nI_eq', nI_lt0, nI_ge0, nI_eq0, nI_gt0, nI_le0, nI_ne_m1, m1_ne_nI, m1_lt_nI, m1_le_nI, nI_lt_m1, nI_le_m1, nI_clamp, ax_in_nI, nI_shl, nI_shr, lg_cmp0, nx_and, nI_eq1, bI_0, bI_1, bf_or, eq_self, or_true, true_or]
    rfl
  · rw [if_neg e1]
    simp (disch := omega) only [sP_isDepth_5, sP_isDepth_6, sP_isDepth_7, ax_clr_i, ax_clr_l, ax_clr_r, ax_clr_n, ax_ct_0, ax_ct_i, ax_ct_l, ax_ct_r, va_rf_s, Option.toList_some, Option.toList_none, List.cons_append, List.nil_append, and_true, true_and, and_self, ite_true, ite_false, if_true, if_false, Nat.reduceAdd, Nat.reduceLeDiff, Nat.reduceMul, Nat.reduceLT]
    by_cases e2 : y = nI 2
    · rw [if_pos e2, decide_eq_true (Or.inr e2)]
      simp (disch := omega) only [sP_isDepth_10, sP_isDepth_11, sP_isDepth_14, sP_isDepth_15, ax_clr_i, ax_clr_l, ax_clr_r, ax_clr_n, ax_ct_0, ax_ct_i, ax_ct_l, ax_ct_r, va_rf_s, Option.toList_some, Option.toList_none, List.cons_append, List.nil_append, and_true, true_and, and_self, ite_true, ite_false, if_true, if_false, Nat.reduceAdd, Nat.reduceLeDiff, Nat.reduceMul, Nat.reduceLT, nI_add, pk_mul, nI_lt', nI_le', nI_eq', nI_lt0, nI_ge0, nI_eq0, nI_gt0, nI_le0, nI_ne_m1, m1_ne_nI, m1_lt_nI, m1_le_nI, nI_lt_m1, nI_le_m1, nI_clamp, ax_in_nI, nI_shl, nI_shr, lg_cmp0, nx_and, nI_eq1, bI_0, bI_1, bf_or, eq_self, or_true, true_or]
      rfl
    · rw [if_neg e2, decide_eq_false (fun q => q.elim e1 e2)]
      simp (disch := omega) only [sP_isDepth_14, sP_isDepth_15, ax_clr_i, ax_clr_l, ax_clr_r, ax_clr_n, ax_ct_0, ax_ct_i, ax_ct_l, ax_ct_r, va_rf_s, Option.toList_some, Option.toList_none, List.cons_append, List.nil_append, and_true, true_and, and_self, ite_true, ite_false, if_true, if_false, Nat.reduceAdd, Nat.reduceLeDiff, Nat.reduceMul, Nat.reduceLT, nI_add, pk_mul, nI_lt', nI_le', nI_eq', nI_lt0, nI_ge0, nI_eq0, nI_gt0, nI_le0, nI_ne_m1, m1_ne_nI, m1_lt_nI, m1_le_nI, nI_lt_m1, nI_le_m1, nI_clamp, ax_in_nI, nI_shl, nI_shr, lg_cmp0, nx_and, nI_eq1, bI_0, bI_1, bf_or, eq_self, or_true, true_or]
      rfl
theorem mP_canBeRule_ {h : ax_H} (hp : patC h ps ty) (x y z : Int32) : ax_wp kC (d + 1) mP_canBeRule 0 [some (.ref 0), some (.int x), some (.int y), some (.int z)] [] h Q = Q (some (.int (bI (okR ps.length x y z).isSome))) h := by
  have h6 := hp.2.1
  have n51 : ax_wp kC (d + 1) mP_canBeRule 51 [some (.ref 0), some (.int x), some (.int y), some (.int z)] [] h Q = Q (some (.int (bI false))) h := by
    simp (disch := omega) only [sP_canBeRule_51, sP_canBeRule_52, ax_clr_i, ax_clr_l, ax_clr_r, ax_clr_n, ax_ct_0, ax_ct_i, ax_ct_l, ax_ct_r, va_rf_s, Option.toList_some, Option.toList_none, List.cons_append, List.nil_append, and_true, true_and, and_self, ite_true, ite_false, if_true, if_false, Nat.reduceAdd, Nat.reduceLeDiff, Nat.reduceMul, Nat.reduceLT, nI_add, pk_mul, nI_lt', nI_le', nI_eq', nI_lt0, nI_ge0, nI_eq0, nI_gt0, nI_le0, nI_ne_m1, m1_ne_nI, m1_lt_nI, m1_le_nI, nI_lt_m1, nI_le_m1, nI_clamp, ax_in_nI, nI_shl, nI_shr, lg_cmp0, nx_and, nI_eq1, bI_0, bI_1, bf_or, eq_self, or_true, true_or]; rfl
  have n20 : ax_wp kC (d + 1) mP_canBeRule 20 [some (.ref 0), some (.int x), some (.int y), some (.int z)] [] h Q = Q (some (.int (bI false))) h := by
    simp (disch := omega) only [sP_canBeRule_20, sP_canBeRule_21, ax_clr_i, ax_clr_l, ax_clr_r, ax_clr_n, ax_ct_0, ax_ct_i, ax_ct_l, ax_ct_r, va_rf_s, Option.toList_some, Option.toList_none, List.cons_append, List.nil_append, and_true, true_and, and_self, ite_true, ite_false, if_true, if_false, Nat.reduceAdd, Nat.reduceLeDiff, Nat.reduceMul, Nat.reduceLT, nI_add, pk_mul, nI_lt', nI_le', nI_eq', nI_lt0, nI_ge0, nI_eq0, nI_gt0, nI_le0, nI_ne_m1, m1_ne_nI, m1_lt_nI, m1_le_nI, nI_lt_m1, nI_le_m1, nI_clamp, ax_in_nI, nI_shl, nI_shr, lg_cmp0, nx_and, nI_eq1, bI_0, bI_1, bf_or, eq_self, or_true, true_or]; rfl
  unfold okR
  simp (disch := omega) only [sP_canBeRule_0, sP_canBeRule_1, sP_canBeRule_2, ax_clr_i, ax_clr_l, ax_clr_r, ax_clr_n, ax_ct_0, ax_ct_i, ax_ct_l, ax_ct_r, va_rf_s, Option.toList_some, Option.toList_none, List.cons_append, List.nil_append, and_true, true_and, and_self, ite_true, ite_false, if_true, if_false, Nat.reduceAdd, Nat.reduceLeDiff, Nat.reduceMul, Nat.reduceLT]
  by_cases e3 : x = nI 3
  · have ex : ixN x 3 = none := by
      cases q : ixN x 3 with
      | none => rfl
      | some k =>
        have w := ixN_some (by omega) q
        rw [e3, nI_eq' (by omega) (by omega)] at w
        omega
    rw [if_pos e3, ex]
    dsimp only
    rw [if_pos e3]
    simp (disch := omega) only [sP_canBeRule_5, sP_canBeRule_6, sP_canBeRule_9, ax_clr_i, ax_clr_l, ax_clr_r, ax_clr_n, ax_ct_0, ax_ct_i, ax_ct_l, ax_ct_r, va_rf_s, Option.toList_some, Option.toList_none, List.cons_append, List.nil_append, and_true, true_and, and_self, ite_true, ite_false, if_true, if_false, Nat.reduceAdd, Nat.reduceLeDiff, Nat.reduceMul, Nat.reduceLT, nI_add, pk_mul, nI_lt', nI_le', nI_eq', nI_lt0, nI_ge0, nI_eq0, nI_gt0, nI_le0, nI_ne_m1, m1_ne_nI, m1_lt_nI, m1_le_nI, nI_lt_m1, nI_le_m1, nI_clamp, ax_in_nI, nI_shl, nI_shr, lg_cmp0, nx_and, nI_eq1, bI_0, bI_1, bf_or, eq_self, or_true, true_or, mP_isDepth_]
    by_cases ed : y = nI 1 ∨ y = nI 2
    · obtain ⟨k, k1, k2⟩ := (ix3 y).2.2.mpr ed
      rw [decide_eq_true ed, if_neg (by simp), k1]
      dsimp only
      rw [if_neg k2]
      simp (disch := omega) only [sP_canBeRule_12, sP_canBeRule_13, ax_clr_i, ax_clr_l, ax_clr_r, ax_clr_n, ax_ct_0, ax_ct_i, ax_ct_l, ax_ct_r, va_rf_s, Option.toList_some, Option.toList_none, List.cons_append, List.nil_append, and_true, true_and, and_self, ite_true, ite_false, if_true, if_false, Nat.reduceAdd, Nat.reduceLeDiff, Nat.reduceMul, Nat.reduceLT]
      by_cases ez : z = 0
      · rw [if_pos ez, if_pos ez]
        simp (disch := omega) only [sP_canBeRule_16, sP_canBeRule_17, sP_canBeRule_20, sP_canBeRule_21, ax_clr_i, ax_clr_l, ax_clr_r, ax_clr_n, ax_ct_0, ax_ct_i, ax_ct_l, ax_ct_r, va_rf_s, Option.toList_some, Option.toList_none, List.cons_append, List.nil_append, and_true, true_and, and_self, ite_true, ite_false, if_true, if_false, Nat.reduceAdd, Nat.reduceLeDiff, Nat.reduceMul, Nat.reduceLT, nI_add, pk_mul, nI_lt', nI_le', nI_eq', nI_lt0, nI_ge0, nI_eq0, nI_gt0, nI_le0, nI_ne_m1, m1_ne_nI, m1_lt_nI, m1_le_nI, nI_lt_m1, nI_le_m1, nI_clamp, ax_in_nI, nI_shl, nI_shr, lg_cmp0, nx_and, nI_eq1, bI_0, bI_1, bf_or, eq_self, or_true, true_or]
        rfl
      · rw [if_neg ez, if_neg ez, n20]; rfl
    · rw [decide_eq_false ed, if_pos rfl, n20]
      cases q : ixN y 3 with
      | none => rfl
      | some k =>
        dsimp only
        by_cases k0 : k = 0
        · rw [if_pos k0]; rfl
        · exact absurd ((ix3 y).2.2.mp ⟨k, q, k0⟩) ed
  · rw [if_neg e3]
    simp (disch := omega) only [sP_canBeRule_22, sP_canBeRule_23, ax_clr_i, ax_clr_l, ax_clr_r, ax_clr_n, ax_ct_0, ax_ct_i, ax_ct_l, ax_ct_r, va_rf_s, Option.toList_some, Option.toList_none, List.cons_append, List.nil_append, and_true, true_and, and_self, ite_true, ite_false, if_true, if_false, Nat.reduceAdd, Nat.reduceLeDiff, Nat.reduceMul, Nat.reduceLT]
    cases ex : ixN x 3 with
    | none =>
      dsimp only
      rw [if_neg e3]
      have n := ixN_none ex
      by_cases e0 : x < 0
      · rw [if_pos e0, n51]; rfl
      · rw [if_neg e0]
        simp (disch := omega) only [sP_canBeRule_26, sP_canBeRule_27, sP_canBeRule_28, ax_clr_i, ax_clr_l, ax_clr_r, ax_clr_n, ax_ct_0, ax_ct_i, ax_ct_l, ax_ct_r, va_rf_s, Option.toList_some, Option.toList_none, List.cons_append, List.nil_append, and_true, true_and, and_self, ite_true, ite_false, if_true, if_false, Nat.reduceAdd, Nat.reduceLeDiff, Nat.reduceMul, Nat.reduceLT]
        have w := lt_not n e0
        have g2 : nI 2 < x := by
          rw [Int32.lt_iff_toInt_lt, nI_toInt (by omega)]
          rw [Int32.le_iff_toInt_le, nI_toInt (by omega)] at w
          omega
        rw [if_pos g2, n51]; rfl
    | some k =>
      obtain ⟨k1, rfl⟩ := ixN_some (by omega) ex
      dsimp only
      simp (disch := omega) only [sP_canBeRule_26, sP_canBeRule_27, sP_canBeRule_28, sP_canBeRule_31, sP_canBeRule_32, sP_canBeRule_33, sP_canBeRule_36, ax_clr_i, ax_clr_l, ax_clr_r, ax_clr_n, ax_ct_0, ax_ct_i, ax_ct_l, ax_ct_r, va_rf_s, Option.toList_some, Option.toList_none, List.cons_append, List.nil_append, and_true, true_and, and_self, ite_true, ite_false, if_true, if_false, Nat.reduceAdd, Nat.reduceLeDiff, Nat.reduceMul, Nat.reduceLT, nI_add, pk_mul, nI_lt', nI_le', nI_eq', nI_lt0, nI_ge0, nI_eq0, nI_gt0, nI_le0, nI_ne_m1, m1_ne_nI, m1_lt_nI, m1_le_nI, nI_lt_m1, nI_le_m1, nI_clamp, ax_in_nI, nI_shl, nI_shr, lg_cmp0, nx_and, nI_eq1, bI_0, bI_1, bf_or, eq_self, or_true, true_or, lt_T, le_T, lt_F, le_F, eq_F, eq_T, kdC_0, kdC_1, kdC_2, kdC_3, kdC_4, kdC_5, kdC_6, kdC_7, kdC_8, kdC_9, kdC_10, kdC_11, kdC_12, kdC_13, kdC_14, kdC_15, kdC_16, kdU_1, kdU_2, kdU_3, kdU_4, kdU_5, kdU_6, kdU_7, kdU_, kdR_1, kdR_2, kdR_3, kdR_4, kdR_5, kdR_, rC_00, rC_01, rC_02, rC_03, rC_04, rC_10, rC_16, rC_18, rC_19, rC_1a, rC_20, rC_22, rC_23, rC_24, rC_25, rC_26, rC_27, rC_28, rC_4, rC_10k, rC_u3, rC_u5, rC_u7, rC_u9, rC_ua, rC_ub, rC_uc, rC_r4, rC_r5, rC_r6, rC_r7, rC_r8, Nat.add_zero, mP_isPattern_ hp]
      cases ey : ixN y ps.length with
      | none =>
        simp (disch := omega) only [ax_clr_i, ax_clr_l, ax_clr_r, ax_clr_n, ax_ct_0, ax_ct_i, ax_ct_l, ax_ct_r, va_rf_s, Option.toList_some, Option.toList_none, List.cons_append, List.nil_append, and_true, true_and, and_self, ite_true, ite_false, if_true, if_false, Nat.reduceAdd, Nat.reduceLeDiff, Nat.reduceMul, Nat.reduceLT, nI_add, pk_mul, nI_lt', nI_le', nI_eq', nI_lt0, nI_ge0, nI_eq0, nI_gt0, nI_le0, nI_ne_m1, m1_ne_nI, m1_lt_nI, m1_le_nI, nI_lt_m1, nI_le_m1, nI_clamp, ax_in_nI, nI_shl, nI_shr, lg_cmp0, nx_and, nI_eq1, bI_0, bI_1, bf_or, eq_self, or_true, true_or, Option.isSome_none, n51]
      | some p =>
        simp (disch := omega) only [sP_canBeRule_39, sP_canBeRule_40, sP_canBeRule_41, sP_canBeRule_44, ax_clr_i, ax_clr_l, ax_clr_r, ax_clr_n, ax_ct_0, ax_ct_i, ax_ct_l, ax_ct_r, va_rf_s, Option.toList_some, Option.toList_none, List.cons_append, List.nil_append, and_true, true_and, and_self, ite_true, ite_false, if_true, if_false, Nat.reduceAdd, Nat.reduceLeDiff, Nat.reduceMul, Nat.reduceLT, nI_add, pk_mul, nI_lt', nI_le', nI_eq', nI_lt0, nI_ge0, nI_eq0, nI_gt0, nI_le0, nI_ne_m1, m1_ne_nI, m1_lt_nI, m1_le_nI, nI_lt_m1, nI_le_m1, nI_clamp, ax_in_nI, nI_shl, nI_shr, lg_cmp0, nx_and, nI_eq1, bI_0, bI_1, bf_or, eq_self, or_true, true_or, kdC_0, kdC_1, kdC_2, kdC_3, kdC_4, kdC_5, kdC_6, kdC_7, kdC_8, kdC_9, kdC_10, kdC_11, kdC_12, kdC_13, kdC_14, kdC_15, kdC_16, kdU_1, kdU_2, kdU_3, kdU_4, kdU_5, kdU_6, kdU_7, kdU_, kdR_1, kdR_2, kdR_3, kdR_4, kdR_5, kdR_, rC_00, rC_01, rC_02, rC_03, rC_04, rC_10, rC_16, rC_18, rC_19, rC_1a, rC_20, rC_22, rC_23, rC_24, rC_25, rC_26, rC_27, rC_28, rC_4, rC_10k, rC_u3, rC_u5, rC_u7, rC_u9, rC_ua, rC_ub, rC_uc, rC_r4, rC_r5, rC_r6, rC_r7, rC_r8, Nat.add_zero, Option.isSome_some, Bool.true_eq_false, mP_isPattern_ hp]
        cases ez : ixN z ps.length with
        | none =>
          simp (disch := omega) only [ax_clr_i, ax_clr_l, ax_clr_r, ax_clr_n, ax_ct_0, ax_ct_i, ax_ct_l, ax_ct_r, va_rf_s, Option.toList_some, Option.toList_none, List.cons_append, List.nil_append, and_true, true_and, and_self, ite_true, ite_false, if_true, if_false, Nat.reduceAdd, Nat.reduceLeDiff, Nat.reduceMul, Nat.reduceLT, nI_add, pk_mul, nI_lt', nI_le', nI_eq', nI_lt0, nI_ge0, nI_eq0, nI_gt0, nI_le0, nI_ne_m1, m1_ne_nI, m1_lt_nI, m1_le_nI, nI_lt_m1, nI_le_m1, nI_clamp, ax_in_nI, nI_shl, nI_shr, lg_cmp0, nx_and, nI_eq1, bI_0, bI_1, bf_or, eq_self, or_true, true_or, Option.isSome_none, n51]
        | some q =>
          simp (disch := omega) only [sP_canBeRule_47, sP_canBeRule_48, sP_canBeRule_51, sP_canBeRule_52, ax_clr_i, ax_clr_l, ax_clr_r, ax_clr_n, ax_ct_0, ax_ct_i, ax_ct_l, ax_ct_r, va_rf_s, Option.toList_some, Option.toList_none, List.cons_append, List.nil_append, and_true, true_and, and_self, ite_true, ite_false, if_true, if_false, Nat.reduceAdd, Nat.reduceLeDiff, Nat.reduceMul, Nat.reduceLT, nI_add, pk_mul, nI_lt', nI_le', nI_eq', nI_lt0, nI_ge0, nI_eq0, nI_gt0, nI_le0, nI_ne_m1, m1_ne_nI, m1_lt_nI, m1_le_nI, nI_lt_m1, nI_le_m1, nI_clamp, ax_in_nI, nI_shl, nI_shr, lg_cmp0, nx_and, nI_eq1, bI_0, bI_1, bf_or, eq_self, or_true, true_or, Option.isSome_some, Bool.true_eq_false]
          rfl
theorem okR_v {n : Nat} {x y z : Int32} {k p q : Nat} (hn : n ≤ 6) (h : okR n x y z = some (k, p, q)) : x = nI k ∧ y = nI p ∧ z = nI q ∧ rlv n (k, p, q, []) := by
  unfold okR at h
  cases ex : ixN x 3 with
  | some k1 =>
    obtain ⟨a1, a2⟩ := ixN_some (by omega) ex
    rw [ex] at h
    dsimp only at h
    cases ey : ixN y n with
    | none => rw [ey] at h; cases h
    | some p1 =>
      obtain ⟨b1, b2⟩ := ixN_some (by omega) ey
      rw [ey] at h
      dsimp only at h
      cases ez : ixN z n with
      | none => rw [ez] at h; cases h
      | some q1 =>
        obtain ⟨c1, c2⟩ := ixN_some (by omega) ez
        rw [ez] at h
        simp only [Option.some.injEq, Prod.mk.injEq] at h
        obtain ⟨rfl, rfl, rfl⟩ := h
        exact ⟨a2, b2, c2, Or.inl ⟨by show k1 ≤ 2; omega, b1, c1⟩, by simp, by simp⟩
  | none =>
    rw [ex] at h
    dsimp only at h
    by_cases e3 : x = nI 3
    · rw [if_pos e3] at h
      cases ey : ixN y 3 with
      | none => rw [ey] at h; cases h
      | some p1 =>
        obtain ⟨b1, b2⟩ := ixN_some (by omega) ey
        rw [ey] at h
        dsimp only at h
        by_cases p0 : p1 = 0
        · rw [if_pos p0] at h; cases h
        · rw [if_neg p0] at h
          by_cases z0 : z = 0
          · rw [if_pos z0] at h
            simp only [Option.some.injEq, Prod.mk.injEq] at h
            obtain ⟨rfl, rfl, rfl⟩ := h
            exact ⟨e3, b2, z0, Or.inr ⟨rfl, by show p1 = 1 ∨ p1 = 2; omega, rfl⟩, by simp, by simp⟩
          · rw [if_neg z0] at h; cases h
    · rw [if_neg e3] at h; cases h
theorem mP_rule_ {h : ax_H} (hs : stC h b us ps ty rs) (x y z : Int32) (hQ : ∀ h', stC h' b us ps ty (nRs ps.length rs x y z) → Q (some (.int (aRul ps.length rs x y z))) h') : ax_wp kC (d + 2) mP_rule 0 [some (.ref 0), some (.int x), some (.int y), some (.int z)] [] h Q := by
  have hs0 := hs
  obtain ⟨o, s, xx, a1, a2, a3, a4, a5⟩ := hs
  have hr := a1.1
  obtain ⟨n1, n2, n3, n4⟩ := a5
  have p6 := a4.2.1
  unfold nRs aRul at hQ
  have no : oRul ps.length rs x y z = none → ax_wp kC (d + 2) mP_rule 19 [some (.ref 0), some (.int x), some (.int y), some (.int z)] [] h Q := fun e => by
    rw [e] at hQ
    simp (disch := omega) only [sP_rule_19, sP_rule_20, ax_clr_i, ax_clr_l, ax_clr_r, ax_clr_n, ax_ct_0, ax_ct_i, ax_ct_l, ax_ct_r, va_rf_s, Option.toList_some, Option.toList_none, List.cons_append, List.nil_append, and_true, true_and, and_self, ite_true, ite_false, if_true, if_false, Nat.reduceAdd, Nat.reduceLeDiff, Nat.reduceMul, Nat.reduceLT]
    exact hQ h hs0
  simp (disch := omega) only [sP_rule_0, sP_rule_1, sP_rule_4, sP_rule_6, ax_clr_i, ax_clr_l, ax_clr_r, ax_clr_n, ax_ct_0, ax_ct_i, ax_ct_l, ax_ct_r, va_rf_s, Option.toList_some, Option.toList_none, List.cons_append, List.nil_append, and_true, true_and, and_self, ite_true, ite_false, if_true, if_false, Nat.reduceAdd, Nat.reduceLeDiff, Nat.reduceMul, Nat.reduceLT, kdC_0, kdC_1, kdC_2, kdC_3, kdC_4, kdC_5, kdC_6, kdC_7, kdC_8, kdC_9, kdC_10, kdC_11, kdC_12, kdC_13, kdC_14, kdC_15, kdC_16, kdU_1, kdU_2, kdU_3, kdU_4, kdU_5, kdU_6, kdU_7, kdU_, kdR_1, kdR_2, kdR_3, kdR_4, kdR_5, kdR_, rC_00, rC_01, rC_02, rC_03, rC_04, rC_10, rC_16, rC_18, rC_19, rC_1a, rC_20, rC_22, rC_23, rC_24, rC_25, rC_26, rC_27, rC_28, rC_4, rC_10k, rC_u3, rC_u5, rC_u7, rC_u9, rC_ua, rC_ub, rC_uc, rC_r4, rC_r5, rC_r6, rC_r7, rC_r8, Nat.add_zero, n1, nI_le']
  by_cases e6 : 6 ≤ rs.length
  · rw [if_pos e6]; exact no (by unfold oRul; rw [if_neg (by omega)])
  · rw [if_neg e6]
    simp (disch := omega) only [sP_rule_9, sP_rule_10, sP_rule_11, sP_rule_12, sP_rule_13, sP_rule_16, ax_clr_i, ax_clr_l, ax_clr_r, ax_clr_n, ax_ct_0, ax_ct_i, ax_ct_l, ax_ct_r, va_rf_s, Option.toList_some, Option.toList_none, List.cons_append, List.nil_append, and_true, true_and, and_self, ite_true, ite_false, if_true, if_false, Nat.reduceAdd, Nat.reduceLeDiff, Nat.reduceMul, Nat.reduceLT, nI_add, pk_mul, nI_lt', nI_le', nI_eq', nI_lt0, nI_ge0, nI_eq0, nI_gt0, nI_le0, nI_ne_m1, m1_ne_nI, m1_lt_nI, m1_le_nI, nI_lt_m1, nI_le_m1, nI_clamp, ax_in_nI, nI_shl, nI_shr, lg_cmp0, nx_and, nI_eq1, bI_0, bI_1, bf_or, eq_self, or_true, true_or, kdC_0, kdC_1, kdC_2, kdC_3, kdC_4, kdC_5, kdC_6, kdC_7, kdC_8, kdC_9, kdC_10, kdC_11, kdC_12, kdC_13, kdC_14, kdC_15, kdC_16, kdU_1, kdU_2, kdU_3, kdU_4, kdU_5, kdU_6, kdU_7, kdU_, kdR_1, kdR_2, kdR_3, kdR_4, kdR_5, kdR_, rC_00, rC_01, rC_02, rC_03, rC_04, rC_10, rC_16, rC_18, rC_19, rC_1a, rC_20, rC_22, rC_23, rC_24, rC_25, rC_26, rC_27, rC_28, rC_4, rC_10k, rC_u3, rC_u5, rC_u7, rC_u9, rC_ua, rC_ub, rC_uc, rC_r4, rC_r5, rC_r6, rC_r7, rC_r8, Nat.add_zero, mP_canBeRule_ a4]
    cases ek : okR ps.length x y z with
    | none =>
      simp (disch := omega) only [ax_clr_i, ax_clr_l, ax_clr_r, ax_clr_n, ax_ct_0, ax_ct_i, ax_ct_l, ax_ct_r, va_rf_s, Option.toList_some, Option.toList_none, List.cons_append, List.nil_append, and_true, true_and, and_self, ite_true, ite_false, if_true, if_false, Nat.reduceAdd, Nat.reduceLeDiff, Nat.reduceMul, Nat.reduceLT, Option.isSome_none]
      exact no (by unfold oRul; rw [if_pos (by omega), ek])
    | some v =>
      obtain ⟨k, p, q⟩ := v
      obtain ⟨v1, v2, v3, v4⟩ := okR_v p6 ek
      have eo : oRul ps.length rs x y z = some (k, p, q) := by unfold oRul; rw [if_pos (by omega), ek]
      rw [eo] at hQ
      dsimp only at hQ
      subst v1 v2 v3
      simp (disch := omega) only [sP_rule_21, sP_rule_22, sP_rule_25, sP_rule_26, sP_rule_29, sP_rule_30, sP_rule_31, sP_rule_32, sP_rule_33, sK_become_0, sK_become_1, sK_become_2, sK_become_5, sK_become_6, sK_become_7, sK_become_10, sK_become_11, sK_become_12, sK_become_15, ax_clr_i, ax_clr_l, ax_clr_r, ax_clr_n, ax_ct_0, ax_ct_i, ax_ct_l, ax_ct_r, va_rf_s, Option.toList_some, Option.toList_none, List.cons_append, List.nil_append, and_true, true_and, and_self, ite_true, ite_false, if_true, if_false, Nat.reduceAdd, Nat.reduceLeDiff, Nat.reduceMul, Nat.reduceLT, nI_add, pk_mul, nI_lt', nI_le', nI_eq', nI_lt0, nI_ge0, nI_eq0, nI_gt0, nI_le0, nI_ne_m1, m1_ne_nI, m1_lt_nI, m1_le_nI, nI_lt_m1, nI_le_m1, nI_clamp, ax_in_nI, nI_shl, nI_shr, lg_cmp0, nx_and, nI_eq1, bI_0, bI_1, bf_or, eq_self, or_true, true_or, lt_T, le_T, lt_F, le_F, eq_F, eq_T, kdC_0, kdC_1, kdC_2, kdC_3, kdC_4, kdC_5, kdC_6, kdC_7, kdC_8, kdC_9, kdC_10, kdC_11, kdC_12, kdC_13, kdC_14, kdC_15, kdC_16, kdU_1, kdU_2, kdU_3, kdU_4, kdU_5, kdU_6, kdU_7, kdU_, kdR_1, kdR_2, kdR_3, kdR_4, kdR_5, kdR_, rC_00, rC_01, rC_02, rC_03, rC_04, rC_10, rC_16, rC_18, rC_19, rC_1a, rC_20, rC_22, rC_23, rC_24, rC_25, rC_26, rC_27, rC_28, rC_4, rC_10k, rC_u3, rC_u5, rC_u7, rC_u9, rC_ua, rC_ub, rC_uc, rC_r4, rC_r5, rC_r6, rC_r7, rC_r8, Nat.add_zero, hr, n1, Option.isSome_some, Bool.true_eq_false]
      have g1 : ∀ a j, ¬ (a = 121 + 6 * rs.length ∧ j < 3) → (ax_upI (ax_upI (ax_upI h (121 + 6 * rs.length) 0 (nI k)) (121 + 6 * rs.length) 1 (nI p)) (121 + 6 * rs.length) 2 (nI q)).1 a j = h.1 a j := fun a j w => by rw [up_I, if_neg (by omega), up_I, if_neg (by omega), up_I, if_neg (by omega)]
      have g2 : (ax_upI (ax_upI (ax_upI h (121 + 6 * rs.length) 0 (nI k)) (121 + 6 * rs.length) 1 (nI p)) (121 + 6 * rs.length) 2 (nI q)).2 = h.2 := rfl
      have g3 : (ax_upI (ax_upI (ax_upI h (121 + 6 * rs.length) 0 (nI k)) (121 + 6 * rs.length) 1 (nI p)) (121 + 6 * rs.length) 2 (nI q)).1 (121 + 6 * rs.length) 0 = nI k := by simp [up_I]
      have g4 : (ax_upI (ax_upI (ax_upI h (121 + 6 * rs.length) 0 (nI k)) (121 + 6 * rs.length) 1 (nI p)) (121 + 6 * rs.length) 2 (nI q)).1 (121 + 6 * rs.length) 1 = nI p := by simp [up_I]
      have g5 : (ax_upI (ax_upI (ax_upI h (121 + 6 * rs.length) 0 (nI k)) (121 + 6 * rs.length) 1 (nI p)) (121 + 6 * rs.length) 2 (nI q)).1 (121 + 6 * rs.length) 2 = nI q := by simp [up_I]
      generalize ax_upI (ax_upI (ax_upI h (121 + 6 * rs.length) 0 (nI k)) (121 + 6 * rs.length) 1 (nI p)) (121 + 6 * rs.length) 2 (nI q) = h1 at g1 g2 g3 g4 g5 ⊢
      have n1' : h1.1 0 6 = nI rs.length := by rw [g1 _ _ (by omega)]; exact n1
      simp (disch := omega) only [sP_rule_36, sP_rule_37, sP_rule_37r, sP_rule_38, sP_rule_41, sP_rule_42, sP_rule_43, sP_rule_46, sP_rule_47, sP_rule_50, sP_rule_51, sP_rule_52, ax_clr_i, ax_clr_l, ax_clr_r, ax_clr_n, ax_ct_0, ax_ct_i, ax_ct_l, ax_ct_r, va_rf_s, Option.toList_some, Option.toList_none, List.cons_append, List.nil_append, and_true, true_and, and_self, ite_true, ite_false, if_true, if_false, Nat.reduceAdd, Nat.reduceLeDiff, Nat.reduceMul, Nat.reduceLT, nI_add, pk_mul, nI_lt', nI_le', nI_eq', nI_lt0, nI_ge0, nI_eq0, nI_gt0, nI_le0, nI_ne_m1, m1_ne_nI, m1_lt_nI, m1_le_nI, nI_lt_m1, nI_le_m1, nI_clamp, ax_in_nI, nI_shl, nI_shr, lg_cmp0, nx_and, nI_eq1, bI_0, bI_1, bf_or, eq_self, or_true, true_or, lt_T, le_T, lt_F, le_F, eq_F, eq_T, kdC_0, kdC_1, kdC_2, kdC_3, kdC_4, kdC_5, kdC_6, kdC_7, kdC_8, kdC_9, kdC_10, kdC_11, kdC_12, kdC_13, kdC_14, kdC_15, kdC_16, kdU_1, kdU_2, kdU_3, kdU_4, kdU_5, kdU_6, kdU_7, kdU_, kdR_1, kdR_2, kdR_3, kdR_4, kdR_5, kdR_, rC_00, rC_01, rC_02, rC_03, rC_04, rC_10, rC_16, rC_18, rC_19, rC_1a, rC_20, rC_22, rC_23, rC_24, rC_25, rC_26, rC_27, rC_28, rC_4, rC_10k, rC_u3, rC_u5, rC_u7, rC_u9, rC_ua, rC_ub, rC_uc, rC_r4, rC_r5, rC_r6, rC_r7, rC_r8, Nat.add_zero, n1', up_at, pk_sub, Nat.add_sub_cancel]
      have g6 : ∀ a j, ¬ (a = 121 + 6 * rs.length ∧ j < 3) → ¬ (a = 0 ∧ j = 6) → (ax_upI h1 0 6 (nI (rs.length + 1))).1 a j = h.1 a j := fun a j w1 w2 => by rw [up_I, if_neg w2, g1 a j w1]
      have g7 : ∀ a j, ¬ (a = 0 ∧ j = 6) → (ax_upI h1 0 6 (nI (rs.length + 1))).1 a j = h1.1 a j := fun a j w2 => by rw [up_I, if_neg w2]
      refine hQ _ (hs0.kp (by rw [up_I2, g2]) (fun a j w1 w2 => g6 a j (by omega) (by omega)) (fun a j _ _ => by rw [up_I2, g2]) ⟨by rw [g6 _ _ (by omega) (by omega)]; exact a4.1, a4.2.1, fun p w => by rw [up_I2, g2]; exact a4.2.2.1 p w, by rw [up_I2, g2]; exact a4.2.2.2.1, a4.2.2.2.2⟩ ⟨by rw [up_at]; simp, by simp; omega, fun r w => ?_, fun r w1 w2 => ?_⟩)
      · simp only [List.length_append, List.length_cons, List.length_nil] at w
        rw [rA_app (by omega)]
        by_cases er : r = rs.length
        · subst er
          rw [if_pos rfl]
          exact ⟨by rw [g7 _ _ (by omega)]; exact g3, by rw [g7 _ _ (by omega)]; exact g4, by rw [g7 _ _ (by omega)]; exact g5, ⟨by rw [g6 _ _ (by omega) (by omega)]; exact n4 _ (by omega) (by omega), fun i hi => by simp at hi⟩, v4⟩
        · rw [if_neg er]
          obtain ⟨c1, c2, c3, c4, c5⟩ := n3 r (by omega)
          refine ⟨by rw [g6 _ _ (by omega) (by omega)]; exact c1, by rw [g6 _ _ (by omega) (by omega)]; exact c2, by rw [g6 _ _ (by omega) (by omega)]; exact c3, ⟨by rw [g6 _ _ (by omega) (by omega)]; exact c4.1, fun i hi => ?_⟩, c5⟩
          rw [g6 _ _ (by omega) (by omega), g6 _ _ (by omega) (by omega), up_I2, g2]
          exact c4.2 i hi
      · simp only [List.length_append, List.length_cons, List.length_nil] at w1
        rw [g6 _ _ (by omega) (by omega)]
        exact n4 r (by omega) w2
theorem stC.ck {h : ax_H} {o : Nat → Nat} {s : Nat} {x : Option Nat} {us ps : List (List Nat)} {ty : List Nat} {rs : List rl4} (a1 : usC o s x h us) (a2 : lkC h us) (a4 : patC h ps ty) (a5 : rulC h ps.length rs) {r : Nat} (hr : r < rs.length) : ckC o s x h us ps ty r (rA rs r) := ⟨a1, a2, a4, a5.2.2.1 r hr⟩
theorem mP_violations_ {h : ax_H} (hs : stC h b us ps ty rs) (x : Int32) (hQ : ∀ h', stC h' b us ps ty rs → Q (some (.int (aVls us ps rs x))) h') : ax_wp kC (d + 20) mP_violations 0 [some (.ref 0), some (.int x)] [] h Q := by
  have hs0 := hs
  obtain ⟨o, s, xx, a1, a2, a3, a4, a5⟩ := hs
  have hr := a1.1
  have r6 := a5.2.1
  unfold aVls at hQ
  simp (disch := omega) only [sP_violations_0, sP_violations_1, sP_violations_2, ax_clr_i, ax_clr_l, ax_clr_r, ax_clr_n, ax_ct_0, ax_ct_i, ax_ct_l, ax_ct_r, va_rf_s, Option.toList_some, Option.toList_none, List.cons_append, List.nil_append, and_true, true_and, and_self, ite_true, ite_false, if_true, if_false, Nat.reduceAdd, Nat.reduceLeDiff, Nat.reduceMul, Nat.reduceLT, kdC_0, kdC_1, kdC_2, kdC_3, kdC_4, kdC_5, kdC_6, kdC_7, kdC_8, kdC_9, kdC_10, kdC_11, kdC_12, kdC_13, kdC_14, kdC_15, kdC_16, kdU_1, kdU_2, kdU_3, kdU_4, kdU_5, kdU_6, kdU_7, kdU_, kdR_1, kdR_2, kdR_3, kdR_4, kdR_5, kdR_, rC_00, rC_01, rC_02, rC_03, rC_04, rC_10, rC_16, rC_18, rC_19, rC_1a, rC_20, rC_22, rC_23, rC_24, rC_25, rC_26, rC_27, rC_28, rC_4, rC_10k, rC_u3, rC_u5, rC_u7, rC_u9, rC_ua, rC_ub, rC_uc, rC_r4, rC_r5, rC_r6, rC_r7, rC_r8, Nat.add_zero, mP_isRule_ a5]
  cases e : ixN x rs.length with
  | none =>
    rw [e] at hQ
    simp (disch := omega) only [sP_violations_5, sP_violations_21, sP_violations_22, ax_clr_i, ax_clr_l, ax_clr_r, ax_clr_n, ax_ct_0, ax_ct_i, ax_ct_l, ax_ct_r, va_rf_s, Option.toList_some, Option.toList_none, List.cons_append, List.nil_append, and_true, true_and, and_self, ite_true, ite_false, if_true, if_false, Nat.reduceAdd, Nat.reduceLeDiff, Nat.reduceMul, Nat.reduceLT, nI_add, pk_mul, nI_lt', nI_le', nI_eq', nI_lt0, nI_ge0, nI_eq0, nI_gt0, nI_le0, nI_ne_m1, m1_ne_nI, m1_lt_nI, m1_le_nI, nI_lt_m1, nI_le_m1, nI_clamp, ax_in_nI, nI_shl, nI_shr, lg_cmp0, nx_and, nI_eq1, bI_0, bI_1, bf_or, eq_self, or_true, true_or, Option.isSome_none]
    exact hQ h hs0
  | some r =>
    obtain ⟨l1, rfl⟩ := ixN_some (by omega) e
    rw [e] at hQ
    simp (disch := omega) only [sP_violations_5, sP_violations_8, sP_violations_9, sP_violations_10, sP_violations_13, sP_violations_14, sP_violations_15, ax_clr_i, ax_clr_l, ax_clr_r, ax_clr_n, ax_ct_0, ax_ct_i, ax_ct_l, ax_ct_r, va_rf_s, Option.toList_some, Option.toList_none, List.cons_append, List.nil_append, and_true, true_and, and_self, ite_true, ite_false, if_true, if_false, Nat.reduceAdd, Nat.reduceLeDiff, Nat.reduceMul, Nat.reduceLT, nI_add, pk_mul, nI_lt', nI_le', nI_eq', nI_lt0, nI_ge0, nI_eq0, nI_gt0, nI_le0, nI_ne_m1, m1_ne_nI, m1_lt_nI, m1_le_nI, nI_lt_m1, nI_le_m1, nI_clamp, ax_in_nI, nI_shl, nI_shr, lg_cmp0, nx_and, nI_eq1, bI_0, bI_1, bf_or, eq_self, or_true, true_or, lt_T, le_T, lt_F, le_F, eq_F, eq_T, kdC_0, kdC_1, kdC_2, kdC_3, kdC_4, kdC_5, kdC_6, kdC_7, kdC_8, kdC_9, kdC_10, kdC_11, kdC_12, kdC_13, kdC_14, kdC_15, kdC_16, kdU_1, kdU_2, kdU_3, kdU_4, kdU_5, kdU_6, kdU_7, kdU_, kdR_1, kdR_2, kdR_3, kdR_4, kdR_5, kdR_, rC_00, rC_01, rC_02, rC_03, rC_04, rC_10, rC_16, rC_18, rC_19, rC_1a, rC_20, rC_22, rC_23, rC_24, rC_25, rC_26, rC_27, rC_28, rC_4, rC_10k, rC_u3, rC_u5, rC_u7, rC_u9, rC_ua, rC_ub, rC_uc, rC_r4, rC_r5, rC_r6, rC_r7, rC_r8, Nat.add_zero, hr, Option.isSome_some, Bool.true_eq_false]
    refine mP_findNew_ r (by omega) (rA rs r) (stC.ck a1 a2 a4 a5 l1) (fun h1 f1 w1 => ?_)
    simp (disch := omega) only [sP_violations_18, sP_violations_22, ax_clr_i, ax_clr_l, ax_clr_r, ax_clr_n, ax_ct_0, ax_ct_i, ax_ct_l, ax_ct_r, va_rf_s, Option.toList_some, Option.toList_none, List.cons_append, List.nil_append, and_true, true_and, and_self, ite_true, ite_false, if_true, if_false, Nat.reduceAdd, Nat.reduceLeDiff, Nat.reduceMul, Nat.reduceLT]
    exact hQ h1 (hs0.q f1)
theorem frU_lenC (hk : ∀ c, c < us.length → okU (uAt us c)) (h12 : us.length ≤ 12) (y : rl4) : (frU us ps y).length ≤ 624 := by
  unfold frU
  by_cases e : y.1 = 3
  · rw [if_pos e]
    have := cyF_len (clN (wS us y.2.1 us.length) 12) 12 0 []
    unfold cyL
    simp only [List.length_nil] at this
    omega
  · rw [if_neg e]
    have g := (gC_v us ps y hk us.length 0 (by omega)).1
    have l := rnF_len us y.2.2.2 (gaU us ps y) 0
    unfold gaU at l ⊢
    omega
theorem mP_violation_ {h : ax_H} (hs : stC h b us ps ty rs) (x y : Int32) (hQ : ∀ h', stC h' b us ps ty rs → Q (some (.int (aVio us ps rs x y))) h') : ax_wp kC (d + 20) mP_violation 0 [some (.ref 0), some (.int x), some (.int y), none] [] h Q := by
  have hs0 := hs
  obtain ⟨o, s, xx, a1, a2, a3, a4, a5⟩ := hs
  have hr := a1.1
  have r6 := a5.2.1
  have fl := fun y => frU_lenC (ps := ps) (fun c hc => (a1.2.2.2.1 c hc).2) a1.2.2.1 y
  unfold aVio at hQ
  simp (disch := omega) only [sP_violation_0, sP_violation_1, sP_violation_2, ax_clr_i, ax_clr_l, ax_clr_r, ax_clr_n, ax_ct_0, ax_ct_i, ax_ct_l, ax_ct_r, va_rf_s, Option.toList_some, Option.toList_none, List.cons_append, List.nil_append, and_true, true_and, and_self, ite_true, ite_false, if_true, if_false, Nat.reduceAdd, Nat.reduceLeDiff, Nat.reduceMul, Nat.reduceLT, kdC_0, kdC_1, kdC_2, kdC_3, kdC_4, kdC_5, kdC_6, kdC_7, kdC_8, kdC_9, kdC_10, kdC_11, kdC_12, kdC_13, kdC_14, kdC_15, kdC_16, kdU_1, kdU_2, kdU_3, kdU_4, kdU_5, kdU_6, kdU_7, kdU_, kdR_1, kdR_2, kdR_3, kdR_4, kdR_5, kdR_, rC_00, rC_01, rC_02, rC_03, rC_04, rC_10, rC_16, rC_18, rC_19, rC_1a, rC_20, rC_22, rC_23, rC_24, rC_25, rC_26, rC_27, rC_28, rC_4, rC_10k, rC_u3, rC_u5, rC_u7, rC_u9, rC_ua, rC_ub, rC_uc, rC_r4, rC_r5, rC_r6, rC_r7, rC_r8, Nat.add_zero, mP_isRule_ a5]
  cases e : ixN x rs.length with
  | none =>
    rw [e] at hQ
    simp (disch := omega) only [sP_violation_5, sP_violation_8, sP_violation_9, ax_clr_i, ax_clr_l, ax_clr_r, ax_clr_n, ax_ct_0, ax_ct_i, ax_ct_l, ax_ct_r, va_rf_s, Option.toList_some, Option.toList_none, List.cons_append, List.nil_append, and_true, true_and, and_self, ite_true, ite_false, if_true, if_false, Nat.reduceAdd, Nat.reduceLeDiff, Nat.reduceMul, Nat.reduceLT, nI_add, pk_mul, nI_lt', nI_le', nI_eq', nI_lt0, nI_ge0, nI_eq0, nI_gt0, nI_le0, nI_ne_m1, m1_ne_nI, m1_lt_nI, m1_le_nI, nI_lt_m1, nI_le_m1, nI_clamp, ax_in_nI, nI_shl, nI_shr, lg_cmp0, nx_and, nI_eq1, bI_0, bI_1, bf_or, eq_self, or_true, true_or, Option.isSome_none]
    exact hQ h hs0
  | some r =>
    obtain ⟨l1, rfl⟩ := ixN_some (by omega) e
    rw [e] at hQ
    dsimp only at hQ
    simp (disch := omega) only [sP_violation_5, sP_violation_10, sP_violation_11, sP_violation_12, sP_violation_15, sP_violation_16, sP_violation_17, ax_clr_i, ax_clr_l, ax_clr_r, ax_clr_n, ax_ct_0, ax_ct_i, ax_ct_l, ax_ct_r, va_rf_s, Option.toList_some, Option.toList_none, List.cons_append, List.nil_append, and_true, true_and, and_self, ite_true, ite_false, if_true, if_false, Nat.reduceAdd, Nat.reduceLeDiff, Nat.reduceMul, Nat.reduceLT, nI_add, pk_mul, nI_lt', nI_le', nI_eq', nI_lt0, nI_ge0, nI_eq0, nI_gt0, nI_le0, nI_ne_m1, m1_ne_nI, m1_lt_nI, m1_le_nI, nI_lt_m1, nI_le_m1, nI_clamp, ax_in_nI, nI_shl, nI_shr, lg_cmp0, nx_and, nI_eq1, bI_0, bI_1, bf_or, eq_self, or_true, true_or, lt_T, le_T, lt_F, le_F, eq_F, eq_T, kdC_0, kdC_1, kdC_2, kdC_3, kdC_4, kdC_5, kdC_6, kdC_7, kdC_8, kdC_9, kdC_10, kdC_11, kdC_12, kdC_13, kdC_14, kdC_15, kdC_16, kdU_1, kdU_2, kdU_3, kdU_4, kdU_5, kdU_6, kdU_7, kdU_, kdR_1, kdR_2, kdR_3, kdR_4, kdR_5, kdR_, rC_00, rC_01, rC_02, rC_03, rC_04, rC_10, rC_16, rC_18, rC_19, rC_1a, rC_20, rC_22, rC_23, rC_24, rC_25, rC_26, rC_27, rC_28, rC_4, rC_10k, rC_u3, rC_u5, rC_u7, rC_u9, rC_ua, rC_ub, rC_uc, rC_r4, rC_r5, rC_r6, rC_r7, rC_r8, Nat.add_zero, hr, Option.isSome_some, Bool.true_eq_false]
    refine mP_findNew_ r (by omega) (rA rs r) (stC.ck a1 a2 a4 a5 l1) (fun h1 f1 w1 => ?_)
    have fl1 := fl (rA rs r)
    have hQ2 := hQ h1 (hs0.q f1)
    have hr1 := (a1.q f1).1
    simp (disch := omega) only [sP_violation_20, sP_violation_21, sP_violation_22, ax_clr_i, ax_clr_l, ax_clr_r, ax_clr_n, ax_ct_0, ax_ct_i, ax_ct_l, ax_ct_r, va_rf_s, Option.toList_some, Option.toList_none, List.cons_append, List.nil_append, and_true, true_and, and_self, ite_true, ite_false, if_true, if_false, Nat.reduceAdd, Nat.reduceLeDiff, Nat.reduceMul, Nat.reduceLT]
    cases e2 : ixN y (frU us ps (rA rs r)).length with
    | none =>
      rw [e2] at hQ2
      have n := ixN_none e2
      by_cases e0 : y < 0
      · rw [if_pos e0]
        simp (disch := omega) only [sP_violation_39, sP_violation_40, ax_clr_i, ax_clr_l, ax_clr_r, ax_clr_n, ax_ct_0, ax_ct_i, ax_ct_l, ax_ct_r, va_rf_s, Option.toList_some, Option.toList_none, List.cons_append, List.nil_append, and_true, true_and, and_self, ite_true, ite_false, if_true, if_false, Nat.reduceAdd, Nat.reduceLeDiff, Nat.reduceMul, Nat.reduceLT]
        exact hQ2
      · rw [if_neg e0]
        simp (disch := omega) only [sP_violation_25, sP_violation_26, sP_violation_27, ax_clr_i, ax_clr_l, ax_clr_r, ax_clr_n, ax_ct_0, ax_ct_i, ax_ct_l, ax_ct_r, va_rf_s, Option.toList_some, Option.toList_none, List.cons_append, List.nil_append, and_true, true_and, and_self, ite_true, ite_false, if_true, if_false, Nat.reduceAdd, Nat.reduceLeDiff, Nat.reduceMul, Nat.reduceLT]
        rw [if_pos (lt_not n e0)]
        simp (disch := omega) only [sP_violation_39, sP_violation_40, ax_clr_i, ax_clr_l, ax_clr_r, ax_clr_n, ax_ct_0, ax_ct_i, ax_ct_l, ax_ct_r, va_rf_s, Option.toList_some, Option.toList_none, List.cons_append, List.nil_append, and_true, true_and, and_self, ite_true, ite_false, if_true, if_false, Nat.reduceAdd, Nat.reduceLeDiff, Nat.reduceMul, Nat.reduceLT]
        exact hQ2
    | some i =>
      obtain ⟨l2, rfl⟩ := ixN_some (by omega) e2
      rw [e2] at hQ2
      have wi := w1 i l2
      simp (disch := omega) only [sP_violation_25, sP_violation_26, sP_violation_27, sP_violation_30, sP_violation_31, sP_violation_34, sP_violation_35, sP_violation_36, sP_violation_39, sP_violation_40, ax_clr_i, ax_clr_l, ax_clr_r, ax_clr_n, ax_ct_0, ax_ct_i, ax_ct_l, ax_ct_r, va_rf_s, Option.toList_some, Option.toList_none, List.cons_append, List.nil_append, and_true, true_and, and_self, ite_true, ite_false, if_true, if_false, Nat.reduceAdd, Nat.reduceLeDiff, Nat.reduceMul, Nat.reduceLT, nI_add, pk_mul, nI_lt', nI_le', nI_eq', nI_lt0, nI_ge0, nI_eq0, nI_gt0, nI_le0, nI_ne_m1, m1_ne_nI, m1_lt_nI, m1_le_nI, nI_lt_m1, nI_le_m1, nI_clamp, ax_in_nI, nI_shl, nI_shr, lg_cmp0, nx_and, nI_eq1, bI_0, bI_1, bf_or, eq_self, or_true, true_or, lt_T, le_T, lt_F, le_F, eq_F, eq_T, kdC_0, kdC_1, kdC_2, kdC_3, kdC_4, kdC_5, kdC_6, kdC_7, kdC_8, kdC_9, kdC_10, kdC_11, kdC_12, kdC_13, kdC_14, kdC_15, kdC_16, kdU_1, kdU_2, kdU_3, kdU_4, kdU_5, kdU_6, kdU_7, kdU_, kdR_1, kdR_2, kdR_3, kdR_4, kdR_5, kdR_, rC_00, rC_01, rC_02, rC_03, rC_04, rC_10, rC_16, rC_18, rC_19, rC_1a, rC_20, rC_22, rC_23, rC_24, rC_25, rC_26, rC_27, rC_28, rC_4, rC_10k, rC_u3, rC_u5, rC_u7, rC_u9, rC_ua, rC_ub, rC_uc, rC_r4, rC_r5, rC_r6, rC_r7, rC_r8, Nat.add_zero, hr1, wi]
      exact hQ2
theorem mP_name_ {h : ax_H} (hs : stC h b us ps ty rs) (x y : Int32) : ax_wp kC (d + 2) mP_name 0 [some (.ref 0), some (.int x), some (.int y)] [] h Q = Q (some (.int (aName us x y))) h := by
  obtain ⟨o, s, xx, a1, a2, a3, a4, a5⟩ := hs
  have hr := a1.1
  have h12 := a1.2.2.1
  unfold aName
  simp (disch := omega) only [sP_name_0, sP_name_1, sP_name_4, sP_name_5, ax_clr_i, ax_clr_l, ax_clr_r, ax_clr_n, ax_ct_0, ax_ct_i, ax_ct_l, ax_ct_r, va_rf_s, Option.toList_some, Option.toList_none, List.cons_append, List.nil_append, and_true, true_and, and_self, ite_true, ite_false, if_true, if_false, Nat.reduceAdd, Nat.reduceLeDiff, Nat.reduceMul, Nat.reduceLT, kdC_0, kdC_1, kdC_2, kdC_3, kdC_4, kdC_5, kdC_6, kdC_7, kdC_8, kdC_9, kdC_10, kdC_11, kdC_12, kdC_13, kdC_14, kdC_15, kdC_16, kdU_1, kdU_2, kdU_3, kdU_4, kdU_5, kdU_6, kdU_7, kdU_, kdR_1, kdR_2, kdR_3, kdR_4, kdR_5, kdR_, rC_00, rC_01, rC_02, rC_03, rC_04, rC_10, rC_16, rC_18, rC_19, rC_1a, rC_20, rC_22, rC_23, rC_24, rC_25, rC_26, rC_27, rC_28, rC_4, rC_10k, rC_u3, rC_u5, rC_u7, rC_u9, rC_ua, rC_ub, rC_uc, rC_r4, rC_r5, rC_r6, rC_r7, rC_r8, Nat.add_zero, hr, mG_isClass_ a1]
  cases e : ixN x us.length with
  | none =>
    simp (disch := omega) only [sP_name_8, sP_name_34, sP_name_35, ax_clr_i, ax_clr_l, ax_clr_r, ax_clr_n, ax_ct_0, ax_ct_i, ax_ct_l, ax_ct_r, va_rf_s, Option.toList_some, Option.toList_none, List.cons_append, List.nil_append, and_true, true_and, and_self, ite_true, ite_false, if_true, if_false, Nat.reduceAdd, Nat.reduceLeDiff, Nat.reduceMul, Nat.reduceLT, nI_add, pk_mul, nI_lt', nI_le', nI_eq', nI_lt0, nI_ge0, nI_eq0, nI_gt0, nI_le0, nI_ne_m1, m1_ne_nI, m1_lt_nI, m1_le_nI, nI_lt_m1, nI_le_m1, nI_clamp, ax_in_nI, nI_shl, nI_shr, lg_cmp0, nx_and, nI_eq1, bI_0, bI_1, bf_or, eq_self, or_true, true_or, Option.isSome_none]
  | some c =>
    obtain ⟨l1, rfl⟩ := ixN_some (by omega) e
    dsimp only
    obtain ⟨v1, v2, v3⟩ := a1.own l1
    have ho := a1.2.2.2.2.1 c (by omega)
    have h0 := (a1.2.2.2.1 c l1).1.1
    have l10 := v1.1
    simp (disch := omega) only [sP_name_8, sP_name_11, sP_name_12, ax_clr_i, ax_clr_l, ax_clr_r, ax_clr_n, ax_ct_0, ax_ct_i, ax_ct_l, ax_ct_r, va_rf_s, Option.toList_some, Option.toList_none, List.cons_append, List.nil_append, and_true, true_and, and_self, ite_true, ite_false, if_true, if_false, Nat.reduceAdd, Nat.reduceLeDiff, Nat.reduceMul, Nat.reduceLT, nI_add, pk_mul, nI_lt', nI_le', nI_eq', nI_lt0, nI_ge0, nI_eq0, nI_gt0, nI_le0, nI_ne_m1, m1_ne_nI, m1_lt_nI, m1_le_nI, nI_lt_m1, nI_le_m1, nI_clamp, ax_in_nI, nI_shl, nI_shr, lg_cmp0, nx_and, nI_eq1, bI_0, bI_1, bf_or, eq_self, or_true, true_or, Option.isSome_some, Bool.true_eq_false]
    cases e2 : ixN y (ownU (uAt us c)).length with
    | none =>
      have n := ixN_none e2
      by_cases e0 : y < 0
      · rw [if_pos e0]
        simp (disch := omega) only [sP_name_34, sP_name_35, ax_clr_i, ax_clr_l, ax_clr_r, ax_clr_n, ax_ct_0, ax_ct_i, ax_ct_l, ax_ct_r, va_rf_s, Option.toList_some, Option.toList_none, List.cons_append, List.nil_append, and_true, true_and, and_self, ite_true, ite_false, if_true, if_false, Nat.reduceAdd, Nat.reduceLeDiff, Nat.reduceMul, Nat.reduceLT]
      · rw [if_neg e0]
        simp (disch := omega) only [sP_name_15, sP_name_16, sP_name_17, sP_name_20, sP_name_23, sP_name_24, sP_name_25, sP_name_28, sP_name_31, ax_clr_i, ax_clr_l, ax_clr_r, ax_clr_n, ax_ct_0, ax_ct_i, ax_ct_l, ax_ct_r, va_rf_s, Option.toList_some, Option.toList_none, List.cons_append, List.nil_append, and_true, true_and, and_self, ite_true, ite_false, if_true, if_false, Nat.reduceAdd, Nat.reduceLeDiff, Nat.reduceMul, Nat.reduceLT, nI_add, pk_mul, nI_lt', nI_le', nI_eq', nI_lt0, nI_ge0, nI_eq0, nI_gt0, nI_le0, nI_ne_m1, m1_ne_nI, m1_lt_nI, m1_le_nI, nI_lt_m1, nI_le_m1, nI_clamp, ax_in_nI, nI_shl, nI_shr, lg_cmp0, nx_and, nI_eq1, bI_0, bI_1, bf_or, eq_self, or_true, true_or, lt_T, le_T, lt_F, le_F, eq_F, eq_T, kdC_0, kdC_1, kdC_2, kdC_3, kdC_4, kdC_5, kdC_6, kdC_7, kdC_8, kdC_9, kdC_10, kdC_11, kdC_12, kdC_13, kdC_14, kdC_15, kdC_16, kdU_1, kdU_2, kdU_3, kdU_4, kdU_5, kdU_6, kdU_7, kdU_, kdR_1, kdR_2, kdR_3, kdR_4, kdR_5, kdR_, rC_00, rC_01, rC_02, rC_03, rC_04, rC_10, rC_16, rC_18, rC_19, rC_1a, rC_20, rC_22, rC_23, rC_24, rC_25, rC_26, rC_27, rC_28, rC_4, rC_10k, rC_u3, rC_u5, rC_u7, rC_u9, rC_ua, rC_ub, rC_uc, rC_r4, rC_r5, rC_r6, rC_r7, rC_r8, Nat.add_zero, hr, h0, mT_lengthOf_ _ v1]
        rw [if_neg (Int32.not_lt.mpr (lt_not n e0))]
        simp (disch := omega) only [sP_name_34, sP_name_35, ax_clr_i, ax_clr_l, ax_clr_r, ax_clr_n, ax_ct_0, ax_ct_i, ax_ct_l, ax_ct_r, va_rf_s, Option.toList_some, Option.toList_none, List.cons_append, List.nil_append, and_true, true_and, and_self, ite_true, ite_false, if_true, if_false, Nat.reduceAdd, Nat.reduceLeDiff, Nat.reduceMul, Nat.reduceLT]
    | some j =>
      obtain ⟨l2, rfl⟩ := ixN_some (by omega) e2
      have cj : 1 ≤ (ownU (uAt us c)).getD j 0 ∧ (ownU (uAt us c)).getD j 0 < 64 := by
        rw [List.getD_eq_getElem?_getD, List.getElem?_eq_getElem l2]
        exact v1.2 _ (List.getElem_mem _)
      simp (disch := omega) only [sP_name_15, sP_name_16, sP_name_17, sP_name_20, sP_name_23, sP_name_24, sP_name_25, sP_name_28, sP_name_31, sP_name_34, sP_name_35, sP_name_36, sP_name_37, sP_name_40, sP_name_43, sP_name_44, sP_name_45, sP_name_48, sP_name_49, sP_name_52, sP_name_55, ax_clr_i, ax_clr_l, ax_clr_r, ax_clr_n, ax_ct_0, ax_ct_i, ax_ct_l, ax_ct_r, va_rf_s, Option.toList_some, Option.toList_none, List.cons_append, List.nil_append, and_true, true_and, and_self, ite_true, ite_false, if_true, if_false, Nat.reduceAdd, Nat.reduceLeDiff, Nat.reduceMul, Nat.reduceLT, nI_add, pk_mul, nI_lt', nI_le', nI_eq', nI_lt0, nI_ge0, nI_eq0, nI_gt0, nI_le0, nI_ne_m1, m1_ne_nI, m1_lt_nI, m1_le_nI, nI_lt_m1, nI_le_m1, nI_clamp, ax_in_nI, nI_shl, nI_shr, lg_cmp0, nx_and, nI_eq1, bI_0, bI_1, bf_or, eq_self, or_true, true_or, lt_T, le_T, lt_F, le_F, eq_F, eq_T, kdC_0, kdC_1, kdC_2, kdC_3, kdC_4, kdC_5, kdC_6, kdC_7, kdC_8, kdC_9, kdC_10, kdC_11, kdC_12, kdC_13, kdC_14, kdC_15, kdC_16, kdU_1, kdU_2, kdU_3, kdU_4, kdU_5, kdU_6, kdU_7, kdU_, kdR_1, kdR_2, kdR_3, kdR_4, kdR_5, kdR_, rC_00, rC_01, rC_02, rC_03, rC_04, rC_10, rC_16, rC_18, rC_19, rC_1a, rC_20, rC_22, rC_23, rC_24, rC_25, rC_26, rC_27, rC_28, rC_4, rC_10k, rC_u3, rC_u5, rC_u7, rC_u9, rC_ua, rC_ub, rC_uc, rC_r4, rC_r5, rC_r6, rC_r7, rC_r8, Nat.add_zero, hr, h0, mT_lengthOf_ _ v1, mT_codeAt_ _ j v1 (show j < 10 by omega), mT_characterOf_ _ cj.1 cj.2]
      rfl
theorem mP_occurrences_ {h : ax_H} (hs : stC h b us ps ty rs) (x : Int32) : ax_wp kC (d + 1) mP_occurrences 0 [some (.ref 0), some (.int x)] [] h Q = Q (some (.int (aOcs us x))) h := by
  obtain ⟨o, s, xx, a1, a2, a3, a4, a5⟩ := hs
  have hr := a1.1
  have h12 := a1.2.2.1
  unfold aOcs
  simp (disch := omega) only [sP_occurrences_0, sP_occurrences_1, sP_occurrences_4, sP_occurrences_5, ax_clr_i, ax_clr_l, ax_clr_r, ax_clr_n, ax_ct_0, ax_ct_i, ax_ct_l, ax_ct_r, va_rf_s, Option.toList_some, Option.toList_none, List.cons_append, List.nil_append, and_true, true_and, and_self, ite_true, ite_false, if_true, if_false, Nat.reduceAdd, Nat.reduceLeDiff, Nat.reduceMul, Nat.reduceLT, kdC_0, kdC_1, kdC_2, kdC_3, kdC_4, kdC_5, kdC_6, kdC_7, kdC_8, kdC_9, kdC_10, kdC_11, kdC_12, kdC_13, kdC_14, kdC_15, kdC_16, kdU_1, kdU_2, kdU_3, kdU_4, kdU_5, kdU_6, kdU_7, kdU_, kdR_1, kdR_2, kdR_3, kdR_4, kdR_5, kdR_, rC_00, rC_01, rC_02, rC_03, rC_04, rC_10, rC_16, rC_18, rC_19, rC_1a, rC_20, rC_22, rC_23, rC_24, rC_25, rC_26, rC_27, rC_28, rC_4, rC_10k, rC_u3, rC_u5, rC_u7, rC_u9, rC_ua, rC_ub, rC_uc, rC_r4, rC_r5, rC_r6, rC_r7, rC_r8, Nat.add_zero, hr, mG_isClass_ a1]
  cases e : ixN x us.length with
  | none =>
    simp (disch := omega) only [sP_occurrences_8, sP_occurrences_26, sP_occurrences_27, ax_clr_i, ax_clr_l, ax_clr_r, ax_clr_n, ax_ct_0, ax_ct_i, ax_ct_l, ax_ct_r, va_rf_s, Option.toList_some, Option.toList_none, List.cons_append, List.nil_append, and_true, true_and, and_self, ite_true, ite_false, if_true, if_false, Nat.reduceAdd, Nat.reduceLeDiff, Nat.reduceMul, Nat.reduceLT, nI_add, pk_mul, nI_lt', nI_le', nI_eq', nI_lt0, nI_ge0, nI_eq0, nI_gt0, nI_le0, nI_ne_m1, m1_ne_nI, m1_lt_nI, m1_le_nI, nI_lt_m1, nI_le_m1, nI_clamp, ax_in_nI, nI_shl, nI_shr, lg_cmp0, nx_and, nI_eq1, bI_0, bI_1, bf_or, eq_self, or_true, true_or, Option.isSome_none]
  | some c =>
    obtain ⟨l1, rfl⟩ := ixN_some (by omega) e
    have ho := a1.2.2.2.2.1 c (by omega)
    have h8 := (a1.2.2.2.1 c l1).1.2.2.2.2.2.1
    simp (disch := omega) only [sP_occurrences_8, sP_occurrences_11, sP_occurrences_12, sP_occurrences_15, sP_occurrences_18, sP_occurrences_19, sP_occurrences_20, sP_occurrences_23, sP_occurrences_26, sP_occurrences_27, ax_clr_i, ax_clr_l, ax_clr_r, ax_clr_n, ax_ct_0, ax_ct_i, ax_ct_l, ax_ct_r, va_rf_s, Option.toList_some, Option.toList_none, List.cons_append, List.nil_append, and_true, true_and, and_self, ite_true, ite_false, if_true, if_false, Nat.reduceAdd, Nat.reduceLeDiff, Nat.reduceMul, Nat.reduceLT, nI_add, pk_mul, nI_lt', nI_le', nI_eq', nI_lt0, nI_ge0, nI_eq0, nI_gt0, nI_le0, nI_ne_m1, m1_ne_nI, m1_lt_nI, m1_le_nI, nI_lt_m1, nI_le_m1, nI_clamp, ax_in_nI, nI_shl, nI_shr, lg_cmp0, nx_and, nI_eq1, bI_0, bI_1, bf_or, eq_self, or_true, true_or, lt_T, le_T, lt_F, le_F, eq_F, eq_T, kdC_0, kdC_1, kdC_2, kdC_3, kdC_4, kdC_5, kdC_6, kdC_7, kdC_8, kdC_9, kdC_10, kdC_11, kdC_12, kdC_13, kdC_14, kdC_15, kdC_16, kdU_1, kdU_2, kdU_3, kdU_4, kdU_5, kdU_6, kdU_7, kdU_, kdR_1, kdR_2, kdR_3, kdR_4, kdR_5, kdR_, rC_00, rC_01, rC_02, rC_03, rC_04, rC_10, rC_16, rC_18, rC_19, rC_1a, rC_20, rC_22, rC_23, rC_24, rC_25, rC_26, rC_27, rC_28, rC_4, rC_10k, rC_u3, rC_u5, rC_u7, rC_u9, rC_ua, rC_ub, rC_uc, rC_r4, rC_r5, rC_r6, rC_r7, rC_r8, Nat.add_zero, hr, h8, Option.isSome_some, Bool.true_eq_false]
theorem mP_kind_ {h : ax_H} (hs : stC h b us ps ty rs) (x y : Int32) : ax_wp kC (d + 2) mP_kind 0 [some (.ref 0), some (.int x), some (.int y)] [] h Q = Q (some (.int (aKind us x y))) h := by
  obtain ⟨o, s, xx, a1, a2, a3, a4, a5⟩ := hs
  have hr := a1.1
  have h12 := a1.2.2.1
  unfold aKind
  simp (disch := omega) only [sP_kind_0, sP_kind_1, sP_kind_4, sP_kind_5, sP_kind_6, ax_clr_i, ax_clr_l, ax_clr_r, ax_clr_n, ax_ct_0, ax_ct_i, ax_ct_l, ax_ct_r, va_rf_s, Option.toList_some, Option.toList_none, List.cons_append, List.nil_append, and_true, true_and, and_self, ite_true, ite_false, if_true, if_false, Nat.reduceAdd, Nat.reduceLeDiff, Nat.reduceMul, Nat.reduceLT, kdC_0, kdC_1, kdC_2, kdC_3, kdC_4, kdC_5, kdC_6, kdC_7, kdC_8, kdC_9, kdC_10, kdC_11, kdC_12, kdC_13, kdC_14, kdC_15, kdC_16, kdU_1, kdU_2, kdU_3, kdU_4, kdU_5, kdU_6, kdU_7, kdU_, kdR_1, kdR_2, kdR_3, kdR_4, kdR_5, kdR_, rC_00, rC_01, rC_02, rC_03, rC_04, rC_10, rC_16, rC_18, rC_19, rC_1a, rC_20, rC_22, rC_23, rC_24, rC_25, rC_26, rC_27, rC_28, rC_4, rC_10k, rC_u3, rC_u5, rC_u7, rC_u9, rC_ua, rC_ub, rC_uc, rC_r4, rC_r5, rC_r6, rC_r7, rC_r8, Nat.add_zero, hr, mG_isOccurrence_ a1]
  cases e : oAt us x y with
  | none =>
    simp (disch := omega) only [sP_kind_9, sP_kind_29, sP_kind_30, ax_clr_i, ax_clr_l, ax_clr_r, ax_clr_n, ax_ct_0, ax_ct_i, ax_ct_l, ax_ct_r, va_rf_s, Option.toList_some, Option.toList_none, List.cons_append, List.nil_append, and_true, true_and, and_self, ite_true, ite_false, if_true, if_false, Nat.reduceAdd, Nat.reduceLeDiff, Nat.reduceMul, Nat.reduceLT, nI_add, pk_mul, nI_lt', nI_le', nI_eq', nI_lt0, nI_ge0, nI_eq0, nI_gt0, nI_le0, nI_ne_m1, m1_ne_nI, m1_lt_nI, m1_le_nI, nI_lt_m1, nI_le_m1, nI_clamp, ax_in_nI, nI_shl, nI_shr, lg_cmp0, nx_and, nI_eq1, bI_0, bI_1, bf_or, eq_self, or_true, true_or, Option.isSome_none]
  | some v =>
    obtain ⟨c, i⟩ := v
    obtain ⟨z1, rfl, l1, z2, rfl, l2⟩ := oAt_s h12 (fun c hc => (a1.2.2.2.1 c hc).2) e
    have ho := a1.2.2.2.2.1 c (by omega)
    obtain ⟨w1, w2, w3, w4, w5, w6⟩ := a1.occ l1 l2
    simp (disch := omega) only [sP_kind_9, sP_kind_12, sP_kind_13, sP_kind_16, sP_kind_19, sP_kind_20, sP_kind_21, sP_kind_24, sP_kind_25, sP_kind_26, sP_kind_29, sP_kind_30, ax_clr_i, ax_clr_l, ax_clr_r, ax_clr_n, ax_ct_0, ax_ct_i, ax_ct_l, ax_ct_r, va_rf_s, Option.toList_some, Option.toList_none, List.cons_append, List.nil_append, and_true, true_and, and_self, ite_true, ite_false, if_true, if_false, Nat.reduceAdd, Nat.reduceLeDiff, Nat.reduceMul, Nat.reduceLT, nI_add, pk_mul, nI_lt', nI_le', nI_eq', nI_lt0, nI_ge0, nI_eq0, nI_gt0, nI_le0, nI_ne_m1, m1_ne_nI, m1_lt_nI, m1_le_nI, nI_lt_m1, nI_le_m1, nI_clamp, ax_in_nI, nI_shl, nI_shr, lg_cmp0, nx_and, nI_eq1, bI_0, bI_1, bf_or, eq_self, or_true, true_or, lt_T, le_T, lt_F, le_F, eq_F, eq_T, kdC_0, kdC_1, kdC_2, kdC_3, kdC_4, kdC_5, kdC_6, kdC_7, kdC_8, kdC_9, kdC_10, kdC_11, kdC_12, kdC_13, kdC_14, kdC_15, kdC_16, kdU_1, kdU_2, kdU_3, kdU_4, kdU_5, kdU_6, kdU_7, kdU_, kdR_1, kdR_2, kdR_3, kdR_4, kdR_5, kdR_, rC_00, rC_01, rC_02, rC_03, rC_04, rC_10, rC_16, rC_18, rC_19, rC_1a, rC_20, rC_22, rC_23, rC_24, rC_25, rC_26, rC_27, rC_28, rC_4, rC_10k, rC_u3, rC_u5, rC_u7, rC_u9, rC_ua, rC_ub, rC_uc, rC_r4, rC_r5, rC_r6, rC_r7, rC_r8, Nat.add_zero, hr, w1, Option.isSome_some, Bool.true_eq_false]
theorem mP_line_ {h : ax_H} (hs : stC h b us ps ty rs) (x y : Int32) : ax_wp kC (d + 2) mP_line 0 [some (.ref 0), some (.int x), some (.int y)] [] h Q = Q (some (.int (aLine us x y))) h := by
  obtain ⟨o, s, xx, a1, a2, a3, a4, a5⟩ := hs
  have hr := a1.1
  have h12 := a1.2.2.1
  unfold aLine
  simp (disch := omega) only [sP_line_0, sP_line_1, sP_line_4, sP_line_5, sP_line_6, ax_clr_i, ax_clr_l, ax_clr_r, ax_clr_n, ax_ct_0, ax_ct_i, ax_ct_l, ax_ct_r, va_rf_s, Option.toList_some, Option.toList_none, List.cons_append, List.nil_append, and_true, true_and, and_self, ite_true, ite_false, if_true, if_false, Nat.reduceAdd, Nat.reduceLeDiff, Nat.reduceMul, Nat.reduceLT, kdC_0, kdC_1, kdC_2, kdC_3, kdC_4, kdC_5, kdC_6, kdC_7, kdC_8, kdC_9, kdC_10, kdC_11, kdC_12, kdC_13, kdC_14, kdC_15, kdC_16, kdU_1, kdU_2, kdU_3, kdU_4, kdU_5, kdU_6, kdU_7, kdU_, kdR_1, kdR_2, kdR_3, kdR_4, kdR_5, kdR_, rC_00, rC_01, rC_02, rC_03, rC_04, rC_10, rC_16, rC_18, rC_19, rC_1a, rC_20, rC_22, rC_23, rC_24, rC_25, rC_26, rC_27, rC_28, rC_4, rC_10k, rC_u3, rC_u5, rC_u7, rC_u9, rC_ua, rC_ub, rC_uc, rC_r4, rC_r5, rC_r6, rC_r7, rC_r8, Nat.add_zero, hr, mG_isOccurrence_ a1]
  cases e : oAt us x y with
  | none =>
    simp (disch := omega) only [sP_line_9, sP_line_29, sP_line_30, ax_clr_i, ax_clr_l, ax_clr_r, ax_clr_n, ax_ct_0, ax_ct_i, ax_ct_l, ax_ct_r, va_rf_s, Option.toList_some, Option.toList_none, List.cons_append, List.nil_append, and_true, true_and, and_self, ite_true, ite_false, if_true, if_false, Nat.reduceAdd, Nat.reduceLeDiff, Nat.reduceMul, Nat.reduceLT, nI_add, pk_mul, nI_lt', nI_le', nI_eq', nI_lt0, nI_ge0, nI_eq0, nI_gt0, nI_le0, nI_ne_m1, m1_ne_nI, m1_lt_nI, m1_le_nI, nI_lt_m1, nI_le_m1, nI_clamp, ax_in_nI, nI_shl, nI_shr, lg_cmp0, nx_and, nI_eq1, bI_0, bI_1, bf_or, eq_self, or_true, true_or, Option.isSome_none]
  | some v =>
    obtain ⟨c, i⟩ := v
    obtain ⟨z1, rfl, l1, z2, rfl, l2⟩ := oAt_s h12 (fun c hc => (a1.2.2.2.1 c hc).2) e
    have ho := a1.2.2.2.2.1 c (by omega)
    obtain ⟨w1, w2, w3, w4, w5, w6⟩ := a1.occ l1 l2
    simp (disch := omega) only [sP_line_9, sP_line_12, sP_line_13, sP_line_16, sP_line_19, sP_line_20, sP_line_21, sP_line_24, sP_line_25, sP_line_26, sP_line_29, sP_line_30, ax_clr_i, ax_clr_l, ax_clr_r, ax_clr_n, ax_ct_0, ax_ct_i, ax_ct_l, ax_ct_r, va_rf_s, Option.toList_some, Option.toList_none, List.cons_append, List.nil_append, and_true, true_and, and_self, ite_true, ite_false, if_true, if_false, Nat.reduceAdd, Nat.reduceLeDiff, Nat.reduceMul, Nat.reduceLT, nI_add, pk_mul, nI_lt', nI_le', nI_eq', nI_lt0, nI_ge0, nI_eq0, nI_gt0, nI_le0, nI_ne_m1, m1_ne_nI, m1_lt_nI, m1_le_nI, nI_lt_m1, nI_le_m1, nI_clamp, ax_in_nI, nI_shl, nI_shr, lg_cmp0, nx_and, nI_eq1, bI_0, bI_1, bf_or, eq_self, or_true, true_or, lt_T, le_T, lt_F, le_F, eq_F, eq_T, kdC_0, kdC_1, kdC_2, kdC_3, kdC_4, kdC_5, kdC_6, kdC_7, kdC_8, kdC_9, kdC_10, kdC_11, kdC_12, kdC_13, kdC_14, kdC_15, kdC_16, kdU_1, kdU_2, kdU_3, kdU_4, kdU_5, kdU_6, kdU_7, kdU_, kdR_1, kdR_2, kdR_3, kdR_4, kdR_5, kdR_, rC_00, rC_01, rC_02, rC_03, rC_04, rC_10, rC_16, rC_18, rC_19, rC_1a, rC_20, rC_22, rC_23, rC_24, rC_25, rC_26, rC_27, rC_28, rC_4, rC_10k, rC_u3, rC_u5, rC_u7, rC_u9, rC_ua, rC_ub, rC_uc, rC_r4, rC_r5, rC_r6, rC_r7, rC_r8, Nat.add_zero, hr, w2, Option.isSome_some, Bool.true_eq_false]
theorem mP_named_ {h : ax_H} (hs : stC h b us ps ty rs) (x y : Int32) : ax_wp kC (d + 2) mP_named 0 [some (.ref 0), some (.int x), some (.int y)] [] h Q = Q (some (.int (aNamd us x y))) h := by
  obtain ⟨o, s, xx, a1, a2, a3, a4, a5⟩ := hs
  have hr := a1.1
  have h12 := a1.2.2.1
  unfold aNamd
  simp (disch := omega) only [sP_named_0, sP_named_1, sP_named_4, sP_named_5, sP_named_6, ax_clr_i, ax_clr_l, ax_clr_r, ax_clr_n, ax_ct_0, ax_ct_i, ax_ct_l, ax_ct_r, va_rf_s, Option.toList_some, Option.toList_none, List.cons_append, List.nil_append, and_true, true_and, and_self, ite_true, ite_false, if_true, if_false, Nat.reduceAdd, Nat.reduceLeDiff, Nat.reduceMul, Nat.reduceLT, kdC_0, kdC_1, kdC_2, kdC_3, kdC_4, kdC_5, kdC_6, kdC_7, kdC_8, kdC_9, kdC_10, kdC_11, kdC_12, kdC_13, kdC_14, kdC_15, kdC_16, kdU_1, kdU_2, kdU_3, kdU_4, kdU_5, kdU_6, kdU_7, kdU_, kdR_1, kdR_2, kdR_3, kdR_4, kdR_5, kdR_, rC_00, rC_01, rC_02, rC_03, rC_04, rC_10, rC_16, rC_18, rC_19, rC_1a, rC_20, rC_22, rC_23, rC_24, rC_25, rC_26, rC_27, rC_28, rC_4, rC_10k, rC_u3, rC_u5, rC_u7, rC_u9, rC_ua, rC_ub, rC_uc, rC_r4, rC_r5, rC_r6, rC_r7, rC_r8, Nat.add_zero, hr, mG_isOccurrence_ a1]
  cases e : oAt us x y with
  | none =>
    simp (disch := omega) only [sP_named_9, sP_named_36, sP_named_37, ax_clr_i, ax_clr_l, ax_clr_r, ax_clr_n, ax_ct_0, ax_ct_i, ax_ct_l, ax_ct_r, va_rf_s, Option.toList_some, Option.toList_none, List.cons_append, List.nil_append, and_true, true_and, and_self, ite_true, ite_false, if_true, if_false, Nat.reduceAdd, Nat.reduceLeDiff, Nat.reduceMul, Nat.reduceLT, nI_add, pk_mul, nI_lt', nI_le', nI_eq', nI_lt0, nI_ge0, nI_eq0, nI_gt0, nI_le0, nI_ne_m1, m1_ne_nI, m1_lt_nI, m1_le_nI, nI_lt_m1, nI_le_m1, nI_clamp, ax_in_nI, nI_shl, nI_shr, lg_cmp0, nx_and, nI_eq1, bI_0, bI_1, bf_or, eq_self, or_true, true_or, Option.isSome_none]
  | some v =>
    obtain ⟨c, i⟩ := v
    obtain ⟨z1, rfl, l1, z2, rfl, l2⟩ := oAt_s h12 (fun c hc => (a1.2.2.2.1 c hc).2) e
    have ho := a1.2.2.2.2.1 c (by omega)
    obtain ⟨w1, w2, w3, w4, w5, w6⟩ := a1.occ l1 l2
    simp (disch := omega) only [sP_named_9, sP_named_12, sP_named_13, sP_named_16, sP_named_17, sP_named_20, sP_named_23, sP_named_24, sP_named_25, sP_named_28, sP_named_29, sP_named_30, sP_named_33, sP_named_36, sP_named_37, ax_clr_i, ax_clr_l, ax_clr_r, ax_clr_n, ax_ct_0, ax_ct_i, ax_ct_l, ax_ct_r, va_rf_s, Option.toList_some, Option.toList_none, List.cons_append, List.nil_append, and_true, true_and, and_self, ite_true, ite_false, if_true, if_false, Nat.reduceAdd, Nat.reduceLeDiff, Nat.reduceMul, Nat.reduceLT, nI_add, pk_mul, nI_lt', nI_le', nI_eq', nI_lt0, nI_ge0, nI_eq0, nI_gt0, nI_le0, nI_ne_m1, m1_ne_nI, m1_lt_nI, m1_le_nI, nI_lt_m1, nI_le_m1, nI_clamp, ax_in_nI, nI_shl, nI_shr, lg_cmp0, nx_and, nI_eq1, bI_0, bI_1, bf_or, eq_self, or_true, true_or, lt_T, le_T, lt_F, le_F, eq_F, eq_T, kdC_0, kdC_1, kdC_2, kdC_3, kdC_4, kdC_5, kdC_6, kdC_7, kdC_8, kdC_9, kdC_10, kdC_11, kdC_12, kdC_13, kdC_14, kdC_15, kdC_16, kdU_1, kdU_2, kdU_3, kdU_4, kdU_5, kdU_6, kdU_7, kdU_, kdR_1, kdR_2, kdR_3, kdR_4, kdR_5, kdR_, rC_00, rC_01, rC_02, rC_03, rC_04, rC_10, rC_16, rC_18, rC_19, rC_1a, rC_20, rC_22, rC_23, rC_24, rC_25, rC_26, rC_27, rC_28, rC_4, rC_10k, rC_u3, rC_u5, rC_u7, rC_u9, rC_ua, rC_ub, rC_uc, rC_r4, rC_r5, rC_r6, rC_r7, rC_r8, Nat.add_zero, hr, w3, Option.isSome_some, Bool.true_eq_false, mG_numberOf_ a1 _ w5.2.1]
theorem mP_target_ {h : ax_H} (hs : stC h b us ps ty rs) (x y : Int32) (hQ : ∀ h', stC h' b us ps ty rs → Q (some (.int (aTarg us x y))) h') : ax_wp kC (d + 17) mP_target 0 [some (.ref 0), some (.int x), some (.int y)] [] h Q := by
  have hs0 := hs
  obtain ⟨o, s, xx, a1, a2, a3, a4, a5⟩ := hs
  have hr := a1.1
  have h12 := a1.2.2.1
  unfold aTarg at hQ
  simp (disch := omega) only [sP_target_0, sP_target_1, sP_target_4, sP_target_5, sP_target_6, ax_clr_i, ax_clr_l, ax_clr_r, ax_clr_n, ax_ct_0, ax_ct_i, ax_ct_l, ax_ct_r, va_rf_s, Option.toList_some, Option.toList_none, List.cons_append, List.nil_append, and_true, true_and, and_self, ite_true, ite_false, if_true, if_false, Nat.reduceAdd, Nat.reduceLeDiff, Nat.reduceMul, Nat.reduceLT, kdC_0, kdC_1, kdC_2, kdC_3, kdC_4, kdC_5, kdC_6, kdC_7, kdC_8, kdC_9, kdC_10, kdC_11, kdC_12, kdC_13, kdC_14, kdC_15, kdC_16, kdU_1, kdU_2, kdU_3, kdU_4, kdU_5, kdU_6, kdU_7, kdU_, kdR_1, kdR_2, kdR_3, kdR_4, kdR_5, kdR_, rC_00, rC_01, rC_02, rC_03, rC_04, rC_10, rC_16, rC_18, rC_19, rC_1a, rC_20, rC_22, rC_23, rC_24, rC_25, rC_26, rC_27, rC_28, rC_4, rC_10k, rC_u3, rC_u5, rC_u7, rC_u9, rC_ua, rC_ub, rC_uc, rC_r4, rC_r5, rC_r6, rC_r7, rC_r8, Nat.add_zero, hr, mG_isOccurrence_ a1]
  cases e : oAt us x y with
  | none =>
    rw [e] at hQ
    simp (disch := omega) only [sP_target_9, sP_target_24, sP_target_25, ax_clr_i, ax_clr_l, ax_clr_r, ax_clr_n, ax_ct_0, ax_ct_i, ax_ct_l, ax_ct_r, va_rf_s, Option.toList_some, Option.toList_none, List.cons_append, List.nil_append, and_true, true_and, and_self, ite_true, ite_false, if_true, if_false, Nat.reduceAdd, Nat.reduceLeDiff, Nat.reduceMul, Nat.reduceLT, nI_add, pk_mul, nI_lt', nI_le', nI_eq', nI_lt0, nI_ge0, nI_eq0, nI_gt0, nI_le0, nI_ne_m1, m1_ne_nI, m1_lt_nI, m1_le_nI, nI_lt_m1, nI_le_m1, nI_clamp, ax_in_nI, nI_shl, nI_shr, lg_cmp0, nx_and, nI_eq1, bI_0, bI_1, bf_or, eq_self, or_true, true_or, Option.isSome_none]
    exact hQ h hs0
  | some v =>
    obtain ⟨c, i⟩ := v
    rw [e] at hQ
    obtain ⟨z1, rfl, l1, z2, rfl, l2⟩ := oAt_s h12 (fun c hc => (a1.2.2.2.1 c hc).2) e
    simp (disch := omega) only [sP_target_9, sP_target_12, sP_target_13, sP_target_16, sP_target_17, sP_target_18, ax_clr_i, ax_clr_l, ax_clr_r, ax_clr_n, ax_ct_0, ax_ct_i, ax_ct_l, ax_ct_r, va_rf_s, Option.toList_some, Option.toList_none, List.cons_append, List.nil_append, and_true, true_and, and_self, ite_true, ite_false, if_true, if_false, Nat.reduceAdd, Nat.reduceLeDiff, Nat.reduceMul, Nat.reduceLT, nI_add, pk_mul, nI_lt', nI_le', nI_eq', nI_lt0, nI_ge0, nI_eq0, nI_gt0, nI_le0, nI_ne_m1, m1_ne_nI, m1_lt_nI, m1_le_nI, nI_lt_m1, nI_le_m1, nI_clamp, ax_in_nI, nI_shl, nI_shr, lg_cmp0, nx_and, nI_eq1, bI_0, bI_1, bf_or, eq_self, or_true, true_or, lt_T, le_T, lt_F, le_F, eq_F, eq_T, kdC_0, kdC_1, kdC_2, kdC_3, kdC_4, kdC_5, kdC_6, kdC_7, kdC_8, kdC_9, kdC_10, kdC_11, kdC_12, kdC_13, kdC_14, kdC_15, kdC_16, kdU_1, kdU_2, kdU_3, kdU_4, kdU_5, kdU_6, kdU_7, kdU_, kdR_1, kdR_2, kdR_3, kdR_4, kdR_5, kdR_, rC_00, rC_01, rC_02, rC_03, rC_04, rC_10, rC_16, rC_18, rC_19, rC_1a, rC_20, rC_22, rC_23, rC_24, rC_25, rC_26, rC_27, rC_28, rC_4, rC_10k, rC_u3, rC_u5, rC_u7, rC_u9, rC_ua, rC_ub, rC_uc, rC_r4, rC_r5, rC_r6, rC_r7, rC_r8, Nat.add_zero, hr, Option.isSome_some, Bool.true_eq_false]
    refine mG_targetOf_ a1 a2 c i l1 l2 (fun h1 f1 => ?_)
    simp (disch := omega) only [sP_target_21, sP_target_25, ax_clr_i, ax_clr_l, ax_clr_r, ax_clr_n, ax_ct_0, ax_ct_i, ax_ct_l, ax_ct_r, va_rf_s, Option.toList_some, Option.toList_none, List.cons_append, List.nil_append, and_true, true_and, and_self, ite_true, ite_false, if_true, if_false, Nat.reduceAdd, Nat.reduceLeDiff, Nat.reduceMul, Nat.reduceLT]
    exact hQ h1 (hs0.q f1.q)
theorem mP_circular_ {h : ax_H} (hs : stC h b us ps ty rs) (x : Int32) : ax_wp kC (d + 2) mP_circular 0 [some (.ref 0), some (.int x)] [] h Q = Q (some (.int (bI (aCirc us x)))) h := by
  obtain ⟨o, s, xx, a1, a2, a3, a4, a5⟩ := hs
  have hr := a1.1
  have h12 := a1.2.2.1
  unfold aCirc
  simp (disch := omega) only [sP_circular_0, sP_circular_1, sP_circular_4, sP_circular_5, ax_clr_i, ax_clr_l, ax_clr_r, ax_clr_n, ax_ct_0, ax_ct_i, ax_ct_l, ax_ct_r, va_rf_s, Option.toList_some, Option.toList_none, List.cons_append, List.nil_append, and_true, true_and, and_self, ite_true, ite_false, if_true, if_false, Nat.reduceAdd, Nat.reduceLeDiff, Nat.reduceMul, Nat.reduceLT, kdC_0, kdC_1, kdC_2, kdC_3, kdC_4, kdC_5, kdC_6, kdC_7, kdC_8, kdC_9, kdC_10, kdC_11, kdC_12, kdC_13, kdC_14, kdC_15, kdC_16, kdU_1, kdU_2, kdU_3, kdU_4, kdU_5, kdU_6, kdU_7, kdU_, kdR_1, kdR_2, kdR_3, kdR_4, kdR_5, kdR_, rC_00, rC_01, rC_02, rC_03, rC_04, rC_10, rC_16, rC_18, rC_19, rC_1a, rC_20, rC_22, rC_23, rC_24, rC_25, rC_26, rC_27, rC_28, rC_4, rC_10k, rC_u3, rC_u5, rC_u7, rC_u9, rC_ua, rC_ub, rC_uc, rC_r4, rC_r5, rC_r6, rC_r7, rC_r8, Nat.add_zero, hr, mG_isClass_ a1]
  cases e : ixN x us.length with
  | none =>
    simp (disch := omega) only [sP_circular_8, sP_circular_26, sP_circular_27, ax_clr_i, ax_clr_l, ax_clr_r, ax_clr_n, ax_ct_0, ax_ct_i, ax_ct_l, ax_ct_r, va_rf_s, Option.toList_some, Option.toList_none, List.cons_append, List.nil_append, and_true, true_and, and_self, ite_true, ite_false, if_true, if_false, Nat.reduceAdd, Nat.reduceLeDiff, Nat.reduceMul, Nat.reduceLT, nI_add, pk_mul, nI_lt', nI_le', nI_eq', nI_lt0, nI_ge0, nI_eq0, nI_gt0, nI_le0, nI_ne_m1, m1_ne_nI, m1_lt_nI, m1_le_nI, nI_lt_m1, nI_le_m1, nI_clamp, ax_in_nI, nI_shl, nI_shr, lg_cmp0, nx_and, nI_eq1, bI_0, bI_1, bf_or, eq_self, or_true, true_or, Option.isSome_none]
    rfl
  | some c =>
    obtain ⟨l1, rfl⟩ := ixN_some (by omega) e
    simp (disch := omega) only [sP_circular_8, sP_circular_11, sP_circular_12, sP_circular_15, sP_circular_16, sP_circular_19, ax_clr_i, ax_clr_l, ax_clr_r, ax_clr_n, ax_ct_0, ax_ct_i, ax_ct_l, ax_ct_r, va_rf_s, Option.toList_some, Option.toList_none, List.cons_append, List.nil_append, and_true, true_and, and_self, ite_true, ite_false, if_true, if_false, Nat.reduceAdd, Nat.reduceLeDiff, Nat.reduceMul, Nat.reduceLT, nI_add, pk_mul, nI_lt', nI_le', nI_eq', nI_lt0, nI_ge0, nI_eq0, nI_gt0, nI_le0, nI_ne_m1, m1_ne_nI, m1_lt_nI, m1_le_nI, nI_lt_m1, nI_le_m1, nI_clamp, ax_in_nI, nI_shl, nI_shr, lg_cmp0, nx_and, nI_eq1, bI_0, bI_1, bf_or, eq_self, or_true, true_or, kdC_0, kdC_1, kdC_2, kdC_3, kdC_4, kdC_5, kdC_6, kdC_7, kdC_8, kdC_9, kdC_10, kdC_11, kdC_12, kdC_13, kdC_14, kdC_15, kdC_16, kdU_1, kdU_2, kdU_3, kdU_4, kdU_5, kdU_6, kdU_7, kdU_, kdR_1, kdR_2, kdR_3, kdR_4, kdR_5, kdR_, rC_00, rC_01, rC_02, rC_03, rC_04, rC_10, rC_16, rC_18, rC_19, rC_1a, rC_20, rC_22, rC_23, rC_24, rC_25, rC_26, rC_27, rC_28, rC_4, rC_10k, rC_u3, rC_u5, rC_u7, rC_u9, rC_ua, rC_ub, rC_uc, rC_r4, rC_r5, rC_r6, rC_r7, rC_r8, Nat.add_zero, hr, Option.isSome_some, Bool.true_eq_false, mG_isCircular_ a1 a2 c l1]
    cases b : cirU us c with
    | true =>
      simp (disch := omega) only [sP_circular_22, sP_circular_23, sP_circular_26, sP_circular_27, ax_clr_i, ax_clr_l, ax_clr_r, ax_clr_n, ax_ct_0, ax_ct_i, ax_ct_l, ax_ct_r, va_rf_s, Option.toList_some, Option.toList_none, List.cons_append, List.nil_append, and_true, true_and, and_self, ite_true, ite_false, if_true, if_false, Nat.reduceAdd, Nat.reduceLeDiff, Nat.reduceMul, Nat.reduceLT, nI_add, pk_mul, nI_lt', nI_le', nI_eq', nI_lt0, nI_ge0, nI_eq0, nI_gt0, nI_le0, nI_ne_m1, m1_ne_nI, m1_lt_nI, m1_le_nI, nI_lt_m1, nI_le_m1, nI_clamp, ax_in_nI, nI_shl, nI_shr, lg_cmp0, nx_and, nI_eq1, bI_0, bI_1, bf_or, eq_self, or_true, true_or, Bool.true_eq_false]
      rfl
    | false =>
      simp (disch := omega) only [sP_circular_22, sP_circular_23, sP_circular_26, sP_circular_27, ax_clr_i, ax_clr_l, ax_clr_r, ax_clr_n, ax_ct_0, ax_ct_i, ax_ct_l, ax_ct_r, va_rf_s, Option.toList_some, Option.toList_none, List.cons_append, List.nil_append, and_true, true_and, and_self, ite_true, ite_false, if_true, if_false, Nat.reduceAdd, Nat.reduceLeDiff, Nat.reduceMul, Nat.reduceLT, nI_add, pk_mul, nI_lt', nI_le', nI_eq', nI_lt0, nI_ge0, nI_eq0, nI_gt0, nI_le0, nI_ne_m1, m1_ne_nI, m1_lt_nI, m1_le_nI, nI_lt_m1, nI_le_m1, nI_clamp, ax_in_nI, nI_shl, nI_shr, lg_cmp0, nx_and, nI_eq1, bI_0, bI_1, bf_or, eq_self, or_true, true_or]
      rfl
theorem mP_fits_ {h : ax_H} (hs : stC h b us ps ty rs) (x y : Int32) : ax_wp kC (d + 4) mP_fits 0 [some (.ref 0), some (.int x), some (.int y)] [] h Q = Q (some (.int (bI (aFits us ps x y)))) h := by
  obtain ⟨o, s, xx, a1, a2, a3, a4, a5⟩ := hs
  have hr := a1.1
  have h12 := a1.2.2.1
  have p6 := a4.2.1
  unfold aFits
  simp (disch := omega) only [sP_fits_0, sP_fits_1, sP_fits_2, ax_clr_i, ax_clr_l, ax_clr_r, ax_clr_n, ax_ct_0, ax_ct_i, ax_ct_l, ax_ct_r, va_rf_s, Option.toList_some, Option.toList_none, List.cons_append, List.nil_append, and_true, true_and, and_self, ite_true, ite_false, if_true, if_false, Nat.reduceAdd, Nat.reduceLeDiff, Nat.reduceMul, Nat.reduceLT, kdC_0, kdC_1, kdC_2, kdC_3, kdC_4, kdC_5, kdC_6, kdC_7, kdC_8, kdC_9, kdC_10, kdC_11, kdC_12, kdC_13, kdC_14, kdC_15, kdC_16, kdU_1, kdU_2, kdU_3, kdU_4, kdU_5, kdU_6, kdU_7, kdU_, kdR_1, kdR_2, kdR_3, kdR_4, kdR_5, kdR_, rC_00, rC_01, rC_02, rC_03, rC_04, rC_10, rC_16, rC_18, rC_19, rC_1a, rC_20, rC_22, rC_23, rC_24, rC_25, rC_26, rC_27, rC_28, rC_4, rC_10k, rC_u3, rC_u5, rC_u7, rC_u9, rC_ua, rC_ub, rC_uc, rC_r4, rC_r5, rC_r6, rC_r7, rC_r8, Nat.add_zero, hr, mP_isPattern_ a4]
  cases e : ixN x ps.length with
  | none =>
    simp (disch := omega) only [sP_fits_5, sP_fits_43, sP_fits_44, ax_clr_i, ax_clr_l, ax_clr_r, ax_clr_n, ax_ct_0, ax_ct_i, ax_ct_l, ax_ct_r, va_rf_s, Option.toList_some, Option.toList_none, List.cons_append, List.nil_append, and_true, true_and, and_self, ite_true, ite_false, if_true, if_false, Nat.reduceAdd, Nat.reduceLeDiff, Nat.reduceMul, Nat.reduceLT, nI_add, pk_mul, nI_lt', nI_le', nI_eq', nI_lt0, nI_ge0, nI_eq0, nI_gt0, nI_le0, nI_ne_m1, m1_ne_nI, m1_lt_nI, m1_le_nI, nI_lt_m1, nI_le_m1, nI_clamp, ax_in_nI, nI_shl, nI_shr, lg_cmp0, nx_and, nI_eq1, bI_0, bI_1, bf_or, eq_self, or_true, true_or, Option.isSome_none]
    rfl
  | some p =>
    obtain ⟨l1, rfl⟩ := ixN_some (by omega) e
    dsimp only
    simp (disch := omega) only [sP_fits_5, sP_fits_8, sP_fits_9, sP_fits_12, sP_fits_13, ax_clr_i, ax_clr_l, ax_clr_r, ax_clr_n, ax_ct_0, ax_ct_i, ax_ct_l, ax_ct_r, va_rf_s, Option.toList_some, Option.toList_none, List.cons_append, List.nil_append, and_true, true_and, and_self, ite_true, ite_false, if_true, if_false, Nat.reduceAdd, Nat.reduceLeDiff, Nat.reduceMul, Nat.reduceLT, nI_add, pk_mul, nI_lt', nI_le', nI_eq', nI_lt0, nI_ge0, nI_eq0, nI_gt0, nI_le0, nI_ne_m1, m1_ne_nI, m1_lt_nI, m1_le_nI, nI_lt_m1, nI_le_m1, nI_clamp, ax_in_nI, nI_shl, nI_shr, lg_cmp0, nx_and, nI_eq1, bI_0, bI_1, bf_or, eq_self, or_true, true_or, kdC_0, kdC_1, kdC_2, kdC_3, kdC_4, kdC_5, kdC_6, kdC_7, kdC_8, kdC_9, kdC_10, kdC_11, kdC_12, kdC_13, kdC_14, kdC_15, kdC_16, kdU_1, kdU_2, kdU_3, kdU_4, kdU_5, kdU_6, kdU_7, kdU_, kdR_1, kdR_2, kdR_3, kdR_4, kdR_5, kdR_, rC_00, rC_01, rC_02, rC_03, rC_04, rC_10, rC_16, rC_18, rC_19, rC_1a, rC_20, rC_22, rC_23, rC_24, rC_25, rC_26, rC_27, rC_28, rC_4, rC_10k, rC_u3, rC_u5, rC_u7, rC_u9, rC_ua, rC_ub, rC_uc, rC_r4, rC_r5, rC_r6, rC_r7, rC_r8, Nat.add_zero, hr, Option.isSome_some, Bool.true_eq_false, mG_isClass_ a1]
    cases e2 : ixN y us.length with
    | none =>
      simp (disch := omega) only [sP_fits_16, sP_fits_43, sP_fits_44, ax_clr_i, ax_clr_l, ax_clr_r, ax_clr_n, ax_ct_0, ax_ct_i, ax_ct_l, ax_ct_r, va_rf_s, Option.toList_some, Option.toList_none, List.cons_append, List.nil_append, and_true, true_and, and_self, ite_true, ite_false, if_true, if_false, Nat.reduceAdd, Nat.reduceLeDiff, Nat.reduceMul, Nat.reduceLT, nI_add, pk_mul, nI_lt', nI_le', nI_eq', nI_lt0, nI_ge0, nI_eq0, nI_gt0, nI_le0, nI_ne_m1, m1_ne_nI, m1_lt_nI, m1_le_nI, nI_lt_m1, nI_le_m1, nI_clamp, ax_in_nI, nI_shl, nI_shr, lg_cmp0, nx_and, nI_eq1, bI_0, bI_1, bf_or, eq_self, or_true, true_or, Option.isSome_none]
      rfl
    | some c =>
      obtain ⟨l2, rfl⟩ := ixN_some (by omega) e2
      obtain ⟨v1, v2, v3⟩ := a1.own l2
      have ho := a1.2.2.2.2.1 c (by omega)
      have h0 := (a1.2.2.2.1 c l2).1.1
      simp (disch := omega) only [sP_fits_16, sP_fits_19, sP_fits_20, sP_fits_21, sP_fits_22, sP_fits_25, sP_fits_28, sP_fits_29, sP_fits_30, sP_fits_33, sP_fits_36, ax_clr_i, ax_clr_l, ax_clr_r, ax_clr_n, ax_ct_0, ax_ct_i, ax_ct_l, ax_ct_r, va_rf_s, Option.toList_some, Option.toList_none, List.cons_append, List.nil_append, and_true, true_and, and_self, ite_true, ite_false, if_true, if_false, Nat.reduceAdd, Nat.reduceLeDiff, Nat.reduceMul, Nat.reduceLT, nI_add, pk_mul, nI_lt', nI_le', nI_eq', nI_lt0, nI_ge0, nI_eq0, nI_gt0, nI_le0, nI_ne_m1, m1_ne_nI, m1_lt_nI, m1_le_nI, nI_lt_m1, nI_le_m1, nI_clamp, ax_in_nI, nI_shl, nI_shr, lg_cmp0, nx_and, nI_eq1, bI_0, bI_1, bf_or, eq_self, or_true, true_or, lt_T, le_T, lt_F, le_F, eq_F, eq_T, kdC_0, kdC_1, kdC_2, kdC_3, kdC_4, kdC_5, kdC_6, kdC_7, kdC_8, kdC_9, kdC_10, kdC_11, kdC_12, kdC_13, kdC_14, kdC_15, kdC_16, kdU_1, kdU_2, kdU_3, kdU_4, kdU_5, kdU_6, kdU_7, kdU_, kdR_1, kdR_2, kdR_3, kdR_4, kdR_5, kdR_, rC_00, rC_01, rC_02, rC_03, rC_04, rC_10, rC_16, rC_18, rC_19, rC_1a, rC_20, rC_22, rC_23, rC_24, rC_25, rC_26, rC_27, rC_28, rC_4, rC_10k, rC_u3, rC_u5, rC_u7, rC_u9, rC_ua, rC_ub, rC_uc, rC_r4, rC_r5, rC_r6, rC_r7, rC_r8, Nat.add_zero, hr, h0, Option.isSome_some, Bool.true_eq_false, mP_fitsText_ hr a4 p l1 _ v1 v2]
      cases b : mtc (pA ps p) (ownU (uAt us c)) with
      | true =>
        simp (disch := omega) only [sP_fits_39, sP_fits_40, sP_fits_43, sP_fits_44, ax_clr_i, ax_clr_l, ax_clr_r, ax_clr_n, ax_ct_0, ax_ct_i, ax_ct_l, ax_ct_r, va_rf_s, Option.toList_some, Option.toList_none, List.cons_append, List.nil_append, and_true, true_and, and_self, ite_true, ite_false, if_true, if_false, Nat.reduceAdd, Nat.reduceLeDiff, Nat.reduceMul, Nat.reduceLT, nI_add, pk_mul, nI_lt', nI_le', nI_eq', nI_lt0, nI_ge0, nI_eq0, nI_gt0, nI_le0, nI_ne_m1, m1_ne_nI, m1_lt_nI, m1_le_nI, nI_lt_m1, nI_le_m1, nI_clamp, ax_in_nI, nI_shl, nI_shr, lg_cmp0, nx_and, nI_eq1, bI_0, bI_1, bf_or, eq_self, or_true, true_or, Bool.true_eq_false]
        rfl
      | false =>
        simp (disch := omega) only [sP_fits_39, sP_fits_40, sP_fits_43, sP_fits_44, ax_clr_i, ax_clr_l, ax_clr_r, ax_clr_n, ax_ct_0, ax_ct_i, ax_ct_l, ax_ct_r, va_rf_s, Option.toList_some, Option.toList_none, List.cons_append, List.nil_append, and_true, true_and, and_self, ite_true, ite_false, if_true, if_false, Nat.reduceAdd, Nat.reduceLeDiff, Nat.reduceMul, Nat.reduceLT, nI_add, pk_mul, nI_lt', nI_le', nI_eq', nI_lt0, nI_ge0, nI_eq0, nI_gt0, nI_le0, nI_ne_m1, m1_ne_nI, m1_lt_nI, m1_le_nI, nI_lt_m1, nI_le_m1, nI_clamp, ax_in_nI, nI_shl, nI_shr, lg_cmp0, nx_and, nI_eq1, bI_0, bI_1, bf_or, eq_self, or_true, true_or]
        rfl
theorem mP_slices_ {h : ax_H} (hs : stC h b us ps ty rs) (x : Int32) (hQ : ∀ h', stC h' b us ps ty rs → Q (some (.int (aSli us x))) h') : ax_wp kC (d + 3) mP_slices 0 [some (.ref 0), some (.int x)] [] h Q := by
  have hs0 := hs
  obtain ⟨o, s, xx, a1, a2, a3, a4, a5⟩ := hs
  have hr := a1.1
  unfold aSli at hQ
  simp (disch := omega) only [sP_slices_0, sP_slices_1, ax_clr_i, ax_clr_l, ax_clr_r, ax_clr_n, ax_ct_0, ax_ct_i, ax_ct_l, ax_ct_r, va_rf_s, Option.toList_some, Option.toList_none, List.cons_append, List.nil_append, and_true, true_and, and_self, ite_true, ite_false, if_true, if_false, Nat.reduceAdd, Nat.reduceLeDiff, Nat.reduceMul, Nat.reduceLT, mP_isDepth_]
  by_cases ed : x = nI 1 ∨ x = nI 2
  · obtain ⟨k, k1, k2⟩ := (ix3 x).2.2.mpr ed
    obtain ⟨l1, rfl⟩ := ixN_some (by omega) k1
    rw [k1] at hQ
    dsimp only at hQ
    rw [if_neg k2] at hQ
    rw [decide_eq_true ed]
    simp (disch := omega) only [sP_slices_4, sP_slices_7, sP_slices_8, sP_slices_11, sP_slices_12, ax_clr_i, ax_clr_l, ax_clr_r, ax_clr_n, ax_ct_0, ax_ct_i, ax_ct_l, ax_ct_r, va_rf_s, Option.toList_some, Option.toList_none, List.cons_append, List.nil_append, and_true, true_and, and_self, ite_true, ite_false, if_true, if_false, Nat.reduceAdd, Nat.reduceLeDiff, Nat.reduceMul, Nat.reduceLT, nI_add, pk_mul, nI_lt', nI_le', nI_eq', nI_lt0, nI_ge0, nI_eq0, nI_gt0, nI_le0, nI_ne_m1, m1_ne_nI, m1_lt_nI, m1_le_nI, nI_lt_m1, nI_le_m1, nI_clamp, ax_in_nI, nI_shl, nI_shr, lg_cmp0, nx_and, nI_eq1, bI_0, bI_1, bf_or, eq_self, or_true, true_or, kdC_0, kdC_1, kdC_2, kdC_3, kdC_4, kdC_5, kdC_6, kdC_7, kdC_8, kdC_9, kdC_10, kdC_11, kdC_12, kdC_13, kdC_14, kdC_15, kdC_16, kdU_1, kdU_2, kdU_3, kdU_4, kdU_5, kdU_6, kdU_7, kdU_, kdR_1, kdR_2, kdR_3, kdR_4, kdR_5, kdR_, rC_00, rC_01, rC_02, rC_03, rC_04, rC_10, rC_16, rC_18, rC_19, rC_1a, rC_20, rC_22, rC_23, rC_24, rC_25, rC_26, rC_27, rC_28, rC_4, rC_10k, rC_u3, rC_u5, rC_u7, rC_u9, rC_ua, rC_ub, rC_uc, rC_r4, rC_r5, rC_r6, rC_r7, rC_r8, Nat.add_zero, hr, Bool.true_eq_false]
    refine mG_cutSlices_ a1 k (by omega) (fun h1 f1 _ => ?_)
    simp (disch := omega) only [sP_slices_15, sP_slices_19, ax_clr_i, ax_clr_l, ax_clr_r, ax_clr_n, ax_ct_0, ax_ct_i, ax_ct_l, ax_ct_r, va_rf_s, Option.toList_some, Option.toList_none, List.cons_append, List.nil_append, and_true, true_and, and_self, ite_true, ite_false, if_true, if_false, Nat.reduceAdd, Nat.reduceLeDiff, Nat.reduceMul, Nat.reduceLT]
    exact hQ h1 (hs0.q f1.q)
  · rw [decide_eq_false ed]
    simp (disch := omega) only [sP_slices_4, sP_slices_18, sP_slices_19, ax_clr_i, ax_clr_l, ax_clr_r, ax_clr_n, ax_ct_0, ax_ct_i, ax_ct_l, ax_ct_r, va_rf_s, Option.toList_some, Option.toList_none, List.cons_append, List.nil_append, and_true, true_and, and_self, ite_true, ite_false, if_true, if_false, Nat.reduceAdd, Nat.reduceLeDiff, Nat.reduceMul, Nat.reduceLT, nI_add, pk_mul, nI_lt', nI_le', nI_eq', nI_lt0, nI_ge0, nI_eq0, nI_gt0, nI_le0, nI_ne_m1, m1_ne_nI, m1_lt_nI, m1_le_nI, nI_lt_m1, nI_le_m1, nI_clamp, ax_in_nI, nI_shl, nI_shr, lg_cmp0, nx_and, nI_eq1, bI_0, bI_1, bf_or, eq_self, or_true, true_or]
    have hQ2 := hQ h hs0
    cases q : ixN x 3 with
    | none => rw [q] at hQ2; exact hQ2
    | some k =>
      rw [q] at hQ2
      dsimp only at hQ2
      by_cases k0 : k = 0
      · rw [if_pos k0] at hQ2; exact hQ2
      · exact absurd ((ix3 x).2.2.mp ⟨k, q, k0⟩) ed
end CP
