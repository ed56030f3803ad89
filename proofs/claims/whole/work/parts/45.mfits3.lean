/-! the model: what fits, and the typed text -/
theorem tb_if {b : Bool} {v k i : Nat} (hk : k ≠ i) : (if b = true then v ||| 2 ^ k else v).testBit i = v.testBit i := by
  by_cases e : b = true
  · rw [if_pos e, tb_ne hk]
  · rw [if_neg e]
theorem fnK_bit (c R : Nat) (t : List Nat) (prev : Nat → Bool) (h55 : c ≤ 55) (hR : ∀ j, j ≤ t.length → R.testBit j = prev j) : ∀ (m k v : Nat), k + m = t.length → (∀ j, j ≤ k → v.testBit j = rcRow c prev t j) → (∀ j, k < j → v.testBit j = (decide (54 ≤ c) && R.testBit j)) → ∀ j, j ≤ t.length → (fnK c R t m k v).testBit j = rcRow c prev t j
  | 0, k, v, hk, h1, h2, j, hj => by unfold fnK; exact h1 j (by omega)
  | m + 1, k, v, hk, h1, h2, j, hj => by
    unfold fnK
    refine fnK_bit c R t prev h55 hR m (k + 1) _ (by omega) (fun i hi => ?_) (fun i hi => ?_) j hj
    · by_cases e : i = k + 1
      · subst e
        have e1 := h2 (k + 1) (by omega)
        have e2 := h1 k (by omega)
        have e3 := hR (k + 1) (by omega)
        have e4 := hR k (by omega)
        have hb : (if (goc c (bg t k) && (if 54 ≤ c then v else R).testBit k) = true then v ||| 2 ^ (k + 1) else v).testBit (k + 1) = (v.testBit (k + 1) || (goc c (bg t k) && (if 54 ≤ c then v else R).testBit k)) := by
          by_cases e5 : (goc c (bg t k) && (if 54 ≤ c then v else R).testBit k) = true
          · rw [if_pos e5, tb_eq, e5]; simp
          · rw [if_neg e5, bI_c e5]; simp
        rw [hb, e1, e3]
        unfold rcRow
        unfold goc bg
        by_cases c1 : c = 55
        · subst c1; simp [e2]
        · by_cases c2 : c = 54
          · subst c2; simp [e2]
          · have c3 : ¬ 54 ≤ c := by omega
            simp [c1, c2, c3, e4]
            by_cases c4 : t[k]?.getD 0 = c
            · simp [c4]
            · have c5 : ¬ c = t[k]?.getD 0 := fun hh => c4 hh.symm
              simp [c4, c5]
      · rw [← h1 i (by omega), tb_if (by omega)]
    · rw [← h2 i (by omega), tb_if (by omega)]
theorem fnI_bit (p t : List Nat) (h55 : ∀ c ∈ p, c ≤ 55) : ∀ (m i R : Nat), i + m = p.length → (∀ j, j ≤ t.length → R.testBit j = rc p t i j) → ∀ j, j ≤ t.length → (fnI p t m i R).testBit j = rc p t p.length j
  | 0, i, R, hi, hR, j, hj => by unfold fnI; rw [hR j hj, show i = p.length by omega]
  | m + 1, i, R, hi, hR, j, hj => by
    unfold fnI
    refine fnI_bit p t h55 m (i + 1) _ (by omega) (fun k hk => ?_) j hj
    have hc : bg p i ≤ 55 := getD_le h55 i
    refine fnK_bit (bg p i) R t (rc p t i) hc hR t.length 0 _ (by omega) (fun q hq => ?_) (fun q hq => ?_) k hk
    · obtain rfl : q = 0 := by omega
      unfold rcRow
      by_cases e : 54 ≤ bg p i
      · rw [if_pos e, hR 0 (by omega)]; simp [e]
      · rw [if_neg e]; simp [e]
    · by_cases e : 54 ≤ bg p i
      · rw [if_pos e]; simp [e]
      · rw [if_neg e]; simp [e]
theorem fnI_lt (p t : List Nat) (ht : t.length ≤ 10) : ∀ (m i R : Nat), R < 2 ^ 11 → fnI p t m i R < 2 ^ 11
  | 0, i, R, hR => hR
  | m + 1, i, R, hR => by
    unfold fnI
    refine fnI_lt p t ht m (i + 1) _ (fnK_lt _ _ _ _ _ _ (by omega) ?_)
    by_cases e : 54 ≤ bg p i
    · rw [if_pos e]; exact hR
    · rw [if_neg e]; decide
section MF
variable {d : Nat} {Q : Option Value → ax_H → Prop}
theorem mQ_fitsName_i {h : ax_H} (hr : h.2.2 = rM) (pn : Nat) (hpn : pn ≤ 6) (p t : List Nat) (hp : pat1 h pn p) (ht : vT t) (hl : letM h t) (x2 : Option Value) : ∀ (m i R : Nat) (x7 x8 x9 x10 x11 : Option Value), i + m = p.length → R < 2 ^ 11 → (Q (some (.int (bI ((fnI p t m i R).testBit t.length)))) h) → ax_wp kM (d + 1) mQ_fitsName 13 [some (.ref 0), some (.int (nI pn)), x2, none, some (.int (nI t.length)), some (.int (nI R)), some (.int (nI i)), x7, x8, x9, x10, x11] [] h Q
  | 0, i, R, x7, x8, x9, x10, x11, hi, hR, hQ => by
    have h10 := ht.1
    have p10 := hp.2.1.1.1
    have p1 := hp.1
    unfold fnI at hQ
    rw [sQ_fitsName_13]
    simp (disch := omega) only [sQ_fitsName_15, sQ_fitsName_16, sQ_fitsName_19, sQ_fitsName_20, sQ_fitsName_21, ax_clr_i, ax_clr_l, ax_clr_r, ax_clr_n, ax_ct_0, ax_ct_i, ax_ct_l, ax_ct_r, va_rf_s, Option.toList_some, Option.toList_none, List.cons_append, List.nil_append, and_true, true_and, and_self, ite_true, ite_false, if_true, if_false, Nat.reduceAdd, Nat.reduceLeDiff, Nat.reduceMul, Nat.reduceLT, nI_add, pk_mul, nI_lt', nI_le', nI_eq', nI_lt0, nI_ge0, nI_eq0, nI_gt0, nI_le0, nI_ne_m1, m1_ne_nI, m1_lt_nI, m1_le_nI, nI_lt_m1, nI_le_m1, nI_clamp, ax_in_nI, nI_shl, nI_shr, lg_cmp0, nx_and, nI_eq1, bI_0, bI_1, bf_or, eq_self, or_true, true_or, kdM_0, kdM_1, kdM_2, kdM_3, kdM_4, kdM_5, kdM_6, kdM_7, kdM_8, kdM_9, kdM_10, kdM_11, kdM_12, kdM_13, kdM_14, kdM_15, kdM_16, kdM_17, kdM_18, kdM_19, kdM_20, kdM_21, kdM_22, kdM_23, kdM_24, rM_0, rM_1, rM_5, rM_6, rM_7, rM_10, rM_11, rM_12, rM_13, rM_14, rM_15, rM_16, rM_18, rM_19, rM_20, rM_21, rM_23, rM_24, rM_25, rM_26, rM_28, rM_29, rM_30, rM_31, hr, p1, le_T, lt_T]
    simp (disch := omega) only [sQ_fitsName_190, sQ_fitsName_192, sQ_fitsName_194, sQ_fitsName_195, sQ_fitsName_196, sQ_fitsName_197, sQ_fitsName_198, sQ_fitsName_201, sQ_fitsName_202, sQ_fitsName_205, sQ_fitsName_206, ax_clr_i, ax_clr_l, ax_clr_r, ax_clr_n, ax_ct_0, ax_ct_i, ax_ct_l, ax_ct_r, va_rf_s, Option.toList_some, Option.toList_none, List.cons_append, List.nil_append, and_true, true_and, and_self, ite_true, ite_false, if_true, if_false, Nat.reduceAdd, Nat.reduceLeDiff, Nat.reduceMul, Nat.reduceLT, nI_shr, nI_bit1]
    by_cases e : R.testBit t.length = true
    · rw [e] at hQ; simp (disch := omega) only [e, ax_clr_i, ax_clr_l, ax_clr_r, ax_clr_n, ax_ct_0, ax_ct_i, ax_ct_l, ax_ct_r, va_rf_s, Option.toList_some, Option.toList_none, List.cons_append, List.nil_append, and_true, true_and, and_self, ite_true, ite_false, if_true, if_false, Nat.reduceAdd, Nat.reduceLeDiff, Nat.reduceMul, Nat.reduceLT, nI_add, pk_mul, nI_lt', nI_le', nI_eq', nI_lt0, nI_ge0, nI_eq0, nI_gt0, nI_le0, nI_ne_m1, m1_ne_nI, m1_lt_nI, m1_le_nI, nI_lt_m1, nI_le_m1, nI_clamp, ax_in_nI, nI_shl, nI_shr, lg_cmp0, nx_and, nI_eq1, bI_0, bI_1, bf_or, eq_self, or_true, true_or]; exact hQ
    · rw [bI_c e] at hQ; simp (disch := omega) only [e, ax_clr_i, ax_clr_l, ax_clr_r, ax_clr_n, ax_ct_0, ax_ct_i, ax_ct_l, ax_ct_r, va_rf_s, Option.toList_some, Option.toList_none, List.cons_append, List.nil_append, and_true, true_and, and_self, ite_true, ite_false, if_true, if_false, Nat.reduceAdd, Nat.reduceLeDiff, Nat.reduceMul, Nat.reduceLT, nI_add, pk_mul, nI_lt', nI_le', nI_eq', nI_lt0, nI_ge0, nI_eq0, nI_gt0, nI_le0, nI_ne_m1, m1_ne_nI, m1_lt_nI, m1_le_nI, nI_lt_m1, nI_le_m1, nI_clamp, ax_in_nI, nI_shl, nI_shr, lg_cmp0, nx_and, nI_eq1, bI_0, bI_1, bf_or, eq_self, or_true, true_or]; exact hQ
  | m + 1, i, R, x7, x8, x9, x10, x11, hi, hR, hQ => by
    have h10 := ht.1
    have p10 := hp.2.1.1.1
    have p1 := hp.1
    have p3 := hp.2.2 i (by omega)
    have hm : bg p i ∈ p := by unfold bg; rw [List.getD_eq_getElem?_getD, List.getElem?_eq_getElem (show i < p.length by omega)]; exact List.getElem_mem _
    have c1 := (hp.2.1.1.2 _ hm).1
    have c2 := hp.2.1.2 _ hm
    have gc := chp_lt (bg p i) c2
    unfold fnI at hQ
    rw [sQ_fitsName_13]
    simp (disch := omega) only [sQ_fitsName_15, sQ_fitsName_16, sQ_fitsName_19, sQ_fitsName_20, sQ_fitsName_21, sQ_fitsName_24, sQ_fitsName_25, sQ_fitsName_28, sQ_fitsName_30, sQ_fitsName_31, sQ_fitsName_32, sQ_fitsName_34, sQ_fitsName_35, sQ_fitsName_36, sQ_fitsName_38, ax_clr_i, ax_clr_l, ax_clr_r, ax_clr_n, ax_ct_0, ax_ct_i, ax_ct_l, ax_ct_r, va_rf_s, Option.toList_some, Option.toList_none, List.cons_append, List.nil_append, and_true, true_and, and_self, ite_true, ite_false, if_true, if_false, Nat.reduceAdd, Nat.reduceLeDiff, Nat.reduceMul, Nat.reduceLT, nI_add, pk_mul, nI_lt', nI_le', nI_eq', nI_lt0, nI_ge0, nI_eq0, nI_gt0, nI_le0, nI_ne_m1, m1_ne_nI, m1_lt_nI, m1_le_nI, nI_lt_m1, nI_le_m1, nI_clamp, ax_in_nI, nI_shl, nI_shr, lg_cmp0, nx_and, nI_eq1, bI_0, bI_1, bf_or, eq_self, or_true, true_or, kdM_0, kdM_1, kdM_2, kdM_3, kdM_4, kdM_5, kdM_6, kdM_7, kdM_8, kdM_9, kdM_10, kdM_11, kdM_12, kdM_13, kdM_14, kdM_15, kdM_16, kdM_17, kdM_18, kdM_19, kdM_20, kdM_21, kdM_22, kdM_23, kdM_24, rM_0, rM_1, rM_5, rM_6, rM_7, rM_10, rM_11, rM_12, rM_13, rM_14, rM_15, rM_16, rM_18, rM_19, rM_20, rM_21, rM_23, rM_24, rM_25, rM_26, rM_28, rM_29, rM_30, rM_31, hr, p1, p3, le_F, lt_T]
    by_cases e1 : 54 ≤ bg p i
    · rw [if_pos e1] at hQ
      have hk := mQ_fitsName_k (d := d) (Q := Q) hr (bg p i) R t ht hl c1 c2 hR (some (.int (nI pn))) x2 (some (.int (nI i))) True t.length 0 R x10 x11 (by omega) hR (fun y10 y11 _ => by
        simp (disch := omega) only [sQ_fitsName_180, sQ_fitsName_182, sQ_fitsName_184, sQ_fitsName_187, ax_clr_i, ax_clr_l, ax_clr_r, ax_clr_n, ax_ct_0, ax_ct_i, ax_ct_l, ax_ct_r, va_rf_s, Option.toList_some, Option.toList_none, List.cons_append, List.nil_append, and_true, true_and, and_self, ite_true, ite_false, if_true, if_false, Nat.reduceAdd, Nat.reduceLeDiff, Nat.reduceMul, Nat.reduceLT, nI_add]
        exact mQ_fitsName_i hr pn hpn p t hp ht hl x2 m (i + 1) _ _ _ _ _ _ (by omega) (fnK_lt _ _ _ _ _ _ (by omega) hR) hQ) trivial
      by_cases e2 : bg p i = 54
      · have e3 : chp (bg p i) = 42 := by rw [chp_42 _ c1 c2]; exact e2
        rw [e3] at hk ⊢
        simp (disch := omega) only [sQ_fitsName_40, sQ_fitsName_42, sQ_fitsName_45, sQ_fitsName_47, sQ_fitsName_49, sQ_fitsName_52, sQ_fitsName_54, sQ_fitsName_57, sQ_fitsName_58, sQ_fitsName_60, sQ_fitsName_61, ax_clr_i, ax_clr_l, ax_clr_r, ax_clr_n, ax_ct_0, ax_ct_i, ax_ct_l, ax_ct_r, va_rf_s, Option.toList_some, Option.toList_none, List.cons_append, List.nil_append, and_true, true_and, and_self, ite_true, ite_false, if_true, if_false, Nat.reduceAdd, Nat.reduceLeDiff, Nat.reduceMul, Nat.reduceLT, nI_eq', eq_self, Nat.reduceEqDiff]
        exact hk
      · have e3 : chp (bg p i) = 35 := by rw [chp_35 _ c1 c2]; omega
        rw [e3] at hk ⊢
        simp (disch := omega) only [sQ_fitsName_40, sQ_fitsName_42, sQ_fitsName_45, sQ_fitsName_47, sQ_fitsName_49, sQ_fitsName_52, sQ_fitsName_54, sQ_fitsName_57, sQ_fitsName_58, sQ_fitsName_60, sQ_fitsName_61, ax_clr_i, ax_clr_l, ax_clr_r, ax_clr_n, ax_ct_0, ax_ct_i, ax_ct_l, ax_ct_r, va_rf_s, Option.toList_some, Option.toList_none, List.cons_append, List.nil_append, and_true, true_and, and_self, ite_true, ite_false, if_true, if_false, Nat.reduceAdd, Nat.reduceLeDiff, Nat.reduceMul, Nat.reduceLT, nI_eq', eq_self, Nat.reduceEqDiff]
        exact hk
    · rw [if_neg e1] at hQ
      have n1 : ¬ chp (bg p i) = 35 := by rw [chp_35 _ c1 c2]; omega
      have n2 : ¬ chp (bg p i) = 42 := by rw [chp_42 _ c1 c2]; omega
      have hk := mQ_fitsName_k (d := d) (Q := Q) hr (bg p i) R t ht hl c1 c2 hR (some (.int (nI pn))) x2 (some (.int (nI i))) True t.length 0 0 x10 x11 (by omega) (by decide) (fun y10 y11 _ => by
        simp (disch := omega) only [sQ_fitsName_180, sQ_fitsName_182, sQ_fitsName_184, sQ_fitsName_187, ax_clr_i, ax_clr_l, ax_clr_r, ax_clr_n, ax_ct_0, ax_ct_i, ax_ct_l, ax_ct_r, va_rf_s, Option.toList_some, Option.toList_none, List.cons_append, List.nil_append, and_true, true_and, and_self, ite_true, ite_false, if_true, if_false, Nat.reduceAdd, Nat.reduceLeDiff, Nat.reduceMul, Nat.reduceLT, nI_add]
        exact mQ_fitsName_i hr pn hpn p t hp ht hl x2 m (i + 1) _ _ _ _ _ _ (by omega) (fnK_lt _ _ _ _ _ _ (by omega) (by decide)) hQ) trivial
      simp (disch := omega) only [sQ_fitsName_40, sQ_fitsName_42, sQ_fitsName_45, sQ_fitsName_47, sQ_fitsName_49, sQ_fitsName_52, sQ_fitsName_54, sQ_fitsName_57, sQ_fitsName_58, sQ_fitsName_60, sQ_fitsName_61, ax_clr_i, ax_clr_l, ax_clr_r, ax_clr_n, ax_ct_0, ax_ct_i, ax_ct_l, ax_ct_r, va_rf_s, Option.toList_some, Option.toList_none, List.cons_append, List.nil_append, and_true, true_and, and_self, ite_true, ite_false, if_true, if_false, Nat.reduceAdd, Nat.reduceLeDiff, Nat.reduceMul, Nat.reduceLT, nI_eq', eq_self, Nat.reduceEqDiff, n1, n2]
      exact hk
theorem mQ_fitsName_ {h : ax_H} (hr : h.2.2 = rM) (pn : Nat) (hpn : pn ≤ 6) (p t : List Nat) (hp : pat1 h pn p) (ht : vT t) (hQ : ∀ h', frL h h' → Q (some (.int (bI (mtc p t)))) h') : ax_wp kM (d + 1) mQ_fitsName 0 [some (.ref 0), some (.int (nI pn)), some (.long (lN (pB t))), none, none, none, none, none, none, none, none, none] [] h Q := by
  simp (disch := omega) only [sQ_fitsName_0, sQ_fitsName_1, sQ_fitsName_2, ax_clr_i, ax_clr_l, ax_clr_r, ax_clr_n, ax_ct_0, ax_ct_i, ax_ct_l, ax_ct_r, va_rf_s, Option.toList_some, Option.toList_none, List.cons_append, List.nil_append, and_true, true_and, and_self, ite_true, ite_false, if_true, if_false, Nat.reduceAdd, Nat.reduceLeDiff, Nat.reduceMul, Nat.reduceLT, kdM_0, kdM_1, kdM_2, kdM_3, kdM_4, kdM_5, kdM_6, kdM_7, kdM_8, kdM_9, kdM_10, kdM_11, kdM_12, kdM_13, kdM_14, kdM_15, kdM_16, kdM_17, kdM_18, kdM_19, kdM_20, kdM_21, kdM_22, kdM_23, kdM_24, rM_0, rM_1, rM_5, rM_6, rM_7, rM_10, rM_11, rM_12, rM_13, rM_14, rM_15, rM_16, rM_18, rM_19, rM_20, rM_21, rM_23, rM_24, rM_25, rM_26, rM_28, rM_29, rM_30, rM_31]
  refine mQ_spell_ hr t ht (fun h1 f1 hl => ?_)
  simp (disch := omega) only [sQ_fitsName_5, sQ_fitsName_7, sQ_fitsName_8, sQ_fitsName_10, sQ_fitsName_11, ax_clr_i, ax_clr_l, ax_clr_r, ax_clr_n, ax_ct_0, ax_ct_i, ax_ct_l, ax_ct_r, va_rf_s, Option.toList_some, Option.toList_none, List.cons_append, List.nil_append, and_true, true_and, and_self, ite_true, ite_false, if_true, if_false, Nat.reduceAdd, Nat.reduceLeDiff, Nat.reduceMul, Nat.reduceLT]
  have hr1 : h1.2.2 = rM := by rw [f1.1]; exact hr
  refine mQ_fitsName_i hr1 pn hpn p t (hp.frL f1) ht hl _ p.length 0 1 _ _ _ _ _ (by omega) (by decide) ?_
  rw [fnI_bit p t hp.2.1.2 p.length 0 1 (by omega) (fun j hj => by rw [one_bit]; rfl) t.length (by omega)]
  exact hQ h1 f1
end MF
