/-! the model: freeze -/
def frK (r : Nat) (h h' : ax_H) : Prop := h'.2.2 = h.2.2 ∧ (∀ a k, ¬ (a = 10 ∧ 8 * r ≤ k ∧ k < 8 * r + 8) → h'.1 a k = h.1 a k) ∧ ∀ a k, ¬ ((a = 11 ∨ a = 12) ∧ 8 * r ≤ k ∧ k < 8 * r + 8) → h'.2.1 a k = h.2.1 a k
theorem frK.rf {r : Nat} {h : ax_H} : frK r h h := ⟨rfl, fun _ _ _ => rfl, fun _ _ _ => rfl⟩
theorem frK.tr {r : Nat} {h h' h2 : ax_H} (a : frK r h h') (b : frK r h' h2) : frK r h h2 := ⟨b.1.trans a.1, fun r k h1 => (b.2.1 r k h1).trans (a.2.1 r k h1), fun r k h1 => (b.2.2 r k h1).trans (a.2.2 r k h1)⟩
theorem vM.k {us : List (List Nat)} {r : Nat} {h h' : ax_H} {V : List (Nat × Nat)} (hv : vM us h V) (f : frK r h h') : vM us h' V := by
  refine ⟨by rw [f.2.1 _ _ (by omega)]; exact hv.1, hv.2.1, fun j hj => ?_⟩
  rw [f.2.1 _ _ (by omega), f.2.1 _ _ (by omega), f.2.2 _ _ (by omega), f.2.2 _ _ (by omega)]
  exact hv.2.2 j hj
theorem rA_set {rs : List rl4} {r j : Nat} {x : rl4} (hr : r < rs.length) : rA (rs.set r x) j = if j = r then x else rA rs j := by
  unfold rA
  rw [List.getD_eq_getElem?_getD, List.getD_eq_getElem?_getD, List.getElem?_set]
  by_cases e : j = r
  · subst e; simp [hr]
  · rw [if_neg (fun q => e q.symm), if_neg e]
def knV (us : List (List Nat)) (h : ax_H) (r : Nat) (V : List (Nat × Nat)) (n : Nat) : Prop := ∀ i, i < n → h.1 10 (8 * r + i) = nI (16 * (vA V i).1 + (oOf us (vA V i).1 (vA V i).2).1) ∧ h.2.1 11 (8 * r + i) = lN (pB (oOf us (vA V i).1 (vA V i).2).2.2.1) ∧ h.2.1 12 (8 * r + i) = lN (pB (oOf us (vA V i).1 (vA V i).2).2.2.2)
theorem vA_map {us : List (List Nat)} {V : List (Nat × Nat)} {i : Nat} (hi : i < V.length) : ocA (V.map (knO us)) i = knO us (vA V i) := by
  unfold ocA vA
  rw [List.getD_eq_getElem?_getD, List.getD_eq_getElem?_getD, List.getElem?_map, List.getElem?_eq_getElem hi]
  rfl
section MV
variable {d : Nat} {Q : Option Value → ax_H → Prop} {b : List Nat} {us ps : List (List Nat)} {ty : List Nat} {rs : List rl4}
theorem mQ_freeze_l (r : Nat) (hr6 : r < 6) (V : List (Nat × Nat)) (h8 : V.length ≤ 8) : ∀ (q k : Nat) (h : ax_H), k + q = V.length → h.2.2 = rM → vM us h V → knV us h r V k → (∀ h', frK r h h' → knV us h' r V V.length → ax_wp kM d mQ_freeze 103 [some (.ref 0), some (.int (nI r)), some (.int (nI V.length))] [] h' Q) → ax_wp kM d mQ_freeze 38 [some (.ref 0), some (.int (nI r)), some (.int (nI k))] [] h Q
  | 0, k, h, hq, hr, hv, hk, hQ => by
    have v1 := hv.1
    have e : k = V.length := by omega
    subst e
    rw [sQ_freeze_38]
    simp (disch := omega) only [sQ_freeze_39, sQ_freeze_40, sQ_freeze_43, ax_clr_i, ax_clr_l, ax_clr_r, ax_clr_n, ax_ct_0, ax_ct_i, ax_ct_l, ax_ct_r, va_rf_s, Option.toList_some, Option.toList_none, List.cons_append, List.nil_append, and_true, true_and, and_self, ite_true, ite_false, if_true, if_false, Nat.reduceAdd, Nat.reduceLeDiff, Nat.reduceMul, Nat.reduceLT, nI_add, pk_mul, nI_lt', nI_le', nI_eq', nI_lt0, nI_ge0, nI_eq0, nI_gt0, nI_le0, nI_ne_m1, m1_ne_nI, m1_lt_nI, m1_le_nI, nI_lt_m1, nI_le_m1, nI_clamp, ax_in_nI, nI_shl, nI_shr, lg_cmp0, nx_and, nI_eq1, bI_0, bI_1, bf_or, eq_self, or_true, true_or, lt_T, le_T, lt_F, le_F, eq_F, eq_T, kdM_0, kdM_1, kdM_2, kdM_3, kdM_4, kdM_5, kdM_6, kdM_7, kdM_8, kdM_9, kdM_10, kdM_11, kdM_12, kdM_13, kdM_14, kdM_15, kdM_16, kdM_17, kdM_18, kdM_19, kdM_20, kdM_21, kdM_22, kdM_23, kdM_24, rM_0, rM_1, rM_5, rM_6, rM_7, rM_10, rM_11, rM_12, rM_13, rM_14, rM_15, rM_16, rM_18, rM_19, rM_20, rM_21, rM_23, rM_24, rM_25, rM_26, rM_28, rM_29, rM_30, rM_31, v1]
    exact hQ h frK.rf hk
  | q + 1, k, h, hq, hr, hv, hk, hQ => by
    have v1 := hv.1
    obtain ⟨a1, a2, a3, a4⟩ := hv.2.2 k (by omega)
    rw [sQ_freeze_38]
    simp (disch := omega) only [sQ_freeze_39, sQ_freeze_40, sQ_freeze_43, sQ_freeze_46, sQ_freeze_47, sQ_freeze_50, sQ_freeze_52, sQ_freeze_53, sQ_freeze_54, sQ_freeze_55, sQ_freeze_56, sQ_freeze_57, sQ_freeze_60, sQ_freeze_61, sQ_freeze_62, sQ_freeze_63, sQ_freeze_64, sQ_freeze_67, sQ_freeze_69, sQ_freeze_70, sQ_freeze_71, sQ_freeze_72, sQ_freeze_73, sQ_freeze_74, sQ_freeze_77, sQ_freeze_78, sQ_freeze_79, sQ_freeze_80, sQ_freeze_81, sQ_freeze_84, sQ_freeze_86, sQ_freeze_87, sQ_freeze_88, sQ_freeze_89, sQ_freeze_90, sQ_freeze_91, sQ_freeze_94, sQ_freeze_95, sQ_freeze_96, sQ_freeze_97, sQ_freeze_100, ax_clr_i, ax_clr_l, ax_clr_r, ax_clr_n, ax_ct_0, ax_ct_i, ax_ct_l, ax_ct_r, va_rf_s, Option.toList_some, Option.toList_none, List.cons_append, List.nil_append, and_true, true_and, and_self, ite_true, ite_false, if_true, if_false, Nat.reduceAdd, Nat.reduceLeDiff, Nat.reduceMul, Nat.reduceLT, nI_add, pk_mul, nI_lt', nI_le', nI_eq', nI_lt0, nI_ge0, nI_eq0, nI_gt0, nI_le0, nI_ne_m1, m1_ne_nI, m1_lt_nI, m1_le_nI, nI_lt_m1, nI_le_m1, nI_clamp, ax_in_nI, nI_shl, nI_shr, lg_cmp0, nx_and, nI_eq1, bI_0, bI_1, bf_or, eq_self, or_true, true_or, lt_T, le_T, lt_F, le_F, eq_F, eq_T, kdM_0, kdM_1, kdM_2, kdM_3, kdM_4, kdM_5, kdM_6, kdM_7, kdM_8, kdM_9, kdM_10, kdM_11, kdM_12, kdM_13, kdM_14, kdM_15, kdM_16, kdM_17, kdM_18, kdM_19, kdM_20, kdM_21, kdM_22, kdM_23, kdM_24, rM_0, rM_1, rM_5, rM_6, rM_7, rM_10, rM_11, rM_12, rM_13, rM_14, rM_15, rM_16, rM_18, rM_19, rM_20, rM_21, rM_23, rM_24, rM_25, rM_26, rM_28, rM_29, rM_30, rM_31, v1, hr, a1, a3, a4, up_I, up_I2, up_L, up_L1, up_L3, Nat.reduceEqDiff, and_false, false_and, reduceIte]
    have f : frK r h (ax_upL (ax_upL (ax_upI h 10 (8 * r + k) (nI (16 * (vA V k).1 + (oOf us (vA V k).1 (vA V k).2).1))) 11 (8 * r + k) (lN (pB (oOf us (vA V k).1 (vA V k).2).2.2.1))) 12 (8 * r + k) (lN (pB (oOf us (vA V k).1 (vA V k).2).2.2.2))) := by
      refine ⟨rfl, fun a j h1 => ?_, fun a j h1 => ?_⟩
      · simp only [up_I, up_L1]; rw [if_neg (by omega)]
      · simp only [up_I2, up_L]; rw [if_neg (by omega), if_neg (by omega)]
    refine mQ_freeze_l r hr6 V h8 q (k + 1) _ (by omega) (by rw [f.1]; exact hr) (hv.k f) (fun i hi => ?_) (fun h' f2 o => hQ h' (f.tr f2) o)
    simp only [up_I, up_I2, up_L, up_L1, Nat.reduceEqDiff, false_and, if_false, true_and]
    by_cases e : i = k
    · subst e; simp only [if_pos]; exact ⟨trivial, trivial, trivial⟩
    · rw [if_neg (by omega), if_neg (by omega), if_neg (by omega)]; exact hk i (by omega)
theorem mQ_freeze_ {h : ax_H} (hs : stM h b us ps ty rs) (x : Int32) (hQ : ∀ h', stM h' b us ps ty (nFrz us ps rs x) → Q (some (.int (aFrz us ps rs x))) h') : ax_wp kM (d + 12) mQ_freeze 0 [some (.ref 0), some (.int x), none] [] h Q := by
  have hc := hs.2.1
  have hp := hs.2.2.1
  have hru := hs.2.2.2
  have r6 := hru.2.1
  have hr := hc.1
  unfold aFrz nFrz oFrz at hQ
  cases e : ixN x rs.length with
  | none =>
    rw [e] at hQ
    simp (disch := omega) only [sQ_freeze_0, sQ_freeze_1, sQ_freeze_2, sQ_freeze_5, sQ_freeze_18, sQ_freeze_19, ax_clr_i, ax_clr_l, ax_clr_r, ax_clr_n, ax_ct_0, ax_ct_i, ax_ct_l, ax_ct_r, va_rf_s, Option.toList_some, Option.toList_none, List.cons_append, List.nil_append, and_true, true_and, and_self, ite_true, ite_false, if_true, if_false, Nat.reduceAdd, Nat.reduceLeDiff, Nat.reduceMul, Nat.reduceLT, nI_add, pk_mul, nI_lt', nI_le', nI_eq', nI_lt0, nI_ge0, nI_eq0, nI_gt0, nI_le0, nI_ne_m1, m1_ne_nI, m1_lt_nI, m1_le_nI, nI_lt_m1, nI_le_m1, nI_clamp, ax_in_nI, nI_shl, nI_shr, lg_cmp0, nx_and, nI_eq1, bI_0, bI_1, bf_or, eq_self, or_true, true_or, kdM_0, kdM_1, kdM_2, kdM_3, kdM_4, kdM_5, kdM_6, kdM_7, kdM_8, kdM_9, kdM_10, kdM_11, kdM_12, kdM_13, kdM_14, kdM_15, kdM_16, kdM_17, kdM_18, kdM_19, kdM_20, kdM_21, kdM_22, kdM_23, kdM_24, rM_0, rM_1, rM_5, rM_6, rM_7, rM_10, rM_11, rM_12, rM_13, rM_14, rM_15, rM_16, rM_18, rM_19, rM_20, rM_21, rM_23, rM_24, rM_25, rM_26, rM_28, rM_29, rM_30, rM_31, mQ_isRule_ hru, e, Option.isSome_none]
    exact hQ h hs
  | some r =>
    obtain ⟨a1, rfl⟩ := ixN_some (by omega) e
    rw [e] at hQ
    dsimp only at hQ
    obtain ⟨k1, k2, k3, k4, k5, k6, k7⟩ := hru.2.2.1 r a1
    have kk : (rA rs r).1 ≤ 3 := by rcases k5 with q | q <;> omega
    simp (disch := omega) only [sQ_freeze_0, sQ_freeze_1, sQ_freeze_2, sQ_freeze_5, sQ_freeze_8, sQ_freeze_9, sQ_freeze_12, sQ_freeze_13, sQ_freeze_14, sQ_freeze_15, ax_clr_i, ax_clr_l, ax_clr_r, ax_clr_n, ax_ct_0, ax_ct_i, ax_ct_l, ax_ct_r, va_rf_s, Option.toList_some, Option.toList_none, List.cons_append, List.nil_append, and_true, true_and, and_self, ite_true, ite_false, if_true, if_false, Nat.reduceAdd, Nat.reduceLeDiff, Nat.reduceMul, Nat.reduceLT, nI_add, pk_mul, nI_lt', nI_le', nI_eq', nI_lt0, nI_ge0, nI_eq0, nI_gt0, nI_le0, nI_ne_m1, m1_ne_nI, m1_lt_nI, m1_le_nI, nI_lt_m1, nI_le_m1, nI_clamp, ax_in_nI, nI_shl, nI_shr, lg_cmp0, nx_and, nI_eq1, bI_0, bI_1, bf_or, eq_self, or_true, true_or, lt_T, le_T, lt_F, le_F, eq_F, eq_T, kdM_0, kdM_1, kdM_2, kdM_3, kdM_4, kdM_5, kdM_6, kdM_7, kdM_8, kdM_9, kdM_10, kdM_11, kdM_12, kdM_13, kdM_14, kdM_15, kdM_16, kdM_17, kdM_18, kdM_19, kdM_20, kdM_21, kdM_22, kdM_23, kdM_24, rM_0, rM_1, rM_5, rM_6, rM_7, rM_10, rM_11, rM_12, rM_13, rM_14, rM_15, rM_16, rM_18, rM_19, rM_20, rM_21, rM_23, rM_24, rM_25, rM_26, rM_28, rM_29, rM_30, rM_31, hr, k1, mQ_isRule_ hru, e, Option.isSome_some, Bool.true_eq_false]
    by_cases e3 : (rA rs r).1 = 3
    · rw [if_pos e3] at hQ
      rw [if_pos e3]
      simp (disch := omega) only [sQ_freeze_18, sQ_freeze_19, ax_clr_i, ax_clr_l, ax_clr_r, ax_clr_n, ax_ct_0, ax_ct_i, ax_ct_l, ax_ct_r, va_rf_s, Option.toList_some, Option.toList_none, List.cons_append, List.nil_append, and_true, true_and, and_self, ite_true, ite_false, if_true, if_false, Nat.reduceAdd, Nat.reduceLeDiff, Nat.reduceMul, Nat.reduceLT]
      exact hQ h hs
    · rw [if_neg e3] at hQ
      rw [if_neg e3]
      simp (disch := omega) only [sQ_freeze_20, sQ_freeze_21, sQ_freeze_22, ax_clr_i, ax_clr_l, ax_clr_r, ax_clr_n, ax_ct_0, ax_ct_i, ax_ct_l, ax_ct_r, va_rf_s, Option.toList_some, Option.toList_none, List.cons_append, List.nil_append, and_true, true_and, and_self, ite_true, ite_false, if_true, if_false, Nat.reduceAdd, Nat.reduceLeDiff, Nat.reduceMul, Nat.reduceLT, kdM_0, kdM_1, kdM_2, kdM_3, kdM_4, kdM_5, kdM_6, kdM_7, kdM_8, kdM_9, kdM_10, kdM_11, kdM_12, kdM_13, kdM_14, kdM_15, kdM_16, kdM_17, kdM_18, kdM_19, kdM_20, kdM_21, kdM_22, kdM_23, kdM_24, rM_0, rM_1, rM_5, rM_6, rM_7, rM_10, rM_11, rM_12, rM_13, rM_14, rM_15, rM_16, rM_18, rM_19, rM_20, rM_21, rM_23, rM_24, rM_25, rM_26, rM_28, rM_29, rM_30, rM_31]
      refine mQ_gather_ (d := d + 1) hc hp hru r a1 (by omega) (fun h1 f1 o1 => ?_)
      have hs1 := hs.a f1.a
      have hr1 := hs1.1.1
      have v1 := o1.1
      have v2 := o1.2.1
      obtain ⟨g1, g2⟩ := gC_v us ps (rA rs r) (fun c h1 => (hc.2.2.2.2 c h1).2) us.length 0 (by omega)
      have hV : ∀ v ∈ gaU us ps (rA rs r), v.1 < us.length ∧ v.2 < (ocU (uAt us v.1)).length := g2
      generalize gaU us ps (rA rs r) = V at *
      simp (disch := omega) only [sQ_freeze_25, sQ_freeze_26, sQ_freeze_29, sQ_freeze_31, ax_clr_i, ax_clr_l, ax_clr_r, ax_clr_n, ax_ct_0, ax_ct_i, ax_ct_l, ax_ct_r, va_rf_s, Option.toList_some, Option.toList_none, List.cons_append, List.nil_append, and_true, true_and, and_self, ite_true, ite_false, if_true, if_false, Nat.reduceAdd, Nat.reduceLeDiff, Nat.reduceMul, Nat.reduceLT, nI_add, pk_mul, nI_lt', nI_le', nI_eq', nI_lt0, nI_ge0, nI_eq0, nI_gt0, nI_le0, nI_ne_m1, m1_ne_nI, m1_lt_nI, m1_le_nI, nI_lt_m1, nI_le_m1, nI_clamp, ax_in_nI, nI_shl, nI_shr, lg_cmp0, nx_and, nI_eq1, bI_0, bI_1, bf_or, eq_self, or_true, true_or, kdM_0, kdM_1, kdM_2, kdM_3, kdM_4, kdM_5, kdM_6, kdM_7, kdM_8, kdM_9, kdM_10, kdM_11, kdM_12, kdM_13, kdM_14, kdM_15, kdM_16, kdM_17, kdM_18, kdM_19, kdM_20, kdM_21, kdM_22, kdM_23, kdM_24, rM_0, rM_1, rM_5, rM_6, rM_7, rM_10, rM_11, rM_12, rM_13, rM_14, rM_15, rM_16, rM_18, rM_19, rM_20, rM_21, rM_23, rM_24, rM_25, rM_26, rM_28, rM_29, rM_30, rM_31, v1]
      by_cases e4 : V.length ≤ 8
      · rw [if_pos e4] at hQ
        rw [if_pos e4]
        dsimp only at hQ
        simp (disch := omega) only [sQ_freeze_36, sQ_freeze_37, ax_clr_i, ax_clr_l, ax_clr_r, ax_clr_n, ax_ct_0, ax_ct_i, ax_ct_l, ax_ct_r, va_rf_s, Option.toList_some, Option.toList_none, List.cons_append, List.nil_append, and_true, true_and, and_self, ite_true, ite_false, if_true, if_false, Nat.reduceAdd, Nat.reduceLeDiff, Nat.reduceMul, Nat.reduceLT]
        refine mQ_freeze_l r (by omega) V e4 V.length 0 h1 (by omega) hr1 o1 (fun i hi => by omega) (fun h2 f2 o2 => ?_)
        have hr2 : h2.2.2 = rM := by rw [f2.1]; exact hr1
        have v3 : h2.1 0 22 = nI V.length := by rw [f2.2.1 _ _ (by omega)]; exact v1
        simp (disch := omega) only [sQ_freeze_103, sQ_freeze_104, sQ_freeze_107, sQ_freeze_108, sQ_freeze_109, sQ_freeze_112, sQ_freeze_113, sQ_freeze_114, sQ_freeze_117, ax_clr_i, ax_clr_l, ax_clr_r, ax_clr_n, ax_ct_0, ax_ct_i, ax_ct_l, ax_ct_r, va_rf_s, Option.toList_some, Option.toList_none, List.cons_append, List.nil_append, and_true, true_and, and_self, ite_true, ite_false, if_true, if_false, Nat.reduceAdd, Nat.reduceLeDiff, Nat.reduceMul, Nat.reduceLT, nI_add, pk_mul, nI_lt', nI_le', nI_eq', nI_lt0, nI_ge0, nI_eq0, nI_gt0, nI_le0, nI_ne_m1, m1_ne_nI, m1_lt_nI, m1_le_nI, nI_lt_m1, nI_le_m1, nI_clamp, ax_in_nI, nI_shl, nI_shr, lg_cmp0, nx_and, nI_eq1, bI_0, bI_1, bf_or, eq_self, or_true, true_or, lt_T, le_T, lt_F, le_F, eq_F, eq_T, kdM_0, kdM_1, kdM_2, kdM_3, kdM_4, kdM_5, kdM_6, kdM_7, kdM_8, kdM_9, kdM_10, kdM_11, kdM_12, kdM_13, kdM_14, kdM_15, kdM_16, kdM_17, kdM_18, kdM_19, kdM_20, kdM_21, kdM_22, kdM_23, kdM_24, rM_0, rM_1, rM_5, rM_6, rM_7, rM_10, rM_11, rM_12, rM_13, rM_14, rM_15, rM_16, rM_18, rM_19, rM_20, rM_21, rM_23, rM_24, rM_25, rM_26, rM_28, rM_29, rM_30, rM_31, hr2, v3, up_I, up_I2, Nat.reduceEqDiff, and_false, false_and, reduceIte]
        have lo : ∀ a k, ¬ a = 9 → ¬ a = 10 → (ax_upI h2 9 r (nI V.length)).1 a k = h1.1 a k := fun a k q1 q2 => by rw [up_I, if_neg (by omega), f2.2.1 _ _ (by omega)]
        refine hQ _ ⟨hs1.1.keep (by rw [up_I2]; exact f2.1) (fun a k q => lo a k (by omega) (by omega)), hs1.2.1.keep (by rw [up_I2]; exact f2.1) (fun a k q => lo a k (by omega) (by omega)), hs1.2.2.1.keep (fun a k q => lo a k (by omega) (by omega)), ?_⟩
        obtain ⟨m1, m2, m3, m4⟩ := hs1.2.2.2
        refine ⟨by rw [List.length_set, lo _ _ (by omega) (by omega)]; exact m1, by rw [List.length_set]; exact m2, fun j hj => ?_, fun j h1 h2 => ?_⟩
        · rw [List.length_set] at hj
          rw [rA_set a1]
          by_cases e5 : j = r
          · subst e5
            rw [if_pos rfl]
            obtain ⟨c1, c2, c3, c4, c5⟩ := m3 j hj
            refine ⟨by rw [lo _ _ (by omega) (by omega)]; exact c1, by rw [lo _ _ (by omega) (by omega)]; exact c2, by rw [lo _ _ (by omega) (by omega)]; exact c3, ⟨?_, fun i hi => ?_⟩, c5.1, by simpa using e4, fun y hy => ?_⟩
            · rw [up_at]; simp
            · dsimp only at hi ⊢
              rw [List.length_map] at hi
              rw [vA_map hi, up_I, if_neg (by omega), up_I2]
              exact o2 i hi
            · dsimp only at hy
              obtain ⟨v, hv, rfl⟩ := List.mem_map.mp hy
              have q := hV v hv
              have ov := ocA_v (hc.2.2.2.2 v.1 q.1).2 q.2
              have h12 := hc.2.2.1
              exact ⟨by show v.1 < 12; omega, ov.1, ov.2.1, ov.2.2.2⟩
          · rw [if_neg e5]
            obtain ⟨c1, c2, c3, c4, c5⟩ := m3 j hj
            have c6 := c5.2.1
            refine ⟨by rw [lo _ _ (by omega) (by omega)]; exact c1, by rw [lo _ _ (by omega) (by omega)]; exact c2, by rw [lo _ _ (by omega) (by omega)]; exact c3, ⟨?_, fun i hi => ?_⟩, c5⟩
            · rw [up_I, if_neg (fun q => e5 q.2), f2.2.1 _ _ (by omega)]; exact c4.1
            · rw [up_I, if_neg (by omega), up_I2, f2.2.1 _ _ (by omega), f2.2.2 _ _ (by omega), f2.2.2 _ _ (by omega)]
              exact c4.2 i hi
        · rw [List.length_set] at h1
          rw [up_I, if_neg (fun q => by omega), f2.2.1 _ _ (by omega)]
          exact m4 j h1 h2
      · rw [if_neg e4] at hQ
        rw [if_neg e4]
        simp (disch := omega) only [sQ_freeze_34, sQ_freeze_35, ax_clr_i, ax_clr_l, ax_clr_r, ax_clr_n, ax_ct_0, ax_ct_i, ax_ct_l, ax_ct_r, va_rf_s, Option.toList_some, Option.toList_none, List.cons_append, List.nil_append, and_true, true_and, and_self, ite_true, ite_false, if_true, if_false, Nat.reduceAdd, Nat.reduceLeDiff, Nat.reduceMul, Nat.reduceLT]
        exact hQ h1 hs1
end MV
