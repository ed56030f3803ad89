/-! the model: violations -/
def frV (h h' : ax_H) : Prop := h'.2 = h.2 ∧ ∀ r k, ¬ (22 ≤ r ∧ r ≤ 24) → h'.1 r k = h.1 r k
theorem frV.rf {h : ax_H} : frV h h := ⟨rfl, fun _ _ _ => rfl⟩
theorem frV.tr {h h' h2 : ax_H} (a : frV h h') (b : frV h' h2) : frV h h2 := ⟨b.1.trans a.1, fun r k h1 => (b.2 r k h1).trans (a.2 r k h1)⟩
theorem frL.v {h h' : ax_H} (f : frL h h') : frV h h' := ⟨f.1, fun r k h1 => f.2 r k (by omega)⟩
theorem frX.v {h h' : ax_H} (f : frX h h') : frV h h' := ⟨f.1, fun r k h1 => f.2 r k (by omega) (by omega)⟩
theorem frV.c {h h' : ax_H} (f : frV h h') : frC h h' := ⟨by rw [f.1], fun r k h1 h2 h3 h4 => f.2 r k h4, fun r k _ _ => by rw [f.1]⟩
theorem ocM.frV {h h' : ax_H} {L : List oc4} (ho : ocM h L) (f : frV h h') : ocM h' L := by
  obtain ⟨a1, a2, a3⟩ := ho
  refine ⟨by rw [f.2 _ _ (by omega)]; exact a1, a2, fun i hi => ?_⟩
  rw [f.2 _ _ (by omega), f.2 _ _ (by omega), f.1]; exact a3 i hi
/-- an occurrence violates a rule -/
def vioU (us ps : List (List Nat)) (x : rl4) (c i : Nat) : Bool :=
  if x.1 = 0 then mtc (pA ps x.2.1) (ownU (uAt us c)) && (mtc (pA ps x.2.2.1) (oOf us c i).2.2.1 && !decide ((oOf us c i).2.2.1 = ownU (uAt us c)))
  else if x.1 = 1 then !mtc (pA ps x.2.1) (ownU (uAt us c)) && (!mtc (pA ps x.2.2.1) (ownU (uAt us c)) && mtc (pA ps x.2.1) (oOf us c i).2.2.1)
  else if mtc (pA ps x.2.2.1) (ownU (uAt us c)) = true then false
  else match tgtU us (oOf us c i).1 (oOf us c i).2.2.1 (oOf us c i).2.2.2 with
    | none => false
    | some to => !decide (to = c) && mtc (pA ps x.2.1) (ownU (uAt us to))
section MV
variable {d : Nat} {Q : Option Value → ax_H → Prop} {us ps : List (List Nat)} {ty : List Nat} {rs : List rl4}
theorem mQ_violates_ {h : ax_H} (hc : clsM h us) (hp : patM h ps ty) (hru : rulM h ps.length rs) (r c i : Nat) (hrl : r < rs.length) (hk2 : (rA rs r).1 ≤ 2) (hcl : c < us.length) (ho : ocM h (ocU (uAt us c))) (hi : i < (ocU (uAt us c)).length) (hQ : ∀ h', frV h h' → Q (some (.int (bI (vioU us ps (rA rs r) c i)))) h') : ax_wp kM (d + 9) mQ_violates 0 [some (.ref 0), some (.int (nI r)), some (.int (nI c)), some (.int (nI i)), none, none, none, none, none] [] h Q := by
  have h12 := hc.2.2.1
  have h6 := hp.2.1
  have r6 := hru.2.1
  have hl := (ocU_v (hc.2.2.2.2 c hcl).2).2
  have hv := ocA_v (hc.2.2.2.2 c hcl).2 hi
  obtain ⟨k1, k2, k3, -, k5, -⟩ := hru.2.2.1 r hrl
  have k4 : (rA rs r).2.1 < ps.length ∧ (rA rs r).2.2.1 < ps.length := by rcases k5 with q | q <;> omega
  unfold vioU at hQ
  generalize hx : rA rs r = x at *
  obtain ⟨kind, p, q, kn⟩ := x
  dsimp only at k1 k2 k3 k4 hk2 hQ
  have hr := hc.1
  simp (disch := omega) only [sQ_violates_0, sQ_violates_1, sQ_violates_4, sQ_violates_5, sQ_violates_6, sQ_violates_8, sQ_violates_9, sQ_violates_12, sQ_violates_13, sQ_violates_14, sQ_violates_16, sQ_violates_17, sQ_violates_19, sQ_violates_20, ax_clr_i, ax_clr_l, ax_clr_r, ax_clr_n, ax_ct_0, ax_ct_i, ax_ct_l, ax_ct_r, va_rf_s, Option.toList_some, Option.toList_none, List.cons_append, List.nil_append, and_true, true_and, and_self, ite_true, ite_false, if_true, if_false, Nat.reduceAdd, Nat.reduceLeDiff, Nat.reduceMul, Nat.reduceLT, nI_add, pk_mul, nI_lt', nI_le', nI_eq', nI_lt0, nI_ge0, nI_eq0, nI_gt0, nI_le0, nI_ne_m1, m1_ne_nI, m1_lt_nI, m1_le_nI, nI_lt_m1, nI_le_m1, nI_clamp, ax_in_nI, nI_shl, nI_shr, lg_cmp0, nx_and, nI_eq1, bI_0, bI_1, bf_or, eq_self, or_true, true_or, lt_T, le_T, lt_F, le_F, eq_F, eq_T, kdM_0, kdM_1, kdM_2, kdM_3, kdM_4, kdM_5, kdM_6, kdM_7, kdM_8, kdM_9, kdM_10, kdM_11, kdM_12, kdM_13, kdM_14, kdM_15, kdM_16, kdM_17, kdM_18, kdM_19, kdM_20, kdM_21, kdM_22, kdM_23, kdM_24, rM_0, rM_1, rM_5, rM_6, rM_7, rM_10, rM_11, rM_12, rM_13, rM_14, rM_15, rM_16, rM_18, rM_19, rM_20, rM_21, rM_23, rM_24, rM_25, rM_26, rM_28, rM_29, rM_30, rM_31, hr, k2, k3]
  refine mQ_fits_s (d := d + 4) hc hp p c k4.1 hcl (fun h1 f1 => ?_)
  have hc1 := hc.frL f1
  have hp1 := hp.a f1.a
  have hr1 := hc1.1
  simp (disch := omega) only [sQ_violates_23, sQ_violates_25, sQ_violates_26, sQ_violates_28, sQ_violates_29, ax_clr_i, ax_clr_l, ax_clr_r, ax_clr_n, ax_ct_0, ax_ct_i, ax_ct_l, ax_ct_r, va_rf_s, Option.toList_some, Option.toList_none, List.cons_append, List.nil_append, and_true, true_and, and_self, ite_true, ite_false, if_true, if_false, Nat.reduceAdd, Nat.reduceLeDiff, Nat.reduceMul, Nat.reduceLT, nI_add, pk_mul, nI_lt', nI_le', nI_eq', nI_lt0, nI_ge0, nI_eq0, nI_gt0, nI_le0, nI_ne_m1, m1_ne_nI, m1_lt_nI, m1_le_nI, nI_lt_m1, nI_le_m1, nI_clamp, ax_in_nI, nI_shl, nI_shr, lg_cmp0, nx_and, nI_eq1, bI_0, bI_1, bf_or, eq_self, or_true, true_or, lt_T, le_T, lt_F, le_F, eq_F, eq_T, kdM_0, kdM_1, kdM_2, kdM_3, kdM_4, kdM_5, kdM_6, kdM_7, kdM_8, kdM_9, kdM_10, kdM_11, kdM_12, kdM_13, kdM_14, kdM_15, kdM_16, kdM_17, kdM_18, kdM_19, kdM_20, kdM_21, kdM_22, kdM_23, kdM_24, rM_0, rM_1, rM_5, rM_6, rM_7, rM_10, rM_11, rM_12, rM_13, rM_14, rM_15, rM_16, rM_18, rM_19, rM_20, rM_21, rM_23, rM_24, rM_25, rM_26, rM_28, rM_29, rM_30, rM_31]
  refine mQ_fits_s (d := d + 4) hc1 hp1 q c k4.2 hcl (fun h2 f2 => ?_)
  have f12 := f1.tr f2
  have hc2 := hc.frL f12
  have hp2 := hp.a f12.a
  have hr2 := hc2.1
  have ho2 := ho.frL f12
  have o1 := (ho2.2.2 i hi).1
  have o3 := (ho2.2.2 i hi).2.2.1
  have o4 := (ho2.2.2 i hi).2.2.2
  have g1 : h2.1 6 r = nI kind := by rw [f12.2 _ _ (by omega)]; exact k1
  generalize hP : mtc (pA ps p) (ownU (uAt us c)) = bP at *
  generalize hQ2 : mtc (pA ps q) (ownU (uAt us c)) = bQ at *
  simp (disch := omega) only [sQ_violates_32, sQ_violates_34, sQ_violates_35, sQ_violates_38, sQ_violates_39, sQ_violates_40, ax_clr_i, ax_clr_l, ax_clr_r, ax_clr_n, ax_ct_0, ax_ct_i, ax_ct_l, ax_ct_r, va_rf_s, Option.toList_some, Option.toList_none, List.cons_append, List.nil_append, and_true, true_and, and_self, ite_true, ite_false, if_true, if_false, Nat.reduceAdd, Nat.reduceLeDiff, Nat.reduceMul, Nat.reduceLT, nI_add, pk_mul, nI_lt', nI_le', nI_eq', nI_lt0, nI_ge0, nI_eq0, nI_gt0, nI_le0, nI_ne_m1, m1_ne_nI, m1_lt_nI, m1_le_nI, nI_lt_m1, nI_le_m1, nI_clamp, ax_in_nI, nI_shl, nI_shr, lg_cmp0, nx_and, nI_eq1, bI_0, bI_1, bf_or, eq_self, or_true, true_or, lt_T, le_T, lt_F, le_F, eq_F, eq_T, kdM_0, kdM_1, kdM_2, kdM_3, kdM_4, kdM_5, kdM_6, kdM_7, kdM_8, kdM_9, kdM_10, kdM_11, kdM_12, kdM_13, kdM_14, kdM_15, kdM_16, kdM_17, kdM_18, kdM_19, kdM_20, kdM_21, kdM_22, kdM_23, kdM_24, rM_0, rM_1, rM_5, rM_6, rM_7, rM_10, rM_11, rM_12, rM_13, rM_14, rM_15, rM_16, rM_18, rM_19, rM_20, rM_21, rM_23, rM_24, rM_25, rM_26, rM_28, rM_29, rM_30, rM_31, hr2, g1]
  by_cases e0 : kind = 0
  · rw [if_pos e0] at hQ ⊢
    simp (disch := omega) only [sQ_violates_43, sQ_violates_45, ax_clr_i, ax_clr_l, ax_clr_r, ax_clr_n, ax_ct_0, ax_ct_i, ax_ct_l, ax_ct_r, va_rf_s, Option.toList_some, Option.toList_none, List.cons_append, List.nil_append, and_true, true_and, and_self, ite_true, ite_false, if_true, if_false, Nat.reduceAdd, Nat.reduceLeDiff, Nat.reduceMul, Nat.reduceLT, nI_add, pk_mul, nI_lt', nI_le', nI_eq', nI_lt0, nI_ge0, nI_eq0, nI_gt0, nI_le0, nI_ne_m1, m1_ne_nI, m1_lt_nI, m1_le_nI, nI_lt_m1, nI_le_m1, nI_clamp, ax_in_nI, nI_shl, nI_shr, lg_cmp0, nx_and, nI_eq1, bI_0, bI_1, bf_or, eq_self, or_true, true_or]
    have no : ∀ h3, frV h h3 → bP = false ∨ mtc (pA ps q) (oOf us c i).2.2.1 = false ∨ (oOf us c i).2.2.1 = ownU (uAt us c) → ax_wp kM (d + 9) mQ_violates 82 [some (.ref 0), some (.int (nI r)), some (.int (nI c)), some (.int (nI i)), some (.int (nI p)), some (.int (nI q)), some (.int (bI bP)), some (.int (bI bQ)), none] [] h3 Q := fun h3 f3 w => by
      simp (disch := omega) only [sQ_violates_82, sQ_violates_83, ax_clr_i, ax_clr_l, ax_clr_r, ax_clr_n, ax_ct_0, ax_ct_i, ax_ct_l, ax_ct_r, va_rf_s, Option.toList_some, Option.toList_none, List.cons_append, List.nil_append, and_true, true_and, and_self, ite_true, ite_false, if_true, if_false, Nat.reduceAdd, Nat.reduceLeDiff, Nat.reduceMul, Nat.reduceLT, nI_add, pk_mul, nI_lt', nI_le', nI_eq', nI_lt0, nI_ge0, nI_eq0, nI_gt0, nI_le0, nI_ne_m1, m1_ne_nI, m1_lt_nI, m1_le_nI, nI_lt_m1, nI_le_m1, nI_clamp, ax_in_nI, nI_shl, nI_shr, lg_cmp0, nx_and, nI_eq1, bI_0, bI_1, bf_or, eq_self, or_true, true_or]
      have q9 := hQ h3 f3
      have e : (bP && (mtc (pA ps q) (oOf us c i).2.2.1 && !decide ((oOf us c i).2.2.1 = ownU (uAt us c)))) = false := by
        rcases w with w | w | w <;> simp [w]
      rw [e] at q9; exact q9
    by_cases e1 : bP = true
    · rw [if_neg (by simp [e1])]
      simp (disch := omega) only [sQ_violates_48, sQ_violates_49, sQ_violates_51, sQ_violates_52, sQ_violates_55, sQ_violates_56, sQ_violates_57, ax_clr_i, ax_clr_l, ax_clr_r, ax_clr_n, ax_ct_0, ax_ct_i, ax_ct_l, ax_ct_r, va_rf_s, Option.toList_some, Option.toList_none, List.cons_append, List.nil_append, and_true, true_and, and_self, ite_true, ite_false, if_true, if_false, Nat.reduceAdd, Nat.reduceLeDiff, Nat.reduceMul, Nat.reduceLT, nI_add, pk_mul, nI_lt', nI_le', nI_eq', nI_lt0, nI_ge0, nI_eq0, nI_gt0, nI_le0, nI_ne_m1, m1_ne_nI, m1_lt_nI, m1_le_nI, nI_lt_m1, nI_le_m1, nI_clamp, ax_in_nI, nI_shl, nI_shr, lg_cmp0, nx_and, nI_eq1, bI_0, bI_1, bf_or, eq_self, or_true, true_or, lt_T, le_T, lt_F, le_F, eq_F, eq_T, kdM_0, kdM_1, kdM_2, kdM_3, kdM_4, kdM_5, kdM_6, kdM_7, kdM_8, kdM_9, kdM_10, kdM_11, kdM_12, kdM_13, kdM_14, kdM_15, kdM_16, kdM_17, kdM_18, kdM_19, kdM_20, kdM_21, kdM_22, kdM_23, kdM_24, rM_0, rM_1, rM_5, rM_6, rM_7, rM_10, rM_11, rM_12, rM_13, rM_14, rM_15, rM_16, rM_18, rM_19, rM_20, rM_21, rM_23, rM_24, rM_25, rM_26, rM_28, rM_29, rM_30, rM_31, hr2, o3]
      refine mQ_fitsName_ (d := d + 7) hr2 q (by omega) (pA ps q) _ (hp2.2.2.1 q k4.2) hv.2.1 (fun h3 f3 => ?_)
      have f13 := f12.tr f3
      have hc3 := hc.frL f13
      have hr3 := hc3.1
      have o5 := ((ho.frL f13).2.2 i hi).2.2.1
      simp (disch := omega) only [sQ_violates_60, ax_clr_i, ax_clr_l, ax_clr_r, ax_clr_n, ax_ct_0, ax_ct_i, ax_ct_l, ax_ct_r, va_rf_s, Option.toList_some, Option.toList_none, List.cons_append, List.nil_append, and_true, true_and, and_self, ite_true, ite_false, if_true, if_false, Nat.reduceAdd, Nat.reduceLeDiff, Nat.reduceMul, Nat.reduceLT, nI_add, pk_mul, nI_lt', nI_le', nI_eq', nI_lt0, nI_ge0, nI_eq0, nI_gt0, nI_le0, nI_ne_m1, m1_ne_nI, m1_lt_nI, m1_le_nI, nI_lt_m1, nI_le_m1, nI_clamp, ax_in_nI, nI_shl, nI_shr, lg_cmp0, nx_and, nI_eq1, bI_0, bI_1, bf_or, eq_self, or_true, true_or]
      by_cases e2 : mtc (pA ps q) (ocA (ocU (uAt us c)) i).2.2.1 = true
      · rw [if_neg (by simp [e2])]
        simp (disch := omega) only [sQ_violates_63, sQ_violates_64, sQ_violates_67, sQ_violates_68, sQ_violates_69, sQ_violates_70, sQ_violates_71, sQ_violates_74, sQ_violates_75, ax_clr_i, ax_clr_l, ax_clr_r, ax_clr_n, ax_ct_0, ax_ct_i, ax_ct_l, ax_ct_r, va_rf_s, Option.toList_some, Option.toList_none, List.cons_append, List.nil_append, and_true, true_and, and_self, ite_true, ite_false, if_true, if_false, Nat.reduceAdd, Nat.reduceLeDiff, Nat.reduceMul, Nat.reduceLT, nI_add, pk_mul, nI_lt', nI_le', nI_eq', nI_lt0, nI_ge0, nI_eq0, nI_gt0, nI_le0, nI_ne_m1, m1_ne_nI, m1_lt_nI, m1_le_nI, nI_lt_m1, nI_le_m1, nI_clamp, ax_in_nI, nI_shl, nI_shr, lg_cmp0, nx_and, nI_eq1, bI_0, bI_1, bf_or, eq_self, or_true, true_or, lt_T, le_T, lt_F, le_F, eq_F, eq_T, kdM_0, kdM_1, kdM_2, kdM_3, kdM_4, kdM_5, kdM_6, kdM_7, kdM_8, kdM_9, kdM_10, kdM_11, kdM_12, kdM_13, kdM_14, kdM_15, kdM_16, kdM_17, kdM_18, kdM_19, kdM_20, kdM_21, kdM_22, kdM_23, kdM_24, rM_0, rM_1, rM_5, rM_6, rM_7, rM_10, rM_11, rM_12, rM_13, rM_14, rM_15, rM_16, rM_18, rM_19, rM_20, rM_21, rM_23, rM_24, rM_25, rM_26, rM_28, rM_29, rM_30, rM_31, hr3, o5, mQ_ownName_ (hc3.2.2.2.2 c hcl).1 (by omega) (hc3.2.2.2.2 c hcl).2, lB_eq hv.2.1 (hc.vT hcl)]
        by_cases e3 : (ocA (ocU (uAt us c)) i).2.2.1 = ownU (uAt us c)
        · rw [if_pos e3]; exact no h3 f13.v (Or.inr (Or.inr e3))
        · rw [if_neg e3]
          simp (disch := omega) only [sQ_violates_78, sQ_violates_79, sQ_violates_82, sQ_violates_83, ax_clr_i, ax_clr_l, ax_clr_r, ax_clr_n, ax_ct_0, ax_ct_i, ax_ct_l, ax_ct_r, va_rf_s, Option.toList_some, Option.toList_none, List.cons_append, List.nil_append, and_true, true_and, and_self, ite_true, ite_false, if_true, if_false, Nat.reduceAdd, Nat.reduceLeDiff, Nat.reduceMul, Nat.reduceLT, nI_add, pk_mul, nI_lt', nI_le', nI_eq', nI_lt0, nI_ge0, nI_eq0, nI_gt0, nI_le0, nI_ne_m1, m1_ne_nI, m1_lt_nI, m1_le_nI, nI_lt_m1, nI_le_m1, nI_clamp, ax_in_nI, nI_shl, nI_shr, lg_cmp0, nx_and, nI_eq1, bI_0, bI_1, bf_or, eq_self, or_true, true_or]
          have q9 := hQ h3 f13.v
          have e : (bP && (mtc (pA ps q) (oOf us c i).2.2.1 && !decide ((oOf us c i).2.2.1 = ownU (uAt us c)))) = true := by
            unfold oOf; simp [e1, e2, e3]
          rw [e] at q9; exact q9
      · rw [if_pos (bI_c e2)]; exact no h3 f13.v (Or.inr (Or.inl (bI_c e2)))
    · rw [if_pos (bI_c e1)]; exact no h2 f12.v (Or.inl (bI_c e1))
  · rw [if_neg e0] at hQ ⊢
    simp (disch := omega) only [sQ_violates_84, sQ_violates_85, sQ_violates_88, sQ_violates_89, sQ_violates_90, sQ_violates_91, ax_clr_i, ax_clr_l, ax_clr_r, ax_clr_n, ax_ct_0, ax_ct_i, ax_ct_l, ax_ct_r, va_rf_s, Option.toList_some, Option.toList_none, List.cons_append, List.nil_append, and_true, true_and, and_self, ite_true, ite_false, if_true, if_false, Nat.reduceAdd, Nat.reduceLeDiff, Nat.reduceMul, Nat.reduceLT, nI_add, pk_mul, nI_lt', nI_le', nI_eq', nI_lt0, nI_ge0, nI_eq0, nI_gt0, nI_le0, nI_ne_m1, m1_ne_nI, m1_lt_nI, m1_le_nI, nI_lt_m1, nI_le_m1, nI_clamp, ax_in_nI, nI_shl, nI_shr, lg_cmp0, nx_and, nI_eq1, bI_0, bI_1, bf_or, eq_self, or_true, true_or, lt_T, le_T, lt_F, le_F, eq_F, eq_T, kdM_0, kdM_1, kdM_2, kdM_3, kdM_4, kdM_5, kdM_6, kdM_7, kdM_8, kdM_9, kdM_10, kdM_11, kdM_12, kdM_13, kdM_14, kdM_15, kdM_16, kdM_17, kdM_18, kdM_19, kdM_20, kdM_21, kdM_22, kdM_23, kdM_24, rM_0, rM_1, rM_5, rM_6, rM_7, rM_10, rM_11, rM_12, rM_13, rM_14, rM_15, rM_16, rM_18, rM_19, rM_20, rM_21, rM_23, rM_24, rM_25, rM_26, rM_28, rM_29, rM_30, rM_31, hr2, g1]
    by_cases e1 : kind = 1
    · rw [if_pos e1] at hQ ⊢
      simp (disch := omega) only [sQ_violates_94, sQ_violates_96, sQ_violates_99, sQ_violates_101, ax_clr_i, ax_clr_l, ax_clr_r, ax_clr_n, ax_ct_0, ax_ct_i, ax_ct_l, ax_ct_r, va_rf_s, Option.toList_some, Option.toList_none, List.cons_append, List.nil_append, and_true, true_and, and_self, ite_true, ite_false, if_true, if_false, Nat.reduceAdd, Nat.reduceLeDiff, Nat.reduceMul, Nat.reduceLT, nI_add, pk_mul, nI_lt', nI_le', nI_eq', nI_lt0, nI_ge0, nI_eq0, nI_gt0, nI_le0, nI_ne_m1, m1_ne_nI, m1_lt_nI, m1_le_nI, nI_lt_m1, nI_le_m1, nI_clamp, ax_in_nI, nI_shl, nI_shr, lg_cmp0, nx_and, nI_eq1, bI_0, bI_1, bf_or, eq_self, or_true, true_or]
      have no : ∀ h3, frV h h3 → bP = true ∨ bQ = true ∨ mtc (pA ps p) (oOf us c i).2.2.1 = false → ax_wp kM (d + 9) mQ_violates 123 [some (.ref 0), some (.int (nI r)), some (.int (nI c)), some (.int (nI i)), some (.int (nI p)), some (.int (nI q)), some (.int (bI bP)), some (.int (bI bQ)), none] [] h3 Q := fun h3 f3 w => by
        simp (disch := omega) only [sQ_violates_123, sQ_violates_124, ax_clr_i, ax_clr_l, ax_clr_r, ax_clr_n, ax_ct_0, ax_ct_i, ax_ct_l, ax_ct_r, va_rf_s, Option.toList_some, Option.toList_none, List.cons_append, List.nil_append, and_true, true_and, and_self, ite_true, ite_false, if_true, if_false, Nat.reduceAdd, Nat.reduceLeDiff, Nat.reduceMul, Nat.reduceLT, nI_add, pk_mul, nI_lt', nI_le', nI_eq', nI_lt0, nI_ge0, nI_eq0, nI_gt0, nI_le0, nI_ne_m1, m1_ne_nI, m1_lt_nI, m1_le_nI, nI_lt_m1, nI_le_m1, nI_clamp, ax_in_nI, nI_shl, nI_shr, lg_cmp0, nx_and, nI_eq1, bI_0, bI_1, bf_or, eq_self, or_true, true_or]
        have q9 := hQ h3 f3
        have e : (!bP && (!bQ && mtc (pA ps p) (oOf us c i).2.2.1)) = false := by
          rcases w with w | w | w <;> simp [w]
        rw [e] at q9; exact q9
      by_cases e2 : bP = true
      · rw [if_neg (by simp [e2])]; exact no h2 f12.v (Or.inl e2)
      · rw [if_pos (bI_c e2)]
        by_cases e3 : bQ = true
        · rw [if_neg (by simp [e3])]; exact no h2 f12.v (Or.inr (Or.inl e3))
        · rw [if_pos (bI_c e3)]
          simp (disch := omega) only [sQ_violates_104, sQ_violates_105, sQ_violates_107, sQ_violates_108, sQ_violates_111, sQ_violates_112, sQ_violates_113, ax_clr_i, ax_clr_l, ax_clr_r, ax_clr_n, ax_ct_0, ax_ct_i, ax_ct_l, ax_ct_r, va_rf_s, Option.toList_some, Option.toList_none, List.cons_append, List.nil_append, and_true, true_and, and_self, ite_true, ite_false, if_true, if_false, Nat.reduceAdd, Nat.reduceLeDiff, Nat.reduceMul, Nat.reduceLT, nI_add, pk_mul, nI_lt', nI_le', nI_eq', nI_lt0, nI_ge0, nI_eq0, nI_gt0, nI_le0, nI_ne_m1, m1_ne_nI, m1_lt_nI, m1_le_nI, nI_lt_m1, nI_le_m1, nI_clamp, ax_in_nI, nI_shl, nI_shr, lg_cmp0, nx_and, nI_eq1, bI_0, bI_1, bf_or, eq_self, or_true, true_or, lt_T, le_T, lt_F, le_F, eq_F, eq_T, kdM_0, kdM_1, kdM_2, kdM_3, kdM_4, kdM_5, kdM_6, kdM_7, kdM_8, kdM_9, kdM_10, kdM_11, kdM_12, kdM_13, kdM_14, kdM_15, kdM_16, kdM_17, kdM_18, kdM_19, kdM_20, kdM_21, kdM_22, kdM_23, kdM_24, rM_0, rM_1, rM_5, rM_6, rM_7, rM_10, rM_11, rM_12, rM_13, rM_14, rM_15, rM_16, rM_18, rM_19, rM_20, rM_21, rM_23, rM_24, rM_25, rM_26, rM_28, rM_29, rM_30, rM_31, hr2, o3]
          refine mQ_fitsName_ (d := d + 7) hr2 p (by omega) (pA ps p) _ (hp2.2.2.1 p k4.1) hv.2.1 (fun h3 f3 => ?_)
          have f13 := f12.tr f3
          simp (disch := omega) only [sQ_violates_116, ax_clr_i, ax_clr_l, ax_clr_r, ax_clr_n, ax_ct_0, ax_ct_i, ax_ct_l, ax_ct_r, va_rf_s, Option.toList_some, Option.toList_none, List.cons_append, List.nil_append, and_true, true_and, and_self, ite_true, ite_false, if_true, if_false, Nat.reduceAdd, Nat.reduceLeDiff, Nat.reduceMul, Nat.reduceLT, nI_add, pk_mul, nI_lt', nI_le', nI_eq', nI_lt0, nI_ge0, nI_eq0, nI_gt0, nI_le0, nI_ne_m1, m1_ne_nI, m1_lt_nI, m1_le_nI, nI_lt_m1, nI_le_m1, nI_clamp, ax_in_nI, nI_shl, nI_shr, lg_cmp0, nx_and, nI_eq1, bI_0, bI_1, bf_or, eq_self, or_true, true_or]
          by_cases e4 : mtc (pA ps p) (ocA (ocU (uAt us c)) i).2.2.1 = true
          · rw [if_neg (by simp [e4])]
            simp (disch := omega) only [sQ_violates_119, sQ_violates_120, sQ_violates_123, sQ_violates_124, ax_clr_i, ax_clr_l, ax_clr_r, ax_clr_n, ax_ct_0, ax_ct_i, ax_ct_l, ax_ct_r, va_rf_s, Option.toList_some, Option.toList_none, List.cons_append, List.nil_append, and_true, true_and, and_self, ite_true, ite_false, if_true, if_false, Nat.reduceAdd, Nat.reduceLeDiff, Nat.reduceMul, Nat.reduceLT, nI_add, pk_mul, nI_lt', nI_le', nI_eq', nI_lt0, nI_ge0, nI_eq0, nI_gt0, nI_le0, nI_ne_m1, m1_ne_nI, m1_lt_nI, m1_le_nI, nI_lt_m1, nI_le_m1, nI_clamp, ax_in_nI, nI_shl, nI_shr, lg_cmp0, nx_and, nI_eq1, bI_0, bI_1, bf_or, eq_self, or_true, true_or]
            have q9 := hQ h3 f13.v
            have e : (!bP && (!bQ && mtc (pA ps p) (oOf us c i).2.2.1)) = true := by
              unfold oOf; simp [e2, e3, e4]
            rw [e] at q9; exact q9
          · rw [if_pos (bI_c e4)]; exact no h3 f13.v (Or.inr (Or.inr (bI_c e4)))
    · rw [if_neg e1] at hQ ⊢
      simp (disch := omega) only [sQ_violates_125, sQ_violates_127, ax_clr_i, ax_clr_l, ax_clr_r, ax_clr_n, ax_ct_0, ax_ct_i, ax_ct_l, ax_ct_r, va_rf_s, Option.toList_some, Option.toList_none, List.cons_append, List.nil_append, and_true, true_and, and_self, ite_true, ite_false, if_true, if_false, Nat.reduceAdd, Nat.reduceLeDiff, Nat.reduceMul, Nat.reduceLT, nI_add, pk_mul, nI_lt', nI_le', nI_eq', nI_lt0, nI_ge0, nI_eq0, nI_gt0, nI_le0, nI_ne_m1, m1_ne_nI, m1_lt_nI, m1_le_nI, nI_lt_m1, nI_le_m1, nI_clamp, ax_in_nI, nI_shl, nI_shr, lg_cmp0, nx_and, nI_eq1, bI_0, bI_1, bf_or, eq_self, or_true, true_or]
      have no : ∀ h3 y8, frV h h3 → (∀ h', frV h h' → Q (some (.int (bI false))) h') → ax_wp kM (d + 9) mQ_violates 184 [some (.ref 0), some (.int (nI r)), some (.int (nI c)), some (.int (nI i)), some (.int (nI p)), some (.int (nI q)), some (.int (bI bP)), some (.int (bI bQ)), some (.int y8)] [] h3 Q := fun h3 y8 f3 w => by
        simp (disch := omega) only [sQ_violates_184, sQ_violates_185, ax_clr_i, ax_clr_l, ax_clr_r, ax_clr_n, ax_ct_0, ax_ct_i, ax_ct_l, ax_ct_r, va_rf_s, Option.toList_some, Option.toList_none, List.cons_append, List.nil_append, and_true, true_and, and_self, ite_true, ite_false, if_true, if_false, Nat.reduceAdd, Nat.reduceLeDiff, Nat.reduceMul, Nat.reduceLT, nI_add, pk_mul, nI_lt', nI_le', nI_eq', nI_lt0, nI_ge0, nI_eq0, nI_gt0, nI_le0, nI_ne_m1, m1_ne_nI, m1_lt_nI, m1_le_nI, nI_lt_m1, nI_le_m1, nI_clamp, ax_in_nI, nI_shl, nI_shr, lg_cmp0, nx_and, nI_eq1, bI_0, bI_1, bf_or, eq_self, or_true, true_or]
        exact w h3 f3
      by_cases e2 : bQ = true
      · rw [if_pos e2] at hQ
        rw [if_neg (by simp [e2])]
        simp (disch := omega) only [sQ_violates_130, sQ_violates_131, sQ_violates_156, sQ_violates_158, sQ_violates_160, ax_clr_i, ax_clr_l, ax_clr_r, ax_clr_n, ax_ct_0, ax_ct_i, ax_ct_l, ax_ct_r, va_rf_s, Option.toList_some, Option.toList_none, List.cons_append, List.nil_append, and_true, true_and, and_self, ite_true, ite_false, if_true, if_false, Nat.reduceAdd, Nat.reduceLeDiff, Nat.reduceMul, Nat.reduceLT, nI_add, pk_mul, nI_lt', nI_le', nI_eq', nI_lt0, nI_ge0, nI_eq0, nI_gt0, nI_le0, nI_ne_m1, m1_ne_nI, m1_lt_nI, m1_le_nI, nI_lt_m1, nI_le_m1, nI_clamp, ax_in_nI, nI_shl, nI_shr, lg_cmp0, nx_and, nI_eq1, bI_0, bI_1, bf_or, eq_self, or_true, true_or]
        rw [if_pos (by decide)]
        exact no h2 _ f12.v hQ
      · rw [if_neg e2] at hQ
        rw [if_pos (bI_c e2)]
        have v1 := hv.1
        simp (disch := omega) only [sQ_violates_134, sQ_violates_135, sQ_violates_136, sQ_violates_139, sQ_violates_140, sQ_violates_141, sQ_violates_142, sQ_violates_145, sQ_violates_146, sQ_violates_147, sQ_violates_148, sQ_violates_151, sQ_violates_152, sQ_violates_153, ax_clr_i, ax_clr_l, ax_clr_r, ax_clr_n, ax_ct_0, ax_ct_i, ax_ct_l, ax_ct_r, va_rf_s, Option.toList_some, Option.toList_none, List.cons_append, List.nil_append, and_true, true_and, and_self, ite_true, ite_false, if_true, if_false, Nat.reduceAdd, Nat.reduceLeDiff, Nat.reduceMul, Nat.reduceLT, nI_add, pk_mul, nI_lt', nI_le', nI_eq', nI_lt0, nI_ge0, nI_eq0, nI_gt0, nI_le0, nI_ne_m1, m1_ne_nI, m1_lt_nI, m1_le_nI, nI_lt_m1, nI_le_m1, nI_clamp, ax_in_nI, nI_shl, nI_shr, lg_cmp0, nx_and, nI_eq1, bI_0, bI_1, bf_or, eq_self, or_true, true_or, lt_T, le_T, lt_F, le_F, eq_F, eq_T, kdM_0, kdM_1, kdM_2, kdM_3, kdM_4, kdM_5, kdM_6, kdM_7, kdM_8, kdM_9, kdM_10, kdM_11, kdM_12, kdM_13, kdM_14, kdM_15, kdM_16, kdM_17, kdM_18, kdM_19, kdM_20, kdM_21, kdM_22, kdM_23, kdM_24, rM_0, rM_1, rM_5, rM_6, rM_7, rM_10, rM_11, rM_12, rM_13, rM_14, rM_15, rM_16, rM_18, rM_19, rM_20, rM_21, rM_23, rM_24, rM_25, rM_26, rM_28, rM_29, rM_30, rM_31, hr2, o1, o3, o4]
        refine mQ_targetOf_ hc2 _ (by omega) _ _ hv.2.1 hv.2.2.2 (fun h3 f3 => ?_)
        have f13 := f12.v.tr f3.v
        have hc3 := hc2.frX f3
        have hp3 := hp2.a f3.a
        have q9 := fun h' f => hQ h' f
        unfold oOf at q9
        simp (disch := omega) only [sQ_violates_156, sQ_violates_158, sQ_violates_160, ax_clr_i, ax_clr_l, ax_clr_r, ax_clr_n, ax_ct_0, ax_ct_i, ax_ct_l, ax_ct_r, va_rf_s, Option.toList_some, Option.toList_none, List.cons_append, List.nil_append, and_true, true_and, and_self, ite_true, ite_false, if_true, if_false, Nat.reduceAdd, Nat.reduceLeDiff, Nat.reduceMul, Nat.reduceLT]
        cases ht : tgtU us (ocA (ocU (uAt us c)) i).1 (ocA (ocU (uAt us c)) i).2.2.1 (ocA (ocU (uAt us c)) i).2.2.2 with
        | none =>
          rw [ht] at q9
          rw [oI_n, if_pos (by decide)]
          exact no h3 _ f13 q9
        | some to =>
          rw [ht] at q9
          dsimp only at q9
          have htl := tgtU_lt ht
          rw [oI_s, if_neg (by rw [nI_lt0 (by omega)]; simp)]
          simp (disch := omega) only [sQ_violates_163, sQ_violates_165, sQ_violates_166, ax_clr_i, ax_clr_l, ax_clr_r, ax_clr_n, ax_ct_0, ax_ct_i, ax_ct_l, ax_ct_r, va_rf_s, Option.toList_some, Option.toList_none, List.cons_append, List.nil_append, and_true, true_and, and_self, ite_true, ite_false, if_true, if_false, Nat.reduceAdd, Nat.reduceLeDiff, Nat.reduceMul, Nat.reduceLT, nI_add, pk_mul, nI_lt', nI_le', nI_eq', nI_lt0, nI_ge0, nI_eq0, nI_gt0, nI_le0, nI_ne_m1, m1_ne_nI, m1_lt_nI, m1_le_nI, nI_lt_m1, nI_le_m1, nI_clamp, ax_in_nI, nI_shl, nI_shr, lg_cmp0, nx_and, nI_eq1, bI_0, bI_1, bf_or, eq_self, or_true, true_or]
          by_cases e3 : to = c
          · rw [if_pos e3]
            refine no h3 _ f13 (fun h' f => ?_)
            have q8 := q9 h' f
            rw [decide_eq_true e3] at q8; exact q8
          · rw [if_neg e3]
            rw [decide_eq_false e3] at q9
            simp (disch := omega) only [sQ_violates_169, sQ_violates_170, sQ_violates_172, sQ_violates_174, ax_clr_i, ax_clr_l, ax_clr_r, ax_clr_n, ax_ct_0, ax_ct_i, ax_ct_l, ax_ct_r, va_rf_s, Option.toList_some, Option.toList_none, List.cons_append, List.nil_append, and_true, true_and, and_self, ite_true, ite_false, if_true, if_false, Nat.reduceAdd, Nat.reduceLeDiff, Nat.reduceMul, Nat.reduceLT, kdM_0, kdM_1, kdM_2, kdM_3, kdM_4, kdM_5, kdM_6, kdM_7, kdM_8, kdM_9, kdM_10, kdM_11, kdM_12, kdM_13, kdM_14, kdM_15, kdM_16, kdM_17, kdM_18, kdM_19, kdM_20, kdM_21, kdM_22, kdM_23, kdM_24, rM_0, rM_1, rM_5, rM_6, rM_7, rM_10, rM_11, rM_12, rM_13, rM_14, rM_15, rM_16, rM_18, rM_19, rM_20, rM_21, rM_23, rM_24, rM_25, rM_26, rM_28, rM_29, rM_30, rM_31]
            refine mQ_fits_s (d := d + 4) hc3 hp3 p to k4.1 htl (fun h4 f4 => ?_)
            have f14 := f13.tr f4.v
            simp (disch := omega) only [sQ_violates_177, ax_clr_i, ax_clr_l, ax_clr_r, ax_clr_n, ax_ct_0, ax_ct_i, ax_ct_l, ax_ct_r, va_rf_s, Option.toList_some, Option.toList_none, List.cons_append, List.nil_append, and_true, true_and, and_self, ite_true, ite_false, if_true, if_false, Nat.reduceAdd, Nat.reduceLeDiff, Nat.reduceMul, Nat.reduceLT, nI_add, pk_mul, nI_lt', nI_le', nI_eq', nI_lt0, nI_ge0, nI_eq0, nI_gt0, nI_le0, nI_ne_m1, m1_ne_nI, m1_lt_nI, m1_le_nI, nI_lt_m1, nI_le_m1, nI_clamp, ax_in_nI, nI_shl, nI_shr, lg_cmp0, nx_and, nI_eq1, bI_0, bI_1, bf_or, eq_self, or_true, true_or]
            by_cases e4 : mtc (pA ps p) (ownU (uAt us to)) = true
            · rw [if_neg (by simp [e4])]
              simp (disch := omega) only [sQ_violates_180, sQ_violates_181, sQ_violates_184, sQ_violates_185, ax_clr_i, ax_clr_l, ax_clr_r, ax_clr_n, ax_ct_0, ax_ct_i, ax_ct_l, ax_ct_r, va_rf_s, Option.toList_some, Option.toList_none, List.cons_append, List.nil_append, and_true, true_and, and_self, ite_true, ite_false, if_true, if_false, Nat.reduceAdd, Nat.reduceLeDiff, Nat.reduceMul, Nat.reduceLT, nI_add, pk_mul, nI_lt', nI_le', nI_eq', nI_lt0, nI_ge0, nI_eq0, nI_gt0, nI_le0, nI_ne_m1, m1_ne_nI, m1_lt_nI, m1_le_nI, nI_lt_m1, nI_le_m1, nI_clamp, ax_in_nI, nI_shl, nI_shr, lg_cmp0, nx_and, nI_eq1, bI_0, bI_1, bf_or, eq_self, or_true, true_or]
              have q8 := q9 h4 f14
              rw [e4] at q8; exact q8
            · rw [if_pos (bI_c e4)]
              refine no h4 _ f14 (fun h' f => ?_)
              have q8 := q9 h' f
              rw [bI_c e4] at q8; exact q8
end MV
