/-! the model: name, fits, type, pattern, rule -/
def aName (us : List (List Nat)) (x y : Int32) : Int32 := match ixN x us.length with
  | none => -1
  | some c => match ixN y (ownU (uAt us c)).length with
    | none => -1
    | some j => nI (chr (bg (ownU (uAt us c)) j))
def aFits (us ps : List (List Nat)) (x y : Int32) : Bool := match ixN x ps.length with
  | none => false
  | some p => match ixN y us.length with
    | none => false
    | some c => mtc (pA ps p) (ownU (uAt us c))
def oTyp (ty : List Nat) (n : Nat) : Bool := decide (¬ cod n = 0 ∧ ty.length < 10)
def nTyp (ty : List Nat) (n : Nat) : List Nat := if oTyp ty n = true then ty ++ [cod n] else ty
theorem lt_not {x : Int32} {n : Nat} (h : ¬ (0 ≤ x ∧ x < nI n)) (h0 : ¬ x < 0) : nI n ≤ x := by
  rw [← Int32.not_lt]; exact fun q => h ⟨Int32.not_lt.mp h0, q⟩
theorem chr_cod : ∀ x, x < 256 → (isLt x = true ∨ x = 46) → chr (cod x) = x := by decide +kernel
theorem txt_at {u : List Nat} {p j : Nat} (hj : j < bg u (p + 1)) : bg (txt u p) j = cod (bg u (p + 2 + j)) := by
  show ((List.range (bg u (p + 1))).map (fun i => cod (bg u (p + 2 + i)))).getD j 0 = _
  rw [List.getD_eq_getElem?_getD, List.getElem?_map, List.getElem?_range hj]
  rfl
section MP
variable {d : Nat} {Q : Option Value → ax_H → Prop} {us ps : List (List Nat)} {ty : List Nat} {rs : List rl4}
theorem mQ_name_ {h : ax_H} (hc : clsM h us) (x y : Int32) (hQ : Q (some (.int (aName us x y))) h) : ax_wp kM (d + 2) mQ_name 0 [some (.ref 0), some (.int x), some (.int y), none] [] h Q := by
  have h12 := hc.2.2.1
  unfold aName at hQ
  cases e : ixN x us.length with
  | none =>
    rw [e] at hQ
    simp (disch := omega) only [sQ_name_0, sQ_name_1, sQ_name_2, sQ_name_5, sQ_name_8, sQ_name_9, sQ_name_12, sQ_name_13, ax_clr_i, ax_clr_l, ax_clr_r, ax_clr_n, ax_ct_0, ax_ct_i, ax_ct_l, ax_ct_r, va_rf_s, Option.toList_some, Option.toList_none, List.cons_append, List.nil_append, and_true, true_and, and_self, ite_true, ite_false, if_true, if_false, Nat.reduceAdd, Nat.reduceLeDiff, Nat.reduceMul, Nat.reduceLT, nI_add, pk_mul, nI_lt', nI_le', nI_eq', nI_lt0, nI_ge0, nI_eq0, nI_gt0, nI_le0, nI_ne_m1, m1_ne_nI, m1_lt_nI, m1_le_nI, nI_lt_m1, nI_le_m1, nI_clamp, ax_in_nI, nI_shl, nI_shr, lg_cmp0, nx_and, nI_eq1, bI_0, bI_1, bf_or, eq_self, or_true, true_or, kdM_0, kdM_1, kdM_2, kdM_3, kdM_4, kdM_5, kdM_6, kdM_7, kdM_8, kdM_9, kdM_10, kdM_11, kdM_12, kdM_13, kdM_14, kdM_15, kdM_16, kdM_17, kdM_18, kdM_19, kdM_20, kdM_21, kdM_22, kdM_23, kdM_24, rM_0, rM_1, rM_5, rM_6, rM_7, rM_10, rM_11, rM_12, rM_13, rM_14, rM_15, rM_16, rM_18, rM_19, rM_20, rM_21, rM_23, rM_24, rM_25, rM_26, rM_28, rM_29, rM_30, rM_31, mQ_isClass_n hc x e]
    exact hQ
  | some c =>
    obtain ⟨a1, rfl⟩ := ixN_some (by omega) e
    rw [e] at hQ
    dsimp only at hQ
    have hu := (hc.2.2.2.2 c a1).1
    have hk := (hc.2.2.2.2 c a1).2
    have hr := hu.1
    have hz := hu.2.1
    have kk := hk.rest
    have k1 := hk.cls kk.1
    obtain ⟨q1, q2, q3, q4, q5, q6, q7⟩ := tgU_at hk.1 (k := bg (uAt us c) (hdU (uAt us c))) (by rw [kk.1]; decide)
    obtain ⟨r1, r2, r3, r4, r5, r6, r7⟩ := tgU_at hk.1 (k := bg (uAt us c) (cAt (uAt us c) (bg (uAt us c) (hdU (uAt us c))) + 1)) (by rw [k1.1]; decide)
    obtain ⟨g1, g2, g3⟩ := r7 k1.1
    have hbt := hu.lt
    generalize hu9 : uAt us c = u at *
    have hown : ownU u = txt u (cAt u (bg u (cAt u (bg u (hdU u)) + 1))) := rfl
    generalize hp : cAt u (bg u (cAt u (bg u (hdU u)) + 1)) = p at *
    have hlen : (ownU u).length = bg u (p + 1) := by rw [hown]; simp [txt]
    have g4 : p + 2 + bg u (p + 1) ≤ u.length := by
      unfold clen at r6; rw [← r4, if_pos k1.1] at r6; omega
    have q8 : cAt u (bg u (hdU u)) + 1 < u.length := by have := clen_pos u (cAt u (bg u (hdU u))); omega
    have c1 := hu.2.2.1 (hdU u) (by omega)
    have c2 := hu.2.2.1 (cAt u (bg u (hdU u)) + 1) (by omega)
    have c3 := hu.2.2.1 (p + 1) (by omega)
    rw [← Nat.add_assoc] at c2 c3
    have hn := hk.1.2.1
    have m1 := fun (Q : Option Value → ax_H → Prop) => mQ_headOf_ (d := d) (Q := Q) hu (by omega) hk.1
    simp only [show cAt u (bg u 1 + 1) = hdU u from rfl] at m1
    have m2 := fun (Q : Option Value → ax_H → Prop) => mQ_constantAt_ (d := d + 1) (Q := Q) hu (by omega) (bg u 1) (bg u (hdU u)) (by omega) hk.1.2.1 hk.1.2.2 hk.1.1
    have m3 := fun (Q : Option Value → ax_H → Prop) => mQ_constantAt_ (d := d + 1) (Q := Q) hu (by omega) (bg u 1) (bg u (cAt u (bg u (hdU u)) + 1)) (by omega) hk.1.2.1 hk.1.2.2 hk.1.1
    simp (disch := omega) only [sQ_name_0, sQ_name_1, sQ_name_2, sQ_name_5, sQ_name_8, sQ_name_9, ax_clr_i, ax_clr_l, ax_clr_r, ax_clr_n, ax_ct_0, ax_ct_i, ax_ct_l, ax_ct_r, va_rf_s, Option.toList_some, Option.toList_none, List.cons_append, List.nil_append, and_true, true_and, and_self, ite_true, ite_false, if_true, if_false, Nat.reduceAdd, Nat.reduceLeDiff, Nat.reduceMul, Nat.reduceLT, bI_0, kdM_0, kdM_1, kdM_2, kdM_3, kdM_4, kdM_5, kdM_6, kdM_7, kdM_8, kdM_9, kdM_10, kdM_11, kdM_12, kdM_13, kdM_14, kdM_15, kdM_16, kdM_17, kdM_18, kdM_19, kdM_20, kdM_21, kdM_22, kdM_23, kdM_24, rM_0, rM_1, rM_5, rM_6, rM_7, rM_10, rM_11, rM_12, rM_13, rM_14, rM_15, rM_16, rM_18, rM_19, rM_20, rM_21, rM_23, rM_24, rM_25, rM_26, rM_28, rM_29, rM_30, rM_31, mQ_isClass_s hc c a1, Bool.true_eq_false]
    by_cases e3 : 0 ≤ y
    · rw [if_pos e3]
      simp (disch := omega) only [sQ_name_14, sQ_name_15, sQ_name_16, sQ_name_17, sQ_name_20, sQ_name_21, sQ_name_22, sQ_name_23, sQ_name_26, sQ_name_27, sQ_name_28, sQ_name_31, sQ_name_32, sQ_name_35, sQ_name_36, sQ_name_37, sQ_name_38, sQ_name_41, sQ_name_42, sQ_name_43, sQ_name_44, sQ_name_47, sQ_name_48, sQ_name_49, sQ_name_50, sQ_name_51, ax_clr_i, ax_clr_l, ax_clr_r, ax_clr_n, ax_ct_0, ax_ct_i, ax_ct_l, ax_ct_r, va_rf_s, Option.toList_some, Option.toList_none, List.cons_append, List.nil_append, and_true, true_and, and_self, ite_true, ite_false, if_true, if_false, Nat.reduceAdd, Nat.reduceLeDiff, Nat.reduceMul, Nat.reduceLT, kdM_0, kdM_1, kdM_2, kdM_3, kdM_4, kdM_5, kdM_6, kdM_7, kdM_8, kdM_9, kdM_10, kdM_11, kdM_12, kdM_13, kdM_14, kdM_15, kdM_16, kdM_17, kdM_18, kdM_19, kdM_20, kdM_21, kdM_22, kdM_23, kdM_24, rM_0, rM_1, rM_5, rM_6, rM_7, rM_10, rM_11, rM_12, rM_13, rM_14, rM_15, rM_16, rM_18, rM_19, rM_20, rM_21, rM_23, rM_24, rM_25, rM_26, rM_28, rM_29, rM_30, rM_31, hr, c1, c2, c3, m1, m2, m3, hp, nI_add, nI_clamp, ax_in_nI, lt_T]
      cases e4 : ixN y (ownU u).length with
      | none =>
        rw [e4] at hQ
        have e5 := ixN_none e4
        rw [hlen] at e5
        rw [if_pos (lt_not e5 (by rw [Int32.not_lt]; exact e3))]
        simp (disch := omega) only [sQ_name_67, sQ_name_68, ax_clr_i, ax_clr_l, ax_clr_r, ax_clr_n, ax_ct_0, ax_ct_i, ax_ct_l, ax_ct_r, va_rf_s, Option.toList_some, Option.toList_none, List.cons_append, List.nil_append, and_true, true_and, and_self, ite_true, ite_false, if_true, if_false, Nat.reduceAdd, Nat.reduceLeDiff, Nat.reduceMul, Nat.reduceLT]
        exact hQ
      | some j =>
        obtain ⟨b1, rfl⟩ := ixN_some (by rw [hlen]; omega) e4
        rw [e4] at hQ
        dsimp only at hQ
        rw [hlen] at b1
        have c4 := hu.2.2.1 (p + 2 + j) (by omega)
        rw [← Nat.add_assoc, ← Nat.add_assoc] at c4
        rw [if_neg (by rw [nI_leI (by omega) (by omega)]; omega)]
        simp (disch := omega) only [sQ_name_54, sQ_name_55, sQ_name_58, sQ_name_59, sQ_name_60, sQ_name_61, sQ_name_62, sQ_name_63, sQ_name_64, sQ_name_67, sQ_name_68, ax_clr_i, ax_clr_l, ax_clr_r, ax_clr_n, ax_ct_0, ax_ct_i, ax_ct_l, ax_ct_r, va_rf_s, Option.toList_some, Option.toList_none, List.cons_append, List.nil_append, and_true, true_and, and_self, ite_true, ite_false, if_true, if_false, Nat.reduceAdd, Nat.reduceLeDiff, Nat.reduceMul, Nat.reduceLT, kdM_0, kdM_1, kdM_2, kdM_3, kdM_4, kdM_5, kdM_6, kdM_7, kdM_8, kdM_9, kdM_10, kdM_11, kdM_12, kdM_13, kdM_14, kdM_15, kdM_16, kdM_17, kdM_18, kdM_19, kdM_20, kdM_21, kdM_22, kdM_23, kdM_24, rM_0, rM_1, rM_5, rM_6, rM_7, rM_10, rM_11, rM_12, rM_13, rM_14, rM_15, rM_16, rM_18, rM_19, rM_20, rM_21, rM_23, rM_24, rM_25, rM_26, rM_28, rM_29, rM_30, rM_31, hr, c4, nI_add, nI_clamp, ax_in_nI, lt_T]
        have e6 : bg (ownU u) j = cod (bg u (p + 2 + j)) := by rw [hown, txt_at b1]
        rw [e6, chr_cod _ (hbt _) (g3 j b1)] at hQ
        exact hQ
    · have e5 : ixN y (ownU u).length = none := by unfold ixN; rw [if_neg (fun q => e3 q.1)]
      rw [e5] at hQ
      rw [if_neg e3]
      simp (disch := omega) only [sQ_name_12, sQ_name_13, ax_clr_i, ax_clr_l, ax_clr_r, ax_clr_n, ax_ct_0, ax_ct_i, ax_ct_l, ax_ct_r, va_rf_s, Option.toList_some, Option.toList_none, List.cons_append, List.nil_append, and_true, true_and, and_self, ite_true, ite_false, if_true, if_false, Nat.reduceAdd, Nat.reduceLeDiff, Nat.reduceMul, Nat.reduceLT]
      exact hQ
theorem mQ_fits_s {h : ax_H} (hc : clsM h us) (hp : patM h ps ty) (p c : Nat) (h1 : p < ps.length) (h2 : c < us.length) (hQ : ∀ h', frL h h' → Q (some (.int (bI (mtc (pA ps p) (ownU (uAt us c)))))) h') : ax_wp kM (d + 4) mQ_fits 0 [some (.ref 0), some (.int (nI p)), some (.int (nI c))] [] h Q := by
  have h12 := hc.2.2.1
  have h6 := hp.2.1
  have p1 := hp.1
  simp (disch := omega) only [sQ_fits_0, sQ_fits_1, sQ_fits_4, sQ_fits_5, sQ_fits_6, sQ_fits_9, sQ_fits_12, sQ_fits_13, sQ_fits_14, sQ_fits_17, sQ_fits_20, sQ_fits_21, sQ_fits_22, sQ_fits_23, sQ_fits_24, sQ_fits_27, ax_clr_i, ax_clr_l, ax_clr_r, ax_clr_n, ax_ct_0, ax_ct_i, ax_ct_l, ax_ct_r, va_rf_s, Option.toList_some, Option.toList_none, List.cons_append, List.nil_append, and_true, true_and, and_self, ite_true, ite_false, if_true, if_false, Nat.reduceAdd, Nat.reduceLeDiff, Nat.reduceMul, Nat.reduceLT, bI_0, nI_lt0, nI_le', p1, le_F, kdM_0, kdM_1, kdM_2, kdM_3, kdM_4, kdM_5, kdM_6, kdM_7, kdM_8, kdM_9, kdM_10, kdM_11, kdM_12, kdM_13, kdM_14, kdM_15, kdM_16, kdM_17, kdM_18, kdM_19, kdM_20, kdM_21, kdM_22, kdM_23, kdM_24, rM_0, rM_1, rM_5, rM_6, rM_7, rM_10, rM_11, rM_12, rM_13, rM_14, rM_15, rM_16, rM_18, rM_19, rM_20, rM_21, rM_23, rM_24, rM_25, rM_26, rM_28, rM_29, rM_30, rM_31, mQ_isClass_s hc c h2, Bool.true_eq_false, mQ_ownName_ (hc.2.2.2.2 c h2).1 (by omega) (hc.2.2.2.2 c h2).2]
  refine mQ_fitsName_ hc.1 p (by omega) (pA ps p) _ (hp.2.2.1 p h1) (hc.vT h2) (fun h' f => ?_)
  have q := hQ h' f
  by_cases e : mtc (pA ps p) (ownU (uAt us c)) = true
  · rw [e] at q ⊢
    simp (disch := omega) only [sQ_fits_30, sQ_fits_33, sQ_fits_34, sQ_fits_37, sQ_fits_38, ax_clr_i, ax_clr_l, ax_clr_r, ax_clr_n, ax_ct_0, ax_ct_i, ax_ct_l, ax_ct_r, va_rf_s, Option.toList_some, Option.toList_none, List.cons_append, List.nil_append, and_true, true_and, and_self, ite_true, ite_false, if_true, if_false, Nat.reduceAdd, Nat.reduceLeDiff, Nat.reduceMul, Nat.reduceLT, nI_add, pk_mul, nI_lt', nI_le', nI_eq', nI_lt0, nI_ge0, nI_eq0, nI_gt0, nI_le0, nI_ne_m1, m1_ne_nI, m1_lt_nI, m1_le_nI, nI_lt_m1, nI_le_m1, nI_clamp, ax_in_nI, nI_shl, nI_shr, lg_cmp0, nx_and, nI_eq1, bI_0, bI_1, bf_or, eq_self, or_true, true_or, Bool.true_eq_false]
    exact q
  · rw [bI_c e] at q ⊢
    simp (disch := omega) only [sQ_fits_30, sQ_fits_33, sQ_fits_34, sQ_fits_37, sQ_fits_38, ax_clr_i, ax_clr_l, ax_clr_r, ax_clr_n, ax_ct_0, ax_ct_i, ax_ct_l, ax_ct_r, va_rf_s, Option.toList_some, Option.toList_none, List.cons_append, List.nil_append, and_true, true_and, and_self, ite_true, ite_false, if_true, if_false, Nat.reduceAdd, Nat.reduceLeDiff, Nat.reduceMul, Nat.reduceLT, nI_add, pk_mul, nI_lt', nI_le', nI_eq', nI_lt0, nI_ge0, nI_eq0, nI_gt0, nI_le0, nI_ne_m1, m1_ne_nI, m1_lt_nI, m1_le_nI, nI_lt_m1, nI_le_m1, nI_clamp, ax_in_nI, nI_shl, nI_shr, lg_cmp0, nx_and, nI_eq1, bI_0, bI_1, bf_or, eq_self, or_true, true_or]
    exact q
theorem mQ_fits_ {h : ax_H} (hc : clsM h us) (hp : patM h ps ty) (x y : Int32) (hQ : ∀ h', frA h h' → Q (some (.int (bI (aFits us ps x y)))) h') : ax_wp kM (d + 4) mQ_fits 0 [some (.ref 0), some (.int x), some (.int y)] [] h Q := by
  have h12 := hc.2.2.1
  have h6 := hp.2.1
  have p1 := hp.1
  unfold aFits at hQ
  cases e : ixN x ps.length with
  | none =>
    rw [e] at hQ
    have e1 := ixN_none e
    simp (disch := omega) only [sQ_fits_0, sQ_fits_1, ax_clr_i, ax_clr_l, ax_clr_r, ax_clr_n, ax_ct_0, ax_ct_i, ax_ct_l, ax_ct_r, va_rf_s, Option.toList_some, Option.toList_none, List.cons_append, List.nil_append, and_true, true_and, and_self, ite_true, ite_false, if_true, if_false, Nat.reduceAdd, Nat.reduceLeDiff, Nat.reduceMul, Nat.reduceLT]
    by_cases e2 : x < 0
    · rw [if_pos e2]
      simp (disch := omega) only [sQ_fits_37, sQ_fits_38, ax_clr_i, ax_clr_l, ax_clr_r, ax_clr_n, ax_ct_0, ax_ct_i, ax_ct_l, ax_ct_r, va_rf_s, Option.toList_some, Option.toList_none, List.cons_append, List.nil_append, and_true, true_and, and_self, ite_true, ite_false, if_true, if_false, Nat.reduceAdd, Nat.reduceLeDiff, Nat.reduceMul, Nat.reduceLT, nI_add, pk_mul, nI_lt', nI_le', nI_eq', nI_lt0, nI_ge0, nI_eq0, nI_gt0, nI_le0, nI_ne_m1, m1_ne_nI, m1_lt_nI, m1_le_nI, nI_lt_m1, nI_le_m1, nI_clamp, ax_in_nI, nI_shl, nI_shr, lg_cmp0, nx_and, nI_eq1, bI_0, bI_1, bf_or, eq_self, or_true, true_or]
      exact hQ h frA.rf
    · rw [if_neg e2]
      simp (disch := omega) only [sQ_fits_4, sQ_fits_5, sQ_fits_6, sQ_fits_9, ax_clr_i, ax_clr_l, ax_clr_r, ax_clr_n, ax_ct_0, ax_ct_i, ax_ct_l, ax_ct_r, va_rf_s, Option.toList_some, Option.toList_none, List.cons_append, List.nil_append, and_true, true_and, and_self, ite_true, ite_false, if_true, if_false, Nat.reduceAdd, Nat.reduceLeDiff, Nat.reduceMul, Nat.reduceLT, p1, kdM_0, kdM_1, kdM_2, kdM_3, kdM_4, kdM_5, kdM_6, kdM_7, kdM_8, kdM_9, kdM_10, kdM_11, kdM_12, kdM_13, kdM_14, kdM_15, kdM_16, kdM_17, kdM_18, kdM_19, kdM_20, kdM_21, kdM_22, kdM_23, kdM_24, rM_0, rM_1, rM_5, rM_6, rM_7, rM_10, rM_11, rM_12, rM_13, rM_14, rM_15, rM_16, rM_18, rM_19, rM_20, rM_21, rM_23, rM_24, rM_25, rM_26, rM_28, rM_29, rM_30, rM_31]
      rw [if_pos (lt_not e1 e2)]
      simp (disch := omega) only [sQ_fits_37, sQ_fits_38, ax_clr_i, ax_clr_l, ax_clr_r, ax_clr_n, ax_ct_0, ax_ct_i, ax_ct_l, ax_ct_r, va_rf_s, Option.toList_some, Option.toList_none, List.cons_append, List.nil_append, and_true, true_and, and_self, ite_true, ite_false, if_true, if_false, Nat.reduceAdd, Nat.reduceLeDiff, Nat.reduceMul, Nat.reduceLT, nI_add, pk_mul, nI_lt', nI_le', nI_eq', nI_lt0, nI_ge0, nI_eq0, nI_gt0, nI_le0, nI_ne_m1, m1_ne_nI, m1_lt_nI, m1_le_nI, nI_lt_m1, nI_le_m1, nI_clamp, ax_in_nI, nI_shl, nI_shr, lg_cmp0, nx_and, nI_eq1, bI_0, bI_1, bf_or, eq_self, or_true, true_or]
      exact hQ h frA.rf
  | some p =>
    obtain ⟨a1, rfl⟩ := ixN_some (by omega) e
    rw [e] at hQ
    dsimp only at hQ
    cases e3 : ixN y us.length with
    | none =>
      rw [e3] at hQ
      simp (disch := omega) only [sQ_fits_0, sQ_fits_1, sQ_fits_4, sQ_fits_5, sQ_fits_6, sQ_fits_9, sQ_fits_12, sQ_fits_13, sQ_fits_14, sQ_fits_17, ax_clr_i, ax_clr_l, ax_clr_r, ax_clr_n, ax_ct_0, ax_ct_i, ax_ct_l, ax_ct_r, va_rf_s, Option.toList_some, Option.toList_none, List.cons_append, List.nil_append, and_true, true_and, and_self, ite_true, ite_false, if_true, if_false, Nat.reduceAdd, Nat.reduceLeDiff, Nat.reduceMul, Nat.reduceLT, bI_0, nI_lt0, nI_le', p1, le_F, kdM_0, kdM_1, kdM_2, kdM_3, kdM_4, kdM_5, kdM_6, kdM_7, kdM_8, kdM_9, kdM_10, kdM_11, kdM_12, kdM_13, kdM_14, kdM_15, kdM_16, kdM_17, kdM_18, kdM_19, kdM_20, kdM_21, kdM_22, kdM_23, kdM_24, rM_0, rM_1, rM_5, rM_6, rM_7, rM_10, rM_11, rM_12, rM_13, rM_14, rM_15, rM_16, rM_18, rM_19, rM_20, rM_21, rM_23, rM_24, rM_25, rM_26, rM_28, rM_29, rM_30, rM_31, mQ_isClass_n hc y e3]
      simp (disch := omega) only [sQ_fits_37, sQ_fits_38, ax_clr_i, ax_clr_l, ax_clr_r, ax_clr_n, ax_ct_0, ax_ct_i, ax_ct_l, ax_ct_r, va_rf_s, Option.toList_some, Option.toList_none, List.cons_append, List.nil_append, and_true, true_and, and_self, ite_true, ite_false, if_true, if_false, Nat.reduceAdd, Nat.reduceLeDiff, Nat.reduceMul, Nat.reduceLT, nI_add, pk_mul, nI_lt', nI_le', nI_eq', nI_lt0, nI_ge0, nI_eq0, nI_gt0, nI_le0, nI_ne_m1, m1_ne_nI, m1_lt_nI, m1_le_nI, nI_lt_m1, nI_le_m1, nI_clamp, ax_in_nI, nI_shl, nI_shr, lg_cmp0, nx_and, nI_eq1, bI_0, bI_1, bf_or, eq_self, or_true, true_or]
      exact hQ h frA.rf
    | some c =>
      obtain ⟨b1, rfl⟩ := ixN_some (by omega) e3
      rw [e3] at hQ
      exact mQ_fits_s hc hp p c a1 b1 (fun h' f => hQ h' f.a)
theorem mQ_isRule_ {h : ax_H} {n : Nat} (hr : rulM h n rs) (x : Int32) : ax_wp kM d mQ_isRule 0 [some (.ref 0), some (.int x)] [] h Q = Q (some (.int (bI (ixN x rs.length).isSome))) h := by
  have hn := hr.1
  have h6 := hr.2.1
  simp (disch := omega) only [sQ_isRule_0, sQ_isRule_1, sQ_isRule_4, sQ_isRule_5, sQ_isRule_6, sQ_isRule_9, ax_clr_i, ax_clr_l, ax_clr_r, ax_clr_n, ax_ct_0, ax_ct_i, ax_ct_l, ax_ct_r, va_rf_s, Option.toList_some, Option.toList_none, List.cons_append, List.nil_append, and_true, true_and, and_self, ite_true, ite_false, if_true, if_false, Nat.reduceAdd, Nat.reduceLeDiff, Nat.reduceMul, Nat.reduceLT, kdM_0, kdM_1, kdM_2, kdM_3, kdM_4, kdM_5, kdM_6, kdM_7, kdM_8, kdM_9, kdM_10, kdM_11, kdM_12, kdM_13, kdM_14, kdM_15, kdM_16, kdM_17, kdM_18, kdM_19, kdM_20, kdM_21, kdM_22, kdM_23, kdM_24, rM_0, rM_1, rM_5, rM_6, rM_7, rM_10, rM_11, rM_12, rM_13, rM_14, rM_15, rM_16, rM_18, rM_19, rM_20, rM_21, rM_23, rM_24, rM_25, rM_26, rM_28, rM_29, rM_30, rM_31, hn]
  have yes : ax_wp kM d mQ_isRule 12 [some (.ref 0), some (.int x)] [] h Q = Q (some (.int (nI 1))) h := by
    simp (disch := omega) only [sQ_isRule_12, sQ_isRule_13, sQ_isRule_16, sQ_isRule_17, ax_clr_i, ax_clr_l, ax_clr_r, ax_clr_n, ax_ct_0, ax_ct_i, ax_ct_l, ax_ct_r, va_rf_s, Option.toList_some, Option.toList_none, List.cons_append, List.nil_append, and_true, true_and, and_self, ite_true, ite_false, if_true, if_false, Nat.reduceAdd, Nat.reduceLeDiff, Nat.reduceMul, Nat.reduceLT, nI_add, pk_mul, nI_lt', nI_le', nI_eq', nI_lt0, nI_ge0, nI_eq0, nI_gt0, nI_le0, nI_ne_m1, m1_ne_nI, m1_lt_nI, m1_le_nI, nI_lt_m1, nI_le_m1, nI_clamp, ax_in_nI, nI_shl, nI_shr, lg_cmp0, nx_and, nI_eq1, bI_0, bI_1, bf_or, eq_self, or_true, true_or]
  have no : ax_wp kM d mQ_isRule 16 [some (.ref 0), some (.int x)] [] h Q = Q (some (.int (nI 0))) h := by
    simp (disch := omega) only [sQ_isRule_12, sQ_isRule_13, sQ_isRule_16, sQ_isRule_17, ax_clr_i, ax_clr_l, ax_clr_r, ax_clr_n, ax_ct_0, ax_ct_i, ax_ct_l, ax_ct_r, va_rf_s, Option.toList_some, Option.toList_none, List.cons_append, List.nil_append, and_true, true_and, and_self, ite_true, ite_false, if_true, if_false, Nat.reduceAdd, Nat.reduceLeDiff, Nat.reduceMul, Nat.reduceLT, nI_add, pk_mul, nI_lt', nI_le', nI_eq', nI_lt0, nI_ge0, nI_eq0, nI_gt0, nI_le0, nI_ne_m1, m1_ne_nI, m1_lt_nI, m1_le_nI, nI_lt_m1, nI_le_m1, nI_clamp, ax_in_nI, nI_shl, nI_shr, lg_cmp0, nx_and, nI_eq1, bI_0, bI_1, bf_or, eq_self, or_true, true_or]
  rw [yes, no]
  cases e : ixN x rs.length with
  | none =>
    have e1 := ixN_none e
    by_cases e2 : x < 0
    · rw [if_pos e2]; rfl
    · rw [if_neg e2, if_pos (lt_not e1 e2)]; rfl
  | some r =>
    obtain ⟨a1, rfl⟩ := ixN_some (by omega) e
    rw [if_neg (by rw [nI_lt0 (by omega)]; simp), if_neg (by rw [nI_leI (by omega) (by omega)]; omega)]; rfl
end MP
