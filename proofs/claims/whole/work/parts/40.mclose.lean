/-! the model: ways, closed -/
def wayM (h : ax_H) (w : Nat → Bool) : Prop := ∀ k, k < 144 → h.1 24 k = bI (w k)
def frW (h h' : ax_H) : Prop := h'.2 = h.2 ∧ ∀ r k, ¬ r = 24 → h'.1 r k = h.1 r k
theorem frW.rf {h : ax_H} : frW h h := ⟨rfl, fun _ _ _ => rfl⟩
theorem frW.tr {h h' h2 : ax_H} (a : frW h h') (b : frW h' h2) : frW h h2 := ⟨b.1.trans a.1, fun r k h1 => (b.2 r k h1).trans (a.2 r k h1)⟩
theorem frW.up {h : ax_H} {k : Nat} {x : Int32} : frW h (ax_upI h 24 k x) := ⟨rfl, fun r j h1 => by rw [up_I, if_neg (fun hh => h1 hh.1)]⟩
theorem clsM.frW {h h' : ax_H} {us : List (List Nat)} (hc : clsM h us) (f : frW h h') : clsM h' us := by
  obtain ⟨a1, a2, a3, a4, a5⟩ := hc
  refine ⟨by rw [f.1]; exact a1, ?_, a3, a4, fun c hc => ?_⟩
  · rw [f.2 _ _ (by omega)]; exact a2
  · obtain ⟨b1, b2, b3, b4⟩ := (a5 c hc).1
    exact ⟨⟨by rw [f.1]; exact b1, b2, fun j hj => by rw [f.2 _ _ (by omega)]; exact b3 j hj, b4⟩, (a5 c hc).2⟩
theorem ocM.frW {h h' : ax_H} {L : List oc4} (ho : ocM h L) (f : frW h h') : ocM h' L := by
  refine ⟨by rw [f.2 _ _ (by omega)]; exact ho.1, ho.2.1, fun i hi => ?_⟩
  rw [f.2 _ _ (by omega), f.2 _ _ (by omega), f.1]
  exact ho.2.2 i hi
theorem wayM.up {h : ax_H} {w : Nat → Bool} (hw : wayM h w) (k : Nat) (b : Bool) : wayM (ax_upI h 24 k (bI b)) (fun j => if j = k then b else w j) := by
  intro j hj
  rw [up_I]
  by_cases e : j = k
  · simp [e]
  · simp [e]; exact hw j hj
theorem nar_b (b : Bool) : vp_nar .boolean (bI b) = bI b := by cases b <;> decide
theorem nar_1 : vp_nar .boolean (nI 1) = bI true := by decide
theorem nar_0 : vp_nar .boolean (nI 0) = bI false := by decide
/-- one round of closing, over m -/
def clS (w : Nat → Bool) (m k : Nat) : Bool := w k || (w (k / 12 * 12 + m) && w (12 * m + k % 12))
def clN (w : Nat → Bool) : Nat → Nat → Bool
  | 0 => w
  | m + 1 => clS (clN w m) m
section MV
variable {d : Nat} {Q : Option Value → ax_H → Prop}
theorem n12 : (nI 12 = 0) = False := by rw [nI_eq0 (by omega)]; simp
theorem mQ_close_k (m : Nat) (hm : m < 12) (w : Nat → Bool) (hr0 : True) : ∀ (q k : Nat) (h : ax_H), k + q = 144 → h.2.2 = rM → wayM h (fun j => if j < k then clS w m j else w j) → (∀ h', frW h h' → wayM h' (clS w m) → ax_wp kM d mQ_close 77 [some (.ref 0), some (.int (nI m)), some (.int (nI 144))] [] h' Q) → ax_wp kM d mQ_close 10 [some (.ref 0), some (.int (nI m)), some (.int (nI k))] [] h Q
  | 0, k, h, hk, hr, hw, hQ => by
    have e : k = 144 := by omega
    subst e
    rw [sQ_close_10]
    simp (disch := omega) only [sQ_close_11, sQ_close_14, sQ_close_17, sQ_close_18, sQ_close_21, sQ_close_22, sQ_close_23, sQ_close_26, sQ_close_27, sQ_close_28, sQ_close_31, sQ_close_32, sQ_close_35, sQ_close_36, sQ_close_38, sQ_close_39, sQ_close_41, sQ_close_42, sQ_close_43, sQ_close_44, sQ_close_45, sQ_close_48, sQ_close_49, sQ_close_52, sQ_close_54, sQ_close_55, sQ_close_56, sQ_close_57, sQ_close_59, sQ_close_60, sQ_close_61, sQ_close_62, sQ_close_65, sQ_close_66, sQ_close_69, sQ_close_70, sQ_close_71, sQ_close_74, ax_clr_i, ax_clr_l, ax_clr_r, ax_clr_n, ax_ct_0, ax_ct_i, ax_ct_l, ax_ct_r, va_rf_s, Option.toList_some, Option.toList_none, List.cons_append, List.nil_append, and_true, true_and, and_self, ite_true, ite_false, if_true, if_false, Nat.reduceAdd, Nat.reduceLeDiff, Nat.reduceMul, Nat.reduceLT, nI_add, pk_mul, nI_lt', nI_le', nI_eq', nI_lt0, nI_ge0, nI_eq0, nI_gt0, nI_le0, nI_ne_m1, m1_ne_nI, m1_lt_nI, m1_le_nI, nI_lt_m1, nI_le_m1, nI_clamp, ax_in_nI, nI_shl, nI_shr, lg_cmp0, nx_and, nI_eq1, bI_0, bI_1, bf_or, eq_self, or_true, true_or, lt_T, le_T, lt_F, le_F, eq_F, eq_T]
    refine hQ h frW.rf (fun j hj => ?_)
    have := hw j hj
    simpa [hj] using this
  | q + 1, k, h, hk, hr, hw, hQ => by
    have a1 : h.1 24 k = bI (w k) := by have := hw k (by omega); simpa using this
    have a2 : h.1 24 (k / 12 * 12 + m) = bI (w (k / 12 * 12 + m)) := by
      have := hw (k / 12 * 12 + m) (by omega)
      rw [this]
      dsimp only
      by_cases e : k / 12 * 12 + m < k
      · rw [if_pos e]
        unfold clS
        have e1 : (k / 12 * 12 + m) / 12 * 12 + m = k / 12 * 12 + m := by omega
        rw [e1]
        cases w (k / 12 * 12 + m) <;> simp
      · rw [if_neg e]
    have a3 : h.1 24 (12 * m + k % 12) = bI (w (12 * m + k % 12)) := by
      have := hw (12 * m + k % 12) (by omega)
      rw [this]
      dsimp only
      by_cases e : 12 * m + k % 12 < k
      · rw [if_pos e]
        unfold clS
        have e1 : (12 * m + k % 12) / 12 * 12 + m = 12 * m + m := by omega
        have e2 : 12 * m + (12 * m + k % 12) % 12 = 12 * m + k % 12 := by omega
        rw [e1, e2]
        cases w (12 * m + k % 12) <;> simp
      · rw [if_neg e]
    have fin : ax_wp kM d mQ_close 10 [some (.ref 0), some (.int (nI m)), some (.int (nI (k + 1)))] [] (ax_upI h 24 k (bI (clS w m k))) Q := by
      refine mQ_close_k m hm w hr0 q (k + 1) _ (by omega) hr ?_ (fun h' f o => hQ h' (frW.up.tr f) o)
      have := hw.up k (clS w m k)
      intro j hj
      rw [this j hj]
      by_cases e : j = k
      · simp [e]
      · by_cases e2 : j < k
        · simp [e, e2, show j < k + 1 by omega]
        · simp [e, e2, show ¬ j < k + 1 by omega]
    unfold clS at fin
    rw [sQ_close_10]
    simp (disch := omega) only [sQ_close_11, sQ_close_14, sQ_close_17, sQ_close_18, sQ_close_21, sQ_close_22, sQ_close_23, sQ_close_26, sQ_close_27, sQ_close_28, sQ_close_31, sQ_close_32, sQ_close_35, sQ_close_36, sQ_close_38, sQ_close_39, sQ_close_41, sQ_close_42, sQ_close_43, sQ_close_44, sQ_close_45, sQ_close_48, sQ_close_49, sQ_close_52, sQ_close_54, sQ_close_55, sQ_close_56, sQ_close_57, sQ_close_59, sQ_close_60, sQ_close_61, sQ_close_62, sQ_close_65, sQ_close_66, sQ_close_69, sQ_close_70, sQ_close_71, sQ_close_74, ax_clr_i, ax_clr_l, ax_clr_r, ax_clr_n, ax_ct_0, ax_ct_i, ax_ct_l, ax_ct_r, va_rf_s, Option.toList_some, Option.toList_none, List.cons_append, List.nil_append, and_true, true_and, and_self, ite_true, ite_false, if_true, if_false, Nat.reduceAdd, Nat.reduceLeDiff, Nat.reduceMul, Nat.reduceLT, nI_add, pk_mul, nI_lt', nI_le', nI_eq', nI_lt0, nI_ge0, nI_eq0, nI_gt0, nI_le0, nI_ne_m1, m1_ne_nI, m1_lt_nI, m1_le_nI, nI_lt_m1, nI_le_m1, nI_clamp, ax_in_nI, nI_shl, nI_shr, lg_cmp0, nx_and, nI_eq1, bI_0, bI_1, bf_or, eq_self, or_true, true_or, lt_T, le_T, lt_F, le_F, eq_F, eq_T, kdM_0, kdM_1, kdM_2, kdM_3, kdM_4, kdM_5, kdM_6, kdM_7, kdM_8, kdM_9, kdM_10, kdM_11, kdM_12, kdM_13, kdM_14, kdM_15, kdM_16, kdM_17, kdM_18, kdM_19, kdM_20, kdM_21, kdM_22, kdM_23, kdM_24, rM_0, rM_1, rM_5, rM_6, rM_7, rM_10, rM_11, rM_12, rM_13, rM_14, rM_15, rM_16, rM_18, rM_19, rM_20, rM_21, rM_23, rM_24, rM_25, rM_26, rM_28, rM_29, rM_30, rM_31, hr, a1, a2, a3, pk_div, pk_sub, n12, not_false_eq_true, nar_1, nar_0, show k - k / 12 * 12 = k % 12 by omega]
    cases h1 : w k
    · cases h2 : w (k / 12 * 12 + m)
      · simp [h1, h2] at fin ⊢; exact fin
      · cases h3 : w (12 * m + k % 12)
        · simp [h1, h2, h3] at fin ⊢; exact fin
        · simp [h1, h2, h3] at fin ⊢; exact fin
    · simp [h1] at fin ⊢; exact fin
theorem mQ_close_m (w : Nat → Bool) : ∀ (q m : Nat) (h : ax_H) (x2 : Option Value), m + q = 12 → h.2.2 = rM → wayM h (clN w m) → (∀ h', frW h h' → wayM h' (clN w 12) → Q none h') → ax_wp kM d mQ_close 2 [some (.ref 0), some (.int (nI m)), x2] [] h Q
  | 0, m, h, x2, hm, hr, hw, hQ => by
    have e : m = 12 := by omega
    subst e
    rw [sQ_close_2]
    simp (disch := omega) only [sQ_close_3, sQ_close_5, sQ_close_8, sQ_close_9, sQ_close_83, ax_clr_i, ax_clr_l, ax_clr_r, ax_clr_n, ax_ct_0, ax_ct_i, ax_ct_l, ax_ct_r, va_rf_s, Option.toList_some, Option.toList_none, List.cons_append, List.nil_append, and_true, true_and, and_self, ite_true, ite_false, if_true, if_false, Nat.reduceAdd, Nat.reduceLeDiff, Nat.reduceMul, Nat.reduceLT, nI_add, pk_mul, nI_lt', nI_le', nI_eq', nI_lt0, nI_ge0, nI_eq0, nI_gt0, nI_le0, nI_ne_m1, m1_ne_nI, m1_lt_nI, m1_le_nI, nI_lt_m1, nI_le_m1, nI_clamp, ax_in_nI, nI_shl, nI_shr, lg_cmp0, nx_and, nI_eq1, bI_0, bI_1, bf_or, eq_self, or_true, true_or, lt_T, le_T, lt_F, le_F, eq_F, eq_T]
    exact hQ h frW.rf hw
  | q + 1, m, h, x2, hm, hr, hw, hQ => by
    rw [sQ_close_2]
    simp (disch := omega) only [sQ_close_3, sQ_close_5, sQ_close_8, sQ_close_9, ax_clr_i, ax_clr_l, ax_clr_r, ax_clr_n, ax_ct_0, ax_ct_i, ax_ct_l, ax_ct_r, va_rf_s, Option.toList_some, Option.toList_none, List.cons_append, List.nil_append, and_true, true_and, and_self, ite_true, ite_false, if_true, if_false, Nat.reduceAdd, Nat.reduceLeDiff, Nat.reduceMul, Nat.reduceLT, nI_add, pk_mul, nI_lt', nI_le', nI_eq', nI_lt0, nI_ge0, nI_eq0, nI_gt0, nI_le0, nI_ne_m1, m1_ne_nI, m1_lt_nI, m1_le_nI, nI_lt_m1, nI_le_m1, nI_clamp, ax_in_nI, nI_shl, nI_shr, lg_cmp0, nx_and, nI_eq1, bI_0, bI_1, bf_or, eq_self, or_true, true_or, lt_T, le_T, lt_F, le_F, eq_F, eq_T]
    refine mQ_close_k m (by omega) (clN w m) trivial 144 0 h (by omega) hr (fun j hj => by simpa using hw j hj) (fun h' f o => ?_)
    simp (disch := omega) only [sQ_close_77, sQ_close_80, ax_clr_i, ax_clr_l, ax_clr_r, ax_clr_n, ax_ct_0, ax_ct_i, ax_ct_l, ax_ct_r, va_rf_s, Option.toList_some, Option.toList_none, List.cons_append, List.nil_append, and_true, true_and, and_self, ite_true, ite_false, if_true, if_false, Nat.reduceAdd, Nat.reduceLeDiff, Nat.reduceMul, Nat.reduceLT, nI_add, pk_mul, nI_lt', nI_le', nI_eq', nI_lt0, nI_ge0, nI_eq0, nI_gt0, nI_le0, nI_ne_m1, m1_ne_nI, m1_lt_nI, m1_le_nI, nI_lt_m1, nI_le_m1, nI_clamp, ax_in_nI, nI_shl, nI_shr, lg_cmp0, nx_and, nI_eq1, bI_0, bI_1, bf_or, eq_self, or_true, true_or]
    exact mQ_close_m w q (m + 1) h' _ (by omega) (by rw [f.1]; exact hr) o (fun h2 f2 o2 => hQ h2 (f.tr f2) o2)
theorem mQ_close_ {h : ax_H} (hr : h.2.2 = rM) (w : Nat → Bool) (hw : wayM h w) (hQ : ∀ h', frW h h' → wayM h' (clN w 12) → Q none h') : ax_wp kM d mQ_close 0 [some (.ref 0), none, none] [] h Q := by
  simp only [sQ_close_0, sQ_close_1, ax_clr_i, ax_clr_l, ax_clr_r, ax_clr_n, ax_ct_0, ax_ct_i, ax_ct_l, ax_ct_r, va_rf_s, Option.toList_some, Option.toList_none, List.cons_append, List.nil_append, and_true, true_and, and_self, ite_true, ite_false, if_true, if_false, Nat.reduceAdd, Nat.reduceLeDiff, Nat.reduceMul, Nat.reduceLT]
  exact mQ_close_m w 12 0 h none (by omega) hr hw hQ
/-- a way of one step: SUPER or an interface -/
def eA (us : List (List Nat)) (c r n : Nat) : Bool := (List.range n).any (fun k => decide (parU us c k = some r))
def wA (us : List (List Nat)) (j : Nat) : Bool := decide (j / 12 < us.length) && eA us (j / 12) (j % 12) 4
theorem eA_succ (us : List (List Nat)) (c r n : Nat) : eA us c r (n + 1) = (eA us c r n || decide (parU us c n = some r)) := by
  unfold eA; rw [List.range_succ, List.any_append]; simp
theorem mQ_zero_a : ∀ (q k : Nat) (h : ax_H), k + q = 144 → h.2.2 = rM → (∀ j, j < k → h.1 24 j = bI false) → (∀ h', frW h h' → wayM h' (fun _ => false) → ax_wp kM d mQ_ancestors 22 [some (.ref 0), some (.int (nI 144)), none, none] [] h' Q) → ax_wp kM d mQ_ancestors 2 [some (.ref 0), some (.int (nI k)), none, none] [] h Q
  | 0, k, h, hk, hr, hw, hQ => by
    have e : k = 144 := by omega
    subst e
    rw [sQ_ancestors_2]
    simp (disch := omega) only [sQ_ancestors_3, sQ_ancestors_6, sQ_ancestors_9, sQ_ancestors_10, sQ_ancestors_13, sQ_ancestors_14, sQ_ancestors_15, sQ_ancestors_16, sQ_ancestors_19, ax_clr_i, ax_clr_l, ax_clr_r, ax_clr_n, ax_ct_0, ax_ct_i, ax_ct_l, ax_ct_r, va_rf_s, Option.toList_some, Option.toList_none, List.cons_append, List.nil_append, and_true, true_and, and_self, ite_true, ite_false, if_true, if_false, Nat.reduceAdd, Nat.reduceLeDiff, Nat.reduceMul, Nat.reduceLT, nI_add, pk_mul, nI_lt', nI_le', nI_eq', nI_lt0, nI_ge0, nI_eq0, nI_gt0, nI_le0, nI_ne_m1, m1_ne_nI, m1_lt_nI, m1_le_nI, nI_lt_m1, nI_le_m1, nI_clamp, ax_in_nI, nI_shl, nI_shr, lg_cmp0, nx_and, nI_eq1, bI_0, bI_1, bf_or, eq_self, or_true, true_or, lt_T, le_T, lt_F, le_F, eq_F, eq_T]
    exact hQ h frW.rf hw
  | q + 1, k, h, hk, hr, hw, hQ => by
    rw [sQ_ancestors_2]
    simp (disch := omega) only [sQ_ancestors_3, sQ_ancestors_6, sQ_ancestors_9, sQ_ancestors_10, sQ_ancestors_13, sQ_ancestors_14, sQ_ancestors_15, sQ_ancestors_16, sQ_ancestors_19, ax_clr_i, ax_clr_l, ax_clr_r, ax_clr_n, ax_ct_0, ax_ct_i, ax_ct_l, ax_ct_r, va_rf_s, Option.toList_some, Option.toList_none, List.cons_append, List.nil_append, and_true, true_and, and_self, ite_true, ite_false, if_true, if_false, Nat.reduceAdd, Nat.reduceLeDiff, Nat.reduceMul, Nat.reduceLT, nI_add, pk_mul, nI_lt', nI_le', nI_eq', nI_lt0, nI_ge0, nI_eq0, nI_gt0, nI_le0, nI_ne_m1, m1_ne_nI, m1_lt_nI, m1_le_nI, nI_lt_m1, nI_le_m1, nI_clamp, ax_in_nI, nI_shl, nI_shr, lg_cmp0, nx_and, nI_eq1, bI_0, bI_1, bf_or, eq_self, or_true, true_or, lt_T, le_T, lt_F, le_F, eq_F, eq_T, kdM_0, kdM_1, kdM_2, kdM_3, kdM_4, kdM_5, kdM_6, kdM_7, kdM_8, kdM_9, kdM_10, kdM_11, kdM_12, kdM_13, kdM_14, kdM_15, kdM_16, kdM_17, kdM_18, kdM_19, kdM_20, kdM_21, kdM_22, kdM_23, kdM_24, rM_0, rM_1, rM_5, rM_6, rM_7, rM_10, rM_11, rM_12, rM_13, rM_14, rM_15, rM_16, rM_18, rM_19, rM_20, rM_21, rM_23, rM_24, rM_25, rM_26, rM_28, rM_29, rM_30, rM_31, hr, nar_0]
    refine mQ_zero_a q (k + 1) _ (by omega) hr (fun j hj => ?_) (fun h' f o => hQ h' (frW.up.tr f) o)
    rw [up_I]
    by_cases e : j = k
    · simp [e]
    · simp [e]; exact hw j (by omega)
theorem mQ_anc_k {us : List (List Nat)} (c : Nat) (hcl : c < us.length) : ∀ (q k : Nat) (h : ax_H) (x3 : Option Value), k + q = 4 → clsM h us → wayM h (fun j => (decide (j / 12 < c) && eA us (j / 12) (j % 12) 4) || (decide (j / 12 = c) && eA us c (j % 12) k)) → (∀ h' x3, frW h h' → wayM h' (fun j => (decide (j / 12 < c + 1) && eA us (j / 12) (j % 12) 4)) → ax_wp kM (d + 6) mQ_ancestors 68 [some (.ref 0), some (.int (nI c)), some (.int (nI 4)), x3] [] h' Q) → ax_wp kM (d + 6) mQ_ancestors 34 [some (.ref 0), some (.int (nI c)), some (.int (nI k)), x3] [] h Q
  | 0, k, h, x3, hk, hc, hw, hQ => by
    have e : k = 4 := by omega
    subst e
    rw [sQ_ancestors_34]
    simp (disch := omega) only [sQ_ancestors_35, sQ_ancestors_36, sQ_ancestors_39, sQ_ancestors_40, sQ_ancestors_41, sQ_ancestors_42, sQ_ancestors_45, sQ_ancestors_46, sQ_ancestors_47, sQ_ancestors_50, sQ_ancestors_51, sQ_ancestors_54, sQ_ancestors_56, sQ_ancestors_57, sQ_ancestors_58, sQ_ancestors_59, sQ_ancestors_60, sQ_ancestors_61, sQ_ancestors_62, sQ_ancestors_65, ax_clr_i, ax_clr_l, ax_clr_r, ax_clr_n, ax_ct_0, ax_ct_i, ax_ct_l, ax_ct_r, va_rf_s, Option.toList_some, Option.toList_none, List.cons_append, List.nil_append, and_true, true_and, and_self, ite_true, ite_false, if_true, if_false, Nat.reduceAdd, Nat.reduceLeDiff, Nat.reduceMul, Nat.reduceLT, nI_add, pk_mul, nI_lt', nI_le', nI_eq', nI_lt0, nI_ge0, nI_eq0, nI_gt0, nI_le0, nI_ne_m1, m1_ne_nI, m1_lt_nI, m1_le_nI, nI_lt_m1, nI_le_m1, nI_clamp, ax_in_nI, nI_shl, nI_shr, lg_cmp0, nx_and, nI_eq1, bI_0, bI_1, bf_or, eq_self, or_true, true_or, lt_T, le_T, lt_F, le_F, eq_F, eq_T]
    refine hQ h x3 frW.rf (fun j hj => ?_)
    rw [hw j hj]
    congr 1
    by_cases e1 : j / 12 < c
    · have e2 : ¬ j / 12 = c := by omega
      simp [e1, e2, show j / 12 < c + 1 by omega]
    · by_cases e2 : j / 12 = c
      · simp [e2]
      · simp [e1, e2, show ¬ j / 12 < c + 1 by omega]
  | q + 1, k, h, x3, hk, hc, hw, hQ => by
    have h12 := hc.2.2.1
    have hr := hc.1
    rw [sQ_ancestors_34]
    simp (disch := omega) only [sQ_ancestors_35, sQ_ancestors_36, sQ_ancestors_39, sQ_ancestors_40, sQ_ancestors_41, sQ_ancestors_42, ax_clr_i, ax_clr_l, ax_clr_r, ax_clr_n, ax_ct_0, ax_ct_i, ax_ct_l, ax_ct_r, va_rf_s, Option.toList_some, Option.toList_none, List.cons_append, List.nil_append, and_true, true_and, and_self, ite_true, ite_false, if_true, if_false, Nat.reduceAdd, Nat.reduceLeDiff, Nat.reduceMul, Nat.reduceLT, nI_add, pk_mul, nI_lt', nI_le', nI_eq', nI_lt0, nI_ge0, nI_eq0, nI_gt0, nI_le0, nI_ne_m1, m1_ne_nI, m1_lt_nI, m1_le_nI, nI_lt_m1, nI_le_m1, nI_clamp, ax_in_nI, nI_shl, nI_shr, lg_cmp0, nx_and, nI_eq1, bI_0, bI_1, bf_or, eq_self, or_true, true_or, lt_T, le_T, lt_F, le_F, eq_F, eq_T, kdM_0, kdM_1, kdM_2, kdM_3, kdM_4, kdM_5, kdM_6, kdM_7, kdM_8, kdM_9, kdM_10, kdM_11, kdM_12, kdM_13, kdM_14, kdM_15, kdM_16, kdM_17, kdM_18, kdM_19, kdM_20, kdM_21, kdM_22, kdM_23, kdM_24, rM_0, rM_1, rM_5, rM_6, rM_7, rM_10, rM_11, rM_12, rM_13, rM_14, rM_15, rM_16, rM_18, rM_19, rM_20, rM_21, rM_23, rM_24, rM_25, rM_26, rM_28, rM_29, rM_30, rM_31, mQ_parent_ hc c k hcl]
    cases hp : parU us c k with
    | none =>
      have fin := mQ_anc_k c hcl q (k + 1) h (some (.int (-1))) (by omega) hc (fun j hj => by
        rw [hw j hj]; dsimp only; rw [eA_succ us c (j % 12) k, hp]; simp) hQ
      have e : oI none = -1 := rfl
      rw [e]
      simp (disch := omega) only [sQ_ancestors_45, sQ_ancestors_46, sQ_ancestors_47, sQ_ancestors_50, sQ_ancestors_51, sQ_ancestors_54, sQ_ancestors_56, sQ_ancestors_57, sQ_ancestors_58, sQ_ancestors_59, sQ_ancestors_60, sQ_ancestors_61, sQ_ancestors_62, sQ_ancestors_65, ax_clr_i, ax_clr_l, ax_clr_r, ax_clr_n, ax_ct_0, ax_ct_i, ax_ct_l, ax_ct_r, va_rf_s, Option.toList_some, Option.toList_none, List.cons_append, List.nil_append, and_true, true_and, and_self, ite_true, ite_false, if_true, if_false, Nat.reduceAdd, Nat.reduceLeDiff, Nat.reduceMul, Nat.reduceLT, nI_add, pk_mul, nI_lt', nI_le', nI_eq', nI_lt0, nI_ge0, nI_eq0, nI_gt0, nI_le0, nI_ne_m1, m1_ne_nI, m1_lt_nI, m1_le_nI, nI_lt_m1, nI_le_m1, nI_clamp, ax_in_nI, nI_shl, nI_shr, lg_cmp0, nx_and, nI_eq1, bI_0, bI_1, bf_or, eq_self, or_true, true_or]
      simpa using fin
    | some r =>
      have hrl := parU_lt hp
      have e : oI (some r) = nI r := rfl
      rw [e]
      simp (disch := omega) only [sQ_ancestors_45, sQ_ancestors_46, sQ_ancestors_47, sQ_ancestors_50, sQ_ancestors_51, sQ_ancestors_54, sQ_ancestors_56, sQ_ancestors_57, sQ_ancestors_58, sQ_ancestors_59, sQ_ancestors_60, sQ_ancestors_61, sQ_ancestors_62, sQ_ancestors_65, ax_clr_i, ax_clr_l, ax_clr_r, ax_clr_n, ax_ct_0, ax_ct_i, ax_ct_l, ax_ct_r, va_rf_s, Option.toList_some, Option.toList_none, List.cons_append, List.nil_append, and_true, true_and, and_self, ite_true, ite_false, if_true, if_false, Nat.reduceAdd, Nat.reduceLeDiff, Nat.reduceMul, Nat.reduceLT, nI_add, pk_mul, nI_lt', nI_le', nI_eq', nI_lt0, nI_ge0, nI_eq0, nI_gt0, nI_le0, nI_ne_m1, m1_ne_nI, m1_lt_nI, m1_le_nI, nI_lt_m1, nI_le_m1, nI_clamp, ax_in_nI, nI_shl, nI_shr, lg_cmp0, nx_and, nI_eq1, bI_0, bI_1, bf_or, eq_self, or_true, true_or, lt_T, le_T, lt_F, le_F, eq_F, eq_T, kdM_0, kdM_1, kdM_2, kdM_3, kdM_4, kdM_5, kdM_6, kdM_7, kdM_8, kdM_9, kdM_10, kdM_11, kdM_12, kdM_13, kdM_14, kdM_15, kdM_16, kdM_17, kdM_18, kdM_19, kdM_20, kdM_21, kdM_22, kdM_23, kdM_24, rM_0, rM_1, rM_5, rM_6, rM_7, rM_10, rM_11, rM_12, rM_13, rM_14, rM_15, rM_16, rM_18, rM_19, rM_20, rM_21, rM_23, rM_24, rM_25, rM_26, rM_28, rM_29, rM_30, rM_31, hr, nar_1]
      refine mQ_anc_k c hcl q (k + 1) _ _ (by omega) (hc.frW frW.up) (fun j hj => ?_) (fun h' x f o => hQ h' x (frW.up.tr f) o)
      rw [hw.up (12 * c + r) true j hj]
      dsimp only
      rw [eA_succ us c (j % 12) k, hp]
      congr 1
      by_cases e1 : j = 12 * c + r
      · have e2 : j / 12 = c := by omega
        have e3 : j % 12 = r := by omega
        rw [if_pos e1, e2, e3]; simp
      · rw [if_neg e1]
        by_cases e2 : j / 12 = c
        · have e3 : ¬ r = j % 12 := by omega
          simp [e2, e3]
        · simp [e2]
theorem mQ_anc_c {us : List (List Nat)} : ∀ (q c : Nat) (h : ax_H) (x2 x3 : Option Value), c + q = us.length → clsM h us → wayM h (fun j => (decide (j / 12 < c) && eA us (j / 12) (j % 12) 4)) → (∀ h', frW h h' → wayM h' (clN (wA us) 12) → Q none h') → ax_wp kM (d + 6) mQ_ancestors 24 [some (.ref 0), some (.int (nI c)), x2, x3] [] h Q
  | 0, c, h, x2, x3, hq, hc, hw, hQ => by
    have h12 := hc.2.2.1
    have hn := hc.2.1
    have e : c = us.length := by omega
    subst e
    rw [sQ_ancestors_24]
    simp (disch := omega) only [sQ_ancestors_25, sQ_ancestors_26, sQ_ancestors_29, sQ_ancestors_74, sQ_ancestors_75, ax_clr_i, ax_clr_l, ax_clr_r, ax_clr_n, ax_ct_0, ax_ct_i, ax_ct_l, ax_ct_r, va_rf_s, Option.toList_some, Option.toList_none, List.cons_append, List.nil_append, and_true, true_and, and_self, ite_true, ite_false, if_true, if_false, Nat.reduceAdd, Nat.reduceLeDiff, Nat.reduceMul, Nat.reduceLT, nI_add, pk_mul, nI_lt', nI_le', nI_eq', nI_lt0, nI_ge0, nI_eq0, nI_gt0, nI_le0, nI_ne_m1, m1_ne_nI, m1_lt_nI, m1_le_nI, nI_lt_m1, nI_le_m1, nI_clamp, ax_in_nI, nI_shl, nI_shr, lg_cmp0, nx_and, nI_eq1, bI_0, bI_1, bf_or, eq_self, or_true, true_or, lt_T, le_T, lt_F, le_F, eq_F, eq_T, kdM_0, kdM_1, kdM_2, kdM_3, kdM_4, kdM_5, kdM_6, kdM_7, kdM_8, kdM_9, kdM_10, kdM_11, kdM_12, kdM_13, kdM_14, kdM_15, kdM_16, kdM_17, kdM_18, kdM_19, kdM_20, kdM_21, kdM_22, kdM_23, kdM_24, rM_0, rM_1, rM_5, rM_6, rM_7, rM_10, rM_11, rM_12, rM_13, rM_14, rM_15, rM_16, rM_18, rM_19, rM_20, rM_21, rM_23, rM_24, rM_25, rM_26, rM_28, rM_29, rM_30, rM_31, hn]
    refine mQ_close_ hc.1 (wA us) hw (fun h' f o => ?_)
    simp (disch := omega) only [sQ_ancestors_78, ax_clr_i, ax_clr_l, ax_clr_r, ax_clr_n, ax_ct_0, ax_ct_i, ax_ct_l, ax_ct_r, va_rf_s, Option.toList_some, Option.toList_none, List.cons_append, List.nil_append, and_true, true_and, and_self, ite_true, ite_false, if_true, if_false, Nat.reduceAdd, Nat.reduceLeDiff, Nat.reduceMul, Nat.reduceLT]
    exact hQ h' f o
  | q + 1, c, h, x2, x3, hq, hc, hw, hQ => by
    have h12 := hc.2.2.1
    have hn := hc.2.1
    rw [sQ_ancestors_24]
    simp (disch := omega) only [sQ_ancestors_25, sQ_ancestors_26, sQ_ancestors_29, sQ_ancestors_32, sQ_ancestors_33, ax_clr_i, ax_clr_l, ax_clr_r, ax_clr_n, ax_ct_0, ax_ct_i, ax_ct_l, ax_ct_r, va_rf_s, Option.toList_some, Option.toList_none, List.cons_append, List.nil_append, and_true, true_and, and_self, ite_true, ite_false, if_true, if_false, Nat.reduceAdd, Nat.reduceLeDiff, Nat.reduceMul, Nat.reduceLT, nI_add, pk_mul, nI_lt', nI_le', nI_eq', nI_lt0, nI_ge0, nI_eq0, nI_gt0, nI_le0, nI_ne_m1, m1_ne_nI, m1_lt_nI, m1_le_nI, nI_lt_m1, nI_le_m1, nI_clamp, ax_in_nI, nI_shl, nI_shr, lg_cmp0, nx_and, nI_eq1, bI_0, bI_1, bf_or, eq_self, or_true, true_or, lt_T, le_T, lt_F, le_F, eq_F, eq_T, kdM_0, kdM_1, kdM_2, kdM_3, kdM_4, kdM_5, kdM_6, kdM_7, kdM_8, kdM_9, kdM_10, kdM_11, kdM_12, kdM_13, kdM_14, kdM_15, kdM_16, kdM_17, kdM_18, kdM_19, kdM_20, kdM_21, kdM_22, kdM_23, kdM_24, rM_0, rM_1, rM_5, rM_6, rM_7, rM_10, rM_11, rM_12, rM_13, rM_14, rM_15, rM_16, rM_18, rM_19, rM_20, rM_21, rM_23, rM_24, rM_25, rM_26, rM_28, rM_29, rM_30, rM_31, hn]
    refine mQ_anc_k c (by omega) 4 0 h x3 (by omega) hc (fun j hj => ?_) (fun h' x f o => ?_)
    · rw [hw j hj]; simp [eA]
    · simp (disch := omega) only [sQ_ancestors_68, sQ_ancestors_71, ax_clr_i, ax_clr_l, ax_clr_r, ax_clr_n, ax_ct_0, ax_ct_i, ax_ct_l, ax_ct_r, va_rf_s, Option.toList_some, Option.toList_none, List.cons_append, List.nil_append, and_true, true_and, and_self, ite_true, ite_false, if_true, if_false, Nat.reduceAdd, Nat.reduceLeDiff, Nat.reduceMul, Nat.reduceLT, nI_add, pk_mul, nI_lt', nI_le', nI_eq', nI_lt0, nI_ge0, nI_eq0, nI_gt0, nI_le0, nI_ne_m1, m1_ne_nI, m1_lt_nI, m1_le_nI, nI_lt_m1, nI_le_m1, nI_clamp, ax_in_nI, nI_shl, nI_shr, lg_cmp0, nx_and, nI_eq1, bI_0, bI_1, bf_or, eq_self, or_true, true_or]
      exact mQ_anc_c q (c + 1) h' _ _ (by omega) (hc.frW f) o (fun h2 f2 o2 => hQ h2 (f.tr f2) o2)
theorem mQ_ancestors_ {us : List (List Nat)} {h : ax_H} (hc : clsM h us) (hQ : ∀ h', frW h h' → wayM h' (clN (wA us) 12) → Q none h') : ax_wp kM (d + 6) mQ_ancestors 0 [some (.ref 0), none, none, none] [] h Q := by
  simp only [sQ_ancestors_0, sQ_ancestors_1, ax_clr_i, ax_clr_l, ax_clr_r, ax_clr_n, ax_ct_0, ax_ct_i, ax_ct_l, ax_ct_r, va_rf_s, Option.toList_some, Option.toList_none, List.cons_append, List.nil_append, and_true, true_and, and_self, ite_true, ite_false, if_true, if_false, Nat.reduceAdd, Nat.reduceLeDiff, Nat.reduceMul, Nat.reduceLT]
  refine mQ_zero_a 144 0 h (by omega) hc.1 (fun j hj => absurd hj (by omega)) (fun h' f o => ?_)
  simp (disch := omega) only [sQ_ancestors_22, sQ_ancestors_23, ax_clr_i, ax_clr_l, ax_clr_r, ax_clr_n, ax_ct_0, ax_ct_i, ax_ct_l, ax_ct_r, va_rf_s, Option.toList_some, Option.toList_none, List.cons_append, List.nil_append, and_true, true_and, and_self, ite_true, ite_false, if_true, if_false, Nat.reduceAdd, Nat.reduceLeDiff, Nat.reduceMul, Nat.reduceLT]
  exact mQ_anc_c us.length 0 h' _ _ (by omega) (hc.frW f) (fun j hj => by rw [o j hj]; simp) (fun h2 f2 o2 => hQ h2 (f.tr f2) o2)
/-- a class is circular -/
def cirU (us : List (List Nat)) (c : Nat) : Bool := clN (wA us) 12 (13 * c) || (List.range 12).any (fun a => clN (wA us) 12 (12 * c + a) && clN (wA us) 12 (13 * a))
theorem mQ_circular_l {h : ax_H} (hr : h.2.2 = rM) (w : Nat → Bool) (hw : wayM h w) (c : Nat) (hc : c < 12) : ∀ (q a : Nat) (b : Bool), a + q = 12 → ax_wp kM (d + 7) mQ_circular 26 [some (.ref 0), some (.int (nI c)), some (.int (bI b)), some (.int (nI a))] [] h Q = Q (some (.int (bI (b || (List.range q).any (fun j => w (12 * c + (a + j)) && w (13 * (a + j))))))) h
  | 0, a, b, hq => by
    rw [sQ_circular_26]
    simp (disch := omega) only [sQ_circular_27, sQ_circular_29, sQ_circular_32, sQ_circular_33, sQ_circular_36, sQ_circular_37, sQ_circular_40, sQ_circular_42, sQ_circular_43, sQ_circular_44, sQ_circular_45, sQ_circular_46, sQ_circular_47, sQ_circular_50, sQ_circular_51, sQ_circular_54, sQ_circular_56, sQ_circular_57, sQ_circular_58, sQ_circular_59, sQ_circular_62, sQ_circular_63, sQ_circular_66, sQ_circular_67, sQ_circular_68, sQ_circular_71, sQ_circular_74, sQ_circular_75, ax_clr_i, ax_clr_l, ax_clr_r, ax_clr_n, ax_ct_0, ax_ct_i, ax_ct_l, ax_ct_r, va_rf_s, Option.toList_some, Option.toList_none, List.cons_append, List.nil_append, and_true, true_and, and_self, ite_true, ite_false, if_true, if_false, Nat.reduceAdd, Nat.reduceLeDiff, Nat.reduceMul, Nat.reduceLT, nI_add, pk_mul, nI_lt', nI_le', nI_eq', nI_lt0, nI_ge0, nI_eq0, nI_gt0, nI_le0, nI_ne_m1, m1_ne_nI, m1_lt_nI, m1_le_nI, nI_lt_m1, nI_le_m1, nI_clamp, ax_in_nI, nI_shl, nI_shr, lg_cmp0, nx_and, nI_eq1, bI_0, bI_1, bf_or, eq_self, or_true, true_or, lt_T, le_T, lt_F, le_F, eq_F, eq_T]
    simp
  | q + 1, a, b, hq => by
    have a1 := hw (12 * c + a) (by omega)
    have a2 := hw (13 * a) (by omega)
    have ih := fun b => mQ_circular_l hr w hw c hc q (a + 1) b (by omega)
    have ihT := ih true
    have ihF := ih false
    rw [bI_t] at ihT
    rw [bI_f] at ihF
    rw [sQ_circular_26, any_shift (fun j => w (12 * c + j) && w (13 * j))]
    simp (disch := omega) only [sQ_circular_27, sQ_circular_29, sQ_circular_32, sQ_circular_33, sQ_circular_36, sQ_circular_37, sQ_circular_40, sQ_circular_42, sQ_circular_43, sQ_circular_44, sQ_circular_45, sQ_circular_46, sQ_circular_47, sQ_circular_50, sQ_circular_51, sQ_circular_54, sQ_circular_56, sQ_circular_57, sQ_circular_58, sQ_circular_59, sQ_circular_62, sQ_circular_63, sQ_circular_66, sQ_circular_67, sQ_circular_68, sQ_circular_71, ax_clr_i, ax_clr_l, ax_clr_r, ax_clr_n, ax_ct_0, ax_ct_i, ax_ct_l, ax_ct_r, va_rf_s, Option.toList_some, Option.toList_none, List.cons_append, List.nil_append, and_true, true_and, and_self, ite_true, ite_false, if_true, if_false, Nat.reduceAdd, Nat.reduceLeDiff, Nat.reduceMul, Nat.reduceLT, nI_add, pk_mul, nI_lt', nI_le', nI_eq', nI_lt0, nI_ge0, nI_eq0, nI_gt0, nI_le0, nI_ne_m1, m1_ne_nI, m1_lt_nI, m1_le_nI, nI_lt_m1, nI_le_m1, nI_clamp, ax_in_nI, nI_shl, nI_shr, lg_cmp0, nx_and, nI_eq1, bI_0, bI_1, bf_or, eq_self, or_true, true_or, lt_T, le_T, lt_F, le_F, eq_F, eq_T, kdM_0, kdM_1, kdM_2, kdM_3, kdM_4, kdM_5, kdM_6, kdM_7, kdM_8, kdM_9, kdM_10, kdM_11, kdM_12, kdM_13, kdM_14, kdM_15, kdM_16, kdM_17, kdM_18, kdM_19, kdM_20, kdM_21, kdM_22, kdM_23, kdM_24, rM_0, rM_1, rM_5, rM_6, rM_7, rM_10, rM_11, rM_12, rM_13, rM_14, rM_15, rM_16, rM_18, rM_19, rM_20, rM_21, rM_23, rM_24, rM_25, rM_26, rM_28, rM_29, rM_30, rM_31, hr, a1, a2, ihT, ihF]
    cases b <;> cases w (12 * c + a) <;> cases w (13 * a) <;> simp
theorem mQ_circular_ {us : List (List Nat)} {h : ax_H} (hc : clsM h us) (c : Nat) (hcl : c < us.length) (hQ : ∀ h', frW h h' → Q (some (.int (bI (cirU us c)))) h') : ax_wp kM (d + 7) mQ_circular 0 [some (.ref 0), some (.int (nI c)), none, none] [] h Q := by
  have h12 := hc.2.2.1
  simp (disch := omega) only [sQ_circular_0, sQ_circular_1, sQ_circular_2, sQ_circular_5, sQ_circular_8, sQ_circular_9, sQ_circular_10, sQ_circular_11, ax_clr_i, ax_clr_l, ax_clr_r, ax_clr_n, ax_ct_0, ax_ct_i, ax_ct_l, ax_ct_r, va_rf_s, Option.toList_some, Option.toList_none, List.cons_append, List.nil_append, and_true, true_and, and_self, ite_true, ite_false, if_true, if_false, Nat.reduceAdd, Nat.reduceLeDiff, Nat.reduceMul, Nat.reduceLT, nI_add, pk_mul, nI_lt', nI_le', nI_eq', nI_lt0, nI_ge0, nI_eq0, nI_gt0, nI_le0, nI_ne_m1, m1_ne_nI, m1_lt_nI, m1_le_nI, nI_lt_m1, nI_le_m1, nI_clamp, ax_in_nI, nI_shl, nI_shr, lg_cmp0, nx_and, nI_eq1, bI_0, bI_1, bf_or, eq_self, or_true, true_or, kdM_0, kdM_1, kdM_2, kdM_3, kdM_4, kdM_5, kdM_6, kdM_7, kdM_8, kdM_9, kdM_10, kdM_11, kdM_12, kdM_13, kdM_14, kdM_15, kdM_16, kdM_17, kdM_18, kdM_19, kdM_20, kdM_21, kdM_22, kdM_23, kdM_24, rM_0, rM_1, rM_5, rM_6, rM_7, rM_10, rM_11, rM_12, rM_13, rM_14, rM_15, rM_16, rM_18, rM_19, rM_20, rM_21, rM_23, rM_24, rM_25, rM_26, rM_28, rM_29, rM_30, rM_31, mQ_isClass_ hc, lt_T, le_T, lt_F, le_F, eq_F, eq_T, decide_true, Bool.true_eq_false]
  refine mQ_ancestors_ hc (fun h' f o => ?_)
  have hr := (hc.frW f).1
  have a1 := o (13 * c) (by omega)
  simp (disch := omega) only [sQ_circular_14, sQ_circular_15, sQ_circular_18, sQ_circular_20, sQ_circular_21, sQ_circular_22, sQ_circular_23, sQ_circular_24, sQ_circular_25, ax_clr_i, ax_clr_l, ax_clr_r, ax_clr_n, ax_ct_0, ax_ct_i, ax_ct_l, ax_ct_r, va_rf_s, Option.toList_some, Option.toList_none, List.cons_append, List.nil_append, and_true, true_and, and_self, ite_true, ite_false, if_true, if_false, Nat.reduceAdd, Nat.reduceLeDiff, Nat.reduceMul, Nat.reduceLT, nI_add, pk_mul, nI_lt', nI_le', nI_eq', nI_lt0, nI_ge0, nI_eq0, nI_gt0, nI_le0, nI_ne_m1, m1_ne_nI, m1_lt_nI, m1_le_nI, nI_lt_m1, nI_le_m1, nI_clamp, ax_in_nI, nI_shl, nI_shr, lg_cmp0, nx_and, nI_eq1, bI_0, bI_1, bf_or, eq_self, or_true, true_or, lt_T, le_T, lt_F, le_F, eq_F, eq_T, kdM_0, kdM_1, kdM_2, kdM_3, kdM_4, kdM_5, kdM_6, kdM_7, kdM_8, kdM_9, kdM_10, kdM_11, kdM_12, kdM_13, kdM_14, kdM_15, kdM_16, kdM_17, kdM_18, kdM_19, kdM_20, kdM_21, kdM_22, kdM_23, kdM_24, rM_0, rM_1, rM_5, rM_6, rM_7, rM_10, rM_11, rM_12, rM_13, rM_14, rM_15, rM_16, rM_18, rM_19, rM_20, rM_21, rM_23, rM_24, rM_25, rM_26, rM_28, rM_29, rM_30, rM_31, hr, a1]
  rw [mQ_circular_l hr _ o c (by omega) 12 0 _ (by omega)]
  simp only [Nat.zero_add]
  exact hQ h' f
theorem mQ_circular_n {us : List (List Nat)} {h : ax_H} (hc : clsM h us) (x : Int32) (hx : ¬ (0 ≤ x ∧ x < nI us.length)) : ax_wp kM (d + 7) mQ_circular 0 [some (.ref 0), some (.int x), none, none] [] h Q = Q (some (.int (nI 0))) h := by
  have hd := decide_eq_false hx
  simp (disch := omega) only [sQ_circular_0, sQ_circular_1, sQ_circular_2, sQ_circular_5, sQ_circular_8, sQ_circular_9, ax_clr_i, ax_clr_l, ax_clr_r, ax_clr_n, ax_ct_0, ax_ct_i, ax_ct_l, ax_ct_r, va_rf_s, Option.toList_some, Option.toList_none, List.cons_append, List.nil_append, and_true, true_and, and_self, ite_true, ite_false, if_true, if_false, Nat.reduceAdd, Nat.reduceLeDiff, Nat.reduceMul, Nat.reduceLT, nI_add, pk_mul, nI_lt', nI_le', nI_eq', nI_lt0, nI_ge0, nI_eq0, nI_gt0, nI_le0, nI_ne_m1, m1_ne_nI, m1_lt_nI, m1_le_nI, nI_lt_m1, nI_le_m1, nI_clamp, ax_in_nI, nI_shl, nI_shr, lg_cmp0, nx_and, nI_eq1, bI_0, bI_1, bf_or, eq_self, or_true, true_or, kdM_0, kdM_1, kdM_2, kdM_3, kdM_4, kdM_5, kdM_6, kdM_7, kdM_8, kdM_9, kdM_10, kdM_11, kdM_12, kdM_13, kdM_14, kdM_15, kdM_16, kdM_17, kdM_18, kdM_19, kdM_20, kdM_21, kdM_22, kdM_23, kdM_24, rM_0, rM_1, rM_5, rM_6, rM_7, rM_10, rM_11, rM_12, rM_13, rM_14, rM_15, rM_16, rM_18, rM_19, rM_20, rM_21, rM_23, rM_24, rM_25, rM_26, rM_28, rM_29, rM_30, rM_31, mQ_isClass_ hc, hd]
end MV
