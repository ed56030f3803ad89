/-! the model: slices -/
theorem fw_vT (w : Nat) : ∀ (t : List Nat) (p : Nat) (pre : List Nat), vT (pre ++ t) → vT (fw w p pre t)
  | [], p, pre, h => by unfold fw; exact vT_nil
  | c :: t, p, pre, h => by
    have hpre : vT pre := ⟨by have := h.1; simp at this; omega, fun x hx => h.2 x (by simp [hx])⟩
    have h2 : vT ((pre ++ [c]) ++ t) := by rw [List.append_assoc]; exact h
    unfold fw
    by_cases e : c = 53
    · rw [if_pos e]
      by_cases e2 : p + 1 = w
      · rw [if_pos e2]; exact hpre
      · rw [if_neg e2]; exact fw_vT w t _ _ h2
    · rw [if_neg e]; exact fw_vT w t _ _ h2
theorem fWd_vT {t : List Nat} (h : vT t) (w : Nat) : vT (fWd t w) := fw_vT w t 0 [] (by simpa using h)
def slN (us : List (List Nat)) (w c : Nat) : List Nat := fWd (ownU (uAt us c)) w
def lsF (us : List (List Nat)) (w : Nat) (s : List Nat) : Nat → Nat → Option Nat
  | 0, _ => none
  | m + 1, k => if slN us w k = s then some k else lsF us w s m (k + 1)
def lsU (us : List (List Nat)) (w c : Nat) : Option Nat := if slN us w c = [] then none else lsF us w (slN us w c) (c + 1) 0
def slC (us : List (List Nat)) (w : Nat) : Nat → Nat → Nat → Nat
  | 0, _, n => n
  | m + 1, c, n => slC us w m (c + 1) (if lsU us w c = some c then n + 1 else n)
def aSli (us : List (List Nat)) (x : Int32) : Int32 := match ixN x 3 with
  | none => -1
  | some w => if w = 0 then -1 else nI (slC us w us.length 0 0)
theorem lsF_some (us : List (List Nat)) (w : Nat) (s : List Nat) : ∀ (m k r : Nat), lsF us w s m k = some r → k ≤ r ∧ r < k + m ∧ slN us w r = s
  | 0, k, r, h => by cases h
  | m + 1, k, r, h => by
    unfold lsF at h
    by_cases e : slN us w k = s
    · rw [if_pos e] at h
      have : k = r := by simpa using h
      subst this; exact ⟨by omega, by omega, e⟩
    · rw [if_neg e] at h
      have := lsF_some us w s m (k + 1) r h
      exact ⟨by omega, by omega, this.2.2⟩
theorem lsU_some {us : List (List Nat)} {w c r : Nat} (h : lsU us w c = some r) : r ≤ c ∧ slN us w r = slN us w c ∧ ¬ slN us w c = [] := by
  unfold lsU at h
  by_cases e : slN us w c = []
  · rw [if_pos e] at h; cases h
  · rw [if_neg e] at h
    have := lsF_some us w _ _ _ _ h
    exact ⟨by omega, this.2.2, e⟩
section MS
variable {d : Nat} {Q : Option Value → ax_H → Prop} {us : List (List Nat)}
theorem mQ_slice_l {h : ax_H} (hr : h.2.2 = rM) (t : List Nat) (ht : vT t) (hl : letM h t) (w : Nat) (hw : w < 100) (x1 : Option Value) : ∀ (r pre : List Nat) (p f : Nat), pre ++ r = t → p ≤ pre.length → (¬ w ≤ p → f = 0) → (Q (some (.long (lN (if w ≤ p then f else pB (fw w p pre r))))) h) → ax_wp kM (d + 1) mQ_slice 22 [some (.ref 0), x1, some (.int (nI w)), some (.int (nI t.length)), some (.int (nI p)), some (.long (lN (pB pre))), none, some (.long (lN f)), none, some (.int (nI pre.length))] [] h Q
  | [], pre, p, f, hp, hpl, hf, hQ => by
    have h10 := ht.1
    have e1 : pre.length = t.length := by rw [← hp]; simp
    rw [sQ_slice_22]
    simp (disch := omega) only [sQ_slice_24, sQ_slice_25, sQ_slice_100, sQ_slice_102, ax_clr_i, ax_clr_l, ax_clr_r, ax_clr_n, ax_ct_0, ax_ct_i, ax_ct_l, ax_ct_r, va_rf_s, Option.toList_some, Option.toList_none, List.cons_append, List.nil_append, and_true, true_and, and_self, ite_true, ite_false, if_true, if_false, Nat.reduceAdd, Nat.reduceLeDiff, Nat.reduceMul, Nat.reduceLT, nI_add, pk_mul, nI_lt', nI_le', nI_eq', nI_lt0, nI_ge0, nI_eq0, nI_gt0, nI_le0, nI_ne_m1, m1_ne_nI, m1_lt_nI, m1_le_nI, nI_lt_m1, nI_le_m1, nI_clamp, ax_in_nI, nI_shl, nI_shr, lg_cmp0, nx_and, nI_eq1, bI_0, bI_1, bf_or, eq_self, or_true, true_or, lt_T, le_T, lt_F, le_F, eq_F, eq_T]
    by_cases e : w ≤ p
    · rw [if_pos e] at hQ; exact hQ
    · rw [if_neg e] at hQ; rw [hf e]; exact hQ
  | c :: r, pre, p, f, hp, hpl, hf, hQ => by
    have h10 := ht.1
    have e1 : pre.length + 1 + r.length = t.length := by rw [← hp]; simp; omega
    have hc := hl pre.length (by omega)
    have e2 : bg t pre.length = c := by rw [← hp]; unfold bg; rw [List.getD_eq_getElem?_getD]; simp
    have hc64 : c < 64 := by rw [← e2]; exact vT_get ht _
    rw [e2] at hc
    have ih := fun p f hp3 hf3 hq => mQ_slice_l hr t ht hl w hw x1 r (pre ++ [c]) p f (by rw [List.append_assoc]; exact hp) hp3 hf3 hq
    rw [pB_app, List.length_append, show ([c] : List Nat).length = 1 from rfl] at ih
    unfold fw at hQ
    rw [sQ_slice_22]
    simp (disch := omega) only [sQ_slice_24, sQ_slice_25, sQ_slice_28, sQ_slice_30, sQ_slice_31, sQ_slice_34, sQ_slice_36, sQ_slice_37, sQ_slice_39, ax_clr_i, ax_clr_l, ax_clr_r, ax_clr_n, ax_ct_0, ax_ct_i, ax_ct_l, ax_ct_r, va_rf_s, Option.toList_some, Option.toList_none, List.cons_append, List.nil_append, and_true, true_and, and_self, ite_true, ite_false, if_true, if_false, Nat.reduceAdd, Nat.reduceLeDiff, Nat.reduceMul, Nat.reduceLT, nI_add, pk_mul, nI_lt', nI_le', nI_eq', nI_lt0, nI_ge0, nI_eq0, nI_gt0, nI_le0, nI_ne_m1, m1_ne_nI, m1_lt_nI, m1_le_nI, nI_lt_m1, nI_le_m1, nI_clamp, ax_in_nI, nI_shl, nI_shr, lg_cmp0, nx_and, nI_eq1, bI_0, bI_1, bf_or, eq_self, or_true, true_or, lt_T, le_T, lt_F, le_F, eq_F, eq_T, kdM_0, kdM_1, kdM_2, kdM_3, kdM_4, kdM_5, kdM_6, kdM_7, kdM_8, kdM_9, kdM_10, kdM_11, kdM_12, kdM_13, kdM_14, kdM_15, kdM_16, kdM_17, kdM_18, kdM_19, kdM_20, kdM_21, kdM_22, kdM_23, kdM_24, rM_0, rM_1, rM_5, rM_6, rM_7, rM_10, rM_11, rM_12, rM_13, rM_14, rM_15, rM_16, rM_18, rM_19, rM_20, rM_21, rM_23, rM_24, rM_25, rM_26, rM_28, rM_29, rM_30, rM_31, hr, hc]
    by_cases e3 : c = 53
    · rw [if_pos e3] at hQ
      simp (disch := omega) only [sQ_slice_42, sQ_slice_43, sQ_slice_46, sQ_slice_47, sQ_slice_48, sQ_slice_50, sQ_slice_51, sQ_slice_54, sQ_slice_56, sQ_slice_57, sQ_slice_59, sQ_slice_62, sQ_slice_64, sQ_slice_65, ax_clr_i, ax_clr_l, ax_clr_r, ax_clr_n, ax_ct_0, ax_ct_i, ax_ct_l, ax_ct_r, va_rf_s, Option.toList_some, Option.toList_none, List.cons_append, List.nil_append, and_true, true_and, and_self, ite_true, ite_false, if_true, if_false, Nat.reduceAdd, Nat.reduceLeDiff, Nat.reduceMul, Nat.reduceLT, nI_add, pk_mul, nI_lt', nI_le', nI_eq', nI_lt0, nI_ge0, nI_eq0, nI_gt0, nI_le0, nI_ne_m1, m1_ne_nI, m1_lt_nI, m1_le_nI, nI_lt_m1, nI_le_m1, nI_clamp, ax_in_nI, nI_shl, nI_shr, lg_cmp0, nx_and, nI_eq1, bI_0, bI_1, bf_or, eq_self, or_true, true_or, lt_T, le_T, lt_F, le_F, eq_F, eq_T, kdM_0, kdM_1, kdM_2, kdM_3, kdM_4, kdM_5, kdM_6, kdM_7, kdM_8, kdM_9, kdM_10, kdM_11, kdM_12, kdM_13, kdM_14, kdM_15, kdM_16, kdM_17, kdM_18, kdM_19, kdM_20, kdM_21, kdM_22, kdM_23, kdM_24, rM_0, rM_1, rM_5, rM_6, rM_7, rM_10, rM_11, rM_12, rM_13, rM_14, rM_15, rM_16, rM_18, rM_19, rM_20, rM_21, rM_23, rM_24, rM_25, rM_26, rM_28, rM_29, rM_30, rM_31, hr, hc]
      by_cases e4 : p + 1 = w
      · rw [if_pos e4, if_neg (by omega)] at hQ
        simp (disch := omega) only [sQ_slice_68, sQ_slice_70, sQ_slice_73, sQ_slice_75, sQ_slice_77, sQ_slice_79, sQ_slice_82, sQ_slice_83, sQ_slice_84, sQ_slice_87, sQ_slice_89, sQ_slice_90, sQ_slice_91, sQ_slice_92, sQ_slice_94, sQ_slice_97, ax_clr_i, ax_clr_l, ax_clr_r, ax_clr_n, ax_ct_0, ax_ct_i, ax_ct_l, ax_ct_r, va_rf_s, Option.toList_some, Option.toList_none, List.cons_append, List.nil_append, and_true, true_and, and_self, ite_true, ite_false, if_true, if_false, Nat.reduceAdd, Nat.reduceLeDiff, Nat.reduceMul, Nat.reduceLT, nI_add, pk_mul, nI_lt', nI_le', nI_eq', nI_lt0, nI_ge0, nI_eq0, nI_gt0, nI_le0, nI_ne_m1, m1_ne_nI, m1_lt_nI, m1_le_nI, nI_lt_m1, nI_le_m1, nI_clamp, ax_in_nI, nI_shl, nI_shr, lg_cmp0, nx_and, nI_eq1, bI_0, bI_1, bf_or, eq_self, or_true, true_or, lt_T, le_T, lt_F, le_F, eq_F, eq_T, kdM_0, kdM_1, kdM_2, kdM_3, kdM_4, kdM_5, kdM_6, kdM_7, kdM_8, kdM_9, kdM_10, kdM_11, kdM_12, kdM_13, kdM_14, kdM_15, kdM_16, kdM_17, kdM_18, kdM_19, kdM_20, kdM_21, kdM_22, kdM_23, kdM_24, rM_0, rM_1, rM_5, rM_6, rM_7, rM_10, rM_11, rM_12, rM_13, rM_14, rM_15, rM_16, rM_18, rM_19, rM_20, rM_21, rM_23, rM_24, rM_25, rM_26, rM_28, rM_29, rM_30, rM_31, hr, hc, e4]
        rw [nI_l (by omega), show (64 : Int64) = lN 64 from rfl, lN_mul, lN_add]
        refine ih w (pB pre) (by omega) (fun q => absurd (Nat.le_refl w) q) ?_
        rw [if_pos (by omega)]
        exact hQ
      · rw [if_neg e4] at hQ
        simp (disch := omega) only [sQ_slice_68, sQ_slice_70, sQ_slice_73, sQ_slice_75, sQ_slice_77, sQ_slice_79, sQ_slice_82, sQ_slice_83, sQ_slice_84, sQ_slice_87, sQ_slice_89, sQ_slice_90, sQ_slice_91, sQ_slice_92, sQ_slice_94, sQ_slice_97, ax_clr_i, ax_clr_l, ax_clr_r, ax_clr_n, ax_ct_0, ax_ct_i, ax_ct_l, ax_ct_r, va_rf_s, Option.toList_some, Option.toList_none, List.cons_append, List.nil_append, and_true, true_and, and_self, ite_true, ite_false, if_true, if_false, Nat.reduceAdd, Nat.reduceLeDiff, Nat.reduceMul, Nat.reduceLT, nI_add, pk_mul, nI_lt', nI_le', nI_eq', nI_lt0, nI_ge0, nI_eq0, nI_gt0, nI_le0, nI_ne_m1, m1_ne_nI, m1_lt_nI, m1_le_nI, nI_lt_m1, nI_le_m1, nI_clamp, ax_in_nI, nI_shl, nI_shr, lg_cmp0, nx_and, nI_eq1, bI_0, bI_1, bf_or, eq_self, or_true, true_or, lt_T, le_T, lt_F, le_F, eq_F, eq_T, kdM_0, kdM_1, kdM_2, kdM_3, kdM_4, kdM_5, kdM_6, kdM_7, kdM_8, kdM_9, kdM_10, kdM_11, kdM_12, kdM_13, kdM_14, kdM_15, kdM_16, kdM_17, kdM_18, kdM_19, kdM_20, kdM_21, kdM_22, kdM_23, kdM_24, rM_0, rM_1, rM_5, rM_6, rM_7, rM_10, rM_11, rM_12, rM_13, rM_14, rM_15, rM_16, rM_18, rM_19, rM_20, rM_21, rM_23, rM_24, rM_25, rM_26, rM_28, rM_29, rM_30, rM_31, hr, hc, e4]
        rw [nI_l (by omega), show (64 : Int64) = lN 64 from rfl, lN_mul, lN_add]
        refine ih (p + 1) f (by omega) (fun q => hf (by omega)) ?_
        by_cases e5 : w ≤ p
        · rw [if_pos e5] at hQ; rw [if_pos (by omega)]; exact hQ
        · rw [if_neg e5] at hQ; rw [if_neg (by omega)]; exact hQ
    · rw [if_neg e3] at hQ
      simp (disch := omega) only [sQ_slice_42, sQ_slice_43, sQ_slice_46, sQ_slice_47, sQ_slice_48, sQ_slice_50, sQ_slice_51, sQ_slice_54, sQ_slice_56, sQ_slice_57, sQ_slice_59, sQ_slice_62, sQ_slice_64, sQ_slice_65, sQ_slice_68, sQ_slice_70, sQ_slice_73, sQ_slice_75, sQ_slice_77, sQ_slice_79, sQ_slice_82, sQ_slice_83, sQ_slice_84, sQ_slice_87, sQ_slice_89, sQ_slice_90, sQ_slice_91, sQ_slice_92, sQ_slice_94, sQ_slice_97, ax_clr_i, ax_clr_l, ax_clr_r, ax_clr_n, ax_ct_0, ax_ct_i, ax_ct_l, ax_ct_r, va_rf_s, Option.toList_some, Option.toList_none, List.cons_append, List.nil_append, and_true, true_and, and_self, ite_true, ite_false, if_true, if_false, Nat.reduceAdd, Nat.reduceLeDiff, Nat.reduceMul, Nat.reduceLT, nI_add, pk_mul, nI_lt', nI_le', nI_eq', nI_lt0, nI_ge0, nI_eq0, nI_gt0, nI_le0, nI_ne_m1, m1_ne_nI, m1_lt_nI, m1_le_nI, nI_lt_m1, nI_le_m1, nI_clamp, ax_in_nI, nI_shl, nI_shr, lg_cmp0, nx_and, nI_eq1, bI_0, bI_1, bf_or, eq_self, or_true, true_or, lt_T, le_T, lt_F, le_F, eq_F, eq_T, kdM_0, kdM_1, kdM_2, kdM_3, kdM_4, kdM_5, kdM_6, kdM_7, kdM_8, kdM_9, kdM_10, kdM_11, kdM_12, kdM_13, kdM_14, kdM_15, kdM_16, kdM_17, kdM_18, kdM_19, kdM_20, kdM_21, kdM_22, kdM_23, kdM_24, rM_0, rM_1, rM_5, rM_6, rM_7, rM_10, rM_11, rM_12, rM_13, rM_14, rM_15, rM_16, rM_18, rM_19, rM_20, rM_21, rM_23, rM_24, rM_25, rM_26, rM_28, rM_29, rM_30, rM_31, hr, hc, Nat.add_zero]
      rw [nI_l (by omega), show (64 : Int64) = lN 64 from rfl, lN_mul, lN_add]
      exact ih p f (by omega) hf hQ
theorem mQ_slice_ {h : ax_H} (hc : clsM h us) (w c : Nat) (hw : w < 100) (h1 : 1 ≤ w) (hcl : c < us.length) (hQ : ∀ h', frL h h' → Q (some (.long (lN (pB (slN us w c))))) h') : ax_wp kM (d + 4) mQ_slice 0 [some (.ref 0), some (.int (nI c)), some (.int (nI w)), none, none, none, none, none, none, none] [] h Q := by
  have h12 := hc.2.2.1
  simp (disch := omega) only [sQ_slice_0, sQ_slice_1, sQ_slice_2, sQ_slice_3, sQ_slice_6, ax_clr_i, ax_clr_l, ax_clr_r, ax_clr_n, ax_ct_0, ax_ct_i, ax_ct_l, ax_ct_r, va_rf_s, Option.toList_some, Option.toList_none, List.cons_append, List.nil_append, and_true, true_and, and_self, ite_true, ite_false, if_true, if_false, Nat.reduceAdd, Nat.reduceLeDiff, Nat.reduceMul, Nat.reduceLT, kdM_0, kdM_1, kdM_2, kdM_3, kdM_4, kdM_5, kdM_6, kdM_7, kdM_8, kdM_9, kdM_10, kdM_11, kdM_12, kdM_13, kdM_14, kdM_15, kdM_16, kdM_17, kdM_18, kdM_19, kdM_20, kdM_21, kdM_22, kdM_23, kdM_24, rM_0, rM_1, rM_5, rM_6, rM_7, rM_10, rM_11, rM_12, rM_13, rM_14, rM_15, rM_16, rM_18, rM_19, rM_20, rM_21, rM_23, rM_24, rM_25, rM_26, rM_28, rM_29, rM_30, rM_31, mQ_ownName_ (hc.2.2.2.2 c hcl).1 (by omega) (hc.2.2.2.2 c hcl).2]
  refine mQ_spell_ hc.1 _ (hc.vT hcl) (fun h1 f1 hl => ?_)
  simp (disch := omega) only [sQ_slice_9, sQ_slice_10, sQ_slice_11, sQ_slice_13, sQ_slice_14, sQ_slice_16, sQ_slice_17, sQ_slice_19, sQ_slice_20, ax_clr_i, ax_clr_l, ax_clr_r, ax_clr_n, ax_ct_0, ax_ct_i, ax_ct_l, ax_ct_r, va_rf_s, Option.toList_some, Option.toList_none, List.cons_append, List.nil_append, and_true, true_and, and_self, ite_true, ite_false, if_true, if_false, Nat.reduceAdd, Nat.reduceLeDiff, Nat.reduceMul, Nat.reduceLT, lN_0]
  have hr1 : h1.2.2 = rM := by rw [f1.1]; exact hc.1
  have h9 := mQ_slice_l (d := d + 3) (Q := Q) hr1 (ownU (uAt us c)) (hc.vT hcl) hl w hw (some (.int (nI c))) (ownU (uAt us c)) [] 0 0 (by simp) (by simp) (fun _ => rfl) (by
    rw [if_neg (by omega)]
    exact hQ h1 f1)
  exact h9
theorem mQ_least_l (w c : Nat) (hw : w < 100) (h1w : 1 ≤ w) (hcl : c < us.length) : ∀ (m k : Nat) (h : ax_H), clsM h us → k + m = c + 1 → (∀ h', frL h h' → Q (some (.int (oI (if slN us w c = [] then none else lsF us w (slN us w c) m k)))) h') → ax_wp kM (d + 5) mQ_least 10 [some (.ref 0), some (.int (nI c)), some (.int (nI w)), some (.long (lN (pB (slN us w c)))), none, some (.int (nI k))] [] h Q
  | 0, k, h, hc, hk, hQ => by
    have h12 := hc.2.2.1
    rw [sQ_least_10]
    simp (disch := omega) only [sQ_least_12, sQ_least_13, sQ_least_43, sQ_least_44, ax_clr_i, ax_clr_l, ax_clr_r, ax_clr_n, ax_ct_0, ax_ct_i, ax_ct_l, ax_ct_r, va_rf_s, Option.toList_some, Option.toList_none, List.cons_append, List.nil_append, and_true, true_and, and_self, ite_true, ite_false, if_true, if_false, Nat.reduceAdd, Nat.reduceLeDiff, Nat.reduceMul, Nat.reduceLT, nI_add, pk_mul, nI_lt', nI_le', nI_eq', nI_lt0, nI_ge0, nI_eq0, nI_gt0, nI_le0, nI_ne_m1, m1_ne_nI, m1_lt_nI, m1_le_nI, nI_lt_m1, nI_le_m1, nI_clamp, ax_in_nI, nI_shl, nI_shr, lg_cmp0, nx_and, nI_eq1, bI_0, bI_1, bf_or, eq_self, or_true, true_or, lt_T, le_T, lt_F, le_F, eq_F, eq_T]
    have q := hQ h frL.rf
    simp only [lsF, ite_self] at q
    exact q
  | m + 1, k, h, hc, hk, hQ => by
    have h12 := hc.2.2.1
    have hv := fWd_vT (hc.vT hcl) w
    have hvk := fWd_vT (hc.vT (show k < us.length by omega)) w
    rw [sQ_least_10]
    simp (disch := omega) only [sQ_least_12, sQ_least_13, sQ_least_16, sQ_least_17, sQ_least_18, sQ_least_19, ax_clr_i, ax_clr_l, ax_clr_r, ax_clr_n, ax_ct_0, ax_ct_i, ax_ct_l, ax_ct_r, va_rf_s, Option.toList_some, Option.toList_none, List.cons_append, List.nil_append, and_true, true_and, and_self, ite_true, ite_false, if_true, if_false, Nat.reduceAdd, Nat.reduceLeDiff, Nat.reduceMul, Nat.reduceLT, nI_add, pk_mul, nI_lt', nI_le', nI_eq', nI_lt0, nI_ge0, nI_eq0, nI_gt0, nI_le0, nI_ne_m1, m1_ne_nI, m1_lt_nI, m1_le_nI, nI_lt_m1, nI_le_m1, nI_clamp, ax_in_nI, nI_shl, nI_shr, lg_cmp0, nx_and, nI_eq1, bI_0, bI_1, bf_or, eq_self, or_true, true_or, lt_T, le_T, lt_F, le_F, eq_F, eq_T]
    have e0 : (lN (pB (slN us w c)) = 0) = (slN us w c = []) := by
      rw [lN_0, ← pB_nil]; exact lB_eq hv vT_nil
    by_cases e : slN us w c = []
    · rw [if_pos (by rw [e0]; exact e)]
      rw [if_pos e] at hQ
      simp (disch := omega) only [sQ_least_43, sQ_least_44, ax_clr_i, ax_clr_l, ax_clr_r, ax_clr_n, ax_ct_0, ax_ct_i, ax_ct_l, ax_ct_r, va_rf_s, Option.toList_some, Option.toList_none, List.cons_append, List.nil_append, and_true, true_and, and_self, ite_true, ite_false, if_true, if_false, Nat.reduceAdd, Nat.reduceLeDiff, Nat.reduceMul, Nat.reduceLT]
      exact hQ h frL.rf
    · rw [if_neg (by rw [e0]; exact e)]
      rw [if_neg e] at hQ
      simp (disch := omega) only [sQ_least_22, sQ_least_23, sQ_least_25, sQ_least_26, ax_clr_i, ax_clr_l, ax_clr_r, ax_clr_n, ax_ct_0, ax_ct_i, ax_ct_l, ax_ct_r, va_rf_s, Option.toList_some, Option.toList_none, List.cons_append, List.nil_append, and_true, true_and, and_self, ite_true, ite_false, if_true, if_false, Nat.reduceAdd, Nat.reduceLeDiff, Nat.reduceMul, Nat.reduceLT, kdM_0, kdM_1, kdM_2, kdM_3, kdM_4, kdM_5, kdM_6, kdM_7, kdM_8, kdM_9, kdM_10, kdM_11, kdM_12, kdM_13, kdM_14, kdM_15, kdM_16, kdM_17, kdM_18, kdM_19, kdM_20, kdM_21, kdM_22, kdM_23, kdM_24, rM_0, rM_1, rM_5, rM_6, rM_7, rM_10, rM_11, rM_12, rM_13, rM_14, rM_15, rM_16, rM_18, rM_19, rM_20, rM_21, rM_23, rM_24, rM_25, rM_26, rM_28, rM_29, rM_30, rM_31]
      refine mQ_slice_ hc w k hw h1w (by omega) (fun h1 f1 => ?_)
      simp (disch := omega) only [sQ_least_29, sQ_least_30, sQ_least_31, ax_clr_i, ax_clr_l, ax_clr_r, ax_clr_n, ax_ct_0, ax_ct_i, ax_ct_l, ax_ct_r, va_rf_s, Option.toList_some, Option.toList_none, List.cons_append, List.nil_append, and_true, true_and, and_self, ite_true, ite_false, if_true, if_false, Nat.reduceAdd, Nat.reduceLeDiff, Nat.reduceMul, Nat.reduceLT, lg_cmp0]
      have e1 : (lN (pB (slN us w k)) = lN (pB (slN us w c))) = (slN us w k = slN us w c) := lB_eq hvk hv
      unfold lsF at hQ
      by_cases e2 : slN us w k = slN us w c
      · rw [if_pos (by rw [e1]; exact e2)]
        rw [if_pos e2] at hQ
        simp (disch := omega) only [sQ_least_34, sQ_least_36, ax_clr_i, ax_clr_l, ax_clr_r, ax_clr_n, ax_ct_0, ax_ct_i, ax_ct_l, ax_ct_r, va_rf_s, Option.toList_some, Option.toList_none, List.cons_append, List.nil_append, and_true, true_and, and_self, ite_true, ite_false, if_true, if_false, Nat.reduceAdd, Nat.reduceLeDiff, Nat.reduceMul, Nat.reduceLT]
        exact hQ h1 f1
      · rw [if_neg (by rw [e1]; exact e2)]
        rw [if_neg e2] at hQ
        simp (disch := omega) only [sQ_least_37, sQ_least_40, ax_clr_i, ax_clr_l, ax_clr_r, ax_clr_n, ax_ct_0, ax_ct_i, ax_ct_l, ax_ct_r, va_rf_s, Option.toList_some, Option.toList_none, List.cons_append, List.nil_append, and_true, true_and, and_self, ite_true, ite_false, if_true, if_false, Nat.reduceAdd, Nat.reduceLeDiff, Nat.reduceMul, Nat.reduceLT, nI_add]
        refine mQ_least_l w c hw h1w hcl m (k + 1) h1 (hc.frL f1) (by omega) (fun h2 f2 => ?_)
        rw [if_neg e]
        exact hQ h2 (f1.tr f2)
theorem mQ_least_ {h : ax_H} (hc : clsM h us) (w c : Nat) (hw : w < 100) (h1w : 1 ≤ w) (hcl : c < us.length) (hQ : ∀ h', frL h h' → Q (some (.int (oI (lsU us w c)))) h') : ax_wp kM (d + 5) mQ_least 0 [some (.ref 0), some (.int (nI c)), some (.int (nI w)), none, none, none] [] h Q := by
  simp (disch := omega) only [sQ_least_0, sQ_least_1, sQ_least_2, sQ_least_3, ax_clr_i, ax_clr_l, ax_clr_r, ax_clr_n, ax_ct_0, ax_ct_i, ax_ct_l, ax_ct_r, va_rf_s, Option.toList_some, Option.toList_none, List.cons_append, List.nil_append, and_true, true_and, and_self, ite_true, ite_false, if_true, if_false, Nat.reduceAdd, Nat.reduceLeDiff, Nat.reduceMul, Nat.reduceLT, kdM_0, kdM_1, kdM_2, kdM_3, kdM_4, kdM_5, kdM_6, kdM_7, kdM_8, kdM_9, kdM_10, kdM_11, kdM_12, kdM_13, kdM_14, kdM_15, kdM_16, kdM_17, kdM_18, kdM_19, kdM_20, kdM_21, kdM_22, kdM_23, kdM_24, rM_0, rM_1, rM_5, rM_6, rM_7, rM_10, rM_11, rM_12, rM_13, rM_14, rM_15, rM_16, rM_18, rM_19, rM_20, rM_21, rM_23, rM_24, rM_25, rM_26, rM_28, rM_29, rM_30, rM_31]
  refine mQ_slice_ hc w c hw h1w hcl (fun h1 f1 => ?_)
  simp (disch := omega) only [sQ_least_6, sQ_least_7, sQ_least_8, ax_clr_i, ax_clr_l, ax_clr_r, ax_clr_n, ax_ct_0, ax_ct_i, ax_ct_l, ax_ct_r, va_rf_s, Option.toList_some, Option.toList_none, List.cons_append, List.nil_append, and_true, true_and, and_self, ite_true, ite_false, if_true, if_false, Nat.reduceAdd, Nat.reduceLeDiff, Nat.reduceMul, Nat.reduceLT]
  exact mQ_least_l w c hw h1w hcl (c + 1) 0 h1 (hc.frL f1) (by omega) (fun h2 f2 => hQ h2 (f1.tr f2))
theorem mQ_slices_l (w : Nat) (hw : w < 100) (h1w : 1 ≤ w) : ∀ (m c n : Nat) (h : ax_H), clsM h us → c + m = us.length → n ≤ c → (∀ h', frA h h' → Q (some (.int (nI (slC us w m c n)))) h') → ax_wp kM (d + 6) mQ_slices 16 [some (.ref 0), some (.int (nI w)), some (.int (nI n)), some (.int (nI c))] [] h Q
  | 0, c, n, h, hc, hk, hn, hQ => by
    have h12 := hc.2.2.1
    have h2 := hc.2.1
    rw [sQ_slices_16]
    simp (disch := omega) only [sQ_slices_17, sQ_slices_18, sQ_slices_21, sQ_slices_48, sQ_slices_49, ax_clr_i, ax_clr_l, ax_clr_r, ax_clr_n, ax_ct_0, ax_ct_i, ax_ct_l, ax_ct_r, va_rf_s, Option.toList_some, Option.toList_none, List.cons_append, List.nil_append, and_true, true_and, and_self, ite_true, ite_false, if_true, if_false, Nat.reduceAdd, Nat.reduceLeDiff, Nat.reduceMul, Nat.reduceLT, nI_add, pk_mul, nI_lt', nI_le', nI_eq', nI_lt0, nI_ge0, nI_eq0, nI_gt0, nI_le0, nI_ne_m1, m1_ne_nI, m1_lt_nI, m1_le_nI, nI_lt_m1, nI_le_m1, nI_clamp, ax_in_nI, nI_shl, nI_shr, lg_cmp0, nx_and, nI_eq1, bI_0, bI_1, bf_or, eq_self, or_true, true_or, kdM_0, kdM_1, kdM_2, kdM_3, kdM_4, kdM_5, kdM_6, kdM_7, kdM_8, kdM_9, kdM_10, kdM_11, kdM_12, kdM_13, kdM_14, kdM_15, kdM_16, kdM_17, kdM_18, kdM_19, kdM_20, kdM_21, kdM_22, kdM_23, kdM_24, rM_0, rM_1, rM_5, rM_6, rM_7, rM_10, rM_11, rM_12, rM_13, rM_14, rM_15, rM_16, rM_18, rM_19, rM_20, rM_21, rM_23, rM_24, rM_25, rM_26, rM_28, rM_29, rM_30, rM_31, lt_T, le_T, lt_F, le_F, eq_F, eq_T, h2]
    exact hQ h frA.rf
  | m + 1, c, n, h, hc, hk, hn, hQ => by
    have h12 := hc.2.2.1
    have h2 := hc.2.1
    unfold slC at hQ
    rw [sQ_slices_16]
    simp (disch := omega) only [sQ_slices_17, sQ_slices_18, sQ_slices_21, sQ_slices_24, sQ_slices_25, sQ_slices_26, sQ_slices_27, sQ_slices_28, ax_clr_i, ax_clr_l, ax_clr_r, ax_clr_n, ax_ct_0, ax_ct_i, ax_ct_l, ax_ct_r, va_rf_s, Option.toList_some, Option.toList_none, List.cons_append, List.nil_append, and_true, true_and, and_self, ite_true, ite_false, if_true, if_false, Nat.reduceAdd, Nat.reduceLeDiff, Nat.reduceMul, Nat.reduceLT, nI_add, pk_mul, nI_lt', nI_le', nI_eq', nI_lt0, nI_ge0, nI_eq0, nI_gt0, nI_le0, nI_ne_m1, m1_ne_nI, m1_lt_nI, m1_le_nI, nI_lt_m1, nI_le_m1, nI_clamp, ax_in_nI, nI_shl, nI_shr, lg_cmp0, nx_and, nI_eq1, bI_0, bI_1, bf_or, eq_self, or_true, true_or, kdM_0, kdM_1, kdM_2, kdM_3, kdM_4, kdM_5, kdM_6, kdM_7, kdM_8, kdM_9, kdM_10, kdM_11, kdM_12, kdM_13, kdM_14, kdM_15, kdM_16, kdM_17, kdM_18, kdM_19, kdM_20, kdM_21, kdM_22, kdM_23, kdM_24, rM_0, rM_1, rM_5, rM_6, rM_7, rM_10, rM_11, rM_12, rM_13, rM_14, rM_15, rM_16, rM_18, rM_19, rM_20, rM_21, rM_23, rM_24, rM_25, rM_26, rM_28, rM_29, rM_30, rM_31, lt_T, le_T, lt_F, le_F, eq_F, eq_T, h2]
    refine mQ_least_ hc w c hw h1w (by omega) (fun h1 f1 => ?_)
    by_cases e : lsU us w c = some c
    · rw [if_pos e] at hQ
      rw [e, oI_s]
      simp (disch := omega) only [sQ_slices_31, sQ_slices_32, sQ_slices_35, sQ_slices_36, sQ_slices_39, sQ_slices_40, sQ_slices_41, sQ_slices_42, sQ_slices_45, ax_clr_i, ax_clr_l, ax_clr_r, ax_clr_n, ax_ct_0, ax_ct_i, ax_ct_l, ax_ct_r, va_rf_s, Option.toList_some, Option.toList_none, List.cons_append, List.nil_append, and_true, true_and, and_self, ite_true, ite_false, if_true, if_false, Nat.reduceAdd, Nat.reduceLeDiff, Nat.reduceMul, Nat.reduceLT, nI_add, pk_mul, nI_lt', nI_le', nI_eq', nI_lt0, nI_ge0, nI_eq0, nI_gt0, nI_le0, nI_ne_m1, m1_ne_nI, m1_lt_nI, m1_le_nI, nI_lt_m1, nI_le_m1, nI_clamp, ax_in_nI, nI_shl, nI_shr, lg_cmp0, nx_and, nI_eq1, bI_0, bI_1, bf_or, eq_self, or_true, true_or]
      exact mQ_slices_l w hw h1w m (c + 1) (n + 1) h1 (hc.frL f1) (by omega) (by omega) (fun h2 f2 => hQ h2 (f1.a.tr f2))
    · rw [if_neg e] at hQ
      have e2 : ¬ oI (lsU us w c) = nI c := by
        cases q : lsU us w c with
        | none => rw [oI_n, m1_ne_nI (by omega)]; simp
        | some r =>
          have := (lsU_some q).1
          rw [oI_s, nI_eq' (by omega) (by omega)]
          intro q2; rw [q2] at q; exact e q
      simp (disch := omega) only [sQ_slices_31, sQ_slices_32, sQ_slices_35, sQ_slices_36, sQ_slices_39, sQ_slices_40, sQ_slices_41, sQ_slices_42, sQ_slices_45, ax_clr_i, ax_clr_l, ax_clr_r, ax_clr_n, ax_ct_0, ax_ct_i, ax_ct_l, ax_ct_r, va_rf_s, Option.toList_some, Option.toList_none, List.cons_append, List.nil_append, and_true, true_and, and_self, ite_true, ite_false, if_true, if_false, Nat.reduceAdd, Nat.reduceLeDiff, Nat.reduceMul, Nat.reduceLT, nI_add, e2, Nat.add_zero]
      exact mQ_slices_l w hw h1w m (c + 1) n h1 (hc.frL f1) (by omega) (by omega) (fun h2 f2 => hQ h2 (f1.a.tr f2))
theorem mQ_slices_ {h : ax_H} (hc : clsM h us) (x : Int32) (hQ : ∀ h', frA h h' → Q (some (.int (aSli us x))) h') : ax_wp kM (d + 6) mQ_slices 0 [some (.ref 0), some (.int x), none, none] [] h Q := by
  unfold aSli at hQ
  simp (disch := omega) only [sQ_slices_0, sQ_slices_1, sQ_slices_2, ax_clr_i, ax_clr_l, ax_clr_r, ax_clr_n, ax_ct_0, ax_ct_i, ax_ct_l, ax_ct_r, va_rf_s, Option.toList_some, Option.toList_none, List.cons_append, List.nil_append, and_true, true_and, and_self, ite_true, ite_false, if_true, if_false, Nat.reduceAdd, Nat.reduceLeDiff, Nat.reduceMul, Nat.reduceLT]
  have no : ax_wp kM (d + 6) mQ_slices 10 [some (.ref 0), some (.int x), none, none] [] h Q = Q (some (.int (-1))) h := by
    simp (disch := omega) only [sQ_slices_10, sQ_slices_11, ax_clr_i, ax_clr_l, ax_clr_r, ax_clr_n, ax_ct_0, ax_ct_i, ax_ct_l, ax_ct_r, va_rf_s, Option.toList_some, Option.toList_none, List.cons_append, List.nil_append, and_true, true_and, and_self, ite_true, ite_false, if_true, if_false, Nat.reduceAdd, Nat.reduceLeDiff, Nat.reduceMul, Nat.reduceLT]
  cases ey : ixN x 3 with
  | none =>
    rw [ey] at hQ
    have ey2 := ixN_none ey
    by_cases e1 : x < nI 1
    · rw [if_pos e1, no]; exact hQ h frA.rf
    · rw [if_neg e1]
      simp (disch := omega) only [sQ_slices_5, sQ_slices_6, sQ_slices_7, ax_clr_i, ax_clr_l, ax_clr_r, ax_clr_n, ax_ct_0, ax_ct_i, ax_ct_l, ax_ct_r, va_rf_s, Option.toList_some, Option.toList_none, List.cons_append, List.nil_append, and_true, true_and, and_self, ite_true, ite_false, if_true, if_false, Nat.reduceAdd, Nat.reduceLeDiff, Nat.reduceMul, Nat.reduceLT]
      rw [if_neg, no]
      · exact hQ h frA.rf
      · rw [Int32.le_iff_toInt_le, nI_toInt (by omega)]
        have e0 : ¬ x < 0 := by
          intro q; apply e1
          rw [Int32.lt_iff_toInt_lt] at q ⊢
          rw [nI_toInt (by omega)]
          have : (0 : Int32).toInt = 0 := by decide
          omega
        have := lt_not ey2 e0
        rw [Int32.le_iff_toInt_le, nI_toInt (by omega)] at this
        omega
  | some w =>
    obtain ⟨b1, rfl⟩ := ixN_some (by omega) ey
    rw [ey] at hQ
    dsimp only at hQ
    by_cases e1 : w = 0
    · rw [if_pos e1] at hQ
      rw [if_pos (by rw [nI_lt' (by omega) (by omega)]; omega), no]
      exact hQ h frA.rf
    · rw [if_neg e1] at hQ
      rw [if_neg (by rw [nI_lt' (by omega) (by omega)]; omega)]
      simp (disch := omega) only [sQ_slices_5, sQ_slices_6, sQ_slices_7, sQ_slices_10, sQ_slices_11, sQ_slices_12, sQ_slices_13, sQ_slices_14, sQ_slices_15, ax_clr_i, ax_clr_l, ax_clr_r, ax_clr_n, ax_ct_0, ax_ct_i, ax_ct_l, ax_ct_r, va_rf_s, Option.toList_some, Option.toList_none, List.cons_append, List.nil_append, and_true, true_and, and_self, ite_true, ite_false, if_true, if_false, Nat.reduceAdd, Nat.reduceLeDiff, Nat.reduceMul, Nat.reduceLT, nI_le', le_T]
      exact mQ_slices_l w (by omega) (by omega) us.length 0 0 h hc (by omega) (by omega) hQ
end MS
