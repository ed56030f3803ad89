/-! the class: its graph -/
def prm (o : Nat → Nat) (s : Nat) : Prop := (∀ c, c < 12 → o c < 13) ∧ s < 13 ∧ (∀ i j, i < 12 → j < 12 → o i = o j → i = j) ∧ ∀ i, i < 12 → o i ≠ s
def usC (o : Nat → Nat) (s : Nat) (x : Option Nat) (h : ax_H) (us : List (List Nat)) : Prop := h.2.2 = rC o s x ∧ h.1 2 1 = nI us.length ∧ us.length ≤ 12 ∧ (∀ c, c < us.length → unK h (o c) (uAt us c) ∧ okU (uAt us c)) ∧ prm o s
theorem usC.keep {o : Nat → Nat} {s : Nat} {x : Option Nat} {h h' : ax_H} {us : List (List Nat)} (hc : usC o s x h us) (fr : h'.2.2 = h.2.2) (f1 : h'.1 2 1 = h.1 2 1) (f2 : ∀ a k, 17 ≤ a → a < 121 → h'.1 a k = h.1 a k) (f3 : ∀ a k, 17 ≤ a → a < 121 → h'.2.1 a k = h.2.1 a k) : usC o s x h' us := by
  obtain ⟨a1, a2, a3, a4, a5⟩ := hc
  refine ⟨by rw [fr]; exact a1, by rw [f1]; exact a2, a3, fun c hc => ⟨?_, (a4 c hc).2⟩, a5⟩
  have := a5.1 c (by omega)
  exact (a4 c hc).1.keep (fun a k _ _ => f2 a k (by omega) (by omega)) (fun a k _ _ => f3 a k (by omega) (by omega))
theorem usC.own {o : Nat → Nat} {s : Nat} {x : Option Nat} {h : ax_H} {us : List (List Nat)} (hc : usC o s x h us) {c : Nat} (h1 : c < us.length) : vT (ownU (uAt us c)) ∧ (∀ x ∈ ownU (uAt us c), x ≤ 53) ∧ ownU (uAt us c) ≠ [] := nm_vT (hc.2.2.2.1 c h1).2 (hc.2.2.2.1 c h1).2.rest.1
theorem lpL_eq {t s : List Nat} (ht : vT t) (hs : vT s) : (lN (pL t) = lN (pL s)) = (t = s) := by
  rw [lN_eq' (by have := vT_p ht; omega) (by have := vT_p hs; omega)]
  exact propext ⟨pL_inj _ _ ht.2 hs.2, fun q => by rw [q]⟩
def wi (v : Nat) (o : Option Nat) : Nat := match o with
  | none => v
  | some c => v ||| 2 ^ c
section CG
variable {d : Nat} {Q : Option Value → ax_H → Prop} {o : Nat → Nat} {s : Nat} {x : Option Nat} {us : List (List Nat)}
theorem mG_isIn_ {h : ax_H} (v c : Nat) (hv : v < 2 ^ 31) (hc : c < 32) : ax_wp kC d mG_isIn 0 [some (.int (nI v)), some (.int (nI c))] [] h Q = Q (some (.int (bI (v.testBit c)))) h := by
  have e : (nI (v / 2 ^ c) &&& nI 1 = 0) = (v.testBit c = false) := nI_bit hv hc
  simp (disch := omega) only [sG_isIn_0, sG_isIn_1, sG_isIn_2, sG_isIn_3, sG_isIn_4, sG_isIn_5, ax_clr_i, ax_clr_l, ax_clr_r, ax_clr_n, ax_ct_0, ax_ct_i, ax_ct_l, ax_ct_r, va_rf_s, Option.toList_some, Option.toList_none, List.cons_append, List.nil_append, and_true, true_and, and_self, ite_true, ite_false, if_true, if_false, Nat.reduceAdd, Nat.reduceLeDiff, Nat.reduceMul, Nat.reduceLT, nI_shr, e]
  by_cases b : v.testBit c = true
  · rw [if_neg (by rw [b]; simp), b]
    simp (disch := omega) only [sG_isIn_8, sG_isIn_9, sG_isIn_12, sG_isIn_13, ax_clr_i, ax_clr_l, ax_clr_r, ax_clr_n, ax_ct_0, ax_ct_i, ax_ct_l, ax_ct_r, va_rf_s, Option.toList_some, Option.toList_none, List.cons_append, List.nil_append, and_true, true_and, and_self, ite_true, ite_false, if_true, if_false, Nat.reduceAdd, Nat.reduceLeDiff, Nat.reduceMul, Nat.reduceLT, nI_add, pk_mul, nI_lt', nI_le', nI_eq', nI_lt0, nI_ge0, nI_eq0, nI_gt0, nI_le0, nI_ne_m1, m1_ne_nI, m1_lt_nI, m1_le_nI, nI_lt_m1, nI_le_m1, nI_clamp, ax_in_nI, nI_shl, nI_shr, lg_cmp0, nx_and, nI_eq1, bI_0, bI_1, bf_or, eq_self, or_true, true_or]
    rfl
  · have b2 : v.testBit c = false := by simpa using b
    rw [if_pos b2, b2]
    simp (disch := omega) only [sG_isIn_8, sG_isIn_9, sG_isIn_12, sG_isIn_13, ax_clr_i, ax_clr_l, ax_clr_r, ax_clr_n, ax_ct_0, ax_ct_i, ax_ct_l, ax_ct_r, va_rf_s, Option.toList_some, Option.toList_none, List.cons_append, List.nil_append, and_true, true_and, and_self, ite_true, ite_false, if_true, if_false, Nat.reduceAdd, Nat.reduceLeDiff, Nat.reduceMul, Nat.reduceLT, nI_add, pk_mul, nI_lt', nI_le', nI_eq', nI_lt0, nI_ge0, nI_eq0, nI_gt0, nI_le0, nI_ne_m1, m1_ne_nI, m1_lt_nI, m1_le_nI, nI_lt_m1, nI_le_m1, nI_clamp, ax_in_nI, nI_shl, nI_shr, lg_cmp0, nx_and, nI_eq1, bI_0, bI_1, bf_or, eq_self, or_true, true_or]
    rfl
theorem mG_with_ {h : ax_H} (v : Nat) (q : Option Nat) (hv : v < 2 ^ 31) (hq : ∀ c, q = some c → c < 31) : ax_wp kC d mG_with 0 [some (.int (nI v)), some (.int (oI q))] [] h Q = Q (some (.int (nI (wi v q)))) h := by
  cases q with
  | none =>
    simp (disch := omega) only [sG_with_0, sG_with_1, sG_with_2, sG_with_5, sG_with_6, sG_with_9, sG_with_10, sG_with_11, sG_with_12, sG_with_13, sG_with_14, ax_clr_i, ax_clr_l, ax_clr_r, ax_clr_n, ax_ct_0, ax_ct_i, ax_ct_l, ax_ct_r, va_rf_s, Option.toList_some, Option.toList_none, List.cons_append, List.nil_append, and_true, true_and, and_self, ite_true, ite_false, if_true, if_false, Nat.reduceAdd, Nat.reduceLeDiff, Nat.reduceMul, Nat.reduceLT, nI_add, pk_mul, nI_lt', nI_le', nI_eq', nI_lt0, nI_ge0, nI_eq0, nI_gt0, nI_le0, nI_ne_m1, m1_ne_nI, m1_lt_nI, m1_le_nI, nI_lt_m1, nI_le_m1, nI_clamp, ax_in_nI, nI_shl, nI_shr, lg_cmp0, nx_and, nI_eq1, bI_0, bI_1, bf_or, eq_self, or_true, true_or, oI_n]
    rfl
  | some c =>
    have hc := hq c rfl
    have p2 : 2 ^ c < 2 ^ 32 := Nat.pow_lt_pow_right (by omega) (by omega)
    simp (disch := omega) only [sG_with_0, sG_with_1, sG_with_2, sG_with_5, sG_with_6, sG_with_9, sG_with_10, sG_with_11, sG_with_12, sG_with_13, sG_with_14, ax_clr_i, ax_clr_l, ax_clr_r, ax_clr_n, ax_ct_0, ax_ct_i, ax_ct_l, ax_ct_r, va_rf_s, Option.toList_some, Option.toList_none, List.cons_append, List.nil_append, and_true, true_and, and_self, ite_true, ite_false, if_true, if_false, Nat.reduceAdd, Nat.reduceLeDiff, Nat.reduceMul, Nat.reduceLT, nI_add, pk_mul, nI_lt', nI_le', nI_eq', nI_lt0, nI_ge0, nI_eq0, nI_gt0, nI_le0, nI_ne_m1, m1_ne_nI, m1_lt_nI, m1_le_nI, nI_lt_m1, nI_le_m1, nI_clamp, ax_in_nI, nI_shl, nI_shr, lg_cmp0, nx_and, nI_eq1, bI_0, bI_1, bf_or, eq_self, or_true, true_or, oI_s, Nat.one_mul, nI_or]
    rfl
theorem mG_isClass_ {h : ax_H} (hc : usC o s x h us) (y : Int32) : ax_wp kC d mG_isClass 0 [some (.ref 2), some (.int y)] [] h Q = Q (some (.int (bI (ixN y us.length).isSome))) h := by
  have h1 := hc.2.1
  have h12 := hc.2.2.1
  cases e : ixN y us.length with
  | none =>
    have n := ixN_none e
    simp (disch := omega) only [sG_isClass_0, sG_isClass_1, ax_clr_i, ax_clr_l, ax_clr_r, ax_clr_n, ax_ct_0, ax_ct_i, ax_ct_l, ax_ct_r, va_rf_s, Option.toList_some, Option.toList_none, List.cons_append, List.nil_append, and_true, true_and, and_self, ite_true, ite_false, if_true, if_false, Nat.reduceAdd, Nat.reduceLeDiff, Nat.reduceMul, Nat.reduceLT]
    by_cases e0 : y < 0
    · rw [if_pos e0]
      simp (disch := omega) only [sG_isClass_16, sG_isClass_17, ax_clr_i, ax_clr_l, ax_clr_r, ax_clr_n, ax_ct_0, ax_ct_i, ax_ct_l, ax_ct_r, va_rf_s, Option.toList_some, Option.toList_none, List.cons_append, List.nil_append, and_true, true_and, and_self, ite_true, ite_false, if_true, if_false, Nat.reduceAdd, Nat.reduceLeDiff, Nat.reduceMul, Nat.reduceLT, nI_add, pk_mul, nI_lt', nI_le', nI_eq', nI_lt0, nI_ge0, nI_eq0, nI_gt0, nI_le0, nI_ne_m1, m1_ne_nI, m1_lt_nI, m1_le_nI, nI_lt_m1, nI_le_m1, nI_clamp, ax_in_nI, nI_shl, nI_shr, lg_cmp0, nx_and, nI_eq1, bI_0, bI_1, bf_or, eq_self, or_true, true_or]
      rfl
    · rw [if_neg e0]
      simp (disch := omega) only [sG_isClass_4, sG_isClass_5, sG_isClass_6, sG_isClass_9, ax_clr_i, ax_clr_l, ax_clr_r, ax_clr_n, ax_ct_0, ax_ct_i, ax_ct_l, ax_ct_r, va_rf_s, Option.toList_some, Option.toList_none, List.cons_append, List.nil_append, and_true, true_and, and_self, ite_true, ite_false, if_true, if_false, Nat.reduceAdd, Nat.reduceLeDiff, Nat.reduceMul, Nat.reduceLT, kdC_0, kdC_1, kdC_2, kdC_3, kdC_4, kdC_5, kdC_6, kdC_7, kdC_8, kdC_9, kdC_10, kdC_11, kdC_12, kdC_13, kdC_14, kdC_15, kdC_16, kdU_1, kdU_2, kdU_3, kdU_4, kdU_5, kdU_6, kdU_7, kdU_, kdR_1, kdR_2, kdR_3, kdR_4, kdR_5, kdR_, rC_00, rC_01, rC_02, rC_03, rC_04, rC_10, rC_16, rC_18, rC_19, rC_1a, rC_20, rC_22, rC_23, rC_24, rC_25, rC_26, rC_27, rC_28, rC_4, rC_10k, rC_u3, rC_u5, rC_u7, rC_u9, rC_ua, rC_ub, rC_uc, rC_r4, rC_r5, rC_r6, rC_r7, rC_r8, Nat.add_zero, h1]
      rw [if_pos (lt_not n e0)]
      simp (disch := omega) only [sG_isClass_16, sG_isClass_17, ax_clr_i, ax_clr_l, ax_clr_r, ax_clr_n, ax_ct_0, ax_ct_i, ax_ct_l, ax_ct_r, va_rf_s, Option.toList_some, Option.toList_none, List.cons_append, List.nil_append, and_true, true_and, and_self, ite_true, ite_false, if_true, if_false, Nat.reduceAdd, Nat.reduceLeDiff, Nat.reduceMul, Nat.reduceLT, nI_add, pk_mul, nI_lt', nI_le', nI_eq', nI_lt0, nI_ge0, nI_eq0, nI_gt0, nI_le0, nI_ne_m1, m1_ne_nI, m1_lt_nI, m1_le_nI, nI_lt_m1, nI_le_m1, nI_clamp, ax_in_nI, nI_shl, nI_shr, lg_cmp0, nx_and, nI_eq1, bI_0, bI_1, bf_or, eq_self, or_true, true_or]
      rfl
  | some c =>
    obtain ⟨a1, rfl⟩ := ixN_some (by omega) e
    simp (disch := omega) only [sG_isClass_0, sG_isClass_1, sG_isClass_4, sG_isClass_5, sG_isClass_6, sG_isClass_9, sG_isClass_12, sG_isClass_13, sG_isClass_16, sG_isClass_17, ax_clr_i, ax_clr_l, ax_clr_r, ax_clr_n, ax_ct_0, ax_ct_i, ax_ct_l, ax_ct_r, va_rf_s, Option.toList_some, Option.toList_none, List.cons_append, List.nil_append, and_true, true_and, and_self, ite_true, ite_false, if_true, if_false, Nat.reduceAdd, Nat.reduceLeDiff, Nat.reduceMul, Nat.reduceLT, nI_add, pk_mul, nI_lt', nI_le', nI_eq', nI_lt0, nI_ge0, nI_eq0, nI_gt0, nI_le0, nI_ne_m1, m1_ne_nI, m1_lt_nI, m1_le_nI, nI_lt_m1, nI_le_m1, nI_clamp, ax_in_nI, nI_shl, nI_shr, lg_cmp0, nx_and, nI_eq1, bI_0, bI_1, bf_or, eq_self, or_true, true_or, lt_T, le_T, lt_F, le_F, eq_F, eq_T, kdC_0, kdC_1, kdC_2, kdC_3, kdC_4, kdC_5, kdC_6, kdC_7, kdC_8, kdC_9, kdC_10, kdC_11, kdC_12, kdC_13, kdC_14, kdC_15, kdC_16, kdU_1, kdU_2, kdU_3, kdU_4, kdU_5, kdU_6, kdU_7, kdU_, kdR_1, kdR_2, kdR_3, kdR_4, kdR_5, kdR_, rC_00, rC_01, rC_02, rC_03, rC_04, rC_10, rC_16, rC_18, rC_19, rC_1a, rC_20, rC_22, rC_23, rC_24, rC_25, rC_26, rC_27, rC_28, rC_4, rC_10k, rC_u3, rC_u5, rC_u7, rC_u9, rC_ua, rC_ub, rC_uc, rC_r4, rC_r5, rC_r6, rC_r7, rC_r8, Nat.add_zero, h1]
    rfl
theorem mG_isOccurrence_ {h : ax_H} (hc : usC o s x h us) (y z : Int32) : ax_wp kC (d + 1) mG_isOccurrence 0 [some (.ref 2), some (.int y), some (.int z)] [] h Q = Q (some (.int (bI (oAt us y z).isSome))) h := by
  have hr := hc.1
  have h12 := hc.2.2.1
  simp (disch := omega) only [sG_isOccurrence_0, sG_isOccurrence_1, sG_isOccurrence_2, ax_clr_i, ax_clr_l, ax_clr_r, ax_clr_n, ax_ct_0, ax_ct_i, ax_ct_l, ax_ct_r, va_rf_s, Option.toList_some, Option.toList_none, List.cons_append, List.nil_append, and_true, true_and, and_self, ite_true, ite_false, if_true, if_false, Nat.reduceAdd, Nat.reduceLeDiff, Nat.reduceMul, Nat.reduceLT, kdC_0, kdC_1, kdC_2, kdC_3, kdC_4, kdC_5, kdC_6, kdC_7, kdC_8, kdC_9, kdC_10, kdC_11, kdC_12, kdC_13, kdC_14, kdC_15, kdC_16, kdU_1, kdU_2, kdU_3, kdU_4, kdU_5, kdU_6, kdU_7, kdU_, kdR_1, kdR_2, kdR_3, kdR_4, kdR_5, kdR_, rC_00, rC_01, rC_02, rC_03, rC_04, rC_10, rC_16, rC_18, rC_19, rC_1a, rC_20, rC_22, rC_23, rC_24, rC_25, rC_26, rC_27, rC_28, rC_4, rC_10k, rC_u3, rC_u5, rC_u7, rC_u9, rC_ua, rC_ub, rC_uc, rC_r4, rC_r5, rC_r6, rC_r7, rC_r8, Nat.add_zero, mG_isClass_ hc]
  unfold oAt
  cases e : ixN y us.length with
  | none =>
    simp (disch := omega) only [sG_isOccurrence_5, sG_isOccurrence_29, sG_isOccurrence_30, ax_clr_i, ax_clr_l, ax_clr_r, ax_clr_n, ax_ct_0, ax_ct_i, ax_ct_l, ax_ct_r, va_rf_s, Option.toList_some, Option.toList_none, List.cons_append, List.nil_append, and_true, true_and, and_self, ite_true, ite_false, if_true, if_false, Nat.reduceAdd, Nat.reduceLeDiff, Nat.reduceMul, Nat.reduceLT, nI_add, pk_mul, nI_lt', nI_le', nI_eq', nI_lt0, nI_ge0, nI_eq0, nI_gt0, nI_le0, nI_ne_m1, m1_ne_nI, m1_lt_nI, m1_le_nI, nI_lt_m1, nI_le_m1, nI_clamp, ax_in_nI, nI_shl, nI_shr, lg_cmp0, nx_and, nI_eq1, bI_0, bI_1, bf_or, eq_self, or_true, true_or, Option.isSome_none]
    rfl
  | some c =>
    obtain ⟨a1, rfl⟩ := ixN_some (by omega) e
    have l := (ocU_v (hc.2.2.2.1 c a1).2).2
    have ho := hc.2.2.2.2.1 c (by omega)
    have h8 := (hc.2.2.2.1 c a1).1.2.2.2.2.2.1
    simp (disch := omega) only [sG_isOccurrence_5, sG_isOccurrence_8, sG_isOccurrence_9, ax_clr_i, ax_clr_l, ax_clr_r, ax_clr_n, ax_ct_0, ax_ct_i, ax_ct_l, ax_ct_r, va_rf_s, Option.toList_some, Option.toList_none, List.cons_append, List.nil_append, and_true, true_and, and_self, ite_true, ite_false, if_true, if_false, Nat.reduceAdd, Nat.reduceLeDiff, Nat.reduceMul, Nat.reduceLT, nI_add, pk_mul, nI_lt', nI_le', nI_eq', nI_lt0, nI_ge0, nI_eq0, nI_gt0, nI_le0, nI_ne_m1, m1_ne_nI, m1_lt_nI, m1_le_nI, nI_lt_m1, nI_le_m1, nI_clamp, ax_in_nI, nI_shl, nI_shr, lg_cmp0, nx_and, nI_eq1, bI_0, bI_1, bf_or, eq_self, or_true, true_or, Option.isSome_some, Bool.true_eq_false]
    cases e2 : ixN z (ocU (uAt us c)).length with
    | none =>
      have n := ixN_none e2
      by_cases e0 : z < 0
      · rw [if_pos e0]
        simp (disch := omega) only [sG_isOccurrence_29, sG_isOccurrence_30, ax_clr_i, ax_clr_l, ax_clr_r, ax_clr_n, ax_ct_0, ax_ct_i, ax_ct_l, ax_ct_r, va_rf_s, Option.toList_some, Option.toList_none, List.cons_append, List.nil_append, and_true, true_and, and_self, ite_true, ite_false, if_true, if_false, Nat.reduceAdd, Nat.reduceLeDiff, Nat.reduceMul, Nat.reduceLT, nI_add, pk_mul, nI_lt', nI_le', nI_eq', nI_lt0, nI_ge0, nI_eq0, nI_gt0, nI_le0, nI_ne_m1, m1_ne_nI, m1_lt_nI, m1_le_nI, nI_lt_m1, nI_le_m1, nI_clamp, ax_in_nI, nI_shl, nI_shr, lg_cmp0, nx_and, nI_eq1, bI_0, bI_1, bf_or, eq_self, or_true, true_or]
        rfl
      · rw [if_neg e0]
        simp (disch := omega) only [sG_isOccurrence_12, sG_isOccurrence_13, sG_isOccurrence_14, sG_isOccurrence_17, sG_isOccurrence_18, sG_isOccurrence_19, sG_isOccurrence_22, ax_clr_i, ax_clr_l, ax_clr_r, ax_clr_n, ax_ct_0, ax_ct_i, ax_ct_l, ax_ct_r, va_rf_s, Option.toList_some, Option.toList_none, List.cons_append, List.nil_append, and_true, true_and, and_self, ite_true, ite_false, if_true, if_false, Nat.reduceAdd, Nat.reduceLeDiff, Nat.reduceMul, Nat.reduceLT, nI_add, pk_mul, nI_lt', nI_le', nI_eq', nI_lt0, nI_ge0, nI_eq0, nI_gt0, nI_le0, nI_ne_m1, m1_ne_nI, m1_lt_nI, m1_le_nI, nI_lt_m1, nI_le_m1, nI_clamp, ax_in_nI, nI_shl, nI_shr, lg_cmp0, nx_and, nI_eq1, bI_0, bI_1, bf_or, eq_self, or_true, true_or, lt_T, le_T, lt_F, le_F, eq_F, eq_T, kdC_0, kdC_1, kdC_2, kdC_3, kdC_4, kdC_5, kdC_6, kdC_7, kdC_8, kdC_9, kdC_10, kdC_11, kdC_12, kdC_13, kdC_14, kdC_15, kdC_16, kdU_1, kdU_2, kdU_3, kdU_4, kdU_5, kdU_6, kdU_7, kdU_, kdR_1, kdR_2, kdR_3, kdR_4, kdR_5, kdR_, rC_00, rC_01, rC_02, rC_03, rC_04, rC_10, rC_16, rC_18, rC_19, rC_1a, rC_20, rC_22, rC_23, rC_24, rC_25, rC_26, rC_27, rC_28, rC_4, rC_10k, rC_u3, rC_u5, rC_u7, rC_u9, rC_ua, rC_ub, rC_uc, rC_r4, rC_r5, rC_r6, rC_r7, rC_r8, Nat.add_zero, hr, h8]
        rw [if_pos (lt_not n e0)]
        simp (disch := omega) only [sG_isOccurrence_29, sG_isOccurrence_30, ax_clr_i, ax_clr_l, ax_clr_r, ax_clr_n, ax_ct_0, ax_ct_i, ax_ct_l, ax_ct_r, va_rf_s, Option.toList_some, Option.toList_none, List.cons_append, List.nil_append, and_true, true_and, and_self, ite_true, ite_false, if_true, if_false, Nat.reduceAdd, Nat.reduceLeDiff, Nat.reduceMul, Nat.reduceLT, nI_add, pk_mul, nI_lt', nI_le', nI_eq', nI_lt0, nI_ge0, nI_eq0, nI_gt0, nI_le0, nI_ne_m1, m1_ne_nI, m1_lt_nI, m1_le_nI, nI_lt_m1, nI_le_m1, nI_clamp, ax_in_nI, nI_shl, nI_shr, lg_cmp0, nx_and, nI_eq1, bI_0, bI_1, bf_or, eq_self, or_true, true_or]
        rfl
    | some i =>
      obtain ⟨b1, rfl⟩ := ixN_some (by omega) e2
      simp (disch := omega) only [sG_isOccurrence_12, sG_isOccurrence_13, sG_isOccurrence_14, sG_isOccurrence_17, sG_isOccurrence_18, sG_isOccurrence_19, sG_isOccurrence_22, sG_isOccurrence_25, sG_isOccurrence_26, sG_isOccurrence_29, sG_isOccurrence_30, ax_clr_i, ax_clr_l, ax_clr_r, ax_clr_n, ax_ct_0, ax_ct_i, ax_ct_l, ax_ct_r, va_rf_s, Option.toList_some, Option.toList_none, List.cons_append, List.nil_append, and_true, true_and, and_self, ite_true, ite_false, if_true, if_false, Nat.reduceAdd, Nat.reduceLeDiff, Nat.reduceMul, Nat.reduceLT, nI_add, pk_mul, nI_lt', nI_le', nI_eq', nI_lt0, nI_ge0, nI_eq0, nI_gt0, nI_le0, nI_ne_m1, m1_ne_nI, m1_lt_nI, m1_le_nI, nI_lt_m1, nI_le_m1, nI_clamp, ax_in_nI, nI_shl, nI_shr, lg_cmp0, nx_and, nI_eq1, bI_0, bI_1, bf_or, eq_self, or_true, true_or, lt_T, le_T, lt_F, le_F, eq_F, eq_T, kdC_0, kdC_1, kdC_2, kdC_3, kdC_4, kdC_5, kdC_6, kdC_7, kdC_8, kdC_9, kdC_10, kdC_11, kdC_12, kdC_13, kdC_14, kdC_15, kdC_16, kdU_1, kdU_2, kdU_3, kdU_4, kdU_5, kdU_6, kdU_7, kdU_, kdR_1, kdR_2, kdR_3, kdR_4, kdR_5, kdR_, rC_00, rC_01, rC_02, rC_03, rC_04, rC_10, rC_16, rC_18, rC_19, rC_1a, rC_20, rC_22, rC_23, rC_24, rC_25, rC_26, rC_27, rC_28, rC_4, rC_10k, rC_u3, rC_u5, rC_u7, rC_u9, rC_ua, rC_ub, rC_uc, rC_r4, rC_r5, rC_r6, rC_r7, rC_r8, Nat.add_zero, hr, h8]
      rfl
theorem mG_numberOf_l {h : ax_H} (hc : usC o s x h us) (t : List Nat) (ht : vT t) : ∀ (m c : Nat), c + m = us.length → ax_wp kC d mG_numberOf 2 [some (.ref 2), some (.long (lN (pL t))), none, some (.int (nI c))] [] h Q = Q (some (.int (oI (ixF us t m c)))) h
  | 0, c, hm => by
    have h1 := hc.2.1
    have h12 := hc.2.2.1
    rw [sG_numberOf_2]
    simp (disch := omega) only [sG_numberOf_3, sG_numberOf_4, sG_numberOf_7, sG_numberOf_32, sG_numberOf_33, ax_clr_i, ax_clr_l, ax_clr_r, ax_clr_n, ax_ct_0, ax_ct_i, ax_ct_l, ax_ct_r, va_rf_s, Option.toList_some, Option.toList_none, List.cons_append, List.nil_append, and_true, true_and, and_self, ite_true, ite_false, if_true, if_false, Nat.reduceAdd, Nat.reduceLeDiff, Nat.reduceMul, Nat.reduceLT, nI_add, pk_mul, nI_lt', nI_le', nI_eq', nI_lt0, nI_ge0, nI_eq0, nI_gt0, nI_le0, nI_ne_m1, m1_ne_nI, m1_lt_nI, m1_le_nI, nI_lt_m1, nI_le_m1, nI_clamp, ax_in_nI, nI_shl, nI_shr, lg_cmp0, nx_and, nI_eq1, bI_0, bI_1, bf_or, eq_self, or_true, true_or, lt_T, le_T, lt_F, le_F, eq_F, eq_T, kdC_0, kdC_1, kdC_2, kdC_3, kdC_4, kdC_5, kdC_6, kdC_7, kdC_8, kdC_9, kdC_10, kdC_11, kdC_12, kdC_13, kdC_14, kdC_15, kdC_16, kdU_1, kdU_2, kdU_3, kdU_4, kdU_5, kdU_6, kdU_7, kdU_, kdR_1, kdR_2, kdR_3, kdR_4, kdR_5, kdR_, rC_00, rC_01, rC_02, rC_03, rC_04, rC_10, rC_16, rC_18, rC_19, rC_1a, rC_20, rC_22, rC_23, rC_24, rC_25, rC_26, rC_27, rC_28, rC_4, rC_10k, rC_u3, rC_u5, rC_u7, rC_u9, rC_ua, rC_ub, rC_uc, rC_r4, rC_r5, rC_r6, rC_r7, rC_r8, Nat.add_zero, h1]
    rfl
  | m + 1, c, hm => by
    have hr := hc.1
    have h1 := hc.2.1
    have h12 := hc.2.2.1
    have ho := hc.2.2.2.2.1 c (by omega)
    have h0 := (hc.2.2.2.1 c (by omega)).1.1
    have e := lpL_eq (hc.own (show c < us.length by omega)).1 ht
    rw [sG_numberOf_2, ixF]
    simp (disch := omega) only [sG_numberOf_3, sG_numberOf_4, sG_numberOf_7, sG_numberOf_10, sG_numberOf_11, sG_numberOf_14, sG_numberOf_15, sG_numberOf_16, sG_numberOf_19, sG_numberOf_20, sG_numberOf_21, ax_clr_i, ax_clr_l, ax_clr_r, ax_clr_n, ax_ct_0, ax_ct_i, ax_ct_l, ax_ct_r, va_rf_s, Option.toList_some, Option.toList_none, List.cons_append, List.nil_append, and_true, true_and, and_self, ite_true, ite_false, if_true, if_false, Nat.reduceAdd, Nat.reduceLeDiff, Nat.reduceMul, Nat.reduceLT, nI_add, pk_mul, nI_lt', nI_le', nI_eq', nI_lt0, nI_ge0, nI_eq0, nI_gt0, nI_le0, nI_ne_m1, m1_ne_nI, m1_lt_nI, m1_le_nI, nI_lt_m1, nI_le_m1, nI_clamp, ax_in_nI, nI_shl, nI_shr, lg_cmp0, nx_and, nI_eq1, bI_0, bI_1, bf_or, eq_self, or_true, true_or, lt_T, le_T, lt_F, le_F, eq_F, eq_T, kdC_0, kdC_1, kdC_2, kdC_3, kdC_4, kdC_5, kdC_6, kdC_7, kdC_8, kdC_9, kdC_10, kdC_11, kdC_12, kdC_13, kdC_14, kdC_15, kdC_16, kdU_1, kdU_2, kdU_3, kdU_4, kdU_5, kdU_6, kdU_7, kdU_, kdR_1, kdR_2, kdR_3, kdR_4, kdR_5, kdR_, rC_00, rC_01, rC_02, rC_03, rC_04, rC_10, rC_16, rC_18, rC_19, rC_1a, rC_20, rC_22, rC_23, rC_24, rC_25, rC_26, rC_27, rC_28, rC_4, rC_10k, rC_u3, rC_u5, rC_u7, rC_u9, rC_ua, rC_ub, rC_uc, rC_r4, rC_r5, rC_r6, rC_r7, rC_r8, Nat.add_zero, hr, h1, h0, e]
    by_cases e2 : ownU (uAt us c) = t
    · rw [if_pos e2, if_pos e2]
      simp (disch := omega) only [sG_numberOf_24, sG_numberOf_25, ax_clr_i, ax_clr_l, ax_clr_r, ax_clr_n, ax_ct_0, ax_ct_i, ax_ct_l, ax_ct_r, va_rf_s, Option.toList_some, Option.toList_none, List.cons_append, List.nil_append, and_true, true_and, and_self, ite_true, ite_false, if_true, if_false, Nat.reduceAdd, Nat.reduceLeDiff, Nat.reduceMul, Nat.reduceLT]
      rfl
    · rw [if_neg e2, if_neg e2]
      simp (disch := omega) only [sG_numberOf_26, sG_numberOf_29, ax_clr_i, ax_clr_l, ax_clr_r, ax_clr_n, ax_ct_0, ax_ct_i, ax_ct_l, ax_ct_r, va_rf_s, Option.toList_some, Option.toList_none, List.cons_append, List.nil_append, and_true, true_and, and_self, ite_true, ite_false, if_true, if_false, Nat.reduceAdd, Nat.reduceLeDiff, Nat.reduceMul, Nat.reduceLT, nI_add]
      exact mG_numberOf_l hc t ht m (c + 1) (by omega)
theorem mG_numberOf_ {h : ax_H} (hc : usC o s x h us) (t : List Nat) (ht : vT t) : ax_wp kC d mG_numberOf 0 [some (.ref 2), some (.long (lN (pL t))), none, none] [] h Q = Q (some (.int (oI (ixOf us t)))) h := by
  simp only [sG_numberOf_0, sG_numberOf_1, ax_clr_i, ax_clr_l, ax_clr_r, ax_clr_n, ax_ct_0, ax_ct_i, ax_ct_l, ax_ct_r, va_rf_s, Option.toList_some, Option.toList_none, List.cons_append, List.nil_append, and_true, true_and, and_self, ite_true, ite_false, if_true, if_false, Nat.reduceAdd, Nat.reduceLeDiff, Nat.reduceMul, Nat.reduceLT]
  exact mG_numberOf_l hc t ht us.length 0 (by omega)
end CG
/-! rows of bits -/
def rwN (w : Nat → Bool) (c : Nat) : Nat → Nat
  | 0 => 0
  | n + 1 => rwN w c n ||| (if w (12 * c + n) = true then 2 ^ n else 0)
theorem rwN_tb (w : Nat → Bool) (c : Nat) : ∀ n j, (rwN w c n).testBit j = (decide (j < n) && w (12 * c + j))
  | 0, j => by simp [rwN]
  | n + 1, j => by
    rw [rwN, Nat.testBit_or, rwN_tb w c n j]
    by_cases e : j = n
    · subst e
      by_cases b : w (12 * c + j) = true
      · simp [b]
      · simp [b]
    · have e2 : (decide (j < n + 1)) = decide (j < n) := by
        by_cases q : j < n
        · rw [decide_eq_true q, decide_eq_true (by omega)]
        · rw [decide_eq_false q, decide_eq_false (by omega)]
      rw [e2]
      by_cases b : w (12 * c + n) = true
      · rw [if_pos b, Nat.testBit_two_pow, decide_eq_false (show ¬ n = j from fun q => e q.symm), Bool.or_false]
      · rw [if_neg b, Nat.zero_testBit, Bool.or_false]
def rwB (w : Nat → Bool) (c : Nat) : Nat := rwN w c 12
theorem rwb_tb (w : Nat → Bool) (c j : Nat) : (rwB w c).testBit j = (decide (j < 12) && w (12 * c + j)) := rwN_tb w c 12 j
theorem rwb_at (w : Nat → Bool) (c : Nat) {j : Nat} (hj : j < 12) : (rwB w c).testBit j = w (12 * c + j) := by rw [rwb_tb, decide_eq_true hj, Bool.true_and]
theorem rwb_lt (w : Nat → Bool) (c : Nat) : rwB w c < 2 ^ 12 := Nat.lt_pow_two_of_testBit _ (fun i hi => by rw [rwb_tb, decide_eq_false (by omega), Bool.false_and])
theorem rwb_ext {w w' : Nat → Bool} {c : Nat} (h : ∀ j, j < 12 → w (12 * c + j) = w' (12 * c + j)) : rwB w c = rwB w' c := by
  apply Nat.eq_of_testBit_eq
  intro j
  rw [rwb_tb, rwb_tb]
  by_cases e : j < 12
  · rw [h j e]
  · rw [decide_eq_false e, Bool.false_and, Bool.false_and]
theorem clS_at (w : Nat → Bool) (m c : Nat) {j : Nat} (hj : j < 12) : clS w m (12 * c + j) = (w (12 * c + j) || (w (12 * c + m) && w (12 * m + j))) := by
  unfold clS
  rw [show (12 * c + j) / 12 * 12 + m = 12 * c + m by omega, show (12 * c + j) % 12 = j by omega]
theorem rwb_cl (w : Nat → Bool) (m c : Nat) : rwB (clS w m) c = if w (12 * c + m) = true then rwB w c ||| rwB w m else rwB w c := by
  apply Nat.eq_of_testBit_eq
  intro j
  by_cases e : j < 12
  · rw [rwb_at _ _ e, clS_at w m c e]
    by_cases b : w (12 * c + m) = true
    · rw [if_pos b, Nat.testBit_or, rwb_at _ _ e, rwb_at _ _ e, b, Bool.true_and]
    · rw [if_neg b, rwb_at _ _ e]; simp [b]
  · rw [rwb_tb, decide_eq_false e, Bool.false_and]
    split
    · rw [Nat.testBit_or, rwb_tb, rwb_tb, decide_eq_false e]; rfl
    · rw [rwb_tb, decide_eq_false e]; rfl
theorem rwb_self (w : Nat → Bool) (m : Nat) : rwB (clS w m) m = rwB w m := by
  rw [rwb_cl]; split
  · exact Nat.or_self _
  · rfl
theorem clN_col {w : Nat → Bool} {n : Nat} (hw : ∀ a j, n ≤ j → j < 12 → w (12 * a + j) = false) : ∀ m a j, n ≤ j → j < 12 → clN w m (12 * a + j) = false
  | 0, a, j, h1, h2 => hw a j h1 h2
  | m + 1, a, j, h1, h2 => by
    rw [clN, clS_at _ _ _ h2, clN_col hw m a j h1 h2, clN_col hw m m j h1 h2, Bool.and_false, Bool.false_or]
theorem clN_up {w : Nat → Bool} {n : Nat} (hw : ∀ a j, n ≤ j → j < 12 → w (12 * a + j) = false) : ∀ m, n + m ≤ 12 → ∀ a j, j < 12 → clN w (n + m) (12 * a + j) = clN w n (12 * a + j)
  | 0, _, _, _, _ => rfl
  | m + 1, hm, a, j, hj => by
    rw [← Nat.add_assoc, clN, clS_at _ _ _ hj, clN_col hw (n + m) a (n + m) (by omega) (by omega), Bool.false_and, Bool.or_false]
    exact clN_up hw m (by omega) a j hj
def rowC (h : ax_H) (r : Nat) (w : Nat → Bool) (n : Nat) : Prop := ∀ c, c < n → h.1 r c = nI (rwB w c)
def frR (r : Nat) (h h' : ax_H) : Prop := h'.2 = h.2 ∧ ∀ a k, ¬ a = r → h'.1 a k = h.1 a k
theorem frR.rf {r : Nat} {h : ax_H} : frR r h h := ⟨rfl, fun _ _ _ => rfl⟩
theorem frR.tr {r : Nat} {h h' h2 : ax_H} (a : frR r h h') (b : frR r h' h2) : frR r h h2 := ⟨b.1.trans a.1, fun r k h1 => (b.2 r k h1).trans (a.2 r k h1)⟩
section CF
variable {d : Nat} {Q : Option Value → ax_H → Prop}
theorem mG_follow_i (r n : Nat) (hkd : ax_kd kC r = (1, 12)) (hn : n ≤ 12) (hr2 : ¬ r = 2) (w : Nat → Bool) (m : Nat) (hm : m < n) : ∀ (q c : Nat) (h : ax_H), c + q = n → h.1 2 1 = nI n → (∀ a, a < c → h.1 r a = nI (rwB (clS w m) a)) → (∀ a, c ≤ a → a < n → h.1 r a = nI (rwB w a)) → (∀ h', frR r h h' → rowC h' r (clS w m) n → ax_wp kC (d + 1) mG_follow 45 [some (.ref 2), some (.ref r), some (.int (nI m)), some (.int (nI n))] [] h' Q) → ax_wp kC (d + 1) mG_follow 12 [some (.ref 2), some (.ref r), some (.int (nI m)), some (.int (nI c))] [] h Q
  | 0, c, h, hc, h1, ha, hb, hQ => by
    have e : c = n := by omega
    subst e
    rw [sG_follow_12]
    simp (disch := omega) only [sG_follow_13, sG_follow_14, sG_follow_17, ax_clr_i, ax_clr_l, ax_clr_r, ax_clr_n, ax_ct_0, ax_ct_i, ax_ct_l, ax_ct_r, va_rf_s, Option.toList_some, Option.toList_none, List.cons_append, List.nil_append, and_true, true_and, and_self, ite_true, ite_false, if_true, if_false, Nat.reduceAdd, Nat.reduceLeDiff, Nat.reduceMul, Nat.reduceLT, nI_add, pk_mul, nI_lt', nI_le', nI_eq', nI_lt0, nI_ge0, nI_eq0, nI_gt0, nI_le0, nI_ne_m1, m1_ne_nI, m1_lt_nI, m1_le_nI, nI_lt_m1, nI_le_m1, nI_clamp, ax_in_nI, nI_shl, nI_shr, lg_cmp0, nx_and, nI_eq1, bI_0, bI_1, bf_or, eq_self, or_true, true_or, lt_T, le_T, lt_F, le_F, eq_F, eq_T, kdC_0, kdC_1, kdC_2, kdC_3, kdC_4, kdC_5, kdC_6, kdC_7, kdC_8, kdC_9, kdC_10, kdC_11, kdC_12, kdC_13, kdC_14, kdC_15, kdC_16, kdU_1, kdU_2, kdU_3, kdU_4, kdU_5, kdU_6, kdU_7, kdU_, kdR_1, kdR_2, kdR_3, kdR_4, kdR_5, kdR_, rC_00, rC_01, rC_02, rC_03, rC_04, rC_10, rC_16, rC_18, rC_19, rC_1a, rC_20, rC_22, rC_23, rC_24, rC_25, rC_26, rC_27, rC_28, rC_4, rC_10k, rC_u3, rC_u5, rC_u7, rC_u9, rC_ua, rC_ub, rC_uc, rC_r4, rC_r5, rC_r6, rC_r7, rC_r8, Nat.add_zero, h1]
    exact hQ h frR.rf ha
  | q + 1, c, h, hc, h1, ha, hb, hQ => by
    have rc := hb c (Nat.le_refl _) (by omega)
    have lc := rwb_lt w c
    have lm := rwb_lt w m
    have rm : h.1 r m = nI (rwB w m) := by
      by_cases e : m < c
      · rw [ha m e, rwb_self]
      · exact hb m (by omega) hm
    rw [sG_follow_12]
    simp (disch := omega) only [sG_follow_13, sG_follow_14, sG_follow_17, sG_follow_20, sG_follow_21, sG_follow_22, sG_follow_23, sG_follow_24, sG_follow_27, ax_clr_i, ax_clr_l, ax_clr_r, ax_clr_n, ax_ct_0, ax_ct_i, ax_ct_l, ax_ct_r, va_rf_s, Option.toList_some, Option.toList_none, List.cons_append, List.nil_append, and_true, true_and, and_self, ite_true, ite_false, if_true, if_false, Nat.reduceAdd, Nat.reduceLeDiff, Nat.reduceMul, Nat.reduceLT, nI_add, pk_mul, nI_lt', nI_le', nI_eq', nI_lt0, nI_ge0, nI_eq0, nI_gt0, nI_le0, nI_ne_m1, m1_ne_nI, m1_lt_nI, m1_le_nI, nI_lt_m1, nI_le_m1, nI_clamp, ax_in_nI, nI_shl, nI_shr, lg_cmp0, nx_and, nI_eq1, bI_0, bI_1, bf_or, eq_self, or_true, true_or, lt_T, le_T, lt_F, le_F, eq_F, eq_T, kdC_0, kdC_1, kdC_2, kdC_3, kdC_4, kdC_5, kdC_6, kdC_7, kdC_8, kdC_9, kdC_10, kdC_11, kdC_12, kdC_13, kdC_14, kdC_15, kdC_16, kdU_1, kdU_2, kdU_3, kdU_4, kdU_5, kdU_6, kdU_7, kdU_, kdR_1, kdR_2, kdR_3, kdR_4, kdR_5, kdR_, rC_00, rC_01, rC_02, rC_03, rC_04, rC_10, rC_16, rC_18, rC_19, rC_1a, rC_20, rC_22, rC_23, rC_24, rC_25, rC_26, rC_27, rC_28, rC_4, rC_10k, rC_u3, rC_u5, rC_u7, rC_u9, rC_ua, rC_ub, rC_uc, rC_r4, rC_r5, rC_r6, rC_r7, rC_r8, Nat.add_zero, h1, hkd, rc, mG_isIn_ (rwB w c) m (by omega) (by omega), rwb_at w c (show m < 12 by omega)]
    have e9 := rwb_cl w m c
    by_cases b : w (12 * c + m) = true
    · rw [if_neg (by rw [b]; simp)]
      rw [if_pos b] at e9
      simp (disch := omega) only [sG_follow_30, sG_follow_31, sG_follow_32, sG_follow_33, sG_follow_34, sG_follow_35, sG_follow_36, sG_follow_37, sG_follow_38, sG_follow_39, sG_follow_42, ax_clr_i, ax_clr_l, ax_clr_r, ax_clr_n, ax_ct_0, ax_ct_i, ax_ct_l, ax_ct_r, va_rf_s, Option.toList_some, Option.toList_none, List.cons_append, List.nil_append, and_true, true_and, and_self, ite_true, ite_false, if_true, if_false, Nat.reduceAdd, Nat.reduceLeDiff, Nat.reduceMul, Nat.reduceLT, nI_add, pk_mul, nI_lt', nI_le', nI_eq', nI_lt0, nI_ge0, nI_eq0, nI_gt0, nI_le0, nI_ne_m1, m1_ne_nI, m1_lt_nI, m1_le_nI, nI_lt_m1, nI_le_m1, nI_clamp, ax_in_nI, nI_shl, nI_shr, lg_cmp0, nx_and, nI_eq1, bI_0, bI_1, bf_or, eq_self, or_true, true_or, lt_T, le_T, lt_F, le_F, eq_F, eq_T, kdC_0, kdC_1, kdC_2, kdC_3, kdC_4, kdC_5, kdC_6, kdC_7, kdC_8, kdC_9, kdC_10, kdC_11, kdC_12, kdC_13, kdC_14, kdC_15, kdC_16, kdU_1, kdU_2, kdU_3, kdU_4, kdU_5, kdU_6, kdU_7, kdU_, kdR_1, kdR_2, kdR_3, kdR_4, kdR_5, kdR_, rC_00, rC_01, rC_02, rC_03, rC_04, rC_10, rC_16, rC_18, rC_19, rC_1a, rC_20, rC_22, rC_23, rC_24, rC_25, rC_26, rC_27, rC_28, rC_4, rC_10k, rC_u3, rC_u5, rC_u7, rC_u9, rC_ua, rC_ub, rC_uc, rC_r4, rC_r5, rC_r6, rC_r7, rC_r8, Nat.add_zero, hkd, rc, rm, nI_or]
      rw [← e9]
      refine mG_follow_i r n hkd hn hr2 w m hm q (c + 1) _ (by omega) (by rw [up_I, if_neg (by omega)]; exact h1) (fun a h2 => ?_) (fun a h2 h3 => by rw [up_I, if_neg (by omega)]; exact hb a (by omega) h3) (fun h' f => hQ h' ⟨f.1, fun a k h2 => by rw [f.2 a k h2, up_I, if_neg (by omega)]⟩)
      rw [up_I]
      by_cases e : a = c
      · rw [if_pos ⟨rfl, e⟩, e]
      · rw [if_neg (by omega)]; exact ha a (by omega)
    · rw [if_pos (by simpa using b)]
      rw [if_neg b] at e9
      simp (disch := omega) only [sG_follow_39, sG_follow_42, ax_clr_i, ax_clr_l, ax_clr_r, ax_clr_n, ax_ct_0, ax_ct_i, ax_ct_l, ax_ct_r, va_rf_s, Option.toList_some, Option.toList_none, List.cons_append, List.nil_append, and_true, true_and, and_self, ite_true, ite_false, if_true, if_false, Nat.reduceAdd, Nat.reduceLeDiff, Nat.reduceMul, Nat.reduceLT, nI_add]
      refine mG_follow_i r n hkd hn hr2 w m hm q (c + 1) h (by omega) h1 (fun a h2 => ?_) (fun a h2 h3 => hb a (by omega) h3) hQ
      by_cases e : a = c
      · rw [e, e9]; exact rc
      · exact ha a (by omega)
theorem mG_follow_l (r n : Nat) (hkd : ax_kd kC r = (1, 12)) (hn : n ≤ 12) (hr2 : ¬ r = 2) (w : Nat → Bool) : ∀ (q m : Nat) (h : ax_H) (y3 : Option Value), m + q = n → h.1 2 1 = nI n → rowC h r (clN w m) n → (y3 = none ∨ y3 = some (.int (nI n))) → (∀ h', frR r h h' → rowC h' r (clN w n) n → Q none h') → ax_wp kC (d + 1) mG_follow 2 [some (.ref 2), some (.ref r), some (.int (nI m)), y3] [] h Q
  | 0, m, h, y3, hm, h1, hw, hy, hQ => by
    have e : m = n := by omega
    subst e
    rw [sG_follow_2]
    rcases hy with rfl | rfl <;>
    · simp (disch := omega) only [sG_follow_3, sG_follow_4, sG_follow_7, sG_follow_51, ax_clr_i, ax_clr_l, ax_clr_r, ax_clr_n, ax_ct_0, ax_ct_i, ax_ct_l, ax_ct_r, va_rf_s, Option.toList_some, Option.toList_none, List.cons_append, List.nil_append, and_true, true_and, and_self, ite_true, ite_false, if_true, if_false, Nat.reduceAdd, Nat.reduceLeDiff, Nat.reduceMul, Nat.reduceLT, nI_add, pk_mul, nI_lt', nI_le', nI_eq', nI_lt0, nI_ge0, nI_eq0, nI_gt0, nI_le0, nI_ne_m1, m1_ne_nI, m1_lt_nI, m1_le_nI, nI_lt_m1, nI_le_m1, nI_clamp, ax_in_nI, nI_shl, nI_shr, lg_cmp0, nx_and, nI_eq1, bI_0, bI_1, bf_or, eq_self, or_true, true_or, lt_T, le_T, lt_F, le_F, eq_F, eq_T, kdC_0, kdC_1, kdC_2, kdC_3, kdC_4, kdC_5, kdC_6, kdC_7, kdC_8, kdC_9, kdC_10, kdC_11, kdC_12, kdC_13, kdC_14, kdC_15, kdC_16, kdU_1, kdU_2, kdU_3, kdU_4, kdU_5, kdU_6, kdU_7, kdU_, kdR_1, kdR_2, kdR_3, kdR_4, kdR_5, kdR_, rC_00, rC_01, rC_02, rC_03, rC_04, rC_10, rC_16, rC_18, rC_19, rC_1a, rC_20, rC_22, rC_23, rC_24, rC_25, rC_26, rC_27, rC_28, rC_4, rC_10k, rC_u3, rC_u5, rC_u7, rC_u9, rC_ua, rC_ub, rC_uc, rC_r4, rC_r5, rC_r6, rC_r7, rC_r8, Nat.add_zero, h1]
      exact hQ h frR.rf hw
  | q + 1, m, h, y3, hm, h1, hw, hy, hQ => by
    rw [sG_follow_2]
    have go : ax_wp kC (d + 1) mG_follow 12 [some (.ref 2), some (.ref r), some (.int (nI m)), some (.int (nI 0))] [] h Q := by
      refine mG_follow_i r n hkd hn hr2 (clN w m) m (by omega) n 0 h (by omega) h1 (fun a h2 => by omega) (fun a _ h3 => hw a h3) (fun h' f hw' => ?_)
      simp (disch := omega) only [sG_follow_45, sG_follow_48, ax_clr_i, ax_clr_l, ax_clr_r, ax_clr_n, ax_ct_0, ax_ct_i, ax_ct_l, ax_ct_r, va_rf_s, Option.toList_some, Option.toList_none, List.cons_append, List.nil_append, and_true, true_and, and_self, ite_true, ite_false, if_true, if_false, Nat.reduceAdd, Nat.reduceLeDiff, Nat.reduceMul, Nat.reduceLT, nI_add]
      exact mG_follow_l r n hkd hn hr2 w q (m + 1) h' _ (by omega) (by rw [f.2 _ _ (by omega)]; exact h1) hw' (Or.inr rfl) (fun h2 f2 => hQ h2 (f.tr f2))
    rcases hy with rfl | rfl <;>
    · simp (disch := omega) only [sG_follow_3, sG_follow_4, sG_follow_7, sG_follow_10, sG_follow_11, ax_clr_i, ax_clr_l, ax_clr_r, ax_clr_n, ax_ct_0, ax_ct_i, ax_ct_l, ax_ct_r, va_rf_s, Option.toList_some, Option.toList_none, List.cons_append, List.nil_append, and_true, true_and, and_self, ite_true, ite_false, if_true, if_false, Nat.reduceAdd, Nat.reduceLeDiff, Nat.reduceMul, Nat.reduceLT, nI_add, pk_mul, nI_lt', nI_le', nI_eq', nI_lt0, nI_ge0, nI_eq0, nI_gt0, nI_le0, nI_ne_m1, m1_ne_nI, m1_lt_nI, m1_le_nI, nI_lt_m1, nI_le_m1, nI_clamp, ax_in_nI, nI_shl, nI_shr, lg_cmp0, nx_and, nI_eq1, bI_0, bI_1, bf_or, eq_self, or_true, true_or, lt_T, le_T, lt_F, le_F, eq_F, eq_T, kdC_0, kdC_1, kdC_2, kdC_3, kdC_4, kdC_5, kdC_6, kdC_7, kdC_8, kdC_9, kdC_10, kdC_11, kdC_12, kdC_13, kdC_14, kdC_15, kdC_16, kdU_1, kdU_2, kdU_3, kdU_4, kdU_5, kdU_6, kdU_7, kdU_, kdR_1, kdR_2, kdR_3, kdR_4, kdR_5, kdR_, rC_00, rC_01, rC_02, rC_03, rC_04, rC_10, rC_16, rC_18, rC_19, rC_1a, rC_20, rC_22, rC_23, rC_24, rC_25, rC_26, rC_27, rC_28, rC_4, rC_10k, rC_u3, rC_u5, rC_u7, rC_u9, rC_ua, rC_ub, rC_uc, rC_r4, rC_r5, rC_r6, rC_r7, rC_r8, Nat.add_zero, h1]
      exact go
theorem mG_follow_ {h : ax_H} (r n : Nat) (hkd : ax_kd kC r = (1, 12)) (hn : n ≤ 12) (hr2 : ¬ r = 2) (w : Nat → Bool) (h1 : h.1 2 1 = nI n) (hw : rowC h r w n) (hQ : ∀ h', frR r h h' → rowC h' r (clN w n) n → Q none h') : ax_wp kC (d + 1) mG_follow 0 [some (.ref 2), some (.ref r), none, none] [] h Q := by
  simp only [sG_follow_0, sG_follow_1, ax_clr_i, ax_clr_l, ax_clr_r, ax_clr_n, ax_ct_0, ax_ct_i, ax_ct_l, ax_ct_r, va_rf_s, Option.toList_some, Option.toList_none, List.cons_append, List.nil_append, and_true, true_and, and_self, ite_true, ite_false, if_true, if_false, Nat.reduceAdd, Nat.reduceLeDiff, Nat.reduceMul, Nat.reduceLT]
  exact mG_follow_l r n hkd hn hr2 w n 0 h none (by omega) h1 hw (Or.inl rfl) hQ
end CF
