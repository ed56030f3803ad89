section TX2
variable {ks : ax_K} {d : Nat} {h : ax_H} {Q : Option Value → ax_H → Prop}
theorem mT_lengthOf_l (t : List Nat) (ht : vT t) : ∀ (k n : Nat), n + k = t.length → ax_wp ks (d + 1) mT_lengthOf 2 [some (.long (lN (pL t))), none, some (.int (nI n))] [] h Q = Q (some (.int (nI t.length))) h
  | 0, n, hn => by
    have h0 := ht.1
    rw [sT_lengthOf_2]
    simp (disch := omega) only [sT_lengthOf_0, sT_lengthOf_1, sT_lengthOf_3, sT_lengthOf_5, sT_lengthOf_8, sT_lengthOf_9, sT_lengthOf_10, sT_lengthOf_13, sT_lengthOf_16, sT_lengthOf_19, sT_lengthOf_22, sT_lengthOf_23, ax_clr_i, ax_clr_l, ax_clr_r, ax_clr_n, ax_ct_0, ax_ct_i, ax_ct_l, ax_ct_r, va_rf_s, Option.toList_some, Option.toList_none, List.cons_append, List.nil_append, and_true, true_and, and_self, ite_true, ite_false, if_true, if_false, Nat.reduceAdd, Nat.reduceLeDiff, Nat.reduceMul, Nat.reduceLT, nI_add, pk_mul, nI_lt', nI_le', nI_eq', nI_lt0, nI_ge0, nI_eq0, nI_gt0, nI_le0, nI_ne_m1, m1_ne_nI, m1_lt_nI, m1_le_nI, nI_lt_m1, nI_le_m1, nI_clamp, ax_in_nI, nI_shl, nI_shr, lg_cmp0, nx_and, nI_eq1, bI_0, bI_1, bf_or, eq_self, or_true, true_or]
    split
    · rw [← hn]; simp
    · rw [mT_codeAt_ t n ht (by omega)]
      have := vT_get ht n
      simp (disch := omega) only [sT_lengthOf_0, sT_lengthOf_1, sT_lengthOf_3, sT_lengthOf_5, sT_lengthOf_8, sT_lengthOf_9, sT_lengthOf_10, sT_lengthOf_13, sT_lengthOf_16, sT_lengthOf_19, sT_lengthOf_22, sT_lengthOf_23, ax_clr_i, ax_clr_l, ax_clr_r, ax_clr_n, ax_ct_0, ax_ct_i, ax_ct_l, ax_ct_r, va_rf_s, Option.toList_some, Option.toList_none, List.cons_append, List.nil_append, and_true, true_and, and_self, ite_true, ite_false, if_true, if_false, Nat.reduceAdd, Nat.reduceLeDiff, Nat.reduceMul, Nat.reduceLT, nI_add, pk_mul, nI_lt', nI_le', nI_eq', nI_lt0, nI_ge0, nI_eq0, nI_gt0, nI_le0, nI_ne_m1, m1_ne_nI, m1_lt_nI, m1_le_nI, nI_lt_m1, nI_le_m1, nI_clamp, ax_in_nI, nI_shl, nI_shr, lg_cmp0, nx_and, nI_eq1, bI_0, bI_1, bf_or, eq_self, or_true, true_or, vT_get0 ht]
      rw [if_pos (by omega), ← hn]; simp
  | k + 1, n, hn => by
    have h0 := ht.1
    rw [sT_lengthOf_2]
    simp (disch := omega) only [sT_lengthOf_0, sT_lengthOf_1, sT_lengthOf_3, sT_lengthOf_5, sT_lengthOf_8, sT_lengthOf_9, sT_lengthOf_10, sT_lengthOf_13, sT_lengthOf_16, sT_lengthOf_19, sT_lengthOf_22, sT_lengthOf_23, ax_clr_i, ax_clr_l, ax_clr_r, ax_clr_n, ax_ct_0, ax_ct_i, ax_ct_l, ax_ct_r, va_rf_s, Option.toList_some, Option.toList_none, List.cons_append, List.nil_append, and_true, true_and, and_self, ite_true, ite_false, if_true, if_false, Nat.reduceAdd, Nat.reduceLeDiff, Nat.reduceMul, Nat.reduceLT, nI_add, pk_mul, nI_lt', nI_le', nI_eq', nI_lt0, nI_ge0, nI_eq0, nI_gt0, nI_le0, nI_ne_m1, m1_ne_nI, m1_lt_nI, m1_le_nI, nI_lt_m1, nI_le_m1, nI_clamp, ax_in_nI, nI_shl, nI_shr, lg_cmp0, nx_and, nI_eq1, bI_0, bI_1, bf_or, eq_self, or_true, true_or]
    rw [if_neg (by omega), mT_codeAt_ t n ht (by omega)]
    have := vT_get ht n
    simp (disch := omega) only [sT_lengthOf_0, sT_lengthOf_1, sT_lengthOf_3, sT_lengthOf_5, sT_lengthOf_8, sT_lengthOf_9, sT_lengthOf_10, sT_lengthOf_13, sT_lengthOf_16, sT_lengthOf_19, sT_lengthOf_22, sT_lengthOf_23, ax_clr_i, ax_clr_l, ax_clr_r, ax_clr_n, ax_ct_0, ax_ct_i, ax_ct_l, ax_ct_r, va_rf_s, Option.toList_some, Option.toList_none, List.cons_append, List.nil_append, and_true, true_and, and_self, ite_true, ite_false, if_true, if_false, Nat.reduceAdd, Nat.reduceLeDiff, Nat.reduceMul, Nat.reduceLT, nI_add, pk_mul, nI_lt', nI_le', nI_eq', nI_lt0, nI_ge0, nI_eq0, nI_gt0, nI_le0, nI_ne_m1, m1_ne_nI, m1_lt_nI, m1_le_nI, nI_lt_m1, nI_le_m1, nI_clamp, ax_in_nI, nI_shl, nI_shr, lg_cmp0, nx_and, nI_eq1, bI_0, bI_1, bf_or, eq_self, or_true, true_or, vT_get0 ht]
    rw [if_neg (by omega), mT_lengthOf_l t ht k (n + 1) (by omega)]
theorem mT_lengthOf_ (t : List Nat) (ht : vT t) : ax_wp ks (d + 1) mT_lengthOf 0 [some (.long (lN (pL t))), none, none] [] h Q = Q (some (.int (nI t.length))) h := by
  simp only [sT_lengthOf_0, sT_lengthOf_1, ax_clr_i, ax_clr_l, ax_clr_r, ax_clr_n, ax_ct_0, ax_ct_i, ax_ct_l, ax_ct_r, va_rf_s, Option.toList_some, Option.toList_none, List.cons_append, List.nil_append, and_true, true_and, and_self, ite_true, ite_false, if_true, if_false, Nat.reduceAdd, Nat.reduceLeDiff, Nat.reduceMul, Nat.reduceLT]
  exact mT_lengthOf_l t ht t.length 0 (by omega)
/-- a word: something, and no point -/
def isWd (t : List Nat) : Bool := decide (t ≠ []) && t.all (fun c => !decide (c = 53))
theorem mT_isWord_l (t : List Nat) (ht : vT t) : ∀ (k n : Nat), n + k = 10 → ax_wp ks (d + 1) mT_isWord 2 [some (.long (lN (pL t))), none, some (.int (nI n))] [] h Q = Q (some (.int (bI (decide (t ≠ []) && (t.drop n).all (fun c => !decide (c = 53)))))) h
  | 0, n, hn => by
    have h0 := ht.1
    have h1 := vT_p ht
    rw [sT_isWord_2]
    simp (disch := omega) only [sT_isWord_0, sT_isWord_1, sT_isWord_3, sT_isWord_5, sT_isWord_8, sT_isWord_9, sT_isWord_10, sT_isWord_13, sT_isWord_15, sT_isWord_18, sT_isWord_19, sT_isWord_20, sT_isWord_23, sT_isWord_26, sT_isWord_27, sT_isWord_28, sT_isWord_29, sT_isWord_32, sT_isWord_33, sT_isWord_36, sT_isWord_37, ax_clr_i, ax_clr_l, ax_clr_r, ax_clr_n, ax_ct_0, ax_ct_i, ax_ct_l, ax_ct_r, va_rf_s, Option.toList_some, Option.toList_none, List.cons_append, List.nil_append, and_true, true_and, and_self, ite_true, ite_false, if_true, if_false, Nat.reduceAdd, Nat.reduceLeDiff, Nat.reduceMul, Nat.reduceLT, nI_add, pk_mul, nI_lt', nI_le', nI_eq', nI_lt0, nI_ge0, nI_eq0, nI_gt0, nI_le0, nI_ne_m1, m1_ne_nI, m1_lt_nI, m1_le_nI, nI_lt_m1, nI_le_m1, nI_clamp, ax_in_nI, nI_shl, nI_shr, lg_cmp0, nx_and, nI_eq1, bI_0, bI_1, bf_or, eq_self, or_true, true_or]
    rw [if_pos (by omega), List.drop_eq_nil_of_le (by omega), lN_0]
    simp (disch := omega) only [lN_eq', pL_0 ht.2]
    by_cases e : t = [] <;> simp [e, bI]
  | k + 1, n, hn => by
    have h0 := ht.1
    rw [sT_isWord_2]
    simp (disch := omega) only [sT_isWord_0, sT_isWord_1, sT_isWord_3, sT_isWord_5, sT_isWord_8, sT_isWord_9, sT_isWord_10, sT_isWord_13, sT_isWord_15, sT_isWord_18, sT_isWord_19, sT_isWord_20, sT_isWord_23, sT_isWord_26, sT_isWord_27, sT_isWord_28, sT_isWord_29, sT_isWord_32, sT_isWord_33, sT_isWord_36, sT_isWord_37, ax_clr_i, ax_clr_l, ax_clr_r, ax_clr_n, ax_ct_0, ax_ct_i, ax_ct_l, ax_ct_r, va_rf_s, Option.toList_some, Option.toList_none, List.cons_append, List.nil_append, and_true, true_and, and_self, ite_true, ite_false, if_true, if_false, Nat.reduceAdd, Nat.reduceLeDiff, Nat.reduceMul, Nat.reduceLT, nI_add, pk_mul, nI_lt', nI_le', nI_eq', nI_lt0, nI_ge0, nI_eq0, nI_gt0, nI_le0, nI_ne_m1, m1_ne_nI, m1_lt_nI, m1_le_nI, nI_lt_m1, nI_le_m1, nI_clamp, ax_in_nI, nI_shl, nI_shr, lg_cmp0, nx_and, nI_eq1, bI_0, bI_1, bf_or, eq_self, or_true, true_or]
    rw [if_neg (by omega), mT_codeAt_ t n ht (by omega)]
    have := vT_get ht n
    simp (disch := omega) only [sT_isWord_0, sT_isWord_1, sT_isWord_3, sT_isWord_5, sT_isWord_8, sT_isWord_9, sT_isWord_10, sT_isWord_13, sT_isWord_15, sT_isWord_18, sT_isWord_19, sT_isWord_20, sT_isWord_23, sT_isWord_26, sT_isWord_27, sT_isWord_28, sT_isWord_29, sT_isWord_32, sT_isWord_33, sT_isWord_36, sT_isWord_37, ax_clr_i, ax_clr_l, ax_clr_r, ax_clr_n, ax_ct_0, ax_ct_i, ax_ct_l, ax_ct_r, va_rf_s, Option.toList_some, Option.toList_none, List.cons_append, List.nil_append, and_true, true_and, and_self, ite_true, ite_false, if_true, if_false, Nat.reduceAdd, Nat.reduceLeDiff, Nat.reduceMul, Nat.reduceLT, nI_add, pk_mul, nI_lt', nI_le', nI_eq', nI_lt0, nI_ge0, nI_eq0, nI_gt0, nI_le0, nI_ne_m1, m1_ne_nI, m1_lt_nI, m1_le_nI, nI_lt_m1, nI_le_m1, nI_clamp, ax_in_nI, nI_shl, nI_shr, lg_cmp0, nx_and, nI_eq1, bI_0, bI_1, bf_or, eq_self, or_true, true_or]
    rw [mT_isWord_l t ht k (n + 1) (by omega)]
    by_cases hl : n < t.length
    · rw [drop_lt hl]
      generalize t.getD n 0 = c
      by_cases e : c = 53 <;> simp [e, bI]
    · rw [getD_ge (by omega), if_neg (by decide), List.drop_eq_nil_of_le (by omega), List.drop_eq_nil_of_le (by omega)]
theorem mT_isWord_ (t : List Nat) (ht : vT t) : ax_wp ks (d + 1) mT_isWord 0 [some (.long (lN (pL t))), none, none] [] h Q = Q (some (.int (bI (isWd t)))) h := by
  simp only [sT_isWord_0, sT_isWord_1, ax_clr_i, ax_clr_l, ax_clr_r, ax_clr_n, ax_ct_0, ax_ct_i, ax_ct_l, ax_ct_r, va_rf_s, Option.toList_some, Option.toList_none, List.cons_append, List.nil_append, and_true, true_and, and_self, ite_true, ite_false, if_true, if_false, Nat.reduceAdd, Nat.reduceLeDiff, Nat.reduceMul, Nat.reduceLT]
  exact mT_isWord_l t ht 10 0 (by omega)
/-- no empty word behind a code b -/
def nmOk (b : Nat) : List Nat → Bool
  | [] => !decide (b = 53)
  | c :: t => !(decide (c = 53) && decide (b = 53)) && nmOk c t
def isNm (t : List Nat) : Bool := nmOk 53 t
theorem mT_isName_l (t : List Nat) (ht : vT t) : ∀ (k n b : Nat) (x : Option Value), n + k = t.length → b < 64 → ax_wp ks (d + 1) mT_isName 11 [some (.long (lN (pL t))), none, some (.int (nI b)), some (.int (nI t.length)), some (.int (nI n)), x] [] h Q = Q (some (.int (bI (nmOk b (t.drop n))))) h
  | 0, n, b, x, hn, hb => by
    have h0 := ht.1
    rw [sT_isName_11]
    simp (disch := omega) only [sT_isName_0, sT_isName_2, sT_isName_3, sT_isName_4, sT_isName_7, sT_isName_8, sT_isName_9, sT_isName_13, sT_isName_14, sT_isName_17, sT_isName_18, sT_isName_20, sT_isName_23, sT_isName_25, sT_isName_27, sT_isName_29, sT_isName_32, sT_isName_33, sT_isName_35, sT_isName_38, sT_isName_39, sT_isName_40, sT_isName_42, sT_isName_43, sT_isName_46, sT_isName_49, sT_isName_50, sT_isName_52, sT_isName_55, sT_isName_56, sT_isName_59, sT_isName_60, ax_clr_i, ax_clr_l, ax_clr_r, ax_clr_n, ax_ct_0, ax_ct_i, ax_ct_l, ax_ct_r, va_rf_s, Option.toList_some, Option.toList_none, List.cons_append, List.nil_append, and_true, true_and, and_self, ite_true, ite_false, if_true, if_false, Nat.reduceAdd, Nat.reduceLeDiff, Nat.reduceMul, Nat.reduceLT, nI_add, pk_mul, nI_lt', nI_le', nI_eq', nI_lt0, nI_ge0, nI_eq0, nI_gt0, nI_le0, nI_ne_m1, m1_ne_nI, m1_lt_nI, m1_le_nI, nI_lt_m1, nI_le_m1, nI_clamp, ax_in_nI, nI_shl, nI_shr, lg_cmp0, nx_and, nI_eq1, bI_0, bI_1, bf_or, eq_self, or_true, true_or]
    rw [if_pos (by omega), List.drop_eq_nil_of_le (by omega)]
    by_cases e : b = 53 <;> simp [nmOk, e, bI]
  | k + 1, n, b, x, hn, hb => by
    have h0 := ht.1
    rw [sT_isName_11]
    simp (disch := omega) only [sT_isName_0, sT_isName_2, sT_isName_3, sT_isName_4, sT_isName_7, sT_isName_8, sT_isName_9, sT_isName_13, sT_isName_14, sT_isName_17, sT_isName_18, sT_isName_20, sT_isName_23, sT_isName_25, sT_isName_27, sT_isName_29, sT_isName_32, sT_isName_33, sT_isName_35, sT_isName_38, sT_isName_39, sT_isName_40, sT_isName_42, sT_isName_43, sT_isName_46, sT_isName_49, sT_isName_50, sT_isName_52, sT_isName_55, sT_isName_56, sT_isName_59, sT_isName_60, ax_clr_i, ax_clr_l, ax_clr_r, ax_clr_n, ax_ct_0, ax_ct_i, ax_ct_l, ax_ct_r, va_rf_s, Option.toList_some, Option.toList_none, List.cons_append, List.nil_append, and_true, true_and, and_self, ite_true, ite_false, if_true, if_false, Nat.reduceAdd, Nat.reduceLeDiff, Nat.reduceMul, Nat.reduceLT, nI_add, pk_mul, nI_lt', nI_le', nI_eq', nI_lt0, nI_ge0, nI_eq0, nI_gt0, nI_le0, nI_ne_m1, m1_ne_nI, m1_lt_nI, m1_le_nI, nI_lt_m1, nI_le_m1, nI_clamp, ax_in_nI, nI_shl, nI_shr, lg_cmp0, nx_and, nI_eq1, bI_0, bI_1, bf_or, eq_self, or_true, true_or]
    rw [if_neg (by omega), mT_codeAt_ t n ht (by omega)]
    have := vT_get ht n
    simp (disch := omega) only [sT_isName_0, sT_isName_2, sT_isName_3, sT_isName_4, sT_isName_7, sT_isName_8, sT_isName_9, sT_isName_13, sT_isName_14, sT_isName_17, sT_isName_18, sT_isName_20, sT_isName_23, sT_isName_25, sT_isName_27, sT_isName_29, sT_isName_32, sT_isName_33, sT_isName_35, sT_isName_38, sT_isName_39, sT_isName_40, sT_isName_42, sT_isName_43, sT_isName_46, sT_isName_49, sT_isName_50, sT_isName_52, sT_isName_55, sT_isName_56, sT_isName_59, sT_isName_60, ax_clr_i, ax_clr_l, ax_clr_r, ax_clr_n, ax_ct_0, ax_ct_i, ax_ct_l, ax_ct_r, va_rf_s, Option.toList_some, Option.toList_none, List.cons_append, List.nil_append, and_true, true_and, and_self, ite_true, ite_false, if_true, if_false, Nat.reduceAdd, Nat.reduceLeDiff, Nat.reduceMul, Nat.reduceLT, nI_add, pk_mul, nI_lt', nI_le', nI_eq', nI_lt0, nI_ge0, nI_eq0, nI_gt0, nI_le0, nI_ne_m1, m1_ne_nI, m1_lt_nI, m1_le_nI, nI_lt_m1, nI_le_m1, nI_clamp, ax_in_nI, nI_shl, nI_shr, lg_cmp0, nx_and, nI_eq1, bI_0, bI_1, bf_or, eq_self, or_true, true_or]
    rw [mT_isName_l t ht k (n + 1) _ _ (by omega) (by omega), drop_lt (show n < t.length by omega)]
    generalize t.getD n 0 = c
    by_cases e : c = 53 <;> by_cases e2 : b = 53 <;> simp [nmOk, e, e2, bI]
theorem mT_isName_ (t : List Nat) (ht : vT t) : ax_wp ks (d + 2) mT_isName 0 [some (.long (lN (pL t))), none, none, none, none, none] [] h Q = Q (some (.int (bI (isNm t)))) h := by
  simp only [sT_isName_0, sT_isName_2, sT_isName_3, sT_isName_4, sT_isName_7, sT_isName_8, sT_isName_9, ax_clr_i, ax_clr_l, ax_clr_r, ax_clr_n, ax_ct_0, ax_ct_i, ax_ct_l, ax_ct_r, va_rf_s, Option.toList_some, Option.toList_none, List.cons_append, List.nil_append, and_true, true_and, and_self, ite_true, ite_false, if_true, if_false, Nat.reduceAdd, Nat.reduceLeDiff, Nat.reduceMul, Nat.reduceLT, mT_lengthOf_ t ht]
  exact mT_isName_l t ht t.length 0 53 none (by omega) (by omega)
/-- the words ahead of the d-th point, where there is one -/
def fw (d p : Nat) (pre : List Nat) : List Nat → List Nat
  | [] => []
  | c :: t => if c = 53 then (if p + 1 = d then pre else fw d (p + 1) (pre ++ [c]) t) else fw d p (pre ++ [c]) t
def fWd (t : List Nat) (d : Nat) : List Nat := fw d 0 [] t
theorem mT_firstWords_l (t : List Nat) (ht : vT t) (w : Nat) (hw : w < 100) : ∀ (k n p : Nat), n + k = 10 → p ≤ n → ax_wp ks (d + 1) mT_firstWords 5 [some (.long (lN (pL t))), none, some (.int (nI w)), some (.int (nI p)), some (.int (nI n))] [] h Q = Q (some (.long (lN (pL (fw w p (t.take n) (t.drop n)))))) h
  | 0, n, p, hn, hp => by
    have h0 := ht.1
    rw [sT_firstWords_5]
    simp (disch := omega) only [sT_firstWords_0, sT_firstWords_1, sT_firstWords_2, sT_firstWords_3, sT_firstWords_7, sT_firstWords_9, sT_firstWords_12, sT_firstWords_13, sT_firstWords_15, sT_firstWords_18, sT_firstWords_20, sT_firstWords_23, sT_firstWords_26, sT_firstWords_27, sT_firstWords_28, sT_firstWords_31, sT_firstWords_32, sT_firstWords_33, sT_firstWords_35, sT_firstWords_37, sT_firstWords_38, sT_firstWords_39, sT_firstWords_40, sT_firstWords_41, sT_firstWords_42, sT_firstWords_43, sT_firstWords_46, sT_firstWords_49, sT_firstWords_50, ax_clr_i, ax_clr_l, ax_clr_r, ax_clr_n, ax_ct_0, ax_ct_i, ax_ct_l, ax_ct_r, va_rf_s, Option.toList_some, Option.toList_none, List.cons_append, List.nil_append, and_true, true_and, and_self, ite_true, ite_false, if_true, if_false, Nat.reduceAdd, Nat.reduceLeDiff, Nat.reduceMul, Nat.reduceLT, nI_add, pk_mul, nI_lt', nI_le', nI_eq', nI_lt0, nI_ge0, nI_eq0, nI_gt0, nI_le0, nI_ne_m1, m1_ne_nI, m1_lt_nI, m1_le_nI, nI_lt_m1, nI_le_m1, nI_clamp, ax_in_nI, nI_shl, nI_shr, lg_cmp0, nx_and, nI_eq1, bI_0, bI_1, bf_or, eq_self, or_true, true_or]
    rw [if_pos (by omega), List.drop_eq_nil_of_le (by omega)]
    rfl
  | k + 1, n, p, hn, hp => by
    have h0 := ht.1
    have h1 := vT_p ht
    rw [sT_firstWords_5]
    simp (disch := omega) only [sT_firstWords_0, sT_firstWords_1, sT_firstWords_2, sT_firstWords_3, sT_firstWords_7, sT_firstWords_9, sT_firstWords_12, sT_firstWords_13, sT_firstWords_15, sT_firstWords_18, sT_firstWords_20, sT_firstWords_23, sT_firstWords_26, sT_firstWords_27, sT_firstWords_28, sT_firstWords_31, sT_firstWords_32, sT_firstWords_33, sT_firstWords_35, sT_firstWords_37, sT_firstWords_38, sT_firstWords_39, sT_firstWords_40, sT_firstWords_41, sT_firstWords_42, sT_firstWords_43, sT_firstWords_46, sT_firstWords_49, sT_firstWords_50, ax_clr_i, ax_clr_l, ax_clr_r, ax_clr_n, ax_ct_0, ax_ct_i, ax_ct_l, ax_ct_r, va_rf_s, Option.toList_some, Option.toList_none, List.cons_append, List.nil_append, and_true, true_and, and_self, ite_true, ite_false, if_true, if_false, Nat.reduceAdd, Nat.reduceLeDiff, Nat.reduceMul, Nat.reduceLT, nI_add, pk_mul, nI_lt', nI_le', nI_eq', nI_lt0, nI_ge0, nI_eq0, nI_gt0, nI_le0, nI_ne_m1, m1_ne_nI, m1_lt_nI, m1_le_nI, nI_lt_m1, nI_le_m1, nI_clamp, ax_in_nI, nI_shl, nI_shr, lg_cmp0, nx_and, nI_eq1, bI_0, bI_1, bf_or, eq_self, or_true, true_or]
    rw [if_neg (by omega), mT_codeAt_ t n ht (by omega)]
    have := vT_get ht n
    simp (disch := omega) only [sT_firstWords_0, sT_firstWords_1, sT_firstWords_2, sT_firstWords_3, sT_firstWords_7, sT_firstWords_9, sT_firstWords_12, sT_firstWords_13, sT_firstWords_15, sT_firstWords_18, sT_firstWords_20, sT_firstWords_23, sT_firstWords_26, sT_firstWords_27, sT_firstWords_28, sT_firstWords_31, sT_firstWords_32, sT_firstWords_33, sT_firstWords_35, sT_firstWords_37, sT_firstWords_38, sT_firstWords_39, sT_firstWords_40, sT_firstWords_41, sT_firstWords_42, sT_firstWords_43, sT_firstWords_46, sT_firstWords_49, sT_firstWords_50, ax_clr_i, ax_clr_l, ax_clr_r, ax_clr_n, ax_ct_0, ax_ct_i, ax_ct_l, ax_ct_r, va_rf_s, Option.toList_some, Option.toList_none, List.cons_append, List.nil_append, and_true, true_and, and_self, ite_true, ite_false, if_true, if_false, Nat.reduceAdd, Nat.reduceLeDiff, Nat.reduceMul, Nat.reduceLT, nI_add, pk_mul, nI_lt', nI_le', nI_eq', nI_lt0, nI_ge0, nI_eq0, nI_gt0, nI_le0, nI_ne_m1, m1_ne_nI, m1_lt_nI, m1_le_nI, nI_lt_m1, nI_le_m1, nI_clamp, ax_in_nI, nI_shl, nI_shr, lg_cmp0, nx_and, nI_eq1, bI_0, bI_1, bf_or, eq_self, or_true, true_or]
    rw [mT_firstWords_l t ht w hw k (n + 1) (p + 1) (by omega) (by omega), mT_firstWords_l t ht w hw k (n + 1) p (by omega) (by omega)]
    have e1 : lN (pL t) &&& ((1 : Int64) <<< ((nI (6 * n)).toInt64 &&& 63)) - 1 = lN (pL (t.take n)) := by
      rw [show (1 : Int64) = lN 1 from rfl, wb_shl 1 (by omega), Nat.one_mul, lN_sub (Nat.pow_pos (by decide)), wb_mask (by omega) (by omega), p64, pL_take t n (vT_lt ht)]
    rw [e1]
    by_cases hl : n < t.length
    · rw [drop_lt hl, take_lt hl]
      generalize t.getD n 0 = c
      by_cases e : c = 53
      · by_cases e2 : p + 1 = w <;> simp [fw, e, e2]
      · simp [fw, e]
    · rw [getD_ge (by omega), if_neg (by decide), List.drop_eq_nil_of_le (by omega), List.drop_eq_nil_of_le (by omega)]
      rfl
theorem mT_firstWords_ (t : List Nat) (ht : vT t) (w : Nat) (hw : w < 100) : ax_wp ks (d + 1) mT_firstWords 0 [some (.long (lN (pL t))), none, some (.int (nI w)), none, none] [] h Q = Q (some (.long (lN (pL (fWd t w))))) h := by
  simp only [sT_firstWords_0, sT_firstWords_1, sT_firstWords_2, sT_firstWords_3, ax_clr_i, ax_clr_l, ax_clr_r, ax_clr_n, ax_ct_0, ax_ct_i, ax_ct_l, ax_ct_r, va_rf_s, Option.toList_some, Option.toList_none, List.cons_append, List.nil_append, and_true, true_and, and_self, ite_true, ite_false, if_true, if_false, Nat.reduceAdd, Nat.reduceLeDiff, Nat.reduceMul, Nat.reduceLT]
  exact mT_firstWords_l t ht w hw 10 0 0 (by omega) (by omega)
end TX2
