/-! patterns: the class follows all ways to fit at once, by bits -/
theorem nI_bit {v s : Nat} (hv : v < 2 ^ 31) (hs : s < 32) : (nI (v / 2 ^ s) &&& nI 1 = 0) = (v.testBit s = false) := by
  rw [nx_and, show (1 : Nat) = 2 ^ 1 - 1 from rfl, Nat.and_two_pow_sub_one_eq_mod, nI_eq0 (by omega), Nat.testBit_eq_decide_div_mod_eq]
  apply propext
  simp only [decide_eq_false_iff_not]
  omega
/-- one pass over the stars, from s on, k places -/
def ps (p : List Nat) : Nat → Nat → Nat → Nat
  | 0, _, v => v
  | k + 1, s, v => ps p k (s + 1) (if v.testBit s = false then v else if p.getD s 0 < 54 then v else v ||| 2 ^ (s + 1))
/-- a character c is read, from place s on, k places, out of the places P -/
def sp (p : List Nat) (P c : Nat) : Nat → Nat → Nat → Nat
  | 0, _, v => v
  | k + 1, s, v => sp p P c k (s + 1) (if P.testBit s = false then v else if p.getD s 0 = 55 ∨ (p.getD s 0 = 54 ∧ c ≠ 53) then v ||| 2 ^ s else if p.getD s 0 = c then v ||| 2 ^ (s + 1) else v)
theorem or_lt {v k n : Nat} (hv : v < 2 ^ n) (hk : k < n) : v ||| 2 ^ k < 2 ^ n := Nat.or_lt_two_pow hv (Nat.pow_lt_pow_right (by decide) hk)
section MAT
variable {ks : ax_K} {d : Nat} {h : ax_H} {Q : Option Value → ax_H → Prop}
theorem mT_passStars_l (p : List Nat) (hp : vT p) : ∀ (k s v : Nat) (x3 : Option Value), s + k = p.length → v < 2 ^ 11 → ax_wp ks (d + 1) mT_passStars 6 [some (.long (lN (pL p))), none, some (.int (nI p.length)), x3, some (.int (nI v)), some (.int (nI s))] [] h Q = Q (some (.int (nI (ps p k s v)))) h
  | 0, s, v, x3, hn, hv => by
    have h0 := hp.1
    rw [sT_passStars_6]
    simp (disch := omega) only [sT_passStars_0, sT_passStars_1, sT_passStars_3, sT_passStars_4, sT_passStars_8, sT_passStars_9, sT_passStars_12, sT_passStars_14, sT_passStars_16, sT_passStars_17, sT_passStars_18, sT_passStars_19, sT_passStars_22, sT_passStars_23, sT_passStars_25, sT_passStars_28, sT_passStars_30, sT_passStars_33, sT_passStars_35, sT_passStars_36, sT_passStars_38, sT_passStars_39, sT_passStars_40, sT_passStars_41, sT_passStars_42, sT_passStars_44, sT_passStars_47, sT_passStars_50, sT_passStars_52, ax_clr_i, ax_clr_l, ax_clr_r, ax_clr_n, ax_ct_0, ax_ct_i, ax_ct_l, ax_ct_r, va_rf_s, Option.toList_some, Option.toList_none, List.cons_append, List.nil_append, and_true, true_and, and_self, ite_true, ite_false, if_true, if_false, Nat.reduceAdd, Nat.reduceLeDiff, Nat.reduceMul, Nat.reduceLT, nI_add, pk_mul, nI_lt', nI_le', nI_eq', nI_lt0, nI_ge0, nI_eq0, nI_gt0, nI_le0, nI_ne_m1, m1_ne_nI, m1_lt_nI, m1_le_nI, nI_lt_m1, nI_le_m1, nI_clamp, ax_in_nI, nI_shl, nI_shr, lg_cmp0, nx_and, nI_eq1, bI_0, bI_1, bf_or, eq_self, or_true, true_or]
    rw [if_pos (by omega)]
    rfl
  | k + 1, s, v, x3, hn, hv => by
    have h0 := hp.1
    have hg := vT_get hp s
    rw [sT_passStars_6]
    simp (disch := omega) only [sT_passStars_0, sT_passStars_1, sT_passStars_3, sT_passStars_4, sT_passStars_8, sT_passStars_9, sT_passStars_12, sT_passStars_14, sT_passStars_16, sT_passStars_17, sT_passStars_18, sT_passStars_19, sT_passStars_22, sT_passStars_23, sT_passStars_25, sT_passStars_28, sT_passStars_30, sT_passStars_33, sT_passStars_35, sT_passStars_36, sT_passStars_38, sT_passStars_39, sT_passStars_40, sT_passStars_41, sT_passStars_42, sT_passStars_44, sT_passStars_47, sT_passStars_50, sT_passStars_52, ax_clr_i, ax_clr_l, ax_clr_r, ax_clr_n, ax_ct_0, ax_ct_i, ax_ct_l, ax_ct_r, va_rf_s, Option.toList_some, Option.toList_none, List.cons_append, List.nil_append, and_true, true_and, and_self, ite_true, ite_false, if_true, if_false, Nat.reduceAdd, Nat.reduceLeDiff, Nat.reduceMul, Nat.reduceLT, nI_shr, nI_bit, nI_le', nI_add, nI_shl, Nat.one_mul, mT_codeAt_ p s hp (show s < 10 by omega)]
    rw [if_neg (by omega), nI_or (by omega) (by have : 2 ^ (s + 1) < 2 ^ 32 := Nat.pow_lt_pow_right (by decide) (by omega); omega)]
    simp (disch := omega) only [sT_passStars_0, sT_passStars_1, sT_passStars_3, sT_passStars_4, sT_passStars_8, sT_passStars_9, sT_passStars_12, sT_passStars_14, sT_passStars_16, sT_passStars_17, sT_passStars_18, sT_passStars_19, sT_passStars_22, sT_passStars_23, sT_passStars_25, sT_passStars_28, sT_passStars_30, sT_passStars_33, sT_passStars_35, sT_passStars_36, sT_passStars_38, sT_passStars_39, sT_passStars_40, sT_passStars_41, sT_passStars_42, sT_passStars_44, sT_passStars_47, sT_passStars_50, sT_passStars_52, ax_clr_i, ax_clr_l, ax_clr_r, ax_clr_n, ax_ct_0, ax_ct_i, ax_ct_l, ax_ct_r, va_rf_s, Option.toList_some, Option.toList_none, List.cons_append, List.nil_append, and_true, true_and, and_self, ite_true, ite_false, if_true, if_false, Nat.reduceAdd, Nat.reduceLeDiff, Nat.reduceMul, Nat.reduceLT, nI_lt']
    rw [mT_passStars_l p hp k (s + 1) _ _ (by omega) hv, mT_passStars_l p hp k (s + 1) _ _ (by omega) (or_lt hv (by omega))]
    conv => rhs; unfold ps
    generalize p.getD s 0 = w
    by_cases b1 : v.testBit s = false <;> by_cases b2 : w < 54 <;> simp only [b1, b2, if_true, if_false, Bool.not_eq_false] <;> simp
theorem mT_passStars_ (p : List Nat) (hp : vT p) (v : Nat) (hv : v < 2 ^ 11) : ax_wp ks (d + 1) mT_passStars 0 [some (.long (lN (pL p))), none, some (.int (nI p.length)), some (.int (nI v)), none, none] [] h Q = Q (some (.int (nI (ps p p.length 0 v)))) h := by
  simp only [sT_passStars_0, sT_passStars_1, sT_passStars_3, sT_passStars_4, ax_clr_i, ax_clr_l, ax_clr_r, ax_clr_n, ax_ct_0, ax_ct_i, ax_ct_l, ax_ct_r, va_rf_s, Option.toList_some, Option.toList_none, List.cons_append, List.nil_append, and_true, true_and, and_self, ite_true, ite_false, if_true, if_false, Nat.reduceAdd, Nat.reduceLeDiff, Nat.reduceMul, Nat.reduceLT]
  exact mT_passStars_l p hp p.length 0 v _ (by omega) hv
theorem mT_step_l (p : List Nat) (hp : vT p) (P c : Nat) (hP : P < 2 ^ 11) (hc : c < 64) : ∀ (k s v : Nat) (x7 : Option Value), s + k = p.length → v < 2 ^ 11 → ax_wp ks (d + 1) mT_step 6 [some (.long (lN (pL p))), none, some (.int (nI p.length)), some (.int (nI P)), some (.int (nI c)), some (.int (nI v)), some (.int (nI s)), x7] [] h Q = Q (some (.int (nI (sp p P c k s v)))) h
  | 0, s, v, x7, hn, hv => by
    have h0 := hp.1
    rw [sT_step_6]
    simp (disch := omega) only [sT_step_0, sT_step_1, sT_step_3, sT_step_4, sT_step_8, sT_step_9, sT_step_12, sT_step_13, sT_step_15, sT_step_16, sT_step_17, sT_step_18, sT_step_21, sT_step_22, sT_step_24, sT_step_27, sT_step_29, sT_step_31, sT_step_33, sT_step_36, sT_step_38, sT_step_40, sT_step_43, sT_step_45, sT_step_47, sT_step_50, sT_step_52, sT_step_53, sT_step_55, sT_step_56, sT_step_57, sT_step_59, sT_step_62, sT_step_64, sT_step_66, sT_step_69, sT_step_71, sT_step_72, sT_step_74, sT_step_75, sT_step_76, sT_step_77, sT_step_78, sT_step_80, sT_step_83, sT_step_86, sT_step_88, ax_clr_i, ax_clr_l, ax_clr_r, ax_clr_n, ax_ct_0, ax_ct_i, ax_ct_l, ax_ct_r, va_rf_s, Option.toList_some, Option.toList_none, List.cons_append, List.nil_append, and_true, true_and, and_self, ite_true, ite_false, if_true, if_false, Nat.reduceAdd, Nat.reduceLeDiff, Nat.reduceMul, Nat.reduceLT, nI_add, pk_mul, nI_lt', nI_le', nI_eq', nI_lt0, nI_ge0, nI_eq0, nI_gt0, nI_le0, nI_ne_m1, m1_ne_nI, m1_lt_nI, m1_le_nI, nI_lt_m1, nI_le_m1, nI_clamp, ax_in_nI, nI_shl, nI_shr, lg_cmp0, nx_and, nI_eq1, bI_0, bI_1, bf_or, eq_self, or_true, true_or]
    rw [if_pos (by omega)]
    rfl
  | k + 1, s, v, x7, hn, hv => by
    have h0 := hp.1
    have hg := vT_get hp s
    have e1 : 2 ^ s < 2 ^ 32 := Nat.pow_lt_pow_right (by decide) (by omega)
    have e2 : 2 ^ (s + 1) < 2 ^ 32 := Nat.pow_lt_pow_right (by decide) (by omega)
    rw [sT_step_6]
    simp (disch := omega) only [sT_step_0, sT_step_1, sT_step_3, sT_step_4, sT_step_8, sT_step_9, sT_step_12, sT_step_13, sT_step_15, sT_step_16, sT_step_17, sT_step_18, sT_step_21, sT_step_22, sT_step_24, sT_step_27, sT_step_29, sT_step_31, sT_step_33, sT_step_36, sT_step_38, sT_step_40, sT_step_43, sT_step_45, sT_step_47, sT_step_50, sT_step_52, sT_step_53, sT_step_55, sT_step_56, sT_step_57, sT_step_59, sT_step_62, sT_step_64, sT_step_66, sT_step_69, sT_step_71, sT_step_72, sT_step_74, sT_step_75, sT_step_76, sT_step_77, sT_step_78, sT_step_80, sT_step_83, sT_step_86, sT_step_88, ax_clr_i, ax_clr_l, ax_clr_r, ax_clr_n, ax_ct_0, ax_ct_i, ax_ct_l, ax_ct_r, va_rf_s, Option.toList_some, Option.toList_none, List.cons_append, List.nil_append, and_true, true_and, and_self, ite_true, ite_false, if_true, if_false, Nat.reduceAdd, Nat.reduceLeDiff, Nat.reduceMul, Nat.reduceLT, nI_shr, nI_bit, nI_le', nI_eq', nI_add, nI_shl, Nat.one_mul, nI_or, mT_codeAt_ p s hp (show s < 10 by omega)]
    rw [if_neg (by omega), mT_step_l p hp P c hP hc k (s + 1) _ _ (by omega) hv, mT_step_l p hp P c hP hc k (s + 1) _ _ (by omega) (or_lt hv (by omega)), mT_step_l p hp P c hP hc k (s + 1) _ _ (by omega) (or_lt hv (by omega)), mT_step_l p hp P c hP hc k (s + 1) _ _ (by omega) hv]
    conv => rhs; unfold sp
    generalize p.getD s 0 = w
    by_cases b1 : P.testBit s = false <;> by_cases b2 : w = 55 <;> by_cases b3 : w = 54 <;> by_cases b4 : c = 53 <;> by_cases b5 : w = c <;> simp_all
theorem mT_step_ (p : List Nat) (hp : vT p) (P c : Nat) (hP : P < 2 ^ 11) (hc : c < 64) : ax_wp ks (d + 1) mT_step 0 [some (.long (lN (pL p))), none, some (.int (nI p.length)), some (.int (nI P)), some (.int (nI c)), none, none, none] [] h Q = Q (some (.int (nI (sp p P c p.length 0 0)))) h := by
  simp only [sT_step_0, sT_step_1, sT_step_3, sT_step_4, ax_clr_i, ax_clr_l, ax_clr_r, ax_clr_n, ax_ct_0, ax_ct_i, ax_ct_l, ax_ct_r, va_rf_s, Option.toList_some, Option.toList_none, List.cons_append, List.nil_append, and_true, true_and, and_self, ite_true, ite_false, if_true, if_false, Nat.reduceAdd, Nat.reduceLeDiff, Nat.reduceMul, Nat.reduceLT]
  exact mT_step_l p hp P c hP hc p.length 0 0 _ (by omega) (by decide)
theorem ps_lt (p : List Nat) : ∀ (k s v : Nat), s + k ≤ 10 → v < 2 ^ 11 → ps p k s v < 2 ^ 11
  | 0, s, v, _, hv => hv
  | k + 1, s, v, hs, hv => by
    unfold ps
    refine ps_lt p k (s + 1) _ (by omega) ?_
    (repeat' split) <;> first | exact hv | exact or_lt hv (by omega)
theorem sp_lt (p : List Nat) (P c : Nat) : ∀ (k s v : Nat), s + k ≤ 10 → v < 2 ^ 11 → sp p P c k s v < 2 ^ 11
  | 0, s, v, _, hv => hv
  | k + 1, s, v, hs, hv => by
    unfold sp
    refine sp_lt p P c k (s + 1) _ (by omega) ?_
    (repeat' split) <;> first | exact hv | exact or_lt hv (by omega)
/-- the places behind each character -/
def pls (p t : List Nat) : Nat → Nat
  | 0 => ps p p.length 0 1
  | j + 1 => ps p p.length 0 (sp p (pls p t j) (t.getD j 0) p.length 0 0)
theorem pls_lt {p t : List Nat} (hp : p.length ≤ 10) : ∀ j, pls p t j < 2 ^ 11
  | 0 => ps_lt p _ _ _ (by omega) (by decide)
  | j + 1 => ps_lt p _ _ _ (by omega) (sp_lt p _ _ _ _ _ (by omega) (by decide))
theorem mT_matches_l (p t : List Nat) (hp : vT p) (ht : vT t) : ∀ (k j : Nat), j + k = t.length → ax_wp ks (d + 2) mT_matches 24 [some (.long (lN (pL p))), none, some (.long (lN (pL t))), none, some (.int (nI p.length)), some (.int (nI t.length)), some (.int (nI (pls p t j))), some (.int (nI j))] [] h Q = Q (some (.int (bI ((pls p t t.length).testBit p.length)))) h
  | 0, j, hn => by
    have h0 := hp.1
    have h1 := ht.1
    have h2 := pls_lt (t := t) hp.1 j
    rw [sT_matches_24]
    simp (disch := omega) only [sT_matches_0, sT_matches_1, sT_matches_4, sT_matches_6, sT_matches_7, sT_matches_10, sT_matches_12, sT_matches_13, sT_matches_15, sT_matches_16, sT_matches_19, sT_matches_21, sT_matches_22, sT_matches_26, sT_matches_28, sT_matches_31, sT_matches_32, sT_matches_34, sT_matches_35, sT_matches_37, sT_matches_39, sT_matches_40, sT_matches_42, sT_matches_45, sT_matches_48, sT_matches_51, sT_matches_53, sT_matches_56, sT_matches_59, sT_matches_61, sT_matches_63, sT_matches_64, sT_matches_65, sT_matches_66, sT_matches_69, sT_matches_70, sT_matches_73, sT_matches_74, ax_clr_i, ax_clr_l, ax_clr_r, ax_clr_n, ax_ct_0, ax_ct_i, ax_ct_l, ax_ct_r, va_rf_s, Option.toList_some, Option.toList_none, List.cons_append, List.nil_append, and_true, true_and, and_self, ite_true, ite_false, if_true, if_false, Nat.reduceAdd, Nat.reduceLeDiff, Nat.reduceMul, Nat.reduceLT, nI_shr, nI_bit, nI_le', nI_eq', nI_add, nI_eq0, nI_eq1]
    rw [if_pos (by omega)]
    have e : j = t.length := by omega
    subst e
    cases hb : (pls p t t.length).testBit p.length <;> simp [bI]
  | k + 1, j, hn => by
    have h0 := hp.1
    have h1 := ht.1
    have h2 := pls_lt (t := t) hp.1 j
    have hg := vT_get ht j
    have h3 := sp_lt p (pls p t j) (t.getD j 0) p.length 0 0 (by omega) (by decide)
    rw [sT_matches_24]
    simp (disch := omega) only [sT_matches_0, sT_matches_1, sT_matches_4, sT_matches_6, sT_matches_7, sT_matches_10, sT_matches_12, sT_matches_13, sT_matches_15, sT_matches_16, sT_matches_19, sT_matches_21, sT_matches_22, sT_matches_26, sT_matches_28, sT_matches_31, sT_matches_32, sT_matches_34, sT_matches_35, sT_matches_37, sT_matches_39, sT_matches_40, sT_matches_42, sT_matches_45, sT_matches_48, sT_matches_51, sT_matches_53, sT_matches_56, sT_matches_59, sT_matches_61, sT_matches_63, sT_matches_64, sT_matches_65, sT_matches_66, sT_matches_69, sT_matches_70, sT_matches_73, sT_matches_74, ax_clr_i, ax_clr_l, ax_clr_r, ax_clr_n, ax_ct_0, ax_ct_i, ax_ct_l, ax_ct_r, va_rf_s, Option.toList_some, Option.toList_none, List.cons_append, List.nil_append, and_true, true_and, and_self, ite_true, ite_false, if_true, if_false, Nat.reduceAdd, Nat.reduceLeDiff, Nat.reduceMul, Nat.reduceLT, nI_le', nI_add, mT_codeAt_ t j ht (show j < 10 by omega)]
    rw [if_neg (by omega), mT_step_ p hp _ _ h2 hg]
    simp (disch := omega) only [sT_matches_0, sT_matches_1, sT_matches_4, sT_matches_6, sT_matches_7, sT_matches_10, sT_matches_12, sT_matches_13, sT_matches_15, sT_matches_16, sT_matches_19, sT_matches_21, sT_matches_22, sT_matches_26, sT_matches_28, sT_matches_31, sT_matches_32, sT_matches_34, sT_matches_35, sT_matches_37, sT_matches_39, sT_matches_40, sT_matches_42, sT_matches_45, sT_matches_48, sT_matches_51, sT_matches_53, sT_matches_56, sT_matches_59, sT_matches_61, sT_matches_63, sT_matches_64, sT_matches_65, sT_matches_66, sT_matches_69, sT_matches_70, sT_matches_73, sT_matches_74, ax_clr_i, ax_clr_l, ax_clr_r, ax_clr_n, ax_ct_0, ax_ct_i, ax_ct_l, ax_ct_r, va_rf_s, Option.toList_some, Option.toList_none, List.cons_append, List.nil_append, and_true, true_and, and_self, ite_true, ite_false, if_true, if_false, Nat.reduceAdd, Nat.reduceLeDiff, Nat.reduceMul, Nat.reduceLT]
    rw [mT_passStars_ p hp _ h3]
    simp (disch := omega) only [sT_matches_0, sT_matches_1, sT_matches_4, sT_matches_6, sT_matches_7, sT_matches_10, sT_matches_12, sT_matches_13, sT_matches_15, sT_matches_16, sT_matches_19, sT_matches_21, sT_matches_22, sT_matches_26, sT_matches_28, sT_matches_31, sT_matches_32, sT_matches_34, sT_matches_35, sT_matches_37, sT_matches_39, sT_matches_40, sT_matches_42, sT_matches_45, sT_matches_48, sT_matches_51, sT_matches_53, sT_matches_56, sT_matches_59, sT_matches_61, sT_matches_63, sT_matches_64, sT_matches_65, sT_matches_66, sT_matches_69, sT_matches_70, sT_matches_73, sT_matches_74, ax_clr_i, ax_clr_l, ax_clr_r, ax_clr_n, ax_ct_0, ax_ct_i, ax_ct_l, ax_ct_r, va_rf_s, Option.toList_some, Option.toList_none, List.cons_append, List.nil_append, and_true, true_and, and_self, ite_true, ite_false, if_true, if_false, Nat.reduceAdd, Nat.reduceLeDiff, Nat.reduceMul, Nat.reduceLT, nI_add]
    exact mT_matches_l p t hp ht k (j + 1) (by omega)
theorem mT_matches_ (p t : List Nat) (hp : vT p) (ht : vT t) : ax_wp ks (d + 2) mT_matches 0 [some (.long (lN (pL p))), none, some (.long (lN (pL t))), none, none, none, none, none] [] h Q = Q (some (.int (bI ((pls p t t.length).testBit p.length)))) h := by
  simp only [sT_matches_0, sT_matches_1, sT_matches_4, sT_matches_6, sT_matches_7, sT_matches_10, sT_matches_12, sT_matches_13, sT_matches_15, sT_matches_16, sT_matches_19, sT_matches_21, sT_matches_22, ax_clr_i, ax_clr_l, ax_clr_r, ax_clr_n, ax_ct_0, ax_ct_i, ax_ct_l, ax_ct_r, va_rf_s, Option.toList_some, Option.toList_none, List.cons_append, List.nil_append, and_true, true_and, and_self, ite_true, ite_false, if_true, if_false, Nat.reduceAdd, Nat.reduceLeDiff, Nat.reduceMul, Nat.reduceLT, mT_lengthOf_ p hp, mT_lengthOf_ t ht]
  rw [mT_passStars_ p hp 1 (by decide)]
  simp only [sT_matches_0, sT_matches_1, sT_matches_4, sT_matches_6, sT_matches_7, sT_matches_10, sT_matches_12, sT_matches_13, sT_matches_15, sT_matches_16, sT_matches_19, sT_matches_21, sT_matches_22, ax_clr_i, ax_clr_l, ax_clr_r, ax_clr_n, ax_ct_0, ax_ct_i, ax_ct_l, ax_ct_r, va_rf_s, Option.toList_some, Option.toList_none, List.cons_append, List.nil_append, and_true, true_and, and_self, ite_true, ite_false, if_true, if_false, Nat.reduceAdd, Nat.reduceLeDiff, Nat.reduceMul, Nat.reduceLT]
  exact mT_matches_l p t hp ht t.length 0 (by omega)
end MAT
/-! what fits: p's first i against t's first j -/
def rcRow (c : Nat) (prev : Nat → Bool) (t : List Nat) : Nat → Bool
  | 0 => decide (54 ≤ c) && prev 0
  | j + 1 => if c = 55 then prev (j + 1) || rcRow c prev t j else if c = 54 then prev (j + 1) || (decide (t.getD j 0 ≠ 53) && rcRow c prev t j) else decide (c = t.getD j 0) && prev j
def rc (p t : List Nat) : Nat → Nat → Bool
  | 0 => fun j => decide (j = 0)
  | i + 1 => rcRow (p.getD i 0) (rc p t i) t
/-- pattern and name fit -/
def mtc (p t : List Nat) : Bool := rc p t p.length t.length
theorem tb_or2 (v k i : Nat) : (v ||| 2 ^ k).testBit i = (v.testBit i || decide (k = i)) := by rw [Nat.testBit_or, Nat.testBit_two_pow]
theorem tb_ne {v k i : Nat} (hk : k ≠ i) : (v ||| 2 ^ k).testBit i = v.testBit i := by rw [tb_or2]; simp [hk]
theorem tb_eq {v k : Nat} : (v ||| 2 ^ k).testBit k = true := by rw [tb_or2]; simp
theorem ps_low (p : List Nat) : ∀ (k s v i : Nat), i ≤ s → (ps p k s v).testBit i = v.testBit i
  | 0, _, _, _, _ => rfl
  | k + 1, s, v, i, hi => by
    rw [ps, ps_low p k (s + 1) _ i (by omega)]
    (repeat' split) <;> first | rfl | exact tb_ne (by omega)
theorem ps_bit (p : List Nat) : ∀ (k s v i : Nat), s ≤ i → i < s + k → (ps p k s v).testBit (i + 1) = (v.testBit (i + 1) || (decide (54 ≤ p.getD i 0) && (ps p k s v).testBit i))
  | 0, s, v, i, h1, h2 => by omega
  | k + 1, s, v, i, h1, h2 => by
    rw [ps]
    by_cases e : i = s
    · subst e
      rw [ps_low p k (i + 1) _ (i + 1) (by omega), ps_low p k (i + 1) _ i (by omega)]
      by_cases b1 : v.testBit i = false
      · simp [b1]
      · by_cases b2 : p.getD i 0 < 54
        · have b3 : ¬ 54 ≤ p.getD i 0 := by omega
          rw [if_neg b1, if_pos b2]
          simp only [b3, decide_false, Bool.false_and, Bool.or_false]
        · have b3 : 54 ≤ p.getD i 0 := by omega
          have b4 : v.testBit i = true := by simpa using b1
          rw [if_neg b1, if_neg b2, tb_eq, tb_ne (by omega), b4]
          simp only [b3, decide_true, Bool.true_and, Bool.or_true]
    · rw [ps_bit p k (s + 1) _ i (by omega) (by omega)]
      congr 1
      (repeat' split) <;> first | rfl | exact tb_ne (by omega)
theorem sp_bit (p : List Nat) (P c : Nat) : ∀ (k s v i : Nat), (sp p P c k s v).testBit i = (v.testBit i || (decide (s ≤ i ∧ i < s + k) && (P.testBit i && decide (p.getD i 0 = 55 ∨ (p.getD i 0 = 54 ∧ c ≠ 53)))) || (decide (s < i ∧ i ≤ s + k) && (P.testBit (i - 1) && decide (¬ (p.getD (i - 1) 0 = 55 ∨ (p.getD (i - 1) 0 = 54 ∧ c ≠ 53)) ∧ p.getD (i - 1) 0 = c))))
  | 0, s, v, i => by
    have e1 : ¬ (s ≤ i ∧ i < s + 0) := by omega
    have e2 : ¬ (s < i ∧ i ≤ s + 0) := by omega
    simp only [sp, e1, e2, decide_false, Bool.false_and, Bool.or_false]
  | k + 1, s, v, i => by
    rw [sp, sp_bit p P c k (s + 1) _ i]
    rcases Nat.lt_trichotomy i s with h | h | h
    · have e1 : ¬ (s + 1 ≤ i ∧ i < s + 1 + k) := by omega
      have e2 : ¬ (s + 1 < i ∧ i ≤ s + 1 + k) := by omega
      have e3 : ¬ (s ≤ i ∧ i < s + (k + 1)) := by omega
      have e4 : ¬ (s < i ∧ i ≤ s + (k + 1)) := by omega
      simp only [e1, e2, e3, e4, decide_false, Bool.false_and, Bool.or_false]
      (repeat' split) <;> first | rfl | exact tb_ne (by omega)
    · subst h
      have e1 : ¬ (i + 1 ≤ i ∧ i < i + 1 + k) := by omega
      have e2 : ¬ (i + 1 < i ∧ i ≤ i + 1 + k) := by omega
      have e3 : (i ≤ i ∧ i < i + (k + 1)) := by omega
      have e4 : ¬ (i < i ∧ i ≤ i + (k + 1)) := by omega
      simp only [e1, e2, e3, e4, decide_false, decide_true, Bool.false_and, Bool.true_and, Bool.or_false]
      by_cases b1 : P.testBit i = false
      · simp [b1]
      · have b4 : P.testBit i = true := by simpa using b1
        rw [if_neg b1]
        by_cases b2 : p.getD i 0 = 55 ∨ (p.getD i 0 = 54 ∧ c ≠ 53)
        · rw [if_pos b2, tb_eq, decide_eq_true b2, b4]
          simp
        · rw [if_neg b2, decide_eq_false b2]
          simp only [Bool.and_false, Bool.or_false]
          split
          · exact tb_ne (by omega)
          · rfl
    · by_cases hs : i = s + 1
      · subst hs
        have e2 : ¬ (s + 1 < s + 1 ∧ s + 1 ≤ s + 1 + k) := by omega
        have e4 : (s < s + 1 ∧ s + 1 ≤ s + (k + 1)) := by omega
        have e5 : (s + 1 ≤ s + 1 ∧ s + 1 < s + 1 + k) ↔ (s ≤ s + 1 ∧ s + 1 < s + (k + 1)) := by omega
        simp only [e2, e4, e5, decide_false, decide_true, Bool.false_and, Bool.true_and, Bool.or_false, Nat.add_sub_cancel]
        by_cases b1 : P.testBit s = false
        · simp [b1]
        · have b4 : P.testBit s = true := by simpa using b1
          rw [if_neg b1]
          by_cases b2 : p.getD s 0 = 55 ∨ (p.getD s 0 = 54 ∧ c ≠ 53)
          · have k2 : decide (¬ (p.getD s 0 = 55 ∨ (p.getD s 0 = 54 ∧ c ≠ 53)) ∧ p.getD s 0 = c) = false := decide_eq_false (fun hh => hh.1 b2)
            rw [if_pos b2, tb_ne (by omega), k2]
            simp only [Bool.and_false, Bool.or_false]
          · rw [if_neg b2]
            by_cases b3 : p.getD s 0 = c
            · have k2 : decide (¬ (p.getD s 0 = 55 ∨ (p.getD s 0 = 54 ∧ c ≠ 53)) ∧ p.getD s 0 = c) = true := decide_eq_true ⟨b2, b3⟩
              rw [if_pos b3, tb_eq, k2, b4]
              simp only [and_self, decide_true, Bool.true_and, Bool.or_true, Bool.true_or]
            · have k2 : decide (¬ (p.getD s 0 = 55 ∨ (p.getD s 0 = 54 ∧ c ≠ 53)) ∧ p.getD s 0 = c) = false := decide_eq_false (fun hh => b3 hh.2)
              rw [if_neg b3, k2]
              simp only [Bool.and_false, Bool.or_false]
      · have e1 : (s + 1 ≤ i ∧ i < s + 1 + k) ↔ (s ≤ i ∧ i < s + (k + 1)) := by omega
        have e2 : (s + 1 < i ∧ i ≤ s + 1 + k) ↔ (s < i ∧ i ≤ s + (k + 1)) := by omega
        simp only [e1, e2]
        congr 2
        (repeat' split) <;> first | rfl | exact tb_ne (by omega)
/-- the bit of place s behind j characters -/
def bitC (p t : List Nat) (s j : Nat) : Bool := if s < p.length ∧ 54 ≤ p.getD s 0 then rc p t (s + 1) j else rc p t s j
theorem rc_star {p t : List Nat} {i j : Nat} (h55 : p.getD i 0 ≤ 55) (hs : 54 ≤ p.getD i 0) : rc p t (i + 1) (j + 1) = (rc p t i (j + 1) || (decide (p.getD i 0 = 55 ∨ (p.getD i 0 = 54 ∧ t.getD j 0 ≠ 53)) && rc p t (i + 1) j)) := by
  show rcRow _ _ _ (j + 1) = _
  rw [rcRow]
  by_cases h1 : p.getD i 0 = 55
  · rw [if_pos h1, decide_eq_true (Or.inl h1), Bool.true_and]; rfl
  · have h2 : p.getD i 0 = 54 := by omega
    rw [if_neg h1, if_pos h2]
    by_cases h3 : t.getD j 0 = 53
    · rw [decide_eq_false (fun hh => hh h3), decide_eq_false (fun hh => hh.elim h1 (fun q => q.2 h3))]; simp
    · rw [decide_eq_true h3, decide_eq_true (Or.inr ⟨h2, h3⟩)]; rfl
theorem rc_lit {p t : List Nat} {i j : Nat} (hs : p.getD i 0 < 54) : rc p t (i + 1) (j + 1) = (decide (p.getD i 0 = t.getD j 0) && rc p t i j) := by
  show rcRow _ _ _ (j + 1) = _
  rw [rcRow, if_neg (by omega), if_neg (by omega)]
theorem getD_le {p : List Nat} {n : Nat} (h : ∀ c ∈ p, c ≤ n) (i : Nat) : p.getD i 0 ≤ n := by
  rw [List.getD_eq_getElem?_getD]
  cases hi : p[i]? with
  | none => simp
  | some c => simpa using h c (List.mem_of_getElem? hi)
theorem one_bit (i : Nat) : (1 : Nat).testBit i = decide (i = 0) := by
  cases i with
  | zero => rfl
  | succ n => simp [Nat.testBit_succ]
theorem pls_bit0 (p t : List Nat) : ∀ s, s ≤ p.length → (pls p t 0).testBit s = bitC p t s 0 ∧ (0 < s → rc p t s 0 = (decide (54 ≤ p.getD (s - 1) 0) && (pls p t 0).testBit (s - 1)))
  | 0, _ => by
    refine ⟨?_, fun h => absurd h (by omega)⟩
    unfold pls bitC
    rw [ps_low p _ _ _ _ (by omega)]
    by_cases h1 : 0 < p.length ∧ 54 ≤ p.getD 0 0
    · rw [if_pos h1]
      show _ = rcRow _ _ _ 0
      rw [rcRow, decide_eq_true h1.2]
      rfl
    · rw [if_neg h1]; rfl
  | s + 1, hs => by
    obtain ⟨ih, -⟩ := pls_bit0 p t s (by omega)
    have key : rc p t (s + 1) 0 = (decide (54 ≤ p.getD s 0) && (pls p t 0).testBit s) := by
      show rcRow _ _ _ 0 = _
      rw [rcRow, ih]
      unfold bitC
      by_cases h1 : 54 ≤ p.getD s 0
      · rw [if_pos ⟨by omega, h1⟩, decide_eq_true h1]
        show _ = (true && rcRow _ _ _ 0)
        rw [rcRow, decide_eq_true h1]; simp
      · rw [decide_eq_false h1]; simp
    refine ⟨?_, fun _ => key⟩
    have h1 : (pls p t 0).testBit (s + 1) = ((1 : Nat).testBit (s + 1) || (decide (54 ≤ p.getD s 0) && (pls p t 0).testBit s)) := ps_bit p p.length 0 1 s (by omega) (by omega)
    rw [h1, ← key, one_bit]
    unfold bitC
    by_cases h2 : s + 1 < p.length ∧ 54 ≤ p.getD (s + 1) 0
    · rw [if_pos h2]
      show _ = rcRow _ _ _ 0
      rw [rcRow, decide_eq_true h2.2]; simp
    · rw [if_neg h2]; simp
theorem pls_bitS (p t : List Nat) (h55 : ∀ c ∈ p, c ≤ 55) (j : Nat) (hc : t.getD j 0 ≤ 53) (ih : ∀ s, s ≤ p.length → (pls p t j).testBit s = bitC p t s j) : ∀ s, s ≤ p.length → (pls p t (j + 1)).testBit s = bitC p t s (j + 1)
  | 0, _ => by
    have h1 : (pls p t (j + 1)).testBit 0 = (sp p (pls p t j) (t.getD j 0) p.length 0 0).testBit 0 := ps_low p _ _ _ _ (by omega)
    rw [h1, sp_bit, ih 0 (by omega)]
    have e2 : ¬ (0 < 0 ∧ 0 ≤ 0 + p.length) := by omega
    rw [decide_eq_false e2, Nat.zero_testBit]
    unfold bitC
    by_cases h2 : 0 < p.length ∧ 54 ≤ p.getD 0 0
    · rw [if_pos h2, if_pos h2, rc_star (getD_le h55 0) h2.2, decide_eq_true (show 0 ≤ 0 ∧ 0 < 0 + p.length by omega)]
      show _ = (decide (j + 1 = 0) || _)
      rw [decide_eq_false (by omega : ¬ j + 1 = 0), Bool.and_comm (rc p t _ _)]
      simp
    · rw [if_neg h2, if_neg h2]
      show _ = decide (j + 1 = 0)
      rw [decide_eq_false (by omega : ¬ j + 1 = 0)]
      by_cases h3 : 0 < p.length
      · have h4 : ¬ (p.getD 0 0 = 55 ∨ (p.getD 0 0 = 54 ∧ t.getD j 0 ≠ 53)) := by omega
        rw [decide_eq_false h4]; simp
      · rw [decide_eq_false (show ¬ (0 ≤ 0 ∧ 0 < 0 + p.length) by omega)]; simp
  | s + 1, hs => by
    have ihs := pls_bitS p t h55 j hc ih s (by omega)
    have h1 : (pls p t (j + 1)).testBit (s + 1) = ((sp p (pls p t j) (t.getD j 0) p.length 0 0).testBit (s + 1) || (decide (54 ≤ p.getD s 0) && (pls p t (j + 1)).testBit s)) := ps_bit p p.length 0 _ s (by omega) (by omega)
    rw [h1, sp_bit, ihs, ih (s + 1) hs]
    have e2 : (0 < s + 1 ∧ s + 1 ≤ 0 + p.length) := by omega
    rw [decide_eq_true e2, Nat.zero_testBit, Nat.add_sub_cancel, ih s (by omega)]
    have key : rc p t (s + 1) (j + 1) = ((bitC p t s j && decide (¬ (p.getD s 0 = 55 ∨ (p.getD s 0 = 54 ∧ t.getD j 0 ≠ 53)) ∧ p.getD s 0 = t.getD j 0)) || (decide (54 ≤ p.getD s 0) && bitC p t s (j + 1))) := by
      unfold bitC
      by_cases h3 : 54 ≤ p.getD s 0
      · have h4 : ¬ (¬ (p.getD s 0 = 55 ∨ (p.getD s 0 = 54 ∧ t.getD j 0 ≠ 53)) ∧ p.getD s 0 = t.getD j 0) := by omega
        rw [decide_eq_false h4, decide_eq_true h3, if_pos ⟨by omega, h3⟩, if_pos ⟨by omega, h3⟩]; simp
      · rw [decide_eq_false h3, if_neg (fun hh => h3 hh.2), rc_lit (by omega)]
        have h5 : (¬ (p.getD s 0 = 55 ∨ (p.getD s 0 = 54 ∧ t.getD j 0 ≠ 53)) ∧ p.getD s 0 = t.getD j 0) ↔ p.getD s 0 = t.getD j 0 := by omega
        simp only [h5, Bool.false_and, Bool.or_false]
        exact Bool.and_comm _ _
    rw [Bool.true_and, Bool.or_assoc, ← key]
    generalize hg : rc p t (s + 1) (j + 1) = A
    unfold bitC
    by_cases h2 : s + 1 < p.length ∧ 54 ≤ p.getD (s + 1) 0
    · rw [if_pos h2, if_pos h2, rc_star (getD_le h55 _) h2.2, hg, decide_eq_true (show 0 ≤ s + 1 ∧ s + 1 < 0 + p.length by omega), Bool.and_comm (rc p t _ _), Bool.or_comm A]
      simp
    · rw [if_neg h2, if_neg h2, hg]
      by_cases h3 : s + 1 < p.length
      · have h4 : ¬ (p.getD (s + 1) 0 = 55 ∨ (p.getD (s + 1) 0 = 54 ∧ t.getD j 0 ≠ 53)) := by omega
        rw [decide_eq_false h4]; simp
      · rw [decide_eq_false (show ¬ (0 ≤ s + 1 ∧ s + 1 < 0 + p.length) by omega)]; simp
theorem pls_bit (p t : List Nat) (h55 : ∀ c ∈ p, c ≤ 55) (h53 : ∀ c ∈ t, c ≤ 53) : ∀ j s, s ≤ p.length → (pls p t j).testBit s = bitC p t s j
  | 0, s, hs => (pls_bit0 p t s hs).1
  | j + 1, s, hs => pls_bitS p t h55 j (getD_le h53 j) (fun s hs => pls_bit p t h55 h53 j s hs) s hs
/-- the class's matching is what fits -/
theorem mT_matches_c {ks : ax_K} {d : Nat} {h : ax_H} {Q : Option Value → ax_H → Prop} (p t : List Nat) (hp : vT p) (ht : vT t) (h55 : ∀ c ∈ p, c ≤ 55) (h53 : ∀ c ∈ t, c ≤ 53) : ax_wp ks (d + 2) mT_matches 0 [some (.long (lN (pL p))), none, some (.long (lN (pL t))), none, none, none, none, none] [] h Q = Q (some (.int (bI (mtc p t)))) h := by
  rw [mT_matches_ p t hp ht, pls_bit p t h55 h53 _ _ (Nat.le_refl _)]
  unfold bitC mtc
  rw [if_neg (by omega)]
