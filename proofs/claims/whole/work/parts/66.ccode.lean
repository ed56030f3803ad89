/-! the class: reading code -/
def kOf (c : Nat) : Option Nat := if c = 18 then some 6 else if c = 180 then some 0 else if c = 181 then some 1 else if c = 182 then some 2 else if c = 187 then some 3 else if c = 192 then some 4 else if c = 193 then some 5 else none
theorem kOf_opd (c : Nat) : (kOf c = none ∧ opd c = 0) ∨ ∃ k, kOf c = some k ∧ k ≤ 6 ∧ 0 < opd c ∧ (c = 18 ∧ k = 6 ∧ opd c = 22 ∨ c = 180 ∧ k = 0 ∧ opd c = 9 ∨ c = 181 ∧ k = 1 ∧ opd c = 9 ∨ c = 182 ∧ k = 2 ∧ opd c = 10 ∨ c = 187 ∧ k = 3 ∧ opd c = 7 ∨ c = 192 ∧ k = 4 ∧ opd c = 7 ∨ c = 193 ∧ k = 5 ∧ opd c = 7) := by
  by_cases a1 : c = 18
  · subst a1; exact Or.inr ⟨6, by decide⟩
  · by_cases a2 : c = 180
    · subst a2; exact Or.inr ⟨0, by decide⟩
    · by_cases a3 : c = 181
      · subst a3; exact Or.inr ⟨1, by decide⟩
      · by_cases a4 : c = 182
        · subst a4; exact Or.inr ⟨2, by decide⟩
        · by_cases a5 : c = 187
          · subst a5; exact Or.inr ⟨3, by decide⟩
          · by_cases a6 : c = 192
            · subst a6; exact Or.inr ⟨4, by decide⟩
            · by_cases a7 : c = 193
              · subst a7; exact Or.inr ⟨5, by decide⟩
              · left
                unfold kOf opd
                simp [a1, a2, a3, a4, a5, a6, a7]
def cS (h : ax_H) (start len line : Nat) : Prop := h.1 1 11 = nI start ∧ h.1 1 12 = nI len ∧ h.1 1 13 = nI line
theorem cS.t {h h' : ax_H} {a b c : Nat} (hc : cS h a b c) (f : frT h h') : cS h' a b c := ⟨by rw [f.2 _ _ (by omega)]; exact hc.1, by rw [f.2 _ _ (by omega)]; exact hc.2.1, by rw [f.2 _ _ (by omega)]; exact hc.2.2⟩
theorem cS.n {u : Nat} {h h' : ax_H} {a b c : Nat} (hc : cS h a b c) (f : frN (17 + 8 * u) h h') : cS h' a b c := ⟨by rw [f.2.1 _ _ (by omega)]; exact hc.1, by rw [f.2.1 _ _ (by omega)]; exact hc.2.1, by rw [f.2.1 _ _ (by omega)]; exact hc.2.2⟩
theorem tk_ly {b : List Nat} {lim L p : Nat} {f : Nat → Bool} (hL : L = min lim b.length) (h1 : p < L) (h2 : f (bg b p) = true) : tk b lim p f = (true, p + 1) := by
  unfold tk; rw [if_pos ⟨by omega, by omega, h2⟩]
theorem tk_ln {b : List Nat} {lim L p : Nat} {f : Nat → Bool} (hL : L = min lim b.length) (h : ¬ (p < L ∧ f (bg b p) = true)) : tk b lim p f = (false, p) := by
  unfold tk; rw [if_neg (fun q => h ⟨by omega, q.2.2⟩)]
section CD
variable {d : Nat} {Q : Option Value → ax_H → Prop} {o : Nat → Nat} {s u : Nat} {b : List Nat} {own sup : List Nat} {I F M : List (List Nat)}
theorem mR_kindOf_ {h : ax_H} (c : Nat) (hc : c < 256) : ax_wp kC d mR_kindOf 0 [some (.int (nI c))] [] h Q = Q (some (.int (oI (kOf c)))) h := by
  rw [sR_kindOf_0, sR_kindOf_1]
  unfold kOf
  have cp : ∀ {j : Nat}, c = j → nI c = nI j := fun q => by rw [q]
  have cn : ∀ {j : Nat}, ¬ c = j → j < 300 → ¬ nI c = nI j := fun q hj w => q (by rw [nI_eq' (by omega) (by omega)] at w; exact w)
  by_cases a1 : c = 18
  · rw [if_pos (cp a1), if_pos a1]; simp only [sR_kindOf_68, sR_kindOf_69, sR_kindOf_70, sR_kindOf_71, sR_kindOf_72, sR_kindOf_73, sR_kindOf_74, sR_kindOf_75, sR_kindOf_76, sR_kindOf_77, sR_kindOf_78, sR_kindOf_79, sR_kindOf_80, sR_kindOf_82, sR_kindOf_83, sR_kindOf_84, ax_clr_i, ax_clr_l, ax_clr_r, ax_clr_n, ax_ct_0, ax_ct_i, ax_ct_l, ax_ct_r, va_rf_s, Option.toList_some, Option.toList_none, List.cons_append, List.nil_append, and_true, true_and, and_self, ite_true, ite_false, if_true, if_false, Nat.reduceAdd, Nat.reduceLeDiff, Nat.reduceMul, Nat.reduceLT]; rfl
  · rw [if_neg (cn a1 (by omega)), if_neg a1]
    by_cases a2 : c = 180
    · rw [if_pos (cp a2), if_pos a2]; simp only [sR_kindOf_68, sR_kindOf_69, sR_kindOf_70, sR_kindOf_71, sR_kindOf_72, sR_kindOf_73, sR_kindOf_74, sR_kindOf_75, sR_kindOf_76, sR_kindOf_77, sR_kindOf_78, sR_kindOf_79, sR_kindOf_80, sR_kindOf_82, sR_kindOf_83, sR_kindOf_84, ax_clr_i, ax_clr_l, ax_clr_r, ax_clr_n, ax_ct_0, ax_ct_i, ax_ct_l, ax_ct_r, va_rf_s, Option.toList_some, Option.toList_none, List.cons_append, List.nil_append, and_true, true_and, and_self, ite_true, ite_false, if_true, if_false, Nat.reduceAdd, Nat.reduceLeDiff, Nat.reduceMul, Nat.reduceLT]; rfl
    · rw [if_neg (cn a2 (by omega)), if_neg a2]
      by_cases a3 : c = 181
      · rw [if_pos (cp a3), if_pos a3]; simp only [sR_kindOf_68, sR_kindOf_69, sR_kindOf_70, sR_kindOf_71, sR_kindOf_72, sR_kindOf_73, sR_kindOf_74, sR_kindOf_75, sR_kindOf_76, sR_kindOf_77, sR_kindOf_78, sR_kindOf_79, sR_kindOf_80, sR_kindOf_82, sR_kindOf_83, sR_kindOf_84, ax_clr_i, ax_clr_l, ax_clr_r, ax_clr_n, ax_ct_0, ax_ct_i, ax_ct_l, ax_ct_r, va_rf_s, Option.toList_some, Option.toList_none, List.cons_append, List.nil_append, and_true, true_and, and_self, ite_true, ite_false, if_true, if_false, Nat.reduceAdd, Nat.reduceLeDiff, Nat.reduceMul, Nat.reduceLT]; rfl
      · rw [if_neg (cn a3 (by omega)), if_neg a3]
        by_cases a4 : c = 182
        · rw [if_pos (cp a4), if_pos a4]; simp only [sR_kindOf_68, sR_kindOf_69, sR_kindOf_70, sR_kindOf_71, sR_kindOf_72, sR_kindOf_73, sR_kindOf_74, sR_kindOf_75, sR_kindOf_76, sR_kindOf_77, sR_kindOf_78, sR_kindOf_79, sR_kindOf_80, sR_kindOf_82, sR_kindOf_83, sR_kindOf_84, ax_clr_i, ax_clr_l, ax_clr_r, ax_clr_n, ax_ct_0, ax_ct_i, ax_ct_l, ax_ct_r, va_rf_s, Option.toList_some, Option.toList_none, List.cons_append, List.nil_append, and_true, true_and, and_self, ite_true, ite_false, if_true, if_false, Nat.reduceAdd, Nat.reduceLeDiff, Nat.reduceMul, Nat.reduceLT]; rfl
        · rw [if_neg (cn a4 (by omega)), if_neg a4]
          by_cases a5 : c = 187
          · rw [if_pos (cp a5), if_pos a5]; simp only [sR_kindOf_68, sR_kindOf_69, sR_kindOf_70, sR_kindOf_71, sR_kindOf_72, sR_kindOf_73, sR_kindOf_74, sR_kindOf_75, sR_kindOf_76, sR_kindOf_77, sR_kindOf_78, sR_kindOf_79, sR_kindOf_80, sR_kindOf_82, sR_kindOf_83, sR_kindOf_84, ax_clr_i, ax_clr_l, ax_clr_r, ax_clr_n, ax_ct_0, ax_ct_i, ax_ct_l, ax_ct_r, va_rf_s, Option.toList_some, Option.toList_none, List.cons_append, List.nil_append, and_true, true_and, and_self, ite_true, ite_false, if_true, if_false, Nat.reduceAdd, Nat.reduceLeDiff, Nat.reduceMul, Nat.reduceLT]; rfl
          · rw [if_neg (cn a5 (by omega)), if_neg a5]
            by_cases a6 : c = 192
            · rw [if_pos (cp a6), if_pos a6]; simp only [sR_kindOf_68, sR_kindOf_69, sR_kindOf_70, sR_kindOf_71, sR_kindOf_72, sR_kindOf_73, sR_kindOf_74, sR_kindOf_75, sR_kindOf_76, sR_kindOf_77, sR_kindOf_78, sR_kindOf_79, sR_kindOf_80, sR_kindOf_82, sR_kindOf_83, sR_kindOf_84, ax_clr_i, ax_clr_l, ax_clr_r, ax_clr_n, ax_ct_0, ax_ct_i, ax_ct_l, ax_ct_r, va_rf_s, Option.toList_some, Option.toList_none, List.cons_append, List.nil_append, and_true, true_and, and_self, ite_true, ite_false, if_true, if_false, Nat.reduceAdd, Nat.reduceLeDiff, Nat.reduceMul, Nat.reduceLT]; rfl
            · rw [if_neg (cn a6 (by omega)), if_neg a6]
              by_cases a7 : c = 193
              · rw [if_pos (cp a7), if_pos a7]; simp only [sR_kindOf_68, sR_kindOf_69, sR_kindOf_70, sR_kindOf_71, sR_kindOf_72, sR_kindOf_73, sR_kindOf_74, sR_kindOf_75, sR_kindOf_76, sR_kindOf_77, sR_kindOf_78, sR_kindOf_79, sR_kindOf_80, sR_kindOf_82, sR_kindOf_83, sR_kindOf_84, ax_clr_i, ax_clr_l, ax_clr_r, ax_clr_n, ax_ct_0, ax_ct_i, ax_ct_l, ax_ct_r, va_rf_s, Option.toList_some, Option.toList_none, List.cons_append, List.nil_append, and_true, true_and, and_self, ite_true, ite_false, if_true, if_false, Nat.reduceAdd, Nat.reduceLeDiff, Nat.reduceMul, Nat.reduceLT]; rfl
              · rw [if_neg (cn a7 (by omega)), if_neg a7]; simp only [sR_kindOf_68, sR_kindOf_69, sR_kindOf_70, sR_kindOf_71, sR_kindOf_72, sR_kindOf_73, sR_kindOf_74, sR_kindOf_75, sR_kindOf_76, sR_kindOf_77, sR_kindOf_78, sR_kindOf_79, sR_kindOf_80, sR_kindOf_82, sR_kindOf_83, sR_kindOf_84, ax_clr_i, ax_clr_l, ax_clr_r, ax_clr_n, ax_ct_0, ax_ct_i, ax_ct_l, ax_ct_r, va_rf_s, Option.toList_some, Option.toList_none, List.cons_append, List.nil_append, and_true, true_and, and_self, ite_true, ite_false, if_true, if_false, Nat.reduceAdd, Nat.reduceLeDiff, Nat.reduceMul, Nat.reduceLT]; rfl
def tgK (k : Nat) : Nat := if k ≤ 1 then 9 else if k = 2 then 10 else 7
theorem mR_tagFor_ {h : ax_H} (k : Nat) (hk : k ≤ 6) : ax_wp kC d mR_tagFor 0 [some (.int (nI k))] [] h Q = Q (some (.int (nI (tgK k)))) h := by
  rw [sR_tagFor_0, sR_tagFor_1]
  have cn : ∀ {j : Nat}, ¬ k = j → j < 300 → ¬ nI k = nI j := fun q hj w => q (by rw [nI_eq' (by omega) (by omega)] at w; exact w)
  unfold tgK
  by_cases a0 : k = 0
  · subst a0; rw [if_pos rfl, if_pos (by omega)]; simp only [sR_tagFor_28, sR_tagFor_30, sR_tagFor_31, sR_tagFor_33, sR_tagFor_34, sR_tagFor_36, ax_clr_i, ax_clr_l, ax_clr_r, ax_clr_n, ax_ct_0, ax_ct_i, ax_ct_l, ax_ct_r, va_rf_s, Option.toList_some, Option.toList_none, List.cons_append, List.nil_append, and_true, true_and, and_self, ite_true, ite_false, if_true, if_false, Nat.reduceAdd, Nat.reduceLeDiff, Nat.reduceMul, Nat.reduceLT]
  · rw [if_neg (cn a0 (by omega))]
    by_cases a1 : k = 1
    · subst a1; rw [if_pos rfl, if_pos (by omega)]; simp only [sR_tagFor_28, sR_tagFor_30, sR_tagFor_31, sR_tagFor_33, sR_tagFor_34, sR_tagFor_36, ax_clr_i, ax_clr_l, ax_clr_r, ax_clr_n, ax_ct_0, ax_ct_i, ax_ct_l, ax_ct_r, va_rf_s, Option.toList_some, Option.toList_none, List.cons_append, List.nil_append, and_true, true_and, and_self, ite_true, ite_false, if_true, if_false, Nat.reduceAdd, Nat.reduceLeDiff, Nat.reduceMul, Nat.reduceLT]
    · rw [if_neg (cn a1 (by omega)), if_neg (show ¬ k ≤ 1 by omega)]
      by_cases a2 : k = 2
      · subst a2; rw [if_pos rfl, if_pos rfl]; simp only [sR_tagFor_28, sR_tagFor_30, sR_tagFor_31, sR_tagFor_33, sR_tagFor_34, sR_tagFor_36, ax_clr_i, ax_clr_l, ax_clr_r, ax_clr_n, ax_ct_0, ax_ct_i, ax_ct_l, ax_ct_r, va_rf_s, Option.toList_some, Option.toList_none, List.cons_append, List.nil_append, and_true, true_and, and_self, ite_true, ite_false, if_true, if_false, Nat.reduceAdd, Nat.reduceLeDiff, Nat.reduceMul, Nat.reduceLT]
      · rw [if_neg (cn a2 (by omega)), if_neg a2]; simp only [sR_tagFor_28, sR_tagFor_30, sR_tagFor_31, sR_tagFor_33, sR_tagFor_34, sR_tagFor_36, ax_clr_i, ax_clr_l, ax_clr_r, ax_clr_n, ax_ct_0, ax_ct_i, ax_ct_l, ax_ct_r, va_rf_s, Option.toList_some, Option.toList_none, List.cons_append, List.nil_append, and_true, true_and, and_self, ite_true, ite_false, if_true, if_false, Nat.reduceAdd, Nat.reduceLeDiff, Nat.reduceMul, Nat.reduceLT]
theorem mR_useConstant_ {h : ax_H} (hk : okK b) (hu : u < 13) (q L start len line op kind k : Nat) (O : List oc4) (hs : uS o s u h b (q + 1) L own sup I F M O) (hc : cS h start len line) (hO : O.length < 52) (hko : kOf op = some kind) (hk20 : k < 2 ^ 20) (hQ1 : ∀ h', frN (17 + 8 * u) h h' → uS o s u h' b (q + 1) L own sup I F M (O ++ nmsU b op k line) → fU b k (opd op) = true → Q (some (.int (bI true))) h') (hQ0 : fU b k (opd op) = false → Q (some (.int (bI false))) (ax_upI h 1 5 (nI q))) : ax_wp kC (d + 1) mR_useConstant 0 [some (.ref 1), some (.int (nI kind)), some (.int (nI k)), none] [] h Q := by
  have hr := hs.1.1
  have tl := tgU_lt hs.1.2.1.2.2.2 k
  have h24 := hk.1.2.1
  have h120 := hs.1.2.1.2.1
  have a1 := hs.1.2.2.1
  have ap := hs.1.2.2.2.2.2.1
  have l13 := hc.2.2
  have ko : kind ≤ 6 ∧ 0 < opd op ∧ (op = 18 ∧ kind = 6 ∧ opd op = 22 ∨ op = 180 ∧ kind = 0 ∧ opd op = 9 ∨ op = 181 ∧ kind = 1 ∧ opd op = 9 ∨ op = 182 ∧ kind = 2 ∧ opd op = 10 ∨ op = 187 ∧ kind = 3 ∧ opd op = 7 ∨ op = 192 ∧ kind = 4 ∧ opd op = 7 ∨ op = 193 ∧ kind = 5 ∧ opd op = 7) := by
    rcases kOf_opd op with w | ⟨k2, w1, w2⟩
    · rw [w.1] at hko; cases hko
    · rw [w1] at hko
      have : k2 = kind := by simpa using hko
      subst this; exact w2
  obtain ⟨k6, o0, kk⟩ := ko
  have f22 : fU b k 22 = decide (tgU b k = 7 ∨ tgU b k = 1) := by unfold fU ftN; rw [if_neg (by omega), if_neg (by omega), if_pos rfl]; rfl
  simp (disch := omega) only [sR_useConstant_0, sR_useConstant_1, sR_useConstant_2, sR_useConstant_5, sR_useConstant_6, sR_useConstant_7, sR_useConstant_9, ax_clr_i, ax_clr_l, ax_clr_r, ax_clr_n, ax_ct_0, ax_ct_i, ax_ct_l, ax_ct_r, va_rf_s, Option.toList_some, Option.toList_none, List.cons_append, List.nil_append, and_true, true_and, and_self, ite_true, ite_false, if_true, if_false, Nat.reduceAdd, Nat.reduceLeDiff, Nat.reduceMul, Nat.reduceLT, nI_add, pk_mul, nI_lt', nI_le', nI_eq', nI_lt0, nI_ge0, nI_eq0, nI_gt0, nI_le0, nI_ne_m1, m1_ne_nI, m1_lt_nI, m1_le_nI, nI_lt_m1, nI_le_m1, nI_clamp, ax_in_nI, nI_shl, nI_shr, lg_cmp0, nx_and, nI_eq1, bI_0, bI_1, bf_or, eq_self, or_true, true_or, kdC_0, kdC_1, kdC_2, kdC_3, kdC_4, kdC_5, kdC_6, kdC_7, kdC_8, kdC_9, kdC_10, kdC_11, kdC_12, kdC_13, kdC_14, kdC_15, kdC_16, kdU_1, kdU_2, kdU_3, kdU_4, kdU_5, kdU_6, kdU_7, kdU_, kdR_1, kdR_2, kdR_3, kdR_4, kdR_5, kdR_, rC_00, rC_01, rC_02, rC_03, rC_04, rC_10, rC_16, rC_18, rC_19, rC_1a, rC_20, rC_22, rC_23, rC_24, rC_25, rC_26, rC_27, rC_28, rC_4, rC_10k, rC_u3, rC_u5, rC_u7, rC_u9, rC_ua, rC_ub, rC_uc, rC_r4, rC_r5, rC_r6, rC_r7, rC_r8, Nat.add_zero, mR_tagOf_ hr hs.2.1 h24 k]
  -- the tag that the kind asks for
  have r19 : ¬ (kind = 6 ∧ tgU b k = 1) → ax_wp kC (d + 1) mR_useConstant 19 [some (.ref 1), some (.int (nI kind)), some (.int (nI k)), some (.int (nI (tgU b k)))] [] h Q := fun n6 => by
    have tk7 : tgK kind < 256 := by unfold tgK; (repeat' split) <;> omega
    simp (disch := omega) only [sR_useConstant_19, sR_useConstant_20, sR_useConstant_21, sR_useConstant_24, ax_clr_i, ax_clr_l, ax_clr_r, ax_clr_n, ax_ct_0, ax_ct_i, ax_ct_l, ax_ct_r, va_rf_s, Option.toList_some, Option.toList_none, List.cons_append, List.nil_append, and_true, true_and, and_self, ite_true, ite_false, if_true, if_false, Nat.reduceAdd, Nat.reduceLeDiff, Nat.reduceMul, Nat.reduceLT, nI_add, pk_mul, nI_lt', nI_le', nI_eq', nI_lt0, nI_ge0, nI_eq0, nI_gt0, nI_le0, nI_ne_m1, m1_ne_nI, m1_lt_nI, m1_le_nI, nI_lt_m1, nI_le_m1, nI_clamp, ax_in_nI, nI_shl, nI_shr, lg_cmp0, nx_and, nI_eq1, bI_0, bI_1, bf_or, eq_self, or_true, true_or, mR_tagFor_]
    by_cases e : tgU b k = tgK kind
    · rw [if_pos e]
      have hfu : fU b k (opd op) = true := by
        rcases kk with ⟨w1, w2, w3⟩ | ⟨w1, w2, w3⟩ | ⟨w1, w2, w3⟩ | ⟨w1, w2, w3⟩ | ⟨w1, w2, w3⟩ | ⟨w1, w2, w3⟩ | ⟨w1, w2, w3⟩
        · rw [w3, f22]; rw [w2] at e; exact decide_eq_true (Or.inl e)
        all_goals (rw [w3, fU7_eq b k _ (by omega)]; rw [w2] at e; exact decide_eq_true e)
      simp (disch := omega) only [sR_useConstant_38, sR_useConstant_39, sR_useConstant_41, ax_clr_i, ax_clr_l, ax_clr_r, ax_clr_n, ax_ct_0, ax_ct_i, ax_ct_l, ax_ct_r, va_rf_s, Option.toList_some, Option.toList_none, List.cons_append, List.nil_append, and_true, true_and, and_self, ite_true, ite_false, if_true, if_false, Nat.reduceAdd, Nat.reduceLeDiff, Nat.reduceMul, Nat.reduceLT, nI_add, pk_mul, nI_lt', nI_le', nI_eq', nI_lt0, nI_ge0, nI_eq0, nI_gt0, nI_le0, nI_ne_m1, m1_ne_nI, m1_lt_nI, m1_le_nI, nI_lt_m1, nI_le_m1, nI_clamp, ax_in_nI, nI_shl, nI_shr, lg_cmp0, nx_and, nI_eq1, bI_0, bI_1, bf_or, eq_self, or_true, true_or]
      by_cases e7 : tgU b k = 7
      · rw [if_pos e7]
        have hop : op = 18 ∨ op = 187 ∨ op = 192 ∨ op = 193 := by
          rcases kk with w | w | w | w | w | w | w
          · omega
          · exfalso; rw [w.2.1, e7] at e; exact absurd e (by decide)
          · exfalso; rw [w.2.1, e7] at e; exact absurd e (by decide)
          · exfalso; rw [w.2.1, e7] at e; exact absurd e (by decide)
          · omega
          · omega
          · omega
        have hnm : nmsU b op k line = [(kind, line, nmU b k, [])] := by
          unfold nmsU
          rw [if_neg (by omega), if_neg (by omega)]
          have : (if op = 187 then 3 else if op = 192 then 4 else if op = 193 then 5 else 6) = kind := by (repeat' split) <;> omega
          rw [this]
        rw [hnm] at hQ1
        simp (disch := omega) only [sR_useConstant_44, sR_useConstant_45, sR_useConstant_48, sR_useConstant_49, sR_useConstant_50, sR_useConstant_53, sR_useConstant_54, sR_useConstant_55, sR_useConstant_58, sR_useConstant_59, ax_clr_i, ax_clr_l, ax_clr_r, ax_clr_n, ax_ct_0, ax_ct_i, ax_ct_l, ax_ct_r, va_rf_s, Option.toList_some, Option.toList_none, List.cons_append, List.nil_append, and_true, true_and, and_self, ite_true, ite_false, if_true, if_false, Nat.reduceAdd, Nat.reduceLeDiff, Nat.reduceMul, Nat.reduceLT, nI_add, pk_mul, nI_lt', nI_le', nI_eq', nI_lt0, nI_ge0, nI_eq0, nI_gt0, nI_le0, nI_ne_m1, m1_ne_nI, m1_lt_nI, m1_le_nI, nI_lt_m1, nI_le_m1, nI_clamp, ax_in_nI, nI_shl, nI_shr, lg_cmp0, nx_and, nI_eq1, bI_0, bI_1, bf_or, eq_self, or_true, true_or, kdC_0, kdC_1, kdC_2, kdC_3, kdC_4, kdC_5, kdC_6, kdC_7, kdC_8, kdC_9, kdC_10, kdC_11, kdC_12, kdC_13, kdC_14, kdC_15, kdC_16, kdU_1, kdU_2, kdU_3, kdU_4, kdU_5, kdU_6, kdU_7, kdU_, kdR_1, kdR_2, kdR_3, kdR_4, kdR_5, kdR_, rC_00, rC_01, rC_02, rC_03, rC_04, rC_10, rC_16, rC_18, rC_19, rC_1a, rC_20, rC_22, rC_23, rC_24, rC_25, rC_26, rC_27, rC_28, rC_4, rC_10k, rC_u3, rC_u5, rC_u7, rC_u9, rC_ua, rC_ub, rC_uc, rC_r4, rC_r5, rC_r6, rC_r7, rC_r8, Nat.add_zero, hr, l13, mR_lastText_c hr hs.1.2.1 hs.2.1 hk k e7, lN_0]
        refine mU_addOccurrence_ hr u hu hs.2.2 hO kind line _ [] (fun h2 f2 u2 => ?_)
        simp (disch := omega) only [sR_useConstant_62, sR_useConstant_97, sR_useConstant_98, ax_clr_i, ax_clr_l, ax_clr_r, ax_clr_n, ax_ct_0, ax_ct_i, ax_ct_l, ax_ct_r, va_rf_s, Option.toList_some, Option.toList_none, List.cons_append, List.nil_append, and_true, true_and, and_self, ite_true, ite_false, if_true, if_false, Nat.reduceAdd, Nat.reduceLeDiff, Nat.reduceMul, Nat.reduceLT, nI_add, pk_mul, nI_lt', nI_le', nI_eq', nI_lt0, nI_ge0, nI_eq0, nI_gt0, nI_le0, nI_ne_m1, m1_ne_nI, m1_lt_nI, m1_le_nI, nI_lt_m1, nI_le_m1, nI_clamp, ax_in_nI, nI_shl, nI_shr, lg_cmp0, nx_and, nI_eq1, bI_0, bI_1, bf_or, eq_self, or_true, true_or]
        exact hQ1 h2 f2 (hs.n f2 u2) hfu
      · rw [if_neg e7]
        have hop : (180 ≤ op ∧ op ≤ 182) ∧ kind = op - 180 ∧ (tgU b k = 9 ∨ tgU b k = 10) := by
          rcases kk with w | w | w | w | w | w | w
          · exfalso; rw [w.2.1] at e; exact e7 e
          · rw [w.2.1] at e; refine ⟨by omega, by omega, Or.inl e⟩
          · rw [w.2.1] at e; refine ⟨by omega, by omega, Or.inl e⟩
          · rw [w.2.1] at e; refine ⟨by omega, by omega, Or.inr e⟩
          · exfalso; rw [w.2.1] at e; exact e7 e
          · exfalso; rw [w.2.1] at e; exact e7 e
          · exfalso; rw [w.2.1] at e; exact e7 e
        have hnm : nmsU b op k line = [(kind, line, nmU b (bg b (cAt b k + 1)), txt b (cAt b (bg b (cAt b k + 2))))] := by
          unfold nmsU
          rw [if_neg (by omega), if_pos hop.1, ← hop.2.1]
        rw [hnm] at hQ1
        have km := hk.mem (k := k) (by omega)
        have q1 := tgU_at hk.1 (k := k) (by omega)
        have c9 := (hs.2.1.2 k q1.1 q1.2.1).2.1 (by omega)
        have cl : clen b (cAt b k) = 3 := by unfold clen; rw [← q1.2.2.2.1, if_neg (by omega), if_neg (by omega)]
        have b2 := hs.1.2.1.2.2.1 (cAt b k + 1) (by omega)
        have l2 := bg_lt hs.1.2.1.2.2.2 (cAt b k + 1)
        simp (disch := omega) only [sR_useConstant_65, sR_useConstant_66, sR_useConstant_69, sR_useConstant_70, sR_useConstant_71, sR_useConstant_74, sR_useConstant_75, sR_useConstant_76, sR_useConstant_79, sR_useConstant_80, sR_useConstant_83, sR_useConstant_84, sR_useConstant_85, sR_useConstant_86, sR_useConstant_89, sR_useConstant_90, sR_useConstant_91, sR_useConstant_94, ax_clr_i, ax_clr_l, ax_clr_r, ax_clr_n, ax_ct_0, ax_ct_i, ax_ct_l, ax_ct_r, va_rf_s, Option.toList_some, Option.toList_none, List.cons_append, List.nil_append, and_true, true_and, and_self, ite_true, ite_false, if_true, if_false, Nat.reduceAdd, Nat.reduceLeDiff, Nat.reduceMul, Nat.reduceLT, nI_add, pk_mul, nI_lt', nI_le', nI_eq', nI_lt0, nI_ge0, nI_eq0, nI_gt0, nI_le0, nI_ne_m1, m1_ne_nI, m1_lt_nI, m1_le_nI, nI_lt_m1, nI_le_m1, nI_clamp, ax_in_nI, nI_shl, nI_shr, lg_cmp0, nx_and, nI_eq1, bI_0, bI_1, bf_or, eq_self, or_true, true_or, lt_T, le_T, lt_F, le_F, eq_F, eq_T, kdC_0, kdC_1, kdC_2, kdC_3, kdC_4, kdC_5, kdC_6, kdC_7, kdC_8, kdC_9, kdC_10, kdC_11, kdC_12, kdC_13, kdC_14, kdC_15, kdC_16, kdU_1, kdU_2, kdU_3, kdU_4, kdU_5, kdU_6, kdU_7, kdU_, kdR_1, kdR_2, kdR_3, kdR_4, kdR_5, kdR_, rC_00, rC_01, rC_02, rC_03, rC_04, rC_10, rC_16, rC_18, rC_19, rC_1a, rC_20, rC_22, rC_23, rC_24, rC_25, rC_26, rC_27, rC_28, rC_4, rC_10k, rC_u3, rC_u5, rC_u7, rC_u9, rC_ua, rC_ub, rC_uc, rC_r4, rC_r5, rC_r6, rC_r7, rC_r8, Nat.add_zero, hr, l13, c9, b2, mR_lastText_c hr hs.1.2.1 hs.2.1 hk (bg b (cAt b k + 1)) km.1, mR_lastText_m hr hs.1.2.1 hs.2.1 hk k hop.2.2]
        refine mU_addOccurrence_ hr u hu hs.2.2 hO kind line _ _ (fun h2 f2 u2 => ?_)
        simp (disch := omega) only [sR_useConstant_97, sR_useConstant_98, ax_clr_i, ax_clr_l, ax_clr_r, ax_clr_n, ax_ct_0, ax_ct_i, ax_ct_l, ax_ct_r, va_rf_s, Option.toList_some, Option.toList_none, List.cons_append, List.nil_append, and_true, true_and, and_self, ite_true, ite_false, if_true, if_false, Nat.reduceAdd, Nat.reduceLeDiff, Nat.reduceMul, Nat.reduceLT, nI_add, pk_mul, nI_lt', nI_le', nI_eq', nI_lt0, nI_ge0, nI_eq0, nI_gt0, nI_le0, nI_ne_m1, m1_ne_nI, m1_lt_nI, m1_le_nI, nI_lt_m1, nI_le_m1, nI_clamp, ax_in_nI, nI_shl, nI_shr, lg_cmp0, nx_and, nI_eq1, bI_0, bI_1, bf_or, eq_self, or_true, true_or]
        exact hQ1 h2 f2 (hs.n f2 u2) hfu
    · rw [if_neg e]
      have hfu : fU b k (opd op) = false := by
        rcases kk with ⟨w1, w2, w3⟩ | ⟨w1, w2, w3⟩ | ⟨w1, w2, w3⟩ | ⟨w1, w2, w3⟩ | ⟨w1, w2, w3⟩ | ⟨w1, w2, w3⟩ | ⟨w1, w2, w3⟩
        · rw [w3, f22]; rw [w2] at e
          exact decide_eq_false (fun w => by rcases w with w | w; · exact e w
                                             · exact n6 ⟨w2, w⟩)
        all_goals (rw [w3, fU7_eq b k _ (by omega)]; rw [w2] at e; exact decide_eq_false e)
      simp (disch := omega) only [sR_useConstant_27, sR_useConstant_28, sR_useConstant_29, sR_useConstant_32, sR_useConstant_33, sR_useConstant_34, sR_useConstant_37, ax_clr_i, ax_clr_l, ax_clr_r, ax_clr_n, ax_ct_0, ax_ct_i, ax_ct_l, ax_ct_r, va_rf_s, Option.toList_some, Option.toList_none, List.cons_append, List.nil_append, and_true, true_and, and_self, ite_true, ite_false, if_true, if_false, Nat.reduceAdd, Nat.reduceLeDiff, Nat.reduceMul, Nat.reduceLT, nI_add, pk_mul, nI_lt', nI_le', nI_eq', nI_lt0, nI_ge0, nI_eq0, nI_gt0, nI_le0, nI_ne_m1, m1_ne_nI, m1_lt_nI, m1_le_nI, nI_lt_m1, nI_le_m1, nI_clamp, ax_in_nI, nI_shl, nI_shr, lg_cmp0, nx_and, nI_eq1, bI_0, bI_1, bf_or, eq_self, or_true, true_or, kdC_0, kdC_1, kdC_2, kdC_3, kdC_4, kdC_5, kdC_6, kdC_7, kdC_8, kdC_9, kdC_10, kdC_11, kdC_12, kdC_13, kdC_14, kdC_15, kdC_16, kdU_1, kdU_2, kdU_3, kdU_4, kdU_5, kdU_6, kdU_7, kdU_, kdR_1, kdR_2, kdR_3, kdR_4, kdR_5, kdR_, rC_00, rC_01, rC_02, rC_03, rC_04, rC_10, rC_16, rC_18, rC_19, rC_1a, rC_20, rC_22, rC_23, rC_24, rC_25, rC_26, rC_27, rC_28, rC_4, rC_10k, rC_u3, rC_u5, rC_u7, rC_u9, rC_ua, rC_ub, rC_uc, rC_r4, rC_r5, rC_r6, rC_r7, rC_r8, Nat.add_zero, a1, pk_sub, Nat.add_sub_cancel, mR_fail_]
      exact hQ0 hfu
  by_cases e6 : kind = 6
  · rw [if_pos e6]
    simp (disch := omega) only [sR_useConstant_12, sR_useConstant_13, sR_useConstant_14, ax_clr_i, ax_clr_l, ax_clr_r, ax_clr_n, ax_ct_0, ax_ct_i, ax_ct_l, ax_ct_r, va_rf_s, Option.toList_some, Option.toList_none, List.cons_append, List.nil_append, and_true, true_and, and_self, ite_true, ite_false, if_true, if_false, Nat.reduceAdd, Nat.reduceLeDiff, Nat.reduceMul, Nat.reduceLT, nI_add, pk_mul, nI_lt', nI_le', nI_eq', nI_lt0, nI_ge0, nI_eq0, nI_gt0, nI_le0, nI_ne_m1, m1_ne_nI, m1_lt_nI, m1_le_nI, nI_lt_m1, nI_le_m1, nI_clamp, ax_in_nI, nI_shl, nI_shr, lg_cmp0, nx_and, nI_eq1, bI_0, bI_1, bf_or, eq_self, or_true, true_or]
    by_cases e1 : tgU b k = 1
    · rw [if_pos e1]
      simp (disch := omega) only [sR_useConstant_17, sR_useConstant_18, ax_clr_i, ax_clr_l, ax_clr_r, ax_clr_n, ax_ct_0, ax_ct_i, ax_ct_l, ax_ct_r, va_rf_s, Option.toList_some, Option.toList_none, List.cons_append, List.nil_append, and_true, true_and, and_self, ite_true, ite_false, if_true, if_false, Nat.reduceAdd, Nat.reduceLeDiff, Nat.reduceMul, Nat.reduceLT, nI_add, pk_mul, nI_lt', nI_le', nI_eq', nI_lt0, nI_ge0, nI_eq0, nI_gt0, nI_le0, nI_ne_m1, m1_ne_nI, m1_lt_nI, m1_le_nI, nI_lt_m1, nI_le_m1, nI_clamp, ax_in_nI, nI_shl, nI_shr, lg_cmp0, nx_and, nI_eq1, bI_0, bI_1, bf_or, eq_self, or_true, true_or]
      have hop : op = 18 ∧ opd op = 22 := by omega
      have hnm : nmsU b op k line = [] := by unfold nmsU; rw [if_pos ⟨hop.1, e1⟩]
      rw [hnm, List.append_nil] at hQ1
      exact hQ1 h frN.rf hs (by rw [hop.2, f22]; exact decide_eq_true (Or.inr e1))
    · rw [if_neg e1]; exact r19 (fun w => e1 w.2)
  · rw [if_neg e6]; exact r19 (fun w => e6 w.1)
theorem mR_readUse_ {h : ax_H} (hk : okK b) (hu : u < 13) (p lim L start len line op : Nat) (O : List oc4) (hL : L = min lim b.length) (hs : uS o s u h b (p + 1) L own sup I F M O) (hc : cS h start len line) (hO : O.length < 52) (hQ1 : ∀ h', frZ u h h' → uS o s u h' b (p + 2) L own sup I F M (O ++ nmsU b op (bg b (p + 1)) line) → cS h' start len line → 0 < opd op → tk b lim (p + 1) (fun k => fU b k (opd op)) = (true, p + 2) → Q (some (.int (bI true))) h') (hQ0 : ∀ h' q, frZ u h h' → h'.1 1 5 = nI q → (opd op = 0 ∧ q = p) ∨ (0 < opd op ∧ tk b lim (p + 1) (fun k => fU b k (opd op)) = (false, q)) → Q (some (.int (bI false))) h') : ax_wp kC (d + 2) mR_readUse 0 [some (.ref 1), some (.int (oI (kOf op)))] [] h Q := by
  have a1 := hs.1.2.2.1
  have ap := hs.1.2.2.2.2.2.1
  have b1 := bg_lt hs.1.2.1.2.2.2 (p + 1)
  rcases kOf_opd op with w | ⟨kind, w1, w2, w3, w4⟩
  · rw [w.1, oI_n]
    simp (disch := omega) only [sR_readUse_0, sR_readUse_1, sR_readUse_2, sR_readUse_5, sR_readUse_6, sR_readUse_7, sR_readUse_10, sR_readUse_11, sR_readUse_12, sR_readUse_15, ax_clr_i, ax_clr_l, ax_clr_r, ax_clr_n, ax_ct_0, ax_ct_i, ax_ct_l, ax_ct_r, va_rf_s, Option.toList_some, Option.toList_none, List.cons_append, List.nil_append, and_true, true_and, and_self, ite_true, ite_false, if_true, if_false, Nat.reduceAdd, Nat.reduceLeDiff, Nat.reduceMul, Nat.reduceLT, nI_add, pk_mul, nI_lt', nI_le', nI_eq', nI_lt0, nI_ge0, nI_eq0, nI_gt0, nI_le0, nI_ne_m1, m1_ne_nI, m1_lt_nI, m1_le_nI, nI_lt_m1, nI_le_m1, nI_clamp, ax_in_nI, nI_shl, nI_shr, lg_cmp0, nx_and, nI_eq1, bI_0, bI_1, bf_or, eq_self, or_true, true_or, kdC_0, kdC_1, kdC_2, kdC_3, kdC_4, kdC_5, kdC_6, kdC_7, kdC_8, kdC_9, kdC_10, kdC_11, kdC_12, kdC_13, kdC_14, kdC_15, kdC_16, kdU_1, kdU_2, kdU_3, kdU_4, kdU_5, kdU_6, kdU_7, kdU_, kdR_1, kdR_2, kdR_3, kdR_4, kdR_5, kdR_, rC_00, rC_01, rC_02, rC_03, rC_04, rC_10, rC_16, rC_18, rC_19, rC_1a, rC_20, rC_22, rC_23, rC_24, rC_25, rC_26, rC_27, rC_28, rC_4, rC_10k, rC_u3, rC_u5, rC_u7, rC_u9, rC_ua, rC_ub, rC_uc, rC_r4, rC_r5, rC_r6, rC_r7, rC_r8, Nat.add_zero, a1, pk_sub, Nat.add_sub_cancel, mR_fail_]
    exact hQ0 _ p (frT.up (by omega)).z (up_at _ _ _ _) (Or.inl ⟨w.2, rfl⟩)
  · rw [w1, oI_s]
    simp (disch := omega) only [sR_readUse_0, sR_readUse_1, sR_readUse_2, sR_readUse_5, sR_readUse_6, sR_readUse_7, sR_readUse_10, sR_readUse_11, sR_readUse_12, sR_readUse_15, sR_readUse_16, sR_readUse_17, sR_readUse_18, sR_readUse_21, ax_clr_i, ax_clr_l, ax_clr_r, ax_clr_n, ax_ct_0, ax_ct_i, ax_ct_l, ax_ct_r, va_rf_s, Option.toList_some, Option.toList_none, List.cons_append, List.nil_append, and_true, true_and, and_self, ite_true, ite_false, if_true, if_false, Nat.reduceAdd, Nat.reduceLeDiff, Nat.reduceMul, Nat.reduceLT, nI_add, pk_mul, nI_lt', nI_le', nI_eq', nI_lt0, nI_ge0, nI_eq0, nI_gt0, nI_le0, nI_ne_m1, m1_ne_nI, m1_lt_nI, m1_le_nI, nI_lt_m1, nI_le_m1, nI_clamp, ax_in_nI, nI_shl, nI_shr, lg_cmp0, nx_and, nI_eq1, bI_0, bI_1, bf_or, eq_self, or_true, true_or, kdC_0, kdC_1, kdC_2, kdC_3, kdC_4, kdC_5, kdC_6, kdC_7, kdC_8, kdC_9, kdC_10, kdC_11, kdC_12, kdC_13, kdC_14, kdC_15, kdC_16, kdU_1, kdU_2, kdU_3, kdU_4, kdU_5, kdU_6, kdU_7, kdU_, kdR_1, kdR_2, kdR_3, kdR_4, kdR_5, kdR_, rC_00, rC_01, rC_02, rC_03, rC_04, rC_10, rC_16, rC_18, rC_19, rC_1a, rC_20, rC_22, rC_23, rC_24, rC_25, rC_26, rC_27, rC_28, rC_4, rC_10k, rC_u3, rC_u5, rC_u7, rC_u9, rC_ua, rC_ub, rC_uc, rC_r4, rC_r5, rC_r6, rC_r7, rC_r8, Nat.add_zero]
    refine mR_take_ hs.1 0 255 (by omega) (by omega) (fun h1 f1 s1 v1 c1 c2 c3 => ?_) (fun h1 f1 ft c => ?_)
    · simp (disch := omega) only [sR_readUse_24, sR_readUse_27, sR_readUse_28, sR_readUse_29, sR_readUse_30, sR_readUse_33, ax_clr_i, ax_clr_l, ax_clr_r, ax_clr_n, ax_ct_0, ax_ct_i, ax_ct_l, ax_ct_r, va_rf_s, Option.toList_some, Option.toList_none, List.cons_append, List.nil_append, and_true, true_and, and_self, ite_true, ite_false, if_true, if_false, Nat.reduceAdd, Nat.reduceLeDiff, Nat.reduceMul, Nat.reduceLT, nI_add, pk_mul, nI_lt', nI_le', nI_eq', nI_lt0, nI_ge0, nI_eq0, nI_gt0, nI_le0, nI_ne_m1, m1_ne_nI, m1_lt_nI, m1_le_nI, nI_lt_m1, nI_le_m1, nI_clamp, ax_in_nI, nI_shl, nI_shr, lg_cmp0, nx_and, nI_eq1, bI_0, bI_1, bf_or, eq_self, or_true, true_or, kdC_0, kdC_1, kdC_2, kdC_3, kdC_4, kdC_5, kdC_6, kdC_7, kdC_8, kdC_9, kdC_10, kdC_11, kdC_12, kdC_13, kdC_14, kdC_15, kdC_16, kdU_1, kdU_2, kdU_3, kdU_4, kdU_5, kdU_6, kdU_7, kdU_, kdR_1, kdR_2, kdR_3, kdR_4, kdR_5, kdR_, rC_00, rC_01, rC_02, rC_03, rC_04, rC_10, rC_16, rC_18, rC_19, rC_1a, rC_20, rC_22, rC_23, rC_24, rC_25, rC_26, rC_27, rC_28, rC_4, rC_10k, rC_u3, rC_u5, rC_u7, rC_u9, rC_ua, rC_ub, rC_uc, rC_r4, rC_r5, rC_r6, rC_r7, rC_r8, Nat.add_zero, v1, Bool.true_eq_false]
      refine mR_useConstant_ hk hu (p + 1) L start len line op kind (bg b (p + 1)) O (hs.t f1 s1) (hc.t f1) hO w1 (by omega) (fun h2 f2 s2 ok => ?_) (fun bad => ?_)
      · simp (disch := omega) only [sR_readUse_36, sR_readUse_39, sR_readUse_40, sR_readUse_43, sR_readUse_44, ax_clr_i, ax_clr_l, ax_clr_r, ax_clr_n, ax_ct_0, ax_ct_i, ax_ct_l, ax_ct_r, va_rf_s, Option.toList_some, Option.toList_none, List.cons_append, List.nil_append, and_true, true_and, and_self, ite_true, ite_false, if_true, if_false, Nat.reduceAdd, Nat.reduceLeDiff, Nat.reduceMul, Nat.reduceLT, nI_add, pk_mul, nI_lt', nI_le', nI_eq', nI_lt0, nI_ge0, nI_eq0, nI_gt0, nI_le0, nI_ne_m1, m1_ne_nI, m1_lt_nI, m1_le_nI, nI_lt_m1, nI_le_m1, nI_clamp, ax_in_nI, nI_shl, nI_shr, lg_cmp0, nx_and, nI_eq1, bI_0, bI_1, bf_or, eq_self, or_true, true_or, Bool.true_eq_false]
        exact hQ1 h2 (f1.z.tr f2.z) s2 ((hc.t f1).n f2) w3 (tk_ly hL c1 ok)
      · simp (disch := omega) only [sR_readUse_36, sR_readUse_39, sR_readUse_40, sR_readUse_43, sR_readUse_44, ax_clr_i, ax_clr_l, ax_clr_r, ax_clr_n, ax_ct_0, ax_ct_i, ax_ct_l, ax_ct_r, va_rf_s, Option.toList_some, Option.toList_none, List.cons_append, List.nil_append, and_true, true_and, and_self, ite_true, ite_false, if_true, if_false, Nat.reduceAdd, Nat.reduceLeDiff, Nat.reduceMul, Nat.reduceLT, nI_add, pk_mul, nI_lt', nI_le', nI_eq', nI_lt0, nI_ge0, nI_eq0, nI_gt0, nI_le0, nI_ne_m1, m1_ne_nI, m1_lt_nI, m1_le_nI, nI_lt_m1, nI_le_m1, nI_clamp, ax_in_nI, nI_shl, nI_shr, lg_cmp0, nx_and, nI_eq1, bI_0, bI_1, bf_or, eq_self, or_true, true_or]
        exact hQ0 _ (p + 1) (f1.z.tr (frT.up (by omega)).z) (up_at _ _ _ _) (Or.inr ⟨w3, tk_ln hL (fun w => by have := w.2; rw [bad] at this; cases this)⟩)
    · simp (disch := omega) only [sR_readUse_24, sR_readUse_43, sR_readUse_44, ax_clr_i, ax_clr_l, ax_clr_r, ax_clr_n, ax_ct_0, ax_ct_i, ax_ct_l, ax_ct_r, va_rf_s, Option.toList_some, Option.toList_none, List.cons_append, List.nil_append, and_true, true_and, and_self, ite_true, ite_false, if_true, if_false, Nat.reduceAdd, Nat.reduceLeDiff, Nat.reduceMul, Nat.reduceLT, nI_add, pk_mul, nI_lt', nI_le', nI_eq', nI_lt0, nI_ge0, nI_eq0, nI_gt0, nI_le0, nI_ne_m1, m1_ne_nI, m1_lt_nI, m1_le_nI, nI_lt_m1, nI_le_m1, nI_clamp, ax_in_nI, nI_shl, nI_shr, lg_cmp0, nx_and, nI_eq1, bI_0, bI_1, bf_or, eq_self, or_true, true_or]
      exact hQ0 h1 (p + 1) f1.z ft (Or.inr ⟨w3, tk_ln hL (fun w => c ⟨w.1, by omega, by omega⟩)⟩)
theorem mR_readWide_ {h : ax_H} (hk : okK b) (hu : u < 13) (p lim L start len line : Nat) (O : List oc4) (hL : L = min lim b.length) (hs : uS o s u h b p L own sup I F M O) (hc : cS h start len line) (hO : O.length < 52) (hp : p < 500) (hQ1 : ∀ h', frZ u h h' → uS o s u h' b (p + 3) L own sup I F M (O ++ nmsU b (bg b p) (256 * bg b (p + 1) + bg b (p + 2)) line) → cS h' start len line → sWd b (bg b 1) (offU b (bg b 1)) lim p = (true, p + 3) → Q (some (.int (bI true))) h') (hQ0 : ∀ h' q, frZ u h h' → h'.1 1 5 = nI q → sWd b (bg b 1) (offU b (bg b 1)) lim p = (false, q) → Q (some (.int (bI false))) h') : ax_wp kC (d + 2) mR_readWide 0 [some (.ref 1), none, none] [] h Q := by
  have b0 := bg_lt hs.1.2.1.2.2.2 p
  have b1 := bg_lt hs.1.2.1.2.2.2 (p + 1)
  have b2 := bg_lt hs.1.2.1.2.2.2 (p + 2)
  unfold sWd at hQ1 hQ0
  simp (disch := omega) only [sR_readWide_0, sR_readWide_1, sR_readWide_2, sR_readWide_5, ax_clr_i, ax_clr_l, ax_clr_r, ax_clr_n, ax_ct_0, ax_ct_i, ax_ct_l, ax_ct_r, va_rf_s, Option.toList_some, Option.toList_none, List.cons_append, List.nil_append, and_true, true_and, and_self, ite_true, ite_false, if_true, if_false, Nat.reduceAdd, Nat.reduceLeDiff, Nat.reduceMul, Nat.reduceLT, kdC_0, kdC_1, kdC_2, kdC_3, kdC_4, kdC_5, kdC_6, kdC_7, kdC_8, kdC_9, kdC_10, kdC_11, kdC_12, kdC_13, kdC_14, kdC_15, kdC_16, kdU_1, kdU_2, kdU_3, kdU_4, kdU_5, kdU_6, kdU_7, kdU_, kdR_1, kdR_2, kdR_3, kdR_4, kdR_5, kdR_, rC_00, rC_01, rC_02, rC_03, rC_04, rC_10, rC_16, rC_18, rC_19, rC_1a, rC_20, rC_22, rC_23, rC_24, rC_25, rC_26, rC_27, rC_28, rC_4, rC_10k, rC_u3, rC_u5, rC_u7, rC_u9, rC_ua, rC_ub, rC_uc, rC_r4, rC_r5, rC_r6, rC_r7, rC_r8, Nat.add_zero]
  refine mR_take_ hs.1 0 255 (by omega) (by omega) (fun h1 f1 s1 v1 c1 c2 c3 => ?_) (fun h1 f1 ft c => ?_)
  · have a1 := s1.2.2.1
    simp (disch := omega) only [sR_readWide_8, sR_readWide_11, sR_readWide_12, sR_readWide_13, sR_readWide_14, sR_readWide_17, sR_readWide_20, sR_readWide_21, sR_readWide_22, ax_clr_i, ax_clr_l, ax_clr_r, ax_clr_n, ax_ct_0, ax_ct_i, ax_ct_l, ax_ct_r, va_rf_s, Option.toList_some, Option.toList_none, List.cons_append, List.nil_append, and_true, true_and, and_self, ite_true, ite_false, if_true, if_false, Nat.reduceAdd, Nat.reduceLeDiff, Nat.reduceMul, Nat.reduceLT, nI_add, pk_mul, nI_lt', nI_le', nI_eq', nI_lt0, nI_ge0, nI_eq0, nI_gt0, nI_le0, nI_ne_m1, m1_ne_nI, m1_lt_nI, m1_le_nI, nI_lt_m1, nI_le_m1, nI_clamp, ax_in_nI, nI_shl, nI_shr, lg_cmp0, nx_and, nI_eq1, bI_0, bI_1, bf_or, eq_self, or_true, true_or, kdC_0, kdC_1, kdC_2, kdC_3, kdC_4, kdC_5, kdC_6, kdC_7, kdC_8, kdC_9, kdC_10, kdC_11, kdC_12, kdC_13, kdC_14, kdC_15, kdC_16, kdU_1, kdU_2, kdU_3, kdU_4, kdU_5, kdU_6, kdU_7, kdU_, kdR_1, kdR_2, kdR_3, kdR_4, kdR_5, kdR_, rC_00, rC_01, rC_02, rC_03, rC_04, rC_10, rC_16, rC_18, rC_19, rC_1a, rC_20, rC_22, rC_23, rC_24, rC_25, rC_26, rC_27, rC_28, rC_4, rC_10k, rC_u3, rC_u5, rC_u7, rC_u9, rC_ua, rC_ub, rC_uc, rC_r4, rC_r5, rC_r6, rC_r7, rC_r8, Nat.add_zero, v1, Bool.true_eq_false, mR_kindOf_]
    have bad : ¬ (bg b p = 180 ∨ bg b p = 181 ∨ bg b p = 182 ∨ bg b p = 187) → ∀ y1 : Int32, ax_wp kC (d + 2) mR_readWide 30 [some (.ref 1), some (.int y1), none] [] h1 Q := fun hn y1 => by
      rw [if_neg (fun w => hn w.2.2)] at hQ0
      simp (disch := omega) only [sR_readWide_30, sR_readWide_31, sR_readWide_32, sR_readWide_35, sR_readWide_36, sR_readWide_37, sR_readWide_40, ax_clr_i, ax_clr_l, ax_clr_r, ax_clr_n, ax_ct_0, ax_ct_i, ax_ct_l, ax_ct_r, va_rf_s, Option.toList_some, Option.toList_none, List.cons_append, List.nil_append, and_true, true_and, and_self, ite_true, ite_false, if_true, if_false, Nat.reduceAdd, Nat.reduceLeDiff, Nat.reduceMul, Nat.reduceLT, nI_add, pk_mul, nI_lt', nI_le', nI_eq', nI_lt0, nI_ge0, nI_eq0, nI_gt0, nI_le0, nI_ne_m1, m1_ne_nI, m1_lt_nI, m1_le_nI, nI_lt_m1, nI_le_m1, nI_clamp, ax_in_nI, nI_shl, nI_shr, lg_cmp0, nx_and, nI_eq1, bI_0, bI_1, bf_or, eq_self, or_true, true_or, kdC_0, kdC_1, kdC_2, kdC_3, kdC_4, kdC_5, kdC_6, kdC_7, kdC_8, kdC_9, kdC_10, kdC_11, kdC_12, kdC_13, kdC_14, kdC_15, kdC_16, kdU_1, kdU_2, kdU_3, kdU_4, kdU_5, kdU_6, kdU_7, kdU_, kdR_1, kdR_2, kdR_3, kdR_4, kdR_5, kdR_, rC_00, rC_01, rC_02, rC_03, rC_04, rC_10, rC_16, rC_18, rC_19, rC_1a, rC_20, rC_22, rC_23, rC_24, rC_25, rC_26, rC_27, rC_28, rC_4, rC_10k, rC_u3, rC_u5, rC_u7, rC_u9, rC_ua, rC_ub, rC_uc, rC_r4, rC_r5, rC_r6, rC_r7, rC_r8, Nat.add_zero, a1, pk_sub, Nat.add_sub_cancel, mR_fail_]
      exact hQ0 _ p (f1.z.tr (frT.up (by omega)).z) (up_at _ _ _ _) rfl
    rcases kOf_opd (bg b p) with w | ⟨kind, w1, w2, w3, w4⟩
    · rw [w.1, oI_n, if_pos (by decide)]
      refine bad (fun z => ?_) _
      have := w.2
      rcases z with z | z | z | z <;> (rw [z] at this; exact absurd this (by decide))
    · rw [w1, oI_s, if_neg (by rw [nI_lt0 (by omega)]; simp)]
      simp (disch := omega) only [sR_readWide_25, sR_readWide_26, sR_readWide_27, ax_clr_i, ax_clr_l, ax_clr_r, ax_clr_n, ax_ct_0, ax_ct_i, ax_ct_l, ax_ct_r, va_rf_s, Option.toList_some, Option.toList_none, List.cons_append, List.nil_append, and_true, true_and, and_self, ite_true, ite_false, if_true, if_false, Nat.reduceAdd, Nat.reduceLeDiff, Nat.reduceMul, Nat.reduceLT, nI_add, pk_mul, nI_lt', nI_le', nI_eq', nI_lt0, nI_ge0, nI_eq0, nI_gt0, nI_le0, nI_ne_m1, m1_ne_nI, m1_lt_nI, m1_le_nI, nI_lt_m1, nI_le_m1, nI_clamp, ax_in_nI, nI_shl, nI_shr, lg_cmp0, nx_and, nI_eq1, bI_0, bI_1, bf_or, eq_self, or_true, true_or]
      by_cases e3 : kind ≤ 3
      · rw [if_pos e3]
        have hop : bg b p = 180 ∨ bg b p = 181 ∨ bg b p = 182 ∨ bg b p = 187 := by omega
        rw [if_pos (show p < lim ∧ p < b.length ∧ (bg b p = 180 ∨ bg b p = 181 ∨ bg b p = 182 ∨ bg b p = 187) from ⟨by omega, by omega, hop⟩)] at hQ1 hQ0
        simp (disch := omega) only [sR_readWide_41, sR_readWide_42, sR_readWide_43, sR_readWide_46, ax_clr_i, ax_clr_l, ax_clr_r, ax_clr_n, ax_ct_0, ax_ct_i, ax_ct_l, ax_ct_r, va_rf_s, Option.toList_some, Option.toList_none, List.cons_append, List.nil_append, and_true, true_and, and_self, ite_true, ite_false, if_true, if_false, Nat.reduceAdd, Nat.reduceLeDiff, Nat.reduceMul, Nat.reduceLT, kdC_0, kdC_1, kdC_2, kdC_3, kdC_4, kdC_5, kdC_6, kdC_7, kdC_8, kdC_9, kdC_10, kdC_11, kdC_12, kdC_13, kdC_14, kdC_15, kdC_16, kdU_1, kdU_2, kdU_3, kdU_4, kdU_5, kdU_6, kdU_7, kdU_, kdR_1, kdR_2, kdR_3, kdR_4, kdR_5, kdR_, rC_00, rC_01, rC_02, rC_03, rC_04, rC_10, rC_16, rC_18, rC_19, rC_1a, rC_20, rC_22, rC_23, rC_24, rC_25, rC_26, rC_27, rC_28, rC_4, rC_10k, rC_u3, rC_u5, rC_u7, rC_u9, rC_ua, rC_ub, rC_uc, rC_r4, rC_r5, rC_r6, rC_r7, rC_r8, Nat.add_zero]
        refine mR_take_ s1 0 255 (by omega) (by omega) (fun h2 f2 s2 v2 z1 z2 z3 => ?_) (fun h2 f2 ft2 z => ?_)
        · rw [if_pos (show p + 1 < lim ∧ p + 1 < b.length from ⟨by omega, by omega⟩)] at hQ1 hQ0
          simp (disch := omega) only [sR_readWide_49, sR_readWide_52, sR_readWide_53, sR_readWide_54, sR_readWide_55, sR_readWide_58, sR_readWide_59, sR_readWide_60, sR_readWide_61, sR_readWide_64, ax_clr_i, ax_clr_l, ax_clr_r, ax_clr_n, ax_ct_0, ax_ct_i, ax_ct_l, ax_ct_r, va_rf_s, Option.toList_some, Option.toList_none, List.cons_append, List.nil_append, and_true, true_and, and_self, ite_true, ite_false, if_true, if_false, Nat.reduceAdd, Nat.reduceLeDiff, Nat.reduceMul, Nat.reduceLT, nI_add, pk_mul, nI_lt', nI_le', nI_eq', nI_lt0, nI_ge0, nI_eq0, nI_gt0, nI_le0, nI_ne_m1, m1_ne_nI, m1_lt_nI, m1_le_nI, nI_lt_m1, nI_le_m1, nI_clamp, ax_in_nI, nI_shl, nI_shr, lg_cmp0, nx_and, nI_eq1, bI_0, bI_1, bf_or, eq_self, or_true, true_or, kdC_0, kdC_1, kdC_2, kdC_3, kdC_4, kdC_5, kdC_6, kdC_7, kdC_8, kdC_9, kdC_10, kdC_11, kdC_12, kdC_13, kdC_14, kdC_15, kdC_16, kdU_1, kdU_2, kdU_3, kdU_4, kdU_5, kdU_6, kdU_7, kdU_, kdR_1, kdR_2, kdR_3, kdR_4, kdR_5, kdR_, rC_00, rC_01, rC_02, rC_03, rC_04, rC_10, rC_16, rC_18, rC_19, rC_1a, rC_20, rC_22, rC_23, rC_24, rC_25, rC_26, rC_27, rC_28, rC_4, rC_10k, rC_u3, rC_u5, rC_u7, rC_u9, rC_ua, rC_ub, rC_uc, rC_r4, rC_r5, rC_r6, rC_r7, rC_r8, Nat.add_zero, v2, Bool.true_eq_false]
          refine mR_take_ s2 0 255 (by omega) (by omega) (fun h3 f3 s3 v3 y1 y2 y3 => ?_) (fun h3 f3 ft3 y => ?_)
          · have f13 := (f1.tr f2).tr f3
            simp (disch := omega) only [sR_readWide_67, sR_readWide_70, sR_readWide_71, sR_readWide_72, sR_readWide_73, sR_readWide_76, sR_readWide_77, sR_readWide_78, sR_readWide_81, sR_readWide_82, ax_clr_i, ax_clr_l, ax_clr_r, ax_clr_n, ax_ct_0, ax_ct_i, ax_ct_l, ax_ct_r, va_rf_s, Option.toList_some, Option.toList_none, List.cons_append, List.nil_append, and_true, true_and, and_self, ite_true, ite_false, if_true, if_false, Nat.reduceAdd, Nat.reduceLeDiff, Nat.reduceMul, Nat.reduceLT, nI_add, pk_mul, nI_lt', nI_le', nI_eq', nI_lt0, nI_ge0, nI_eq0, nI_gt0, nI_le0, nI_ne_m1, m1_ne_nI, m1_lt_nI, m1_le_nI, nI_lt_m1, nI_le_m1, nI_clamp, ax_in_nI, nI_shl, nI_shr, lg_cmp0, nx_and, nI_eq1, bI_0, bI_1, bf_or, eq_self, or_true, true_or, kdC_0, kdC_1, kdC_2, kdC_3, kdC_4, kdC_5, kdC_6, kdC_7, kdC_8, kdC_9, kdC_10, kdC_11, kdC_12, kdC_13, kdC_14, kdC_15, kdC_16, kdU_1, kdU_2, kdU_3, kdU_4, kdU_5, kdU_6, kdU_7, kdU_, kdR_1, kdR_2, kdR_3, kdR_4, kdR_5, kdR_, rC_00, rC_01, rC_02, rC_03, rC_04, rC_10, rC_16, rC_18, rC_19, rC_1a, rC_20, rC_22, rC_23, rC_24, rC_25, rC_26, rC_27, rC_28, rC_4, rC_10k, rC_u3, rC_u5, rC_u7, rC_u9, rC_ua, rC_ub, rC_uc, rC_r4, rC_r5, rC_r6, rC_r7, rC_r8, Nat.add_zero, v3, Bool.true_eq_false]
            rw [show bg b (p + 1) * 256 + bg b (p + 1 + 1) = 256 * bg b (p + 1) + bg b (p + 2) by rw [Nat.mul_comm]]
            refine mR_useConstant_ hk hu (p + 1 + 1) L start len line (bg b p) kind (256 * bg b (p + 1) + bg b (p + 2)) O (hs.t f13 s3) (hc.t f13) hO w1 (by omega) (fun h4 f4 s4 ok => ?_) (fun bd => ?_)
            · have ok2 : ftN b (bg b 1) (offU b (bg b 1)) (256 * bg b (p + 1) + bg b (p + 2)) (opd (bg b p)) = true := ok
              rw [if_pos (show p + 2 < lim ∧ p + 2 < b.length ∧ ftN b (bg b 1) (offU b (bg b 1)) (256 * bg b (p + 1) + bg b (p + 2)) (opd (bg b p)) = true from ⟨by omega, by omega, ok2⟩)] at hQ1
              simp (disch := omega) only [sR_readWide_85, sR_readWide_88, sR_readWide_89, sR_readWide_92, sR_readWide_93, ax_clr_i, ax_clr_l, ax_clr_r, ax_clr_n, ax_ct_0, ax_ct_i, ax_ct_l, ax_ct_r, va_rf_s, Option.toList_some, Option.toList_none, List.cons_append, List.nil_append, and_true, true_and, and_self, ite_true, ite_false, if_true, if_false, Nat.reduceAdd, Nat.reduceLeDiff, Nat.reduceMul, Nat.reduceLT, nI_add, pk_mul, nI_lt', nI_le', nI_eq', nI_lt0, nI_ge0, nI_eq0, nI_gt0, nI_le0, nI_ne_m1, m1_ne_nI, m1_lt_nI, m1_le_nI, nI_lt_m1, nI_le_m1, nI_clamp, ax_in_nI, nI_shl, nI_shr, lg_cmp0, nx_and, nI_eq1, bI_0, bI_1, bf_or, eq_self, or_true, true_or, Bool.true_eq_false]
              exact hQ1 h4 (f13.z.tr f4.z) s4 ((hc.t f13).n f4) rfl
            · have bd2 : ftN b (bg b 1) (offU b (bg b 1)) (256 * bg b (p + 1) + bg b (p + 2)) (opd (bg b p)) = false := bd
              rw [if_neg (fun w => by have := w.2.2; rw [bd2] at this; cases this)] at hQ0
              simp (disch := omega) only [sR_readWide_85, sR_readWide_88, sR_readWide_89, sR_readWide_92, sR_readWide_93, ax_clr_i, ax_clr_l, ax_clr_r, ax_clr_n, ax_ct_0, ax_ct_i, ax_ct_l, ax_ct_r, va_rf_s, Option.toList_some, Option.toList_none, List.cons_append, List.nil_append, and_true, true_and, and_self, ite_true, ite_false, if_true, if_false, Nat.reduceAdd, Nat.reduceLeDiff, Nat.reduceMul, Nat.reduceLT, nI_add, pk_mul, nI_lt', nI_le', nI_eq', nI_lt0, nI_ge0, nI_eq0, nI_gt0, nI_le0, nI_ne_m1, m1_ne_nI, m1_lt_nI, m1_le_nI, nI_lt_m1, nI_le_m1, nI_clamp, ax_in_nI, nI_shl, nI_shr, lg_cmp0, nx_and, nI_eq1, bI_0, bI_1, bf_or, eq_self, or_true, true_or]
              exact hQ0 _ (p + 2) (f13.z.tr (frT.up (by omega)).z) (up_at _ _ _ _) rfl
          · have ny : ¬ (p + 2 < lim ∧ p + 2 < b.length) := fun w => y ⟨by omega, by omega, by rw [show p + 1 + 1 = p + 2 by omega]; omega⟩
            rw [if_neg (fun w => ny ⟨w.1, w.2.1⟩)] at hQ0
            simp (disch := omega) only [sR_readWide_67, sR_readWide_92, sR_readWide_93, ax_clr_i, ax_clr_l, ax_clr_r, ax_clr_n, ax_ct_0, ax_ct_i, ax_ct_l, ax_ct_r, va_rf_s, Option.toList_some, Option.toList_none, List.cons_append, List.nil_append, and_true, true_and, and_self, ite_true, ite_false, if_true, if_false, Nat.reduceAdd, Nat.reduceLeDiff, Nat.reduceMul, Nat.reduceLT, nI_add, pk_mul, nI_lt', nI_le', nI_eq', nI_lt0, nI_ge0, nI_eq0, nI_gt0, nI_le0, nI_ne_m1, m1_ne_nI, m1_lt_nI, m1_le_nI, nI_lt_m1, nI_le_m1, nI_clamp, ax_in_nI, nI_shl, nI_shr, lg_cmp0, nx_and, nI_eq1, bI_0, bI_1, bf_or, eq_self, or_true, true_or]
            exact hQ0 h3 (p + 2) ((f1.tr f2).tr f3).z ft3 rfl
        · have ny : ¬ (p + 1 < lim ∧ p + 1 < b.length) := fun w => z ⟨by omega, by omega, by omega⟩
          rw [if_neg ny] at hQ0
          simp (disch := omega) only [sR_readWide_49, sR_readWide_52, sR_readWide_53, ax_clr_i, ax_clr_l, ax_clr_r, ax_clr_n, ax_ct_0, ax_ct_i, ax_ct_l, ax_ct_r, va_rf_s, Option.toList_some, Option.toList_none, List.cons_append, List.nil_append, and_true, true_and, and_self, ite_true, ite_false, if_true, if_false, Nat.reduceAdd, Nat.reduceLeDiff, Nat.reduceMul, Nat.reduceLT, nI_add, pk_mul, nI_lt', nI_le', nI_eq', nI_lt0, nI_ge0, nI_eq0, nI_gt0, nI_le0, nI_ne_m1, m1_ne_nI, m1_lt_nI, m1_le_nI, nI_lt_m1, nI_le_m1, nI_clamp, ax_in_nI, nI_shl, nI_shr, lg_cmp0, nx_and, nI_eq1, bI_0, bI_1, bf_or, eq_self, or_true, true_or]
          exact hQ0 h2 (p + 1) (f1.tr f2).z ft2 rfl
      · rw [if_neg e3]
        exact bad (by omega) _
  · have ny : ¬ (p < lim ∧ p < b.length) := fun w => c ⟨by omega, by omega, by omega⟩
    rw [if_neg (fun w => ny ⟨w.1, w.2.1⟩)] at hQ0
    simp (disch := omega) only [sR_readWide_8, sR_readWide_11, sR_readWide_12, ax_clr_i, ax_clr_l, ax_clr_r, ax_clr_n, ax_ct_0, ax_ct_i, ax_ct_l, ax_ct_r, va_rf_s, Option.toList_some, Option.toList_none, List.cons_append, List.nil_append, and_true, true_and, and_self, ite_true, ite_false, if_true, if_false, Nat.reduceAdd, Nat.reduceLeDiff, Nat.reduceMul, Nat.reduceLT, nI_add, pk_mul, nI_lt', nI_le', nI_eq', nI_lt0, nI_ge0, nI_eq0, nI_gt0, nI_le0, nI_ne_m1, m1_ne_nI, m1_lt_nI, m1_le_nI, nI_lt_m1, nI_le_m1, nI_clamp, ax_in_nI, nI_shl, nI_shr, lg_cmp0, nx_and, nI_eq1, bI_0, bI_1, bf_or, eq_self, or_true, true_or]
    exact hQ0 h1 p f1.z ft rfl
end CD
