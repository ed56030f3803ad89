/-! the class: the table of constants -/
/-- the reading of constants changes no more than this -/
def frE (h h' : ax_H) : Prop := h'.2.2 = h.2.2 ∧ (∀ r j, ¬ (r = 1 ∧ (j = 2 ∨ j = 4 ∨ j = 5 ∨ j = 7)) → ¬ (r = 7 ∨ r = 9) → h'.1 r j = h.1 r j) ∧ ∀ r j, ¬ r = 8 → h'.2.1 r j = h.2.1 r j
theorem frE.rf {h : ax_H} : frE h h := ⟨rfl, fun _ _ _ _ => rfl, fun _ _ _ => rfl⟩
theorem frE.tr {h h' h2 : ax_H} (a : frE h h') (b : frE h' h2) : frE h h2 := ⟨b.1.trans a.1, fun r j h1 h3 => (b.2.1 r j h1 h3).trans (a.2.1 r j h1 h3), fun r j h1 => (b.2.2 r j h1).trans (a.2.2 r j h1)⟩
theorem frQ.e {k : Nat} {h h' : ax_H} (f : frQ k h h') : frE h h' := ⟨f.1, fun r j h1 h2 => f.2.1 r j (by omega) (by omega), fun r j h1 => f.2.2 r j (by omega)⟩
theorem frT.e {h h' : ax_H} (f : frT h h') : frE h h' := (f.q (k := 0)).e
theorem unC.e {h h' : ax_H} {u : Nat} {own sup : List Nat} {I F M : List (List Nat)} {O : List oc4} (hu : unC h (17 + 8 * u) own sup I F M O) (f : frE h h') : unC h' (17 + 8 * u) own sup I F M O := hu.keep (fun a k _ _ => f.2.1 _ _ (by omega) (by omega)) (fun a k _ _ => f.2.2 _ _ (by omega))
def tbP (h : ax_H) (b : List Nat) (g : Nat → Nat) (k : Nat) : Prop := ∀ j, 1 ≤ j → j < k → (g j = 0 → h.1 7 j = nI 0) ∧ (g j ≠ 0 → h.1 7 j = nI (bg b (g j)) ∧ h.1 9 j = nI (g j + 1) ∧ (bg b (g j) = 1 → h.2.1 8 j = lN (pL (txt b (g j)))))
theorem tbP.q {h h' : ax_H} {b : List Nat} {g : Nat → Nat} {k m : Nat} (ht : tbP h b g k) (f : frQ m h h') (hm : k ≤ m) : tbP h' b g k := fun j h1 h2 => by
  have q := ht j h1 h2
  rw [f.2.1 _ _ (by omega) (by omega), f.2.1 _ _ (by omega) (by omega), f.2.2 _ _ (by omega)]
  exact q
section RC
variable {d : Nat} {Q : Option Value → ax_H → Prop} {o : Nat → Nat} {s : Nat} {x : Option Nat} {b : List Nat}
theorem mR_readConstants_l (n : Nat) (hn24 : n ≤ 24) : ∀ (m k p : Nat) (g : Nat → Nat) (h : ax_H), n < k + m → 1 ≤ k → k ≤ n + 1 → p ≤ b.length → 2 ≤ p → h.1 1 7 = nI n → rS o s x h b p b.length → tbP h b g k → (∀ j, k ≤ j → g j = 0) → (∀ h' K, frE h h' → h'.1 1 7 = nI n → rS o s x h' b (sCs b n m k p (fun _ => 0)).2.1 b.length → n < K → tbP h' b (sOf b n m k p g) K → (sCs b n m k p (fun _ => 0)).1 = true → Q (some (.int (bI true))) h') → (∀ h', frE h h' → h'.1 1 5 = nI (sCs b n m k p (fun _ => 0)).2.1 → (sCs b n m k p (fun _ => 0)).1 = false → Q (some (.int (bI false))) h') → ax_wp kC (d + 3) mR_readConstants 22 [some (.ref 1), some (.int (nI k))] [] h Q
  | 0, k, p, g, h, hm, h1k, hkn, hp, h2p, hn, hs, ht, hg, hQ1, hQ0 => by
    rw [sR_readConstants_22]
    simp (disch := omega) only [sR_readConstants_23, sR_readConstants_24, sR_readConstants_27, sR_readConstants_66, sR_readConstants_67, ax_clr_i, ax_clr_l, ax_clr_r, ax_clr_n, ax_ct_0, ax_ct_i, ax_ct_l, ax_ct_r, va_rf_s, Option.toList_some, Option.toList_none, List.cons_append, List.nil_append, and_true, true_and, and_self, ite_true, ite_false, if_true, if_false, Nat.reduceAdd, Nat.reduceLeDiff, Nat.reduceMul, Nat.reduceLT, nI_add, pk_mul, nI_lt', nI_le', nI_eq', nI_lt0, nI_ge0, nI_eq0, nI_gt0, nI_le0, nI_ne_m1, m1_ne_nI, m1_lt_nI, m1_le_nI, nI_lt_m1, nI_le_m1, nI_clamp, ax_in_nI, nI_shl, nI_shr, lg_cmp0, nx_and, nI_eq1, bI_0, bI_1, bf_or, eq_self, or_true, true_or, lt_T, le_T, lt_F, le_F, eq_F, eq_T, kdC_0, kdC_1, kdC_2, kdC_3, kdC_4, kdC_5, kdC_6, kdC_7, kdC_8, kdC_9, kdC_10, kdC_11, kdC_12, kdC_13, kdC_14, kdC_15, kdC_16, kdU_1, kdU_2, kdU_3, kdU_4, kdU_5, kdU_6, kdU_7, kdU_, kdR_1, kdR_2, kdR_3, kdR_4, kdR_5, kdR_, rC_00, rC_01, rC_02, rC_03, rC_04, rC_10, rC_16, rC_18, rC_19, rC_1a, rC_20, rC_22, rC_23, rC_24, rC_25, rC_26, rC_27, rC_28, rC_4, rC_10k, rC_u3, rC_u5, rC_u7, rC_u9, rC_ua, rC_ub, rC_uc, rC_r4, rC_r5, rC_r6, rC_r7, rC_r8, Nat.add_zero, hn]
    exact hQ1 h k frE.rf hn hs (by omega) ht rfl
  | m + 1, k, p, g, h, hm, h1k, hkn, hp, h2p, hn, hs, ht, hg, hQ1, hQ0 => by
    have h120 := hs.2.1.2.1
    unfold sCs sOf at hQ1
    unfold sCs at hQ0
    by_cases e : n < k
    · rw [if_pos e, if_pos e] at hQ1
      rw [sR_readConstants_22]
      simp (disch := omega) only [sR_readConstants_23, sR_readConstants_24, sR_readConstants_27, sR_readConstants_66, sR_readConstants_67, ax_clr_i, ax_clr_l, ax_clr_r, ax_clr_n, ax_ct_0, ax_ct_i, ax_ct_l, ax_ct_r, va_rf_s, Option.toList_some, Option.toList_none, List.cons_append, List.nil_append, and_true, true_and, and_self, ite_true, ite_false, if_true, if_false, Nat.reduceAdd, Nat.reduceLeDiff, Nat.reduceMul, Nat.reduceLT, nI_add, pk_mul, nI_lt', nI_le', nI_eq', nI_lt0, nI_ge0, nI_eq0, nI_gt0, nI_le0, nI_ne_m1, m1_ne_nI, m1_lt_nI, m1_le_nI, nI_lt_m1, nI_le_m1, nI_clamp, ax_in_nI, nI_shl, nI_shr, lg_cmp0, nx_and, nI_eq1, bI_0, bI_1, bf_or, eq_self, or_true, true_or, lt_T, le_T, lt_F, le_F, eq_F, eq_T, kdC_0, kdC_1, kdC_2, kdC_3, kdC_4, kdC_5, kdC_6, kdC_7, kdC_8, kdC_9, kdC_10, kdC_11, kdC_12, kdC_13, kdC_14, kdC_15, kdC_16, kdU_1, kdU_2, kdU_3, kdU_4, kdU_5, kdU_6, kdU_7, kdU_, kdR_1, kdR_2, kdR_3, kdR_4, kdR_5, kdR_, rC_00, rC_01, rC_02, rC_03, rC_04, rC_10, rC_16, rC_18, rC_19, rC_1a, rC_20, rC_22, rC_23, rC_24, rC_25, rC_26, rC_27, rC_28, rC_4, rC_10k, rC_u3, rC_u5, rC_u7, rC_u9, rC_ua, rC_ub, rC_uc, rC_r4, rC_r5, rC_r6, rC_r7, rC_r8, Nat.add_zero, hn]
      exact hQ1 h k frE.rf hn hs (by omega) ht rfl
    · rw [if_neg e, if_neg e] at hQ1
      rw [if_neg e] at hQ0
      rw [sR_readConstants_22]
      simp (disch := omega) only [sR_readConstants_23, sR_readConstants_24, sR_readConstants_27, sR_readConstants_30, sR_readConstants_31, sR_readConstants_32, ax_clr_i, ax_clr_l, ax_clr_r, ax_clr_n, ax_ct_0, ax_ct_i, ax_ct_l, ax_ct_r, va_rf_s, Option.toList_some, Option.toList_none, List.cons_append, List.nil_append, and_true, true_and, and_self, ite_true, ite_false, if_true, if_false, Nat.reduceAdd, Nat.reduceLeDiff, Nat.reduceMul, Nat.reduceLT, nI_add, pk_mul, nI_lt', nI_le', nI_eq', nI_lt0, nI_ge0, nI_eq0, nI_gt0, nI_le0, nI_ne_m1, m1_ne_nI, m1_lt_nI, m1_le_nI, nI_lt_m1, nI_le_m1, nI_clamp, ax_in_nI, nI_shl, nI_shr, lg_cmp0, nx_and, nI_eq1, bI_0, bI_1, bf_or, eq_self, or_true, true_or, lt_T, le_T, lt_F, le_F, eq_F, eq_T, kdC_0, kdC_1, kdC_2, kdC_3, kdC_4, kdC_5, kdC_6, kdC_7, kdC_8, kdC_9, kdC_10, kdC_11, kdC_12, kdC_13, kdC_14, kdC_15, kdC_16, kdU_1, kdU_2, kdU_3, kdU_4, kdU_5, kdU_6, kdU_7, kdU_, kdR_1, kdR_2, kdR_3, kdR_4, kdR_5, kdR_, rC_00, rC_01, rC_02, rC_03, rC_04, rC_10, rC_16, rC_18, rC_19, rC_1a, rC_20, rC_22, rC_23, rC_24, rC_25, rC_26, rC_27, rC_28, rC_4, rC_10k, rC_u3, rC_u5, rC_u7, rC_u9, rC_ua, rC_ub, rC_uc, rC_r4, rC_r5, rC_r6, rC_r7, rC_r8, Nat.add_zero, hn]
      refine mR_readConstant_ k n (by omega) hn (by omega) hn24 p (by omega) hs (fun h1 f1 s1 t7 t9 t8 ok => ?_) (fun h1 f1 ft bad => ?_)
      · have sc := sCo_ok ok
        have b1 := bg_lt hs.2.1.2.2.2 p
        rw [if_neg (by rw [ok]; decide)] at hQ1 hQ0
        rw [sc.2.1, (sCs_f b n m (k + cstp b p) (p + clen b p) _ (fun _ => 0)).1, (sCs_f b n m (k + cstp b p) (p + clen b p) _ (fun _ => 0)).2] at hQ1 hQ0
        have hr1 := s1.1
        have n1 : h1.1 1 7 = nI n := by rw [f1.2.1 _ _ (by omega) (by omega)]; exact hn
        have ht1 : tbP h1 b (fun j => if j = k then p else g j) (k + 1) := fun j h1j h2j => by
          by_cases ej : j = k
          · subst ej
            dsimp only
            rw [if_pos rfl]
            exact ⟨fun q => by omega, fun _ => ⟨t7, t9, t8⟩⟩
          · dsimp only
            rw [if_neg ej]
            exact ht.q f1 (by omega) j h1j (by omega)
        have hg1 : ∀ j, k + 1 ≤ j → (fun j => if j = k then p else g j) j = 0 := fun j hj => by dsimp only; rw [if_neg (by omega)]; exact hg j (by omega)
        simp (disch := omega) only [sR_readConstants_35, sR_readConstants_38, sR_readConstants_39, sR_readConstants_40, sR_readConstants_41, sR_readConstants_44, sR_readConstants_45, sR_readConstants_46, sR_readConstants_47, ax_clr_i, ax_clr_l, ax_clr_r, ax_clr_n, ax_ct_0, ax_ct_i, ax_ct_l, ax_ct_r, va_rf_s, Option.toList_some, Option.toList_none, List.cons_append, List.nil_append, and_true, true_and, and_self, ite_true, ite_false, if_true, if_false, Nat.reduceAdd, Nat.reduceLeDiff, Nat.reduceMul, Nat.reduceLT, nI_add, pk_mul, nI_lt', nI_le', nI_eq', nI_lt0, nI_ge0, nI_eq0, nI_gt0, nI_le0, nI_ne_m1, m1_ne_nI, m1_lt_nI, m1_le_nI, nI_lt_m1, nI_le_m1, nI_clamp, ax_in_nI, nI_shl, nI_shr, lg_cmp0, nx_and, nI_eq1, bI_0, bI_1, bf_or, eq_self, or_true, true_or, lt_T, le_T, lt_F, le_F, eq_F, eq_T, kdC_0, kdC_1, kdC_2, kdC_3, kdC_4, kdC_5, kdC_6, kdC_7, kdC_8, kdC_9, kdC_10, kdC_11, kdC_12, kdC_13, kdC_14, kdC_15, kdC_16, kdU_1, kdU_2, kdU_3, kdU_4, kdU_5, kdU_6, kdU_7, kdU_, kdR_1, kdR_2, kdR_3, kdR_4, kdR_5, kdR_, rC_00, rC_01, rC_02, rC_03, rC_04, rC_10, rC_16, rC_18, rC_19, rC_1a, rC_20, rC_22, rC_23, rC_24, rC_25, rC_26, rC_27, rC_28, rC_4, rC_10k, rC_u3, rC_u5, rC_u7, rC_u9, rC_ua, rC_ub, rC_uc, rC_r4, rC_r5, rC_r6, rC_r7, rC_r8, Nat.add_zero, hr1, t7, Bool.true_eq_false]
        by_cases e3 : bg b p = 3
        · have cs : cstp b p = 2 := by unfold cstp; rw [if_pos e3]
          rw [cs] at hQ1 hQ0
          have kn : ¬ k = n := by
            have q := sc.1
            unfold tgOk at q
            rw [decide_eq_true e3] at q
            intro w; rw [decide_eq_true w] at q; simp at q
          rw [if_pos e3]
          simp (disch := omega) only [sR_readConstants_50, sR_readConstants_53, sR_readConstants_54, sR_readConstants_57, sR_readConstants_58, sR_readConstants_59, sR_readConstants_60, sR_readConstants_63, ax_clr_i, ax_clr_l, ax_clr_r, ax_clr_n, ax_ct_0, ax_ct_i, ax_ct_l, ax_ct_r, va_rf_s, Option.toList_some, Option.toList_none, List.cons_append, List.nil_append, and_true, true_and, and_self, ite_true, ite_false, if_true, if_false, Nat.reduceAdd, Nat.reduceLeDiff, Nat.reduceMul, Nat.reduceLT, nI_add, pk_mul, nI_lt', nI_le', nI_eq', nI_lt0, nI_ge0, nI_eq0, nI_gt0, nI_le0, nI_ne_m1, m1_ne_nI, m1_lt_nI, m1_le_nI, nI_lt_m1, nI_le_m1, nI_clamp, ax_in_nI, nI_shl, nI_shr, lg_cmp0, nx_and, nI_eq1, bI_0, bI_1, bf_or, eq_self, or_true, true_or, lt_T, le_T, lt_F, le_F, eq_F, eq_T, kdC_0, kdC_1, kdC_2, kdC_3, kdC_4, kdC_5, kdC_6, kdC_7, kdC_8, kdC_9, kdC_10, kdC_11, kdC_12, kdC_13, kdC_14, kdC_15, kdC_16, kdU_1, kdU_2, kdU_3, kdU_4, kdU_5, kdU_6, kdU_7, kdU_, kdR_1, kdR_2, kdR_3, kdR_4, kdR_5, kdR_, rC_00, rC_01, rC_02, rC_03, rC_04, rC_10, rC_16, rC_18, rC_19, rC_1a, rC_20, rC_22, rC_23, rC_24, rC_25, rC_26, rC_27, rC_28, rC_4, rC_10k, rC_u3, rC_u5, rC_u7, rC_u9, rC_ua, rC_ub, rC_uc, rC_r4, rC_r5, rC_r6, rC_r7, rC_r8, Nat.add_zero, hr1]
          have f2 : frQ (k + 1) h1 (ax_upI h1 7 (k + 1) (nI 0)) := ⟨rfl, fun r i w1 w2 => by rw [up_I, if_neg (by omega)], fun _ _ _ => rfl⟩
          refine mR_readConstants_l n hn24 m (k + 1 + 1) (p + clen b p) (fun j => if j = k then p else g j) _ (by omega) (by omega) (by omega) sc.2.2 (by omega) (by rw [f2.2.1 _ _ (by omega) (by omega)]; exact n1) (s1.q f2 (by rw [up_I, if_neg (by omega)]; exact s1.2.2.1) (by omega) (by rw [up_I, if_neg (by omega)]; exact s1.2.2.2.2.2.2)) (fun j h1j h2j => ?_) (fun j hj => hg1 j (by omega)) (fun h' K f => hQ1 h' K ((f1.e.tr f2.e).tr f)) (fun h' f => hQ0 h' ((f1.e.tr f2.e).tr f))
          by_cases ej : j = k + 1
          · subst ej
            exact ⟨fun _ => up_at _ _ _ _, fun q => absurd (hg1 (k + 1) (by omega)) q⟩
          · exact ht1.q f2 (by omega) j h1j (by omega)
        · have cs : cstp b p = 1 := by unfold cstp; rw [if_neg e3]
          rw [cs] at hQ1 hQ0
          rw [if_neg e3]
          simp (disch := omega) only [sR_readConstants_60, sR_readConstants_63, ax_clr_i, ax_clr_l, ax_clr_r, ax_clr_n, ax_ct_0, ax_ct_i, ax_ct_l, ax_ct_r, va_rf_s, Option.toList_some, Option.toList_none, List.cons_append, List.nil_append, and_true, true_and, and_self, ite_true, ite_false, if_true, if_false, Nat.reduceAdd, Nat.reduceLeDiff, Nat.reduceMul, Nat.reduceLT, nI_add, pk_mul, nI_lt', nI_le', nI_eq', nI_lt0, nI_ge0, nI_eq0, nI_gt0, nI_le0, nI_ne_m1, m1_ne_nI, m1_lt_nI, m1_le_nI, nI_lt_m1, nI_le_m1, nI_clamp, ax_in_nI, nI_shl, nI_shr, lg_cmp0, nx_and, nI_eq1, bI_0, bI_1, bf_or, eq_self, or_true, true_or, lt_T, le_T, lt_F, le_F, eq_F, eq_T, kdC_0, kdC_1, kdC_2, kdC_3, kdC_4, kdC_5, kdC_6, kdC_7, kdC_8, kdC_9, kdC_10, kdC_11, kdC_12, kdC_13, kdC_14, kdC_15, kdC_16, kdU_1, kdU_2, kdU_3, kdU_4, kdU_5, kdU_6, kdU_7, kdU_, kdR_1, kdR_2, kdR_3, kdR_4, kdR_5, kdR_, rC_00, rC_01, rC_02, rC_03, rC_04, rC_10, rC_16, rC_18, rC_19, rC_1a, rC_20, rC_22, rC_23, rC_24, rC_25, rC_26, rC_27, rC_28, rC_4, rC_10k, rC_u3, rC_u5, rC_u7, rC_u9, rC_ua, rC_ub, rC_uc, rC_r4, rC_r5, rC_r6, rC_r7, rC_r8, Nat.add_zero, hr1]
          exact mR_readConstants_l n hn24 m (k + 1) (p + clen b p) _ h1 (by omega) (by omega) (by omega) sc.2.2 (by omega) n1 s1 ht1 hg1 (fun h' K f => hQ1 h' K (f1.e.tr f)) (fun h' f => hQ0 h' (f1.e.tr f))
      · rw [if_pos bad] at hQ0
        simp (disch := omega) only [sR_readConstants_35, sR_readConstants_38, sR_readConstants_39, ax_clr_i, ax_clr_l, ax_clr_r, ax_clr_n, ax_ct_0, ax_ct_i, ax_ct_l, ax_ct_r, va_rf_s, Option.toList_some, Option.toList_none, List.cons_append, List.nil_append, and_true, true_and, and_self, ite_true, ite_false, if_true, if_false, Nat.reduceAdd, Nat.reduceLeDiff, Nat.reduceMul, Nat.reduceLT, nI_add, pk_mul, nI_lt', nI_le', nI_eq', nI_lt0, nI_ge0, nI_eq0, nI_gt0, nI_le0, nI_ne_m1, m1_ne_nI, m1_lt_nI, m1_le_nI, nI_lt_m1, nI_le_m1, nI_clamp, ax_in_nI, nI_shl, nI_shr, lg_cmp0, nx_and, nI_eq1, bI_0, bI_1, bf_or, eq_self, or_true, true_or]
        exact hQ0 h1 f1.e ft rfl
theorem rdB_at {b : List Nat} (h0 : 0 < b.length ∧ bg b 0 = 197) (h1 : 1 < b.length ∧ bg b 1 ≤ 24) : rdB b = ((sCs b (bg b 1) 26 1 2 (fun _ => 0)).1, (sCs b (bg b 1) 26 1 2 (fun _ => 0)).2.1) := by
  unfold rdB rdC
  rw [if_pos h0, if_pos h1]
  exact Prod.ext (sCs_f b _ _ _ _ _ _).1 (sCs_f b _ _ _ _ _ _).2
theorem mR_readConstants_ {h : ax_H} (hs : rS o s x h b 1 b.length) (h0 : 0 < b.length ∧ bg b 0 = 197) (hQ1 : ∀ h', frE h h' → rS o s x h' b (hdU b) b.length → tcC h' b → cU b → (rdB b).1 = true → Q (some (.int (bI true))) h') (hQ0 : ∀ h', frE h h' → h'.1 1 5 = nI (rdB b).2 → (rdB b).1 = false → Q (some (.int (bI false))) h') : ax_wp kC (d + 3) mR_readConstants 0 [some (.ref 1), none] [] h Q := by
  simp (disch := omega) only [sR_readConstants_0, sR_readConstants_1, sR_readConstants_2, sR_readConstants_4, ax_clr_i, ax_clr_l, ax_clr_r, ax_clr_n, ax_ct_0, ax_ct_i, ax_ct_l, ax_ct_r, va_rf_s, Option.toList_some, Option.toList_none, List.cons_append, List.nil_append, and_true, true_and, and_self, ite_true, ite_false, if_true, if_false, Nat.reduceAdd, Nat.reduceLeDiff, Nat.reduceMul, Nat.reduceLT, kdC_0, kdC_1, kdC_2, kdC_3, kdC_4, kdC_5, kdC_6, kdC_7, kdC_8, kdC_9, kdC_10, kdC_11, kdC_12, kdC_13, kdC_14, kdC_15, kdC_16, kdU_1, kdU_2, kdU_3, kdU_4, kdU_5, kdU_6, kdU_7, kdU_, kdR_1, kdR_2, kdR_3, kdR_4, kdR_5, kdR_, rC_00, rC_01, rC_02, rC_03, rC_04, rC_10, rC_16, rC_18, rC_19, rC_1a, rC_20, rC_22, rC_23, rC_24, rC_25, rC_26, rC_27, rC_28, rC_4, rC_10k, rC_u3, rC_u5, rC_u7, rC_u9, rC_ua, rC_ub, rC_uc, rC_r4, rC_r5, rC_r6, rC_r7, rC_r8, Nat.add_zero]
  refine mR_take_ hs 0 24 (by omega) (by omega) (fun h1 f1 s1 v1 c1 c2 c3 => ?_) (fun h1 f1 ft c => ?_)
  · simp (disch := omega) only [sR_readConstants_7, sR_readConstants_10, sR_readConstants_11, sR_readConstants_12, sR_readConstants_13, sR_readConstants_14, sR_readConstants_17, sR_readConstants_20, sR_readConstants_21, ax_clr_i, ax_clr_l, ax_clr_r, ax_clr_n, ax_ct_0, ax_ct_i, ax_ct_l, ax_ct_r, va_rf_s, Option.toList_some, Option.toList_none, List.cons_append, List.nil_append, and_true, true_and, and_self, ite_true, ite_false, if_true, if_false, Nat.reduceAdd, Nat.reduceLeDiff, Nat.reduceMul, Nat.reduceLT, nI_add, pk_mul, nI_lt', nI_le', nI_eq', nI_lt0, nI_ge0, nI_eq0, nI_gt0, nI_le0, nI_ne_m1, m1_ne_nI, m1_lt_nI, m1_le_nI, nI_lt_m1, nI_le_m1, nI_clamp, ax_in_nI, nI_shl, nI_shr, lg_cmp0, nx_and, nI_eq1, bI_0, bI_1, bf_or, eq_self, or_true, true_or, kdC_0, kdC_1, kdC_2, kdC_3, kdC_4, kdC_5, kdC_6, kdC_7, kdC_8, kdC_9, kdC_10, kdC_11, kdC_12, kdC_13, kdC_14, kdC_15, kdC_16, kdU_1, kdU_2, kdU_3, kdU_4, kdU_5, kdU_6, kdU_7, kdU_, kdR_1, kdR_2, kdR_3, kdR_4, kdR_5, kdR_, rC_00, rC_01, rC_02, rC_03, rC_04, rC_10, rC_16, rC_18, rC_19, rC_1a, rC_20, rC_22, rC_23, rC_24, rC_25, rC_26, rC_27, rC_28, rC_4, rC_10k, rC_u3, rC_u5, rC_u7, rC_u9, rC_ua, rC_ub, rC_uc, rC_r4, rC_r5, rC_r6, rC_r7, rC_r8, Nat.add_zero, v1, Bool.true_eq_false]
    have hat := rdB_at h0 ⟨c1, c3⟩
    have f2 : frE h1 (ax_upI h1 1 7 (nI (bg b 1))) := ⟨rfl, fun r i w1 w2 => by rw [up_I, if_neg (by omega)], fun _ _ _ => rfl⟩
    have s2 : rS o s x (ax_upI h1 1 7 (nI (bg b 1))) b 2 b.length := ⟨s1.1, ⟨by rw [up_I, if_neg (by omega)]; exact s1.2.1.1, s1.2.1.2.1, fun j hj => by rw [up_I, if_neg (by omega)]; exact s1.2.1.2.2.1 j hj, s1.2.1.2.2.2⟩, by rw [up_I, if_neg (by omega)]; exact s1.2.2.1, by rw [up_I, if_neg (by omega)]; exact s1.2.2.2.1, by omega, by omega, by rw [up_I, if_neg (by omega)]; exact s1.2.2.2.2.2.2⟩
    refine mR_readConstants_l (bg b 1) c3 26 1 2 (fun _ => 0) _ (by omega) (by omega) (by omega) (by omega) (by omega) (up_at _ _ _ _) s2 (fun j q1 q2 => by omega) (fun _ _ => rfl) (fun h3 K f3 n3 s3 hK t3 ok => ?_) (fun h3 f3 ft bad => ?_)
    · have okB : (rdB b).1 = true := by rw [hat]; exact ok
      obtain ⟨r1, r2, r3, r4⟩ := rdB_ok okB
      have hp : (sCs b (bg b 1) 26 1 2 (fun _ => 0)).2.1 = hdU b := by rw [← r2, hat]
      rw [hp] at s3
      refine hQ1 h3 ((f1.e.tr f2).tr f3) s3 ⟨n3, fun k q1 q2 => ?_⟩ r1 okB
      have q := t3 k q1 (by omega)
      have hof : sOf b (bg b 1) 26 1 2 (fun _ => 0) k = offU b (bg b 1) k := rfl
      rw [hof] at q
      by_cases e : offU b (bg b 1) k = 0
      · have tz : tgU b k = 0 := by unfold tgU tgv; rw [if_neg (fun w => w.2.2 e)]
        rw [tz]
        exact ⟨q.1 e, fun w => absurd rfl w, fun w => absurd w (by decide)⟩
      · have tz : tgU b k = bg b (offU b (bg b 1) k) := by unfold tgU tgv; rw [if_pos ⟨q1, q2, e⟩]
        have ca : cAt b k = offU b (bg b 1) k := cAt_off q1 (by omega) e
        rw [tz, ca]
        obtain ⟨w1, w2, w3⟩ := q.2 e
        exact ⟨w1, fun _ => w2, w3⟩
    · exact hQ0 h3 ((f1.e.tr f2).tr f3) (by rw [hat]; exact ft) (by rw [hat]; exact bad)
  · have hat : rdB b = (false, 1) := by unfold rdB rdC; rw [if_pos h0, if_neg (fun w => c ⟨w.1, by omega, w.2⟩)]
    simp (disch := omega) only [sR_readConstants_7, sR_readConstants_10, sR_readConstants_11, ax_clr_i, ax_clr_l, ax_clr_r, ax_clr_n, ax_ct_0, ax_ct_i, ax_ct_l, ax_ct_r, va_rf_s, Option.toList_some, Option.toList_none, List.cons_append, List.nil_append, and_true, true_and, and_self, ite_true, ite_false, if_true, if_false, Nat.reduceAdd, Nat.reduceLeDiff, Nat.reduceMul, Nat.reduceLT, nI_add, pk_mul, nI_lt', nI_le', nI_eq', nI_lt0, nI_ge0, nI_eq0, nI_gt0, nI_le0, nI_ne_m1, m1_ne_nI, m1_lt_nI, m1_le_nI, nI_lt_m1, nI_le_m1, nI_clamp, ax_in_nI, nI_shl, nI_shr, lg_cmp0, nx_and, nI_eq1, bI_0, bI_1, bf_or, eq_self, or_true, true_or]
    exact hQ0 h1 f1.e (by rw [hat]; exact ft) (by rw [hat])
theorem mR_checkNumbers_l {h : ax_H} (hr : h.2.2 = rC o s x) (hb : bfC h b) (hc : tcC h b) (hu : cU b) : ∀ (m k a : Nat) (x2 : Option Value), k + m = bg b 1 + 1 → 1 ≤ k → ((sCk b (bg b 1) (offU b (bg b 1)) m k a).1 = true → Q (some (.int (bI true))) h) → ((sCk b (bg b 1) (offU b (bg b 1)) m k a).1 = false → Q (some (.int (bI false))) (ax_upI h 1 5 (nI (sCk b (bg b 1) (offU b (bg b 1)) m k a).2))) → ax_wp kC (d + 4) mR_checkNumbers 2 [some (.ref 1), some (.int (nI k)), x2] [] h Q
  | 0, k, a, x2, hk, h1k, hQ1, hQ0 => by
    have h24 := hu.2.1
    have c1 := hc.1
    rw [sR_checkNumbers_2]
    simp (disch := omega) only [sR_checkNumbers_3, sR_checkNumbers_4, sR_checkNumbers_7, sR_checkNumbers_119, sR_checkNumbers_120, ax_clr_i, ax_clr_l, ax_clr_r, ax_clr_n, ax_ct_0, ax_ct_i, ax_ct_l, ax_ct_r, va_rf_s, Option.toList_some, Option.toList_none, List.cons_append, List.nil_append, and_true, true_and, and_self, ite_true, ite_false, if_true, if_false, Nat.reduceAdd, Nat.reduceLeDiff, Nat.reduceMul, Nat.reduceLT, nI_add, pk_mul, nI_lt', nI_le', nI_eq', nI_lt0, nI_ge0, nI_eq0, nI_gt0, nI_le0, nI_ne_m1, m1_ne_nI, m1_lt_nI, m1_le_nI, nI_lt_m1, nI_le_m1, nI_clamp, ax_in_nI, nI_shl, nI_shr, lg_cmp0, nx_and, nI_eq1, bI_0, bI_1, bf_or, eq_self, or_true, true_or, lt_T, le_T, lt_F, le_F, eq_F, eq_T, kdC_0, kdC_1, kdC_2, kdC_3, kdC_4, kdC_5, kdC_6, kdC_7, kdC_8, kdC_9, kdC_10, kdC_11, kdC_12, kdC_13, kdC_14, kdC_15, kdC_16, kdU_1, kdU_2, kdU_3, kdU_4, kdU_5, kdU_6, kdU_7, kdU_, kdR_1, kdR_2, kdR_3, kdR_4, kdR_5, kdR_, rC_00, rC_01, rC_02, rC_03, rC_04, rC_10, rC_16, rC_18, rC_19, rC_1a, rC_20, rC_22, rC_23, rC_24, rC_25, rC_26, rC_27, rC_28, rC_4, rC_10k, rC_u3, rC_u5, rC_u7, rC_u9, rC_ua, rC_ub, rC_uc, rC_r4, rC_r5, rC_r6, rC_r7, rC_r8, Nat.add_zero, c1]
    exact hQ1 rfl
  | m + 1, k, a, x2, hk, h1k, hQ1, hQ0 => by
    have h24 := hu.2.1
    have h120 := hb.2.1
    have c1 := hc.1
    obtain ⟨c7, c9, -⟩ := hc.2 k h1k (by omega)
    have tl := tgU_lt hb.2.2.2 k
    have tdef : tgv b (bg b 1) (offU b (bg b 1)) k = tgU b k := rfl
    have fdef : ∀ k w, ftN b (bg b 1) (offU b (bg b 1)) k w = fU b k w := fun _ _ => rfl
    unfold sCk at hQ1 hQ0
    simp only [tdef, fdef] at hQ1 hQ0
    have nxt : ∀ y2 : Int32, ¬ ((tgU b k = 7 ∧ fU b (bg b (offU b (bg b 1) k + 1)) 21 = false) ∨ (9 ≤ tgU b k ∧ fU b (bg b (offU b (bg b 1) k + 1)) 7 = false)) → ¬ (9 ≤ tgU b k ∧ fU b (bg b (offU b (bg b 1) k + 2)) 20 = false) → ax_wp kC (d + 4) mR_checkNumbers 113 [some (.ref 1), some (.int (nI k)), some (.int y2)] [] h Q := fun y2 w1 w2 => by
      rw [if_neg w1, if_neg w2] at hQ1 hQ0
      simp (disch := omega) only [sR_checkNumbers_113, sR_checkNumbers_116, ax_clr_i, ax_clr_l, ax_clr_r, ax_clr_n, ax_ct_0, ax_ct_i, ax_ct_l, ax_ct_r, va_rf_s, Option.toList_some, Option.toList_none, List.cons_append, List.nil_append, and_true, true_and, and_self, ite_true, ite_false, if_true, if_false, Nat.reduceAdd, Nat.reduceLeDiff, Nat.reduceMul, Nat.reduceLT, nI_add]
      exact mR_checkNumbers_l hr hb hc hu m (k + 1) _ _ (by omega) (by omega) hQ1 hQ0
    rw [sR_checkNumbers_2]
    simp (disch := omega) only [sR_checkNumbers_3, sR_checkNumbers_4, sR_checkNumbers_7, sR_checkNumbers_10, sR_checkNumbers_11, sR_checkNumbers_14, sR_checkNumbers_15, sR_checkNumbers_16, sR_checkNumbers_17, sR_checkNumbers_18, sR_checkNumbers_21, sR_checkNumbers_22, sR_checkNumbers_23, sR_checkNumbers_25, ax_clr_i, ax_clr_l, ax_clr_r, ax_clr_n, ax_ct_0, ax_ct_i, ax_ct_l, ax_ct_r, va_rf_s, Option.toList_some, Option.toList_none, List.cons_append, List.nil_append, and_true, true_and, and_self, ite_true, ite_false, if_true, if_false, Nat.reduceAdd, Nat.reduceLeDiff, Nat.reduceMul, Nat.reduceLT, nI_add, pk_mul, nI_lt', nI_le', nI_eq', nI_lt0, nI_ge0, nI_eq0, nI_gt0, nI_le0, nI_ne_m1, m1_ne_nI, m1_lt_nI, m1_le_nI, nI_lt_m1, nI_le_m1, nI_clamp, ax_in_nI, nI_shl, nI_shr, lg_cmp0, nx_and, nI_eq1, bI_0, bI_1, bf_or, eq_self, or_true, true_or, lt_T, le_T, lt_F, le_F, eq_F, eq_T, kdC_0, kdC_1, kdC_2, kdC_3, kdC_4, kdC_5, kdC_6, kdC_7, kdC_8, kdC_9, kdC_10, kdC_11, kdC_12, kdC_13, kdC_14, kdC_15, kdC_16, kdU_1, kdU_2, kdU_3, kdU_4, kdU_5, kdU_6, kdU_7, kdU_, kdR_1, kdR_2, kdR_3, kdR_4, kdR_5, kdR_, rC_00, rC_01, rC_02, rC_03, rC_04, rC_10, rC_16, rC_18, rC_19, rC_1a, rC_20, rC_22, rC_23, rC_24, rC_25, rC_26, rC_27, rC_28, rC_4, rC_10k, rC_u3, rC_u5, rC_u7, rC_u9, rC_ua, rC_ub, rC_uc, rC_r4, rC_r5, rC_r6, rC_r7, rC_r8, Nat.add_zero, hr, c1, c7]
    by_cases e7 : tgU b k = 7
    · have q := tgU_at hu (k := k) (by omega)
      have c9 := c9 (by omega)
      have cl : clen b (cAt b k) = 2 := by unfold clen; rw [← q.2.2.2.1, e7]; simp
      have b2 := hb.2.2.1 (cAt b k + 1) (by omega)
      have l2 := bg_lt hb.2.2.2 (cAt b k + 1)
      rw [q.2.2.1] at b2 l2 c9 cl q
      rw [if_pos e7]
      simp (disch := omega) only [sR_checkNumbers_28, sR_checkNumbers_29, sR_checkNumbers_30, sR_checkNumbers_33, sR_checkNumbers_34, sR_checkNumbers_35, sR_checkNumbers_38, ax_clr_i, ax_clr_l, ax_clr_r, ax_clr_n, ax_ct_0, ax_ct_i, ax_ct_l, ax_ct_r, va_rf_s, Option.toList_some, Option.toList_none, List.cons_append, List.nil_append, and_true, true_and, and_self, ite_true, ite_false, if_true, if_false, Nat.reduceAdd, Nat.reduceLeDiff, Nat.reduceMul, Nat.reduceLT, nI_add, pk_mul, nI_lt', nI_le', nI_eq', nI_lt0, nI_ge0, nI_eq0, nI_gt0, nI_le0, nI_ne_m1, m1_ne_nI, m1_lt_nI, m1_le_nI, nI_lt_m1, nI_le_m1, nI_clamp, ax_in_nI, nI_shl, nI_shr, lg_cmp0, nx_and, nI_eq1, bI_0, bI_1, bf_or, eq_self, or_true, true_or, lt_T, le_T, lt_F, le_F, eq_F, eq_T, kdC_0, kdC_1, kdC_2, kdC_3, kdC_4, kdC_5, kdC_6, kdC_7, kdC_8, kdC_9, kdC_10, kdC_11, kdC_12, kdC_13, kdC_14, kdC_15, kdC_16, kdU_1, kdU_2, kdU_3, kdU_4, kdU_5, kdU_6, kdU_7, kdU_, kdR_1, kdR_2, kdR_3, kdR_4, kdR_5, kdR_, rC_00, rC_01, rC_02, rC_03, rC_04, rC_10, rC_16, rC_18, rC_19, rC_1a, rC_20, rC_22, rC_23, rC_24, rC_25, rC_26, rC_27, rC_28, rC_4, rC_10k, rC_u3, rC_u5, rC_u7, rC_u9, rC_ua, rC_ub, rC_uc, rC_r4, rC_r5, rC_r6, rC_r7, rC_r8, Nat.add_zero, hr, c9, b2, mR_isName_ hr hb.2.2.2 hc hu (bg b (offU b (bg b 1) k + 1))]
      by_cases e8 : fU b (bg b (offU b (bg b 1) k + 1)) 21 = true
      · rw [if_neg (by simp [e8])]
        simp (disch := omega) only [sR_checkNumbers_47, sR_checkNumbers_48, sR_checkNumbers_51, sR_checkNumbers_52, sR_checkNumbers_53, sR_checkNumbers_55, sR_checkNumbers_58, sR_checkNumbers_59, sR_checkNumbers_62, sR_checkNumbers_63, sR_checkNumbers_64, sR_checkNumbers_66, ax_clr_i, ax_clr_l, ax_clr_r, ax_clr_n, ax_ct_0, ax_ct_i, ax_ct_l, ax_ct_r, va_rf_s, Option.toList_some, Option.toList_none, List.cons_append, List.nil_append, and_true, true_and, and_self, ite_true, ite_false, if_true, if_false, Nat.reduceAdd, Nat.reduceLeDiff, Nat.reduceMul, Nat.reduceLT, nI_add, pk_mul, nI_lt', nI_le', nI_eq', nI_lt0, nI_ge0, nI_eq0, nI_gt0, nI_le0, nI_ne_m1, m1_ne_nI, m1_lt_nI, m1_le_nI, nI_lt_m1, nI_le_m1, nI_clamp, ax_in_nI, nI_shl, nI_shr, lg_cmp0, nx_and, nI_eq1, bI_0, bI_1, bf_or, eq_self, or_true, true_or, lt_T, le_T, lt_F, le_F, eq_F, eq_T, kdC_0, kdC_1, kdC_2, kdC_3, kdC_4, kdC_5, kdC_6, kdC_7, kdC_8, kdC_9, kdC_10, kdC_11, kdC_12, kdC_13, kdC_14, kdC_15, kdC_16, kdU_1, kdU_2, kdU_3, kdU_4, kdU_5, kdU_6, kdU_7, kdU_, kdR_1, kdR_2, kdR_3, kdR_4, kdR_5, kdR_, rC_00, rC_01, rC_02, rC_03, rC_04, rC_10, rC_16, rC_18, rC_19, rC_1a, rC_20, rC_22, rC_23, rC_24, rC_25, rC_26, rC_27, rC_28, rC_4, rC_10k, rC_u3, rC_u5, rC_u7, rC_u9, rC_ua, rC_ub, rC_uc, rC_r4, rC_r5, rC_r6, rC_r7, rC_r8, Nat.add_zero, hr, c7]
        exact nxt _ (by simp [e7, e8]) (fun w => by omega)
      · rw [if_pos (bI_c e8)]
        rw [if_pos (Or.inl ⟨e7, bI_c e8⟩)] at hQ0
        simp (disch := omega) only [sR_checkNumbers_41, sR_checkNumbers_42, sR_checkNumbers_43, sR_checkNumbers_46, ax_clr_i, ax_clr_l, ax_clr_r, ax_clr_n, ax_ct_0, ax_ct_i, ax_ct_l, ax_ct_r, va_rf_s, Option.toList_some, Option.toList_none, List.cons_append, List.nil_append, and_true, true_and, and_self, ite_true, ite_false, if_true, if_false, Nat.reduceAdd, Nat.reduceLeDiff, Nat.reduceMul, Nat.reduceLT, nI_add, pk_mul, nI_lt', nI_le', nI_eq', nI_lt0, nI_ge0, nI_eq0, nI_gt0, nI_le0, nI_ne_m1, m1_ne_nI, m1_lt_nI, m1_le_nI, nI_lt_m1, nI_le_m1, nI_clamp, ax_in_nI, nI_shl, nI_shr, lg_cmp0, nx_and, nI_eq1, bI_0, bI_1, bf_or, eq_self, or_true, true_or, kdC_0, kdC_1, kdC_2, kdC_3, kdC_4, kdC_5, kdC_6, kdC_7, kdC_8, kdC_9, kdC_10, kdC_11, kdC_12, kdC_13, kdC_14, kdC_15, kdC_16, kdU_1, kdU_2, kdU_3, kdU_4, kdU_5, kdU_6, kdU_7, kdU_, kdR_1, kdR_2, kdR_3, kdR_4, kdR_5, kdR_, rC_00, rC_01, rC_02, rC_03, rC_04, rC_10, rC_16, rC_18, rC_19, rC_1a, rC_20, rC_22, rC_23, rC_24, rC_25, rC_26, rC_27, rC_28, rC_4, rC_10k, rC_u3, rC_u5, rC_u7, rC_u9, rC_ua, rC_ub, rC_uc, rC_r4, rC_r5, rC_r6, rC_r7, rC_r8, Nat.add_zero, mR_fail_]
        exact hQ0 rfl
    · rw [if_neg e7]
      simp (disch := omega) only [sR_checkNumbers_47, sR_checkNumbers_48, sR_checkNumbers_51, sR_checkNumbers_52, sR_checkNumbers_53, sR_checkNumbers_55, ax_clr_i, ax_clr_l, ax_clr_r, ax_clr_n, ax_ct_0, ax_ct_i, ax_ct_l, ax_ct_r, va_rf_s, Option.toList_some, Option.toList_none, List.cons_append, List.nil_append, and_true, true_and, and_self, ite_true, ite_false, if_true, if_false, Nat.reduceAdd, Nat.reduceLeDiff, Nat.reduceMul, Nat.reduceLT, nI_add, pk_mul, nI_lt', nI_le', nI_eq', nI_lt0, nI_ge0, nI_eq0, nI_gt0, nI_le0, nI_ne_m1, m1_ne_nI, m1_lt_nI, m1_le_nI, nI_lt_m1, nI_le_m1, nI_clamp, ax_in_nI, nI_shl, nI_shr, lg_cmp0, nx_and, nI_eq1, bI_0, bI_1, bf_or, eq_self, or_true, true_or, lt_T, le_T, lt_F, le_F, eq_F, eq_T, kdC_0, kdC_1, kdC_2, kdC_3, kdC_4, kdC_5, kdC_6, kdC_7, kdC_8, kdC_9, kdC_10, kdC_11, kdC_12, kdC_13, kdC_14, kdC_15, kdC_16, kdU_1, kdU_2, kdU_3, kdU_4, kdU_5, kdU_6, kdU_7, kdU_, kdR_1, kdR_2, kdR_3, kdR_4, kdR_5, kdR_, rC_00, rC_01, rC_02, rC_03, rC_04, rC_10, rC_16, rC_18, rC_19, rC_1a, rC_20, rC_22, rC_23, rC_24, rC_25, rC_26, rC_27, rC_28, rC_4, rC_10k, rC_u3, rC_u5, rC_u7, rC_u9, rC_ua, rC_ub, rC_uc, rC_r4, rC_r5, rC_r6, rC_r7, rC_r8, Nat.add_zero, hr, c7]
      have big : tgU b k = 9 ∨ tgU b k = 10 → ax_wp kC (d + 4) mR_checkNumbers 69 [some (.ref 1), some (.int (nI k)), some (.int (h.1 9 k))] [] h Q := fun e9 => by
        have q := tgU_at hu (k := k) (by omega)
        have c9 := c9 (by omega)
        have cl : clen b (cAt b k) = 3 := by unfold clen; rw [← q.2.2.2.1, if_neg (by omega), if_neg (by omega)]
        have b2 := hb.2.2.1 (cAt b k + 1) (by omega)
        have b3 := hb.2.2.1 (cAt b k + 2) (by omega)
        have l2 := bg_lt hb.2.2.2 (cAt b k + 1)
        have l3 := bg_lt hb.2.2.2 (cAt b k + 2)
        have tl2 := tgU_lt hb.2.2.2 (bg b (cAt b k + 1))
        rw [q.2.2.1] at b2 b3 l2 l3 c9 cl tl2 q
        simp (disch := omega) only [sR_checkNumbers_69, sR_checkNumbers_70, sR_checkNumbers_71, sR_checkNumbers_74, sR_checkNumbers_75, sR_checkNumbers_76, sR_checkNumbers_79, sR_checkNumbers_81, ax_clr_i, ax_clr_l, ax_clr_r, ax_clr_n, ax_ct_0, ax_ct_i, ax_ct_l, ax_ct_r, va_rf_s, Option.toList_some, Option.toList_none, List.cons_append, List.nil_append, and_true, true_and, and_self, ite_true, ite_false, if_true, if_false, Nat.reduceAdd, Nat.reduceLeDiff, Nat.reduceMul, Nat.reduceLT, nI_add, pk_mul, nI_lt', nI_le', nI_eq', nI_lt0, nI_ge0, nI_eq0, nI_gt0, nI_le0, nI_ne_m1, m1_ne_nI, m1_lt_nI, m1_le_nI, nI_lt_m1, nI_le_m1, nI_clamp, ax_in_nI, nI_shl, nI_shr, lg_cmp0, nx_and, nI_eq1, bI_0, bI_1, bf_or, eq_self, or_true, true_or, lt_T, le_T, lt_F, le_F, eq_F, eq_T, kdC_0, kdC_1, kdC_2, kdC_3, kdC_4, kdC_5, kdC_6, kdC_7, kdC_8, kdC_9, kdC_10, kdC_11, kdC_12, kdC_13, kdC_14, kdC_15, kdC_16, kdU_1, kdU_2, kdU_3, kdU_4, kdU_5, kdU_6, kdU_7, kdU_, kdR_1, kdR_2, kdR_3, kdR_4, kdR_5, kdR_, rC_00, rC_01, rC_02, rC_03, rC_04, rC_10, rC_16, rC_18, rC_19, rC_1a, rC_20, rC_22, rC_23, rC_24, rC_25, rC_26, rC_27, rC_28, rC_4, rC_10k, rC_u3, rC_u5, rC_u7, rC_u9, rC_ua, rC_ub, rC_uc, rC_r4, rC_r5, rC_r6, rC_r7, rC_r8, Nat.add_zero, hr, c9, b2, mR_tagOf_ hr hc hu.2.1 (bg b (offU b (bg b 1) k + 1))]
        have f7 := fU7_eq b (bg b (offU b (bg b 1) k + 1)) 7 (Or.inl rfl)
        by_cases e8 : tgU b (bg b (offU b (bg b 1) k + 1)) = 7
        · rw [if_pos e8]
          simp (disch := omega) only [sR_checkNumbers_90, sR_checkNumbers_91, sR_checkNumbers_92, sR_checkNumbers_95, sR_checkNumbers_96, sR_checkNumbers_97, sR_checkNumbers_98, sR_checkNumbers_99, sR_checkNumbers_102, ax_clr_i, ax_clr_l, ax_clr_r, ax_clr_n, ax_ct_0, ax_ct_i, ax_ct_l, ax_ct_r, va_rf_s, Option.toList_some, Option.toList_none, List.cons_append, List.nil_append, and_true, true_and, and_self, ite_true, ite_false, if_true, if_false, Nat.reduceAdd, Nat.reduceLeDiff, Nat.reduceMul, Nat.reduceLT, nI_add, pk_mul, nI_lt', nI_le', nI_eq', nI_lt0, nI_ge0, nI_eq0, nI_gt0, nI_le0, nI_ne_m1, m1_ne_nI, m1_lt_nI, m1_le_nI, nI_lt_m1, nI_le_m1, nI_clamp, ax_in_nI, nI_shl, nI_shr, lg_cmp0, nx_and, nI_eq1, bI_0, bI_1, bf_or, eq_self, or_true, true_or, lt_T, le_T, lt_F, le_F, eq_F, eq_T, kdC_0, kdC_1, kdC_2, kdC_3, kdC_4, kdC_5, kdC_6, kdC_7, kdC_8, kdC_9, kdC_10, kdC_11, kdC_12, kdC_13, kdC_14, kdC_15, kdC_16, kdU_1, kdU_2, kdU_3, kdU_4, kdU_5, kdU_6, kdU_7, kdU_, kdR_1, kdR_2, kdR_3, kdR_4, kdR_5, kdR_, rC_00, rC_01, rC_02, rC_03, rC_04, rC_10, rC_16, rC_18, rC_19, rC_1a, rC_20, rC_22, rC_23, rC_24, rC_25, rC_26, rC_27, rC_28, rC_4, rC_10k, rC_u3, rC_u5, rC_u7, rC_u9, rC_ua, rC_ub, rC_uc, rC_r4, rC_r5, rC_r6, rC_r7, rC_r8, Nat.add_zero, hr, b3, mR_isWord_ hr hb.2.2.2 hc hu (bg b (offU b (bg b 1) k + 2))]
          by_cases e10 : fU b (bg b (offU b (bg b 1) k + 2)) 20 = true
          · rw [if_neg (by simp [e10])]
            exact nxt _ (by rw [f7, decide_eq_true e8]; simp [e7]) (by simp [e10])
          · rw [if_pos (bI_c e10)]
            rw [if_neg (by rw [f7, decide_eq_true e8]; simp [e7]), if_pos ⟨by omega, bI_c e10⟩] at hQ0
            simp (disch := omega) only [sR_checkNumbers_105, sR_checkNumbers_106, sR_checkNumbers_107, sR_checkNumbers_108, sR_checkNumbers_109, sR_checkNumbers_112, ax_clr_i, ax_clr_l, ax_clr_r, ax_clr_n, ax_ct_0, ax_ct_i, ax_ct_l, ax_ct_r, va_rf_s, Option.toList_some, Option.toList_none, List.cons_append, List.nil_append, and_true, true_and, and_self, ite_true, ite_false, if_true, if_false, Nat.reduceAdd, Nat.reduceLeDiff, Nat.reduceMul, Nat.reduceLT, nI_add, pk_mul, nI_lt', nI_le', nI_eq', nI_lt0, nI_ge0, nI_eq0, nI_gt0, nI_le0, nI_ne_m1, m1_ne_nI, m1_lt_nI, m1_le_nI, nI_lt_m1, nI_le_m1, nI_clamp, ax_in_nI, nI_shl, nI_shr, lg_cmp0, nx_and, nI_eq1, bI_0, bI_1, bf_or, eq_self, or_true, true_or, kdC_0, kdC_1, kdC_2, kdC_3, kdC_4, kdC_5, kdC_6, kdC_7, kdC_8, kdC_9, kdC_10, kdC_11, kdC_12, kdC_13, kdC_14, kdC_15, kdC_16, kdU_1, kdU_2, kdU_3, kdU_4, kdU_5, kdU_6, kdU_7, kdU_, kdR_1, kdR_2, kdR_3, kdR_4, kdR_5, kdR_, rC_00, rC_01, rC_02, rC_03, rC_04, rC_10, rC_16, rC_18, rC_19, rC_1a, rC_20, rC_22, rC_23, rC_24, rC_25, rC_26, rC_27, rC_28, rC_4, rC_10k, rC_u3, rC_u5, rC_u7, rC_u9, rC_ua, rC_ub, rC_uc, rC_r4, rC_r5, rC_r6, rC_r7, rC_r8, Nat.add_zero, mR_fail_]
            exact hQ0 rfl
        · rw [if_neg e8]
          rw [if_pos (Or.inr ⟨by omega, by rw [f7, decide_eq_false e8]⟩)] at hQ0
          simp (disch := omega) only [sR_checkNumbers_84, sR_checkNumbers_85, sR_checkNumbers_86, sR_checkNumbers_89, ax_clr_i, ax_clr_l, ax_clr_r, ax_clr_n, ax_ct_0, ax_ct_i, ax_ct_l, ax_ct_r, va_rf_s, Option.toList_some, Option.toList_none, List.cons_append, List.nil_append, and_true, true_and, and_self, ite_true, ite_false, if_true, if_false, Nat.reduceAdd, Nat.reduceLeDiff, Nat.reduceMul, Nat.reduceLT, nI_add, pk_mul, nI_lt', nI_le', nI_eq', nI_lt0, nI_ge0, nI_eq0, nI_gt0, nI_le0, nI_ne_m1, m1_ne_nI, m1_lt_nI, m1_le_nI, nI_lt_m1, nI_le_m1, nI_clamp, ax_in_nI, nI_shl, nI_shr, lg_cmp0, nx_and, nI_eq1, bI_0, bI_1, bf_or, eq_self, or_true, true_or, kdC_0, kdC_1, kdC_2, kdC_3, kdC_4, kdC_5, kdC_6, kdC_7, kdC_8, kdC_9, kdC_10, kdC_11, kdC_12, kdC_13, kdC_14, kdC_15, kdC_16, kdU_1, kdU_2, kdU_3, kdU_4, kdU_5, kdU_6, kdU_7, kdU_, kdR_1, kdR_2, kdR_3, kdR_4, kdR_5, kdR_, rC_00, rC_01, rC_02, rC_03, rC_04, rC_10, rC_16, rC_18, rC_19, rC_1a, rC_20, rC_22, rC_23, rC_24, rC_25, rC_26, rC_27, rC_28, rC_4, rC_10k, rC_u3, rC_u5, rC_u7, rC_u9, rC_ua, rC_ub, rC_uc, rC_r4, rC_r5, rC_r6, rC_r7, rC_r8, Nat.add_zero, mR_fail_]
          exact hQ0 rfl
      by_cases e9 : tgU b k = 9
      · rw [if_pos e9]; exact big (Or.inl e9)
      · rw [if_neg e9]
        simp (disch := omega) only [sR_checkNumbers_58, sR_checkNumbers_59, sR_checkNumbers_62, sR_checkNumbers_63, sR_checkNumbers_64, sR_checkNumbers_66, ax_clr_i, ax_clr_l, ax_clr_r, ax_clr_n, ax_ct_0, ax_ct_i, ax_ct_l, ax_ct_r, va_rf_s, Option.toList_some, Option.toList_none, List.cons_append, List.nil_append, and_true, true_and, and_self, ite_true, ite_false, if_true, if_false, Nat.reduceAdd, Nat.reduceLeDiff, Nat.reduceMul, Nat.reduceLT, nI_add, pk_mul, nI_lt', nI_le', nI_eq', nI_lt0, nI_ge0, nI_eq0, nI_gt0, nI_le0, nI_ne_m1, m1_ne_nI, m1_lt_nI, m1_le_nI, nI_lt_m1, nI_le_m1, nI_clamp, ax_in_nI, nI_shl, nI_shr, lg_cmp0, nx_and, nI_eq1, bI_0, bI_1, bf_or, eq_self, or_true, true_or, lt_T, le_T, lt_F, le_F, eq_F, eq_T, kdC_0, kdC_1, kdC_2, kdC_3, kdC_4, kdC_5, kdC_6, kdC_7, kdC_8, kdC_9, kdC_10, kdC_11, kdC_12, kdC_13, kdC_14, kdC_15, kdC_16, kdU_1, kdU_2, kdU_3, kdU_4, kdU_5, kdU_6, kdU_7, kdU_, kdR_1, kdR_2, kdR_3, kdR_4, kdR_5, kdR_, rC_00, rC_01, rC_02, rC_03, rC_04, rC_10, rC_16, rC_18, rC_19, rC_1a, rC_20, rC_22, rC_23, rC_24, rC_25, rC_26, rC_27, rC_28, rC_4, rC_10k, rC_u3, rC_u5, rC_u7, rC_u9, rC_ua, rC_ub, rC_uc, rC_r4, rC_r5, rC_r6, rC_r7, rC_r8, Nat.add_zero, hr, c7]
        by_cases e10 : tgU b k = 10
        · rw [if_pos e10]; exact big (Or.inr e10)
        · rw [if_neg e10]
          have small : ¬ 9 ≤ tgU b k := fun w => by
            by_cases z : tgU b k = 0
            · omega
            · have q := tgU_at hu z
              have wk := hu.w.2 k (by omega)
              rcases wk with w9 | w9
              · have : tgU b k = 0 := by unfold tgU tgv; rw [if_neg (fun w => w.2.2 w9)]
                omega
              · have t := w9.2.2.2.2.1
                rw [← q.2.2.1, ← q.2.2.2.1] at t
                unfold isTg at t
                simp at t
                omega
          exact nxt _ (fun w => by rcases w with w | w; · exact e7 w.1
                                   · exact small w.1) (fun w => small w.1)
theorem mR_checkNumbers_ {h : ax_H} (hr : h.2.2 = rC o s x) (hb : bfC h b) (hc : tcC h b) (hu : cU b) (hQ1 : okK b → Q (some (.int (bI true))) h) (hQ0 : (sCk b (bg b 1) (offU b (bg b 1)) (bg b 1) 1 (hdU b)).1 = false → Q (some (.int (bI false))) (ax_upI h 1 5 (nI (sCk b (bg b 1) (offU b (bg b 1)) (bg b 1) 1 (hdU b)).2))) : ax_wp kC (d + 4) mR_checkNumbers 0 [some (.ref 1), none, none] [] h Q := by
  simp (disch := omega) only [sR_checkNumbers_0, sR_checkNumbers_1, ax_clr_i, ax_clr_l, ax_clr_r, ax_clr_n, ax_ct_0, ax_ct_i, ax_ct_l, ax_ct_r, va_rf_s, Option.toList_some, Option.toList_none, List.cons_append, List.nil_append, and_true, true_and, and_self, ite_true, ite_false, if_true, if_false, Nat.reduceAdd, Nat.reduceLeDiff, Nat.reduceMul, Nat.reduceLT]
  exact mR_checkNumbers_l hr hb hc hu (bg b 1) 1 (hdU b) _ (by omega) (by omega) (fun q => hQ1 ⟨hu, q⟩) hQ0
end RC
