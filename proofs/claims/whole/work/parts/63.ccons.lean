/-! the class: reading the constants -/
def frQ (k : Nat) (h h' : ax_H) : Prop := h'.2.2 = h.2.2 ∧ (∀ r j, ¬ (r = 1 ∧ (j = 2 ∨ j = 4 ∨ j = 5)) → ¬ ((r = 7 ∨ r = 9) ∧ j = k) → h'.1 r j = h.1 r j) ∧ ∀ r j, ¬ (r = 8 ∧ j = k) → h'.2.1 r j = h.2.1 r j
theorem frQ.rf {k : Nat} {h : ax_H} : frQ k h h := ⟨rfl, fun _ _ _ _ => rfl, fun _ _ _ => rfl⟩
theorem frQ.tr {k : Nat} {h h' h2 : ax_H} (a : frQ k h h') (b : frQ k h' h2) : frQ k h h2 := ⟨b.1.trans a.1, fun r j h1 h3 => (b.2.1 r j h1 h3).trans (a.2.1 r j h1 h3), fun r j h1 => (b.2.2 r j h1).trans (a.2.2 r j h1)⟩
theorem frT.q {k : Nat} {h h' : ax_H} (f : frT h h') : frQ k h h' := ⟨by rw [f.1], fun r j h1 _ => f.2 r j h1, fun r j _ => by rw [f.1]⟩
theorem bfC.q {k : Nat} {h h' : ax_H} {b : List Nat} (hb : bfC h b) (f : frQ k h h') : bfC h' b := ⟨by rw [f.2.1 _ _ (by omega) (by omega)]; exact hb.1, hb.2.1, fun j hj => by rw [f.2.1 _ _ (by omega) (by omega)]; exact hb.2.2.1 j hj, hb.2.2.2⟩
theorem rS.q {o : Nat → Nat} {s : Nat} {x : Option Nat} {k : Nat} {h h' : ax_H} {b : List Nat} {p q lim : Nat} (hs : rS o s x h b p lim) (f : frQ k h h') (hq : h'.1 1 2 = nI q) (hl : q < 1000) (h5 : h'.1 1 5 = -1) : rS o s x h' b q lim := ⟨by rw [f.1]; exact hs.1, hs.2.1.q f, hq, by rw [f.2.1 _ _ (by omega) (by omega)]; exact hs.2.2.2.1, hs.2.2.2.2.1, hl, h5⟩
theorem cod_in (c : Nat) : (¬ cod c = 0 ∧ cod c ≤ 53) ↔ (isLt c = true ∨ c = 46) := by
  unfold cod isLt
  by_cases a1 : 97 ≤ c ∧ c ≤ 122
  · simp [a1]; omega
  · by_cases a2 : 65 ≤ c ∧ c ≤ 90
    · simp [a1, a2]; omega
    · by_cases a3 : c = 35
      · subst a3; decide
      · by_cases a4 : c = 42
        · subst a4; decide
        · by_cases a5 : c = 46
          · subst a5; decide
          · simp [a1, a2, a3, a4, a5]
def frP (k : Nat) (h h' : ax_H) : Prop := h'.2.2 = h.2.2 ∧ (∀ r j, ¬ (r = 1 ∧ (j = 2 ∨ j = 4 ∨ j = 5)) → h'.1 r j = h.1 r j) ∧ ∀ r j, ¬ (r = 8 ∧ j = k) → h'.2.1 r j = h.2.1 r j
theorem frP.rf {k : Nat} {h : ax_H} : frP k h h := ⟨rfl, fun _ _ _ => rfl, fun _ _ _ => rfl⟩
theorem frP.tr {k : Nat} {h h' h2 : ax_H} (a : frP k h h') (b : frP k h' h2) : frP k h h2 := ⟨b.1.trans a.1, fun r j h1 => (b.2.1 r j h1).trans (a.2.1 r j h1), fun r j h1 => (b.2.2 r j h1).trans (a.2.2 r j h1)⟩
theorem frT.p {k : Nat} {h h' : ax_H} (f : frT h h') : frP k h h' := ⟨by rw [f.1], fun r j h1 => f.2 r j h1, fun r j _ => by rw [f.1]⟩
theorem frP.q {k : Nat} {h h' : ax_H} (f : frP k h h') : frQ k h h' := ⟨f.1, fun r j h1 _ => f.2.1 r j h1, f.2.2⟩
def tx (b : List Nat) (q j : Nat) : List Nat := (List.range j).map (fun i => cod (bg b (q + i)))
theorem tx_succ (b : List Nat) (q j : Nat) : tx b q (j + 1) = tx b q j ++ [cod (bg b (q + j))] := by unfold tx; rw [List.range_succ, List.map_append]; rfl
theorem tx_len (b : List Nat) (q j : Nat) : (tx b q j).length = j := by simp [tx]
section RC
variable {d : Nat} {Q : Option Value → ax_H → Prop} {o : Nat → Nat} {s : Nat} {x : Option Nat} {b : List Nat}
theorem mR_readText_l (k : Nat) (hk : k < 25) (q n : Nat) (hn : n ≤ 10) (hq : q < 500) : ∀ (m j : Nat) (h : ax_H) (x4 : Option Value), j + m = n → rS o s x h b (q + j) b.length → h.2.1 8 k = lN (pL (tx b q j)) → vT (tx b q j) → (∀ h', frP k h h' → rS o s x h' b (q + n) b.length → h'.2.1 8 k = lN (pL (tx b q n)) → (sTx b m (q + j)).1 = true → Q (some (.int (bI true))) h') → (∀ h', frP k h h' → h'.1 1 5 = nI (sTx b m (q + j)).2 → (sTx b m (q + j)).1 = false → Q (some (.int (bI false))) h') → ax_wp kC (d + 1) mR_readText 26 [some (.ref 1), some (.int (nI k)), some (.int (nI n)), some (.int (nI j)), x4] [] h Q
  | 0, j, h, x4, hj, hs, ht, hv, hQ1, hQ0 => by
    rw [sR_readText_26]
    simp (disch := omega) only [sR_readText_27, sR_readText_28, sR_readText_100, sR_readText_101, ax_clr_i, ax_clr_l, ax_clr_r, ax_clr_n, ax_ct_0, ax_ct_i, ax_ct_l, ax_ct_r, va_rf_s, Option.toList_some, Option.toList_none, List.cons_append, List.nil_append, and_true, true_and, and_self, ite_true, ite_false, if_true, if_false, Nat.reduceAdd, Nat.reduceLeDiff, Nat.reduceMul, Nat.reduceLT, nI_add, pk_mul, nI_lt', nI_le', nI_eq', nI_lt0, nI_ge0, nI_eq0, nI_gt0, nI_le0, nI_ne_m1, m1_ne_nI, m1_lt_nI, m1_le_nI, nI_lt_m1, nI_le_m1, nI_clamp, ax_in_nI, nI_shl, nI_shr, lg_cmp0, nx_and, nI_eq1, bI_0, bI_1, bf_or, eq_self, or_true, true_or, lt_T, le_T, lt_F, le_F, eq_F, eq_T]
    have e : j = n := by omega
    subst e
    exact hQ1 h frP.rf hs ht rfl
  | m + 1, j, h, x4, hj, hs, ht, hv, hQ1, hQ0 => by
    have b1 := bg_lt hs.2.1.2.2.2 (q + j)
    have hci := cod_in (bg b (q + j))
    have hc5 := cod_le (bg b (q + j))
    rw [sR_readText_26]
    simp (disch := omega) only [sR_readText_27, sR_readText_28, sR_readText_31, sR_readText_32, sR_readText_33, sR_readText_36, ax_clr_i, ax_clr_l, ax_clr_r, ax_clr_n, ax_ct_0, ax_ct_i, ax_ct_l, ax_ct_r, va_rf_s, Option.toList_some, Option.toList_none, List.cons_append, List.nil_append, and_true, true_and, and_self, ite_true, ite_false, if_true, if_false, Nat.reduceAdd, Nat.reduceLeDiff, Nat.reduceMul, Nat.reduceLT, nI_add, pk_mul, nI_lt', nI_le', nI_eq', nI_lt0, nI_ge0, nI_eq0, nI_gt0, nI_le0, nI_ne_m1, m1_ne_nI, m1_lt_nI, m1_le_nI, nI_lt_m1, nI_le_m1, nI_clamp, ax_in_nI, nI_shl, nI_shr, lg_cmp0, nx_and, nI_eq1, bI_0, bI_1, bf_or, eq_self, or_true, true_or, lt_T, le_T, lt_F, le_F, eq_F, eq_T, kdC_0, kdC_1, kdC_2, kdC_3, kdC_4, kdC_5, kdC_6, kdC_7, kdC_8, kdC_9, kdC_10, kdC_11, kdC_12, kdC_13, kdC_14, kdC_15, kdC_16, kdU_1, kdU_2, kdU_3, kdU_4, kdU_5, kdU_6, kdU_7, kdU_, kdR_1, kdR_2, kdR_3, kdR_4, kdR_5, kdR_, rC_00, rC_01, rC_02, rC_03, rC_04, rC_10, rC_16, rC_18, rC_19, rC_1a, rC_20, rC_22, rC_23, rC_24, rC_25, rC_26, rC_27, rC_28, rC_4, rC_10k, rC_u3, rC_u5, rC_u7, rC_u9, rC_ua, rC_ub, rC_uc, rC_r4, rC_r5, rC_r6, rC_r7, rC_r8, Nat.add_zero]
    unfold sTx at hQ1 hQ0
    refine mR_take_ hs 0 255 (by omega) (by omega) (fun h1 f1 s1 v1 c1 c2 c3 => ?_) (fun h1 f1 ft c => ?_)
    · have a1 := s1.2.2.1
      have hr1 := s1.1
      have t1 : h1.2.1 8 k = lN (pL (tx b q j)) := by rw [f1.1]; exact ht
      simp (disch := omega) only [sR_readText_39, sR_readText_42, sR_readText_43, sR_readText_44, sR_readText_45, sR_readText_48, sR_readText_51, sR_readText_53, sR_readText_55, sR_readText_58, sR_readText_60, sR_readText_62, ax_clr_i, ax_clr_l, ax_clr_r, ax_clr_n, ax_ct_0, ax_ct_i, ax_ct_l, ax_ct_r, va_rf_s, Option.toList_some, Option.toList_none, List.cons_append, List.nil_append, and_true, true_and, and_self, ite_true, ite_false, if_true, if_false, Nat.reduceAdd, Nat.reduceLeDiff, Nat.reduceMul, Nat.reduceLT, nI_add, pk_mul, nI_lt', nI_le', nI_eq', nI_lt0, nI_ge0, nI_eq0, nI_gt0, nI_le0, nI_ne_m1, m1_ne_nI, m1_lt_nI, m1_le_nI, nI_lt_m1, nI_le_m1, nI_clamp, ax_in_nI, nI_shl, nI_shr, lg_cmp0, nx_and, nI_eq1, bI_0, bI_1, bf_or, eq_self, or_true, true_or, kdC_0, kdC_1, kdC_2, kdC_3, kdC_4, kdC_5, kdC_6, kdC_7, kdC_8, kdC_9, kdC_10, kdC_11, kdC_12, kdC_13, kdC_14, kdC_15, kdC_16, kdU_1, kdU_2, kdU_3, kdU_4, kdU_5, kdU_6, kdU_7, kdU_, kdR_1, kdR_2, kdR_3, kdR_4, kdR_5, kdR_, rC_00, rC_01, rC_02, rC_03, rC_04, rC_10, rC_16, rC_18, rC_19, rC_1a, rC_20, rC_22, rC_23, rC_24, rC_25, rC_26, rC_27, rC_28, rC_4, rC_10k, rC_u3, rC_u5, rC_u7, rC_u9, rC_ua, rC_ub, rC_uc, rC_r4, rC_r5, rC_r6, rC_r7, rC_r8, Nat.add_zero, v1, Bool.true_eq_false, mT_codeOf_]
      have no : ¬ (¬ cod (bg b (q + j)) = 0 ∧ cod (bg b (q + j)) ≤ 53) → ax_wp kC (d + 1) mR_readText 65 [some (.ref 1), some (.int (nI k)), some (.int (nI n)), some (.int (nI j)), some (.int (nI (cod (bg b (q + j)))))] [] h1 Q := fun hn => by
        rw [hci] at hn
        rw [if_neg (fun w => hn w.2)] at hQ0
        simp (disch := omega) only [sR_readText_65, sR_readText_66, sR_readText_67, sR_readText_70, sR_readText_71, sR_readText_72, sR_readText_75, ax_clr_i, ax_clr_l, ax_clr_r, ax_clr_n, ax_ct_0, ax_ct_i, ax_ct_l, ax_ct_r, va_rf_s, Option.toList_some, Option.toList_none, List.cons_append, List.nil_append, and_true, true_and, and_self, ite_true, ite_false, if_true, if_false, Nat.reduceAdd, Nat.reduceLeDiff, Nat.reduceMul, Nat.reduceLT, nI_add, pk_mul, nI_lt', nI_le', nI_eq', nI_lt0, nI_ge0, nI_eq0, nI_gt0, nI_le0, nI_ne_m1, m1_ne_nI, m1_lt_nI, m1_le_nI, nI_lt_m1, nI_le_m1, nI_clamp, ax_in_nI, nI_shl, nI_shr, lg_cmp0, nx_and, nI_eq1, bI_0, bI_1, bf_or, eq_self, or_true, true_or, kdC_0, kdC_1, kdC_2, kdC_3, kdC_4, kdC_5, kdC_6, kdC_7, kdC_8, kdC_9, kdC_10, kdC_11, kdC_12, kdC_13, kdC_14, kdC_15, kdC_16, kdU_1, kdU_2, kdU_3, kdU_4, kdU_5, kdU_6, kdU_7, kdU_, kdR_1, kdR_2, kdR_3, kdR_4, kdR_5, kdR_, rC_00, rC_01, rC_02, rC_03, rC_04, rC_10, rC_16, rC_18, rC_19, rC_1a, rC_20, rC_22, rC_23, rC_24, rC_25, rC_26, rC_27, rC_28, rC_4, rC_10k, rC_u3, rC_u5, rC_u7, rC_u9, rC_ua, rC_ub, rC_uc, rC_r4, rC_r5, rC_r6, rC_r7, rC_r8, Nat.add_zero, a1, pk_sub, Nat.add_sub_cancel, mR_fail_]
        exact hQ0 _ (f1.p.tr (frT.up (by omega)).p) (up_at _ _ _ _) rfl
      by_cases e1 : cod (bg b (q + j)) = 0
      · rw [if_pos e1]; exact no (fun w => w.1 e1)
      · rw [if_neg e1]
        by_cases e2 : cod (bg b (q + j)) ≤ 53
        · rw [if_pos e2]
          have hin := hci.mp ⟨e1, e2⟩
          rw [if_pos ⟨c1, hin⟩] at hQ1 hQ0
          have hwc := fun (Q : Option Value → ax_H → Prop) => mT_withCode_ (ks := kC) (d := d) (h := h1) (Q := Q) (tx b q j) (cod (bg b (q + j))) hv (by rw [tx_len]; omega) (by omega)
          rw [tx_len, ← tx_succ] at hwc
          simp (disch := omega) only [sR_readText_76, sR_readText_77, sR_readText_80, sR_readText_81, sR_readText_82, sR_readText_85, sR_readText_86, sR_readText_87, sR_readText_88, sR_readText_90, sR_readText_93, sR_readText_94, sR_readText_97, ax_clr_i, ax_clr_l, ax_clr_r, ax_clr_n, ax_ct_0, ax_ct_i, ax_ct_l, ax_ct_r, va_rf_s, Option.toList_some, Option.toList_none, List.cons_append, List.nil_append, and_true, true_and, and_self, ite_true, ite_false, if_true, if_false, Nat.reduceAdd, Nat.reduceLeDiff, Nat.reduceMul, Nat.reduceLT, nI_add, pk_mul, nI_lt', nI_le', nI_eq', nI_lt0, nI_ge0, nI_eq0, nI_gt0, nI_le0, nI_ne_m1, m1_ne_nI, m1_lt_nI, m1_le_nI, nI_lt_m1, nI_le_m1, nI_clamp, ax_in_nI, nI_shl, nI_shr, lg_cmp0, nx_and, nI_eq1, bI_0, bI_1, bf_or, eq_self, or_true, true_or, lt_T, le_T, lt_F, le_F, eq_F, eq_T, kdC_0, kdC_1, kdC_2, kdC_3, kdC_4, kdC_5, kdC_6, kdC_7, kdC_8, kdC_9, kdC_10, kdC_11, kdC_12, kdC_13, kdC_14, kdC_15, kdC_16, kdU_1, kdU_2, kdU_3, kdU_4, kdU_5, kdU_6, kdU_7, kdU_, kdR_1, kdR_2, kdR_3, kdR_4, kdR_5, kdR_, rC_00, rC_01, rC_02, rC_03, rC_04, rC_10, rC_16, rC_18, rC_19, rC_1a, rC_20, rC_22, rC_23, rC_24, rC_25, rC_26, rC_27, rC_28, rC_4, rC_10k, rC_u3, rC_u5, rC_u7, rC_u9, rC_ua, rC_ub, rC_uc, rC_r4, rC_r5, rC_r6, rC_r7, rC_r8, Nat.add_zero, hr1, t1, hwc]
          have f2 : frP k h1 (ax_upL h1 8 k (lN (pL (tx b q (j + 1))))) := ⟨rfl, fun r i _ => rfl, fun r i w => by rw [up_L, if_neg w]⟩
          have s2 : rS o s x (ax_upL h1 8 k (lN (pL (tx b q (j + 1))))) b (q + (j + 1)) b.length := s1.q f2.q (by rw [up_L1]; exact a1) (by omega) (by rw [up_L1]; exact s1.2.2.2.2.2.2)
          refine mR_readText_l k hk q n hn hq m (j + 1) _ _ (by omega) s2 (by simp [up_L]) ?_ (fun h' f w1 w2 w3 => hQ1 h' ((f1.p.tr f2).tr f) w1 w2 w3) (fun h' f w1 w2 => hQ0 h' ((f1.p.tr f2).tr f) w1 w2)
          refine ⟨by rw [tx_len]; omega, fun c hc => ?_⟩
          rw [tx_succ] at hc
          rcases List.mem_append.mp hc with w | w
          · exact hv.2 c w
          · simp at w; omega
        · rw [if_neg e2]; exact no (fun w => e2 w.2)
    · rw [if_neg (fun w => c ⟨w.1, by omega, by omega⟩)] at hQ0
      simp (disch := omega) only [sR_readText_39, sR_readText_42, sR_readText_43, ax_clr_i, ax_clr_l, ax_clr_r, ax_clr_n, ax_ct_0, ax_ct_i, ax_ct_l, ax_ct_r, va_rf_s, Option.toList_some, Option.toList_none, List.cons_append, List.nil_append, and_true, true_and, and_self, ite_true, ite_false, if_true, if_false, Nat.reduceAdd, Nat.reduceLeDiff, Nat.reduceMul, Nat.reduceLT, nI_add, pk_mul, nI_lt', nI_le', nI_eq', nI_lt0, nI_ge0, nI_eq0, nI_gt0, nI_le0, nI_ne_m1, m1_ne_nI, m1_lt_nI, m1_le_nI, nI_lt_m1, nI_le_m1, nI_clamp, ax_in_nI, nI_shl, nI_shr, lg_cmp0, nx_and, nI_eq1, bI_0, bI_1, bf_or, eq_self, or_true, true_or]
      exact hQ0 h1 f1.p ft rfl
theorem mR_readText_ {h : ax_H} (k : Nat) (hk : k < 25) (p : Nat) (hp : p < 400) (hs : rS o s x h b (p + 1) b.length) (hQ1 : ∀ h', frP k h h' → rS o s x h' b (p + 2 + bg b (p + 1)) b.length → h'.2.1 8 k = lN (pL (txt b p)) → (p + 1 < b.length ∧ 1 ≤ bg b (p + 1) ∧ bg b (p + 1) ≤ 10) → (sTx b (bg b (p + 1)) (p + 2)).1 = true → Q (some (.int (bI true))) h') (hQ0 : ∀ h', frP k h h' → h'.1 1 5 = nI (if p + 1 < b.length ∧ 1 ≤ bg b (p + 1) ∧ bg b (p + 1) ≤ 10 then sTx b (bg b (p + 1)) (p + 2) else (false, p + 1)).2 → (if p + 1 < b.length ∧ 1 ≤ bg b (p + 1) ∧ bg b (p + 1) ≤ 10 then sTx b (bg b (p + 1)) (p + 2) else (false, p + 1)).1 = false → Q (some (.int (bI false))) h') : ax_wp kC (d + 1) mR_readText 0 [some (.ref 1), some (.int (nI k)), none, none, none] [] h Q := by
  simp (disch := omega) only [sR_readText_0, sR_readText_1, sR_readText_2, sR_readText_4, ax_clr_i, ax_clr_l, ax_clr_r, ax_clr_n, ax_ct_0, ax_ct_i, ax_ct_l, ax_ct_r, va_rf_s, Option.toList_some, Option.toList_none, List.cons_append, List.nil_append, and_true, true_and, and_self, ite_true, ite_false, if_true, if_false, Nat.reduceAdd, Nat.reduceLeDiff, Nat.reduceMul, Nat.reduceLT, kdC_0, kdC_1, kdC_2, kdC_3, kdC_4, kdC_5, kdC_6, kdC_7, kdC_8, kdC_9, kdC_10, kdC_11, kdC_12, kdC_13, kdC_14, kdC_15, kdC_16, kdU_1, kdU_2, kdU_3, kdU_4, kdU_5, kdU_6, kdU_7, kdU_, kdR_1, kdR_2, kdR_3, kdR_4, kdR_5, kdR_, rC_00, rC_01, rC_02, rC_03, rC_04, rC_10, rC_16, rC_18, rC_19, rC_1a, rC_20, rC_22, rC_23, rC_24, rC_25, rC_26, rC_27, rC_28, rC_4, rC_10k, rC_u3, rC_u5, rC_u7, rC_u9, rC_ua, rC_ub, rC_uc, rC_r4, rC_r5, rC_r6, rC_r7, rC_r8, Nat.add_zero]
  refine mR_take_ hs 1 10 (by omega) (by omega) (fun h1 f1 s1 v1 c1 c2 c3 => ?_) (fun h1 f1 ft c => ?_)
  · have hr1 := s1.1
    rw [if_pos ⟨c1, c2, c3⟩] at hQ0
    simp (disch := omega) only [sR_readText_7, sR_readText_10, sR_readText_11, sR_readText_12, sR_readText_13, sR_readText_16, sR_readText_17, sR_readText_18, sR_readText_21, sR_readText_22, sR_readText_23, sR_readText_24, sR_readText_25, ax_clr_i, ax_clr_l, ax_clr_r, ax_clr_n, ax_ct_0, ax_ct_i, ax_ct_l, ax_ct_r, va_rf_s, Option.toList_some, Option.toList_none, List.cons_append, List.nil_append, and_true, true_and, and_self, ite_true, ite_false, if_true, if_false, Nat.reduceAdd, Nat.reduceLeDiff, Nat.reduceMul, Nat.reduceLT, nI_add, pk_mul, nI_lt', nI_le', nI_eq', nI_lt0, nI_ge0, nI_eq0, nI_gt0, nI_le0, nI_ne_m1, m1_ne_nI, m1_lt_nI, m1_le_nI, nI_lt_m1, nI_le_m1, nI_clamp, ax_in_nI, nI_shl, nI_shr, lg_cmp0, nx_and, nI_eq1, bI_0, bI_1, bf_or, eq_self, or_true, true_or, lt_T, le_T, lt_F, le_F, eq_F, eq_T, kdC_0, kdC_1, kdC_2, kdC_3, kdC_4, kdC_5, kdC_6, kdC_7, kdC_8, kdC_9, kdC_10, kdC_11, kdC_12, kdC_13, kdC_14, kdC_15, kdC_16, kdU_1, kdU_2, kdU_3, kdU_4, kdU_5, kdU_6, kdU_7, kdU_, kdR_1, kdR_2, kdR_3, kdR_4, kdR_5, kdR_, rC_00, rC_01, rC_02, rC_03, rC_04, rC_10, rC_16, rC_18, rC_19, rC_1a, rC_20, rC_22, rC_23, rC_24, rC_25, rC_26, rC_27, rC_28, rC_4, rC_10k, rC_u3, rC_u5, rC_u7, rC_u9, rC_ua, rC_ub, rC_uc, rC_r4, rC_r5, rC_r6, rC_r7, rC_r8, Nat.add_zero, hr1, v1, Bool.true_eq_false, lN_0]
    have f2 : frP k h1 (ax_upL h1 8 k (lN 0)) := ⟨rfl, fun r i _ => rfl, fun r i w => by rw [up_L, if_neg w]⟩
    have s2 : rS o s x (ax_upL h1 8 k (lN 0)) b (p + 2 + 0) b.length := s1.q f2.q (by rw [up_L1]; exact s1.2.2.1) (by omega) (by rw [up_L1]; exact s1.2.2.2.2.2.2)
    refine mR_readText_l k hk (p + 2) (bg b (p + 1)) c3 (by omega) (bg b (p + 1)) 0 _ _ (by omega) s2 (by simp [up_L, tx, pL]) (by simp [tx]; exact vT_nil) (fun h' f w1 w2 w3 => hQ1 h' ((f1.p.tr f2).tr f) w1 w2 ⟨c1, c2, c3⟩ w3) (fun h' f w1 w2 => hQ0 h' ((f1.p.tr f2).tr f) w1 w2)
  · rw [if_neg c] at hQ0
    simp (disch := omega) only [sR_readText_7, sR_readText_10, sR_readText_11, ax_clr_i, ax_clr_l, ax_clr_r, ax_clr_n, ax_ct_0, ax_ct_i, ax_ct_l, ax_ct_r, va_rf_s, Option.toList_some, Option.toList_none, List.cons_append, List.nil_append, and_true, true_and, and_self, ite_true, ite_false, if_true, if_false, Nat.reduceAdd, Nat.reduceLeDiff, Nat.reduceMul, Nat.reduceLT, nI_add, pk_mul, nI_lt', nI_le', nI_eq', nI_lt0, nI_ge0, nI_eq0, nI_gt0, nI_le0, nI_ne_m1, m1_ne_nI, m1_lt_nI, m1_le_nI, nI_lt_m1, nI_le_m1, nI_clamp, ax_in_nI, nI_shl, nI_shr, lg_cmp0, nx_and, nI_eq1, bI_0, bI_1, bf_or, eq_self, or_true, true_or]
    exact hQ0 h1 f1.p ft rfl
theorem sCo_1 {b : List Nat} {last : Bool} {p : Nat} (h1 : p < b.length) (h2 : bg b p = 1) : sCo b last p = if p + 1 < b.length ∧ 1 ≤ bg b (p + 1) ∧ bg b (p + 1) ≤ 10 then sTx b (bg b (p + 1)) (p + 2) else (false, p + 1) := by
  unfold sCo tgOk isTg
  rw [h2]; simp [h1]
theorem sCo_2 {b : List Nat} {last : Bool} {p : Nat} (h1 : p < b.length) (h2 : bg b p = 7 ∨ bg b p = 9 ∨ bg b p = 10 ∨ (bg b p = 3 ∧ last = false)) : sCo b last p = sBy b (if bg b p = 7 then 1 else 2) (p + 1) := by
  unfold sCo tgOk isTg
  rcases h2 with q | q | q | ⟨q, r⟩
  · rw [q]; simp [h1]
  · rw [q]; simp [h1]
  · rw [q]; simp [h1]
  · rw [q, r]; simp [h1]
theorem sCo_0 {b : List Nat} {last : Bool} {p : Nat} (h : tgOk b last p = false) : sCo b last p = (false, p) := by unfold sCo; rw [if_pos h]
theorem mR_readConstant_ {h : ax_H} (k n : Nat) (hk : k < 25) (hn : h.1 1 7 = nI n) (hkn : k ≤ n) (hn24 : n ≤ 24) (p : Nat) (hp : p < 400) (hs : rS o s x h b p b.length) (hQ1 : ∀ h', frQ k h h' → rS o s x h' b (p + clen b p) b.length → h'.1 7 k = nI (bg b p) → h'.1 9 k = nI (p + 1) → (bg b p = 1 → h'.2.1 8 k = lN (pL (txt b p))) → (sCo b (decide (k = n)) p).1 = true → Q (some (.int (bI true))) h') (hQ0 : ∀ h', frQ k h h' → h'.1 1 5 = nI (sCo b (decide (k = n)) p).2 → (sCo b (decide (k = n)) p).1 = false → Q (some (.int (bI false))) h') : ax_wp kC (d + 2) mR_readConstant 0 [some (.ref 1), some (.int (nI k))] [] h Q := by
  have b1 := bg_lt hs.2.1.2.2.2 p
  simp (disch := omega) only [sR_readConstant_0, sR_readConstant_1, sR_readConstant_2, sR_readConstant_5, ax_clr_i, ax_clr_l, ax_clr_r, ax_clr_n, ax_ct_0, ax_ct_i, ax_ct_l, ax_ct_r, va_rf_s, Option.toList_some, Option.toList_none, List.cons_append, List.nil_append, and_true, true_and, and_self, ite_true, ite_false, if_true, if_false, Nat.reduceAdd, Nat.reduceLeDiff, Nat.reduceMul, Nat.reduceLT, kdC_0, kdC_1, kdC_2, kdC_3, kdC_4, kdC_5, kdC_6, kdC_7, kdC_8, kdC_9, kdC_10, kdC_11, kdC_12, kdC_13, kdC_14, kdC_15, kdC_16, kdU_1, kdU_2, kdU_3, kdU_4, kdU_5, kdU_6, kdU_7, kdU_, kdR_1, kdR_2, kdR_3, kdR_4, kdR_5, kdR_, rC_00, rC_01, rC_02, rC_03, rC_04, rC_10, rC_16, rC_18, rC_19, rC_1a, rC_20, rC_22, rC_23, rC_24, rC_25, rC_26, rC_27, rC_28, rC_4, rC_10k, rC_u3, rC_u5, rC_u7, rC_u9, rC_ua, rC_ub, rC_uc, rC_r4, rC_r5, rC_r6, rC_r7, rC_r8, Nat.add_zero]
  refine mR_take_ hs 0 255 (by omega) (by omega) (fun h1 f1 s1 v1 c1 c2 c3 => ?_) (fun h1 f1 ft c => ?_)
  · have hr1 := s1.1
    have a1 := s1.2.2.1
    simp (disch := omega) only [sR_readConstant_8, sR_readConstant_11, sR_readConstant_12, sR_readConstant_13, sR_readConstant_14, sR_readConstant_17, sR_readConstant_18, sR_readConstant_19, sR_readConstant_22, sR_readConstant_23, sR_readConstant_24, sR_readConstant_27, sR_readConstant_28, sR_readConstant_29, sR_readConstant_32, sR_readConstant_33, sR_readConstant_34, ax_clr_i, ax_clr_l, ax_clr_r, ax_clr_n, ax_ct_0, ax_ct_i, ax_ct_l, ax_ct_r, va_rf_s, Option.toList_some, Option.toList_none, List.cons_append, List.nil_append, and_true, true_and, and_self, ite_true, ite_false, if_true, if_false, Nat.reduceAdd, Nat.reduceLeDiff, Nat.reduceMul, Nat.reduceLT, nI_add, pk_mul, nI_lt', nI_le', nI_eq', nI_lt0, nI_ge0, nI_eq0, nI_gt0, nI_le0, nI_ne_m1, m1_ne_nI, m1_lt_nI, m1_le_nI, nI_lt_m1, nI_le_m1, nI_clamp, ax_in_nI, nI_shl, nI_shr, lg_cmp0, nx_and, nI_eq1, bI_0, bI_1, bf_or, eq_self, or_true, true_or, lt_T, le_T, lt_F, le_F, eq_F, eq_T, kdC_0, kdC_1, kdC_2, kdC_3, kdC_4, kdC_5, kdC_6, kdC_7, kdC_8, kdC_9, kdC_10, kdC_11, kdC_12, kdC_13, kdC_14, kdC_15, kdC_16, kdU_1, kdU_2, kdU_3, kdU_4, kdU_5, kdU_6, kdU_7, kdU_, kdR_1, kdR_2, kdR_3, kdR_4, kdR_5, kdR_, rC_00, rC_01, rC_02, rC_03, rC_04, rC_10, rC_16, rC_18, rC_19, rC_1a, rC_20, rC_22, rC_23, rC_24, rC_25, rC_26, rC_27, rC_28, rC_4, rC_10k, rC_u3, rC_u5, rC_u7, rC_u9, rC_ua, rC_ub, rC_uc, rC_r4, rC_r5, rC_r6, rC_r7, rC_r8, Nat.add_zero, hr1, v1, a1, up_I, up_I2, Nat.reduceEqDiff, and_false, false_and, reduceIte, Bool.true_eq_false]
    generalize hh2 : ax_upI (ax_upI h1 7 k (nI (bg b p))) 9 k (nI (p + 1)) = h2
    have f2 : frQ k h1 h2 := by
      rw [← hh2]
      exact ⟨rfl, fun r i w1 w2 => by simp only [up_I]; rw [if_neg (fun w => w2 ⟨Or.inr w.1, w.2⟩), if_neg (fun w => w2 ⟨Or.inl w.1, w.2⟩)], fun r i w => rfl⟩
    have f12 : frQ k h h2 := f1.q.tr f2
    have s2 : rS o s x h2 b (p + 1) b.length := s1.q f2 (by rw [← hh2]; simp [up_I]; exact a1) (by omega) (by rw [← hh2]; simp [up_I]; exact s1.2.2.2.2.2.2)
    have t7 : h2.1 7 k = nI (bg b p) := by rw [← hh2]; simp [up_I]
    have t9 : h2.1 9 k = nI (p + 1) := by rw [← hh2]; simp [up_I]
    have n2 : h2.1 1 7 = nI n := by rw [f12.2.1 _ _ (by omega) (by omega)]; exact hn
    have a2 := s2.2.2.1
    -- what a fault here comes to
    have bad : tgOk b (decide (k = n)) p = false → ∀ h', frQ k h h' → Q (some (.int (bI false))) (ax_upI h' 1 5 (nI p)) := fun ht h' f => by
      rw [sCo_0 ht] at hQ0
      exact hQ0 _ (f.tr (frT.up (by omega)).q) (up_at _ _ _ _) rfl
    have two : bg b p = 9 ∨ bg b p = 10 ∨ (bg b p = 3 ∧ ¬ k = n) → sCo b (decide (k = n)) p = sBy b 2 (p + 1) ∧ clen b p = 3 := fun w => by
      constructor
      · rw [sCo_2 c1 (by rcases w with w | w | w; · omega
                         · omega
                         · exact Or.inr (Or.inr (Or.inr ⟨w.1, decide_eq_false w.2⟩))), if_neg (by omega)]
      · unfold clen; rw [if_neg (by omega), if_neg (by omega)]
    have cp : ∀ {j : Nat}, bg b p = j → nI (bg b p) = nI j := fun q => by rw [q]
    have cn : ∀ {j : Nat}, ¬ bg b p = j → j < 100 → ¬ nI (bg b p) = nI j := fun q hj w => q (by rw [nI_eq' (by omega) (by omega)] at w; exact w)
    rw [sR_readConstant_37]
    by_cases t1 : bg b p = 1
    · rw [if_pos (cp t1)]
      simp (disch := omega) only [sR_readConstant_92, sR_readConstant_93, sR_readConstant_94, ax_clr_i, ax_clr_l, ax_clr_r, ax_clr_n, ax_ct_0, ax_ct_i, ax_ct_l, ax_ct_r, va_rf_s, Option.toList_some, Option.toList_none, List.cons_append, List.nil_append, and_true, true_and, and_self, ite_true, ite_false, if_true, if_false, Nat.reduceAdd, Nat.reduceLeDiff, Nat.reduceMul, Nat.reduceLT, kdC_0, kdC_1, kdC_2, kdC_3, kdC_4, kdC_5, kdC_6, kdC_7, kdC_8, kdC_9, kdC_10, kdC_11, kdC_12, kdC_13, kdC_14, kdC_15, kdC_16, kdU_1, kdU_2, kdU_3, kdU_4, kdU_5, kdU_6, kdU_7, kdU_, kdR_1, kdR_2, kdR_3, kdR_4, kdR_5, kdR_, rC_00, rC_01, rC_02, rC_03, rC_04, rC_10, rC_16, rC_18, rC_19, rC_1a, rC_20, rC_22, rC_23, rC_24, rC_25, rC_26, rC_27, rC_28, rC_4, rC_10k, rC_u3, rC_u5, rC_u7, rC_u9, rC_ua, rC_ub, rC_uc, rC_r4, rC_r5, rC_r6, rC_r7, rC_r8, Nat.add_zero]
      have hsc := sCo_1 (last := decide (k = n)) c1 t1
      have cl : clen b p = 2 + bg b (p + 1) := by unfold clen; rw [if_pos t1]
      refine mR_readText_ k hk p hp s2 (fun h3 f3 s3 x3 w1 w2 => ?_) (fun h3 f3 ft3 w => ?_)
      · simp (disch := omega) only [sR_readConstant_97, ax_clr_i, ax_clr_l, ax_clr_r, ax_clr_n, ax_ct_0, ax_ct_i, ax_ct_l, ax_ct_r, va_rf_s, Option.toList_some, Option.toList_none, List.cons_append, List.nil_append, and_true, true_and, and_self, ite_true, ite_false, if_true, if_false, Nat.reduceAdd, Nat.reduceLeDiff, Nat.reduceMul, Nat.reduceLT, nI_add, pk_mul, nI_lt', nI_le', nI_eq', nI_lt0, nI_ge0, nI_eq0, nI_gt0, nI_le0, nI_ne_m1, m1_ne_nI, m1_lt_nI, m1_le_nI, nI_lt_m1, nI_le_m1, nI_clamp, ax_in_nI, nI_shl, nI_shr, lg_cmp0, nx_and, nI_eq1, bI_0, bI_1, bf_or, eq_self, or_true, true_or]
        exact hQ1 h3 (f12.tr f3.q) (by rw [cl, ← Nat.add_assoc]; exact s3) (by rw [f3.2.1 _ _ (by omega)]; exact t7) (by rw [f3.2.1 _ _ (by omega)]; exact t9) (fun _ => x3) (by rw [hsc, if_pos w1]; exact w2)
      · simp (disch := omega) only [sR_readConstant_97, ax_clr_i, ax_clr_l, ax_clr_r, ax_clr_n, ax_ct_0, ax_ct_i, ax_ct_l, ax_ct_r, va_rf_s, Option.toList_some, Option.toList_none, List.cons_append, List.nil_append, and_true, true_and, and_self, ite_true, ite_false, if_true, if_false, Nat.reduceAdd, Nat.reduceLeDiff, Nat.reduceMul, Nat.reduceLT, nI_add, pk_mul, nI_lt', nI_le', nI_eq', nI_lt0, nI_ge0, nI_eq0, nI_gt0, nI_le0, nI_ne_m1, m1_ne_nI, m1_lt_nI, m1_le_nI, nI_lt_m1, nI_le_m1, nI_clamp, ax_in_nI, nI_shl, nI_shr, lg_cmp0, nx_and, nI_eq1, bI_0, bI_1, bf_or, eq_self, or_true, true_or]
        rw [← hsc] at ft3 w
        exact hQ0 h3 (f12.tr f3.q) ft3 w
    · rw [if_neg (cn t1 (by omega))]
      have bad184 : tgOk b (decide (k = n)) p = false → ax_wp kC (d + 2) mR_readConstant 184 [some (.ref 1), some (.int (nI k))] [] h2 Q := fun ht => by
        simp (disch := omega) only [sR_readConstant_184, sR_readConstant_185, sR_readConstant_186, sR_readConstant_189, sR_readConstant_190, sR_readConstant_191, sR_readConstant_194, ax_clr_i, ax_clr_l, ax_clr_r, ax_clr_n, ax_ct_0, ax_ct_i, ax_ct_l, ax_ct_r, va_rf_s, Option.toList_some, Option.toList_none, List.cons_append, List.nil_append, and_true, true_and, and_self, ite_true, ite_false, if_true, if_false, Nat.reduceAdd, Nat.reduceLeDiff, Nat.reduceMul, Nat.reduceLT, nI_add, pk_mul, nI_lt', nI_le', nI_eq', nI_lt0, nI_ge0, nI_eq0, nI_gt0, nI_le0, nI_ne_m1, m1_ne_nI, m1_lt_nI, m1_le_nI, nI_lt_m1, nI_le_m1, nI_clamp, ax_in_nI, nI_shl, nI_shr, lg_cmp0, nx_and, nI_eq1, bI_0, bI_1, bf_or, eq_self, or_true, true_or, kdC_0, kdC_1, kdC_2, kdC_3, kdC_4, kdC_5, kdC_6, kdC_7, kdC_8, kdC_9, kdC_10, kdC_11, kdC_12, kdC_13, kdC_14, kdC_15, kdC_16, kdU_1, kdU_2, kdU_3, kdU_4, kdU_5, kdU_6, kdU_7, kdU_, kdR_1, kdR_2, kdR_3, kdR_4, kdR_5, kdR_, rC_00, rC_01, rC_02, rC_03, rC_04, rC_10, rC_16, rC_18, rC_19, rC_1a, rC_20, rC_22, rC_23, rC_24, rC_25, rC_26, rC_27, rC_28, rC_4, rC_10k, rC_u3, rC_u5, rC_u7, rC_u9, rC_ua, rC_ub, rC_uc, rC_r4, rC_r5, rC_r6, rC_r7, rC_r8, Nat.add_zero, a2, pk_sub, Nat.add_sub_cancel, mR_fail_]
        exact bad ht h2 f12
      have tgF : ¬ (bg b p = 3 ∨ bg b p = 7 ∨ bg b p = 9 ∨ bg b p = 10) → tgOk b (decide (k = n)) p = false := fun w => by
        unfold tgOk isTg
        rw [decide_eq_false (p := bg b p = 1 ∨ bg b p = 3 ∨ bg b p = 7 ∨ bg b p = 9 ∨ bg b p = 10) (by omega)]; simp
      by_cases t3 : bg b p = 3
      · rw [if_neg (cn (by omega) (by omega)), if_pos (cp t3)]
        simp (disch := omega) only [sR_readConstant_98, sR_readConstant_99, sR_readConstant_100, sR_readConstant_103, ax_clr_i, ax_clr_l, ax_clr_r, ax_clr_n, ax_ct_0, ax_ct_i, ax_ct_l, ax_ct_r, va_rf_s, Option.toList_some, Option.toList_none, List.cons_append, List.nil_append, and_true, true_and, and_self, ite_true, ite_false, if_true, if_false, Nat.reduceAdd, Nat.reduceLeDiff, Nat.reduceMul, Nat.reduceLT, nI_add, pk_mul, nI_lt', nI_le', nI_eq', nI_lt0, nI_ge0, nI_eq0, nI_gt0, nI_le0, nI_ne_m1, m1_ne_nI, m1_lt_nI, m1_le_nI, nI_lt_m1, nI_le_m1, nI_clamp, ax_in_nI, nI_shl, nI_shr, lg_cmp0, nx_and, nI_eq1, bI_0, bI_1, bf_or, eq_self, or_true, true_or, kdC_0, kdC_1, kdC_2, kdC_3, kdC_4, kdC_5, kdC_6, kdC_7, kdC_8, kdC_9, kdC_10, kdC_11, kdC_12, kdC_13, kdC_14, kdC_15, kdC_16, kdU_1, kdU_2, kdU_3, kdU_4, kdU_5, kdU_6, kdU_7, kdU_, kdR_1, kdR_2, kdR_3, kdR_4, kdR_5, kdR_, rC_00, rC_01, rC_02, rC_03, rC_04, rC_10, rC_16, rC_18, rC_19, rC_1a, rC_20, rC_22, rC_23, rC_24, rC_25, rC_26, rC_27, rC_28, rC_4, rC_10k, rC_u3, rC_u5, rC_u7, rC_u9, rC_ua, rC_ub, rC_uc, rC_r4, rC_r5, rC_r6, rC_r7, rC_r8, Nat.add_zero, n2]
        by_cases e : k = n
        · rw [if_pos e]
          simp (disch := omega) only [sR_readConstant_106, sR_readConstant_107, sR_readConstant_108, sR_readConstant_111, sR_readConstant_112, sR_readConstant_113, sR_readConstant_116, sR_readConstant_146, ax_clr_i, ax_clr_l, ax_clr_r, ax_clr_n, ax_ct_0, ax_ct_i, ax_ct_l, ax_ct_r, va_rf_s, Option.toList_some, Option.toList_none, List.cons_append, List.nil_append, and_true, true_and, and_self, ite_true, ite_false, if_true, if_false, Nat.reduceAdd, Nat.reduceLeDiff, Nat.reduceMul, Nat.reduceLT, nI_add, pk_mul, nI_lt', nI_le', nI_eq', nI_lt0, nI_ge0, nI_eq0, nI_gt0, nI_le0, nI_ne_m1, m1_ne_nI, m1_lt_nI, m1_le_nI, nI_lt_m1, nI_le_m1, nI_clamp, ax_in_nI, nI_shl, nI_shr, lg_cmp0, nx_and, nI_eq1, bI_0, bI_1, bf_or, eq_self, or_true, true_or, kdC_0, kdC_1, kdC_2, kdC_3, kdC_4, kdC_5, kdC_6, kdC_7, kdC_8, kdC_9, kdC_10, kdC_11, kdC_12, kdC_13, kdC_14, kdC_15, kdC_16, kdU_1, kdU_2, kdU_3, kdU_4, kdU_5, kdU_6, kdU_7, kdU_, kdR_1, kdR_2, kdR_3, kdR_4, kdR_5, kdR_, rC_00, rC_01, rC_02, rC_03, rC_04, rC_10, rC_16, rC_18, rC_19, rC_1a, rC_20, rC_22, rC_23, rC_24, rC_25, rC_26, rC_27, rC_28, rC_4, rC_10k, rC_u3, rC_u5, rC_u7, rC_u9, rC_ua, rC_ub, rC_uc, rC_r4, rC_r5, rC_r6, rC_r7, rC_r8, Nat.add_zero, a2, pk_sub, Nat.add_sub_cancel, mR_fail_]
          exact bad (by unfold tgOk; rw [decide_eq_true t3, decide_eq_true e]; simp) h2 f12
        · rw [if_neg e]
          obtain ⟨g1, g2⟩ := two (Or.inr (Or.inr ⟨t3, e⟩))
          rw [g1] at hQ1 hQ0
          rw [g2] at hQ1
          unfold sBy at hQ1 hQ0
          simp (disch := omega) only [sR_readConstant_119, sR_readConstant_120, sR_readConstant_121, sR_readConstant_124, ax_clr_i, ax_clr_l, ax_clr_r, ax_clr_n, ax_ct_0, ax_ct_i, ax_ct_l, ax_ct_r, va_rf_s, Option.toList_some, Option.toList_none, List.cons_append, List.nil_append, and_true, true_and, and_self, ite_true, ite_false, if_true, if_false, Nat.reduceAdd, Nat.reduceLeDiff, Nat.reduceMul, Nat.reduceLT, kdC_0, kdC_1, kdC_2, kdC_3, kdC_4, kdC_5, kdC_6, kdC_7, kdC_8, kdC_9, kdC_10, kdC_11, kdC_12, kdC_13, kdC_14, kdC_15, kdC_16, kdU_1, kdU_2, kdU_3, kdU_4, kdU_5, kdU_6, kdU_7, kdU_, kdR_1, kdR_2, kdR_3, kdR_4, kdR_5, kdR_, rC_00, rC_01, rC_02, rC_03, rC_04, rC_10, rC_16, rC_18, rC_19, rC_1a, rC_20, rC_22, rC_23, rC_24, rC_25, rC_26, rC_27, rC_28, rC_4, rC_10k, rC_u3, rC_u5, rC_u7, rC_u9, rC_ua, rC_ub, rC_uc, rC_r4, rC_r5, rC_r6, rC_r7, rC_r8, Nat.add_zero]
          refine mR_take_ s2 0 255 (by omega) (by omega) (fun h3 f3 s3 v3 w1 w2 w3 => ?_) (fun h3 f3 ft3 w => ?_)
          · rw [if_pos w1] at hQ1 hQ0
            unfold sBy at hQ1 hQ0
            simp (disch := omega) only [sR_readConstant_127, sR_readConstant_130, sR_readConstant_131, sR_readConstant_132, sR_readConstant_135, ax_clr_i, ax_clr_l, ax_clr_r, ax_clr_n, ax_ct_0, ax_ct_i, ax_ct_l, ax_ct_r, va_rf_s, Option.toList_some, Option.toList_none, List.cons_append, List.nil_append, and_true, true_and, and_self, ite_true, ite_false, if_true, if_false, Nat.reduceAdd, Nat.reduceLeDiff, Nat.reduceMul, Nat.reduceLT, kdC_0, kdC_1, kdC_2, kdC_3, kdC_4, kdC_5, kdC_6, kdC_7, kdC_8, kdC_9, kdC_10, kdC_11, kdC_12, kdC_13, kdC_14, kdC_15, kdC_16, kdU_1, kdU_2, kdU_3, kdU_4, kdU_5, kdU_6, kdU_7, kdU_, kdR_1, kdR_2, kdR_3, kdR_4, kdR_5, kdR_, rC_00, rC_01, rC_02, rC_03, rC_04, rC_10, rC_16, rC_18, rC_19, rC_1a, rC_20, rC_22, rC_23, rC_24, rC_25, rC_26, rC_27, rC_28, rC_4, rC_10k, rC_u3, rC_u5, rC_u7, rC_u9, rC_ua, rC_ub, rC_uc, rC_r4, rC_r5, rC_r6, rC_r7, rC_r8, Nat.add_zero, bI_0, Bool.true_eq_false]
            refine mR_take_ s3 0 255 (by omega) (by omega) (fun h4 f4 s4 v4 z1 z2 z3 => ?_) (fun h4 f4 ft4 z => ?_)
            · rw [if_pos z1] at hQ1
              simp (disch := omega) only [sR_readConstant_138, sR_readConstant_141, sR_readConstant_142, sR_readConstant_145, sR_readConstant_146, ax_clr_i, ax_clr_l, ax_clr_r, ax_clr_n, ax_ct_0, ax_ct_i, ax_ct_l, ax_ct_r, va_rf_s, Option.toList_some, Option.toList_none, List.cons_append, List.nil_append, and_true, true_and, and_self, ite_true, ite_false, if_true, if_false, Nat.reduceAdd, Nat.reduceLeDiff, Nat.reduceMul, Nat.reduceLT, nI_add, pk_mul, nI_lt', nI_le', nI_eq', nI_lt0, nI_ge0, nI_eq0, nI_gt0, nI_le0, nI_ne_m1, m1_ne_nI, m1_lt_nI, m1_le_nI, nI_lt_m1, nI_le_m1, nI_clamp, ax_in_nI, nI_shl, nI_shr, lg_cmp0, nx_and, nI_eq1, bI_0, bI_1, bf_or, eq_self, or_true, true_or, Bool.true_eq_false]
              have f34 := f3.tr f4
              exact hQ1 h4 (f12.tr f34.q) s4 (by rw [f34.2 _ _ (by omega)]; exact t7) (by rw [f34.2 _ _ (by omega)]; exact t9) (fun q => absurd q t1) rfl
            · rw [if_neg (fun q => z ⟨q, by omega, by have := bg_lt hs.2.1.2.2.2 (p + 1 + 1); omega⟩)] at hQ0
              simp (disch := omega) only [sR_readConstant_138, sR_readConstant_145, sR_readConstant_146, ax_clr_i, ax_clr_l, ax_clr_r, ax_clr_n, ax_ct_0, ax_ct_i, ax_ct_l, ax_ct_r, va_rf_s, Option.toList_some, Option.toList_none, List.cons_append, List.nil_append, and_true, true_and, and_self, ite_true, ite_false, if_true, if_false, Nat.reduceAdd, Nat.reduceLeDiff, Nat.reduceMul, Nat.reduceLT, nI_add, pk_mul, nI_lt', nI_le', nI_eq', nI_lt0, nI_ge0, nI_eq0, nI_gt0, nI_le0, nI_ne_m1, m1_ne_nI, m1_lt_nI, m1_le_nI, nI_lt_m1, nI_le_m1, nI_clamp, ax_in_nI, nI_shl, nI_shr, lg_cmp0, nx_and, nI_eq1, bI_0, bI_1, bf_or, eq_self, or_true, true_or]
              exact hQ0 h4 (f12.tr (f3.tr f4).q) ft4 rfl
          · rw [if_neg (fun q => w ⟨q, by omega, by have := bg_lt hs.2.1.2.2.2 (p + 1); omega⟩)] at hQ0
            simp (disch := omega) only [sR_readConstant_127, sR_readConstant_145, sR_readConstant_146, ax_clr_i, ax_clr_l, ax_clr_r, ax_clr_n, ax_ct_0, ax_ct_i, ax_ct_l, ax_ct_r, va_rf_s, Option.toList_some, Option.toList_none, List.cons_append, List.nil_append, and_true, true_and, and_self, ite_true, ite_false, if_true, if_false, Nat.reduceAdd, Nat.reduceLeDiff, Nat.reduceMul, Nat.reduceLT, nI_add, pk_mul, nI_lt', nI_le', nI_eq', nI_lt0, nI_ge0, nI_eq0, nI_gt0, nI_le0, nI_ne_m1, m1_ne_nI, m1_lt_nI, m1_le_nI, nI_lt_m1, nI_le_m1, nI_clamp, ax_in_nI, nI_shl, nI_shr, lg_cmp0, nx_and, nI_eq1, bI_0, bI_1, bf_or, eq_self, or_true, true_or]
            exact hQ0 h3 (f12.tr f3.q) ft3 rfl
      · by_cases t7' : bg b p = 7
        · rw [if_neg (cn (by omega) (by omega)), if_neg (cn (by omega) (by omega)), if_neg (cn (by omega) (by omega)), if_neg (cn (by omega) (by omega)), if_neg (cn (by omega) (by omega)), if_pos (cp t7')]
          have g1 : sCo b (decide (k = n)) p = sBy b 1 (p + 1) := by rw [sCo_2 c1 (Or.inl t7'), if_pos t7']
          have g2 : clen b p = 2 := by unfold clen; rw [if_neg (by omega), if_pos t7']
          rw [g1] at hQ1 hQ0
          rw [g2] at hQ1
          unfold sBy at hQ1 hQ0
          simp (disch := omega) only [sR_readConstant_147, sR_readConstant_148, sR_readConstant_149, sR_readConstant_152, ax_clr_i, ax_clr_l, ax_clr_r, ax_clr_n, ax_ct_0, ax_ct_i, ax_ct_l, ax_ct_r, va_rf_s, Option.toList_some, Option.toList_none, List.cons_append, List.nil_append, and_true, true_and, and_self, ite_true, ite_false, if_true, if_false, Nat.reduceAdd, Nat.reduceLeDiff, Nat.reduceMul, Nat.reduceLT, kdC_0, kdC_1, kdC_2, kdC_3, kdC_4, kdC_5, kdC_6, kdC_7, kdC_8, kdC_9, kdC_10, kdC_11, kdC_12, kdC_13, kdC_14, kdC_15, kdC_16, kdU_1, kdU_2, kdU_3, kdU_4, kdU_5, kdU_6, kdU_7, kdU_, kdR_1, kdR_2, kdR_3, kdR_4, kdR_5, kdR_, rC_00, rC_01, rC_02, rC_03, rC_04, rC_10, rC_16, rC_18, rC_19, rC_1a, rC_20, rC_22, rC_23, rC_24, rC_25, rC_26, rC_27, rC_28, rC_4, rC_10k, rC_u3, rC_u5, rC_u7, rC_u9, rC_ua, rC_ub, rC_uc, rC_r4, rC_r5, rC_r6, rC_r7, rC_r8, Nat.add_zero]
          refine mR_take_ s2 0 255 (by omega) (by omega) (fun h3 f3 s3 v3 w1 w2 w3 => ?_) (fun h3 f3 ft3 w => ?_)
          · rw [if_pos w1] at hQ1
            simp (disch := omega) only [sR_readConstant_155, ax_clr_i, ax_clr_l, ax_clr_r, ax_clr_n, ax_ct_0, ax_ct_i, ax_ct_l, ax_ct_r, va_rf_s, Option.toList_some, Option.toList_none, List.cons_append, List.nil_append, and_true, true_and, and_self, ite_true, ite_false, if_true, if_false, Nat.reduceAdd, Nat.reduceLeDiff, Nat.reduceMul, Nat.reduceLT, nI_add, pk_mul, nI_lt', nI_le', nI_eq', nI_lt0, nI_ge0, nI_eq0, nI_gt0, nI_le0, nI_ne_m1, m1_ne_nI, m1_lt_nI, m1_le_nI, nI_lt_m1, nI_le_m1, nI_clamp, ax_in_nI, nI_shl, nI_shr, lg_cmp0, nx_and, nI_eq1, bI_0, bI_1, bf_or, eq_self, or_true, true_or]
            exact hQ1 h3 (f12.tr f3.q) s3 (by rw [f3.2 _ _ (by omega)]; exact t7) (by rw [f3.2 _ _ (by omega)]; exact t9) (fun q => absurd q t1) rfl
          · rw [if_neg (fun q => w ⟨q, by omega, by have := bg_lt hs.2.1.2.2.2 (p + 1); omega⟩)] at hQ0
            simp (disch := omega) only [sR_readConstant_155, ax_clr_i, ax_clr_l, ax_clr_r, ax_clr_n, ax_ct_0, ax_ct_i, ax_ct_l, ax_ct_r, va_rf_s, Option.toList_some, Option.toList_none, List.cons_append, List.nil_append, and_true, true_and, and_self, ite_true, ite_false, if_true, if_false, Nat.reduceAdd, Nat.reduceLeDiff, Nat.reduceMul, Nat.reduceLT, nI_add, pk_mul, nI_lt', nI_le', nI_eq', nI_lt0, nI_ge0, nI_eq0, nI_gt0, nI_le0, nI_ne_m1, m1_ne_nI, m1_lt_nI, m1_le_nI, nI_lt_m1, nI_le_m1, nI_clamp, ax_in_nI, nI_shl, nI_shr, lg_cmp0, nx_and, nI_eq1, bI_0, bI_1, bf_or, eq_self, or_true, true_or]
            exact hQ0 h3 (f12.tr f3.q) ft3 rfl
        · by_cases t9' : bg b p = 9 ∨ bg b p = 10
          · have goal156 : ax_wp kC (d + 2) mR_readConstant 156 [some (.ref 1), some (.int (nI k))] [] h2 Q := by
              obtain ⟨g1, g2⟩ := two (by omega)
              rw [g1] at hQ1 hQ0
              rw [g2] at hQ1
              unfold sBy at hQ1 hQ0
              simp (disch := omega) only [sR_readConstant_156, sR_readConstant_157, sR_readConstant_158, sR_readConstant_161, ax_clr_i, ax_clr_l, ax_clr_r, ax_clr_n, ax_ct_0, ax_ct_i, ax_ct_l, ax_ct_r, va_rf_s, Option.toList_some, Option.toList_none, List.cons_append, List.nil_append, and_true, true_and, and_self, ite_true, ite_false, if_true, if_false, Nat.reduceAdd, Nat.reduceLeDiff, Nat.reduceMul, Nat.reduceLT, kdC_0, kdC_1, kdC_2, kdC_3, kdC_4, kdC_5, kdC_6, kdC_7, kdC_8, kdC_9, kdC_10, kdC_11, kdC_12, kdC_13, kdC_14, kdC_15, kdC_16, kdU_1, kdU_2, kdU_3, kdU_4, kdU_5, kdU_6, kdU_7, kdU_, kdR_1, kdR_2, kdR_3, kdR_4, kdR_5, kdR_, rC_00, rC_01, rC_02, rC_03, rC_04, rC_10, rC_16, rC_18, rC_19, rC_1a, rC_20, rC_22, rC_23, rC_24, rC_25, rC_26, rC_27, rC_28, rC_4, rC_10k, rC_u3, rC_u5, rC_u7, rC_u9, rC_ua, rC_ub, rC_uc, rC_r4, rC_r5, rC_r6, rC_r7, rC_r8, Nat.add_zero]
              refine mR_take_ s2 0 255 (by omega) (by omega) (fun h3 f3 s3 v3 w1 w2 w3 => ?_) (fun h3 f3 ft3 w => ?_)
              · rw [if_pos w1] at hQ1 hQ0
                unfold sBy at hQ1 hQ0
                simp (disch := omega) only [sR_readConstant_164, sR_readConstant_167, sR_readConstant_168, sR_readConstant_169, sR_readConstant_172, ax_clr_i, ax_clr_l, ax_clr_r, ax_clr_n, ax_ct_0, ax_ct_i, ax_ct_l, ax_ct_r, va_rf_s, Option.toList_some, Option.toList_none, List.cons_append, List.nil_append, and_true, true_and, and_self, ite_true, ite_false, if_true, if_false, Nat.reduceAdd, Nat.reduceLeDiff, Nat.reduceMul, Nat.reduceLT, kdC_0, kdC_1, kdC_2, kdC_3, kdC_4, kdC_5, kdC_6, kdC_7, kdC_8, kdC_9, kdC_10, kdC_11, kdC_12, kdC_13, kdC_14, kdC_15, kdC_16, kdU_1, kdU_2, kdU_3, kdU_4, kdU_5, kdU_6, kdU_7, kdU_, kdR_1, kdR_2, kdR_3, kdR_4, kdR_5, kdR_, rC_00, rC_01, rC_02, rC_03, rC_04, rC_10, rC_16, rC_18, rC_19, rC_1a, rC_20, rC_22, rC_23, rC_24, rC_25, rC_26, rC_27, rC_28, rC_4, rC_10k, rC_u3, rC_u5, rC_u7, rC_u9, rC_ua, rC_ub, rC_uc, rC_r4, rC_r5, rC_r6, rC_r7, rC_r8, Nat.add_zero, bI_0, Bool.true_eq_false]
                refine mR_take_ s3 0 255 (by omega) (by omega) (fun h4 f4 s4 v4 z1 z2 z3 => ?_) (fun h4 f4 ft4 z => ?_)
                · rw [if_pos z1] at hQ1
                  simp (disch := omega) only [sR_readConstant_175, sR_readConstant_178, sR_readConstant_179, sR_readConstant_182, sR_readConstant_183, ax_clr_i, ax_clr_l, ax_clr_r, ax_clr_n, ax_ct_0, ax_ct_i, ax_ct_l, ax_ct_r, va_rf_s, Option.toList_some, Option.toList_none, List.cons_append, List.nil_append, and_true, true_and, and_self, ite_true, ite_false, if_true, if_false, Nat.reduceAdd, Nat.reduceLeDiff, Nat.reduceMul, Nat.reduceLT, nI_add, pk_mul, nI_lt', nI_le', nI_eq', nI_lt0, nI_ge0, nI_eq0, nI_gt0, nI_le0, nI_ne_m1, m1_ne_nI, m1_lt_nI, m1_le_nI, nI_lt_m1, nI_le_m1, nI_clamp, ax_in_nI, nI_shl, nI_shr, lg_cmp0, nx_and, nI_eq1, bI_0, bI_1, bf_or, eq_self, or_true, true_or, Bool.true_eq_false]
                  have f34 := f3.tr f4
                  exact hQ1 h4 (f12.tr f34.q) s4 (by rw [f34.2 _ _ (by omega)]; exact t7) (by rw [f34.2 _ _ (by omega)]; exact t9) (fun q => absurd q t1) rfl
                · rw [if_neg (fun q => z ⟨q, by omega, by have := bg_lt hs.2.1.2.2.2 (p + 1 + 1); omega⟩)] at hQ0
                  simp (disch := omega) only [sR_readConstant_175, sR_readConstant_182, sR_readConstant_183, ax_clr_i, ax_clr_l, ax_clr_r, ax_clr_n, ax_ct_0, ax_ct_i, ax_ct_l, ax_ct_r, va_rf_s, Option.toList_some, Option.toList_none, List.cons_append, List.nil_append, and_true, true_and, and_self, ite_true, ite_false, if_true, if_false, Nat.reduceAdd, Nat.reduceLeDiff, Nat.reduceMul, Nat.reduceLT, nI_add, pk_mul, nI_lt', nI_le', nI_eq', nI_lt0, nI_ge0, nI_eq0, nI_gt0, nI_le0, nI_ne_m1, m1_ne_nI, m1_lt_nI, m1_le_nI, nI_lt_m1, nI_le_m1, nI_clamp, ax_in_nI, nI_shl, nI_shr, lg_cmp0, nx_and, nI_eq1, bI_0, bI_1, bf_or, eq_self, or_true, true_or]
                  exact hQ0 h4 (f12.tr (f3.tr f4).q) ft4 rfl
              · rw [if_neg (fun q => w ⟨q, by omega, by have := bg_lt hs.2.1.2.2.2 (p + 1); omega⟩)] at hQ0
                simp (disch := omega) only [sR_readConstant_164, sR_readConstant_182, sR_readConstant_183, ax_clr_i, ax_clr_l, ax_clr_r, ax_clr_n, ax_ct_0, ax_ct_i, ax_ct_l, ax_ct_r, va_rf_s, Option.toList_some, Option.toList_none, List.cons_append, List.nil_append, and_true, true_and, and_self, ite_true, ite_false, if_true, if_false, Nat.reduceAdd, Nat.reduceLeDiff, Nat.reduceMul, Nat.reduceLT, nI_add, pk_mul, nI_lt', nI_le', nI_eq', nI_lt0, nI_ge0, nI_eq0, nI_gt0, nI_le0, nI_ne_m1, m1_ne_nI, m1_lt_nI, m1_le_nI, nI_lt_m1, nI_le_m1, nI_clamp, ax_in_nI, nI_shl, nI_shr, lg_cmp0, nx_and, nI_eq1, bI_0, bI_1, bf_or, eq_self, or_true, true_or]
                exact hQ0 h3 (f12.tr f3.q) ft3 rfl
            rw [if_neg (cn (by omega) (by omega)), if_neg (cn (by omega) (by omega)), if_neg (cn (by omega) (by omega)), if_neg (cn (by omega) (by omega)), if_neg (cn (by omega) (by omega)), if_neg (cn (by omega) (by omega)), if_neg (cn (by omega) (by omega))]
            rcases t9' with q | q
            · rw [if_pos (cp q)]; exact goal156
            · rw [if_neg (cn (by omega) (by omega)), if_pos (cp q)]; exact goal156
          · have b184 := bad184 (tgF (by omega))
            have c7 := cn t7' (by omega)
            have c3 := cn t3 (by omega)
            have c9 := cn (show ¬ bg b p = 9 by omega) (by omega)
            have c10 := cn (show ¬ bg b p = 10 by omega) (by omega)
            rw [if_neg c3, if_neg c7, if_neg c9, if_neg c10]
            (repeat rw [ite_self])
            exact b184
  · rw [sCo_0 (by unfold tgOk; rw [decide_eq_false (fun w => c ⟨w, by omega, by omega⟩)]; rfl)] at hQ0
    simp (disch := omega) only [sR_readConstant_8, sR_readConstant_11, sR_readConstant_12, ax_clr_i, ax_clr_l, ax_clr_r, ax_clr_n, ax_ct_0, ax_ct_i, ax_ct_l, ax_ct_r, va_rf_s, Option.toList_some, Option.toList_none, List.cons_append, List.nil_append, and_true, true_and, and_self, ite_true, ite_false, if_true, if_false, Nat.reduceAdd, Nat.reduceLeDiff, Nat.reduceMul, Nat.reduceLT, nI_add, pk_mul, nI_lt', nI_le', nI_eq', nI_lt0, nI_ge0, nI_eq0, nI_gt0, nI_le0, nI_ne_m1, m1_ne_nI, m1_lt_nI, m1_le_nI, nI_lt_m1, nI_le_m1, nI_clamp, ax_in_nI, nI_shl, nI_shr, lg_cmp0, nx_and, nI_eq1, bI_0, bI_1, bf_or, eq_self, or_true, true_or]
    exact hQ0 h1 f1.q ft rfl
end RC
