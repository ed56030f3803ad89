/-! the class: methods, and a whole unit -/
theorem uS.up {o : Nat → Nat} {s u : Nat} {h h' : ax_H} {b : List Nat} {p L L2 : Nat} {own sup : List Nat} {I F M : List (List Nat)} {O : List oc4} (hs : uS o s u h b p L own sup I F M O) (f2 : h'.2 = h.2) (f1 : ∀ r j, ¬ (r = 1 ∧ (j = 3 ∨ (11 ≤ j ∧ j ≤ 13))) → h'.1 r j = h.1 r j) (hl : h'.1 1 3 = nI L2) (hL2 : L2 ≤ b.length) : uS o s u h' b p L2 own sup I F M O :=
  ⟨⟨by rw [f2]; exact hs.1.1, ⟨by rw [f1 _ _ (by omega)]; exact hs.1.2.1.1, hs.1.2.1.2.1, fun j hj => by rw [f1 _ _ (by omega)]; exact hs.1.2.1.2.2.1 j hj, hs.1.2.1.2.2.2⟩, by rw [f1 _ _ (by omega)]; exact hs.1.2.2.1, hl, hL2, hs.1.2.2.2.2.2.1, by rw [f1 _ _ (by omega)]; exact hs.1.2.2.2.2.2.2⟩, ⟨by rw [f1 _ _ (by omega)]; exact hs.2.1.1, fun k w1 w2 => by rw [f1 _ _ (by omega), f1 _ _ (by omega), f2]; exact hs.2.1.2 k w1 w2⟩, hs.2.2.keep (fun a k _ _ => f1 _ _ (by omega)) (fun a k _ _ => by rw [f2])⟩
theorem nmX_len (u : List Nat) (p line : Nat) : (nmX u p line).length ≤ 1 := by
  unfold nmX; (repeat' split) <;> first | exact nms_len _ _ _ _ | simp
theorem nmX_pos (u : List Nat) (p line start : Nat) (hs : start ≤ p) : p + 2 * (nmX u p line).length ≤ nxI u start p ∧ p < nxI u start p := by
  have h1 := nmX_len u p line
  unfold nxI
  by_cases a1 : bg u p = 170
  · have h0 : nmX u p line = [] := by unfold nmX; rw [if_pos a1]
    rw [if_pos a1, h0]; unfold padP; simp only [List.length_nil]; omega
  · rw [if_neg a1]
    by_cases a2 : bg u p = 196
    · rw [if_pos a2]; omega
    · rw [if_neg a2]
      by_cases a3 : bg u p = 0
      · have h0 : nmX u p line = [] := by unfold nmX; rw [if_neg a1, if_neg a2, if_neg (by rw [a3]; decide)]
        rw [if_pos a3, h0]; simp
      · rw [if_neg a3]; omega
section CM
variable {d : Nat} {Q : Option Value → ax_H → Prop} {o : Nat → Nat} {s u : Nat} {b : List Nat} {own sup : List Nat} {I F M : List (List Nat)}
theorem mR_readMethod_l (hk : okK b) (hu : u < 13) (lim L start len : Nat) (hL : L = min lim b.length) (hlim : lim = start + len) (hl24 : len ≤ 24) (h5 : start < 200) : ∀ (m i p line : Nat) (O : List oc4) (h : ax_H), i + m = len → start ≤ p → p ≤ lim → lim ≤ p + m → line + 255 * m < 100000 → 2 * O.length + (lim - p) ≤ 104 → uS o s u h b p L own sup I F M O → cS h start len line → (∀ h', frZ u h h' → uS o s u h' b lim b.length own sup I F M (O ++ ocC b start lim m p line) → sCd b (bg b 1) (offU b (bg b 1)) start lim m p = (true, lim) → Q (some (.int (bI true))) h') → (∀ h' q, frZ u h h' → h'.1 1 5 = nI q → sCd b (bg b 1) (offU b (bg b 1)) start lim m p = (false, q) → Q (some (.int (bI false))) h') → ax_wp kC (d + 4) mR_readMethod 98 [some (.ref 1), some (.int (nI lim)), some (.int (nI i))] [] h Q := by
  have fin : ∀ (i p : Nat) (O : List oc4) (h : ax_H), p = lim → uS o s u h b p L own sup I F M O → (∀ h', frZ u h h' → uS o s u h' b lim b.length own sup I F M O → Q (some (.int (bI true))) h') → ax_wp kC (d + 4) mR_readMethod 129 [some (.ref 1), some (.int (nI lim)), some (.int (nI i))] [] h Q := fun i p O h hp hs hQ => by
    subst hp
    have z1 := hs.1.2.1.1
    simp (disch := omega) only [sR_readMethod_129, sR_readMethod_130, sR_readMethod_131, sR_readMethod_134, sR_readMethod_137, sR_readMethod_138, ax_clr_i, ax_clr_l, ax_clr_r, ax_clr_n, ax_ct_0, ax_ct_i, ax_ct_l, ax_ct_r, va_rf_s, Option.toList_some, Option.toList_none, List.cons_append, List.nil_append, and_true, true_and, and_self, ite_true, ite_false, if_true, if_false, Nat.reduceAdd, Nat.reduceLeDiff, Nat.reduceMul, Nat.reduceLT, nI_add, pk_mul, nI_lt', nI_le', nI_eq', nI_lt0, nI_ge0, nI_eq0, nI_gt0, nI_le0, nI_ne_m1, m1_ne_nI, m1_lt_nI, m1_le_nI, nI_lt_m1, nI_le_m1, nI_clamp, ax_in_nI, nI_shl, nI_shr, lg_cmp0, nx_and, nI_eq1, bI_0, bI_1, bf_or, eq_self, or_true, true_or, kdC_0, kdC_1, kdC_2, kdC_3, kdC_4, kdC_5, kdC_6, kdC_7, kdC_8, kdC_9, kdC_10, kdC_11, kdC_12, kdC_13, kdC_14, kdC_15, kdC_16, kdU_1, kdU_2, kdU_3, kdU_4, kdU_5, kdU_6, kdU_7, kdU_, kdR_1, kdR_2, kdR_3, kdR_4, kdR_5, kdR_, rC_00, rC_01, rC_02, rC_03, rC_04, rC_10, rC_16, rC_18, rC_19, rC_1a, rC_20, rC_22, rC_23, rC_24, rC_25, rC_26, rC_27, rC_28, rC_4, rC_10k, rC_u3, rC_u5, rC_u7, rC_u9, rC_ua, rC_ub, rC_uc, rC_r4, rC_r5, rC_r6, rC_r7, rC_r8, Nat.add_zero, z1]
    have e : ∀ r j, ¬ (r = 1 ∧ j = 3) → (ax_upI h 1 3 (nI b.length)).1 r j = h.1 r j := fun r j w => by rw [up_I, if_neg w]
    exact hQ _ ⟨rfl, fun r j w1 _ => e r j (by omega), fun _ _ _ => rfl⟩ (hs.up rfl (fun r j w => e r j (by omega)) (up_at _ _ _ _) (Nat.le_refl _))
  intro m
  induction m with
  | zero =>
    intro i p line O h hi hsp hp hm hln hO hs hc hQ1 hQ0
    have l1 := hc.2.1
    rw [sR_readMethod_98]
    simp (disch := omega) only [sR_readMethod_99, sR_readMethod_100, sR_readMethod_103, ax_clr_i, ax_clr_l, ax_clr_r, ax_clr_n, ax_ct_0, ax_ct_i, ax_ct_l, ax_ct_r, va_rf_s, Option.toList_some, Option.toList_none, List.cons_append, List.nil_append, and_true, true_and, and_self, ite_true, ite_false, if_true, if_false, Nat.reduceAdd, Nat.reduceLeDiff, Nat.reduceMul, Nat.reduceLT, nI_add, pk_mul, nI_lt', nI_le', nI_eq', nI_lt0, nI_ge0, nI_eq0, nI_gt0, nI_le0, nI_ne_m1, m1_ne_nI, m1_lt_nI, m1_le_nI, nI_lt_m1, nI_le_m1, nI_clamp, ax_in_nI, nI_shl, nI_shr, lg_cmp0, nx_and, nI_eq1, bI_0, bI_1, bf_or, eq_self, or_true, true_or, lt_T, le_T, lt_F, le_F, eq_F, eq_T, kdC_0, kdC_1, kdC_2, kdC_3, kdC_4, kdC_5, kdC_6, kdC_7, kdC_8, kdC_9, kdC_10, kdC_11, kdC_12, kdC_13, kdC_14, kdC_15, kdC_16, kdU_1, kdU_2, kdU_3, kdU_4, kdU_5, kdU_6, kdU_7, kdU_, kdR_1, kdR_2, kdR_3, kdR_4, kdR_5, kdR_, rC_00, rC_01, rC_02, rC_03, rC_04, rC_10, rC_16, rC_18, rC_19, rC_1a, rC_20, rC_22, rC_23, rC_24, rC_25, rC_26, rC_27, rC_28, rC_4, rC_10k, rC_u3, rC_u5, rC_u7, rC_u9, rC_ua, rC_ub, rC_uc, rC_r4, rC_r5, rC_r6, rC_r7, rC_r8, Nat.add_zero, l1]
    have ep : p = lim := by omega
    exact fin i p O h ep hs (fun h' f w => hQ1 h' f (by rw [ocC, List.append_nil]; exact w) (by rw [sCd, ep]))
  | succ m ih =>
    intro i p line O h hi hsp hp hm hln hO hs hc hQ1 hQ0
    have l1 := hc.2.1
    have a1 := hs.1.2.2.1
    have bl := bg_lt hs.1.2.1.2.2.2 (p + 1)
    rw [sR_readMethod_98]
    simp (disch := omega) only [sR_readMethod_99, sR_readMethod_100, sR_readMethod_103, sR_readMethod_106, sR_readMethod_107, sR_readMethod_110, sR_readMethod_111, ax_clr_i, ax_clr_l, ax_clr_r, ax_clr_n, ax_ct_0, ax_ct_i, ax_ct_l, ax_ct_r, va_rf_s, Option.toList_some, Option.toList_none, List.cons_append, List.nil_append, and_true, true_and, and_self, ite_true, ite_false, if_true, if_false, Nat.reduceAdd, Nat.reduceLeDiff, Nat.reduceMul, Nat.reduceLT, nI_add, pk_mul, nI_lt', nI_le', nI_eq', nI_lt0, nI_ge0, nI_eq0, nI_gt0, nI_le0, nI_ne_m1, m1_ne_nI, m1_lt_nI, m1_le_nI, nI_lt_m1, nI_le_m1, nI_clamp, ax_in_nI, nI_shl, nI_shr, lg_cmp0, nx_and, nI_eq1, bI_0, bI_1, bf_or, eq_self, or_true, true_or, lt_T, le_T, lt_F, le_F, eq_F, eq_T, kdC_0, kdC_1, kdC_2, kdC_3, kdC_4, kdC_5, kdC_6, kdC_7, kdC_8, kdC_9, kdC_10, kdC_11, kdC_12, kdC_13, kdC_14, kdC_15, kdC_16, kdU_1, kdU_2, kdU_3, kdU_4, kdU_5, kdU_6, kdU_7, kdU_, kdR_1, kdR_2, kdR_3, kdR_4, kdR_5, kdR_, rC_00, rC_01, rC_02, rC_03, rC_04, rC_10, rC_16, rC_18, rC_19, rC_1a, rC_20, rC_22, rC_23, rC_24, rC_25, rC_26, rC_27, rC_28, rC_4, rC_10k, rC_u3, rC_u5, rC_u7, rC_u9, rC_ua, rC_ub, rC_uc, rC_r4, rC_r5, rC_r6, rC_r7, rC_r8, Nat.add_zero, l1, a1]
    by_cases e : lim ≤ p
    · rw [if_pos e]
      have ep : p = lim := by omega
      exact fin i p O h ep hs (fun h' f w => hQ1 h' f (by rw [ocC, if_neg (by omega), List.append_nil]; exact w) (by rw [sCd, if_neg (by omega), ep]))
    · rw [if_neg e]
      rw [sCd, if_pos (show p < lim by omega), ocC_step _ _ _ _ _ _ (by omega)] at hQ1
      rw [sCd, if_pos (show p < lim by omega)] at hQ0
      simp (disch := omega) only [sR_readMethod_114, sR_readMethod_115, ax_clr_i, ax_clr_l, ax_clr_r, ax_clr_n, ax_ct_0, ax_ct_i, ax_ct_l, ax_ct_r, va_rf_s, Option.toList_some, Option.toList_none, List.cons_append, List.nil_append, and_true, true_and, and_self, ite_true, ite_false, if_true, if_false, Nat.reduceAdd, Nat.reduceLeDiff, Nat.reduceMul, Nat.reduceLT, kdC_0, kdC_1, kdC_2, kdC_3, kdC_4, kdC_5, kdC_6, kdC_7, kdC_8, kdC_9, kdC_10, kdC_11, kdC_12, kdC_13, kdC_14, kdC_15, kdC_16, kdU_1, kdU_2, kdU_3, kdU_4, kdU_5, kdU_6, kdU_7, kdU_, kdR_1, kdR_2, kdR_3, kdR_4, kdR_5, kdR_, rC_00, rC_01, rC_02, rC_03, rC_04, rC_10, rC_16, rC_18, rC_19, rC_1a, rC_20, rC_22, rC_23, rC_24, rC_25, rC_26, rC_27, rC_28, rC_4, rC_10k, rC_u3, rC_u5, rC_u7, rC_u9, rC_ua, rC_ub, rC_uc, rC_r4, rC_r5, rC_r6, rC_r7, rC_r8, Nat.add_zero]
      refine mR_readInstruction_ hk hu p lim L start len line hL hlim hl24 hsp (by omega) (by omega) (by omega) hs hc (by omega) (fun h1 q f1 s1 c1 e1 => ?_) (fun h1 q f1 ft e1 => ?_)
      · have k := sIn_nx (u := b) (n := bg b 1) (off := offU b (bg b 1)) hsp (by omega : p < lim) (by rw [e1])
        rw [e1] at k
        have kq : q = nxI b start p := k.1
        have np := nmX_pos b p line start hsp
        have ll : lnX b p line ≤ line + 255 := by unfold lnX; split <;> omega
        rw [e1, if_pos rfl] at hQ1 hQ0
        dsimp only at hQ1 hQ0
        subst kq
        simp (disch := omega) only [sR_readMethod_118, sR_readMethod_121, sR_readMethod_122, sR_readMethod_123, sR_readMethod_126, ax_clr_i, ax_clr_l, ax_clr_r, ax_clr_n, ax_ct_0, ax_ct_i, ax_ct_l, ax_ct_r, va_rf_s, Option.toList_some, Option.toList_none, List.cons_append, List.nil_append, and_true, true_and, and_self, ite_true, ite_false, if_true, if_false, Nat.reduceAdd, Nat.reduceLeDiff, Nat.reduceMul, Nat.reduceLT, nI_add, pk_mul, nI_lt', nI_le', nI_eq', nI_lt0, nI_ge0, nI_eq0, nI_gt0, nI_le0, nI_ne_m1, m1_ne_nI, m1_lt_nI, m1_le_nI, nI_lt_m1, nI_le_m1, nI_clamp, ax_in_nI, nI_shl, nI_shr, lg_cmp0, nx_and, nI_eq1, bI_0, bI_1, bf_or, eq_self, or_true, true_or, Bool.true_eq_false]
        refine ih (i + 1) (nxI b start p) (lnX b p line) (O ++ nmX b p line) h1 (by omega) (by omega) (by omega) (by omega) (by omega) (by rw [List.length_append]; omega) s1 c1 (fun h' f w1 w2 => hQ1 h' (f1.tr f) (by rw [← List.append_assoc]; exact w1) w2) (fun h' q f w1 w2 => hQ0 h' q (f1.tr f) w1 w2)
      · rw [e1, if_neg (by simp)] at hQ0
        simp (disch := omega) only [sR_readMethod_118, sR_readMethod_121, sR_readMethod_122, ax_clr_i, ax_clr_l, ax_clr_r, ax_clr_n, ax_ct_0, ax_ct_i, ax_ct_l, ax_ct_r, va_rf_s, Option.toList_some, Option.toList_none, List.cons_append, List.nil_append, and_true, true_and, and_self, ite_true, ite_false, if_true, if_false, Nat.reduceAdd, Nat.reduceLeDiff, Nat.reduceMul, Nat.reduceLT, nI_add, pk_mul, nI_lt', nI_le', nI_eq', nI_lt0, nI_ge0, nI_eq0, nI_gt0, nI_le0, nI_ne_m1, m1_ne_nI, m1_lt_nI, m1_le_nI, nI_lt_m1, nI_le_m1, nI_clamp, ax_in_nI, nI_shl, nI_shr, lg_cmp0, nx_and, nI_eq1, bI_0, bI_1, bf_or, eq_self, or_true, true_or]
        exact hQ0 h1 q f1 ft rfl
theorem mR_readMethod_ {h : ax_H} (hk : okK b) (hu : u < 13) (p : Nat) (O : List oc4) (hM : M.length < 4) (hO : O.length ≤ 40) (hs : uS o s u h b p b.length own sup I F M O) (hQ1 : ∀ h', frZ u h h' → uS o s u h' b (p + 3 + bg b (p + 2)) b.length own sup I F (M ++ [txt b (cAt b (bg b p))]) (O ++ ocC b (p + 3) (p + 3 + bg b (p + 2)) (bg b (p + 2)) (p + 3) (bg b (p + 1))) → sMt b (bg b 1) (offU b (bg b 1)) p = (true, p + 3 + bg b (p + 2)) → Q (some (.int (bI true))) h') (hQ0 : ∀ h' q, frZ u h h' → h'.1 1 5 = nI q → sMt b (bg b 1) (offU b (bg b 1)) p = (false, q) → Q (some (.int (bI false))) h') : ax_wp kC (d + 4) mR_readMethod 0 [some (.ref 1), none, none] [] h Q := by
  have h120 := hs.1.2.1.2.1
  have b0 := bg_lt hs.1.2.1.2.2.2 p
  have b1 := bg_lt hs.1.2.1.2.2.2 (p + 1)
  have b2 := bg_lt hs.1.2.1.2.2.2 (p + 2)
  have h24 := hk.1.2.1
  unfold sMt at hQ1 hQ0
  rw [show (fun k => ftN b (bg b 1) (offU b (bg b 1)) k 20) = (fun k => fU b k 20) from rfl] at hQ1 hQ0
  simp (disch := omega) only [sR_readMethod_0, sR_readMethod_1, ax_clr_i, ax_clr_l, ax_clr_r, ax_clr_n, ax_ct_0, ax_ct_i, ax_ct_l, ax_ct_r, va_rf_s, Option.toList_some, Option.toList_none, List.cons_append, List.nil_append, and_true, true_and, and_self, ite_true, ite_false, if_true, if_false, Nat.reduceAdd, Nat.reduceLeDiff, Nat.reduceMul, Nat.reduceLT, kdC_0, kdC_1, kdC_2, kdC_3, kdC_4, kdC_5, kdC_6, kdC_7, kdC_8, kdC_9, kdC_10, kdC_11, kdC_12, kdC_13, kdC_14, kdC_15, kdC_16, kdU_1, kdU_2, kdU_3, kdU_4, kdU_5, kdU_6, kdU_7, kdU_, kdR_1, kdR_2, kdR_3, kdR_4, kdR_5, kdR_, rC_00, rC_01, rC_02, rC_03, rC_04, rC_10, rC_16, rC_18, rC_19, rC_1a, rC_20, rC_22, rC_23, rC_24, rC_25, rC_26, rC_27, rC_28, rC_4, rC_10k, rC_u3, rC_u5, rC_u7, rC_u9, rC_ua, rC_ub, rC_uc, rC_r4, rC_r5, rC_r6, rC_r7, rC_r8, Nat.add_zero]
  refine mR_takeWord_ hs.1 hs.2.1 hk.1 (fun h1 f1 s1 v1 c1 ht => ?_) (fun h1 f1 ft c => ?_)
  · have hs1 := hs.t f1 s1
    have hr1 := s1.1
    rw [tk_y h120 c1 ht, if_pos rfl] at hQ1 hQ0
    have t20 := fU_20 hk.1 ht
    have q := tgU_at hk.1 (k := bg b p) (by omega)
    have x8 := (hs1.2.1.2 _ q.1 q.2.1).2.2 t20.1
    simp (disch := omega) only [sR_readMethod_4, sR_readMethod_7, sR_readMethod_8, sR_readMethod_9, sR_readMethod_10, sR_readMethod_13, sR_readMethod_14, sR_readMethod_17, sR_readMethod_18, sR_readMethod_21, sR_readMethod_22, ax_clr_i, ax_clr_l, ax_clr_r, ax_clr_n, ax_ct_0, ax_ct_i, ax_ct_l, ax_ct_r, va_rf_s, Option.toList_some, Option.toList_none, List.cons_append, List.nil_append, and_true, true_and, and_self, ite_true, ite_false, if_true, if_false, Nat.reduceAdd, Nat.reduceLeDiff, Nat.reduceMul, Nat.reduceLT, nI_add, pk_mul, nI_lt', nI_le', nI_eq', nI_lt0, nI_ge0, nI_eq0, nI_gt0, nI_le0, nI_ne_m1, m1_ne_nI, m1_lt_nI, m1_le_nI, nI_lt_m1, nI_le_m1, nI_clamp, ax_in_nI, nI_shl, nI_shr, lg_cmp0, nx_and, nI_eq1, bI_0, bI_1, bf_or, eq_self, or_true, true_or, lt_T, le_T, lt_F, le_F, eq_F, eq_T, kdC_0, kdC_1, kdC_2, kdC_3, kdC_4, kdC_5, kdC_6, kdC_7, kdC_8, kdC_9, kdC_10, kdC_11, kdC_12, kdC_13, kdC_14, kdC_15, kdC_16, kdU_1, kdU_2, kdU_3, kdU_4, kdU_5, kdU_6, kdU_7, kdU_, kdR_1, kdR_2, kdR_3, kdR_4, kdR_5, kdR_, rC_00, rC_01, rC_02, rC_03, rC_04, rC_10, rC_16, rC_18, rC_19, rC_1a, rC_20, rC_22, rC_23, rC_24, rC_25, rC_26, rC_27, rC_28, rC_4, rC_10k, rC_u3, rC_u5, rC_u7, rC_u9, rC_ua, rC_ub, rC_uc, rC_r4, rC_r5, rC_r6, rC_r7, rC_r8, Nat.add_zero, hr1, v1, x8, Bool.true_eq_false]
    refine mU_addMethod_ hr1 u hu hs1.2.2 hM _ (fun h2 f2 u2 => ?_)
    have hs2 := hs1.n f2 u2
    simp (disch := omega) only [sR_readMethod_25, sR_readMethod_26, sR_readMethod_27, sR_readMethod_30, ax_clr_i, ax_clr_l, ax_clr_r, ax_clr_n, ax_ct_0, ax_ct_i, ax_ct_l, ax_ct_r, va_rf_s, Option.toList_some, Option.toList_none, List.cons_append, List.nil_append, and_true, true_and, and_self, ite_true, ite_false, if_true, if_false, Nat.reduceAdd, Nat.reduceLeDiff, Nat.reduceMul, Nat.reduceLT, kdC_0, kdC_1, kdC_2, kdC_3, kdC_4, kdC_5, kdC_6, kdC_7, kdC_8, kdC_9, kdC_10, kdC_11, kdC_12, kdC_13, kdC_14, kdC_15, kdC_16, kdU_1, kdU_2, kdU_3, kdU_4, kdU_5, kdU_6, kdU_7, kdU_, kdR_1, kdR_2, kdR_3, kdR_4, kdR_5, kdR_, rC_00, rC_01, rC_02, rC_03, rC_04, rC_10, rC_16, rC_18, rC_19, rC_1a, rC_20, rC_22, rC_23, rC_24, rC_25, rC_26, rC_27, rC_28, rC_4, rC_10k, rC_u3, rC_u5, rC_u7, rC_u9, rC_ua, rC_ub, rC_uc, rC_r4, rC_r5, rC_r6, rC_r7, rC_r8, Nat.add_zero]
    refine mR_take_ hs2.1 0 255 (by omega) (by omega) (fun h3 f3 s3 v3 z1 z2 z3 => ?_) (fun h3 f3 ft3 z => ?_)
    · rw [tk_y h120 z1 (decide_eq_true z3), if_pos rfl] at hQ1 hQ0
      have hs3 := hs2.t f3 s3
      simp (disch := omega) only [sR_readMethod_33, sR_readMethod_36, sR_readMethod_37, sR_readMethod_38, sR_readMethod_39, sR_readMethod_40, sR_readMethod_43, sR_readMethod_46, sR_readMethod_47, sR_readMethod_48, sR_readMethod_50, ax_clr_i, ax_clr_l, ax_clr_r, ax_clr_n, ax_ct_0, ax_ct_i, ax_ct_l, ax_ct_r, va_rf_s, Option.toList_some, Option.toList_none, List.cons_append, List.nil_append, and_true, true_and, and_self, ite_true, ite_false, if_true, if_false, Nat.reduceAdd, Nat.reduceLeDiff, Nat.reduceMul, Nat.reduceLT, nI_add, pk_mul, nI_lt', nI_le', nI_eq', nI_lt0, nI_ge0, nI_eq0, nI_gt0, nI_le0, nI_ne_m1, m1_ne_nI, m1_lt_nI, m1_le_nI, nI_lt_m1, nI_le_m1, nI_clamp, ax_in_nI, nI_shl, nI_shr, lg_cmp0, nx_and, nI_eq1, bI_0, bI_1, bf_or, eq_self, or_true, true_or, kdC_0, kdC_1, kdC_2, kdC_3, kdC_4, kdC_5, kdC_6, kdC_7, kdC_8, kdC_9, kdC_10, kdC_11, kdC_12, kdC_13, kdC_14, kdC_15, kdC_16, kdU_1, kdU_2, kdU_3, kdU_4, kdU_5, kdU_6, kdU_7, kdU_, kdR_1, kdR_2, kdR_3, kdR_4, kdR_5, kdR_, rC_00, rC_01, rC_02, rC_03, rC_04, rC_10, rC_16, rC_18, rC_19, rC_1a, rC_20, rC_22, rC_23, rC_24, rC_25, rC_26, rC_27, rC_28, rC_4, rC_10k, rC_u3, rC_u5, rC_u7, rC_u9, rC_ua, rC_ub, rC_uc, rC_r4, rC_r5, rC_r6, rC_r7, rC_r8, Nat.add_zero, v3, Bool.true_eq_false]
      have e4 : ∀ r j, ¬ (r = 1 ∧ j = 13) → (ax_upI h3 1 13 (nI (bg b (p + 1)))).1 r j = h3.1 r j := fun r j w => by rw [up_I, if_neg w]
      have hs4 := hs3.up (h' := ax_upI h3 1 13 (nI (bg b (p + 1)))) (L2 := b.length) rfl (fun r j w => e4 r j (by omega)) (by rw [e4 _ _ (by omega)]; exact hs3.1.2.2.2.1) (Nat.le_refl _)
      have f4 : frZ u h (ax_upI h3 1 13 (nI (bg b (p + 1)))) := ((f1.z.tr f2.z).tr f3.z).tr ⟨rfl, fun r j w1 _ => e4 r j (by omega), fun _ _ _ => rfl⟩
      have l4 : (ax_upI h3 1 13 (nI (bg b (p + 1)))).1 1 13 = nI (bg b (p + 1)) := up_at _ _ _ _
      generalize ax_upI h3 1 13 (nI (bg b (p + 1))) = h4 at hs4 f4 l4 ⊢
      refine mR_take_ hs4.1 0 24 (by omega) (by omega) (fun h5 f5 s5 v5 y1 y2 y3 => ?_) (fun h5 f5 ft5 y => ?_)
      · rw [tk_y h120 y1 (decide_eq_true y3), if_pos rfl] at hQ1 hQ0
        have hs5 := hs4.t f5 s5
        have a5 := s5.2.2.1
        have z5 := s5.2.1.1
        have l5 : h5.1 1 13 = nI (bg b (p + 1)) := by rw [f5.2 _ _ (by omega)]; exact l4
        rw [show p + 1 + 1 = p + 2 by omega] at v5 y1 y2 y3
        rw [show p + 1 + 1 + 1 = p + 3 by omega] at s5 hs5 a5
        simp (disch := omega) only [sR_readMethod_53, sR_readMethod_56, sR_readMethod_57, sR_readMethod_58, sR_readMethod_59, sR_readMethod_60, sR_readMethod_63, sR_readMethod_66, sR_readMethod_67, sR_readMethod_68, sR_readMethod_71, sR_readMethod_74, sR_readMethod_75, sR_readMethod_78, sR_readMethod_79, sR_readMethod_82, sR_readMethod_83, sR_readMethod_84, sR_readMethod_85, sR_readMethod_86, sR_readMethod_87, ax_clr_i, ax_clr_l, ax_clr_r, ax_clr_n, ax_ct_0, ax_ct_i, ax_ct_l, ax_ct_r, va_rf_s, Option.toList_some, Option.toList_none, List.cons_append, List.nil_append, and_true, true_and, and_self, ite_true, ite_false, if_true, if_false, Nat.reduceAdd, Nat.reduceLeDiff, Nat.reduceMul, Nat.reduceLT, nI_add, pk_mul, nI_lt', nI_le', nI_eq', nI_lt0, nI_ge0, nI_eq0, nI_gt0, nI_le0, nI_ne_m1, m1_ne_nI, m1_lt_nI, m1_le_nI, nI_lt_m1, nI_le_m1, nI_clamp, ax_in_nI, nI_shl, nI_shr, lg_cmp0, nx_and, nI_eq1, bI_0, bI_1, bf_or, eq_self, or_true, true_or, kdC_0, kdC_1, kdC_2, kdC_3, kdC_4, kdC_5, kdC_6, kdC_7, kdC_8, kdC_9, kdC_10, kdC_11, kdC_12, kdC_13, kdC_14, kdC_15, kdC_16, kdU_1, kdU_2, kdU_3, kdU_4, kdU_5, kdU_6, kdU_7, kdU_, kdR_1, kdR_2, kdR_3, kdR_4, kdR_5, kdR_, rC_00, rC_01, rC_02, rC_03, rC_04, rC_10, rC_16, rC_18, rC_19, rC_1a, rC_20, rC_22, rC_23, rC_24, rC_25, rC_26, rC_27, rC_28, rC_4, rC_10k, rC_u3, rC_u5, rC_u7, rC_u9, rC_ua, rC_ub, rC_uc, rC_r4, rC_r5, rC_r6, rC_r7, rC_r8, Nat.add_zero, v5, a5, z5, up_I, up_I2, Nat.reduceEqDiff, and_false, false_and, reduceIte, Bool.true_eq_false]
        have eL : (if nI b.length < nI (p + 3 + bg b (p + 2)) then nI b.length else nI (p + 3 + bg b (p + 2))) = nI (min (p + 3 + bg b (p + 2)) b.length) := by
          by_cases w : b.length < p + 3 + bg b (p + 2)
          · rw [if_pos (by rw [nI_lt' (by omega) (by omega)]; exact w), Nat.min_eq_right (by omega)]
          · rw [if_neg (by rw [nI_lt' (by omega) (by omega)]; exact w), Nat.min_eq_left (by omega)]
        rw [sR_readMethod_90 (by simp only [ax_clr_i, ax_clr_l, ax_clr_r, ax_clr_n, ax_ct_0, ax_ct_i, ax_ct_l, ax_ct_r, va_rf_s, Option.toList_some, Option.toList_none, List.cons_append, List.nil_append, and_true, true_and, and_self, ite_true, ite_false, if_true, if_false, Nat.reduceAdd, Nat.reduceLeDiff, Nat.reduceMul, Nat.reduceLT]), eL]
        simp (disch := omega) only [sR_readMethod_93, sR_readMethod_96, sR_readMethod_97, ax_clr_i, ax_clr_l, ax_clr_r, ax_clr_n, ax_ct_0, ax_ct_i, ax_ct_l, ax_ct_r, va_rf_s, Option.toList_some, Option.toList_none, List.cons_append, List.nil_append, and_true, true_and, and_self, ite_true, ite_false, if_true, if_false, Nat.reduceAdd, Nat.reduceLeDiff, Nat.reduceMul, Nat.reduceLT, kdC_0, kdC_1, kdC_2, kdC_3, kdC_4, kdC_5, kdC_6, kdC_7, kdC_8, kdC_9, kdC_10, kdC_11, kdC_12, kdC_13, kdC_14, kdC_15, kdC_16, kdU_1, kdU_2, kdU_3, kdU_4, kdU_5, kdU_6, kdU_7, kdU_, kdR_1, kdR_2, kdR_3, kdR_4, kdR_5, kdR_, rC_00, rC_01, rC_02, rC_03, rC_04, rC_10, rC_16, rC_18, rC_19, rC_1a, rC_20, rC_22, rC_23, rC_24, rC_25, rC_26, rC_27, rC_28, rC_4, rC_10k, rC_u3, rC_u5, rC_u7, rC_u9, rC_ua, rC_ub, rC_uc, rC_r4, rC_r5, rC_r6, rC_r7, rC_r8, Nat.add_zero]
        have e6 : ∀ r j, ¬ (r = 1 ∧ (j = 3 ∨ j = 11 ∨ j = 12)) → (ax_upI (ax_upI (ax_upI h5 1 11 (nI (p + 3))) 1 12 (nI (bg b (p + 2)))) 1 3 (nI (min (p + 3 + bg b (p + 2)) b.length))).1 r j = h5.1 r j := fun r j w => by rw [up_I, if_neg (by omega), up_I, if_neg (by omega), up_I, if_neg (by omega)]
        have f6 : frZ u h5 (ax_upI (ax_upI (ax_upI h5 1 11 (nI (p + 3))) 1 12 (nI (bg b (p + 2)))) 1 3 (nI (min (p + 3 + bg b (p + 2)) b.length))) := ⟨rfl, fun r j w1 _ => e6 r j (by omega), fun _ _ _ => rfl⟩
        refine mR_readMethod_l hk hu (p + 3 + bg b (p + 2)) (min (p + 3 + bg b (p + 2)) b.length) (p + 3) (bg b (p + 2)) rfl rfl y3 (by omega) (bg b (p + 2)) 0 (p + 3) (bg b (p + 1)) O _ (by omega) (by omega) (by omega) (by omega) (by omega) (by omega) (hs5.up rfl (fun r j w => e6 r j (by omega)) (up_at _ _ _ _) (Nat.min_le_right _ _)) ⟨by simp [up_I], by simp [up_I], by rw [e6 _ _ (by omega)]; exact l5⟩ (fun h' f w1 w2 => hQ1 h' ?_ w1 w2) (fun h' q f w1 w2 => hQ0 h' q ?_ w1 w2)
        all_goals exact ((f4.tr f5.z).tr f6).tr f
      · rw [tk_n (fun w => y ⟨w.1, by omega, of_decide_eq_true w.2⟩), if_neg (by simp)] at hQ0
        simp (disch := omega) only [sR_readMethod_53, sR_readMethod_56, sR_readMethod_57, ax_clr_i, ax_clr_l, ax_clr_r, ax_clr_n, ax_ct_0, ax_ct_i, ax_ct_l, ax_ct_r, va_rf_s, Option.toList_some, Option.toList_none, List.cons_append, List.nil_append, and_true, true_and, and_self, ite_true, ite_false, if_true, if_false, Nat.reduceAdd, Nat.reduceLeDiff, Nat.reduceMul, Nat.reduceLT, nI_add, pk_mul, nI_lt', nI_le', nI_eq', nI_lt0, nI_ge0, nI_eq0, nI_gt0, nI_le0, nI_ne_m1, m1_ne_nI, m1_lt_nI, m1_le_nI, nI_lt_m1, nI_le_m1, nI_clamp, ax_in_nI, nI_shl, nI_shr, lg_cmp0, nx_and, nI_eq1, bI_0, bI_1, bf_or, eq_self, or_true, true_or]
        exact hQ0 h5 _ (f4.tr f5.z) ft5 rfl
    · rw [tk_n (fun w => z ⟨w.1, by omega, of_decide_eq_true w.2⟩), if_neg (by simp)] at hQ0
      simp (disch := omega) only [sR_readMethod_33, sR_readMethod_36, sR_readMethod_37, ax_clr_i, ax_clr_l, ax_clr_r, ax_clr_n, ax_ct_0, ax_ct_i, ax_ct_l, ax_ct_r, va_rf_s, Option.toList_some, Option.toList_none, List.cons_append, List.nil_append, and_true, true_and, and_self, ite_true, ite_false, if_true, if_false, Nat.reduceAdd, Nat.reduceLeDiff, Nat.reduceMul, Nat.reduceLT, nI_add, pk_mul, nI_lt', nI_le', nI_eq', nI_lt0, nI_ge0, nI_eq0, nI_gt0, nI_le0, nI_ne_m1, m1_ne_nI, m1_lt_nI, m1_le_nI, nI_lt_m1, nI_le_m1, nI_clamp, ax_in_nI, nI_shl, nI_shr, lg_cmp0, nx_and, nI_eq1, bI_0, bI_1, bf_or, eq_self, or_true, true_or]
      exact hQ0 h3 _ ((f1.z.tr f2.z).tr f3.z) ft3 rfl
  · rw [tk_n c, if_neg (by simp)] at hQ0
    simp (disch := omega) only [sR_readMethod_4, sR_readMethod_7, sR_readMethod_8, ax_clr_i, ax_clr_l, ax_clr_r, ax_clr_n, ax_ct_0, ax_ct_i, ax_ct_l, ax_ct_r, va_rf_s, Option.toList_some, Option.toList_none, List.cons_append, List.nil_append, and_true, true_and, and_self, ite_true, ite_false, if_true, if_false, Nat.reduceAdd, Nat.reduceLeDiff, Nat.reduceMul, Nat.reduceLT, nI_add, pk_mul, nI_lt', nI_le', nI_eq', nI_lt0, nI_ge0, nI_eq0, nI_gt0, nI_le0, nI_ne_m1, m1_ne_nI, m1_lt_nI, m1_le_nI, nI_lt_m1, nI_le_m1, nI_clamp, ax_in_nI, nI_shl, nI_shr, lg_cmp0, nx_and, nI_eq1, bI_0, bI_1, bf_or, eq_self, or_true, true_or]
    exact hQ0 h1 p f1.z ft rfl
theorem ocMs_app (b : List Nat) : ∀ (m j : Nat), ocMs b (m + 1) j = ocMs b m j ++ ocC b (pmj b (j + m) + 3) (pmj b (j + m) + 3 + bg b (pmj b (j + m) + 2)) (bg b (pmj b (j + m) + 2)) (pmj b (j + m) + 3) (bg b (pmj b (j + m) + 1))
  | 0, j => by simp [ocMs]
  | m + 1, j => by
    rw [ocMs, ocMs_app b m (j + 1), show j + 1 + m = j + (m + 1) by omega, ← List.append_assoc]; rfl
theorem mR_readMethods_l (hk : okK b) (hu : u < 13) (O : List oc4) (hO : O.length ≤ 4) (n : Nat) (hn : n ≤ 4) : ∀ (m i : Nat) (h : ax_H), i + m = n → (O ++ ocMs b i 0).length ≤ 4 + 12 * i → uS o s u h b (pmj b i) b.length own sup I F (mtU b i) (O ++ ocMs b i 0) → (∀ h', frZ u h h' → uS o s u h' b (pmj b n) b.length own sup I F (mtU b n) (O ++ ocMs b n 0) → sMs b (bg b 1) (offU b (bg b 1)) m (pmj b i) = (true, pmj b n) → Q (some (.int (bI true))) h') → (∀ h' q, frZ u h h' → h'.1 1 5 = nI q → sMs b (bg b 1) (offU b (bg b 1)) m (pmj b i) = (false, q) → Q (some (.int (bI false))) h') → ax_wp kC (d + 5) mR_readMethods 18 [some (.ref 1), some (.int (nI n)), some (.int (nI i))] [] h Q
  | 0, i, h, hi, hl, hs, hQ1, hQ0 => by
    have e : i = n := by omega
    subst e
    rw [sR_readMethods_18]
    simp (disch := omega) only [sR_readMethods_19, sR_readMethods_20, sR_readMethods_38, sR_readMethods_39, ax_clr_i, ax_clr_l, ax_clr_r, ax_clr_n, ax_ct_0, ax_ct_i, ax_ct_l, ax_ct_r, va_rf_s, Option.toList_some, Option.toList_none, List.cons_append, List.nil_append, and_true, true_and, and_self, ite_true, ite_false, if_true, if_false, Nat.reduceAdd, Nat.reduceLeDiff, Nat.reduceMul, Nat.reduceLT, nI_add, pk_mul, nI_lt', nI_le', nI_eq', nI_lt0, nI_ge0, nI_eq0, nI_gt0, nI_le0, nI_ne_m1, m1_ne_nI, m1_lt_nI, m1_le_nI, nI_lt_m1, nI_le_m1, nI_clamp, ax_in_nI, nI_shl, nI_shr, lg_cmp0, nx_and, nI_eq1, bI_0, bI_1, bf_or, eq_self, or_true, true_or, lt_T, le_T, lt_F, le_F, eq_F, eq_T]
    exact hQ1 h frZ.rf hs rfl
  | m + 1, i, h, hi, hl, hs, hQ1, hQ0 => by
    have hl2 : (mtU b i).length = i := by simp [mtU]
    unfold sMs at hQ1 hQ0
    rw [sR_readMethods_18]
    simp (disch := omega) only [sR_readMethods_19, sR_readMethods_20, sR_readMethods_23, sR_readMethods_24, ax_clr_i, ax_clr_l, ax_clr_r, ax_clr_n, ax_ct_0, ax_ct_i, ax_ct_l, ax_ct_r, va_rf_s, Option.toList_some, Option.toList_none, List.cons_append, List.nil_append, and_true, true_and, and_self, ite_true, ite_false, if_true, if_false, Nat.reduceAdd, Nat.reduceLeDiff, Nat.reduceMul, Nat.reduceLT, nI_add, pk_mul, nI_lt', nI_le', nI_eq', nI_lt0, nI_ge0, nI_eq0, nI_gt0, nI_le0, nI_ne_m1, m1_ne_nI, m1_lt_nI, m1_le_nI, nI_lt_m1, nI_le_m1, nI_clamp, ax_in_nI, nI_shl, nI_shr, lg_cmp0, nx_and, nI_eq1, bI_0, bI_1, bf_or, eq_self, or_true, true_or, lt_T, le_T, lt_F, le_F, eq_F, eq_T, kdC_0, kdC_1, kdC_2, kdC_3, kdC_4, kdC_5, kdC_6, kdC_7, kdC_8, kdC_9, kdC_10, kdC_11, kdC_12, kdC_13, kdC_14, kdC_15, kdC_16, kdU_1, kdU_2, kdU_3, kdU_4, kdU_5, kdU_6, kdU_7, kdU_, kdR_1, kdR_2, kdR_3, kdR_4, kdR_5, kdR_, rC_00, rC_01, rC_02, rC_03, rC_04, rC_10, rC_16, rC_18, rC_19, rC_1a, rC_20, rC_22, rC_23, rC_24, rC_25, rC_26, rC_27, rC_28, rC_4, rC_10k, rC_u3, rC_u5, rC_u7, rC_u9, rC_ua, rC_ub, rC_uc, rC_r4, rC_r5, rC_r6, rC_r7, rC_r8, Nat.add_zero]
    refine mR_readMethod_ hk hu (pmj b i) _ (by omega) (by omega) hs (fun h1 f1 s1 e1 => ?_) (fun h1 q f1 ft e1 => ?_)
    · have k := sMt_len (b := b) (n := bg b 1) (off := offU b (bg b 1)) (p := pmj b i) (by rw [e1])
      have kl := ocC_len b (bg b 1) (offU b (bg b 1)) (pmj b i + 3) (pmj b i + 3 + bg b (pmj b i + 2)) (bg b (pmj b i + 2)) (pmj b i + 3) (bg b (pmj b i + 1)) (by omega) (by omega) k.2.2.2.2
      have k4 := k.2.2.2.1
      rw [e1, if_pos rfl] at hQ1 hQ0
      simp (disch := omega) only [sR_readMethods_27, sR_readMethods_30, sR_readMethods_31, sR_readMethods_32, sR_readMethods_35, ax_clr_i, ax_clr_l, ax_clr_r, ax_clr_n, ax_ct_0, ax_ct_i, ax_ct_l, ax_ct_r, va_rf_s, Option.toList_some, Option.toList_none, List.cons_append, List.nil_append, and_true, true_and, and_self, ite_true, ite_false, if_true, if_false, Nat.reduceAdd, Nat.reduceLeDiff, Nat.reduceMul, Nat.reduceLT, nI_add, pk_mul, nI_lt', nI_le', nI_eq', nI_lt0, nI_ge0, nI_eq0, nI_gt0, nI_le0, nI_ne_m1, m1_ne_nI, m1_lt_nI, m1_le_nI, nI_lt_m1, nI_le_m1, nI_clamp, ax_in_nI, nI_shl, nI_shr, lg_cmp0, nx_and, nI_eq1, bI_0, bI_1, bf_or, eq_self, or_true, true_or, Bool.true_eq_false]
      have ea := ocMs_app b i 0
      rw [Nat.zero_add] at ea
      rw [List.append_assoc, ← ea] at s1
      have em : mtU b i ++ [txt b (cAt b (bg b (pmj b i)))] = mtU b (i + 1) := (mtU_app b i).symm
      rw [em] at s1
      refine mR_readMethods_l hk hu O hO n hn m (i + 1) h1 (by omega) ?_ s1 (fun h' f w1 w2 => hQ1 h' (f1.tr f) w1 w2) (fun h' q f w1 w2 => hQ0 h' q (f1.tr f) w1 w2)
      rw [ea, ← List.append_assoc, List.length_append]; omega
    · rw [e1, if_neg (by simp)] at hQ0
      simp (disch := omega) only [sR_readMethods_27, sR_readMethods_30, sR_readMethods_31, ax_clr_i, ax_clr_l, ax_clr_r, ax_clr_n, ax_ct_0, ax_ct_i, ax_ct_l, ax_ct_r, va_rf_s, Option.toList_some, Option.toList_none, List.cons_append, List.nil_append, and_true, true_and, and_self, ite_true, ite_false, if_true, if_false, Nat.reduceAdd, Nat.reduceLeDiff, Nat.reduceMul, Nat.reduceLT, nI_add, pk_mul, nI_lt', nI_le', nI_eq', nI_lt0, nI_ge0, nI_eq0, nI_gt0, nI_le0, nI_ne_m1, m1_ne_nI, m1_lt_nI, m1_le_nI, nI_lt_m1, nI_le_m1, nI_clamp, ax_in_nI, nI_shl, nI_shr, lg_cmp0, nx_and, nI_eq1, bI_0, bI_1, bf_or, eq_self, or_true, true_or]
      exact hQ0 h1 q f1 ft rfl
theorem mR_readMethods_ {h : ax_H} (hk : okK b) (hu : u < 13) (O : List oc4) (hO : O.length ≤ 4) (hs : uS o s u h b (pmU b) b.length own sup I F [] O) (hQ1 : ∀ h' q, frZ u h h' → uS o s u h' b q b.length own sup I F (mtU b (bg b (pmU b))) (O ++ ocMs b (bg b (pmU b)) 0) → sR4 b (bg b 1) (offU b (bg b 1)) (pmU b) = (decide (q = b.length), q) → q ≤ b.length → Q (some (.int (bI true))) h') (hQ0 : ∀ h' q, frZ u h h' → h'.1 1 5 = nI q → sR4 b (bg b 1) (offU b (bg b 1)) (pmU b) = (false, q) → Q (some (.int (bI false))) h') : ax_wp kC (d + 5) mR_readMethods 0 [some (.ref 1), none, none] [] h Q := by
  have h120 := hs.1.2.1.2.1
  unfold sR4 at hQ1 hQ0
  simp (disch := omega) only [sR_readMethods_0, sR_readMethods_1, sR_readMethods_2, sR_readMethods_3, ax_clr_i, ax_clr_l, ax_clr_r, ax_clr_n, ax_ct_0, ax_ct_i, ax_ct_l, ax_ct_r, va_rf_s, Option.toList_some, Option.toList_none, List.cons_append, List.nil_append, and_true, true_and, and_self, ite_true, ite_false, if_true, if_false, Nat.reduceAdd, Nat.reduceLeDiff, Nat.reduceMul, Nat.reduceLT, kdC_0, kdC_1, kdC_2, kdC_3, kdC_4, kdC_5, kdC_6, kdC_7, kdC_8, kdC_9, kdC_10, kdC_11, kdC_12, kdC_13, kdC_14, kdC_15, kdC_16, kdU_1, kdU_2, kdU_3, kdU_4, kdU_5, kdU_6, kdU_7, kdU_, kdR_1, kdR_2, kdR_3, kdR_4, kdR_5, kdR_, rC_00, rC_01, rC_02, rC_03, rC_04, rC_10, rC_16, rC_18, rC_19, rC_1a, rC_20, rC_22, rC_23, rC_24, rC_25, rC_26, rC_27, rC_28, rC_4, rC_10k, rC_u3, rC_u5, rC_u7, rC_u9, rC_ua, rC_ub, rC_uc, rC_r4, rC_r5, rC_r6, rC_r7, rC_r8, Nat.add_zero]
  refine mR_take_ hs.1 0 4 (by omega) (by omega) (fun h1 f1 s1 v1 c1 c2 c3 => ?_) (fun h1 f1 ft c => ?_)
  · rw [tk_y h120 c1 (decide_eq_true c3), if_pos rfl] at hQ1 hQ0
    simp (disch := omega) only [sR_readMethods_6, sR_readMethods_9, sR_readMethods_10, sR_readMethods_11, sR_readMethods_12, sR_readMethods_15, sR_readMethods_16, sR_readMethods_17, ax_clr_i, ax_clr_l, ax_clr_r, ax_clr_n, ax_ct_0, ax_ct_i, ax_ct_l, ax_ct_r, va_rf_s, Option.toList_some, Option.toList_none, List.cons_append, List.nil_append, and_true, true_and, and_self, ite_true, ite_false, if_true, if_false, Nat.reduceAdd, Nat.reduceLeDiff, Nat.reduceMul, Nat.reduceLT, nI_add, pk_mul, nI_lt', nI_le', nI_eq', nI_lt0, nI_ge0, nI_eq0, nI_gt0, nI_le0, nI_ne_m1, m1_ne_nI, m1_lt_nI, m1_le_nI, nI_lt_m1, nI_le_m1, nI_clamp, ax_in_nI, nI_shl, nI_shr, lg_cmp0, nx_and, nI_eq1, bI_0, bI_1, bf_or, eq_self, or_true, true_or, kdC_0, kdC_1, kdC_2, kdC_3, kdC_4, kdC_5, kdC_6, kdC_7, kdC_8, kdC_9, kdC_10, kdC_11, kdC_12, kdC_13, kdC_14, kdC_15, kdC_16, kdU_1, kdU_2, kdU_3, kdU_4, kdU_5, kdU_6, kdU_7, kdU_, kdR_1, kdR_2, kdR_3, kdR_4, kdR_5, kdR_, rC_00, rC_01, rC_02, rC_03, rC_04, rC_10, rC_16, rC_18, rC_19, rC_1a, rC_20, rC_22, rC_23, rC_24, rC_25, rC_26, rC_27, rC_28, rC_4, rC_10k, rC_u3, rC_u5, rC_u7, rC_u9, rC_ua, rC_ub, rC_uc, rC_r4, rC_r5, rC_r6, rC_r7, rC_r8, Nat.add_zero, v1, Bool.true_eq_false]
    have e0 : pmj b 0 = pmU b + 1 := rfl
    rw [← e0] at hQ1 hQ0
    have hs1 : uS o s u h1 b (pmj b 0) b.length own sup I F (mtU b 0) (O ++ ocMs b 0 0) := by
      have := hs.t f1 s1
      simpa [mtU, ocMs, pmj] using this
    refine mR_readMethods_l hk hu O hO (bg b (pmU b)) c3 (bg b (pmU b)) 0 h1 (by omega) (by simpa [ocMs] using hO) hs1 (fun h' f w1 w2 => ?_) (fun h' q f w1 w2 => ?_)
    · have kl := sMs_len b (bg b 1) (offU b (bg b 1)) (bg b (pmU b)) (pmj b 0) (by rw [e0]; omega) (by rw [w2])
      rw [w2] at kl
      rw [w2, if_pos rfl] at hQ1
      exact hQ1 h' (pmj b (bg b (pmU b))) (f1.z.tr f) w1 rfl kl
    · rw [w2, if_neg (by simp)] at hQ0
      exact hQ0 h' q (f1.z.tr f) w1 rfl
  · rw [tk_n (fun w => c ⟨w.1, by omega, of_decide_eq_true w.2⟩), if_neg (by simp)] at hQ0
    simp (disch := omega) only [sR_readMethods_6, sR_readMethods_9, sR_readMethods_10, ax_clr_i, ax_clr_l, ax_clr_r, ax_clr_n, ax_ct_0, ax_ct_i, ax_ct_l, ax_ct_r, va_rf_s, Option.toList_some, Option.toList_none, List.cons_append, List.nil_append, and_true, true_and, and_self, ite_true, ite_false, if_true, if_false, Nat.reduceAdd, Nat.reduceLeDiff, Nat.reduceMul, Nat.reduceLT, nI_add, pk_mul, nI_lt', nI_le', nI_eq', nI_lt0, nI_ge0, nI_eq0, nI_gt0, nI_le0, nI_ne_m1, m1_ne_nI, m1_lt_nI, m1_le_nI, nI_lt_m1, nI_le_m1, nI_clamp, ax_in_nI, nI_shl, nI_shr, lg_cmp0, nx_and, nI_eq1, bI_0, bI_1, bf_or, eq_self, or_true, true_or]
    exact hQ0 h1 _ f1.z ft rfl
end CM
/-! a whole unit -/
theorem rC_upx (o : Nat → Nat) (s : Nat) (x v : Option Nat) {h : ax_H} (hr : h.2.2 = rC o s x) : (ax_upR h 1 6 v).2.2 = rC o s v := by
  funext r k
  rw [up_R, hr]
  by_cases e : r = 1 ∧ k = 6
  · rw [if_pos e, e.1, e.2]; rfl
  · rw [if_neg e]
    unfold rC
    by_cases e1 : r = 1
    · subst e1
      simp only [if_pos, if_neg, reduceIte, Nat.reduceEqDiff, Nat.succ_ne_self]
      have e2 : ¬ k = 6 := fun w => e ⟨rfl, w⟩
      match k with
      | 0 => rfl
      | 1 => rfl
      | 2 => rfl
      | 3 => rfl
      | 4 => rfl
      | 5 => rfl
      | 6 => exact absurd rfl e2
      | 7 => rfl
      | 8 => rfl
      | 9 => rfl
      | 10 => rfl
      | k + 11 => rfl
    · simp only [if_neg e1]
/-- what reading a unit leaves alone -/
def frY (u : Nat) (h h' : ax_H) : Prop := (∀ r j, ¬ (r = 1 ∧ 1 ≤ j) → ¬ (r = 7 ∨ r = 9) → ¬ (17 + 8 * u ≤ r ∧ r < 17 + 8 * u + 8) → h'.1 r j = h.1 r j) ∧ ∀ r j, ¬ r = 8 → ¬ (17 + 8 * u ≤ r ∧ r < 17 + 8 * u + 8) → h'.2.1 r j = h.2.1 r j
theorem frY.tr {u : Nat} {h h' h2 : ax_H} (a : frY u h h') (b : frY u h' h2) : frY u h h2 := ⟨fun r j h1 h3 h4 => (b.1 r j h1 h3 h4).trans (a.1 r j h1 h3 h4), fun r j h1 h3 => (b.2 r j h1 h3).trans (a.2 r j h1 h3)⟩
theorem frZ.y {u : Nat} {h h' : ax_H} (f : frZ u h h') : frY u h h' := ⟨fun r j h1 h2 h3 => f.2.1 r j (by omega) h3, fun r j h1 h2 => f.2.2 r j h2⟩
theorem frE.y {u : Nat} {h h' : ax_H} (f : frE h h') : frY u h h' := ⟨fun r j h1 h2 h3 => f.2.1 r j (by omega) (by omega), fun r j h1 h2 => f.2.2 r j h1⟩
def unK (h : ax_H) (u : Nat) (b : List Nat) : Prop := unC h (17 + 8 * u) (ownU b) (supU b) (ifU b (bg b (piU b))) (fdU b (bg b (pfU b))) (mtU b (bg b (pmU b))) (ocU b)
section CI2
variable {d : Nat} {Q : Option Value → ax_H → Prop} {o : Nat → Nat} {s : Nat} {x : Option Nat} {b : List Nat}
theorem mR_readInto_ {h : ax_H} (u : Nat) (hu : u < 13) (hr : h.2.2 = rC o s x) (hb : bfC h b) (hQ : ∀ h', h'.2.2 = rC o s (some (17 + 8 * u)) → frY u h h' → h'.1 1 1 = nI 0 → ((ldU b).1 = true → unK h' u b) → Q (some (.int (if (ldU b).1 = true then -1 else nI (ldU b).2))) h') : ax_wp kC (d + 6) mR_readInto 0 [some (.ref 1), some (.ref (17 + 8 * u)), none] [] h Q := by
  have kl : (17 + 8 * u < kC.length) = True := by
    rw [kC_len]; exact eq_true (by omega)
  have h120 := hb.2.1
  simp (disch := omega) only [sR_readInto_0, sR_readInto_1, sR_readInto_2, sR_readInto_5, sR_readInto_6, sR_readInto_9, ax_clr_i, ax_clr_l, ax_clr_r, ax_clr_n, ax_ct_0, ax_ct_i, ax_ct_l, ax_ct_r, va_rf_s, Option.toList_some, Option.toList_none, List.cons_append, List.nil_append, and_true, true_and, and_self, ite_true, ite_false, if_true, if_false, Nat.reduceAdd, Nat.reduceLeDiff, Nat.reduceMul, Nat.reduceLT, kdC_0, kdC_1, kdC_2, kdC_3, kdC_4, kdC_5, kdC_6, kdC_7, kdC_8, kdC_9, kdC_10, kdC_11, kdC_12, kdC_13, kdC_14, kdC_15, kdC_16, kdU_1, kdU_2, kdU_3, kdU_4, kdU_5, kdU_6, kdU_7, kdU_, kdR_1, kdR_2, kdR_3, kdR_4, kdR_5, kdR_, rC_00, rC_01, rC_02, rC_03, rC_04, rC_10, rC_16, rC_18, rC_19, rC_1a, rC_20, rC_22, rC_23, rC_24, rC_25, rC_26, rC_27, rC_28, rC_4, rC_10k, rC_u3, rC_u5, rC_u7, rC_u9, rC_ua, rC_ub, rC_uc, rC_r4, rC_r5, rC_r6, rC_r7, rC_r8, Nat.add_zero, kl, up_R, and_self, reduceIte]
  have hr0 := rC_upx o s x (some (17 + 8 * u)) hr
  have hb0 : bfC (ax_upR h 1 6 (some (17 + 8 * u))) b := hb
  have f0 : frY u h (ax_upR h 1 6 (some (17 + 8 * u))) := ⟨fun _ _ _ _ _ => rfl, fun _ _ _ _ => rfl⟩
  generalize ax_upR h 1 6 (some (17 + 8 * u)) = h0 at hr0 hb0 f0 ⊢
  refine mU_clear_ u hu (fun h1 f1 u1 => ?_)
  have hr1 : h1.2.2 = rC o s (some (17 + 8 * u)) := by rw [f1.1]; exact hr0
  have hb1 := hb0.n f1
  have z1 := hb1.1
  -- the end, whatever the reading gave
  have bad : ∀ (h9 : ax_H) (q : Nat), h9.2.2 = rC o s (some (17 + 8 * u)) → frY u h1 h9 → h9.1 1 5 = nI q → ldU b = (false, q) → ax_wp kC (d + 6) mR_readInto 82 [some (.ref 1), some (.ref (17 + 8 * u)), none] [] h9 Q := fun h9 q r9 f9 ft e => by
    simp (disch := omega) only [sR_readInto_82, sR_readInto_83, sR_readInto_84, sR_readInto_85, sR_readInto_107, sR_readInto_108, sR_readInto_109, sR_readInto_112, sR_readInto_113, sR_readInto_116, ax_clr_i, ax_clr_l, ax_clr_r, ax_clr_n, ax_ct_0, ax_ct_i, ax_ct_l, ax_ct_r, va_rf_s, Option.toList_some, Option.toList_none, List.cons_append, List.nil_append, and_true, true_and, and_self, ite_true, ite_false, if_true, if_false, Nat.reduceAdd, Nat.reduceLeDiff, Nat.reduceMul, Nat.reduceLT, nI_add, pk_mul, nI_lt', nI_le', nI_eq', nI_lt0, nI_ge0, nI_eq0, nI_gt0, nI_le0, nI_ne_m1, m1_ne_nI, m1_lt_nI, m1_le_nI, nI_lt_m1, nI_le_m1, nI_clamp, ax_in_nI, nI_shl, nI_shr, lg_cmp0, nx_and, nI_eq1, bI_0, bI_1, bf_or, eq_self, or_true, true_or, kdC_0, kdC_1, kdC_2, kdC_3, kdC_4, kdC_5, kdC_6, kdC_7, kdC_8, kdC_9, kdC_10, kdC_11, kdC_12, kdC_13, kdC_14, kdC_15, kdC_16, kdU_1, kdU_2, kdU_3, kdU_4, kdU_5, kdU_6, kdU_7, kdU_, kdR_1, kdR_2, kdR_3, kdR_4, kdR_5, kdR_, rC_00, rC_01, rC_02, rC_03, rC_04, rC_10, rC_16, rC_18, rC_19, rC_1a, rC_20, rC_22, rC_23, rC_24, rC_25, rC_26, rC_27, rC_28, rC_4, rC_10k, rC_u3, rC_u5, rC_u7, rC_u9, rC_ua, rC_ub, rC_uc, rC_r4, rC_r5, rC_r6, rC_r7, rC_r8, Nat.add_zero, up_I, Nat.reduceEqDiff, and_false, reduceIte, ft]
    have hQ2 := hQ (ax_upI h9 1 1 (nI 0)) (by rw [up_I2]; exact r9) (((f0.tr f1.z.y).tr f9).tr ⟨fun r j w _ _ => by rw [up_I, if_neg (by omega)], fun _ _ _ _ => rfl⟩) (up_at _ _ _ _) (fun w => by rw [e] at w; cases w)
    rw [e, if_neg (by simp)] at hQ2
    exact hQ2
  simp (disch := omega) only [sR_readInto_12, sR_readInto_13, sR_readInto_14, sR_readInto_17, sR_readInto_18, sR_readInto_19, sR_readInto_22, sR_readInto_25, sR_readInto_26, sR_readInto_27, sR_readInto_30, sR_readInto_31, sR_readInto_34, sR_readInto_37, ax_clr_i, ax_clr_l, ax_clr_r, ax_clr_n, ax_ct_0, ax_ct_i, ax_ct_l, ax_ct_r, va_rf_s, Option.toList_some, Option.toList_none, List.cons_append, List.nil_append, and_true, true_and, and_self, ite_true, ite_false, if_true, if_false, Nat.reduceAdd, Nat.reduceLeDiff, Nat.reduceMul, Nat.reduceLT, nI_add, pk_mul, nI_lt', nI_le', nI_eq', nI_lt0, nI_ge0, nI_eq0, nI_gt0, nI_le0, nI_ne_m1, m1_ne_nI, m1_lt_nI, m1_le_nI, nI_lt_m1, nI_le_m1, nI_clamp, ax_in_nI, nI_shl, nI_shr, lg_cmp0, nx_and, nI_eq1, bI_0, bI_1, bf_or, eq_self, or_true, true_or, kdC_0, kdC_1, kdC_2, kdC_3, kdC_4, kdC_5, kdC_6, kdC_7, kdC_8, kdC_9, kdC_10, kdC_11, kdC_12, kdC_13, kdC_14, kdC_15, kdC_16, kdU_1, kdU_2, kdU_3, kdU_4, kdU_5, kdU_6, kdU_7, kdU_, kdR_1, kdR_2, kdR_3, kdR_4, kdR_5, kdR_, rC_00, rC_01, rC_02, rC_03, rC_04, rC_10, rC_16, rC_18, rC_19, rC_1a, rC_20, rC_22, rC_23, rC_24, rC_25, rC_26, rC_27, rC_28, rC_4, rC_10k, rC_u3, rC_u5, rC_u7, rC_u9, rC_ua, rC_ub, rC_uc, rC_r4, rC_r5, rC_r6, rC_r7, rC_r8, Nat.add_zero, z1, up_I, Nat.reduceEqDiff, and_false, false_and, reduceIte]
  have e2 : ∀ r j, ¬ (r = 1 ∧ (j = 2 ∨ j = 3 ∨ j = 5)) → (ax_upI (ax_upI (ax_upI h1 1 2 (nI 0)) 1 3 (nI b.length)) 1 5 (-1)).1 r j = h1.1 r j := fun r j w => by rw [up_I, if_neg (by omega), up_I, if_neg (by omega), up_I, if_neg (by omega)]
  have s2 : rS o s (some (17 + 8 * u)) (ax_upI (ax_upI (ax_upI h1 1 2 (nI 0)) 1 3 (nI b.length)) 1 5 (-1)) b 0 b.length := ⟨hr1, ⟨by rw [e2 _ _ (by omega)]; exact hb1.1, hb1.2.1, fun j hj => by rw [e2 _ _ (by omega)]; exact hb1.2.2.1 j hj, hb1.2.2.2⟩, by simp [up_I], by simp [up_I], Nat.le_refl _, by omega, up_at _ _ _ _⟩
  have u2 : unC (ax_upI (ax_upI (ax_upI h1 1 2 (nI 0)) 1 3 (nI b.length)) 1 5 (-1)) (17 + 8 * u) [] [] [] [] [] [] := u1.keep (fun a k _ _ => e2 _ _ (by omega)) (fun a k _ _ => rfl)
  have f2 : frY u h1 (ax_upI (ax_upI (ax_upI h1 1 2 (nI 0)) 1 3 (nI b.length)) 1 5 (-1)) := ⟨fun r j w _ _ => e2 r j (by omega), fun _ _ _ _ => rfl⟩
  have m2 : (ax_upI (ax_upI (ax_upI h1 1 2 (nI 0)) 1 3 (nI b.length)) 1 5 (-1)).1 1 5 = -1 := up_at _ _ _ _
  generalize ax_upI (ax_upI (ax_upI h1 1 2 (nI 0)) 1 3 (nI b.length)) 1 5 (-1) = h2 at s2 u2 f2 m2 ⊢
  refine mR_take_ s2 197 197 (by omega) (by omega) (fun h3 f3 s3 v3 c1 c2 c3 => ?_) (fun h3 f3 ft c => ?_)
  · have n0 : 0 < b.length ∧ bg b 0 = 197 := ⟨c1, by omega⟩
    simp (disch := omega) only [sR_readInto_40, sR_readInto_43, sR_readInto_44, ax_clr_i, ax_clr_l, ax_clr_r, ax_clr_n, ax_ct_0, ax_ct_i, ax_ct_l, ax_ct_r, va_rf_s, Option.toList_some, Option.toList_none, List.cons_append, List.nil_append, and_true, true_and, and_self, ite_true, ite_false, if_true, if_false, Nat.reduceAdd, Nat.reduceLeDiff, Nat.reduceMul, Nat.reduceLT, nI_add, pk_mul, nI_lt', nI_le', nI_eq', nI_lt0, nI_ge0, nI_eq0, nI_gt0, nI_le0, nI_ne_m1, m1_ne_nI, m1_lt_nI, m1_le_nI, nI_lt_m1, nI_le_m1, nI_clamp, ax_in_nI, nI_shl, nI_shr, lg_cmp0, nx_and, nI_eq1, bI_0, bI_1, bf_or, eq_self, or_true, true_or, kdC_0, kdC_1, kdC_2, kdC_3, kdC_4, kdC_5, kdC_6, kdC_7, kdC_8, kdC_9, kdC_10, kdC_11, kdC_12, kdC_13, kdC_14, kdC_15, kdC_16, kdU_1, kdU_2, kdU_3, kdU_4, kdU_5, kdU_6, kdU_7, kdU_, kdR_1, kdR_2, kdR_3, kdR_4, kdR_5, kdR_, rC_00, rC_01, rC_02, rC_03, rC_04, rC_10, rC_16, rC_18, rC_19, rC_1a, rC_20, rC_22, rC_23, rC_24, rC_25, rC_26, rC_27, rC_28, rC_4, rC_10k, rC_u3, rC_u5, rC_u7, rC_u9, rC_ua, rC_ub, rC_uc, rC_r4, rC_r5, rC_r6, rC_r7, rC_r8, Nat.add_zero, Bool.true_eq_false]
    refine mR_readConstants_ s3 n0 (fun h4 f4 s4 t4 cu ok => ?_) (fun h4 f4 ft bd => ?_)
    · have f14 : frY u h1 h4 := (f2.tr f3.z.y).tr f4.y
      simp (disch := omega) only [sR_readInto_47, sR_readInto_50, sR_readInto_51, ax_clr_i, ax_clr_l, ax_clr_r, ax_clr_n, ax_ct_0, ax_ct_i, ax_ct_l, ax_ct_r, va_rf_s, Option.toList_some, Option.toList_none, List.cons_append, List.nil_append, and_true, true_and, and_self, ite_true, ite_false, if_true, if_false, Nat.reduceAdd, Nat.reduceLeDiff, Nat.reduceMul, Nat.reduceLT, nI_add, pk_mul, nI_lt', nI_le', nI_eq', nI_lt0, nI_ge0, nI_eq0, nI_gt0, nI_le0, nI_ne_m1, m1_ne_nI, m1_lt_nI, m1_le_nI, nI_lt_m1, nI_le_m1, nI_clamp, ax_in_nI, nI_shl, nI_shr, lg_cmp0, nx_and, nI_eq1, bI_0, bI_1, bf_or, eq_self, or_true, true_or, kdC_0, kdC_1, kdC_2, kdC_3, kdC_4, kdC_5, kdC_6, kdC_7, kdC_8, kdC_9, kdC_10, kdC_11, kdC_12, kdC_13, kdC_14, kdC_15, kdC_16, kdU_1, kdU_2, kdU_3, kdU_4, kdU_5, kdU_6, kdU_7, kdU_, kdR_1, kdR_2, kdR_3, kdR_4, kdR_5, kdR_, rC_00, rC_01, rC_02, rC_03, rC_04, rC_10, rC_16, rC_18, rC_19, rC_1a, rC_20, rC_22, rC_23, rC_24, rC_25, rC_26, rC_27, rC_28, rC_4, rC_10k, rC_u3, rC_u5, rC_u7, rC_u9, rC_ua, rC_ub, rC_uc, rC_r4, rC_r5, rC_r6, rC_r7, rC_r8, Nat.add_zero, Bool.true_eq_false]
      refine mR_checkNumbers_ s4.1 s4.2.1 t4 cu (fun hk => ?_) (fun bd => ?_)
      · simp (disch := omega) only [sR_readInto_54, sR_readInto_57, sR_readInto_58, ax_clr_i, ax_clr_l, ax_clr_r, ax_clr_n, ax_ct_0, ax_ct_i, ax_ct_l, ax_ct_r, va_rf_s, Option.toList_some, Option.toList_none, List.cons_append, List.nil_append, and_true, true_and, and_self, ite_true, ite_false, if_true, if_false, Nat.reduceAdd, Nat.reduceLeDiff, Nat.reduceMul, Nat.reduceLT, nI_add, pk_mul, nI_lt', nI_le', nI_eq', nI_lt0, nI_ge0, nI_eq0, nI_gt0, nI_le0, nI_ne_m1, m1_ne_nI, m1_lt_nI, m1_le_nI, nI_lt_m1, nI_le_m1, nI_clamp, ax_in_nI, nI_shl, nI_shr, lg_cmp0, nx_and, nI_eq1, bI_0, bI_1, bf_or, eq_self, or_true, true_or, kdC_0, kdC_1, kdC_2, kdC_3, kdC_4, kdC_5, kdC_6, kdC_7, kdC_8, kdC_9, kdC_10, kdC_11, kdC_12, kdC_13, kdC_14, kdC_15, kdC_16, kdU_1, kdU_2, kdU_3, kdU_4, kdU_5, kdU_6, kdU_7, kdU_, kdR_1, kdR_2, kdR_3, kdR_4, kdR_5, kdR_, rC_00, rC_01, rC_02, rC_03, rC_04, rC_10, rC_16, rC_18, rC_19, rC_1a, rC_20, rC_22, rC_23, rC_24, rC_25, rC_26, rC_27, rC_28, rC_4, rC_10k, rC_u3, rC_u5, rC_u7, rC_u9, rC_ua, rC_ub, rC_uc, rC_r4, rC_r5, rC_r6, rC_r7, rC_r8, Nat.add_zero, Bool.true_eq_false]
        refine mR_readParents_ hk hu ⟨s4, t4, (u2.t f3).e f4⟩ ok (fun h5 f5 s5 e5 l5 => ?_) (fun h5 q f5 ft e5 => ?_)
        · simp (disch := omega) only [sR_readInto_61, sR_readInto_64, sR_readInto_65, ax_clr_i, ax_clr_l, ax_clr_r, ax_clr_n, ax_ct_0, ax_ct_i, ax_ct_l, ax_ct_r, va_rf_s, Option.toList_some, Option.toList_none, List.cons_append, List.nil_append, and_true, true_and, and_self, ite_true, ite_false, if_true, if_false, Nat.reduceAdd, Nat.reduceLeDiff, Nat.reduceMul, Nat.reduceLT, nI_add, pk_mul, nI_lt', nI_le', nI_eq', nI_lt0, nI_ge0, nI_eq0, nI_gt0, nI_le0, nI_ne_m1, m1_ne_nI, m1_lt_nI, m1_le_nI, nI_lt_m1, nI_le_m1, nI_clamp, ax_in_nI, nI_shl, nI_shr, lg_cmp0, nx_and, nI_eq1, bI_0, bI_1, bf_or, eq_self, or_true, true_or, kdC_0, kdC_1, kdC_2, kdC_3, kdC_4, kdC_5, kdC_6, kdC_7, kdC_8, kdC_9, kdC_10, kdC_11, kdC_12, kdC_13, kdC_14, kdC_15, kdC_16, kdU_1, kdU_2, kdU_3, kdU_4, kdU_5, kdU_6, kdU_7, kdU_, kdR_1, kdR_2, kdR_3, kdR_4, kdR_5, kdR_, rC_00, rC_01, rC_02, rC_03, rC_04, rC_10, rC_16, rC_18, rC_19, rC_1a, rC_20, rC_22, rC_23, rC_24, rC_25, rC_26, rC_27, rC_28, rC_4, rC_10k, rC_u3, rC_u5, rC_u7, rC_u9, rC_ua, rC_ub, rC_uc, rC_r4, rC_r5, rC_r6, rC_r7, rC_r8, Nat.add_zero, Bool.true_eq_false]
          refine mR_readFields_ hk hu _ _ _ _ s5 (fun h6 f6 s6 e6 => ?_) (fun h6 q f6 ft e6 => ?_)
          · simp (disch := omega) only [sR_readInto_68, sR_readInto_71, sR_readInto_72, ax_clr_i, ax_clr_l, ax_clr_r, ax_clr_n, ax_ct_0, ax_ct_i, ax_ct_l, ax_ct_r, va_rf_s, Option.toList_some, Option.toList_none, List.cons_append, List.nil_append, and_true, true_and, and_self, ite_true, ite_false, if_true, if_false, Nat.reduceAdd, Nat.reduceLeDiff, Nat.reduceMul, Nat.reduceLT, nI_add, pk_mul, nI_lt', nI_le', nI_eq', nI_lt0, nI_ge0, nI_eq0, nI_gt0, nI_le0, nI_ne_m1, m1_ne_nI, m1_lt_nI, m1_le_nI, nI_lt_m1, nI_le_m1, nI_clamp, ax_in_nI, nI_shl, nI_shr, lg_cmp0, nx_and, nI_eq1, bI_0, bI_1, bf_or, eq_self, or_true, true_or, kdC_0, kdC_1, kdC_2, kdC_3, kdC_4, kdC_5, kdC_6, kdC_7, kdC_8, kdC_9, kdC_10, kdC_11, kdC_12, kdC_13, kdC_14, kdC_15, kdC_16, kdU_1, kdU_2, kdU_3, kdU_4, kdU_5, kdU_6, kdU_7, kdU_, kdR_1, kdR_2, kdR_3, kdR_4, kdR_5, kdR_, rC_00, rC_01, rC_02, rC_03, rC_04, rC_10, rC_16, rC_18, rC_19, rC_1a, rC_20, rC_22, rC_23, rC_24, rC_25, rC_26, rC_27, rC_28, rC_4, rC_10k, rC_u3, rC_u5, rC_u7, rC_u9, rC_ua, rC_ub, rC_uc, rC_r4, rC_r5, rC_r6, rC_r7, rC_r8, Nat.add_zero, Bool.true_eq_false]
            have lo : (ocS b ++ ocI b (bg b (piU b)) 0).length ≤ 4 := by
              have hl0 : (ocS b).length ≤ 1 := by unfold ocS; split <;> simp
              have hl1 : (ocI b (bg b (piU b)) 0).length = bg b (piU b) := by simp [ocI]
              rw [List.length_append]; omega
            refine mR_readMethods_ hk hu _ lo s6 (fun h7 q f7 s7 e7 l7 => ?_) (fun h7 q f7 ft e7 => ?_)
            · have a7 := s7.1.2.2.1
              have z7 := s7.1.2.1.1
              have m7 := s7.1.2.2.2.2.2.2
              have r7 := s7.1.1
              have f17 := ((f14.tr f5.y).tr f6.y).tr f7.y
              have eL : ldU b = (decide (q = b.length), q) := e5.trans (e6.trans e7)
              have n1z : (nI 1 = 0) = False := by decide
              simp (disch := omega) only [n1z, sR_readInto_75, sR_readInto_78, sR_readInto_79, sR_readInto_83, sR_readInto_84, sR_readInto_85, sR_readInto_88, sR_readInto_89, sR_readInto_92, sR_readInto_93, sR_readInto_96, ax_clr_i, ax_clr_l, ax_clr_r, ax_clr_n, ax_ct_0, ax_ct_i, ax_ct_l, ax_ct_r, va_rf_s, Option.toList_some, Option.toList_none, List.cons_append, List.nil_append, and_true, true_and, and_self, ite_true, ite_false, if_true, if_false, Nat.reduceAdd, Nat.reduceLeDiff, Nat.reduceMul, Nat.reduceLT, kdC_0, kdC_1, kdC_2, kdC_3, kdC_4, kdC_5, kdC_6, kdC_7, kdC_8, kdC_9, kdC_10, kdC_11, kdC_12, kdC_13, kdC_14, kdC_15, kdC_16, kdU_1, kdU_2, kdU_3, kdU_4, kdU_5, kdU_6, kdU_7, kdU_, kdR_1, kdR_2, kdR_3, kdR_4, kdR_5, kdR_, rC_00, rC_01, rC_02, rC_03, rC_04, rC_10, rC_16, rC_18, rC_19, rC_1a, rC_20, rC_22, rC_23, rC_24, rC_25, rC_26, rC_27, rC_28, rC_4, rC_10k, rC_u3, rC_u5, rC_u7, rC_u9, rC_ua, rC_ub, rC_uc, rC_r4, rC_r5, rC_r6, rC_r7, rC_r8, Nat.add_zero, nI_le', bI_0, Bool.true_eq_false, a7, z7]
              by_cases eq : q = b.length
              · rw [if_pos (by omega)]
                simp (disch := omega) only [sR_readInto_107, sR_readInto_108, sR_readInto_109, sR_readInto_112, sR_readInto_113, sR_readInto_116, ax_clr_i, ax_clr_l, ax_clr_r, ax_clr_n, ax_ct_0, ax_ct_i, ax_ct_l, ax_ct_r, va_rf_s, Option.toList_some, Option.toList_none, List.cons_append, List.nil_append, and_true, true_and, and_self, ite_true, ite_false, if_true, if_false, Nat.reduceAdd, Nat.reduceLeDiff, Nat.reduceMul, Nat.reduceLT, nI_add, pk_mul, nI_lt', nI_le', nI_eq', nI_lt0, nI_ge0, nI_eq0, nI_gt0, nI_le0, nI_ne_m1, m1_ne_nI, m1_lt_nI, m1_le_nI, nI_lt_m1, nI_le_m1, nI_clamp, ax_in_nI, nI_shl, nI_shr, lg_cmp0, nx_and, nI_eq1, bI_0, bI_1, bf_or, eq_self, or_true, true_or, kdC_0, kdC_1, kdC_2, kdC_3, kdC_4, kdC_5, kdC_6, kdC_7, kdC_8, kdC_9, kdC_10, kdC_11, kdC_12, kdC_13, kdC_14, kdC_15, kdC_16, kdU_1, kdU_2, kdU_3, kdU_4, kdU_5, kdU_6, kdU_7, kdU_, kdR_1, kdR_2, kdR_3, kdR_4, kdR_5, kdR_, rC_00, rC_01, rC_02, rC_03, rC_04, rC_10, rC_16, rC_18, rC_19, rC_1a, rC_20, rC_22, rC_23, rC_24, rC_25, rC_26, rC_27, rC_28, rC_4, rC_10k, rC_u3, rC_u5, rC_u7, rC_u9, rC_ua, rC_ub, rC_uc, rC_r4, rC_r5, rC_r6, rC_r7, rC_r8, Nat.add_zero, up_I, Nat.reduceEqDiff, and_false, reduceIte, m7]
                have hQ2 := hQ (ax_upI h7 1 1 (nI 0)) (by rw [up_I2]; exact r7) (((f0.tr f1.z.y).tr f17).tr ⟨fun r j w _ _ => by rw [up_I, if_neg (by omega)], fun _ _ _ _ => rfl⟩) (up_at _ _ _ _) (fun _ => s7.2.2.keep (fun a k _ _ => by rw [up_I, if_neg (by omega)]) (fun a k _ _ => rfl))
                rw [eL, if_pos (decide_eq_true eq)] at hQ2
                exact hQ2
              · rw [if_neg (by omega)]
                simp (disch := omega) only [sR_readInto_99, sR_readInto_100, sR_readInto_101, sR_readInto_104, sR_readInto_107, sR_readInto_108, sR_readInto_109, sR_readInto_112, sR_readInto_113, sR_readInto_116, ax_clr_i, ax_clr_l, ax_clr_r, ax_clr_n, ax_ct_0, ax_ct_i, ax_ct_l, ax_ct_r, va_rf_s, Option.toList_some, Option.toList_none, List.cons_append, List.nil_append, and_true, true_and, and_self, ite_true, ite_false, if_true, if_false, Nat.reduceAdd, Nat.reduceLeDiff, Nat.reduceMul, Nat.reduceLT, nI_add, pk_mul, nI_lt', nI_le', nI_eq', nI_lt0, nI_ge0, nI_eq0, nI_gt0, nI_le0, nI_ne_m1, m1_ne_nI, m1_lt_nI, m1_le_nI, nI_lt_m1, nI_le_m1, nI_clamp, ax_in_nI, nI_shl, nI_shr, lg_cmp0, nx_and, nI_eq1, bI_0, bI_1, bf_or, eq_self, or_true, true_or, kdC_0, kdC_1, kdC_2, kdC_3, kdC_4, kdC_5, kdC_6, kdC_7, kdC_8, kdC_9, kdC_10, kdC_11, kdC_12, kdC_13, kdC_14, kdC_15, kdC_16, kdU_1, kdU_2, kdU_3, kdU_4, kdU_5, kdU_6, kdU_7, kdU_, kdR_1, kdR_2, kdR_3, kdR_4, kdR_5, kdR_, rC_00, rC_01, rC_02, rC_03, rC_04, rC_10, rC_16, rC_18, rC_19, rC_1a, rC_20, rC_22, rC_23, rC_24, rC_25, rC_26, rC_27, rC_28, rC_4, rC_10k, rC_u3, rC_u5, rC_u7, rC_u9, rC_ua, rC_ub, rC_uc, rC_r4, rC_r5, rC_r6, rC_r7, rC_r8, Nat.add_zero, up_I, Nat.reduceEqDiff, and_false, false_and, reduceIte, a7]
                have hQ2 := hQ (ax_upI (ax_upI h7 1 5 (nI q)) 1 1 (nI 0)) (by rw [up_I2, up_I2]; exact r7) (((f0.tr f1.z.y).tr f17).tr ⟨fun r j w _ _ => by rw [up_I, if_neg (by omega), up_I, if_neg (by omega)], fun _ _ _ _ => rfl⟩) (up_at _ _ _ _) (fun w => by rw [eL] at w; exact absurd (of_decide_eq_true w) eq)
                rw [eL, if_neg (by rw [decide_eq_false eq]; simp)] at hQ2
                exact hQ2
            · simp (disch := omega) only [sR_readInto_75, ax_clr_i, ax_clr_l, ax_clr_r, ax_clr_n, ax_ct_0, ax_ct_i, ax_ct_l, ax_ct_r, va_rf_s, Option.toList_some, Option.toList_none, List.cons_append, List.nil_append, and_true, true_and, and_self, ite_true, ite_false, if_true, if_false, Nat.reduceAdd, Nat.reduceLeDiff, Nat.reduceMul, Nat.reduceLT, nI_add, pk_mul, nI_lt', nI_le', nI_eq', nI_lt0, nI_ge0, nI_eq0, nI_gt0, nI_le0, nI_ne_m1, m1_ne_nI, m1_lt_nI, m1_le_nI, nI_lt_m1, nI_le_m1, nI_clamp, ax_in_nI, nI_shl, nI_shr, lg_cmp0, nx_and, nI_eq1, bI_0, bI_1, bf_or, eq_self, or_true, true_or]
              exact bad h7 q (by rw [f7.1]; exact s6.1.1) (((f14.tr f5.y).tr f6.y).tr f7.y) ft (e5.trans (e6.trans e7))
          · simp (disch := omega) only [sR_readInto_68, ax_clr_i, ax_clr_l, ax_clr_r, ax_clr_n, ax_ct_0, ax_ct_i, ax_ct_l, ax_ct_r, va_rf_s, Option.toList_some, Option.toList_none, List.cons_append, List.nil_append, and_true, true_and, and_self, ite_true, ite_false, if_true, if_false, Nat.reduceAdd, Nat.reduceLeDiff, Nat.reduceMul, Nat.reduceLT, nI_add, pk_mul, nI_lt', nI_le', nI_eq', nI_lt0, nI_ge0, nI_eq0, nI_gt0, nI_le0, nI_ne_m1, m1_ne_nI, m1_lt_nI, m1_le_nI, nI_lt_m1, nI_le_m1, nI_clamp, ax_in_nI, nI_shl, nI_shr, lg_cmp0, nx_and, nI_eq1, bI_0, bI_1, bf_or, eq_self, or_true, true_or]
            exact bad h6 q (by rw [f6.1]; exact s5.1.1) ((f14.tr f5.y).tr f6.y) ft (e5.trans e6)
        · simp (disch := omega) only [sR_readInto_61, ax_clr_i, ax_clr_l, ax_clr_r, ax_clr_n, ax_ct_0, ax_ct_i, ax_ct_l, ax_ct_r, va_rf_s, Option.toList_some, Option.toList_none, List.cons_append, List.nil_append, and_true, true_and, and_self, ite_true, ite_false, if_true, if_false, Nat.reduceAdd, Nat.reduceLeDiff, Nat.reduceMul, Nat.reduceLT, nI_add, pk_mul, nI_lt', nI_le', nI_eq', nI_lt0, nI_ge0, nI_eq0, nI_gt0, nI_le0, nI_ne_m1, m1_ne_nI, m1_lt_nI, m1_le_nI, nI_lt_m1, nI_le_m1, nI_clamp, ax_in_nI, nI_shl, nI_shr, lg_cmp0, nx_and, nI_eq1, bI_0, bI_1, bf_or, eq_self, or_true, true_or]
          exact bad h5 q (by rw [f5.1]; exact s4.1) (f14.tr f5.y) ft e5
      · simp (disch := omega) only [sR_readInto_54, ax_clr_i, ax_clr_l, ax_clr_r, ax_clr_n, ax_ct_0, ax_ct_i, ax_ct_l, ax_ct_r, va_rf_s, Option.toList_some, Option.toList_none, List.cons_append, List.nil_append, and_true, true_and, and_self, ite_true, ite_false, if_true, if_false, Nat.reduceAdd, Nat.reduceLeDiff, Nat.reduceMul, Nat.reduceLT, nI_add, pk_mul, nI_lt', nI_le', nI_eq', nI_lt0, nI_ge0, nI_eq0, nI_gt0, nI_le0, nI_ne_m1, m1_ne_nI, m1_lt_nI, m1_le_nI, nI_lt_m1, nI_le_m1, nI_clamp, ax_in_nI, nI_shl, nI_shr, lg_cmp0, nx_and, nI_eq1, bI_0, bI_1, bf_or, eq_self, or_true, true_or]
        exact bad _ _ (by rw [up_I2]; exact s4.1) (f14.tr ((frT.up (by omega)).z.y)) (up_at _ _ _ _) (by unfold ldU; rw [if_pos ok, if_neg (by rw [bd]; simp)])
    · simp (disch := omega) only [sR_readInto_47, ax_clr_i, ax_clr_l, ax_clr_r, ax_clr_n, ax_ct_0, ax_ct_i, ax_ct_l, ax_ct_r, va_rf_s, Option.toList_some, Option.toList_none, List.cons_append, List.nil_append, and_true, true_and, and_self, ite_true, ite_false, if_true, if_false, Nat.reduceAdd, Nat.reduceLeDiff, Nat.reduceMul, Nat.reduceLT, nI_add, pk_mul, nI_lt', nI_le', nI_eq', nI_lt0, nI_ge0, nI_eq0, nI_gt0, nI_le0, nI_ne_m1, m1_ne_nI, m1_lt_nI, m1_le_nI, nI_lt_m1, nI_le_m1, nI_clamp, ax_in_nI, nI_shl, nI_shr, lg_cmp0, nx_and, nI_eq1, bI_0, bI_1, bf_or, eq_self, or_true, true_or]
      exact bad h4 _ (by rw [f4.1]; exact s3.1) ((f2.tr f3.z.y).tr f4.y) ft (by unfold ldU; rw [if_neg (by rw [bd]; simp)])
  · simp (disch := omega) only [sR_readInto_40, ax_clr_i, ax_clr_l, ax_clr_r, ax_clr_n, ax_ct_0, ax_ct_i, ax_ct_l, ax_ct_r, va_rf_s, Option.toList_some, Option.toList_none, List.cons_append, List.nil_append, and_true, true_and, and_self, ite_true, ite_false, if_true, if_false, Nat.reduceAdd, Nat.reduceLeDiff, Nat.reduceMul, Nat.reduceLT, nI_add, pk_mul, nI_lt', nI_le', nI_eq', nI_lt0, nI_ge0, nI_eq0, nI_gt0, nI_le0, nI_ne_m1, m1_ne_nI, m1_lt_nI, m1_le_nI, nI_lt_m1, nI_le_m1, nI_clamp, ax_in_nI, nI_shl, nI_shr, lg_cmp0, nx_and, nI_eq1, bI_0, bI_1, bf_or, eq_self, or_true, true_or]
    have e0 : rdB b = (false, 0) := by unfold rdB rdC; rw [if_neg (fun w => c ⟨w.1, by omega, by omega⟩)]
    exact bad h3 0 (by rw [f3.1]; exact s2.1) (f2.tr f3.z.y) ft (by unfold ldU; rw [e0, if_neg (by simp)])
end CI2
