/-! the model: the occurrences of a class -/
def padP (start q : Nat) : Nat := q + (4 - (q - start) % 4) % 4
theorem sPd_pad {b : List Nat} {start lim p : Nat} (hs : start ≤ p) (h : (sPd b start lim 4 p).1 = true) : (sPd b start lim 4 p).2 = padP start p := by
  have step : ∀ m q, (sPd b start lim (m + 1) q).1 = true → ((q - start) % 4 = 0 ∧ (sPd b start lim (m + 1) q).2 = q) ∨ (¬ (q - start) % 4 = 0 ∧ (sPd b start lim m (q + 1)).1 = true ∧ (sPd b start lim (m + 1) q).2 = (sPd b start lim m (q + 1)).2) := by
    intro m q hh
    rw [sPd] at hh ⊢
    by_cases e0 : (q - start) % 4 = 0
    · rw [if_pos e0]; exact Or.inl ⟨e0, rfl⟩
    · rw [if_neg e0] at hh ⊢
      by_cases e : (tk b lim q (fun k => decide (k ≤ 0))).1 = true
      · rw [if_pos e] at hh ⊢; exact Or.inr ⟨e0, hh, rfl⟩
      · rw [if_neg e] at hh; cases hh
  unfold padP
  rcases step 3 p h with ⟨a, c⟩ | ⟨a, c, e⟩
  · rw [c]; omega
  · rw [e]
    rcases step 2 (p + 1) c with ⟨a1, c1⟩ | ⟨a1, c1, e1⟩
    · rw [c1]; omega
    · rw [e1]
      rcases step 1 (p + 1 + 1) c1 with ⟨a2, c2⟩ | ⟨a2, c2, e2⟩
      · rw [c2]; omega
      · rw [e2]
        rcases step 0 (p + 1 + 1 + 1) c2 with ⟨a3, c3⟩ | ⟨a3, c3, e3⟩
        · rw [c3]; omega
        · omega
def nxI (u : List Nat) (start p : Nat) : Nat := if bg u p = 170 then padP start (p + 1) + 1 + bg u (padP start (p + 1)) else if bg u p = 196 then p + 4 else if bg u p = 0 then p + 1 else p + 2
/-- where the next instruction is, and what is known of this one -/
theorem sIn_nx {u : List Nat} {n : Nat} {off : Nat → Nat} {start lim p : Nat} (hs : start ≤ p) (hl : p < lim) (h : (sIn u n off start lim p).1 = true) : (sIn u n off start lim p).2 = nxI u start p ∧ nxI u start p ≤ u.length ∧ nxI u start p ≤ lim ∧
    (bg u p = 170 → padP start (p + 1) < u.length) ∧ (bg u p = 196 → (bg u (p + 1) = 180 ∨ bg u (p + 1) = 181 ∨ bg u (p + 1) = 182 ∨ bg u (p + 1) = 187) ∧ ftN u n off (256 * bg u (p + 2) + bg u (p + 3)) (opd (bg u (p + 1))) = true) ∧
    (¬ bg u p = 170 → ¬ bg u p = 196 → 0 < opd (bg u p) → ftN u n off (bg u (p + 1)) (opd (bg u p)) = true) := by
  have hle := (sIn_le (b := u) (n := n) (off := off) (start := start) hl).1
  have hlen := sIn_len h
  have key : (sIn u n off start lim p).2 = nxI u start p ∧ (bg u p = 170 → padP start (p + 1) < u.length) ∧ (bg u p = 196 → (bg u (p + 1) = 180 ∨ bg u (p + 1) = 181 ∨ bg u (p + 1) = 182 ∨ bg u (p + 1) = 187) ∧ ftN u n off (256 * bg u (p + 2) + bg u (p + 3)) (opd (bg u (p + 1))) = true) ∧
    (¬ bg u p = 170 → ¬ bg u p = 196 → 0 < opd (bg u p) → ftN u n off (bg u (p + 1)) (opd (bg u p)) = true) := by
    unfold sIn at h ⊢
    unfold nxI
    by_cases e0 : p < u.length
    · rw [if_pos e0] at h ⊢
      by_cases a0 : bg u p = 0
      · rw [if_pos a0, if_neg (by omega), if_neg (by omega), if_pos a0]
        exact ⟨rfl, fun q => by omega, fun q => by omega, fun _ _ q => by rw [a0] at q; exact absurd q (by decide)⟩
      · rw [if_neg a0] at h ⊢
        by_cases a1 : bg u p = 16 ∨ bg u p = 25
        · rw [if_pos a1] at h ⊢
          rw [if_neg (by omega), if_neg (by omega), if_neg a0]
          refine ⟨(tk_t h).2.2.2, fun q => by omega, fun q => by omega, fun _ _ q => ?_⟩
          unfold opd at q
          rw [if_neg (by omega), if_neg (by omega), if_neg (by omega), if_neg (by omega)] at q
          omega
        · rw [if_neg a1] at h ⊢
          by_cases a2 : bg u p = 170
          · rw [if_pos a2] at h ⊢
            rw [if_pos a2]
            unfold sTn at h ⊢
            by_cases e1 : (sPd u start lim 4 (p + 1)).1 = true
            · have e9 := sPd_pad (by omega : start ≤ p + 1) e1
              rw [if_pos e1] at h ⊢
              by_cases e2 : (tk u lim (sPd u start lim 4 (p + 1)).2 (fun k => decide (k ≤ 4))).1 = true
              · have k2 := tk_t e2
                rw [if_pos e2] at h ⊢
                have k3 := sNm_len u lim _ _ _ (by omega) h
                rw [e9] at k2 k3 ⊢
                exact ⟨k3.1, fun _ => k2.2.1, fun q => by omega, fun q => absurd a2 q⟩
              · rw [if_neg e2] at h; cases h
            · rw [if_neg e1] at h; cases h
          · rw [if_neg a2] at h ⊢
            by_cases a3 : bg u p = 196
            · rw [if_pos a3] at h ⊢
              rw [if_neg a2, if_pos a3]
              have k := sWd_len h
              refine ⟨by rw [k.1], fun q => absurd q a2, fun _ => ?_, fun _ q => absurd a3 q⟩
              unfold sWd at h
              by_cases e1 : p + 1 < lim ∧ p + 1 < u.length ∧ (bg u (p + 1) = 180 ∨ bg u (p + 1) = 181 ∨ bg u (p + 1) = 182 ∨ bg u (p + 1) = 187)
              · rw [if_pos e1] at h
                by_cases e2 : p + 1 + 1 < lim ∧ p + 1 + 1 < u.length
                · rw [if_pos e2] at h
                  by_cases e3 : p + 1 + 2 < lim ∧ p + 1 + 2 < u.length ∧ ftN u n off (256 * bg u (p + 1 + 1) + bg u (p + 1 + 2)) (opd (bg u (p + 1))) = true
                  · exact ⟨e1.2.2, e3.2.2⟩
                  · rw [if_neg e3] at h; cases h
                · rw [if_neg e2] at h; cases h
              · rw [if_neg e1] at h; cases h
            · rw [if_neg a3] at h ⊢
              rw [if_neg a2, if_neg a3, if_neg a0]
              by_cases a4 : 0 < opd (bg u p)
              · rw [if_pos a4] at h ⊢
                have k := tk_t h
                exact ⟨k.2.2.2, fun q => absurd q a2, fun q => absurd q a3, fun _ _ _ => k.2.2.1⟩
              · rw [if_neg a4] at h; cases h
    · rw [if_neg e0] at h; cases h
  obtain ⟨k1, k2, k3, k4⟩ := key
  rw [k1] at hle hlen
  exact ⟨k1, hlen, hle, k2, k3, k4⟩
def ocC (u : List Nat) (start lim : Nat) : Nat → Nat → Nat → List oc4
  | 0, _, _ => []
  | m + 1, p, line => if p < lim then
      (if bg u p = 170 then ocC u start lim m (nxI u start p) line
       else if bg u p = 196 then nmsU u (bg u (p + 1)) (256 * bg u (p + 2) + bg u (p + 3)) line ++ ocC u start lim m (nxI u start p) line
       else (if 0 < opd (bg u p) then nmsU u (bg u p) (bg u (p + 1)) (line + (if bg u p = 25 then bg u (p + 1) else 0)) else []) ++ ocC u start lim m (nxI u start p) (line + (if bg u p = 25 then bg u (p + 1) else 0)))
    else []
theorem nms_len (u : List Nat) (op k line : Nat) : (nmsU u op k line).length ≤ 1 := by unfold nmsU; (repeat' split) <;> simp
section MP
variable {d : Nat} {h : ax_H} {u : List Nat} {c : Nat} {L : List oc4} {Q : Option Value → ax_H → Prop}
theorem mQ_listCode_p (hc : c ≤ 12) (start lim : Nat) (y4 : Int32) (line : Nat) (x7 : Option Value) (hsl : start < 500) : ∀ (m q : Nat), (4 - (q - start) % 4) % 4 = m → start ≤ q → q + m < 500 → ax_wp kM d mQ_listCode 33 [some (.ref 0), some (.int (nI c)), some (.int (nI (120 * c + start))), some (.int (nI (120 * c + lim))), some (.int y4), some (.int (nI (120 * c + q))), some (.int (nI line)), x7] [] h Q = ax_wp kM d mQ_listCode 48 [some (.ref 0), some (.int (nI c)), some (.int (nI (120 * c + start))), some (.int (nI (120 * c + lim))), some (.int y4), some (.int (nI (120 * c + (q + m)))), some (.int (nI line)), x7] [] h Q
  | 0, q, hm, hs, hq => by
    have n4 : (nI 4 = 0) = False := by rw [nI_eq0 (by omega)]; simp
    rw [sQ_listCode_33]
    simp (disch := omega) only [sQ_listCode_35, sQ_listCode_36, sQ_listCode_37, sQ_listCode_38, sQ_listCode_39, sQ_listCode_42, sQ_listCode_45, ax_clr_i, ax_clr_l, ax_clr_r, ax_clr_n, ax_ct_0, ax_ct_i, ax_ct_l, ax_ct_r, va_rf_s, Option.toList_some, Option.toList_none, List.cons_append, List.nil_append, and_true, true_and, and_self, ite_true, ite_false, if_true, if_false, Nat.reduceAdd, Nat.reduceLeDiff, Nat.reduceMul, Nat.reduceLT, nI_add, pk_mul, nI_lt', nI_le', nI_eq', nI_lt0, nI_ge0, nI_eq0, nI_gt0, nI_le0, nI_ne_m1, m1_ne_nI, m1_lt_nI, m1_le_nI, nI_lt_m1, nI_le_m1, nI_clamp, ax_in_nI, nI_shl, nI_shr, lg_cmp0, nx_and, nI_eq1, bI_0, bI_1, bf_or, eq_self, or_true, true_or, lt_T, le_T, lt_F, le_F, eq_F, eq_T, pk_sub, pk_rem, n4, not_false_eq_true]
    simp
  | m + 1, q, hm, hs, hq => by
    have n4 : (nI 4 = 0) = False := by rw [nI_eq0 (by omega)]; simp
    have ih := mQ_listCode_p hc start lim y4 line x7 hsl m (q + 1) (by omega) (by omega) (by omega)
    rw [← Nat.add_assoc] at ih
    rw [sQ_listCode_33]
    simp (disch := omega) only [sQ_listCode_35, sQ_listCode_36, sQ_listCode_37, sQ_listCode_38, sQ_listCode_39, sQ_listCode_42, sQ_listCode_45, ax_clr_i, ax_clr_l, ax_clr_r, ax_clr_n, ax_ct_0, ax_ct_i, ax_ct_l, ax_ct_r, va_rf_s, Option.toList_some, Option.toList_none, List.cons_append, List.nil_append, and_true, true_and, and_self, ite_true, ite_false, if_true, if_false, Nat.reduceAdd, Nat.reduceLeDiff, Nat.reduceMul, Nat.reduceLT, nI_add, pk_mul, nI_lt', nI_le', nI_eq', nI_lt0, nI_ge0, nI_eq0, nI_gt0, nI_le0, nI_ne_m1, m1_ne_nI, m1_lt_nI, m1_le_nI, nI_lt_m1, nI_le_m1, nI_clamp, ax_in_nI, nI_shl, nI_shr, lg_cmp0, nx_and, nI_eq1, bI_0, bI_1, bf_or, eq_self, or_true, true_or, lt_T, le_T, lt_F, le_F, eq_F, eq_T, pk_sub, pk_rem, n4, not_false_eq_true]
    rw [ih, show q + 1 + m = q + (m + 1) by omega]
theorem mQ_listCode_l (hc : c ≤ 12) (hk : okU u) (start lim : Nat) (y4 : Int32) (hl : lim ≤ u.length) : ∀ (m p line : Nat) (h : ax_H) (L : List oc4) (x7 : Option Value), untM h c u → ocM h L → start ≤ p → p ≤ lim → lim ≤ p + m → line + 255 * m < 100000 → 2 * L.length + (lim - p) ≤ 120 → (sCd u (bg u 1) (offU u (bg u 1)) start lim m p).1 = true → (∀ h', frO h h' → ocM h' (L ++ ocC u start lim m p line) → Q none h') →
    ax_wp kM (d + 4) mQ_listCode 7 [some (.ref 0), some (.int (nI c)), some (.int (nI (120 * c + start))), some (.int (nI (120 * c + lim))), some (.int y4), some (.int (nI (120 * c + p))), some (.int (nI line)), x7] [] h Q
  | 0, p, line, h, L, x7, hu, ho, hs, hp, hm, hln, hb, hcd, hQ => by
    have hz := hu.2.1
    rw [ocC, List.append_nil] at hQ
    rw [sQ_listCode_7]
    simp (disch := omega) only [sQ_listCode_9, sQ_listCode_10, sQ_listCode_187, ax_clr_i, ax_clr_l, ax_clr_r, ax_clr_n, ax_ct_0, ax_ct_i, ax_ct_l, ax_ct_r, va_rf_s, Option.toList_some, Option.toList_none, List.cons_append, List.nil_append, and_true, true_and, and_self, ite_true, ite_false, if_true, if_false, Nat.reduceAdd, Nat.reduceLeDiff, Nat.reduceMul, Nat.reduceLT, nI_add, pk_mul, nI_lt', nI_le', nI_eq', nI_lt0, nI_ge0, nI_eq0, nI_gt0, nI_le0, nI_ne_m1, m1_ne_nI, m1_lt_nI, m1_le_nI, nI_lt_m1, nI_le_m1, nI_clamp, ax_in_nI, nI_shl, nI_shr, lg_cmp0, nx_and, nI_eq1, bI_0, bI_1, bf_or, eq_self, or_true, true_or, lt_T, le_T, lt_F, le_F, eq_F, eq_T]
    exact hQ h frO.rf ho
  | m + 1, p, line, h, L, x7, hu, ho, hs, hp, hm, hln, hb, hcd, hQ => by
    have hz := hu.2.1
    have hr := hu.1
    rw [sQ_listCode_7]
    rw [sCd] at hcd
    rw [ocC] at hQ
    by_cases e : p < lim
    · rw [if_pos e] at hcd hQ
      by_cases e1 : (sIn u (bg u 1) (offU u (bg u 1)) start lim p).1 = true
      · rw [if_pos e1] at hcd
        obtain ⟨n1, n2, n3, n4, n5, n6⟩ := sIn_nx hs e e1
        have n7 := (sIn_le (b := u) (n := bg u 1) (off := offU u (bg u 1)) (start := start) e).2 e1
        rw [n1] at hcd n7
        have b0 := hu.2.2.1 p (by omega)
        have l0 := hu.lt p
        have l1 := hu.lt (p + 1)
        have l2 := hu.lt (p + 2)
        have l3 := hu.lt (p + 3)
        by_cases a170 : bg u p = 170
        · rw [if_pos a170] at hQ
          have n8 := n4 a170
          have b1 := hu.2.2.1 (padP start (p + 1)) n8
          have en : nxI u start p = padP start (p + 1) + 1 + bg u (padP start (p + 1)) := if_pos a170
          have ih := mQ_listCode_l hc hk start lim y4 hl m (nxI u start p) line h L (some (.int (nI 170))) hu ho (by omega) n3 (by omega) (by omega) (by omega) hcd hQ
          simp (disch := omega) only [sQ_listCode_9, sQ_listCode_10, sQ_listCode_13, sQ_listCode_14, sQ_listCode_17, sQ_listCode_19, sQ_listCode_20, sQ_listCode_22, sQ_listCode_24, sQ_listCode_27, sQ_listCode_30, ax_clr_i, ax_clr_l, ax_clr_r, ax_clr_n, ax_ct_0, ax_ct_i, ax_ct_l, ax_ct_r, va_rf_s, Option.toList_some, Option.toList_none, List.cons_append, List.nil_append, and_true, true_and, and_self, ite_true, ite_false, if_true, if_false, Nat.reduceAdd, Nat.reduceLeDiff, Nat.reduceMul, Nat.reduceLT, nI_add, pk_mul, nI_lt', nI_le', nI_eq', nI_lt0, nI_ge0, nI_eq0, nI_gt0, nI_le0, nI_ne_m1, m1_ne_nI, m1_lt_nI, m1_le_nI, nI_lt_m1, nI_le_m1, nI_clamp, ax_in_nI, nI_shl, nI_shr, lg_cmp0, nx_and, nI_eq1, bI_0, bI_1, bf_or, eq_self, or_true, true_or, lt_T, le_T, lt_F, le_F, eq_F, eq_T, kdM_0, kdM_1, kdM_2, kdM_3, kdM_4, kdM_5, kdM_6, kdM_7, kdM_8, kdM_9, kdM_10, kdM_11, kdM_12, kdM_13, kdM_14, kdM_15, kdM_16, kdM_17, kdM_18, kdM_19, kdM_20, kdM_21, kdM_22, kdM_23, kdM_24, rM_0, rM_1, rM_5, rM_6, rM_7, rM_10, rM_11, rM_12, rM_13, rM_14, rM_15, rM_16, rM_18, rM_19, rM_20, rM_21, rM_23, rM_24, rM_25, rM_26, rM_28, rM_29, rM_30, rM_31, hr, b0, a170]
          have epd : padP start (p + 1) = p + 1 + (4 - (p + 1 - start) % 4) % 4 := rfl
          rw [Nat.add_assoc (120 * c) p 1, mQ_listCode_p hc start lim y4 line _ (by omega) _ (p + 1) rfl (by omega) (by omega), ← epd]
          simp (disch := omega) only [sQ_listCode_48, sQ_listCode_50, sQ_listCode_51, sQ_listCode_52, sQ_listCode_55, sQ_listCode_57, sQ_listCode_58, sQ_listCode_59, sQ_listCode_60, sQ_listCode_62, sQ_listCode_184, ax_clr_i, ax_clr_l, ax_clr_r, ax_clr_n, ax_ct_0, ax_ct_i, ax_ct_l, ax_ct_r, va_rf_s, Option.toList_some, Option.toList_none, List.cons_append, List.nil_append, and_true, true_and, and_self, ite_true, ite_false, if_true, if_false, Nat.reduceAdd, Nat.reduceLeDiff, Nat.reduceMul, Nat.reduceLT, nI_add, pk_mul, nI_lt', nI_le', nI_eq', nI_lt0, nI_ge0, nI_eq0, nI_gt0, nI_le0, nI_ne_m1, m1_ne_nI, m1_lt_nI, m1_le_nI, nI_lt_m1, nI_le_m1, nI_clamp, ax_in_nI, nI_shl, nI_shr, lg_cmp0, nx_and, nI_eq1, bI_0, bI_1, bf_or, eq_self, or_true, true_or, lt_T, le_T, lt_F, le_F, eq_F, eq_T, kdM_0, kdM_1, kdM_2, kdM_3, kdM_4, kdM_5, kdM_6, kdM_7, kdM_8, kdM_9, kdM_10, kdM_11, kdM_12, kdM_13, kdM_14, kdM_15, kdM_16, kdM_17, kdM_18, kdM_19, kdM_20, kdM_21, kdM_22, kdM_23, kdM_24, rM_0, rM_1, rM_5, rM_6, rM_7, rM_10, rM_11, rM_12, rM_13, rM_14, rM_15, rM_16, rM_18, rM_19, rM_20, rM_21, rM_23, rM_24, rM_25, rM_26, rM_28, rM_29, rM_30, rM_31, hr, b1]
          rw [show 120 * c + padP start (p + 1) + (1 + bg u (padP start (p + 1))) = 120 * c + nxI u start p by omega]
          exact ih
        · rw [if_neg a170] at hQ
          by_cases a196 : bg u p = 196
          · rw [if_pos a196] at hQ
            have en : nxI u start p = p + 4 := by unfold nxI; rw [if_neg a170, if_pos a196]
            rw [en] at n2 n3 hcd hQ n7
            obtain ⟨o1, o2⟩ := n5 a196
            have b1 := hu.2.2.1 (p + 1) (by omega)
            have b2 := hu.2.2.1 (p + 2) (by omega)
            have b3 := hu.2.2.1 (p + 3) (by omega)
            rw [← Nat.add_assoc] at b1 b2 b3
            simp (disch := omega) only [sQ_listCode_9, sQ_listCode_10, sQ_listCode_13, sQ_listCode_14, sQ_listCode_17, sQ_listCode_19, sQ_listCode_20, sQ_listCode_22, sQ_listCode_24, sQ_listCode_27, sQ_listCode_65, sQ_listCode_67, sQ_listCode_70, sQ_listCode_73, sQ_listCode_74, sQ_listCode_75, sQ_listCode_76, sQ_listCode_79, sQ_listCode_81, sQ_listCode_82, sQ_listCode_83, sQ_listCode_84, sQ_listCode_87, sQ_listCode_88, sQ_listCode_91, sQ_listCode_93, sQ_listCode_94, sQ_listCode_95, sQ_listCode_96, sQ_listCode_97, sQ_listCode_98, sQ_listCode_101, sQ_listCode_103, sQ_listCode_104, sQ_listCode_105, sQ_listCode_106, sQ_listCode_107, sQ_listCode_109, ax_clr_i, ax_clr_l, ax_clr_r, ax_clr_n, ax_ct_0, ax_ct_i, ax_ct_l, ax_ct_r, va_rf_s, Option.toList_some, Option.toList_none, List.cons_append, List.nil_append, and_true, true_and, and_self, ite_true, ite_false, if_true, if_false, Nat.reduceAdd, Nat.reduceLeDiff, Nat.reduceMul, Nat.reduceLT, nI_add, pk_mul, nI_lt', nI_le', nI_eq', nI_lt0, nI_ge0, nI_eq0, nI_gt0, nI_le0, nI_ne_m1, m1_ne_nI, m1_lt_nI, m1_le_nI, nI_lt_m1, nI_le_m1, nI_clamp, ax_in_nI, nI_shl, nI_shr, lg_cmp0, nx_and, nI_eq1, bI_0, bI_1, bf_or, eq_self, or_true, true_or, lt_T, le_T, lt_F, le_F, eq_F, eq_T, kdM_0, kdM_1, kdM_2, kdM_3, kdM_4, kdM_5, kdM_6, kdM_7, kdM_8, kdM_9, kdM_10, kdM_11, kdM_12, kdM_13, kdM_14, kdM_15, kdM_16, kdM_17, kdM_18, kdM_19, kdM_20, kdM_21, kdM_22, kdM_23, kdM_24, rM_0, rM_1, rM_5, rM_6, rM_7, rM_10, rM_11, rM_12, rM_13, rM_14, rM_15, rM_16, rM_18, rM_19, rM_20, rM_21, rM_23, rM_24, rM_25, rM_26, rM_28, rM_29, rM_30, rM_31, hr, b0, a196, b1, b2, b3]
            have hop : 0 < opd (bg u (p + 1)) := by rcases o1 with o | o | o | o <;> rw [o] <;> decide
            refine mQ_names_ (L := L) hu hc hk ho (by omega) _ _ _ l1 hop o2 (fun h' f o => ?_)
            have hnl := nms_len u (bg u (p + 1)) (256 * bg u (p + 2) + bg u (p + 3)) line
            have ih := mQ_listCode_l hc hk start lim y4 hl m (p + 4) line h' _ (some (.int (nI 196))) (hu.frO f) o (by omega) n3 (by omega) (by omega) (by rw [List.length_append]; omega) hcd (fun h2 f2 o2 => hQ h2 (f.tr f2) (by rw [← List.append_assoc]; exact o2))
            simp (disch := omega) only [sQ_listCode_112, sQ_listCode_115, sQ_listCode_184, ax_clr_i, ax_clr_l, ax_clr_r, ax_clr_n, ax_ct_0, ax_ct_i, ax_ct_l, ax_ct_r, va_rf_s, Option.toList_some, Option.toList_none, List.cons_append, List.nil_append, and_true, true_and, and_self, ite_true, ite_false, if_true, if_false, Nat.reduceAdd, Nat.reduceLeDiff, Nat.reduceMul, Nat.reduceLT, nI_add, pk_mul, nI_lt', nI_le', nI_eq', nI_lt0, nI_ge0, nI_eq0, nI_gt0, nI_le0, nI_ne_m1, m1_ne_nI, m1_lt_nI, m1_le_nI, nI_lt_m1, nI_le_m1, nI_clamp, ax_in_nI, nI_shl, nI_shr, lg_cmp0, nx_and, nI_eq1, bI_0, bI_1, bf_or, eq_self, or_true, true_or]
            exact ih
          · rw [if_neg a196] at hQ
            have en : nxI u start p = if bg u p = 0 then p + 1 else p + 2 := by unfold nxI; rw [if_neg a170, if_neg a196]
            have fin : ∀ (h' : ax_H) (L' : List oc4) (ln : Nat) (x7 : Option Value), untM h' c u → ocM h' L' → L'.length ≤ L.length + 1 → ln + 255 * m < 100000 → (∀ h2, frO h' h2 → ocM h2 (L' ++ ocC u start lim m (nxI u start p) ln) → Q none h2) → (bg u p = 0 → L'.length ≤ L.length) →
                ax_wp kM (d + 4) mQ_listCode 7 [some (.ref 0), some (.int (nI c)), some (.int (nI (120 * c + start))), some (.int (nI (120 * c + lim))), some (.int y4), some (.int (nI (120 * c + nxI u start p))), some (.int (nI ln)), x7] [] h' Q := by
              intro h' L' ln x7 hu' ho' hll hln' hQ' h0
              refine mQ_listCode_l hc hk start lim y4 hl m (nxI u start p) ln h' L' x7 hu' ho' (by omega) n3 (by omega) hln' ?_ hcd hQ'
              by_cases e0 : bg u p = 0
              · have := h0 e0; rw [if_pos e0] at en; omega
              · rw [if_neg e0] at en; omega
            by_cases a0 : bg u p = 0
            · have o0 : ¬ 0 < opd (bg u p) := by rw [a0]; decide
              rw [if_neg o0, List.nil_append, if_neg (by omega), Nat.add_zero] at hQ
              rw [if_pos a0] at en
              have oo : opd 0 = 0 := rfl
              simp (disch := omega) only [sQ_listCode_9, sQ_listCode_10, sQ_listCode_13, sQ_listCode_14, sQ_listCode_17, sQ_listCode_19, sQ_listCode_20, sQ_listCode_22, sQ_listCode_24, sQ_listCode_27, sQ_listCode_65, sQ_listCode_67, sQ_listCode_70, sQ_listCode_118, sQ_listCode_120, sQ_listCode_122, sQ_listCode_124, sQ_listCode_127, sQ_listCode_128, sQ_listCode_131, sQ_listCode_133, sQ_listCode_134, sQ_listCode_135, sQ_listCode_136, sQ_listCode_139, sQ_listCode_140, sQ_listCode_141, sQ_listCode_143, sQ_listCode_145, sQ_listCode_148, sQ_listCode_151, sQ_listCode_152, sQ_listCode_153, sQ_listCode_155, sQ_listCode_156, sQ_listCode_159, sQ_listCode_161, sQ_listCode_162, sQ_listCode_163, sQ_listCode_164, sQ_listCode_166, sQ_listCode_169, sQ_listCode_171, sQ_listCode_173, sQ_listCode_176, sQ_listCode_177, sQ_listCode_180, sQ_listCode_181, sQ_listCode_182, sQ_listCode_184, ax_clr_i, ax_clr_l, ax_clr_r, ax_clr_n, ax_ct_0, ax_ct_i, ax_ct_l, ax_ct_r, va_rf_s, Option.toList_some, Option.toList_none, List.cons_append, List.nil_append, and_true, true_and, and_self, ite_true, ite_false, if_true, if_false, Nat.reduceAdd, Nat.reduceLeDiff, Nat.reduceMul, Nat.reduceLT, nI_add, pk_mul, nI_lt', nI_le', nI_eq', nI_lt0, nI_ge0, nI_eq0, nI_gt0, nI_le0, nI_ne_m1, m1_ne_nI, m1_lt_nI, m1_le_nI, nI_lt_m1, nI_le_m1, nI_clamp, ax_in_nI, nI_shl, nI_shr, lg_cmp0, nx_and, nI_eq1, bI_0, bI_1, bf_or, eq_self, or_true, true_or, lt_T, le_T, lt_F, le_F, eq_F, eq_T, kdM_0, kdM_1, kdM_2, kdM_3, kdM_4, kdM_5, kdM_6, kdM_7, kdM_8, kdM_9, kdM_10, kdM_11, kdM_12, kdM_13, kdM_14, kdM_15, kdM_16, kdM_17, kdM_18, kdM_19, kdM_20, kdM_21, kdM_22, kdM_23, kdM_24, rM_0, rM_1, rM_5, rM_6, rM_7, rM_10, rM_11, rM_12, rM_13, rM_14, rM_15, rM_16, rM_18, rM_19, rM_20, rM_21, rM_23, rM_24, rM_25, rM_26, rM_28, rM_29, rM_30, rM_31, hr, b0, a0, mQ_operand_, oo, Nat.add_zero]
              rw [Nat.add_assoc (120 * c) p 1, ← en]
              exact fin h L line _ hu ho (by omega) (by omega) hQ (fun _ => by omega)
            · rw [if_neg a0] at en
              have b1 := hu.2.2.1 (p + 1) (by omega)
              rw [← Nat.add_assoc] at b1
              by_cases a25 : bg u p = 25
              · have o0 : ¬ 0 < opd (bg u p) := by rw [a25]; decide
                rw [if_neg o0, List.nil_append, if_pos a25] at hQ
                have oo : opd 25 = 0 := rfl
                simp (disch := omega) only [sQ_listCode_9, sQ_listCode_10, sQ_listCode_13, sQ_listCode_14, sQ_listCode_17, sQ_listCode_19, sQ_listCode_20, sQ_listCode_22, sQ_listCode_24, sQ_listCode_27, sQ_listCode_65, sQ_listCode_67, sQ_listCode_70, sQ_listCode_118, sQ_listCode_120, sQ_listCode_122, sQ_listCode_124, sQ_listCode_127, sQ_listCode_128, sQ_listCode_131, sQ_listCode_133, sQ_listCode_134, sQ_listCode_135, sQ_listCode_136, sQ_listCode_139, sQ_listCode_140, sQ_listCode_141, sQ_listCode_143, sQ_listCode_145, sQ_listCode_148, sQ_listCode_151, sQ_listCode_152, sQ_listCode_153, sQ_listCode_155, sQ_listCode_156, sQ_listCode_159, sQ_listCode_161, sQ_listCode_162, sQ_listCode_163, sQ_listCode_164, sQ_listCode_166, sQ_listCode_169, sQ_listCode_171, sQ_listCode_173, sQ_listCode_176, sQ_listCode_177, sQ_listCode_180, sQ_listCode_181, sQ_listCode_182, sQ_listCode_184, ax_clr_i, ax_clr_l, ax_clr_r, ax_clr_n, ax_ct_0, ax_ct_i, ax_ct_l, ax_ct_r, va_rf_s, Option.toList_some, Option.toList_none, List.cons_append, List.nil_append, and_true, true_and, and_self, ite_true, ite_false, if_true, if_false, Nat.reduceAdd, Nat.reduceLeDiff, Nat.reduceMul, Nat.reduceLT, nI_add, pk_mul, nI_lt', nI_le', nI_eq', nI_lt0, nI_ge0, nI_eq0, nI_gt0, nI_le0, nI_ne_m1, m1_ne_nI, m1_lt_nI, m1_le_nI, nI_lt_m1, nI_le_m1, nI_clamp, ax_in_nI, nI_shl, nI_shr, lg_cmp0, nx_and, nI_eq1, bI_0, bI_1, bf_or, eq_self, or_true, true_or, lt_T, le_T, lt_F, le_F, eq_F, eq_T, kdM_0, kdM_1, kdM_2, kdM_3, kdM_4, kdM_5, kdM_6, kdM_7, kdM_8, kdM_9, kdM_10, kdM_11, kdM_12, kdM_13, kdM_14, kdM_15, kdM_16, kdM_17, kdM_18, kdM_19, kdM_20, kdM_21, kdM_22, kdM_23, kdM_24, rM_0, rM_1, rM_5, rM_6, rM_7, rM_10, rM_11, rM_12, rM_13, rM_14, rM_15, rM_16, rM_18, rM_19, rM_20, rM_21, rM_23, rM_24, rM_25, rM_26, rM_28, rM_29, rM_30, rM_31, hr, b0, b1, a25, mQ_operand_, oo]
                rw [Nat.add_assoc (120 * c) p 2, ← en]
                exact fin h L _ _ hu ho (by omega) (by omega) hQ (fun _ => by omega)
              · rw [if_neg a25, Nat.add_zero] at hQ
                have ho9 : opd (bg u p) < 100 := by unfold opd; (repeat' split) <;> omega
                by_cases o0 : 0 < opd (bg u p)
                · rw [if_pos o0] at hQ
                  simp (disch := omega) only [sQ_listCode_9, sQ_listCode_10, sQ_listCode_13, sQ_listCode_14, sQ_listCode_17, sQ_listCode_19, sQ_listCode_20, sQ_listCode_22, sQ_listCode_24, sQ_listCode_27, sQ_listCode_65, sQ_listCode_67, sQ_listCode_70, sQ_listCode_118, sQ_listCode_120, sQ_listCode_122, sQ_listCode_124, sQ_listCode_127, sQ_listCode_128, sQ_listCode_131, sQ_listCode_133, sQ_listCode_134, sQ_listCode_135, sQ_listCode_136, sQ_listCode_139, sQ_listCode_140, sQ_listCode_141, sQ_listCode_143, sQ_listCode_145, sQ_listCode_148, sQ_listCode_151, sQ_listCode_152, sQ_listCode_153, sQ_listCode_155, sQ_listCode_156, sQ_listCode_159, sQ_listCode_161, sQ_listCode_162, sQ_listCode_163, sQ_listCode_164, sQ_listCode_166, ax_clr_i, ax_clr_l, ax_clr_r, ax_clr_n, ax_ct_0, ax_ct_i, ax_ct_l, ax_ct_r, va_rf_s, Option.toList_some, Option.toList_none, List.cons_append, List.nil_append, and_true, true_and, and_self, ite_true, ite_false, if_true, if_false, Nat.reduceAdd, Nat.reduceLeDiff, Nat.reduceMul, Nat.reduceLT, nI_add, pk_mul, nI_lt', nI_le', nI_eq', nI_lt0, nI_ge0, nI_eq0, nI_gt0, nI_le0, nI_ne_m1, m1_ne_nI, m1_lt_nI, m1_le_nI, nI_lt_m1, nI_le_m1, nI_clamp, ax_in_nI, nI_shl, nI_shr, lg_cmp0, nx_and, nI_eq1, bI_0, bI_1, bf_or, eq_self, or_true, true_or, lt_T, le_T, lt_F, le_F, eq_F, eq_T, kdM_0, kdM_1, kdM_2, kdM_3, kdM_4, kdM_5, kdM_6, kdM_7, kdM_8, kdM_9, kdM_10, kdM_11, kdM_12, kdM_13, kdM_14, kdM_15, kdM_16, kdM_17, kdM_18, kdM_19, kdM_20, kdM_21, kdM_22, kdM_23, kdM_24, rM_0, rM_1, rM_5, rM_6, rM_7, rM_10, rM_11, rM_12, rM_13, rM_14, rM_15, rM_16, rM_18, rM_19, rM_20, rM_21, rM_23, rM_24, rM_25, rM_26, rM_28, rM_29, rM_30, rM_31, hr, b0, b1, mQ_operand_, Nat.add_zero]
                  refine mQ_names_ (L := L) hu hc hk ho (by omega) _ _ _ l0 o0 (n6 a170 a196 o0) (fun h' f o => ?_)
                  have hnl := nms_len u (bg u p) (bg u (p + 1)) line
                  simp (disch := omega) only [sQ_listCode_169, sQ_listCode_171, sQ_listCode_173, sQ_listCode_176, sQ_listCode_177, sQ_listCode_180, sQ_listCode_181, sQ_listCode_182, sQ_listCode_184, ax_clr_i, ax_clr_l, ax_clr_r, ax_clr_n, ax_ct_0, ax_ct_i, ax_ct_l, ax_ct_r, va_rf_s, Option.toList_some, Option.toList_none, List.cons_append, List.nil_append, and_true, true_and, and_self, ite_true, ite_false, if_true, if_false, Nat.reduceAdd, Nat.reduceLeDiff, Nat.reduceMul, Nat.reduceLT, nI_add, pk_mul, nI_lt', nI_le', nI_eq', nI_lt0, nI_ge0, nI_eq0, nI_gt0, nI_le0, nI_ne_m1, m1_ne_nI, m1_lt_nI, m1_le_nI, nI_lt_m1, nI_le_m1, nI_clamp, ax_in_nI, nI_shl, nI_shr, lg_cmp0, nx_and, nI_eq1, bI_0, bI_1, bf_or, eq_self, or_true, true_or, lt_T, le_T, lt_F, le_F, eq_F, eq_T]
                  rw [Nat.add_assoc (120 * c) p 2, ← en]
                  exact fin h' _ line _ (hu.frO f) o (by rw [List.length_append]; omega) (by omega) (fun h2 f2 o2 => hQ h2 (f.tr f2) (by rw [← List.append_assoc]; exact o2)) (fun q => absurd q a0)
                · rw [if_neg o0, List.nil_append] at hQ
                  simp (disch := omega) only [sQ_listCode_9, sQ_listCode_10, sQ_listCode_13, sQ_listCode_14, sQ_listCode_17, sQ_listCode_19, sQ_listCode_20, sQ_listCode_22, sQ_listCode_24, sQ_listCode_27, sQ_listCode_65, sQ_listCode_67, sQ_listCode_70, sQ_listCode_118, sQ_listCode_120, sQ_listCode_122, sQ_listCode_124, sQ_listCode_127, sQ_listCode_128, sQ_listCode_131, sQ_listCode_133, sQ_listCode_134, sQ_listCode_135, sQ_listCode_136, sQ_listCode_139, sQ_listCode_140, sQ_listCode_141, sQ_listCode_143, sQ_listCode_145, sQ_listCode_148, sQ_listCode_169, sQ_listCode_171, sQ_listCode_173, sQ_listCode_176, sQ_listCode_177, sQ_listCode_180, sQ_listCode_181, sQ_listCode_182, sQ_listCode_184, ax_clr_i, ax_clr_l, ax_clr_r, ax_clr_n, ax_ct_0, ax_ct_i, ax_ct_l, ax_ct_r, va_rf_s, Option.toList_some, Option.toList_none, List.cons_append, List.nil_append, and_true, true_and, and_self, ite_true, ite_false, if_true, if_false, Nat.reduceAdd, Nat.reduceLeDiff, Nat.reduceMul, Nat.reduceLT, nI_add, pk_mul, nI_lt', nI_le', nI_eq', nI_lt0, nI_ge0, nI_eq0, nI_gt0, nI_le0, nI_ne_m1, m1_ne_nI, m1_lt_nI, m1_le_nI, nI_lt_m1, nI_le_m1, nI_clamp, ax_in_nI, nI_shl, nI_shr, lg_cmp0, nx_and, nI_eq1, bI_0, bI_1, bf_or, eq_self, or_true, true_or, lt_T, le_T, lt_F, le_F, eq_F, eq_T, kdM_0, kdM_1, kdM_2, kdM_3, kdM_4, kdM_5, kdM_6, kdM_7, kdM_8, kdM_9, kdM_10, kdM_11, kdM_12, kdM_13, kdM_14, kdM_15, kdM_16, kdM_17, kdM_18, kdM_19, kdM_20, kdM_21, kdM_22, kdM_23, kdM_24, rM_0, rM_1, rM_5, rM_6, rM_7, rM_10, rM_11, rM_12, rM_13, rM_14, rM_15, rM_16, rM_18, rM_19, rM_20, rM_21, rM_23, rM_24, rM_25, rM_26, rM_28, rM_29, rM_30, rM_31, hr, b0, b1, mQ_operand_, Nat.add_zero]
                  rw [Nat.add_assoc (120 * c) p 2, ← en]
                  exact fin h L line _ hu ho (by omega) (by omega) hQ (fun _ => by omega)
      · rw [if_neg e1] at hcd; cases hcd
    · rw [if_neg e, List.append_nil] at hQ
      simp (disch := omega) only [sQ_listCode_9, sQ_listCode_10, sQ_listCode_187, ax_clr_i, ax_clr_l, ax_clr_r, ax_clr_n, ax_ct_0, ax_ct_i, ax_ct_l, ax_ct_r, va_rf_s, Option.toList_some, Option.toList_none, List.cons_append, List.nil_append, and_true, true_and, and_self, ite_true, ite_false, if_true, if_false, Nat.reduceAdd, Nat.reduceLeDiff, Nat.reduceMul, Nat.reduceLT, nI_add, pk_mul, nI_lt', nI_le', nI_eq', nI_lt0, nI_ge0, nI_eq0, nI_gt0, nI_le0, nI_ne_m1, m1_ne_nI, m1_lt_nI, m1_le_nI, nI_lt_m1, nI_le_m1, nI_clamp, ax_in_nI, nI_shl, nI_shr, lg_cmp0, nx_and, nI_eq1, bI_0, bI_1, bf_or, eq_self, or_true, true_or, lt_T, le_T, lt_F, le_F, eq_F, eq_T]
      exact hQ h frO.rf ho
/-- the occurrences of a unit: SUPER, interfaces, then its methods' code -/
def ocMs (u : List Nat) : Nat → Nat → List oc4
  | 0, _ => []
  | m + 1, j => ocC u (pmj u j + 3) (pmj u j + 3 + bg u (pmj u j + 2)) (bg u (pmj u j + 2)) (pmj u j + 3) (bg u (pmj u j + 1)) ++ ocMs u m (j + 1)
def ocI (u : List Nat) (m i : Nat) : List oc4 := (List.range m).map (fun j => (8, 0, nmU u (bg u (piU u + 1 + (i + j))), []))
def ocU (u : List Nat) : List oc4 := (if 0 < bg u (hdU u + 1) then [(7, 0, nmU u (bg u (hdU u + 1)), [])] else []) ++ ocI u (bg u (piU u)) 0 ++ ocMs u (bg u (pmU u)) 0
theorem ocC_len (u : List Nat) (n : Nat) (off : Nat → Nat) (start lim : Nat) : ∀ (m p line : Nat), start ≤ p → p ≤ lim → (sCd u n off start lim m p).1 = true → 2 * (ocC u start lim m p line).length ≤ lim - p
  | 0, p, line, _, _, _ => by simp [ocC]
  | m + 1, p, line, hs, hp, hcd => by
    rw [ocC]
    rw [sCd] at hcd
    by_cases e : p < lim
    · rw [if_pos e] at hcd ⊢
      by_cases e1 : (sIn u n off start lim p).1 = true
      · rw [if_pos e1] at hcd
        obtain ⟨n1, n2, n3, n4, n5, n6⟩ := sIn_nx hs e e1
        have n7 := (sIn_le (b := u) (n := n) (off := off) (start := start) e).2 e1
        rw [n1] at hcd n7
        have ih := fun line => ocC_len u n off start lim m (nxI u start p) line (by omega) n3 hcd
        by_cases a170 : bg u p = 170
        · rw [if_pos a170]; have := ih line; omega
        · rw [if_neg a170]
          by_cases a196 : bg u p = 196
          · rw [if_pos a196, List.length_append]
            have en : nxI u start p = p + 4 := by unfold nxI; rw [if_neg a170, if_pos a196]
            have := nms_len u (bg u (p + 1)) (256 * bg u (p + 2) + bg u (p + 3)) line
            have := ih line
            omega
          · rw [if_neg a196, List.length_append]
            have en : nxI u start p = if bg u p = 0 then p + 1 else p + 2 := by unfold nxI; rw [if_neg a170, if_neg a196]
            generalize line + (if bg u p = 25 then bg u (p + 1) else 0) = ln
            have k1 := ih ln
            by_cases o0 : 0 < opd (bg u p)
            · rw [if_pos o0]
              have k2 := nms_len u (bg u p) (bg u (p + 1)) ln
              have a0 : ¬ bg u p = 0 := by intro q; rw [q] at o0; exact absurd o0 (by decide)
              rw [if_neg a0] at en
              omega
            · rw [if_neg o0]; simp; omega
      · rw [if_neg e1] at hcd; cases hcd
    · rw [if_neg e]; simp
end MP
