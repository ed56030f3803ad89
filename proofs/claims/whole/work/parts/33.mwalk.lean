/-! where constants lie: the table of the reading, and the walk -/
def wk (u : List Nat) : Nat → Nat → Nat → Nat → Nat
  | 0, _, p, _ => p
  | f + 1, k, p, T => if k < T then wk u f (k + cstp u p) (p + clen u p) T else p
def cAt (u : List Nat) (T : Nat) : Nat := wk u T 1 2 T
def sOf (u : List Nat) (n : Nat) : Nat → Nat → Nat → (Nat → Nat) → Nat → Nat
  | 0, _, _, g => g
  | m + 1, k, p, g => if n < k then g else sOf u n m (k + cstp u p) (p + clen u p) (fun j => if j = k then p else g j)
def offU (u : List Nat) (n : Nat) : Nat → Nat := sOf u n 26 1 2 (fun _ => 0)
theorem cstp_pos (u : List Nat) (p : Nat) : 1 ≤ cstp u p ∧ cstp u p ≤ 2 := by unfold cstp; split <;> omega
/-- all constants can be read from number k at p on -/
def cOk (u : List Nat) (n : Nat) : Nat → Nat → Nat → Prop
  | 0, _, _ => True
  | m + 1, k, p => n < k ∨ ((sCo u (decide (k = n)) p).1 = true ∧ cOk u n m (k + cstp u p) (p + clen u p))
theorem sCs_ok (u : List Nat) (n : Nat) : ∀ (m k p : Nat) (f : Nat → Int32), (sCs u n m k p f).1 = true ↔ cOk u n m k p
  | 0, k, p, f => by simp [sCs, cOk]
  | m + 1, k, p, f => by
    rw [sCs, cOk]
    by_cases e : n < k
    · simp [e]
    · rw [if_neg e]
      by_cases e1 : (sCo u (decide (k = n)) p).1 = true
      · have k1 := sCo_ok e1
        rw [if_neg (by rw [e1]; decide), sCs_ok u n m, k1.2.1]
        simp [e, e1]
      · rw [if_pos (bI_c e1)]
        simp [e, e1]
theorem sCs_of (u : List Nat) (n : Nat) : ∀ (m k p : Nat) (f : Nat → Int32) (g : Nat → Nat), cOk u n m k p → (∀ j, j < 26 → f j = nI (g j)) → ∀ j, j < 26 → (sCs u n m k p f).2.2 j = nI (sOf u n m k p g j)
  | 0, k, p, f, g, _, hf => hf
  | m + 1, k, p, f, g, hc, hf => by
    intro j hj
    rw [sCs, sOf]
    rw [cOk] at hc
    by_cases e : n < k
    · rw [if_pos e, if_pos e]; exact hf j hj
    · obtain ⟨e1, hc2⟩ := hc.resolve_left e
      have k1 := sCo_ok e1
      rw [if_neg e, if_neg e, if_neg (by rw [e1]; decide), k1.2.1]
      refine sCs_of u n m _ _ _ _ hc2 (fun i hi => ?_) j hj
      unfold upd
      by_cases e2 : i = k
      · simp [e2]
      · simp [e2]; exact hf i hi
/-- the fuel does not matter -/
theorem wk_fuel (u : List Nat) (T : Nat) : ∀ (f g k p : Nat), T ≤ k + f → T ≤ k + g → wk u f k p T = wk u g k p T
  | 0, 0, k, p, _, _ => rfl
  | 0, g + 1, k, p, h1, _ => by rw [wk, wk, if_neg (by omega)]
  | f + 1, 0, k, p, _, h2 => by rw [wk, wk, if_neg (by omega)]
  | f + 1, g + 1, k, p, h1, h2 => by
    have := cstp_pos u p
    rw [wk, wk]
    by_cases e : k < T
    · rw [if_pos e, if_pos e]; exact wk_fuel u T f g _ _ (by omega) (by omega)
    · rw [if_neg e, if_neg e]
theorem sCs_end (u : List Nat) (n : Nat) : ∀ (m k p : Nat) (f : Nat → Int32), cOk u n m k p → n < k + m → (sCs u n m k p f).2.1 = wk u m k p (n + 1)
  | 0, k, p, f, _, hm => rfl
  | m + 1, k, p, f, hc, hm => by
    have hp := cstp_pos u p
    rw [sCs, wk]
    rw [cOk] at hc
    by_cases e : n < k
    · rw [if_pos e, if_neg (by omega)]
    · obtain ⟨e1, hc2⟩ := hc.resolve_left e
      have k1 := sCo_ok e1
      rw [if_neg e, if_neg (show ¬ (sCo u (decide (k = n)) p).1 = false by rw [e1]; decide), if_pos (show k < n + 1 by omega), k1.2.1]
      exact sCs_end u n m _ _ _ hc2 (by omega)
theorem sOf_lt (u : List Nat) (n : Nat) : ∀ (m k p : Nat) (g : Nat → Nat) (j : Nat), j < k → sOf u n m k p g j = g j
  | 0, k, p, g, j, _ => rfl
  | m + 1, k, p, g, j, hj => by
    have hp := cstp_pos u p
    rw [sOf]
    by_cases e : n < k
    · rw [if_pos e]
    · rw [if_neg e, sOf_lt u n m _ _ _ j (by omega)]
      simp [show ¬ j = k by omega]
/-- where the table has an offset, the walk comes to it -/
theorem sOf_wk (u : List Nat) (n : Nat) : ∀ (m k p : Nat) (g : Nat → Nat) (j : Nat), k ≤ j → sOf u n m k p g j ≠ g j → sOf u n m k p g j = wk u m k p j
  | 0, k, p, g, j, _, h => absurd rfl h
  | m + 1, k, p, g, j, hj, h => by
    have hp := cstp_pos u p
    rw [sOf] at h ⊢
    rw [wk]
    by_cases e : n < k
    · rw [if_pos e] at h; exact absurd rfl h
    · rw [if_neg e] at h ⊢
      by_cases e1 : j = k
      · subst e1
        rw [sOf_lt u n m _ _ _ j (by omega), if_neg (show ¬ j < j by omega)]; simp
      · rw [if_pos (by omega)]
        by_cases e2 : j < k + cstp u p
        · rw [sOf_lt u n m _ _ _ j e2] at h
          simp [e1] at h
        · refine sOf_wk u n m _ _ _ j (by omega) ?_
          simpa [e1] using h
/-- what the reading of constants leaves -/
theorem cW_of (u : List Nat) (n : Nat) (hn : n ≤ 24) : ∀ (m k p : Nat) (g : Nat → Nat), cOk u n m k p → 1 ≤ k → 2 ≤ p → cW u n g → cW u n (sOf u n m k p g)
  | 0, k, p, g, _, _, _, hg => hg
  | m + 1, k, p, g, hc, hk, hp, hg => by
    have hs := cstp_pos u p
    have hl := clen_pos u p
    rw [sOf]
    rw [cOk] at hc
    by_cases e : n < k
    · rw [if_pos e]; exact hg
    · obtain ⟨e1, hc2⟩ := hc.resolve_left e
      have k1 := sCo_ok e1
      rw [if_neg e]
      refine cW_of u n hn m _ _ _ hc2 (by omega) (by omega) ⟨hn, fun j hj => ?_⟩
      by_cases e2 : j = k
      · subst e2
        simp only [if_true]
        refine Or.inr ⟨hk, by omega, hp, k1.2.2, ?_, fun t1 => ?_⟩
        · have := k1.1
          simp only [tgOk, Bool.and_eq_true] at this
          exact this.1.2
        · have h9 := e1
          unfold sCo at h9
          rw [if_neg (by rw [k1.1]; decide), if_pos t1] at h9
          by_cases t2 : p + 1 < u.length ∧ 1 ≤ bg u (p + 1) ∧ bg u (p + 1) ≤ 10
          · rw [if_pos t2] at h9
            have := sTx_ok u _ (p + 2) (by omega) h9
            exact ⟨t2.2.1, t2.2.2, this.2.2⟩
          · rw [if_neg t2] at h9; cases h9
      · simp only [e2, if_false]
        exact hg.2 j hj
theorem cAt_off {u : List Nat} {n k : Nat} (hk : 1 ≤ k) (h26 : k ≤ 26) (h0 : offU u n k ≠ 0) : cAt u k = offU u n k := by
  have h1 := sOf_wk u n 26 1 2 (fun _ => 0) k hk h0
  unfold cAt
  rw [show offU u n k = sOf u n 26 1 2 (fun _ => 0) k from rfl, h1]
  exact wk_fuel u k _ _ _ _ (by omega) (by omega)
/-- the bytes of unit u lie at place c -/
def untM (h : ax_H) (c : Nat) (u : List Nat) : Prop := h.2.2 = rM ∧ u.length ≤ 120 ∧ (∀ j, j < u.length → h.1 1 (120 * c + j) = nI (bg u j)) ∧ ∀ x ∈ u, x < 256
theorem untM.lt {h : ax_H} {c : Nat} {u : List Nat} (hu : untM h c u) (k : Nat) : bg u k < 256 := by
  unfold bg
  have := getD_le (p := u) (n := 255) (fun c hc => by have := hu.2.2.2 c hc; omega) k
  omega
section MW
variable {d : Nat} {h : ax_H} {u : List Nat} {c : Nat} {Q : Option Value → ax_H → Prop}
theorem mQ_sign_ (x : Nat) (hx : x < 256) (hl : isLt x = true ∨ x = 46) : ax_wp kM d mQ_sign 0 [some (.int (nI x))] [] h Q = Q (some (.int (nI (cod x)))) h := by
  simp only [isLt, Bool.or_eq_true, decide_eq_true_eq] at hl
  simp (disch := omega) only [sQ_sign_0, sQ_sign_1, sQ_sign_3, sQ_sign_6, sQ_sign_8, sQ_sign_11, sQ_sign_12, sQ_sign_14, sQ_sign_17, sQ_sign_18, sQ_sign_20, sQ_sign_21, sQ_sign_22, sQ_sign_23, sQ_sign_26, sQ_sign_27, sQ_sign_29, sQ_sign_30, sQ_sign_32, sQ_sign_33, ax_clr_i, ax_clr_l, ax_clr_r, ax_clr_n, ax_ct_0, ax_ct_i, ax_ct_l, ax_ct_r, va_rf_s, Option.toList_some, Option.toList_none, List.cons_append, List.nil_append, and_true, true_and, and_self, ite_true, ite_false, if_true, if_false, Nat.reduceAdd, Nat.reduceLeDiff, Nat.reduceMul, Nat.reduceLT, nI_add, pk_mul, nI_lt', nI_le', nI_eq', nI_lt0, nI_ge0, nI_eq0, nI_gt0, nI_le0, nI_ne_m1, m1_ne_nI, m1_lt_nI, m1_le_nI, nI_lt_m1, nI_le_m1, nI_clamp, ax_in_nI, nI_shl, nI_shr, lg_cmp0, nx_and, nI_eq1, bI_0, bI_1, bf_or, eq_self, or_true, true_or]
  unfold cod
  (repeat' split) <;> first | omega | (simp (disch := omega) only [pk_sub, nI_add] <;> first | rfl | (congr 4; omega))
theorem mQ_constantAt_l (hu : untM h c u) (hc : c ≤ 12) (n T : Nat) (hT : T ≤ n + 1) (hn : n ≤ 24) : ∀ (m k p : Nat) (x5 : Option Value), cOk u n m k p → n < k + m → k ≤ 26 → p ≤ u.length → ax_wp kM d mQ_constantAt 10 [some (.ref 0), some (.int (nI c)), some (.int (nI T)), some (.int (nI (120 * c + p))), some (.int (nI k)), x5] [] h Q = Q (some (.int (nI (120 * c + wk u m k p T)))) h
  | 0, k, p, x5, _, hm, hk, hp => by
    rw [sQ_constantAt_10]
    have := hu.2.1
    simp (disch := omega) only [sQ_constantAt_12, sQ_constantAt_13, sQ_constantAt_16, sQ_constantAt_17, sQ_constantAt_20, sQ_constantAt_21, sQ_constantAt_22, sQ_constantAt_24, sQ_constantAt_25, sQ_constantAt_27, sQ_constantAt_28, sQ_constantAt_31, sQ_constantAt_32, sQ_constantAt_33, sQ_constantAt_36, sQ_constantAt_37, sQ_constantAt_38, sQ_constantAt_39, sQ_constantAt_40, sQ_constantAt_41, sQ_constantAt_44, sQ_constantAt_46, sQ_constantAt_48, sQ_constantAt_51, sQ_constantAt_52, sQ_constantAt_55, sQ_constantAt_56, sQ_constantAt_57, sQ_constantAt_58, sQ_constantAt_60, sQ_constantAt_62, sQ_constantAt_63, sQ_constantAt_66, sQ_constantAt_67, sQ_constantAt_70, sQ_constantAt_71, sQ_constantAt_72, sQ_constantAt_74, sQ_constantAt_77, sQ_constantAt_78, ax_clr_i, ax_clr_l, ax_clr_r, ax_clr_n, ax_ct_0, ax_ct_i, ax_ct_l, ax_ct_r, va_rf_s, Option.toList_some, Option.toList_none, List.cons_append, List.nil_append, and_true, true_and, and_self, ite_true, ite_false, if_true, if_false, Nat.reduceAdd, Nat.reduceLeDiff, Nat.reduceMul, Nat.reduceLT, nI_add, pk_mul, nI_lt', nI_le', nI_eq', nI_lt0, nI_ge0, nI_eq0, nI_gt0, nI_le0, nI_ne_m1, m1_ne_nI, m1_lt_nI, m1_le_nI, nI_lt_m1, nI_le_m1, nI_clamp, ax_in_nI, nI_shl, nI_shr, lg_cmp0, nx_and, nI_eq1, bI_0, bI_1, bf_or, eq_self, or_true, true_or, lt_T, le_T, lt_F, le_F, eq_F, eq_T]
    rfl
  | m + 1, k, p, x5, hok, hm, hk, hp => by
    have h2 := hu.1
    have hz := hu.2.1
    have l0 := hu.lt p
    have l1 := hu.lt (p + 1)
    have hs := cstp_pos u p
    rw [sQ_constantAt_10, wk]
    by_cases e : k < T
    · rw [cOk] at hok
      obtain ⟨e1, hc2⟩ := hok.resolve_left (by omega)
      have k1 := sCo_ok e1
      have hl := clen_pos u p
      have b0 := hu.2.2.1 p (by omega)
      have b1 := hu.2.2.1 (p + 1) (by omega)
      have hk26 : k + cstp u p ≤ 26 := by
        by_cases e3 : bg u p = 3
        · have := k1.1
          simp only [tgOk, Bool.and_eq_true, e3] at this
          simp at this
          omega
        · have : cstp u p = 1 := if_neg e3
          omega
      have ih := fun x5 => mQ_constantAt_l hu hc n T hT hn m (k + cstp u p) (p + clen u p) x5 hc2 (by omega) hk26 (by omega)
      rw [← Nat.add_assoc] at ih b1
      simp (disch := omega) only [sQ_constantAt_12, sQ_constantAt_13, sQ_constantAt_16, sQ_constantAt_17, sQ_constantAt_20, sQ_constantAt_21, sQ_constantAt_22, sQ_constantAt_24, sQ_constantAt_25, sQ_constantAt_27, sQ_constantAt_28, sQ_constantAt_31, sQ_constantAt_32, sQ_constantAt_33, sQ_constantAt_36, sQ_constantAt_37, sQ_constantAt_38, sQ_constantAt_39, sQ_constantAt_40, sQ_constantAt_41, sQ_constantAt_44, sQ_constantAt_46, sQ_constantAt_48, sQ_constantAt_51, sQ_constantAt_52, sQ_constantAt_55, sQ_constantAt_56, sQ_constantAt_57, sQ_constantAt_58, sQ_constantAt_60, sQ_constantAt_62, sQ_constantAt_63, sQ_constantAt_66, sQ_constantAt_67, sQ_constantAt_70, sQ_constantAt_71, sQ_constantAt_72, sQ_constantAt_74, ax_clr_i, ax_clr_l, ax_clr_r, ax_clr_n, ax_ct_0, ax_ct_i, ax_ct_l, ax_ct_r, va_rf_s, Option.toList_some, Option.toList_none, List.cons_append, List.nil_append, and_true, true_and, and_self, ite_true, ite_false, if_true, if_false, Nat.reduceAdd, Nat.reduceLeDiff, Nat.reduceMul, Nat.reduceLT, nI_add, pk_mul, nI_lt', nI_le', nI_eq', nI_lt0, nI_ge0, nI_eq0, nI_gt0, nI_le0, nI_ne_m1, m1_ne_nI, m1_lt_nI, m1_le_nI, nI_lt_m1, nI_le_m1, nI_clamp, ax_in_nI, nI_shl, nI_shr, lg_cmp0, nx_and, nI_eq1, bI_0, bI_1, bf_or, eq_self, or_true, true_or, lt_T, le_T, lt_F, le_F, eq_F, eq_T, kdM_0, kdM_1, kdM_2, kdM_3, kdM_4, kdM_5, kdM_6, kdM_7, kdM_8, kdM_9, kdM_10, kdM_11, kdM_12, kdM_13, kdM_14, kdM_15, kdM_16, kdM_17, kdM_18, kdM_19, kdM_20, kdM_21, kdM_22, kdM_23, kdM_24, rM_0, rM_1, rM_5, rM_6, rM_7, rM_10, rM_11, rM_12, rM_13, rM_14, rM_15, rM_16, rM_18, rM_19, rM_20, rM_21, rM_23, rM_24, rM_25, rM_26, rM_28, rM_29, rM_30, rM_31, h2, b0, b1]
      unfold clen cstp at ih ⊢
      by_cases t1 : bg u p = 1
      · have t3 : ¬ bg u p = 3 := by omega
        simp only [if_pos t1, if_neg t3] at ih ⊢
        exact ih _
      · by_cases t7 : bg u p = 7
        · have t3 : ¬ bg u p = 3 := by omega
          simp only [if_neg t1, if_pos t7, if_neg t3] at ih ⊢
          exact ih _
        · by_cases t3 : bg u p = 3
          · simp only [if_neg t1, if_neg t7, if_pos t3] at ih ⊢
            exact ih _
          · simp only [if_neg t1, if_neg t7, if_neg t3] at ih ⊢
            exact ih _
    · rw [if_neg e]
      simp (disch := omega) only [sQ_constantAt_12, sQ_constantAt_13, sQ_constantAt_16, sQ_constantAt_17, sQ_constantAt_20, sQ_constantAt_21, sQ_constantAt_22, sQ_constantAt_24, sQ_constantAt_25, sQ_constantAt_27, sQ_constantAt_28, sQ_constantAt_31, sQ_constantAt_32, sQ_constantAt_33, sQ_constantAt_36, sQ_constantAt_37, sQ_constantAt_38, sQ_constantAt_39, sQ_constantAt_40, sQ_constantAt_41, sQ_constantAt_44, sQ_constantAt_46, sQ_constantAt_48, sQ_constantAt_51, sQ_constantAt_52, sQ_constantAt_55, sQ_constantAt_56, sQ_constantAt_57, sQ_constantAt_58, sQ_constantAt_60, sQ_constantAt_62, sQ_constantAt_63, sQ_constantAt_66, sQ_constantAt_67, sQ_constantAt_70, sQ_constantAt_71, sQ_constantAt_72, sQ_constantAt_74, sQ_constantAt_77, sQ_constantAt_78, ax_clr_i, ax_clr_l, ax_clr_r, ax_clr_n, ax_ct_0, ax_ct_i, ax_ct_l, ax_ct_r, va_rf_s, Option.toList_some, Option.toList_none, List.cons_append, List.nil_append, and_true, true_and, and_self, ite_true, ite_false, if_true, if_false, Nat.reduceAdd, Nat.reduceLeDiff, Nat.reduceMul, Nat.reduceLT, nI_add, pk_mul, nI_lt', nI_le', nI_eq', nI_lt0, nI_ge0, nI_eq0, nI_gt0, nI_le0, nI_ne_m1, m1_ne_nI, m1_lt_nI, m1_le_nI, nI_lt_m1, nI_le_m1, nI_clamp, ax_in_nI, nI_shl, nI_shr, lg_cmp0, nx_and, nI_eq1, bI_0, bI_1, bf_or, eq_self, or_true, true_or, lt_T, le_T, lt_F, le_F, eq_F, eq_T]
theorem mQ_constantAt_ (hu : untM h c u) (hc : c ≤ 12) (n T : Nat) (hT : T ≤ n + 1) (hn : n ≤ 24) (hok : cOk u n 26 1 2) (h2 : 2 ≤ u.length) : ax_wp kM d mQ_constantAt 0 [some (.ref 0), some (.int (nI c)), some (.int (nI T)), none, none, none] [] h Q = Q (some (.int (nI (120 * c + cAt u T)))) h := by
  simp (disch := omega) only [sQ_constantAt_0, sQ_constantAt_2, sQ_constantAt_3, sQ_constantAt_4, sQ_constantAt_5, sQ_constantAt_6, sQ_constantAt_7, sQ_constantAt_8, ax_clr_i, ax_clr_l, ax_clr_r, ax_clr_n, ax_ct_0, ax_ct_i, ax_ct_l, ax_ct_r, va_rf_s, Option.toList_some, Option.toList_none, List.cons_append, List.nil_append, and_true, true_and, and_self, ite_true, ite_false, if_true, if_false, Nat.reduceAdd, Nat.reduceLeDiff, Nat.reduceMul, Nat.reduceLT, nI_add, pk_mul]
  rw [mQ_constantAt_l hu hc n T hT hn 26 1 2 none hok (by omega) (by omega) h2, cAt, wk_fuel u T 26 T 1 2 (by omega) (by omega)]
/-- the constants of a unit can be read: n of them; off their offsets -/
def cU (u : List Nat) : Prop := 2 ≤ u.length ∧ bg u 1 ≤ 24 ∧ cOk u (bg u 1) 26 1 2
theorem cU.w {u : List Nat} (h : cU u) : cW u (bg u 1) (offU u (bg u 1)) := cW_of u _ h.2.1 26 1 2 _ h.2.2 (by omega) (by omega) ⟨h.2.1, fun _ _ => Or.inl rfl⟩
/-- tag and offset of a number -/
def tgU (u : List Nat) (k : Nat) : Nat := tgv u (bg u 1) (offU u (bg u 1)) k
theorem tgU_at {u : List Nat} (h : cU u) {k : Nat} (h0 : tgU u k ≠ 0) : 1 ≤ k ∧ k ≤ bg u 1 ∧ cAt u k = offU u (bg u 1) k ∧ tgU u k = bg u (cAt u k) ∧ 2 ≤ cAt u k ∧ cAt u k + clen u (cAt u k) ≤ u.length ∧ (tgU u k = 1 → 1 ≤ bg u (cAt u k + 1) ∧ bg u (cAt u k + 1) ≤ 10 ∧ ∀ i, i < bg u (cAt u k + 1) → (isLt (bg u (cAt u k + 2 + i)) = true ∨ bg u (cAt u k + 2 + i) = 46)) := by
  unfold tgU tgv at h0
  by_cases e : 1 ≤ k ∧ k ≤ bg u 1 ∧ offU u (bg u 1) k ≠ 0
  · have hn := h.2.1
    have e2 := cAt_off e.1 (by omega) e.2.2
    have e3 : tgU u k = bg u (cAt u k) := by rw [e2]; exact if_pos e
    rcases h.w.2 k (by omega) with hh | ⟨-, -, g2, g3, -, g5⟩
    · exact absurd hh e.2.2
    · rw [← e2] at g2 g3 g5
      exact ⟨e.1, e.2.1, e2, e3, g2, g3, fun t => g5 (e3 ▸ t)⟩
  · exact absurd (if_neg e) h0
theorem mQ_headOf_ (hu : untM h c u) (hc : c ≤ 12) (hk : cU u) : ax_wp kM (d + 1) mQ_headOf 0 [some (.ref 0), some (.int (nI c))] [] h Q = Q (some (.int (nI (120 * c + cAt u (bg u 1 + 1))))) h := by
  obtain ⟨h2, hn, hok⟩ := hk
  have hr := hu.1
  have b1 := hu.2.2.1 1 (by omega)
  simp (disch := omega) only [sQ_headOf_0, sQ_headOf_1, sQ_headOf_2, sQ_headOf_3, sQ_headOf_6, sQ_headOf_8, sQ_headOf_9, sQ_headOf_10, sQ_headOf_11, sQ_headOf_12, sQ_headOf_13, sQ_headOf_14, sQ_headOf_15, sQ_headOf_18, ax_clr_i, ax_clr_l, ax_clr_r, ax_clr_n, ax_ct_0, ax_ct_i, ax_ct_l, ax_ct_r, va_rf_s, Option.toList_some, Option.toList_none, List.cons_append, List.nil_append, and_true, true_and, and_self, ite_true, ite_false, if_true, if_false, Nat.reduceAdd, Nat.reduceLeDiff, Nat.reduceMul, Nat.reduceLT, nI_add, pk_mul, nI_lt', nI_le', nI_eq', nI_lt0, nI_ge0, nI_eq0, nI_gt0, nI_le0, nI_ne_m1, m1_ne_nI, m1_lt_nI, m1_le_nI, nI_lt_m1, nI_le_m1, nI_clamp, ax_in_nI, nI_shl, nI_shr, lg_cmp0, nx_and, nI_eq1, bI_0, bI_1, bf_or, eq_self, or_true, true_or, lt_T, le_T, lt_F, le_F, eq_F, eq_T, kdM_0, kdM_1, kdM_2, kdM_3, kdM_4, kdM_5, kdM_6, kdM_7, kdM_8, kdM_9, kdM_10, kdM_11, kdM_12, kdM_13, kdM_14, kdM_15, kdM_16, kdM_17, kdM_18, kdM_19, kdM_20, kdM_21, kdM_22, kdM_23, kdM_24, rM_0, rM_1, rM_5, rM_6, rM_7, rM_10, rM_11, rM_12, rM_13, rM_14, rM_15, rM_16, rM_18, rM_19, rM_20, rM_21, rM_23, rM_24, rM_25, rM_26, rM_28, rM_29, rM_30, rM_31, hr, b1, mQ_constantAt_ hu hc (bg u 1) (bg u 1 + 1) (by omega) hn hok h2]
theorem pB_lt : ∀ (t : List Nat), (∀ x ∈ t, x < 64) → ∀ a, t.foldl (fun a c => a * 64 + c) a < (a + 1) * 64 ^ t.length
  | [], _, a => by simp
  | x :: t, h, a => by
    have h1 := h x (by simp)
    have h2 := pB_lt t (fun y hy => h y (by simp [hy])) (a * 64 + x)
    simp only [List.foldl_cons, List.length_cons, Nat.pow_succ]
    have h3 : (a * 64 + x + 1) * 64 ^ t.length ≤ ((a + 1) * 64) * 64 ^ t.length := Nat.mul_le_mul_right _ (by omega)
    rw [Nat.mul_comm (64 ^ t.length) 64, ← Nat.mul_assoc]
    omega
theorem cod_lt (c : Nat) : cod c < 64 := by unfold cod; (repeat' split) <;> omega
theorem mQ_textOf_l (hu : untM h c u) (hc : c ≤ 12) (p : Nat) (hp : p + 2 + bg u (p + 1) ≤ u.length) (h10 : bg u (p + 1) ≤ 10) (hl : ∀ i, i < bg u (p + 1) → (isLt (bg u (p + 2 + i)) = true ∨ bg u (p + 2 + i) = 46)) (x1 x2 : Option Value) : ∀ (m i a : Nat), i + m = bg u (p + 1) → ax_wp kM (d + 1) mQ_textOf 13 [some (.ref 0), x1, x2, some (.int (nI (120 * c + p))), some (.long (lN a)), none, some (.int (nI i))] [] h Q = Q (some (.long (lN (((List.range m).map (fun j => cod (bg u (p + 2 + (i + j))))).foldl (fun a c => a * 64 + c) a)))) h
  | 0, i, a, hi => by
    have hr := hu.1
    have hz := hu.2.1
    have b1 := hu.2.2.1 (p + 1) (by omega)
    rw [← Nat.add_assoc] at b1
    rw [sQ_textOf_13]
    simp (disch := omega) only [sQ_textOf_15, sQ_textOf_16, sQ_textOf_19, sQ_textOf_20, sQ_textOf_21, sQ_textOf_22, sQ_textOf_23, sQ_textOf_26, sQ_textOf_28, sQ_textOf_31, sQ_textOf_32, sQ_textOf_33, sQ_textOf_36, sQ_textOf_37, sQ_textOf_38, sQ_textOf_39, sQ_textOf_41, sQ_textOf_42, sQ_textOf_43, sQ_textOf_46, sQ_textOf_47, sQ_textOf_48, sQ_textOf_50, sQ_textOf_53, sQ_textOf_56, sQ_textOf_58, ax_clr_i, ax_clr_l, ax_clr_r, ax_clr_n, ax_ct_0, ax_ct_i, ax_ct_l, ax_ct_r, va_rf_s, Option.toList_some, Option.toList_none, List.cons_append, List.nil_append, and_true, true_and, and_self, ite_true, ite_false, if_true, if_false, Nat.reduceAdd, Nat.reduceLeDiff, Nat.reduceMul, Nat.reduceLT, nI_add, pk_mul, nI_lt', nI_le', nI_eq', nI_lt0, nI_ge0, nI_eq0, nI_gt0, nI_le0, nI_ne_m1, m1_ne_nI, m1_lt_nI, m1_le_nI, nI_lt_m1, nI_le_m1, nI_clamp, ax_in_nI, nI_shl, nI_shr, lg_cmp0, nx_and, nI_eq1, bI_0, bI_1, bf_or, eq_self, or_true, true_or, lt_T, le_T, lt_F, le_F, eq_F, eq_T, kdM_0, kdM_1, kdM_2, kdM_3, kdM_4, kdM_5, kdM_6, kdM_7, kdM_8, kdM_9, kdM_10, kdM_11, kdM_12, kdM_13, kdM_14, kdM_15, kdM_16, kdM_17, kdM_18, kdM_19, kdM_20, kdM_21, kdM_22, kdM_23, kdM_24, rM_0, rM_1, rM_5, rM_6, rM_7, rM_10, rM_11, rM_12, rM_13, rM_14, rM_15, rM_16, rM_18, rM_19, rM_20, rM_21, rM_23, rM_24, rM_25, rM_26, rM_28, rM_29, rM_30, rM_31, hr, b1]
    simp
  | m + 1, i, a, hi => by
    have hr := hu.1
    have hz := hu.2.1
    have b1 := hu.2.2.1 (p + 1) (by omega)
    have b2 := hu.2.2.1 (p + 2 + i) (by omega)
    have l2 := hu.lt (p + 2 + i)
    have lc := cod_lt (bg u (p + 2 + i))
    rw [← Nat.add_assoc] at b1
    rw [← Nat.add_assoc, ← Nat.add_assoc] at b2
    have e9 : (List.range (m + 1)).map (fun j => cod (bg u (p + 2 + (i + j)))) = cod (bg u (p + 2 + i)) :: (List.range m).map (fun j => cod (bg u (p + 2 + (i + 1 + j)))) := by
      rw [List.range_succ_eq_map, List.map_cons, List.map_map]
      refine congr (congrArg _ (by simp)) ?_
      apply List.map_congr_left
      intro j hj
      simp only [Function.comp]
      rw [show i + (j + 1) = i + 1 + j by omega]
    rw [sQ_textOf_13]
    simp (disch := omega) only [sQ_textOf_15, sQ_textOf_16, sQ_textOf_19, sQ_textOf_20, sQ_textOf_21, sQ_textOf_22, sQ_textOf_23, sQ_textOf_26, sQ_textOf_28, sQ_textOf_31, sQ_textOf_32, sQ_textOf_33, sQ_textOf_36, sQ_textOf_37, sQ_textOf_38, sQ_textOf_39, sQ_textOf_41, sQ_textOf_42, sQ_textOf_43, sQ_textOf_46, sQ_textOf_47, sQ_textOf_48, sQ_textOf_50, sQ_textOf_53, ax_clr_i, ax_clr_l, ax_clr_r, ax_clr_n, ax_ct_0, ax_ct_i, ax_ct_l, ax_ct_r, va_rf_s, Option.toList_some, Option.toList_none, List.cons_append, List.nil_append, and_true, true_and, and_self, ite_true, ite_false, if_true, if_false, Nat.reduceAdd, Nat.reduceLeDiff, Nat.reduceMul, Nat.reduceLT, nI_add, pk_mul, nI_lt', nI_le', nI_eq', nI_lt0, nI_ge0, nI_eq0, nI_gt0, nI_le0, nI_ne_m1, m1_ne_nI, m1_lt_nI, m1_le_nI, nI_lt_m1, nI_le_m1, nI_clamp, ax_in_nI, nI_shl, nI_shr, lg_cmp0, nx_and, nI_eq1, bI_0, bI_1, bf_or, eq_self, or_true, true_or, lt_T, le_T, lt_F, le_F, eq_F, eq_T, kdM_0, kdM_1, kdM_2, kdM_3, kdM_4, kdM_5, kdM_6, kdM_7, kdM_8, kdM_9, kdM_10, kdM_11, kdM_12, kdM_13, kdM_14, kdM_15, kdM_16, kdM_17, kdM_18, kdM_19, kdM_20, kdM_21, kdM_22, kdM_23, kdM_24, rM_0, rM_1, rM_5, rM_6, rM_7, rM_10, rM_11, rM_12, rM_13, rM_14, rM_15, rM_16, rM_18, rM_19, rM_20, rM_21, rM_23, rM_24, rM_25, rM_26, rM_28, rM_29, rM_30, rM_31, hr, b1, b2, mQ_sign_ _ l2 (hl i (by omega))]
    rw [nI_l (by omega), show (64 : Int64) = lN 64 from rfl, lN_mul, lN_add, mQ_textOf_l hu hc p hp h10 hl x1 x2 m (i + 1) _ (by omega), e9, List.foldl_cons]
theorem mQ_textOf_ (hu : untM h c u) (hc : c ≤ 12) (hk : cU u) (k : Nat) (ht : tgU u k = 1) : ax_wp kM (d + 1) mQ_textOf 0 [some (.ref 0), some (.int (nI c)), some (.int (nI k)), none, none, none, none] [] h Q = Q (some (.long (lN (pB (txt u (cAt u k)))))) h := by
  obtain ⟨t1, t2, t3, t4, t5, t6, t7⟩ := tgU_at hk (k := k) (by omega)
  obtain ⟨g1, g2, g3⟩ := t7 ht
  have g4 : cAt u k + 2 + bg u (cAt u k + 1) ≤ u.length := by
    unfold clen at t6; rw [← t4, if_pos ht] at t6; omega
  simp (disch := omega) only [sQ_textOf_0, sQ_textOf_1, sQ_textOf_2, sQ_textOf_3, sQ_textOf_6, sQ_textOf_7, sQ_textOf_8, sQ_textOf_10, sQ_textOf_11, ax_clr_i, ax_clr_l, ax_clr_r, ax_clr_n, ax_ct_0, ax_ct_i, ax_ct_l, ax_ct_r, va_rf_s, Option.toList_some, Option.toList_none, List.cons_append, List.nil_append, and_true, true_and, and_self, ite_true, ite_false, if_true, if_false, Nat.reduceAdd, Nat.reduceLeDiff, Nat.reduceMul, Nat.reduceLT, kdM_0, mQ_constantAt_ hu hc (bg u 1) k (by omega) hk.2.1 hk.2.2 hk.1]
  have h9 := mQ_textOf_l (d := d) (Q := Q) hu hc (cAt u k) g4 g2 g3 (some (.int (nI c))) (some (.int (nI k))) (bg u (cAt u k + 1)) 0 0 (by omega)
  simp only [Nat.zero_add] at h9
  exact h9
/-- the name that a CLASS has -/
def nmU (u : List Nat) (k : Nat) : List Nat := txt u (cAt u (bg u (cAt u k + 1)))
theorem mQ_nameOf_ (hu : untM h c u) (hc : c ≤ 12) (hk : cU u) (k : Nat) (ht : tgU u k = 7) (ht2 : tgU u (bg u (cAt u k + 1)) = 1) : ax_wp kM (d + 2) mQ_nameOf 0 [some (.ref 0), some (.int (nI c)), some (.int (nI k))] [] h Q = Q (some (.long (lN (pB (nmU u k))))) h := by
  obtain ⟨t1, t2, t3, t4, t5, t6, t7⟩ := tgU_at hk (k := k) (by omega)
  have hl := clen_pos u (cAt u k)
  have hr := hu.1
  have hz := hu.2.1
  have b1 := hu.2.2.1 (cAt u k + 1) (by omega)
  rw [← Nat.add_assoc] at b1
  simp (disch := omega) only [sQ_nameOf_0, sQ_nameOf_1, sQ_nameOf_2, sQ_nameOf_3, sQ_nameOf_6, sQ_nameOf_7, sQ_nameOf_8, sQ_nameOf_9, sQ_nameOf_12, sQ_nameOf_13, sQ_nameOf_14, sQ_nameOf_15, sQ_nameOf_18, ax_clr_i, ax_clr_l, ax_clr_r, ax_clr_n, ax_ct_0, ax_ct_i, ax_ct_l, ax_ct_r, va_rf_s, Option.toList_some, Option.toList_none, List.cons_append, List.nil_append, and_true, true_and, and_self, ite_true, ite_false, if_true, if_false, Nat.reduceAdd, Nat.reduceLeDiff, Nat.reduceMul, Nat.reduceLT, nI_add, pk_mul, nI_lt', nI_le', nI_eq', nI_lt0, nI_ge0, nI_eq0, nI_gt0, nI_le0, nI_ne_m1, m1_ne_nI, m1_lt_nI, m1_le_nI, nI_lt_m1, nI_le_m1, nI_clamp, ax_in_nI, nI_shl, nI_shr, lg_cmp0, nx_and, nI_eq1, bI_0, bI_1, bf_or, eq_self, or_true, true_or, lt_T, le_T, lt_F, le_F, eq_F, eq_T, kdM_0, kdM_1, kdM_2, kdM_3, kdM_4, kdM_5, kdM_6, kdM_7, kdM_8, kdM_9, kdM_10, kdM_11, kdM_12, kdM_13, kdM_14, kdM_15, kdM_16, kdM_17, kdM_18, kdM_19, kdM_20, kdM_21, kdM_22, kdM_23, kdM_24, rM_0, rM_1, rM_5, rM_6, rM_7, rM_10, rM_11, rM_12, rM_13, rM_14, rM_15, rM_16, rM_18, rM_19, rM_20, rM_21, rM_23, rM_24, rM_25, rM_26, rM_28, rM_29, rM_30, rM_31, hr, b1, mQ_constantAt_ hu hc (bg u 1) k (by omega) hk.2.1 hk.2.2 hk.1, mQ_textOf_ hu hc hk _ ht2]
  rfl
end MW
