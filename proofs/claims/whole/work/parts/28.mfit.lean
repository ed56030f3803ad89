/-! the model: numbers that fit -/
/-- what the constants are: for each number the offset of its tag, 0 where there is none -/
def cW (b : List Nat) (n : Nat) (off : Nat → Nat) : Prop := n ≤ 24 ∧ ∀ k, k < 26 → off k = 0 ∨ (1 ≤ k ∧ k ≤ n ∧ 2 ≤ off k ∧ off k + clen b (off k) ≤ b.length ∧ isTg (bg b (off k)) = true ∧ (bg b (off k) = 1 → 1 ≤ bg b (off k + 1) ∧ bg b (off k + 1) ≤ 10 ∧ ∀ i, i < bg b (off k + 1) → (isLt (bg b (off k + 2 + i)) = true ∨ bg b (off k + 2 + i) = 46)))
def cT (h : ax_H) (n : Nat) (off : Nat → Nat) : Prop := h.1 0 4 = nI n ∧ ∀ k, k < 26 → h.1 3 k = nI (off k)
theorem cT.up {h : ax_H} {n : Nat} {off : Nat → Nat} (hc : cT h n off) {x : Int32} : cT (ax_upI h 0 3 x) n off := by
  refine ⟨?_, fun k hk => ?_⟩
  · rw [up_I, if_neg (by omega)]; exact hc.1
  · rw [up_I, if_neg (by omega)]; exact hc.2 k hk
theorem clen_pos (b : List Nat) (p : Nat) : 2 ≤ clen b p := by unfold clen; (repeat' split) <;> omega
theorem cW.lt {b : List Nat} {n : Nat} {off : Nat → Nat} (hw : cW b n off) {k : Nat} (hk : k < 26) (h0 : off k ≠ 0) : off k + 1 < b.length := by
  rcases hw.2 k hk with h | ⟨-, -, -, h, -⟩
  · exact absurd h h0
  · have := clen_pos b (off k); omega
/-- the tag of a number -/
def tgv (b : List Nat) (n : Nat) (off : Nat → Nat) (k : Nat) : Nat := if 1 ≤ k ∧ k ≤ n ∧ off k ≠ 0 then bg b (off k) else 0
/-- the text of a TEXT at p -/
def txt (b : List Nat) (p : Nat) : List Nat := (List.range (bg b (p + 1))).map (fun i => cod (bg b (p + 2 + i)))
def wdL (sg : Bool) (gd pt : Bool) : List Nat → Bool
  | [] => gd && !pt
  | c :: t => wdL sg (gd && !(decide (c = 53) && (pt || sg))) (decide (c = 53)) t
theorem wdL_f (sg : Bool) : ∀ (t : List Nat) (pt : Bool), wdL sg false pt t = false
  | [], _ => rfl
  | c :: t, pt => by rw [wdL, Bool.false_and]; exact wdL_f sg t _
theorem wdL_nm : ∀ (t : List Nat) (b : Nat), wdL false true (decide (b = 53)) t = nmOk b t
  | [], b => by simp [wdL, nmOk]
  | c :: t, b => by
    rw [wdL, nmOk, Bool.true_and, Bool.or_false]
    by_cases e1 : c = 53 <;> by_cases e2 : b = 53
    · simp [e1, e2, wdL_f]
    · have := wdL_nm t c; simp [e1, e2]; simpa [e1] using this
    · have := wdL_nm t c; simp [e1]; simpa [e1] using this
    · have := wdL_nm t c; simp [e1]; simpa [e1] using this
theorem wdL_wd : ∀ (t : List Nat) (pt : Bool), wdL true true pt t = ((decide (t ≠ []) || !pt) && t.all (fun c => !decide (c = 53)))
  | [], pt => by simp [wdL]
  | c :: t, pt => by
    rw [wdL]
    by_cases e1 : c = 53
    · simp [e1, wdL_f]
    · rw [show (decide (c = 53)) = false by simpa using e1]
      simp only [Bool.false_and, Bool.not_false, Bool.true_and]
      rw [wdL_wd t false]
      simp [e1]
theorem wd_fit (sg : Bool) (t : List Nat) : wdL sg true true t = if sg = true then isWd t else isNm t := by
  cases sg with
  | true => rw [wdL_wd]; simp [isWd]
  | false => have := wdL_nm t 53; simpa [isNm] using this
theorem cod_53 {c : Nat} (h : isLt c = true ∨ c = 46) : (cod c = 53) = (c = 46) := by
  apply propext
  simp only [isLt, Bool.or_eq_true, decide_eq_true_eq] at h
  unfold cod
  (repeat' split) <;> omega
/-- whether a number fits a demand: 20 a word, 21 a name, 22 a class or a text, else a tag -/
def ftN (b : List Nat) (n : Nat) (off : Nat → Nat) (k w : Nat) : Bool :=
  if w = 20 then decide (tgv b n off k = 1) && isWd (txt b (off k)) else if w = 21 then decide (tgv b n off k = 1) && isNm (txt b (off k))
  else if w = 22 then decide (tgv b n off k = 7 ∨ tgv b n off k = 1) else decide (tgv b n off k = w)
section MF
variable {d : Nat} {h : ax_H} {b : List Nat} {n : Nat} {off : Nat → Nat} {Q : Option Value → ax_H → Prop}
theorem mQ_tag_ (hb : bufM h b) (hw : cW b n off) (hc : cT h n off) (k : Nat) (hk : k < 2 ^ 20) : ax_wp kM (d + 1) mQ_tag 0 [some (.ref 0), some (.int (nI k))] [] h Q = Q (some (.int (nI (tgv b n off k)))) h := by
  have h2 := hb.1
  have hn := hw.1
  have hz := hb.2.2.1
  by_cases e1 : k < 1
  · have ev : tgv b n off k = 0 := if_neg (by omega)
    rw [ev]
    simp (disch := omega) only [sQ_tag_0, sQ_tag_1, sQ_tag_2, sQ_tag_5, sQ_tag_6, sQ_tag_7, sQ_tag_10, sQ_tag_13, sQ_tag_14, sQ_tag_17, sQ_tag_18, sQ_tag_19, sQ_tag_22, sQ_tag_23, sQ_tag_26, sQ_tag_27, sQ_tag_28, sQ_tag_31, sQ_tag_32, sQ_tag_33, sQ_tag_36, ax_clr_i, ax_clr_l, ax_clr_r, ax_clr_n, ax_ct_0, ax_ct_i, ax_ct_l, ax_ct_r, va_rf_s, Option.toList_some, Option.toList_none, List.cons_append, List.nil_append, and_true, true_and, and_self, ite_true, ite_false, if_true, if_false, Nat.reduceAdd, Nat.reduceLeDiff, Nat.reduceMul, Nat.reduceLT, nI_add, pk_mul, nI_lt', nI_le', nI_eq', nI_lt0, nI_ge0, nI_eq0, nI_gt0, nI_le0, nI_ne_m1, m1_ne_nI, m1_lt_nI, m1_le_nI, nI_lt_m1, nI_le_m1, nI_clamp, ax_in_nI, nI_shl, nI_shr, lg_cmp0, nx_and, nI_eq1, bI_0, bI_1, bf_or, eq_self, or_true, true_or, lt_T, le_T, lt_F, le_F, eq_F, eq_T, kdM_0, kdM_1, kdM_2, kdM_3, kdM_4, kdM_5, kdM_6, kdM_7, kdM_8, kdM_9, kdM_10, kdM_11, kdM_12, kdM_13, kdM_14, kdM_15, kdM_16, kdM_17, kdM_18, kdM_19, kdM_20, kdM_21, kdM_22, kdM_23, kdM_24, rM_0, rM_1, rM_5, rM_6, rM_7, rM_10, rM_11, rM_12, rM_13, rM_14, rM_15, rM_16, rM_18, rM_19, rM_20, rM_21, rM_23, rM_24, rM_25, rM_26, rM_28, rM_29, rM_30, rM_31, h2, hc.1]
  · by_cases e2 : n < k
    · have ev : tgv b n off k = 0 := if_neg (by omega)
      rw [ev]
      simp (disch := omega) only [sQ_tag_0, sQ_tag_1, sQ_tag_2, sQ_tag_5, sQ_tag_6, sQ_tag_7, sQ_tag_10, sQ_tag_13, sQ_tag_14, sQ_tag_17, sQ_tag_18, sQ_tag_19, sQ_tag_22, sQ_tag_23, sQ_tag_26, sQ_tag_27, sQ_tag_28, sQ_tag_31, sQ_tag_32, sQ_tag_33, sQ_tag_36, ax_clr_i, ax_clr_l, ax_clr_r, ax_clr_n, ax_ct_0, ax_ct_i, ax_ct_l, ax_ct_r, va_rf_s, Option.toList_some, Option.toList_none, List.cons_append, List.nil_append, and_true, true_and, and_self, ite_true, ite_false, if_true, if_false, Nat.reduceAdd, Nat.reduceLeDiff, Nat.reduceMul, Nat.reduceLT, nI_add, pk_mul, nI_lt', nI_le', nI_eq', nI_lt0, nI_ge0, nI_eq0, nI_gt0, nI_le0, nI_ne_m1, m1_ne_nI, m1_lt_nI, m1_le_nI, nI_lt_m1, nI_le_m1, nI_clamp, ax_in_nI, nI_shl, nI_shr, lg_cmp0, nx_and, nI_eq1, bI_0, bI_1, bf_or, eq_self, or_true, true_or, lt_T, le_T, lt_F, le_F, eq_F, eq_T, kdM_0, kdM_1, kdM_2, kdM_3, kdM_4, kdM_5, kdM_6, kdM_7, kdM_8, kdM_9, kdM_10, kdM_11, kdM_12, kdM_13, kdM_14, kdM_15, kdM_16, kdM_17, kdM_18, kdM_19, kdM_20, kdM_21, kdM_22, kdM_23, kdM_24, rM_0, rM_1, rM_5, rM_6, rM_7, rM_10, rM_11, rM_12, rM_13, rM_14, rM_15, rM_16, rM_18, rM_19, rM_20, rM_21, rM_23, rM_24, rM_25, rM_26, rM_28, rM_29, rM_30, rM_31, h2, hc.1]
    · have hk2 := hc.2 k (by omega)
      by_cases e3 : off k = 0
      · have ev : tgv b n off k = 0 := if_neg (fun hh => hh.2.2 e3)
        rw [ev]
        simp (disch := omega) only [sQ_tag_0, sQ_tag_1, sQ_tag_2, sQ_tag_5, sQ_tag_6, sQ_tag_7, sQ_tag_10, sQ_tag_13, sQ_tag_14, sQ_tag_17, sQ_tag_18, sQ_tag_19, sQ_tag_22, sQ_tag_23, sQ_tag_26, sQ_tag_27, sQ_tag_28, sQ_tag_31, sQ_tag_32, sQ_tag_33, sQ_tag_36, ax_clr_i, ax_clr_l, ax_clr_r, ax_clr_n, ax_ct_0, ax_ct_i, ax_ct_l, ax_ct_r, va_rf_s, Option.toList_some, Option.toList_none, List.cons_append, List.nil_append, and_true, true_and, and_self, ite_true, ite_false, if_true, if_false, Nat.reduceAdd, Nat.reduceLeDiff, Nat.reduceMul, Nat.reduceLT, nI_add, pk_mul, nI_lt', nI_le', nI_eq', nI_lt0, nI_ge0, nI_eq0, nI_gt0, nI_le0, nI_ne_m1, m1_ne_nI, m1_lt_nI, m1_le_nI, nI_lt_m1, nI_le_m1, nI_clamp, ax_in_nI, nI_shl, nI_shr, lg_cmp0, nx_and, nI_eq1, bI_0, bI_1, bf_or, eq_self, or_true, true_or, lt_T, le_T, lt_F, le_F, eq_F, eq_T, kdM_0, kdM_1, kdM_2, kdM_3, kdM_4, kdM_5, kdM_6, kdM_7, kdM_8, kdM_9, kdM_10, kdM_11, kdM_12, kdM_13, kdM_14, kdM_15, kdM_16, kdM_17, kdM_18, kdM_19, kdM_20, kdM_21, kdM_22, kdM_23, kdM_24, rM_0, rM_1, rM_5, rM_6, rM_7, rM_10, rM_11, rM_12, rM_13, rM_14, rM_15, rM_16, rM_18, rM_19, rM_20, rM_21, rM_23, rM_24, rM_25, rM_26, rM_28, rM_29, rM_30, rM_31, h2, hc.1, hk2, e3]
      · have e4 := hw.lt (by omega : k < 26) e3
        have ev : tgv b n off k = bg b (off k) := if_pos ⟨by omega, by omega, e3⟩
        rw [ev]
        simp (disch := omega) only [sQ_tag_0, sQ_tag_1, sQ_tag_2, sQ_tag_5, sQ_tag_6, sQ_tag_7, sQ_tag_10, sQ_tag_13, sQ_tag_14, sQ_tag_17, sQ_tag_18, sQ_tag_19, sQ_tag_22, sQ_tag_23, sQ_tag_26, sQ_tag_27, sQ_tag_28, sQ_tag_31, sQ_tag_32, sQ_tag_33, sQ_tag_36, ax_clr_i, ax_clr_l, ax_clr_r, ax_clr_n, ax_ct_0, ax_ct_i, ax_ct_l, ax_ct_r, va_rf_s, Option.toList_some, Option.toList_none, List.cons_append, List.nil_append, and_true, true_and, and_self, ite_true, ite_false, if_true, if_false, Nat.reduceAdd, Nat.reduceLeDiff, Nat.reduceMul, Nat.reduceLT, nI_add, pk_mul, nI_lt', nI_le', nI_eq', nI_lt0, nI_ge0, nI_eq0, nI_gt0, nI_le0, nI_ne_m1, m1_ne_nI, m1_lt_nI, m1_le_nI, nI_lt_m1, nI_le_m1, nI_clamp, ax_in_nI, nI_shl, nI_shr, lg_cmp0, nx_and, nI_eq1, bI_0, bI_1, bf_or, eq_self, or_true, true_or, lt_T, le_T, lt_F, le_F, eq_F, eq_T, kdM_0, kdM_1, kdM_2, kdM_3, kdM_4, kdM_5, kdM_6, kdM_7, kdM_8, kdM_9, kdM_10, kdM_11, kdM_12, kdM_13, kdM_14, kdM_15, kdM_16, kdM_17, kdM_18, kdM_19, kdM_20, kdM_21, kdM_22, kdM_23, kdM_24, rM_0, rM_1, rM_5, rM_6, rM_7, rM_10, rM_11, rM_12, rM_13, rM_14, rM_15, rM_16, rM_18, rM_19, rM_20, rM_21, rM_23, rM_24, rM_25, rM_26, rM_28, rM_29, rM_30, rM_31, h2, hc.1, hk2, mQ_buffer_ hb, bz_in (show off k < b.length by omega)]
theorem mQ_tag_m (hb : bufM h b) : ax_wp kM (d + 1) mQ_tag 0 [some (.ref 0), some (.int (-1))] [] h Q = Q (some (.int (nI 0))) h := by
  have h2 := hb.1
  simp (disch := omega) only [sQ_tag_0, sQ_tag_1, sQ_tag_2, sQ_tag_5, sQ_tag_6, sQ_tag_7, sQ_tag_10, sQ_tag_13, sQ_tag_14, sQ_tag_17, sQ_tag_18, sQ_tag_19, sQ_tag_22, sQ_tag_23, sQ_tag_26, sQ_tag_27, sQ_tag_28, sQ_tag_31, sQ_tag_32, sQ_tag_33, sQ_tag_36, ax_clr_i, ax_clr_l, ax_clr_r, ax_clr_n, ax_ct_0, ax_ct_i, ax_ct_l, ax_ct_r, va_rf_s, Option.toList_some, Option.toList_none, List.cons_append, List.nil_append, and_true, true_and, and_self, ite_true, ite_false, if_true, if_false, Nat.reduceAdd, Nat.reduceLeDiff, Nat.reduceMul, Nat.reduceLT, nI_add, pk_mul, nI_lt', nI_le', nI_eq', nI_lt0, nI_ge0, nI_eq0, nI_gt0, nI_le0, nI_ne_m1, m1_ne_nI, m1_lt_nI, m1_le_nI, nI_lt_m1, nI_le_m1, nI_clamp, ax_in_nI, nI_shl, nI_shr, lg_cmp0, nx_and, nI_eq1, bI_0, bI_1, bf_or, eq_self, or_true, true_or, kdM_0, kdM_1, kdM_2, kdM_3, kdM_4, kdM_5, kdM_6, kdM_7, kdM_8, kdM_9, kdM_10, kdM_11, kdM_12, kdM_13, kdM_14, kdM_15, kdM_16, kdM_17, kdM_18, kdM_19, kdM_20, kdM_21, kdM_22, kdM_23, kdM_24, rM_0, rM_1, rM_5, rM_6, rM_7, rM_10, rM_11, rM_12, rM_13, rM_14, rM_15, rM_16, rM_18, rM_19, rM_20, rM_21, rM_23, rM_24, rM_25, rM_26, rM_28, rM_29, rM_30, rM_31, h2]
theorem mQ_worded_l (hb : bufM h b) (hw : cW b n off) (hc : cT h n off) (k : Nat) (hk : k < 26) (h0 : off k ≠ 0) (ht : bg b (off k) = 1) (sg : Bool) : ∀ (m i : Nat) (gd pt : Bool) (x7 : Option Value), i + m = bg b (off k + 1) → ax_wp kM (d + 1) mQ_worded 33 [some (.ref 0), some (.int (nI k)), some (.int (bI sg)), some (.int (nI (bg b (off k + 1)))), some (.int (bI gd)), some (.int (bI pt)), some (.int (nI i)), x7] [] h Q = Q (some (.int (bI (wdL sg gd pt ((List.range m).map (fun j => cod (bg b (off k + 2 + (i + j)))))))))  h
  | 0, i, gd, pt, x7, hi => by
    have h2 := hb.1
    rcases hw.2 k hk with hh | ⟨-, -, -, -, -, hx⟩
    · exact absurd hh h0
    obtain ⟨g1, g2, g3⟩ := hx ht
    rw [sQ_worded_33]
    simp (disch := omega) only [sQ_worded_35, sQ_worded_36, sQ_worded_39, sQ_worded_40, sQ_worded_41, sQ_worded_44, sQ_worded_45, sQ_worded_46, sQ_worded_47, sQ_worded_48, sQ_worded_50, sQ_worded_51, sQ_worded_54, sQ_worded_56, sQ_worded_59, sQ_worded_60, sQ_worded_63, sQ_worded_64, sQ_worded_66, sQ_worded_68, sQ_worded_71, sQ_worded_73, sQ_worded_76, sQ_worded_78, sQ_worded_81, sQ_worded_82, sQ_worded_85, sQ_worded_86, sQ_worded_89, sQ_worded_90, sQ_worded_92, sQ_worded_94, sQ_worded_96, sQ_worded_99, sQ_worded_102, sQ_worded_104, sQ_worded_107, sQ_worded_109, sQ_worded_112, sQ_worded_113, sQ_worded_116, sQ_worded_117, ax_clr_i, ax_clr_l, ax_clr_r, ax_clr_n, ax_ct_0, ax_ct_i, ax_ct_l, ax_ct_r, va_rf_s, Option.toList_some, Option.toList_none, List.cons_append, List.nil_append, and_true, true_and, and_self, ite_true, ite_false, if_true, if_false, Nat.reduceAdd, Nat.reduceLeDiff, Nat.reduceMul, Nat.reduceLT, nI_add, pk_mul, nI_lt', nI_le', nI_eq', nI_lt0, nI_ge0, nI_eq0, nI_gt0, nI_le0, nI_ne_m1, m1_ne_nI, m1_lt_nI, m1_le_nI, nI_lt_m1, nI_le_m1, nI_clamp, ax_in_nI, nI_shl, nI_shr, lg_cmp0, nx_and, nI_eq1, bI_0, bI_1, bf_or, eq_self, or_true, true_or, kdM_0, kdM_1, kdM_2, kdM_3, kdM_4, kdM_5, kdM_6, kdM_7, kdM_8, kdM_9, kdM_10, kdM_11, kdM_12, kdM_13, kdM_14, kdM_15, kdM_16, kdM_17, kdM_18, kdM_19, kdM_20, kdM_21, kdM_22, kdM_23, kdM_24, rM_0, rM_1, rM_5, rM_6, rM_7, rM_10, rM_11, rM_12, rM_13, rM_14, rM_15, rM_16, rM_18, rM_19, rM_20, rM_21, rM_23, rM_24, rM_25, rM_26, rM_28, rM_29, rM_30, rM_31]
    rw [if_pos (by omega)]
    cases gd <;> cases pt <;> simp [wdL, bI]
  | m + 1, i, gd, pt, x7, hi => by
    have h2 := hb.1
    have hz := hb.2.2.1
    have hl := hb.lt (off k + 2 + i)
    rcases hw.2 k hk with hh | ⟨-, -, -, g0, -, hx⟩
    · exact absurd hh h0
    obtain ⟨g1, g2, g3⟩ := hx ht
    have g4 : off k + 2 + i < b.length := by
      unfold clen at g0; rw [if_pos ht] at g0; omega
    rw [sQ_worded_33]
    have hk2 := hc.2 k hk
    have hcod := cod_53 (g3 i (by omega))
    have hoff : off k < 120 := by omega
    simp (disch := omega) only [sQ_worded_35, sQ_worded_36, sQ_worded_39, sQ_worded_40, sQ_worded_41, sQ_worded_44, sQ_worded_45, sQ_worded_46, sQ_worded_47, sQ_worded_48, sQ_worded_50, sQ_worded_51, sQ_worded_54, sQ_worded_56, sQ_worded_59, sQ_worded_60, sQ_worded_63, sQ_worded_64, ax_clr_i, ax_clr_l, ax_clr_r, ax_clr_n, ax_ct_0, ax_ct_i, ax_ct_l, ax_ct_r, va_rf_s, Option.toList_some, Option.toList_none, List.cons_append, List.nil_append, and_true, true_and, and_self, ite_true, ite_false, if_true, if_false, Nat.reduceAdd, Nat.reduceLeDiff, Nat.reduceMul, Nat.reduceLT, nI_add, pk_mul, nI_lt', nI_le', nI_eq', nI_lt0, nI_ge0, nI_eq0, nI_gt0, nI_le0, nI_ne_m1, m1_ne_nI, m1_lt_nI, m1_le_nI, nI_lt_m1, nI_le_m1, nI_clamp, ax_in_nI, nI_shl, nI_shr, lg_cmp0, nx_and, nI_eq1, bI_0, bI_1, bf_or, eq_self, or_true, true_or, lt_T, le_T, lt_F, le_F, eq_F, eq_T, kdM_0, kdM_1, kdM_2, kdM_3, kdM_4, kdM_5, kdM_6, kdM_7, kdM_8, kdM_9, kdM_10, kdM_11, kdM_12, kdM_13, kdM_14, kdM_15, kdM_16, kdM_17, kdM_18, kdM_19, kdM_20, kdM_21, kdM_22, kdM_23, kdM_24, rM_0, rM_1, rM_5, rM_6, rM_7, rM_10, rM_11, rM_12, rM_13, rM_14, rM_15, rM_16, rM_18, rM_19, rM_20, rM_21, rM_23, rM_24, rM_25, rM_26, rM_28, rM_29, rM_30, rM_31, h2, hk2, mQ_buffer_ hb, bz_in g4]
    have e9 : (List.range (m + 1)).map (fun j => cod (bg b (off k + 2 + (i + j)))) = cod (bg b (off k + 2 + i)) :: (List.range m).map (fun j => cod (bg b (off k + 2 + (i + 1 + j)))) := by
      rw [List.range_succ_eq_map, List.map_cons, List.map_map]
      refine congr (congrArg _ (by simp)) ?_
      apply List.map_congr_left
      intro j hj
      simp only [Function.comp]
      rw [show i + (j + 1) = i + 1 + j by omega]
    rw [e9, wdL]
    simp only [hcod]
    have ih := fun gd pt pt2 => mQ_worded_l hb hw hc k hk h0 ht sg m (i + 1) gd pt (some (.int (bI pt2))) (by omega)
    by_cases e : bg b (off k + 2 + i) = 46
    · simp only [e, if_true, decide_true, Bool.true_and]
      have ih := ih (gd && !(pt || sg)) true true
      rw [← ih]
      cases gd <;> cases pt <;> cases sg <;> simp (disch := omega) only [sQ_worded_66, sQ_worded_68, sQ_worded_71, sQ_worded_73, sQ_worded_76, sQ_worded_78, sQ_worded_81, sQ_worded_82, sQ_worded_85, sQ_worded_86, sQ_worded_89, sQ_worded_90, sQ_worded_92, sQ_worded_94, sQ_worded_96, sQ_worded_99, ax_clr_i, ax_clr_l, ax_clr_r, ax_clr_n, ax_ct_0, ax_ct_i, ax_ct_l, ax_ct_r, va_rf_s, Option.toList_some, Option.toList_none, List.cons_append, List.nil_append, and_true, true_and, and_self, ite_true, ite_false, if_true, if_false, Nat.reduceAdd, Nat.reduceLeDiff, Nat.reduceMul, Nat.reduceLT, nI_add, pk_mul, nI_lt', nI_le', nI_eq', nI_lt0, nI_ge0, nI_eq0, nI_gt0, nI_le0, nI_ne_m1, m1_ne_nI, m1_lt_nI, m1_le_nI, nI_lt_m1, nI_le_m1, nI_clamp, ax_in_nI, nI_shl, nI_shr, lg_cmp0, nx_and, nI_eq1, bI_0, bI_1, bf_or, eq_self, or_true, true_or, Bool.and_true, Bool.and_false, Bool.or_true, Bool.or_false, Bool.not_true, Bool.not_false, Bool.false_and, Bool.true_and, Bool.false_or, Bool.true_or, bI_t, bI_f] <;> simp
    · simp only [e, if_false, decide_false, Bool.false_and, Bool.not_false, Bool.and_true]
      have ih := ih gd false false
      rw [← ih]
      cases gd <;> simp (disch := omega) only [sQ_worded_66, sQ_worded_68, sQ_worded_71, sQ_worded_73, sQ_worded_76, sQ_worded_78, sQ_worded_81, sQ_worded_82, sQ_worded_85, sQ_worded_86, sQ_worded_89, sQ_worded_90, sQ_worded_92, sQ_worded_94, sQ_worded_96, sQ_worded_99, ax_clr_i, ax_clr_l, ax_clr_r, ax_clr_n, ax_ct_0, ax_ct_i, ax_ct_l, ax_ct_r, va_rf_s, Option.toList_some, Option.toList_none, List.cons_append, List.nil_append, and_true, true_and, and_self, ite_true, ite_false, if_true, if_false, Nat.reduceAdd, Nat.reduceLeDiff, Nat.reduceMul, Nat.reduceLT, nI_add, pk_mul, nI_lt', nI_le', nI_eq', nI_lt0, nI_ge0, nI_eq0, nI_gt0, nI_le0, nI_ne_m1, m1_ne_nI, m1_lt_nI, m1_le_nI, nI_lt_m1, nI_le_m1, nI_clamp, ax_in_nI, nI_shl, nI_shr, lg_cmp0, nx_and, nI_eq1, bI_0, bI_1, bf_or, eq_self, or_true, true_or, bI_t, bI_f] <;> simp
theorem mQ_worded_ (hb : bufM h b) (hw : cW b n off) (hc : cT h n off) (k : Nat) (hk : k < 2 ^ 20) (sg : Bool) : ax_wp kM (d + 2) mQ_worded 0 [some (.ref 0), some (.int (nI k)), some (.int (bI sg)), none, none, none, none, none] [] h Q = Q (some (.int (bI (decide (tgv b n off k = 1) && (if sg = true then isWd (txt b (off k)) else isNm (txt b (off k))))))) h := by
  have h2 := hb.1
  have hz := hb.2.2.1
  have hn := hw.1
  have ht : tgv b n off k < 256 := by unfold tgv; split; exact hb.lt _; omega
  by_cases e : tgv b n off k = 1
  · have e1 : 1 ≤ k ∧ k ≤ n ∧ off k ≠ 0 := by
      unfold tgv at e
      by_cases e2 : 1 ≤ k ∧ k ≤ n ∧ off k ≠ 0
      · exact e2
      · rw [if_neg e2] at e; omega
    have e2 : bg b (off k) = 1 := by unfold tgv at e; rwa [if_pos e1] at e
    have e4 := hw.lt (by omega : k < 26) e1.2.2
    have hk2 := hc.2 k (by omega)
    have hl := hb.lt (off k + 1)
    simp (disch := omega) only [sQ_worded_0, sQ_worded_1, sQ_worded_2, sQ_worded_5, sQ_worded_6, sQ_worded_9, sQ_worded_10, sQ_worded_11, sQ_worded_12, sQ_worded_13, sQ_worded_16, sQ_worded_17, sQ_worded_18, sQ_worded_19, sQ_worded_20, sQ_worded_23, sQ_worded_24, sQ_worded_25, sQ_worded_27, sQ_worded_28, sQ_worded_30, sQ_worded_31, ax_clr_i, ax_clr_l, ax_clr_r, ax_clr_n, ax_ct_0, ax_ct_i, ax_ct_l, ax_ct_r, va_rf_s, Option.toList_some, Option.toList_none, List.cons_append, List.nil_append, and_true, true_and, and_self, ite_true, ite_false, if_true, if_false, Nat.reduceAdd, Nat.reduceLeDiff, Nat.reduceMul, Nat.reduceLT, nI_add, pk_mul, nI_lt', nI_le', nI_eq', nI_lt0, nI_ge0, nI_eq0, nI_gt0, nI_le0, nI_ne_m1, m1_ne_nI, m1_lt_nI, m1_le_nI, nI_lt_m1, nI_le_m1, nI_clamp, ax_in_nI, nI_shl, nI_shr, lg_cmp0, nx_and, nI_eq1, bI_0, bI_1, bf_or, eq_self, or_true, true_or, lt_T, le_T, lt_F, le_F, eq_F, eq_T, kdM_0, kdM_1, kdM_2, kdM_3, kdM_4, kdM_5, kdM_6, kdM_7, kdM_8, kdM_9, kdM_10, kdM_11, kdM_12, kdM_13, kdM_14, kdM_15, kdM_16, kdM_17, kdM_18, kdM_19, kdM_20, kdM_21, kdM_22, kdM_23, kdM_24, rM_0, rM_1, rM_5, rM_6, rM_7, rM_10, rM_11, rM_12, rM_13, rM_14, rM_15, rM_16, rM_18, rM_19, rM_20, rM_21, rM_23, rM_24, rM_25, rM_26, rM_28, rM_29, rM_30, rM_31, h2, mQ_tag_ hb hw hc, e, hk2, mQ_buffer_ hb, bz_in e4]
    have h9 := mQ_worded_l (d := d + 1) (Q := Q) hb hw hc k (by omega) e1.2.2 e2 sg (bg b (off k + 1)) 0 true true none (by omega)
    rw [wd_fit] at h9
    simp only [Nat.zero_add] at h9
    simp only [decide_true, Bool.true_and]
    exact h9
  · simp (disch := omega) only [sQ_worded_0, sQ_worded_1, sQ_worded_2, sQ_worded_5, sQ_worded_6, sQ_worded_9, sQ_worded_10, ax_clr_i, ax_clr_l, ax_clr_r, ax_clr_n, ax_ct_0, ax_ct_i, ax_ct_l, ax_ct_r, va_rf_s, Option.toList_some, Option.toList_none, List.cons_append, List.nil_append, and_true, true_and, and_self, ite_true, ite_false, if_true, if_false, Nat.reduceAdd, Nat.reduceLeDiff, Nat.reduceMul, Nat.reduceLT, nI_add, pk_mul, nI_lt', nI_le', nI_eq', nI_lt0, nI_ge0, nI_eq0, nI_gt0, nI_le0, nI_ne_m1, m1_ne_nI, m1_lt_nI, m1_le_nI, nI_lt_m1, nI_le_m1, nI_clamp, ax_in_nI, nI_shl, nI_shr, lg_cmp0, nx_and, nI_eq1, bI_0, bI_1, bf_or, eq_self, or_true, true_or, kdM_0, kdM_1, kdM_2, kdM_3, kdM_4, kdM_5, kdM_6, kdM_7, kdM_8, kdM_9, kdM_10, kdM_11, kdM_12, kdM_13, kdM_14, kdM_15, kdM_16, kdM_17, kdM_18, kdM_19, kdM_20, kdM_21, kdM_22, kdM_23, kdM_24, rM_0, rM_1, rM_5, rM_6, rM_7, rM_10, rM_11, rM_12, rM_13, rM_14, rM_15, rM_16, rM_18, rM_19, rM_20, rM_21, rM_23, rM_24, rM_25, rM_26, rM_28, rM_29, rM_30, rM_31, h2, mQ_tag_ hb hw hc]
    rw [if_neg e]
    simp [e, bI]
theorem mQ_fitting_ (hb : bufM h b) (hw : cW b n off) (hc : cT h n off) (k w : Nat) (hk : k < 2 ^ 20) (hww : w < 100) : ax_wp kM (d + 3) mQ_fitting 0 [some (.ref 0), some (.int (nI k)), some (.int (nI w))] [] h Q = Q (some (.int (bI (ftN b n off k w)))) h := by
  have h2 := hb.1
  have ht : tgv b n off k < 256 := by unfold tgv; split; exact hb.lt _; omega
  have w1 := mQ_worded_ (d := d) (Q := fun v h1 => ax_wp kM (d + 2 + 1) mQ_fitting 28 [some (.ref 0), some (.int (nI k)), some (.int (nI w))] (v.toList ++ []) h1 Q) hb hw hc k hk true
  have w0 := mQ_worded_ (d := d) (Q := fun v h1 => ax_wp kM (d + 2 + 1) mQ_fitting 28 [some (.ref 0), some (.int (nI k)), some (.int (nI w))] (v.toList ++ []) h1 Q) hb hw hc k hk false
  rw [bI_t] at w1
  rw [bI_f] at w0
  simp (disch := omega) only [sQ_fitting_0, sQ_fitting_1, sQ_fitting_3, sQ_fitting_6, sQ_fitting_7, sQ_fitting_9, sQ_fitting_12, sQ_fitting_13, sQ_fitting_14, sQ_fitting_15, sQ_fitting_17, sQ_fitting_20, sQ_fitting_21, sQ_fitting_24, sQ_fitting_25, sQ_fitting_28, sQ_fitting_29, sQ_fitting_30, sQ_fitting_32, sQ_fitting_35, sQ_fitting_36, sQ_fitting_37, sQ_fitting_40, sQ_fitting_42, sQ_fitting_45, sQ_fitting_46, sQ_fitting_47, sQ_fitting_50, sQ_fitting_51, sQ_fitting_54, sQ_fitting_55, sQ_fitting_58, sQ_fitting_59, sQ_fitting_62, sQ_fitting_63, sQ_fitting_64, sQ_fitting_67, sQ_fitting_68, sQ_fitting_71, sQ_fitting_72, sQ_fitting_75, sQ_fitting_76, ax_clr_i, ax_clr_l, ax_clr_r, ax_clr_n, ax_ct_0, ax_ct_i, ax_ct_l, ax_ct_r, va_rf_s, Option.toList_some, Option.toList_none, List.cons_append, List.nil_append, and_true, true_and, and_self, ite_true, ite_false, if_true, if_false, Nat.reduceAdd, Nat.reduceLeDiff, Nat.reduceMul, Nat.reduceLT, nI_add, pk_mul, nI_lt', nI_le', nI_eq', nI_lt0, nI_ge0, nI_eq0, nI_gt0, nI_le0, nI_ne_m1, m1_ne_nI, m1_lt_nI, m1_le_nI, nI_lt_m1, nI_le_m1, nI_clamp, ax_in_nI, nI_shl, nI_shr, lg_cmp0, nx_and, nI_eq1, bI_0, bI_1, bf_or, eq_self, or_true, true_or, kdM_0, kdM_1, kdM_2, kdM_3, kdM_4, kdM_5, kdM_6, kdM_7, kdM_8, kdM_9, kdM_10, kdM_11, kdM_12, kdM_13, kdM_14, kdM_15, kdM_16, kdM_17, kdM_18, kdM_19, kdM_20, kdM_21, kdM_22, kdM_23, kdM_24, rM_0, rM_1, rM_5, rM_6, rM_7, rM_10, rM_11, rM_12, rM_13, rM_14, rM_15, rM_16, rM_18, rM_19, rM_20, rM_21, rM_23, rM_24, rM_25, rM_26, rM_28, rM_29, rM_30, rM_31, h2, mQ_tag_ hb hw hc, w1, w0]
  unfold ftN
  by_cases e20 : w = 20
  · simp [e20]
  · by_cases e21 : w = 21
    · simp [e21]
    · by_cases e22 : w = 22
      · by_cases a7 : tgv b n off k = 7 <;> by_cases a1 : tgv b n off k = 1 <;> simp [e22, a7, a1, bI]
      · by_cases aw : tgv b n off k = w <;> simp [e20, e21, e22, aw, bI]
theorem mQ_fitting_m (hb : bufM h b) (w : Nat) (hww : w < 100) (hw0 : 0 < w) : ax_wp kM (d + 3) mQ_fitting 0 [some (.ref 0), some (.int (-1)), some (.int (nI w))] [] h Q = Q (some (.int (nI 0))) h := by
  have h2 := hb.1
  simp (disch := omega) only [sQ_fitting_0, sQ_fitting_1, sQ_fitting_3, sQ_fitting_6, sQ_fitting_7, sQ_fitting_9, sQ_fitting_12, sQ_fitting_13, sQ_fitting_14, sQ_fitting_15, sQ_fitting_17, sQ_fitting_20, sQ_fitting_21, sQ_fitting_24, sQ_fitting_25, sQ_fitting_28, sQ_fitting_29, sQ_fitting_30, sQ_fitting_32, sQ_fitting_35, sQ_fitting_36, sQ_fitting_37, sQ_fitting_40, sQ_fitting_42, sQ_fitting_45, sQ_fitting_46, sQ_fitting_47, sQ_fitting_50, sQ_fitting_51, sQ_fitting_54, sQ_fitting_55, sQ_fitting_58, sQ_fitting_59, sQ_fitting_62, sQ_fitting_63, sQ_fitting_64, sQ_fitting_67, sQ_fitting_68, sQ_fitting_71, sQ_fitting_72, sQ_fitting_75, sQ_fitting_76, ax_clr_i, ax_clr_l, ax_clr_r, ax_clr_n, ax_ct_0, ax_ct_i, ax_ct_l, ax_ct_r, va_rf_s, Option.toList_some, Option.toList_none, List.cons_append, List.nil_append, and_true, true_and, and_self, ite_true, ite_false, if_true, if_false, Nat.reduceAdd, Nat.reduceLeDiff, Nat.reduceMul, Nat.reduceLT, nI_add, pk_mul, nI_lt', nI_le', nI_eq', nI_lt0, nI_ge0, nI_eq0, nI_gt0, nI_le0, nI_ne_m1, m1_ne_nI, m1_lt_nI, m1_le_nI, nI_lt_m1, nI_le_m1, nI_clamp, ax_in_nI, nI_shl, nI_shr, lg_cmp0, nx_and, nI_eq1, bI_0, bI_1, bf_or, eq_self, or_true, true_or, lt_T, le_T, lt_F, le_F, eq_F, eq_T, kdM_0, kdM_1, kdM_2, kdM_3, kdM_4, kdM_5, kdM_6, kdM_7, kdM_8, kdM_9, kdM_10, kdM_11, kdM_12, kdM_13, kdM_14, kdM_15, kdM_16, kdM_17, kdM_18, kdM_19, kdM_20, kdM_21, kdM_22, kdM_23, kdM_24, rM_0, rM_1, rM_5, rM_6, rM_7, rM_10, rM_11, rM_12, rM_13, rM_14, rM_15, rM_16, rM_18, rM_19, rM_20, rM_21, rM_23, rM_24, rM_25, rM_26, rM_28, rM_29, rM_30, rM_31, h2, mQ_tag_m hb, sQ_worded_0, sQ_worded_1, sQ_worded_2, sQ_worded_5, sQ_worded_6, sQ_worded_9, sQ_worded_10]
  by_cases e20 : w = 20
  · simp [e20]
  · by_cases e21 : w = 21
    · simp [e21]
    · by_cases e22 : w = 22
      · simp [e22]
      · simp [e20, e21, e22]
/-- a byte at p, below a limit, of which f holds -/
def tk (b : List Nat) (lim p : Nat) (f : Nat → Bool) : Bool × Nat := if p < lim ∧ p < b.length ∧ f (bg b p) = true then (true, p + 1) else (false, p)
theorem mQ_number_ (hb : bufM h b) (hw : cW b n off) (hc : cT h n off) (w lim p : Nat) (hww : w < 100) (hw0 : 0 < w) (hl : lim < 1000) (hp : p < 1000) : ax_wp kM (d + 4) mQ_number 0 [some (.ref 0), some (.int (nI w)), some (.int (nI lim))] [] (ax_upI h 0 3 (nI p)) Q = Q (some (.int (bI (tk b lim p (fun k => ftN b n off k w)).1))) (ax_upI h 0 3 (nI (tk b lim p (fun k => ftN b n off k w)).2)) := by
  have h2 := hb.1
  have hb2 := hb.fr (frM.at (x := nI p))
  have hc2 := hc.up (x := nI p)
  have hlt := hb.lt p
  unfold tk
  simp (disch := omega) only [sQ_number_0, sQ_number_1, sQ_number_4, sQ_number_5, sQ_number_8, sQ_number_9, sQ_number_10, sQ_number_11, sQ_number_14, sQ_number_17, sQ_number_18, ax_clr_i, ax_clr_l, ax_clr_r, ax_clr_n, ax_ct_0, ax_ct_i, ax_ct_l, ax_ct_r, va_rf_s, Option.toList_some, Option.toList_none, List.cons_append, List.nil_append, and_true, true_and, and_self, ite_true, ite_false, if_true, if_false, Nat.reduceAdd, Nat.reduceLeDiff, Nat.reduceMul, Nat.reduceLT, nI_add, pk_mul, nI_lt', nI_le', nI_eq', nI_lt0, nI_ge0, nI_eq0, nI_gt0, nI_le0, nI_ne_m1, m1_ne_nI, m1_lt_nI, m1_le_nI, nI_lt_m1, nI_le_m1, nI_clamp, ax_in_nI, nI_shl, nI_shr, lg_cmp0, nx_and, nI_eq1, bI_0, bI_1, bf_or, eq_self, or_true, true_or, kdM_0, kdM_1, kdM_2, kdM_3, kdM_4, kdM_5, kdM_6, kdM_7, kdM_8, kdM_9, kdM_10, kdM_11, kdM_12, kdM_13, kdM_14, kdM_15, kdM_16, kdM_17, kdM_18, kdM_19, kdM_20, kdM_21, kdM_22, kdM_23, kdM_24, rM_0, rM_1, rM_5, rM_6, rM_7, rM_10, rM_11, rM_12, rM_13, rM_14, rM_15, rM_16, rM_18, rM_19, rM_20, rM_21, rM_23, rM_24, rM_25, rM_26, rM_28, rM_29, rM_30, rM_31, up_at, up_II, up_III, up_I, up_I2, up_L, up_L1, up_L3, up_R, up_R1, up_R2, Nat.reduceEqDiff, and_false, false_and, reduceIte, eq_self, mQ_buffer_ hb2]
  by_cases e1 : p < lim
  · rw [if_neg (by omega)]
    by_cases e2 : p < b.length
    · rw [bz_in e2, mQ_fitting_ hb2 hw hc2 _ _ (by omega) hww]
      simp (disch := omega) only [sQ_number_21, sQ_number_24, sQ_number_25, sQ_number_26, sQ_number_27, sQ_number_27r, sQ_number_28, sQ_number_31, sQ_number_32, sQ_number_33, sQ_number_36, sQ_number_37, ax_clr_i, ax_clr_l, ax_clr_r, ax_clr_n, ax_ct_0, ax_ct_i, ax_ct_l, ax_ct_r, va_rf_s, Option.toList_some, Option.toList_none, List.cons_append, List.nil_append, and_true, true_and, and_self, ite_true, ite_false, if_true, if_false, Nat.reduceAdd, Nat.reduceLeDiff, Nat.reduceMul, Nat.reduceLT, nI_add, pk_mul, nI_lt', nI_le', nI_eq', nI_lt0, nI_ge0, nI_eq0, nI_gt0, nI_le0, nI_ne_m1, m1_ne_nI, m1_lt_nI, m1_le_nI, nI_lt_m1, nI_le_m1, nI_clamp, ax_in_nI, nI_shl, nI_shr, lg_cmp0, nx_and, nI_eq1, bI_0, bI_1, bf_or, eq_self, or_true, true_or, kdM_0, kdM_1, kdM_2, kdM_3, kdM_4, kdM_5, kdM_6, kdM_7, kdM_8, kdM_9, kdM_10, kdM_11, kdM_12, kdM_13, kdM_14, kdM_15, kdM_16, kdM_17, kdM_18, kdM_19, kdM_20, kdM_21, kdM_22, kdM_23, kdM_24, rM_0, rM_1, rM_5, rM_6, rM_7, rM_10, rM_11, rM_12, rM_13, rM_14, rM_15, rM_16, rM_18, rM_19, rM_20, rM_21, rM_23, rM_24, rM_25, rM_26, rM_28, rM_29, rM_30, rM_31, up_at, up_II, up_III, up_I, up_I2, up_L, up_L1, up_L3, up_R, up_R1, up_R2, Nat.reduceEqDiff, and_false, false_and, reduceIte, eq_self]
      by_cases hf : ftN b n off (bg b p) w = true <;> simp [e1, e2, hf, bI]
    · rw [bz_out e2, mQ_fitting_m hb2 w hww hw0, if_neg (by omega)]
      simp (disch := omega) only [sQ_number_21, sQ_number_24, sQ_number_25, sQ_number_26, sQ_number_27, sQ_number_27r, sQ_number_28, sQ_number_31, sQ_number_32, sQ_number_33, sQ_number_36, sQ_number_37, ax_clr_i, ax_clr_l, ax_clr_r, ax_clr_n, ax_ct_0, ax_ct_i, ax_ct_l, ax_ct_r, va_rf_s, Option.toList_some, Option.toList_none, List.cons_append, List.nil_append, and_true, true_and, and_self, ite_true, ite_false, if_true, if_false, Nat.reduceAdd, Nat.reduceLeDiff, Nat.reduceMul, Nat.reduceLT, nI_add, pk_mul, nI_lt', nI_le', nI_eq', nI_lt0, nI_ge0, nI_eq0, nI_gt0, nI_le0, nI_ne_m1, m1_ne_nI, m1_lt_nI, m1_le_nI, nI_lt_m1, nI_le_m1, nI_clamp, ax_in_nI, nI_shl, nI_shr, lg_cmp0, nx_and, nI_eq1, bI_0, bI_1, bf_or, eq_self, or_true, true_or, kdM_0, kdM_1, kdM_2, kdM_3, kdM_4, kdM_5, kdM_6, kdM_7, kdM_8, kdM_9, kdM_10, kdM_11, kdM_12, kdM_13, kdM_14, kdM_15, kdM_16, kdM_17, kdM_18, kdM_19, kdM_20, kdM_21, kdM_22, kdM_23, kdM_24, rM_0, rM_1, rM_5, rM_6, rM_7, rM_10, rM_11, rM_12, rM_13, rM_14, rM_15, rM_16, rM_18, rM_19, rM_20, rM_21, rM_23, rM_24, rM_25, rM_26, rM_28, rM_29, rM_30, rM_31, up_at, up_II, up_III, up_I, up_I2, up_L, up_L1, up_L3, up_R, up_R1, up_R2, Nat.reduceEqDiff, and_false, false_and, reduceIte, eq_self]
      simp [bI]
  · rw [if_pos (by omega), if_neg (by omega)]
    simp (disch := omega) only [sQ_number_21, sQ_number_24, sQ_number_25, sQ_number_26, sQ_number_27, sQ_number_27r, sQ_number_28, sQ_number_31, sQ_number_32, sQ_number_33, sQ_number_36, sQ_number_37, ax_clr_i, ax_clr_l, ax_clr_r, ax_clr_n, ax_ct_0, ax_ct_i, ax_ct_l, ax_ct_r, va_rf_s, Option.toList_some, Option.toList_none, List.cons_append, List.nil_append, and_true, true_and, and_self, ite_true, ite_false, if_true, if_false, Nat.reduceAdd, Nat.reduceLeDiff, Nat.reduceMul, Nat.reduceLT, nI_add, pk_mul, nI_lt', nI_le', nI_eq', nI_lt0, nI_ge0, nI_eq0, nI_gt0, nI_le0, nI_ne_m1, m1_ne_nI, m1_lt_nI, m1_le_nI, nI_lt_m1, nI_le_m1, nI_clamp, ax_in_nI, nI_shl, nI_shr, lg_cmp0, nx_and, nI_eq1, bI_0, bI_1, bf_or, eq_self, or_true, true_or, kdM_0, kdM_1, kdM_2, kdM_3, kdM_4, kdM_5, kdM_6, kdM_7, kdM_8, kdM_9, kdM_10, kdM_11, kdM_12, kdM_13, kdM_14, kdM_15, kdM_16, kdM_17, kdM_18, kdM_19, kdM_20, kdM_21, kdM_22, kdM_23, kdM_24, rM_0, rM_1, rM_5, rM_6, rM_7, rM_10, rM_11, rM_12, rM_13, rM_14, rM_15, rM_16, rM_18, rM_19, rM_20, rM_21, rM_23, rM_24, rM_25, rM_26, rM_28, rM_29, rM_30, rM_31, up_at, up_II, up_III, up_I, up_I2, up_L, up_L1, up_L3, up_R, up_R1, up_R2, Nat.reduceEqDiff, and_false, false_and, reduceIte, eq_self]
    rfl
theorem mQ_upTo_ (hb : bufM h b) (mo lim p : Nat) (hm : mo < 1000) (hl : lim < 1000) (hp : p < 1000) : ax_wp kM (d + 1) mQ_upTo 0 [some (.ref 0), some (.int (nI mo)), some (.int (nI lim))] [] (ax_upI h 0 3 (nI p)) Q = Q (some (.int (bI (tk b lim p (fun k => decide (k ≤ mo))).1))) (ax_upI h 0 3 (nI (tk b lim p (fun k => decide (k ≤ mo))).2)) := by
  have h2 := hb.1
  have hb2 := hb.fr (frM.at (x := nI p))
  have hlt := hb.lt p
  unfold tk
  simp (disch := omega) only [sQ_upTo_0, sQ_upTo_1, sQ_upTo_4, sQ_upTo_5, sQ_upTo_8, sQ_upTo_9, sQ_upTo_10, sQ_upTo_13, sQ_upTo_16, sQ_upTo_19, sQ_upTo_20, sQ_upTo_21, sQ_upTo_24, sQ_upTo_27, sQ_upTo_28, sQ_upTo_31, sQ_upTo_32, sQ_upTo_33, sQ_upTo_34, sQ_upTo_34r, sQ_upTo_35, sQ_upTo_38, sQ_upTo_39, sQ_upTo_40, sQ_upTo_43, sQ_upTo_44, ax_clr_i, ax_clr_l, ax_clr_r, ax_clr_n, ax_ct_0, ax_ct_i, ax_ct_l, ax_ct_r, va_rf_s, Option.toList_some, Option.toList_none, List.cons_append, List.nil_append, and_true, true_and, and_self, ite_true, ite_false, if_true, if_false, Nat.reduceAdd, Nat.reduceLeDiff, Nat.reduceMul, Nat.reduceLT, nI_add, pk_mul, nI_lt', nI_le', nI_eq', nI_lt0, nI_ge0, nI_eq0, nI_gt0, nI_le0, nI_ne_m1, m1_ne_nI, m1_lt_nI, m1_le_nI, nI_lt_m1, nI_le_m1, nI_clamp, ax_in_nI, nI_shl, nI_shr, lg_cmp0, nx_and, nI_eq1, bI_0, bI_1, bf_or, eq_self, or_true, true_or, kdM_0, kdM_1, kdM_2, kdM_3, kdM_4, kdM_5, kdM_6, kdM_7, kdM_8, kdM_9, kdM_10, kdM_11, kdM_12, kdM_13, kdM_14, kdM_15, kdM_16, kdM_17, kdM_18, kdM_19, kdM_20, kdM_21, kdM_22, kdM_23, kdM_24, rM_0, rM_1, rM_5, rM_6, rM_7, rM_10, rM_11, rM_12, rM_13, rM_14, rM_15, rM_16, rM_18, rM_19, rM_20, rM_21, rM_23, rM_24, rM_25, rM_26, rM_28, rM_29, rM_30, rM_31, up_at, up_II, up_III, up_I, up_I2, up_L, up_L1, up_L3, up_R, up_R1, up_R2, Nat.reduceEqDiff, and_false, false_and, reduceIte, eq_self, mQ_buffer_ hb2]
  by_cases e1 : p < lim
  · rw [if_neg (by omega)]
    by_cases e2 : p < b.length
    · rw [bz_in e2]
      simp (disch := omega) only [nI_add, pk_mul, nI_lt', nI_le', nI_eq', nI_lt0, nI_ge0, nI_eq0, nI_gt0, nI_le0, nI_ne_m1, m1_ne_nI, m1_lt_nI, m1_le_nI, nI_lt_m1, nI_le_m1, nI_clamp, ax_in_nI, nI_shl, nI_shr, lg_cmp0, nx_and, nI_eq1, bI_0, bI_1, bf_or, eq_self, or_true, true_or, ax_clr_i, ax_clr_l, ax_clr_r, ax_clr_n, ax_ct_0, ax_ct_i, ax_ct_l, ax_ct_r, va_rf_s, Option.toList_some, Option.toList_none, List.cons_append, List.nil_append, and_true, true_and, and_self, ite_true, ite_false, if_true, if_false, Nat.reduceAdd, Nat.reduceLeDiff, Nat.reduceMul, Nat.reduceLT]
      by_cases e3 : bg b p ≤ mo <;> simp [e1, e2, e3, bI]
    · rw [bz_out e2]
      simp (disch := omega) only [nI_add, pk_mul, nI_lt', nI_le', nI_eq', nI_lt0, nI_ge0, nI_eq0, nI_gt0, nI_le0, nI_ne_m1, m1_ne_nI, m1_lt_nI, m1_le_nI, nI_lt_m1, nI_le_m1, nI_clamp, ax_in_nI, nI_shl, nI_shr, lg_cmp0, nx_and, nI_eq1, bI_0, bI_1, bf_or, eq_self, or_true, true_or, ax_clr_i, ax_clr_l, ax_clr_r, ax_clr_n, ax_ct_0, ax_ct_i, ax_ct_l, ax_ct_r, va_rf_s, Option.toList_some, Option.toList_none, List.cons_append, List.nil_append, and_true, true_and, and_self, ite_true, ite_false, if_true, if_false, Nat.reduceAdd, Nat.reduceLeDiff, Nat.reduceMul, Nat.reduceLT]
      simp [e2, bI]
  · rw [if_pos (by omega)]
    simp [e1, bI]
end MF
