/-! the model: what follows the constants -/
def sNm (b : List Nat) (lim : Nat) (f : Nat → Bool) : Nat → Nat → Bool × Nat
  | 0, p => (true, p)
  | m + 1, p => if (tk b lim p f).1 = true then sNm b lim f m (tk b lim p f).2 else (false, (tk b lim p f).2)
/-- a count of at most mo, and so many bytes of which f holds -/
def sSv (b : List Nat) (mo : Nat) (f : Nat → Bool) (p : Nat) : Bool × Nat :=
  if (tk b 120 p (fun k => decide (k ≤ mo))).1 = true then sNm b 120 f (bg b p) (p + 1) else (false, p)
theorem tk_t {b : List Nat} {lim p : Nat} {f : Nat → Bool} (h : (tk b lim p f).1 = true) : p < lim ∧ p < b.length ∧ f (bg b p) = true ∧ (tk b lim p f).2 = p + 1 := by
  unfold tk at h ⊢
  by_cases e : p < lim ∧ p < b.length ∧ f (bg b p) = true
  · rw [if_pos e]; exact ⟨e.1, e.2.1, e.2.2, rfl⟩
  · rw [if_neg e] at h; cases h
theorem tk_f {b : List Nat} {lim p : Nat} {f : Nat → Bool} (h : ¬ (tk b lim p f).1 = true) : (tk b lim p f).2 = p := by
  unfold tk at h ⊢
  by_cases e : p < lim ∧ p < b.length ∧ f (bg b p) = true
  · rw [if_pos e] at h; exact absurd rfl h
  · rw [if_neg e]
theorem bI_c {b : Bool} (h : ¬ b = true) : b = false := by simpa using h
section MS
variable {d : Nat} {h : ax_H} {b : List Nat} {n : Nat} {off : Nat → Nat} {Q : Option Value → ax_H → Prop}
theorem mQ_several_l (hb : bufM h b) (hw : cW b n off) (hc : cT h n off) (w : Nat) (hww : w < 100) (hw0 : 0 < w) (x1 : Option Value) : ∀ (m i N p : Nat), i + m = N → N < 300 → p + m < 900 → ax_wp kM (d + 5) mQ_several 24 [some (.ref 0), x1, some (.int (nI w)), some (.int (nI N)), some (.int (nI i))] [] (ax_upI h 0 3 (nI p)) Q = Q (some (.int (bI (sNm b 120 (fun k => ftN b n off k w) m p).1))) (ax_upI h 0 3 (nI (sNm b 120 (fun k => ftN b n off k w) m p).2))
  | 0, i, N, p, hi, hN, hp => by
    rw [sQ_several_24]
    simp (disch := omega) only [sQ_several_26, sQ_several_27, sQ_several_30, sQ_several_31, sQ_several_32, sQ_several_34, sQ_several_37, sQ_several_40, sQ_several_41, sQ_several_42, sQ_several_45, sQ_several_48, sQ_several_49, ax_clr_i, ax_clr_l, ax_clr_r, ax_clr_n, ax_ct_0, ax_ct_i, ax_ct_l, ax_ct_r, va_rf_s, Option.toList_some, Option.toList_none, List.cons_append, List.nil_append, and_true, true_and, and_self, ite_true, ite_false, if_true, if_false, Nat.reduceAdd, Nat.reduceLeDiff, Nat.reduceMul, Nat.reduceLT, nI_add, pk_mul, nI_lt', nI_le', nI_eq', nI_lt0, nI_ge0, nI_eq0, nI_gt0, nI_le0, nI_ne_m1, m1_ne_nI, m1_lt_nI, m1_le_nI, nI_lt_m1, nI_le_m1, nI_clamp, ax_in_nI, nI_shl, nI_shr, lg_cmp0, nx_and, nI_eq1, bI_0, bI_1, bf_or, eq_self, or_true, true_or, lt_T, le_T, lt_F, le_F, eq_F, eq_T]
    rfl
  | m + 1, i, N, p, hi, hN, hp => by
    have h2 := hb.1
    rw [sQ_several_24]
    simp (disch := omega) only [sQ_several_26, sQ_several_27, sQ_several_30, sQ_several_31, sQ_several_32, sQ_several_34, sQ_several_37, sQ_several_40, sQ_several_41, sQ_several_42, sQ_several_45, sQ_several_48, sQ_several_49, ax_clr_i, ax_clr_l, ax_clr_r, ax_clr_n, ax_ct_0, ax_ct_i, ax_ct_l, ax_ct_r, va_rf_s, Option.toList_some, Option.toList_none, List.cons_append, List.nil_append, and_true, true_and, and_self, ite_true, ite_false, if_true, if_false, Nat.reduceAdd, Nat.reduceLeDiff, Nat.reduceMul, Nat.reduceLT, nI_add, pk_mul, nI_lt', nI_le', nI_eq', nI_lt0, nI_ge0, nI_eq0, nI_gt0, nI_le0, nI_ne_m1, m1_ne_nI, m1_lt_nI, m1_le_nI, nI_lt_m1, nI_le_m1, nI_clamp, ax_in_nI, nI_shl, nI_shr, lg_cmp0, nx_and, nI_eq1, bI_0, bI_1, bf_or, eq_self, or_true, true_or, lt_T, le_T, lt_F, le_F, eq_F, eq_T, kdM_0, kdM_1, kdM_2, kdM_3, kdM_4, kdM_5, kdM_6, kdM_7, kdM_8, kdM_9, kdM_10, kdM_11, kdM_12, kdM_13, kdM_14, kdM_15, kdM_16, kdM_17, kdM_18, kdM_19, kdM_20, kdM_21, kdM_22, kdM_23, kdM_24, rM_0, rM_1, rM_5, rM_6, rM_7, rM_10, rM_11, rM_12, rM_13, rM_14, rM_15, rM_16, rM_18, rM_19, rM_20, rM_21, rM_23, rM_24, rM_25, rM_26, rM_28, rM_29, rM_30, rM_31, mQ_number_ hb hw hc]
    rw [sNm]
    by_cases e : (tk b 120 p (fun k => ftN b n off k w)).1 = true
    · obtain ⟨a1, a2, a3, a4⟩ := tk_t e
      rw [a4, mQ_several_l hb hw hc w hww hw0 x1 m (i + 1) N (p + 1) (by omega) hN (by omega)]
      simp [e]
    · rw [tk_f e]
      simp [e, bI]
theorem mQ_several_ (hb : bufM h b) (hw : cW b n off) (hc : cT h n off) (mo w p : Nat) (hmo : mo < 100) (hww : w < 100) (hw0 : 0 < w) (hp : p < 200) : ax_wp kM (d + 5) mQ_several 0 [some (.ref 0), some (.int (nI mo)), some (.int (nI w)), none, none] [] (ax_upI h 0 3 (nI p)) Q = Q (some (.int (bI (sSv b mo (fun k => ftN b n off k w) p).1))) (ax_upI h 0 3 (nI (sSv b mo (fun k => ftN b n off k w) p).2)) := by
  have h2 := hb.1
  have hlt := hb.lt p
  have hb2 := hb.fr (frM.at (x := nI p))
  simp (disch := omega) only [sQ_several_0, sQ_several_1, sQ_several_2, sQ_several_5, sQ_several_8, sQ_several_9, sQ_several_10, sQ_several_11, sQ_several_13, sQ_several_16, sQ_several_19, sQ_several_20, sQ_several_21, sQ_several_22, ax_clr_i, ax_clr_l, ax_clr_r, ax_clr_n, ax_ct_0, ax_ct_i, ax_ct_l, ax_ct_r, va_rf_s, Option.toList_some, Option.toList_none, List.cons_append, List.nil_append, and_true, true_and, and_self, ite_true, ite_false, if_true, if_false, Nat.reduceAdd, Nat.reduceLeDiff, Nat.reduceMul, Nat.reduceLT, nI_add, pk_mul, nI_lt', nI_le', nI_eq', nI_lt0, nI_ge0, nI_eq0, nI_gt0, nI_le0, nI_ne_m1, m1_ne_nI, m1_lt_nI, m1_le_nI, nI_lt_m1, nI_le_m1, nI_clamp, ax_in_nI, nI_shl, nI_shr, lg_cmp0, nx_and, nI_eq1, bI_0, bI_1, bf_or, eq_self, or_true, true_or, lt_T, le_T, lt_F, le_F, eq_F, eq_T, kdM_0, kdM_1, kdM_2, kdM_3, kdM_4, kdM_5, kdM_6, kdM_7, kdM_8, kdM_9, kdM_10, kdM_11, kdM_12, kdM_13, kdM_14, kdM_15, kdM_16, kdM_17, kdM_18, kdM_19, kdM_20, kdM_21, kdM_22, kdM_23, kdM_24, rM_0, rM_1, rM_5, rM_6, rM_7, rM_10, rM_11, rM_12, rM_13, rM_14, rM_15, rM_16, rM_18, rM_19, rM_20, rM_21, rM_23, rM_24, rM_25, rM_26, rM_28, rM_29, rM_30, rM_31, up_at, up_II, up_III, up_I, up_I2, up_L, up_L1, up_L3, up_R, up_R1, up_R2, Nat.reduceEqDiff, and_false, false_and, reduceIte, eq_self, mQ_buffer_ hb2, mQ_upTo_ hb]
  unfold sSv
  by_cases e : (tk b 120 p (fun k => decide (k ≤ mo))).1 = true
  · obtain ⟨a1, a2, a3, a4⟩ := tk_t e
    rw [bz_in a2, a4, mQ_several_l hb hw hc w hww hw0 _ (bg b p) 0 (bg b p) (p + 1) (by omega) (by omega) (by omega)]
    simp [e]
  · rw [tk_f e]
    simp [e, bI]
/-- the demand of an instruction -/
def opd (c : Nat) : Nat := if c = 18 then 22 else if c = 180 ∨ c = 181 then 9 else if c = 182 then 10 else if c = 187 ∨ c = 192 ∨ c = 193 then 7 else 0
theorem mQ_operand_ (c : Nat) (hc : c < 2 ^ 16) : ax_wp kM d mQ_operand 0 [some (.int (nI c))] [] h Q = Q (some (.int (nI (opd c)))) h := by
  simp (disch := omega) only [sQ_operand_0, sQ_operand_1, sQ_operand_3, sQ_operand_6, sQ_operand_8, sQ_operand_11, sQ_operand_12, sQ_operand_15, sQ_operand_18, sQ_operand_19, sQ_operand_22, sQ_operand_25, sQ_operand_27, sQ_operand_30, sQ_operand_31, sQ_operand_34, sQ_operand_37, sQ_operand_39, sQ_operand_42, sQ_operand_43, sQ_operand_46, sQ_operand_49, sQ_operand_50, sQ_operand_53, sQ_operand_56, sQ_operand_57, sQ_operand_60, sQ_operand_63, sQ_operand_65, sQ_operand_68, sQ_operand_69, ax_clr_i, ax_clr_l, ax_clr_r, ax_clr_n, ax_ct_0, ax_ct_i, ax_ct_l, ax_ct_r, va_rf_s, Option.toList_some, Option.toList_none, List.cons_append, List.nil_append, and_true, true_and, and_self, ite_true, ite_false, if_true, if_false, Nat.reduceAdd, Nat.reduceLeDiff, Nat.reduceMul, Nat.reduceLT, nI_add, pk_mul, nI_lt', nI_le', nI_eq', nI_lt0, nI_ge0, nI_eq0, nI_gt0, nI_le0, nI_ne_m1, m1_ne_nI, m1_lt_nI, m1_le_nI, nI_lt_m1, nI_le_m1, nI_clamp, ax_in_nI, nI_shl, nI_shr, lg_cmp0, nx_and, nI_eq1, bI_0, bI_1, bf_or, eq_self, or_true, true_or]
  unfold opd
  (repeat' split) <;> first | rfl | omega
theorem mQ_operand_m : ax_wp kM d mQ_operand 0 [some (.int (-1))] [] h Q = Q (some (.int (nI 0))) h := by
  simp (disch := omega) only [sQ_operand_0, sQ_operand_1, sQ_operand_3, sQ_operand_6, sQ_operand_8, sQ_operand_11, sQ_operand_12, sQ_operand_15, sQ_operand_18, sQ_operand_19, sQ_operand_22, sQ_operand_25, sQ_operand_27, sQ_operand_30, sQ_operand_31, sQ_operand_34, sQ_operand_37, sQ_operand_39, sQ_operand_42, sQ_operand_43, sQ_operand_46, sQ_operand_49, sQ_operand_50, sQ_operand_53, sQ_operand_56, sQ_operand_57, sQ_operand_60, sQ_operand_63, sQ_operand_65, sQ_operand_68, sQ_operand_69, ax_clr_i, ax_clr_l, ax_clr_r, ax_clr_n, ax_ct_0, ax_ct_i, ax_ct_l, ax_ct_r, va_rf_s, Option.toList_some, Option.toList_none, List.cons_append, List.nil_append, and_true, true_and, and_self, ite_true, ite_false, if_true, if_false, Nat.reduceAdd, Nat.reduceLeDiff, Nat.reduceMul, Nat.reduceLT, nI_add, pk_mul, nI_lt', nI_le', nI_eq', nI_lt0, nI_ge0, nI_eq0, nI_gt0, nI_le0, nI_ne_m1, m1_ne_nI, m1_lt_nI, m1_le_nI, nI_lt_m1, nI_le_m1, nI_clamp, ax_in_nI, nI_shl, nI_shr, lg_cmp0, nx_and, nI_eq1, bI_0, bI_1, bf_or, eq_self, or_true, true_or]
/-- a WIDE, behind its own byte; lim: where the code ends -/
def sWd (b : List Nat) (n : Nat) (off : Nat → Nat) (lim p : Nat) : Bool × Nat :=
  if p < lim ∧ p < b.length ∧ (bg b p = 180 ∨ bg b p = 181 ∨ bg b p = 182 ∨ bg b p = 187) then
    (if p + 1 < lim ∧ p + 1 < b.length then
      (if p + 2 < lim ∧ p + 2 < b.length ∧ ftN b n off (256 * bg b (p + 1) + bg b (p + 2)) (opd (bg b p)) = true then (true, p + 3) else (false, p + 2))
    else (false, p + 1))
  else (false, p)
theorem mQ_wide_51 (hb : bufM h b) (hw : cW b n off) (hc : cT h n off) (lim p t : Nat) (hl : lim < 900) (hp : p < 900) (ht : t = 180 ∨ t = 181 ∨ t = 182 ∨ t = 187) : ax_wp kM (d + 4) mQ_wide 51 [some (.ref 0), some (.int (nI lim)), some (.int (nI t)), none] [] (ax_upI h 0 3 (nI p)) Q =
    (if p + 1 < lim ∧ p + 1 < b.length then
      (if p + 2 < lim ∧ p + 2 < b.length ∧ ftN b n off (256 * bg b (p + 1) + bg b (p + 2)) (opd t) = true then Q (some (.int (nI 1))) (ax_upI h 0 3 (nI (p + 3))) else Q (some (.int (nI 0))) (ax_upI h 0 3 (nI (p + 2))))
    else Q (some (.int (nI 0))) (ax_upI h 0 3 (nI (p + 1)))) := by
  have h2 := hb.1
  have l1 := hb.lt (p + 1)
  have l2 := hb.lt (p + 2)
  have hb1 := hb.fr (frM.at (x := nI (p + 1)))
  have hb2 := hb.fr (frM.at (x := nI (p + 2)))
  have hc2 := hc.up (x := nI (p + 2))
  simp (disch := omega) only [sQ_wide_51, sQ_wide_52, sQ_wide_52r, sQ_wide_53, sQ_wide_56, sQ_wide_57, sQ_wide_58, sQ_wide_61, sQ_wide_62, sQ_wide_63, sQ_wide_66, sQ_wide_69, sQ_wide_70, sQ_wide_71, sQ_wide_74, sQ_wide_75, ax_clr_i, ax_clr_l, ax_clr_r, ax_clr_n, ax_ct_0, ax_ct_i, ax_ct_l, ax_ct_r, va_rf_s, Option.toList_some, Option.toList_none, List.cons_append, List.nil_append, and_true, true_and, and_self, ite_true, ite_false, if_true, if_false, Nat.reduceAdd, Nat.reduceLeDiff, Nat.reduceMul, Nat.reduceLT, nI_add, pk_mul, nI_lt', nI_le', nI_eq', nI_lt0, nI_ge0, nI_eq0, nI_gt0, nI_le0, nI_ne_m1, m1_ne_nI, m1_lt_nI, m1_le_nI, nI_lt_m1, nI_le_m1, nI_clamp, ax_in_nI, nI_shl, nI_shr, lg_cmp0, nx_and, nI_eq1, bI_0, bI_1, bf_or, eq_self, or_true, true_or, kdM_0, kdM_1, kdM_2, kdM_3, kdM_4, kdM_5, kdM_6, kdM_7, kdM_8, kdM_9, kdM_10, kdM_11, kdM_12, kdM_13, kdM_14, kdM_15, kdM_16, kdM_17, kdM_18, kdM_19, kdM_20, kdM_21, kdM_22, kdM_23, kdM_24, rM_0, rM_1, rM_5, rM_6, rM_7, rM_10, rM_11, rM_12, rM_13, rM_14, rM_15, rM_16, rM_18, rM_19, rM_20, rM_21, rM_23, rM_24, rM_25, rM_26, rM_28, rM_29, rM_30, rM_31, up_at, up_II, up_III, up_I, up_I2, up_L, up_L1, up_L3, up_R, up_R1, up_R2, Nat.reduceEqDiff, and_false, false_and, reduceIte, eq_self, mQ_buffer_ hb1, mQ_upTo_ hb]
  by_cases e1 : p + 1 < lim ∧ p + 1 < b.length
  · have e3 : (tk b lim (p + 1) (fun k => decide (k ≤ 255))) = (true, p + 2) := by
      unfold tk; rw [if_pos ⟨e1.1, e1.2, by simp; omega⟩]
    rw [if_pos e1, e3, bz_in e1.2]
    simp (disch := omega) only [sQ_wide_78, sQ_wide_81, sQ_wide_82, sQ_wide_85, sQ_wide_86, sQ_wide_89, sQ_wide_90, sQ_wide_91, sQ_wide_94, sQ_wide_97, sQ_wide_100, sQ_wide_101, ax_clr_i, ax_clr_l, ax_clr_r, ax_clr_n, ax_ct_0, ax_ct_i, ax_ct_l, ax_ct_r, va_rf_s, Option.toList_some, Option.toList_none, List.cons_append, List.nil_append, and_true, true_and, and_self, ite_true, ite_false, if_true, if_false, Nat.reduceAdd, Nat.reduceLeDiff, Nat.reduceMul, Nat.reduceLT, nI_add, pk_mul, nI_lt', nI_le', nI_eq', nI_lt0, nI_ge0, nI_eq0, nI_gt0, nI_le0, nI_ne_m1, m1_ne_nI, m1_lt_nI, m1_le_nI, nI_lt_m1, nI_le_m1, nI_clamp, ax_in_nI, nI_shl, nI_shr, lg_cmp0, nx_and, nI_eq1, bI_0, bI_1, bf_or, eq_self, or_true, true_or, kdM_0, kdM_1, kdM_2, kdM_3, kdM_4, kdM_5, kdM_6, kdM_7, kdM_8, kdM_9, kdM_10, kdM_11, kdM_12, kdM_13, kdM_14, kdM_15, kdM_16, kdM_17, kdM_18, kdM_19, kdM_20, kdM_21, kdM_22, kdM_23, kdM_24, rM_0, rM_1, rM_5, rM_6, rM_7, rM_10, rM_11, rM_12, rM_13, rM_14, rM_15, rM_16, rM_18, rM_19, rM_20, rM_21, rM_23, rM_24, rM_25, rM_26, rM_28, rM_29, rM_30, rM_31, up_at, up_II, up_III, up_I, up_I2, up_L, up_L1, up_L3, up_R, up_R1, up_R2, Nat.reduceEqDiff, and_false, false_and, reduceIte, eq_self, mQ_buffer_ hb2, Bool.true_eq_false]
    by_cases e4 : p + 2 < lim
    · by_cases e5 : p + 2 < b.length
      · rw [if_neg (by omega), bz_in e5, if_pos (nI_pos' (by omega))]
        rcases ht with rfl | rfl | rfl | rfl
        · have eo : opd 180 = 9 := rfl
          rw [eo]
          simp (disch := omega) only [sQ_wide_102, sQ_wide_103, sQ_wide_106, sQ_wide_107, sQ_wide_108, sQ_wide_109, sQ_wide_110, sQ_wide_113, sQ_wide_116, sQ_wide_117, sQ_wide_118, sQ_wide_121, sQ_wide_124, sQ_wide_126, sQ_wide_129, sQ_wide_130, sQ_wide_133, sQ_wide_136, sQ_wide_138, sQ_wide_141, sQ_wide_143, sQ_wide_146, sQ_wide_149, sQ_wide_150, sQ_wide_151, sQ_wide_152, sQ_wide_152r, sQ_wide_153, sQ_wide_156, sQ_wide_157, sQ_wide_158, sQ_wide_161, sQ_wide_162, ax_clr_i, ax_clr_l, ax_clr_r, ax_clr_n, ax_ct_0, ax_ct_i, ax_ct_l, ax_ct_r, va_rf_s, Option.toList_some, Option.toList_none, List.cons_append, List.nil_append, and_true, true_and, and_self, ite_true, ite_false, if_true, if_false, Nat.reduceAdd, Nat.reduceLeDiff, Nat.reduceMul, Nat.reduceLT, nI_add, pk_mul, nI_lt', nI_le', nI_eq', nI_lt0, nI_ge0, nI_eq0, nI_gt0, nI_le0, nI_ne_m1, m1_ne_nI, m1_lt_nI, m1_le_nI, nI_lt_m1, nI_le_m1, nI_clamp, ax_in_nI, nI_shl, nI_shr, lg_cmp0, nx_and, nI_eq1, bI_0, bI_1, bf_or, eq_self, or_true, true_or, lt_T, le_T, lt_F, le_F, eq_F, eq_T, kdM_0, kdM_1, kdM_2, kdM_3, kdM_4, kdM_5, kdM_6, kdM_7, kdM_8, kdM_9, kdM_10, kdM_11, kdM_12, kdM_13, kdM_14, kdM_15, kdM_16, kdM_17, kdM_18, kdM_19, kdM_20, kdM_21, kdM_22, kdM_23, kdM_24, rM_0, rM_1, rM_5, rM_6, rM_7, rM_10, rM_11, rM_12, rM_13, rM_14, rM_15, rM_16, rM_18, rM_19, rM_20, rM_21, rM_23, rM_24, rM_25, rM_26, rM_28, rM_29, rM_30, rM_31, up_at, up_II, up_III, up_I, up_I2, up_L, up_L1, up_L3, up_R, up_R1, up_R2, Nat.reduceEqDiff, and_false, false_and, reduceIte, eq_self, mQ_buffer_ hb2, bz_in e5, mQ_fitting_ hb2 hw hc2, Nat.reduceEqDiff]
          by_cases e6 : ftN b n off (256 * bg b (p + 1) + bg b (p + 2)) 9 = true <;> simp [e4, e5, e6]
        · have eo : opd 181 = 9 := rfl
          rw [eo]
          simp (disch := omega) only [sQ_wide_102, sQ_wide_103, sQ_wide_106, sQ_wide_107, sQ_wide_108, sQ_wide_109, sQ_wide_110, sQ_wide_113, sQ_wide_116, sQ_wide_117, sQ_wide_118, sQ_wide_121, sQ_wide_124, sQ_wide_126, sQ_wide_129, sQ_wide_130, sQ_wide_133, sQ_wide_136, sQ_wide_138, sQ_wide_141, sQ_wide_143, sQ_wide_146, sQ_wide_149, sQ_wide_150, sQ_wide_151, sQ_wide_152, sQ_wide_152r, sQ_wide_153, sQ_wide_156, sQ_wide_157, sQ_wide_158, sQ_wide_161, sQ_wide_162, ax_clr_i, ax_clr_l, ax_clr_r, ax_clr_n, ax_ct_0, ax_ct_i, ax_ct_l, ax_ct_r, va_rf_s, Option.toList_some, Option.toList_none, List.cons_append, List.nil_append, and_true, true_and, and_self, ite_true, ite_false, if_true, if_false, Nat.reduceAdd, Nat.reduceLeDiff, Nat.reduceMul, Nat.reduceLT, nI_add, pk_mul, nI_lt', nI_le', nI_eq', nI_lt0, nI_ge0, nI_eq0, nI_gt0, nI_le0, nI_ne_m1, m1_ne_nI, m1_lt_nI, m1_le_nI, nI_lt_m1, nI_le_m1, nI_clamp, ax_in_nI, nI_shl, nI_shr, lg_cmp0, nx_and, nI_eq1, bI_0, bI_1, bf_or, eq_self, or_true, true_or, lt_T, le_T, lt_F, le_F, eq_F, eq_T, kdM_0, kdM_1, kdM_2, kdM_3, kdM_4, kdM_5, kdM_6, kdM_7, kdM_8, kdM_9, kdM_10, kdM_11, kdM_12, kdM_13, kdM_14, kdM_15, kdM_16, kdM_17, kdM_18, kdM_19, kdM_20, kdM_21, kdM_22, kdM_23, kdM_24, rM_0, rM_1, rM_5, rM_6, rM_7, rM_10, rM_11, rM_12, rM_13, rM_14, rM_15, rM_16, rM_18, rM_19, rM_20, rM_21, rM_23, rM_24, rM_25, rM_26, rM_28, rM_29, rM_30, rM_31, up_at, up_II, up_III, up_I, up_I2, up_L, up_L1, up_L3, up_R, up_R1, up_R2, Nat.reduceEqDiff, and_false, false_and, reduceIte, eq_self, mQ_buffer_ hb2, bz_in e5, mQ_fitting_ hb2 hw hc2, Nat.reduceEqDiff]
          by_cases e6 : ftN b n off (256 * bg b (p + 1) + bg b (p + 2)) 9 = true <;> simp [e4, e5, e6]
        · have eo : opd 182 = 10 := rfl
          rw [eo]
          simp (disch := omega) only [sQ_wide_102, sQ_wide_103, sQ_wide_106, sQ_wide_107, sQ_wide_108, sQ_wide_109, sQ_wide_110, sQ_wide_113, sQ_wide_116, sQ_wide_117, sQ_wide_118, sQ_wide_121, sQ_wide_124, sQ_wide_126, sQ_wide_129, sQ_wide_130, sQ_wide_133, sQ_wide_136, sQ_wide_138, sQ_wide_141, sQ_wide_143, sQ_wide_146, sQ_wide_149, sQ_wide_150, sQ_wide_151, sQ_wide_152, sQ_wide_152r, sQ_wide_153, sQ_wide_156, sQ_wide_157, sQ_wide_158, sQ_wide_161, sQ_wide_162, ax_clr_i, ax_clr_l, ax_clr_r, ax_clr_n, ax_ct_0, ax_ct_i, ax_ct_l, ax_ct_r, va_rf_s, Option.toList_some, Option.toList_none, List.cons_append, List.nil_append, and_true, true_and, and_self, ite_true, ite_false, if_true, if_false, Nat.reduceAdd, Nat.reduceLeDiff, Nat.reduceMul, Nat.reduceLT, nI_add, pk_mul, nI_lt', nI_le', nI_eq', nI_lt0, nI_ge0, nI_eq0, nI_gt0, nI_le0, nI_ne_m1, m1_ne_nI, m1_lt_nI, m1_le_nI, nI_lt_m1, nI_le_m1, nI_clamp, ax_in_nI, nI_shl, nI_shr, lg_cmp0, nx_and, nI_eq1, bI_0, bI_1, bf_or, eq_self, or_true, true_or, lt_T, le_T, lt_F, le_F, eq_F, eq_T, kdM_0, kdM_1, kdM_2, kdM_3, kdM_4, kdM_5, kdM_6, kdM_7, kdM_8, kdM_9, kdM_10, kdM_11, kdM_12, kdM_13, kdM_14, kdM_15, kdM_16, kdM_17, kdM_18, kdM_19, kdM_20, kdM_21, kdM_22, kdM_23, kdM_24, rM_0, rM_1, rM_5, rM_6, rM_7, rM_10, rM_11, rM_12, rM_13, rM_14, rM_15, rM_16, rM_18, rM_19, rM_20, rM_21, rM_23, rM_24, rM_25, rM_26, rM_28, rM_29, rM_30, rM_31, up_at, up_II, up_III, up_I, up_I2, up_L, up_L1, up_L3, up_R, up_R1, up_R2, Nat.reduceEqDiff, and_false, false_and, reduceIte, eq_self, mQ_buffer_ hb2, bz_in e5, mQ_fitting_ hb2 hw hc2, Nat.reduceEqDiff]
          by_cases e6 : ftN b n off (256 * bg b (p + 1) + bg b (p + 2)) 10 = true <;> simp [e4, e5, e6]
        · have eo : opd 187 = 7 := rfl
          rw [eo]
          simp (disch := omega) only [sQ_wide_102, sQ_wide_103, sQ_wide_106, sQ_wide_107, sQ_wide_108, sQ_wide_109, sQ_wide_110, sQ_wide_113, sQ_wide_116, sQ_wide_117, sQ_wide_118, sQ_wide_121, sQ_wide_124, sQ_wide_126, sQ_wide_129, sQ_wide_130, sQ_wide_133, sQ_wide_136, sQ_wide_138, sQ_wide_141, sQ_wide_143, sQ_wide_146, sQ_wide_149, sQ_wide_150, sQ_wide_151, sQ_wide_152, sQ_wide_152r, sQ_wide_153, sQ_wide_156, sQ_wide_157, sQ_wide_158, sQ_wide_161, sQ_wide_162, ax_clr_i, ax_clr_l, ax_clr_r, ax_clr_n, ax_ct_0, ax_ct_i, ax_ct_l, ax_ct_r, va_rf_s, Option.toList_some, Option.toList_none, List.cons_append, List.nil_append, and_true, true_and, and_self, ite_true, ite_false, if_true, if_false, Nat.reduceAdd, Nat.reduceLeDiff, Nat.reduceMul, Nat.reduceLT, nI_add, pk_mul, nI_lt', nI_le', nI_eq', nI_lt0, nI_ge0, nI_eq0, nI_gt0, nI_le0, nI_ne_m1, m1_ne_nI, m1_lt_nI, m1_le_nI, nI_lt_m1, nI_le_m1, nI_clamp, ax_in_nI, nI_shl, nI_shr, lg_cmp0, nx_and, nI_eq1, bI_0, bI_1, bf_or, eq_self, or_true, true_or, lt_T, le_T, lt_F, le_F, eq_F, eq_T, kdM_0, kdM_1, kdM_2, kdM_3, kdM_4, kdM_5, kdM_6, kdM_7, kdM_8, kdM_9, kdM_10, kdM_11, kdM_12, kdM_13, kdM_14, kdM_15, kdM_16, kdM_17, kdM_18, kdM_19, kdM_20, kdM_21, kdM_22, kdM_23, kdM_24, rM_0, rM_1, rM_5, rM_6, rM_7, rM_10, rM_11, rM_12, rM_13, rM_14, rM_15, rM_16, rM_18, rM_19, rM_20, rM_21, rM_23, rM_24, rM_25, rM_26, rM_28, rM_29, rM_30, rM_31, up_at, up_II, up_III, up_I, up_I2, up_L, up_L1, up_L3, up_R, up_R1, up_R2, Nat.reduceEqDiff, and_false, false_and, reduceIte, eq_self, mQ_buffer_ hb2, bz_in e5, mQ_fitting_ hb2 hw hc2, Nat.reduceEqDiff]
          by_cases e6 : ftN b n off (256 * bg b (p + 1) + bg b (p + 2)) 7 = true <;> simp [e4, e5, e6]
      · rw [if_neg (by omega), bz_out e5, if_neg (by decide), if_neg (fun hh => e5 hh.2.1)]
    · rw [if_pos (by omega), if_neg (fun hh => e4 hh.1)]
  · have e3 : (tk b lim (p + 1) (fun k => decide (k ≤ 255))) = (false, p + 1) := by
      unfold tk; rw [if_neg (fun hh => e1 ⟨hh.1, hh.2.1⟩)]
    rw [if_neg e1, e3]
    simp (disch := omega) only [sQ_wide_78, sQ_wide_81, sQ_wide_82, sQ_wide_85, sQ_wide_86, sQ_wide_89, sQ_wide_90, sQ_wide_91, sQ_wide_94, sQ_wide_97, sQ_wide_100, sQ_wide_101, ax_clr_i, ax_clr_l, ax_clr_r, ax_clr_n, ax_ct_0, ax_ct_i, ax_ct_l, ax_ct_r, va_rf_s, Option.toList_some, Option.toList_none, List.cons_append, List.nil_append, and_true, true_and, and_self, ite_true, ite_false, if_true, if_false, Nat.reduceAdd, Nat.reduceLeDiff, Nat.reduceMul, Nat.reduceLT, nI_add, pk_mul, nI_lt', nI_le', nI_eq', nI_lt0, nI_ge0, nI_eq0, nI_gt0, nI_le0, nI_ne_m1, m1_ne_nI, m1_lt_nI, m1_le_nI, nI_lt_m1, nI_le_m1, nI_clamp, ax_in_nI, nI_shl, nI_shr, lg_cmp0, nx_and, nI_eq1, bI_0, bI_1, bf_or, eq_self, or_true, true_or, kdM_0, kdM_1, kdM_2, kdM_3, kdM_4, kdM_5, kdM_6, kdM_7, kdM_8, kdM_9, kdM_10, kdM_11, kdM_12, kdM_13, kdM_14, kdM_15, kdM_16, kdM_17, kdM_18, kdM_19, kdM_20, kdM_21, kdM_22, kdM_23, kdM_24, rM_0, rM_1, rM_5, rM_6, rM_7, rM_10, rM_11, rM_12, rM_13, rM_14, rM_15, rM_16, rM_18, rM_19, rM_20, rM_21, rM_23, rM_24, rM_25, rM_26, rM_28, rM_29, rM_30, rM_31, up_at, up_II, up_III, up_I, up_I2, up_L, up_L1, up_L3, up_R, up_R1, up_R2, Nat.reduceEqDiff, and_false, false_and, reduceIte, eq_self]
theorem mQ_wide_ (hb : bufM h b) (hw : cW b n off) (hc : cT h n off) (lim p : Nat) (hl : lim < 900) (hp : p < 900) : ax_wp kM (d + 4) mQ_wide 0 [some (.ref 0), some (.int (nI lim)), none, none] [] (ax_upI h 0 3 (nI p)) Q = Q (some (.int (bI (sWd b n off lim p).1))) (ax_upI h 0 3 (nI (sWd b n off lim p).2)) := by
  have h2 := hb.1
  have l0 := hb.lt p
  have hb0 := hb.fr (frM.at (x := nI p))
  simp (disch := omega) only [sQ_wide_0, sQ_wide_1, sQ_wide_4, sQ_wide_5, sQ_wide_8, sQ_wide_9, sQ_wide_10, sQ_wide_13, sQ_wide_16, sQ_wide_19, sQ_wide_20, sQ_wide_21, sQ_wide_22, sQ_wide_25, sQ_wide_28, sQ_wide_29, sQ_wide_32, sQ_wide_35, sQ_wide_36, sQ_wide_39, sQ_wide_42, sQ_wide_43, sQ_wide_46, sQ_wide_49, sQ_wide_50, ax_clr_i, ax_clr_l, ax_clr_r, ax_clr_n, ax_ct_0, ax_ct_i, ax_ct_l, ax_ct_r, va_rf_s, Option.toList_some, Option.toList_none, List.cons_append, List.nil_append, and_true, true_and, and_self, ite_true, ite_false, if_true, if_false, Nat.reduceAdd, Nat.reduceLeDiff, Nat.reduceMul, Nat.reduceLT, nI_add, pk_mul, nI_lt', nI_le', nI_eq', nI_lt0, nI_ge0, nI_eq0, nI_gt0, nI_le0, nI_ne_m1, m1_ne_nI, m1_lt_nI, m1_le_nI, nI_lt_m1, nI_le_m1, nI_clamp, ax_in_nI, nI_shl, nI_shr, lg_cmp0, nx_and, nI_eq1, bI_0, bI_1, bf_or, eq_self, or_true, true_or, kdM_0, kdM_1, kdM_2, kdM_3, kdM_4, kdM_5, kdM_6, kdM_7, kdM_8, kdM_9, kdM_10, kdM_11, kdM_12, kdM_13, kdM_14, kdM_15, kdM_16, kdM_17, kdM_18, kdM_19, kdM_20, kdM_21, kdM_22, kdM_23, kdM_24, rM_0, rM_1, rM_5, rM_6, rM_7, rM_10, rM_11, rM_12, rM_13, rM_14, rM_15, rM_16, rM_18, rM_19, rM_20, rM_21, rM_23, rM_24, rM_25, rM_26, rM_28, rM_29, rM_30, rM_31, up_at, up_II, up_III, up_I, up_I2, up_L, up_L1, up_L3, up_R, up_R1, up_R2, Nat.reduceEqDiff, and_false, false_and, reduceIte, eq_self, mQ_buffer_ hb0]
  unfold sWd
  by_cases e1 : p < lim
  · by_cases e2 : p < b.length
    · rw [if_neg (by omega), bz_in e2]
      have w := mQ_wide_51 (d := d) (Q := Q) hb hw hc lim p (bg b p) hl hp
      generalize bg b p = t at l0 w
      by_cases a0 : t = 180
      · subst a0
        rw [if_pos rfl, w (by omega)]
        simp [e1, e2]; (repeat' split) <;> rfl
      · by_cases a1 : t = 181
        · subst a1
          rw [if_neg (by decide), if_pos rfl, w (by omega)]
          simp [e1, e2]; (repeat' split) <;> rfl
        · by_cases a2 : t = 182
          · subst a2
            rw [if_neg (by decide), if_neg (by decide), if_pos rfl, w (by omega)]
            simp [e1, e2]; (repeat' split) <;> rfl
          · by_cases a3 : t = 187
            · subst a3
              rw [if_neg (by decide), if_neg (by decide), if_neg (by decide), if_pos rfl, w (by omega)]
              simp [e1, e2]; (repeat' split) <;> rfl
            · simp (disch := omega) only [nI_add, pk_mul, nI_lt', nI_le', nI_eq', nI_lt0, nI_ge0, nI_eq0, nI_gt0, nI_le0, nI_ne_m1, m1_ne_nI, m1_lt_nI, m1_le_nI, nI_lt_m1, nI_le_m1, nI_clamp, ax_in_nI, nI_shl, nI_shr, lg_cmp0, nx_and, nI_eq1, bI_0, bI_1, bf_or, eq_self, or_true, true_or]
              simp [a0, a1, a2, a3, bI]
    · rw [if_neg (by omega), if_neg (show ¬ (p < lim ∧ p < b.length ∧ _) from fun hh => e2 hh.2.1), bz_out e2]
      simp (disch := omega) only [nI_add, pk_mul, nI_lt', nI_le', nI_eq', nI_lt0, nI_ge0, nI_eq0, nI_gt0, nI_le0, nI_ne_m1, m1_ne_nI, m1_lt_nI, m1_le_nI, nI_lt_m1, nI_le_m1, nI_clamp, ax_in_nI, nI_shl, nI_shr, lg_cmp0, nx_and, nI_eq1, bI_0, bI_1, bf_or, eq_self, or_true, true_or]
      simp [bI]
  · rw [if_pos (by omega), if_neg (show ¬ (p < lim ∧ p < b.length ∧ _) from fun hh => e1 hh.1)]
    rfl
end MS
