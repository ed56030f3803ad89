/-! the model's reading of a unit: bytes, constants -/
/-- a byte -/
def bg (b : List Nat) (k : Nat) : Nat := b.getD k 0
def bz (b : List Nat) (k : Nat) : Int32 := if k < b.length then nI (bg b k) else -1
theorem bz_in {b : List Nat} {k : Nat} (h : k < b.length) : bz b k = nI (bg b k) := if_pos h
theorem bz_out {b : List Nat} {k : Nat} (h : ¬ k < b.length) : bz b k = -1 := if_neg h
def bufM (h : ax_H) (b : List Nat) : Prop := h.2.2 = rM ∧ h.1 2 12 = nI b.length ∧ b.length ≤ 120 ∧ (∀ j, j < b.length → h.1 1 (1440 + j) = nI (bg b j)) ∧ ∀ c ∈ b, c < 256
theorem bufM.up {h : ax_H} {b : List Nat} (hb : bufM h b) {r k : Nat} {x : Int32} (h1 : ¬ r = 1) (h2 : ¬ r = 2) : bufM (ax_upI h r k x) b := by
  obtain ⟨a1, a2, a3, a4, a5⟩ := hb
  refine ⟨a1, ?_, a3, fun j hj => ?_, a5⟩
  · rw [up_I, if_neg (fun hh => h2 hh.1.symm)]; exact a2
  · rw [up_I, if_neg (fun hh => h1 hh.1.symm)]; exact a4 j hj
theorem bufM.lt {h : ax_H} {b : List Nat} (hb : bufM h b) (k : Nat) : bg b k < 256 := by
  unfold bg
  have := getD_le (p := b) (n := 255) (fun c hc => by have := hb.2.2.2.2 c hc; omega) k
  omega
theorem up_self {h : ax_H} {r k : Nat} {x : Int32} (hx : h.1 r k = x) : ax_upI h r k x = h := by
  unfold ax_upI
  refine Prod.ext ?_ rfl
  funext a b
  by_cases e : a = r ∧ b = k
  · obtain ⟨rfl, rfl⟩ := e; simp [hx]
  · simp [e]
theorem up_at (h : ax_H) (r k : Nat) (x : Int32) : (ax_upI h r k x).1 r k = x := by simp [up_I]
def sBy (b : List Nat) : Nat → Nat → Bool × Nat
  | 0, p => (true, p)
  | n + 1, p => if p < b.length then sBy b n (p + 1) else (false, p)
def isLt (c : Nat) : Bool := decide (97 ≤ c ∧ c ≤ 122) || decide (65 ≤ c ∧ c ≤ 90)
def sTx (b : List Nat) : Nat → Nat → Bool × Nat
  | 0, p => (true, p)
  | n + 1, p => if p < b.length ∧ (isLt (bg b p) = true ∨ bg b p = 46) then sTx b n (p + 1) else (false, p)
section MR
variable {d : Nat} {h : ax_H} {b : List Nat} {Q : Option Value → ax_H → Prop}
theorem mQ_buffer_ (hb : bufM h b) (k : Nat) (hk : k < 2 ^ 20) : ax_wp kM d mQ_buffer 0 [some (.ref 0), some (.int (nI k))] [] h Q = Q (some (.int (bz b k))) h := by
  obtain ⟨h2, hs, hz, hby, -⟩ := hb
  simp (disch := omega) only [sQ_buffer_0, sQ_buffer_1, sQ_buffer_2, sQ_buffer_5, sQ_buffer_7, sQ_buffer_8, sQ_buffer_11, sQ_buffer_12, sQ_buffer_15, sQ_buffer_18, sQ_buffer_19, sQ_buffer_20, sQ_buffer_21, sQ_buffer_24, sQ_buffer_25, ax_clr_i, ax_clr_l, ax_clr_r, ax_clr_n, ax_ct_0, ax_ct_i, ax_ct_l, ax_ct_r, va_rf_s, Option.toList_some, Option.toList_none, List.cons_append, List.nil_append, and_true, true_and, and_self, ite_true, ite_false, if_true, if_false, Nat.reduceAdd, Nat.reduceLeDiff, Nat.reduceMul, Nat.reduceLT, nI_add, pk_mul, nI_lt', nI_le', nI_eq', nI_lt0, nI_ge0, nI_eq0, nI_gt0, nI_le0, nI_ne_m1, m1_ne_nI, m1_lt_nI, m1_le_nI, nI_lt_m1, nI_le_m1, nI_clamp, ax_in_nI, nI_shl, nI_shr, lg_cmp0, nx_and, nI_eq1, bI_0, bI_1, bf_or, eq_self, or_true, true_or, kdM_0, kdM_1, kdM_2, kdM_3, kdM_4, kdM_5, kdM_6, kdM_7, kdM_8, kdM_9, kdM_10, kdM_11, kdM_12, kdM_13, kdM_14, kdM_15, kdM_16, kdM_17, kdM_18, kdM_19, kdM_20, kdM_21, kdM_22, kdM_23, kdM_24, rM_0, rM_1, rM_5, rM_6, rM_7, rM_10, rM_11, rM_12, rM_13, rM_14, rM_15, rM_16, rM_18, rM_19, rM_20, rM_21, rM_23, rM_24, rM_25, rM_26, rM_28, rM_29, rM_30, rM_31, h2, hs]
  by_cases e : k < b.length
  · rw [if_neg (by omega), bz_in e, hby k e]
    simp; omega
  · rw [if_pos (by omega), bz_out e]
theorem mQ_letter_ (c : Nat) (hc : c < 2 ^ 16) : ax_wp kM d mQ_letter 0 [some (.int (nI c))] [] h Q = Q (some (.int (bI (isLt c)))) h := by
  simp (disch := omega) only [sQ_letter_0, sQ_letter_1, sQ_letter_3, sQ_letter_6, sQ_letter_7, sQ_letter_9, sQ_letter_12, sQ_letter_13, sQ_letter_15, sQ_letter_18, sQ_letter_19, sQ_letter_21, sQ_letter_24, sQ_letter_25, sQ_letter_28, sQ_letter_29, ax_clr_i, ax_clr_l, ax_clr_r, ax_clr_n, ax_ct_0, ax_ct_i, ax_ct_l, ax_ct_r, va_rf_s, Option.toList_some, Option.toList_none, List.cons_append, List.nil_append, and_true, true_and, and_self, ite_true, ite_false, if_true, if_false, Nat.reduceAdd, Nat.reduceLeDiff, Nat.reduceMul, Nat.reduceLT, nI_add, pk_mul, nI_lt', nI_le', nI_eq', nI_lt0, nI_ge0, nI_eq0, nI_gt0, nI_le0, nI_ne_m1, m1_ne_nI, m1_lt_nI, m1_le_nI, nI_lt_m1, nI_le_m1, nI_clamp, ax_in_nI, nI_shl, nI_shr, lg_cmp0, nx_and, nI_eq1, bI_0, bI_1, bf_or, eq_self, or_true, true_or]
  by_cases e : (97 ≤ c ∧ c ≤ 122) ∨ (65 ≤ c ∧ c ≤ 90)
  · rw [show isLt c = true by simp only [isLt, Bool.or_eq_true, decide_eq_true_eq]; exact e]
    (repeat' split) <;> first | rfl | omega
  · rw [show isLt c = false by simp only [isLt, Bool.or_eq_false_iff, decide_eq_false_iff_not]; omega]
    (repeat' split) <;> first | rfl | omega
theorem mQ_letter_m : ax_wp kM d mQ_letter 0 [some (.int (-1))] [] h Q = Q (some (.int (nI 0))) h := by
  simp (disch := omega) only [sQ_letter_0, sQ_letter_1, sQ_letter_3, sQ_letter_6, sQ_letter_7, sQ_letter_9, sQ_letter_12, sQ_letter_13, sQ_letter_15, sQ_letter_18, sQ_letter_19, sQ_letter_21, sQ_letter_24, sQ_letter_25, sQ_letter_28, sQ_letter_29, ax_clr_i, ax_clr_l, ax_clr_r, ax_clr_n, ax_ct_0, ax_ct_i, ax_ct_l, ax_ct_r, va_rf_s, Option.toList_some, Option.toList_none, List.cons_append, List.nil_append, and_true, true_and, and_self, ite_true, ite_false, if_true, if_false, Nat.reduceAdd, Nat.reduceLeDiff, Nat.reduceMul, Nat.reduceLT, nI_add, pk_mul, nI_lt', nI_le', nI_eq', nI_lt0, nI_ge0, nI_eq0, nI_gt0, nI_le0, nI_ne_m1, m1_ne_nI, m1_lt_nI, m1_le_nI, nI_lt_m1, nI_le_m1, nI_clamp, ax_in_nI, nI_shl, nI_shr, lg_cmp0, nx_and, nI_eq1, bI_0, bI_1, bf_or, eq_self, or_true, true_or]
theorem mQ_bytesHere_l (hb : bufM h b) : ∀ (n k j p : Nat), k + n = j → j < 100 → p + n < 1000 → ax_wp kM (d + 1) mQ_bytesHere 2 [some (.ref 0), some (.int (nI j)), some (.int (nI k))] [] (ax_upI h 0 3 (nI p)) Q = Q (some (.int (bI (sBy b n p).1))) (ax_upI h 0 3 (nI (sBy b n p).2))
  | 0, k, j, p, hn, hj, hp => by
    rw [sQ_bytesHere_2]
    simp (disch := omega) only [sQ_bytesHere_0, sQ_bytesHere_1, sQ_bytesHere_3, sQ_bytesHere_4, sQ_bytesHere_7, sQ_bytesHere_8, sQ_bytesHere_9, sQ_bytesHere_12, sQ_bytesHere_15, sQ_bytesHere_18, sQ_bytesHere_19, sQ_bytesHere_20, sQ_bytesHere_21, sQ_bytesHere_21r, sQ_bytesHere_22, sQ_bytesHere_25, sQ_bytesHere_26, sQ_bytesHere_27, sQ_bytesHere_30, sQ_bytesHere_33, sQ_bytesHere_36, sQ_bytesHere_37, ax_clr_i, ax_clr_l, ax_clr_r, ax_clr_n, ax_ct_0, ax_ct_i, ax_ct_l, ax_ct_r, va_rf_s, Option.toList_some, Option.toList_none, List.cons_append, List.nil_append, and_true, true_and, and_self, ite_true, ite_false, if_true, if_false, Nat.reduceAdd, Nat.reduceLeDiff, Nat.reduceMul, Nat.reduceLT, nI_add, pk_mul, nI_lt', nI_le', nI_eq', nI_lt0, nI_ge0, nI_eq0, nI_gt0, nI_le0, nI_ne_m1, m1_ne_nI, m1_lt_nI, m1_le_nI, nI_lt_m1, nI_le_m1, nI_clamp, ax_in_nI, nI_shl, nI_shr, lg_cmp0, nx_and, nI_eq1, bI_0, bI_1, bf_or, eq_self, or_true, true_or, kdM_0, kdM_1, kdM_2, kdM_3, kdM_4, kdM_5, kdM_6, kdM_7, kdM_8, kdM_9, kdM_10, kdM_11, kdM_12, kdM_13, kdM_14, kdM_15, kdM_16, kdM_17, kdM_18, kdM_19, kdM_20, kdM_21, kdM_22, kdM_23, kdM_24, rM_0, rM_1, rM_5, rM_6, rM_7, rM_10, rM_11, rM_12, rM_13, rM_14, rM_15, rM_16, rM_18, rM_19, rM_20, rM_21, rM_23, rM_24, rM_25, rM_26, rM_28, rM_29, rM_30, rM_31]
    rw [if_pos (by omega)]
    rfl
  | n + 1, k, j, p, hn, hj, hp => by
    have hl := hb.lt p
    rw [sQ_bytesHere_2]
    simp (disch := omega) only [sQ_bytesHere_0, sQ_bytesHere_1, sQ_bytesHere_3, sQ_bytesHere_4, sQ_bytesHere_7, sQ_bytesHere_8, sQ_bytesHere_9, sQ_bytesHere_12, sQ_bytesHere_15, sQ_bytesHere_18, sQ_bytesHere_19, sQ_bytesHere_20, sQ_bytesHere_21, sQ_bytesHere_21r, sQ_bytesHere_22, sQ_bytesHere_25, sQ_bytesHere_26, sQ_bytesHere_27, sQ_bytesHere_30, sQ_bytesHere_33, sQ_bytesHere_36, sQ_bytesHere_37, ax_clr_i, ax_clr_l, ax_clr_r, ax_clr_n, ax_ct_0, ax_ct_i, ax_ct_l, ax_ct_r, va_rf_s, Option.toList_some, Option.toList_none, List.cons_append, List.nil_append, and_true, true_and, and_self, ite_true, ite_false, if_true, if_false, Nat.reduceAdd, Nat.reduceLeDiff, Nat.reduceMul, Nat.reduceLT, nI_add, pk_mul, nI_lt', nI_le', nI_eq', nI_lt0, nI_ge0, nI_eq0, nI_gt0, nI_le0, nI_ne_m1, m1_ne_nI, m1_lt_nI, m1_le_nI, nI_lt_m1, nI_le_m1, nI_clamp, ax_in_nI, nI_shl, nI_shr, lg_cmp0, nx_and, nI_eq1, bI_0, bI_1, bf_or, eq_self, or_true, true_or, kdM_0, kdM_1, kdM_2, kdM_3, kdM_4, kdM_5, kdM_6, kdM_7, kdM_8, kdM_9, kdM_10, kdM_11, kdM_12, kdM_13, kdM_14, kdM_15, kdM_16, kdM_17, kdM_18, kdM_19, kdM_20, kdM_21, kdM_22, kdM_23, kdM_24, rM_0, rM_1, rM_5, rM_6, rM_7, rM_10, rM_11, rM_12, rM_13, rM_14, rM_15, rM_16, rM_18, rM_19, rM_20, rM_21, rM_23, rM_24, rM_25, rM_26, rM_28, rM_29, rM_30, rM_31, up_at, mQ_buffer_ (hb.up (k := 3) (x := nI p) (show ¬ 0 = 1 by omega) (show ¬ 0 = 2 by omega)), up_II]
    rw [if_neg (by omega), mQ_bytesHere_l hb n (k + 1) j (p + 1) (by omega) hj (by omega)]
    rw [sBy]
    by_cases e : p < b.length
    · rw [bz_in e, if_pos e, if_pos (nI_pos' (by omega))]
    · rw [bz_out e, if_neg e, if_neg (by decide)]
      rfl
end MR
theorem up_III (h : ax_H) (r k : Nat) (x : Int32) (r' k' : Nat) (y z : Int32) : ax_upI (ax_upI (ax_upI h r k x) r' k' y) r k z = ax_upI (ax_upI h r' k' y) r k z := by
  unfold ax_upI
  refine Prod.ext ?_ rfl
  funext a b
  by_cases e : a = r ∧ b = k
  · simp [e]
  · simp [e]
def isTg (c : Nat) : Bool := decide (c = 1 ∨ c = 3 ∨ c = 7 ∨ c = 9 ∨ c = 10)
/-- the tag of a constant at p; whether it is the last number -/
def tgOk (b : List Nat) (last : Bool) (p : Nat) : Bool := decide (p < b.length) && isTg (bg b p) && !(decide (bg b p = 3) && last)
def sCo (b : List Nat) (last : Bool) (p : Nat) : Bool × Nat :=
  if tgOk b last p = false then (false, p)
  else if bg b p = 1 then (if p + 1 < b.length ∧ 1 ≤ bg b (p + 1) ∧ bg b (p + 1) ≤ 10 then sTx b (bg b (p + 1)) (p + 2) else (false, p + 1))
  else sBy b (if bg b p = 7 then 1 else 2) (p + 1)
section MR2
variable {d : Nat} {h : ax_H} {b : List Nat} {Q : Option Value → ax_H → Prop}
theorem mQ_constant_l (hb : bufM h b) (x1 x2 : Option Value) : ∀ (m i n p : Nat), i + m = n → n < 100 → p + m < 1000 → ax_wp kM (d + 1) mQ_constant 128 [some (.ref 0), x1, x2, some (.int (nI n)), some (.int (nI i))] [] (ax_upI h 0 3 (nI p)) Q = Q (some (.int (bI (sTx b m p).1))) (ax_upI h 0 3 (nI (sTx b m p).2))
  | 0, i, n, p, hn, hj, hp => by
    rw [sQ_constant_128]
    simp (disch := omega) only [sQ_constant_130, sQ_constant_131, sQ_constant_134, sQ_constant_135, sQ_constant_136, sQ_constant_139, sQ_constant_142, sQ_constant_145, sQ_constant_148, sQ_constant_149, sQ_constant_150, sQ_constant_153, sQ_constant_156, sQ_constant_158, sQ_constant_161, sQ_constant_162, sQ_constant_163, sQ_constant_164, sQ_constant_164r, sQ_constant_165, sQ_constant_168, sQ_constant_169, sQ_constant_170, sQ_constant_173, sQ_constant_176, sQ_constant_179, sQ_constant_180, ax_clr_i, ax_clr_l, ax_clr_r, ax_clr_n, ax_ct_0, ax_ct_i, ax_ct_l, ax_ct_r, va_rf_s, Option.toList_some, Option.toList_none, List.cons_append, List.nil_append, and_true, true_and, and_self, ite_true, ite_false, if_true, if_false, Nat.reduceAdd, Nat.reduceLeDiff, Nat.reduceMul, Nat.reduceLT, nI_add, pk_mul, nI_lt', nI_le', nI_eq', nI_lt0, nI_ge0, nI_eq0, nI_gt0, nI_le0, nI_ne_m1, m1_ne_nI, m1_lt_nI, m1_le_nI, nI_lt_m1, nI_le_m1, nI_clamp, ax_in_nI, nI_shl, nI_shr, lg_cmp0, nx_and, nI_eq1, bI_0, bI_1, bf_or, eq_self, or_true, true_or, kdM_0, kdM_1, kdM_2, kdM_3, kdM_4, kdM_5, kdM_6, kdM_7, kdM_8, kdM_9, kdM_10, kdM_11, kdM_12, kdM_13, kdM_14, kdM_15, kdM_16, kdM_17, kdM_18, kdM_19, kdM_20, kdM_21, kdM_22, kdM_23, kdM_24, rM_0, rM_1, rM_5, rM_6, rM_7, rM_10, rM_11, rM_12, rM_13, rM_14, rM_15, rM_16, rM_18, rM_19, rM_20, rM_21, rM_23, rM_24, rM_25, rM_26, rM_28, rM_29, rM_30, rM_31]
    rw [if_pos (by omega)]
    rfl
  | m + 1, i, n, p, hn, hj, hp => by
    have hl := hb.lt p
    have hb2 := hb.up (k := 3) (x := nI p) (show ¬ 0 = 1 by omega) (show ¬ 0 = 2 by omega)
    rw [sQ_constant_128]
    simp (disch := omega) only [sQ_constant_130, sQ_constant_131, sQ_constant_134, sQ_constant_135, sQ_constant_136, sQ_constant_139, sQ_constant_142, sQ_constant_145, sQ_constant_148, sQ_constant_149, sQ_constant_150, sQ_constant_153, sQ_constant_156, sQ_constant_158, sQ_constant_161, sQ_constant_162, sQ_constant_163, sQ_constant_164, sQ_constant_164r, sQ_constant_165, sQ_constant_168, sQ_constant_169, sQ_constant_170, sQ_constant_173, sQ_constant_176, sQ_constant_179, sQ_constant_180, ax_clr_i, ax_clr_l, ax_clr_r, ax_clr_n, ax_ct_0, ax_ct_i, ax_ct_l, ax_ct_r, va_rf_s, Option.toList_some, Option.toList_none, List.cons_append, List.nil_append, and_true, true_and, and_self, ite_true, ite_false, if_true, if_false, Nat.reduceAdd, Nat.reduceLeDiff, Nat.reduceMul, Nat.reduceLT, nI_add, pk_mul, nI_lt', nI_le', nI_eq', nI_lt0, nI_ge0, nI_eq0, nI_gt0, nI_le0, nI_ne_m1, m1_ne_nI, m1_lt_nI, m1_le_nI, nI_lt_m1, nI_le_m1, nI_clamp, ax_in_nI, nI_shl, nI_shr, lg_cmp0, nx_and, nI_eq1, bI_0, bI_1, bf_or, eq_self, or_true, true_or, kdM_0, kdM_1, kdM_2, kdM_3, kdM_4, kdM_5, kdM_6, kdM_7, kdM_8, kdM_9, kdM_10, kdM_11, kdM_12, kdM_13, kdM_14, kdM_15, kdM_16, kdM_17, kdM_18, kdM_19, kdM_20, kdM_21, kdM_22, kdM_23, kdM_24, rM_0, rM_1, rM_5, rM_6, rM_7, rM_10, rM_11, rM_12, rM_13, rM_14, rM_15, rM_16, rM_18, rM_19, rM_20, rM_21, rM_23, rM_24, rM_25, rM_26, rM_28, rM_29, rM_30, rM_31, up_at, up_II, up_III, up_I, up_I2, up_L, up_L1, up_L3, up_R, up_R1, up_R2, Nat.reduceEqDiff, and_false, false_and, reduceIte, eq_self, mQ_buffer_ hb2]
    rw [if_neg (by omega), sTx]
    by_cases e : p < b.length
    · rw [bz_in e, mQ_letter_ _ (by omega)]
      simp (disch := omega) only [sQ_constant_130, sQ_constant_131, sQ_constant_134, sQ_constant_135, sQ_constant_136, sQ_constant_139, sQ_constant_142, sQ_constant_145, sQ_constant_148, sQ_constant_149, sQ_constant_150, sQ_constant_153, sQ_constant_156, sQ_constant_158, sQ_constant_161, sQ_constant_162, sQ_constant_163, sQ_constant_164, sQ_constant_164r, sQ_constant_165, sQ_constant_168, sQ_constant_169, sQ_constant_170, sQ_constant_173, sQ_constant_176, sQ_constant_179, sQ_constant_180, ax_clr_i, ax_clr_l, ax_clr_r, ax_clr_n, ax_ct_0, ax_ct_i, ax_ct_l, ax_ct_r, va_rf_s, Option.toList_some, Option.toList_none, List.cons_append, List.nil_append, and_true, true_and, and_self, ite_true, ite_false, if_true, if_false, Nat.reduceAdd, Nat.reduceLeDiff, Nat.reduceMul, Nat.reduceLT, nI_add, pk_mul, nI_lt', nI_le', nI_eq', nI_lt0, nI_ge0, nI_eq0, nI_gt0, nI_le0, nI_ne_m1, m1_ne_nI, m1_lt_nI, m1_le_nI, nI_lt_m1, nI_le_m1, nI_clamp, ax_in_nI, nI_shl, nI_shr, lg_cmp0, nx_and, nI_eq1, bI_0, bI_1, bf_or, eq_self, or_true, true_or, kdM_0, kdM_1, kdM_2, kdM_3, kdM_4, kdM_5, kdM_6, kdM_7, kdM_8, kdM_9, kdM_10, kdM_11, kdM_12, kdM_13, kdM_14, kdM_15, kdM_16, kdM_17, kdM_18, kdM_19, kdM_20, kdM_21, kdM_22, kdM_23, kdM_24, rM_0, rM_1, rM_5, rM_6, rM_7, rM_10, rM_11, rM_12, rM_13, rM_14, rM_15, rM_16, rM_18, rM_19, rM_20, rM_21, rM_23, rM_24, rM_25, rM_26, rM_28, rM_29, rM_30, rM_31, up_at, up_II, up_III, up_I, up_I2, up_L, up_L1, up_L3, up_R, up_R1, up_R2, Nat.reduceEqDiff, and_false, false_and, reduceIte, eq_self, mQ_buffer_ hb2, bz_in e]
      rw [mQ_constant_l hb x1 x2 m (i + 1) n (p + 1) (by omega) hj (by omega)]
      by_cases e2 : isLt (bg b p) = true
      · simp [e2, e]
      · by_cases e3 : bg b p = 46
        · rw [e3] at e2 ⊢; simp [e2, e]
        · simp [e2, e3, bI]
    · rw [bz_out e, mQ_letter_m, if_neg (fun hh => e hh.1)]
      simp (disch := omega) only [sQ_constant_130, sQ_constant_131, sQ_constant_134, sQ_constant_135, sQ_constant_136, sQ_constant_139, sQ_constant_142, sQ_constant_145, sQ_constant_148, sQ_constant_149, sQ_constant_150, sQ_constant_153, sQ_constant_156, sQ_constant_158, sQ_constant_161, sQ_constant_162, sQ_constant_163, sQ_constant_164, sQ_constant_164r, sQ_constant_165, sQ_constant_168, sQ_constant_169, sQ_constant_170, sQ_constant_173, sQ_constant_176, sQ_constant_179, sQ_constant_180, ax_clr_i, ax_clr_l, ax_clr_r, ax_clr_n, ax_ct_0, ax_ct_i, ax_ct_l, ax_ct_r, va_rf_s, Option.toList_some, Option.toList_none, List.cons_append, List.nil_append, and_true, true_and, and_self, ite_true, ite_false, if_true, if_false, Nat.reduceAdd, Nat.reduceLeDiff, Nat.reduceMul, Nat.reduceLT, nI_add, pk_mul, nI_lt', nI_le', nI_eq', nI_lt0, nI_ge0, nI_eq0, nI_gt0, nI_le0, nI_ne_m1, m1_ne_nI, m1_lt_nI, m1_le_nI, nI_lt_m1, nI_le_m1, nI_clamp, ax_in_nI, nI_shl, nI_shr, lg_cmp0, nx_and, nI_eq1, bI_0, bI_1, bf_or, eq_self, or_true, true_or, kdM_0, kdM_1, kdM_2, kdM_3, kdM_4, kdM_5, kdM_6, kdM_7, kdM_8, kdM_9, kdM_10, kdM_11, kdM_12, kdM_13, kdM_14, kdM_15, kdM_16, kdM_17, kdM_18, kdM_19, kdM_20, kdM_21, kdM_22, kdM_23, kdM_24, rM_0, rM_1, rM_5, rM_6, rM_7, rM_10, rM_11, rM_12, rM_13, rM_14, rM_15, rM_16, rM_18, rM_19, rM_20, rM_21, rM_23, rM_24, rM_25, rM_26, rM_28, rM_29, rM_30, rM_31, up_at, up_II, up_III, up_I, up_I2, up_L, up_L1, up_L3, up_R, up_R1, up_R2, Nat.reduceEqDiff, and_false, false_and, reduceIte, eq_self, mQ_buffer_ hb2, bz_out e]
      rfl
theorem mQ_bytesHere_ (hb : bufM h b) (n p : Nat) (hn : n < 100) (hp : p + n < 1000) : ax_wp kM (d + 1) mQ_bytesHere 0 [some (.ref 0), some (.int (nI n)), none] [] (ax_upI h 0 3 (nI p)) Q = Q (some (.int (bI (sBy b n p).1))) (ax_upI h 0 3 (nI (sBy b n p).2)) := by
  simp only [sQ_bytesHere_0, sQ_bytesHere_1, ax_clr_i, ax_clr_l, ax_clr_r, ax_clr_n, ax_ct_0, ax_ct_i, ax_ct_l, ax_ct_r, va_rf_s, Option.toList_some, Option.toList_none, List.cons_append, List.nil_append, and_true, true_and, and_self, ite_true, ite_false, if_true, if_false, Nat.reduceAdd, Nat.reduceLeDiff, Nat.reduceMul, Nat.reduceLT]
  exact mQ_bytesHere_l hb n 0 n p (by omega) hn hp
/-- behind the tag -/
theorem mQ_constant_52 (hb : bufM h b) (k p t : Nat) (hk : k < 26) (hp : p < 500) (ht : t < 256) : ax_wp kM (d + 2) mQ_constant 52 [some (.ref 0), some (.int (nI k)), some (.int (nI t)), none, none] [] (ax_upI h 0 3 (nI p)) Q =
    (if t = 1 then (if p + 1 < b.length ∧ 1 ≤ bg b (p + 1) ∧ bg b (p + 1) ≤ 10 then Q (some (.int (bI (sTx b (bg b (p + 1)) (p + 2)).1))) (ax_upI (ax_upI h 3 k (nI p)) 0 3 (nI (sTx b (bg b (p + 1)) (p + 2)).2)) else Q (some (.int (nI 0))) (ax_upI (ax_upI h 3 k (nI p)) 0 3 (nI (p + 1))))
      else Q (some (.int (bI (sBy b (if t = 7 then 1 else 2) (p + 1)).1))) (ax_upI (ax_upI h 3 k (nI p)) 0 3 (nI (sBy b (if t = 7 then 1 else 2) (p + 1)).2))) := by
  have hb1 := hb.up (r := 3) (k := k) (x := nI p) (show ¬ 3 = 1 by omega) (show ¬ 3 = 2 by omega)
  have hb2 := hb1.up (r := 0) (k := 3) (x := nI (p + 1)) (show ¬ 0 = 1 by omega) (show ¬ 0 = 2 by omega)
  have hl := hb.lt (p + 1)
  have h2 := hb.1
  simp (disch := omega) only [sQ_constant_52, sQ_constant_53, sQ_constant_56, sQ_constant_57, sQ_constant_58, sQ_constant_61, sQ_constant_62, sQ_constant_63, sQ_constant_63r, sQ_constant_64, sQ_constant_67, sQ_constant_68, sQ_constant_69, sQ_constant_72, sQ_constant_73, sQ_constant_74, sQ_constant_77, sQ_constant_78, sQ_constant_79, sQ_constant_81, sQ_constant_84, sQ_constant_85, sQ_constant_88, sQ_constant_89, sQ_constant_92, sQ_constant_93, sQ_constant_94, sQ_constant_95, sQ_constant_98, sQ_constant_101, sQ_constant_102, sQ_constant_103, sQ_constant_104, sQ_constant_107, sQ_constant_108, sQ_constant_110, sQ_constant_113, sQ_constant_114, sQ_constant_115, sQ_constant_116, sQ_constant_116r, sQ_constant_117, sQ_constant_120, sQ_constant_121, sQ_constant_122, sQ_constant_125, sQ_constant_126, ax_clr_i, ax_clr_l, ax_clr_r, ax_clr_n, ax_ct_0, ax_ct_i, ax_ct_l, ax_ct_r, va_rf_s, Option.toList_some, Option.toList_none, List.cons_append, List.nil_append, and_true, true_and, and_self, ite_true, ite_false, if_true, if_false, Nat.reduceAdd, Nat.reduceLeDiff, Nat.reduceMul, Nat.reduceLT, nI_add, pk_mul, nI_lt', nI_le', nI_eq', nI_lt0, nI_ge0, nI_eq0, nI_gt0, nI_le0, nI_ne_m1, m1_ne_nI, m1_lt_nI, m1_le_nI, nI_lt_m1, nI_le_m1, nI_clamp, ax_in_nI, nI_shl, nI_shr, lg_cmp0, nx_and, nI_eq1, bI_0, bI_1, bf_or, eq_self, or_true, true_or, kdM_0, kdM_1, kdM_2, kdM_3, kdM_4, kdM_5, kdM_6, kdM_7, kdM_8, kdM_9, kdM_10, kdM_11, kdM_12, kdM_13, kdM_14, kdM_15, kdM_16, kdM_17, kdM_18, kdM_19, kdM_20, kdM_21, kdM_22, kdM_23, kdM_24, rM_0, rM_1, rM_5, rM_6, rM_7, rM_10, rM_11, rM_12, rM_13, rM_14, rM_15, rM_16, rM_18, rM_19, rM_20, rM_21, rM_23, rM_24, rM_25, rM_26, rM_28, rM_29, rM_30, rM_31, up_at, up_II, up_III, up_I, up_I2, up_L, up_L1, up_L3, up_R, up_R1, up_R2, Nat.reduceEqDiff, and_false, false_and, reduceIte, eq_self, h2, mQ_bytesHere_ hb1, mQ_buffer_ hb2]
  by_cases e1 : t = 1
  · rw [if_pos e1, if_pos e1]
    by_cases e : p + 1 < b.length
    · rw [bz_in e]
      simp (disch := omega) only [nI_add, pk_mul, nI_lt', nI_le', nI_eq', nI_lt0, nI_ge0, nI_eq0, nI_gt0, nI_le0, nI_ne_m1, m1_ne_nI, m1_lt_nI, m1_le_nI, nI_lt_m1, nI_le_m1, nI_clamp, ax_in_nI, nI_shl, nI_shr, lg_cmp0, nx_and, nI_eq1, bI_0, bI_1, bf_or, eq_self, or_true, true_or]
      by_cases e2 : bg b (p + 1) < 1
      · rw [if_pos e2, if_neg (by omega)]; simp [hk]
      · by_cases e3 : 10 < bg b (p + 1)
        · rw [if_neg e2, if_neg (by omega), if_neg (by omega)]; simp [hk]
        · rw [if_neg e2, if_pos (by omega), if_pos (by omega)]
          have := mQ_constant_l (d := d + 1) (Q := Q) hb1 (some (.int (nI k))) (some (.int (nI t))) (bg b (p + 1)) 0 (bg b (p + 1)) (p + 2) (by omega) (by omega) (by omega)
          simp [hk, ← this]
    · rw [if_neg (show ¬ (p + 1 < b.length ∧ 1 ≤ bg b (p + 1) ∧ bg b (p + 1) ≤ 10) from fun hh => e hh.1), bz_out e]
      simp (disch := omega) only [nI_add, pk_mul, nI_lt', nI_le', nI_eq', nI_lt0, nI_ge0, nI_eq0, nI_gt0, nI_le0, nI_ne_m1, m1_ne_nI, m1_lt_nI, m1_le_nI, nI_lt_m1, nI_le_m1, nI_clamp, ax_in_nI, nI_shl, nI_shr, lg_cmp0, nx_and, nI_eq1, bI_0, bI_1, bf_or, eq_self, or_true, true_or]
      simp [hk]
  · rw [if_neg e1, if_neg e1]
    by_cases e7 : t = 7
    · simp [e7, hk]
    · simp [e7, hk]
theorem mQ_constant_ (hb : bufM h b) (k p n : Nat) (hk : k < 26) (hp : p < 500) (hn : h.1 0 4 = nI n) (hn2 : n < 25) : ax_wp kM (d + 2) mQ_constant 0 [some (.ref 0), some (.int (nI k)), none, none, none] [] (ax_upI h 0 3 (nI p)) Q =
    Q (some (.int (bI (sCo b (decide (k = n)) p).1))) (if tgOk b (decide (k = n)) p = false then ax_upI h 0 3 (nI p) else ax_upI (ax_upI h 3 k (nI p)) 0 3 (nI (sCo b (decide (k = n)) p).2)) := by
  have hb2 := hb.up (r := 0) (k := 3) (x := nI p) (show ¬ 0 = 1 by omega) (show ¬ 0 = 2 by omega)
  have hl := hb.lt p
  simp (disch := omega) only [sQ_constant_0, sQ_constant_1, sQ_constant_2, sQ_constant_5, sQ_constant_8, sQ_constant_9, sQ_constant_10, sQ_constant_11, sQ_constant_14, sQ_constant_15, sQ_constant_16, sQ_constant_19, sQ_constant_20, sQ_constant_22, sQ_constant_25, sQ_constant_26, sQ_constant_28, sQ_constant_31, sQ_constant_32, sQ_constant_34, sQ_constant_37, sQ_constant_38, sQ_constant_39, sQ_constant_42, sQ_constant_43, sQ_constant_44, sQ_constant_47, sQ_constant_50, sQ_constant_51, ax_clr_i, ax_clr_l, ax_clr_r, ax_clr_n, ax_ct_0, ax_ct_i, ax_ct_l, ax_ct_r, va_rf_s, Option.toList_some, Option.toList_none, List.cons_append, List.nil_append, and_true, true_and, and_self, ite_true, ite_false, if_true, if_false, Nat.reduceAdd, Nat.reduceLeDiff, Nat.reduceMul, Nat.reduceLT, nI_add, pk_mul, nI_lt', nI_le', nI_eq', nI_lt0, nI_ge0, nI_eq0, nI_gt0, nI_le0, nI_ne_m1, m1_ne_nI, m1_lt_nI, m1_le_nI, nI_lt_m1, nI_le_m1, nI_clamp, ax_in_nI, nI_shl, nI_shr, lg_cmp0, nx_and, nI_eq1, bI_0, bI_1, bf_or, eq_self, or_true, true_or, kdM_0, kdM_1, kdM_2, kdM_3, kdM_4, kdM_5, kdM_6, kdM_7, kdM_8, kdM_9, kdM_10, kdM_11, kdM_12, kdM_13, kdM_14, kdM_15, kdM_16, kdM_17, kdM_18, kdM_19, kdM_20, kdM_21, kdM_22, kdM_23, kdM_24, rM_0, rM_1, rM_5, rM_6, rM_7, rM_10, rM_11, rM_12, rM_13, rM_14, rM_15, rM_16, rM_18, rM_19, rM_20, rM_21, rM_23, rM_24, rM_25, rM_26, rM_28, rM_29, rM_30, rM_31, up_at, up_II, up_III, up_I, up_I2, up_L, up_L1, up_L3, up_R, up_R1, up_R2, Nat.reduceEqDiff, and_false, false_and, reduceIte, eq_self, mQ_buffer_ hb2, hn]
  by_cases e : p < b.length
  · rw [bz_in e]
    unfold sCo tgOk isTg
    generalize bg b p = t at hl
    have n13 : ¬ nI 1 = nI 3 := by decide
    have n31 : ¬ nI 3 = nI 1 := by decide
    have n71 : ¬ nI 7 = nI 1 := by decide
    have n73 : ¬ nI 7 = nI 3 := by decide
    have n91 : ¬ nI 9 = nI 1 := by decide
    have n93 : ¬ nI 9 = nI 3 := by decide
    have n97 : ¬ nI 9 = nI 7 := by decide
    have m1 : ¬ nI 10 = nI 1 := by decide
    have m3 : ¬ nI 10 = nI 3 := by decide
    have m7 : ¬ nI 10 = nI 7 := by decide
    have m9 : ¬ nI 10 = nI 9 := by decide
    by_cases a1 : t = 1
    · subst a1
      rw [if_pos rfl, if_neg n13, mQ_constant_52 hb k p 1 hk hp (by omega)]
      simp [e]
      split <;> simp [bI]
    · by_cases a3 : t = 3
      · subst a3
        rw [if_neg n31, if_pos rfl, if_pos rfl]
        by_cases ak : k = n
        · simp [ak, bI]
        · rw [if_neg ak, mQ_constant_52 hb k p 3 hk hp (by omega)]
          simp [e, ak]
      · by_cases a7 : t = 7
        · subst a7
          rw [if_neg n71, if_neg n73, if_pos rfl, if_neg n73, mQ_constant_52 hb k p 7 hk hp (by omega)]
          simp [e]
        · by_cases a9 : t = 9
          · subst a9
            rw [if_neg n91, if_neg n93, if_neg n97, if_pos rfl, if_neg n93, mQ_constant_52 hb k p 9 hk hp (by omega)]
            simp [e]
          · by_cases a10 : t = 10
            · subst a10
              rw [if_neg m1, if_neg m3, if_neg m7, if_neg m9, if_pos rfl, if_neg m3, mQ_constant_52 hb k p 10 hk hp (by omega)]
              simp [e]
            · rw [if_neg (fun hh => a1 ((nI_eq (by omega) (by omega)).mp hh)), if_neg (fun hh => a3 ((nI_eq (by omega) (by omega)).mp hh)), if_neg (fun hh => a7 ((nI_eq (by omega) (by omega)).mp hh)), if_neg (fun hh => a9 ((nI_eq (by omega) (by omega)).mp hh)), if_neg (fun hh => a10 ((nI_eq (by omega) (by omega)).mp hh))]
              simp [a1, a3, a7, a9, a10, bI]
  · have e2 : tgOk b (decide (k = n)) p = false := by simp [tgOk, e]
    rw [bz_out e, if_pos e2]
    simp (disch := omega) only [nI_add, pk_mul, nI_lt', nI_le', nI_eq', nI_lt0, nI_ge0, nI_eq0, nI_gt0, nI_le0, nI_ne_m1, m1_ne_nI, m1_lt_nI, m1_le_nI, nI_lt_m1, nI_le_m1, nI_clamp, ax_in_nI, nI_shl, nI_shr, lg_cmp0, nx_and, nI_eq1, bI_0, bI_1, bf_or, eq_self, or_true, true_or]
    simp [sCo, e2, bI]
end MR2
