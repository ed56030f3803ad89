/-! the model: a switch, code -/
def sPd (b : List Nat) (start lim : Nat) : Nat → Nat → Bool × Nat
  | 0, p => (true, p)
  | m + 1, p => if (p - start) % 4 = 0 then (true, p) else if (tk b lim p (fun k => decide (k ≤ 0))).1 = true then sPd b start lim m (p + 1) else (false, p)
def sTn (b : List Nat) (start lim p : Nat) : Bool × Nat :=
  if (sPd b start lim 4 p).1 = true then
    (if (tk b lim (sPd b start lim 4 p).2 (fun k => decide (k ≤ 4))).1 = true then sNm b lim (fun k => decide (k ≤ lim - start - 1)) (bg b (sPd b start lim 4 p).2) ((sPd b start lim 4 p).2 + 1) else (false, (sPd b start lim 4 p).2))
  else (false, (sPd b start lim 4 p).2)
theorem sPd_le (b : List Nat) (start lim : Nat) : ∀ (m p : Nat), p ≤ (sPd b start lim m p).2 ∧ (sPd b start lim m p).2 ≤ p + m
  | 0, p => ⟨Nat.le_refl _, Nat.le_refl _⟩
  | m + 1, p => by
    rw [sPd]
    have ih := sPd_le b start lim m (p + 1)
    (repeat' split) <;> first | omega | (dsimp only; omega)
section MD
variable {d : Nat} {h : ax_H} {b : List Nat} {n : Nat} {off : Nat → Nat} {Q : Option Value → ax_H → Prop}
theorem mQ_turn_s (hb : bufM h b) (start lim : Nat) (hl : lim < 900) (hsl : start < lim) : ∀ (m i N p : Nat), i + m = N → N < 300 → p + m < 900 → ax_wp kM (d + 2) mQ_turn 58 [some (.ref 0), some (.int (nI start)), some (.int (nI lim)), some (.int (nI N)), some (.int (nI i))] [] (ax_upI h 0 3 (nI p)) Q = Q (some (.int (bI (sNm b lim (fun k => decide (k ≤ lim - start - 1)) m p).1))) (ax_upI h 0 3 (nI (sNm b lim (fun k => decide (k ≤ lim - start - 1)) m p).2))
  | 0, i, N, p, hi, hN, hp => by
    rw [sQ_turn_58]
    simp (disch := omega) only [sQ_turn_60, sQ_turn_61, sQ_turn_64, sQ_turn_65, sQ_turn_66, sQ_turn_67, sQ_turn_68, sQ_turn_69, sQ_turn_70, sQ_turn_71, sQ_turn_74, sQ_turn_77, sQ_turn_78, sQ_turn_79, sQ_turn_82, sQ_turn_85, sQ_turn_86, ax_clr_i, ax_clr_l, ax_clr_r, ax_clr_n, ax_ct_0, ax_ct_i, ax_ct_l, ax_ct_r, va_rf_s, Option.toList_some, Option.toList_none, List.cons_append, List.nil_append, and_true, true_and, and_self, ite_true, ite_false, if_true, if_false, Nat.reduceAdd, Nat.reduceLeDiff, Nat.reduceMul, Nat.reduceLT, nI_add, pk_mul, nI_lt', nI_le', nI_eq', nI_lt0, nI_ge0, nI_eq0, nI_gt0, nI_le0, nI_ne_m1, m1_ne_nI, m1_lt_nI, m1_le_nI, nI_lt_m1, nI_le_m1, nI_clamp, ax_in_nI, nI_shl, nI_shr, lg_cmp0, nx_and, nI_eq1, bI_0, bI_1, bf_or, eq_self, or_true, true_or, lt_T, le_T, lt_F, le_F, eq_F, eq_T]
    rfl
  | m + 1, i, N, p, hi, hN, hp => by
    rw [sQ_turn_58]
    simp (disch := omega) only [sQ_turn_60, sQ_turn_61, sQ_turn_64, sQ_turn_65, sQ_turn_66, sQ_turn_67, sQ_turn_68, sQ_turn_69, sQ_turn_70, sQ_turn_71, sQ_turn_74, sQ_turn_77, sQ_turn_78, sQ_turn_79, sQ_turn_82, sQ_turn_85, sQ_turn_86, ax_clr_i, ax_clr_l, ax_clr_r, ax_clr_n, ax_ct_0, ax_ct_i, ax_ct_l, ax_ct_r, va_rf_s, Option.toList_some, Option.toList_none, List.cons_append, List.nil_append, and_true, true_and, and_self, ite_true, ite_false, if_true, if_false, Nat.reduceAdd, Nat.reduceLeDiff, Nat.reduceMul, Nat.reduceLT, nI_add, pk_mul, nI_lt', nI_le', nI_eq', nI_lt0, nI_ge0, nI_eq0, nI_gt0, nI_le0, nI_ne_m1, m1_ne_nI, m1_lt_nI, m1_le_nI, nI_lt_m1, nI_le_m1, nI_clamp, ax_in_nI, nI_shl, nI_shr, lg_cmp0, nx_and, nI_eq1, bI_0, bI_1, bf_or, eq_self, or_true, true_or, lt_T, le_T, lt_F, le_F, eq_F, eq_T, kdM_0, kdM_1, kdM_2, kdM_3, kdM_4, kdM_5, kdM_6, kdM_7, kdM_8, kdM_9, kdM_10, kdM_11, kdM_12, kdM_13, kdM_14, kdM_15, kdM_16, kdM_17, kdM_18, kdM_19, kdM_20, kdM_21, kdM_22, kdM_23, kdM_24, rM_0, rM_1, rM_5, rM_6, rM_7, rM_10, rM_11, rM_12, rM_13, rM_14, rM_15, rM_16, rM_18, rM_19, rM_20, rM_21, rM_23, rM_24, rM_25, rM_26, rM_28, rM_29, rM_30, rM_31, pk_sub, mQ_upTo_ hb]
    rw [sNm]
    by_cases e : (tk b lim p (fun k => decide (k ≤ lim - start - 1))).1 = true
    · obtain ⟨a1, a2, a3, a4⟩ := tk_t e
      rw [a4, mQ_turn_s hb start lim hl hsl m (i + 1) N (p + 1) (by omega) hN (by omega)]
      simp [e]
    · rw [tk_f e]
      simp [e, bI]
theorem mQ_turn_35 (hb : bufM h b) (start lim p : Nat) (hl : lim < 900) (hsl : start < lim) (hp : p < 500) (x3 x4 : Option Value) : ax_wp kM (d + 2) mQ_turn 35 [some (.ref 0), some (.int (nI start)), some (.int (nI lim)), x3, x4] [] (ax_upI h 0 3 (nI p)) Q =
    (if (tk b lim p (fun k => decide (k ≤ 4))).1 = true then Q (some (.int (bI (sNm b lim (fun k => decide (k ≤ lim - start - 1)) (bg b p) (p + 1)).1))) (ax_upI h 0 3 (nI (sNm b lim (fun k => decide (k ≤ lim - start - 1)) (bg b p) (p + 1)).2)) else Q (some (.int (nI 0))) (ax_upI h 0 3 (nI p))) := by
  have hlt := hb.lt p
  have hb2 := hb.fr (frM.at (x := nI p))
  simp (disch := omega) only [sQ_turn_35, sQ_turn_36, sQ_turn_37, sQ_turn_40, sQ_turn_43, sQ_turn_44, sQ_turn_45, sQ_turn_46, sQ_turn_47, sQ_turn_50, sQ_turn_53, sQ_turn_54, sQ_turn_55, sQ_turn_56, ax_clr_i, ax_clr_l, ax_clr_r, ax_clr_n, ax_ct_0, ax_ct_i, ax_ct_l, ax_ct_r, va_rf_s, Option.toList_some, Option.toList_none, List.cons_append, List.nil_append, and_true, true_and, and_self, ite_true, ite_false, if_true, if_false, Nat.reduceAdd, Nat.reduceLeDiff, Nat.reduceMul, Nat.reduceLT, nI_add, pk_mul, nI_lt', nI_le', nI_eq', nI_lt0, nI_ge0, nI_eq0, nI_gt0, nI_le0, nI_ne_m1, m1_ne_nI, m1_lt_nI, m1_le_nI, nI_lt_m1, nI_le_m1, nI_clamp, ax_in_nI, nI_shl, nI_shr, lg_cmp0, nx_and, nI_eq1, bI_0, bI_1, bf_or, eq_self, or_true, true_or, lt_T, le_T, lt_F, le_F, eq_F, eq_T, kdM_0, kdM_1, kdM_2, kdM_3, kdM_4, kdM_5, kdM_6, kdM_7, kdM_8, kdM_9, kdM_10, kdM_11, kdM_12, kdM_13, kdM_14, kdM_15, kdM_16, kdM_17, kdM_18, kdM_19, kdM_20, kdM_21, kdM_22, kdM_23, kdM_24, rM_0, rM_1, rM_5, rM_6, rM_7, rM_10, rM_11, rM_12, rM_13, rM_14, rM_15, rM_16, rM_18, rM_19, rM_20, rM_21, rM_23, rM_24, rM_25, rM_26, rM_28, rM_29, rM_30, rM_31, up_at, up_II, up_III, up_I, up_I2, up_L, up_L1, up_L3, up_R, up_R1, up_R2, Nat.reduceEqDiff, and_false, false_and, reduceIte, eq_self, mQ_buffer_ hb2, mQ_upTo_ hb]
  by_cases e : (tk b lim p (fun k => decide (k ≤ 4))).1 = true
  · obtain ⟨a1, a2, a3, a4⟩ := tk_t e
    rw [bz_in a2, a4, mQ_turn_s hb start lim hl hsl (bg b p) 0 (bg b p) (p + 1) (by omega) (by omega) (by omega)]
    simp [e]
  · rw [tk_f e]
    simp [e]
def sTm (b : List Nat) (start lim : Nat) (r : Bool × Nat) : Bool × Nat :=
  if r.1 = true then (if (tk b lim r.2 (fun k => decide (k ≤ 4))).1 = true then sNm b lim (fun k => decide (k ≤ lim - start - 1)) (bg b r.2) (r.2 + 1) else (false, r.2)) else (false, r.2)
theorem mQ_turn_p (hb : bufM h b) (start lim : Nat) (hl : lim < 900) (hsl : start < lim) (x4 : Option Value) : ∀ (m k p : Nat), k + m = 4 → start ≤ p → p + m < 500 → ax_wp kM (d + 2) mQ_turn 2 [some (.ref 0), some (.int (nI start)), some (.int (nI lim)), some (.int (nI k)), x4] [] (ax_upI h 0 3 (nI p)) Q =
    Q (some (.int (bI (sTm b start lim (sPd b start lim m p)).1))) (ax_upI h 0 3 (nI (sTm b start lim (sPd b start lim m p)).2))
  | 0, k, p, hk, hs, hp => by
    rw [sQ_turn_2]
    simp (disch := omega) only [sQ_turn_3, sQ_turn_4, sQ_turn_7, sQ_turn_8, sQ_turn_11, sQ_turn_12, sQ_turn_13, sQ_turn_14, sQ_turn_15, sQ_turn_18, sQ_turn_19, sQ_turn_20, sQ_turn_21, sQ_turn_24, sQ_turn_27, sQ_turn_28, sQ_turn_29, sQ_turn_32, ax_clr_i, ax_clr_l, ax_clr_r, ax_clr_n, ax_ct_0, ax_ct_i, ax_ct_l, ax_ct_r, va_rf_s, Option.toList_some, Option.toList_none, List.cons_append, List.nil_append, and_true, true_and, and_self, ite_true, ite_false, if_true, if_false, Nat.reduceAdd, Nat.reduceLeDiff, Nat.reduceMul, Nat.reduceLT, nI_add, pk_mul, nI_lt', nI_le', nI_eq', nI_lt0, nI_ge0, nI_eq0, nI_gt0, nI_le0, nI_ne_m1, m1_ne_nI, m1_lt_nI, m1_le_nI, nI_lt_m1, nI_le_m1, nI_clamp, ax_in_nI, nI_shl, nI_shr, lg_cmp0, nx_and, nI_eq1, bI_0, bI_1, bf_or, eq_self, or_true, true_or, lt_T, le_T, lt_F, le_F, eq_F, eq_T]
    rw [mQ_turn_35 hb start lim p hl hsl (by omega)]
    simp only [sPd, sTm, if_true]
    by_cases e : (tk b lim p (fun k => decide (k ≤ 4))).1 = true <;> simp [e, bI]
  | m + 1, k, p, hk, hs, hp => by
    have n4 : (nI 4 = 0) = False := by rw [nI_eq0 (by omega)]; simp
    rw [sQ_turn_2]
    simp (disch := omega) only [sQ_turn_3, sQ_turn_4, sQ_turn_7, sQ_turn_8, sQ_turn_11, sQ_turn_12, sQ_turn_13, sQ_turn_14, sQ_turn_15, sQ_turn_18, sQ_turn_19, sQ_turn_20, sQ_turn_21, sQ_turn_24, sQ_turn_27, sQ_turn_28, sQ_turn_29, sQ_turn_32, ax_clr_i, ax_clr_l, ax_clr_r, ax_clr_n, ax_ct_0, ax_ct_i, ax_ct_l, ax_ct_r, va_rf_s, Option.toList_some, Option.toList_none, List.cons_append, List.nil_append, and_true, true_and, and_self, ite_true, ite_false, if_true, if_false, Nat.reduceAdd, Nat.reduceLeDiff, Nat.reduceMul, Nat.reduceLT, nI_add, pk_mul, nI_lt', nI_le', nI_eq', nI_lt0, nI_ge0, nI_eq0, nI_gt0, nI_le0, nI_ne_m1, m1_ne_nI, m1_lt_nI, m1_le_nI, nI_lt_m1, nI_le_m1, nI_clamp, ax_in_nI, nI_shl, nI_shr, lg_cmp0, nx_and, nI_eq1, bI_0, bI_1, bf_or, eq_self, or_true, true_or, lt_T, le_T, lt_F, le_F, kdM_0, kdM_1, kdM_2, kdM_3, kdM_4, kdM_5, kdM_6, kdM_7, kdM_8, kdM_9, kdM_10, kdM_11, kdM_12, kdM_13, kdM_14, kdM_15, kdM_16, kdM_17, kdM_18, kdM_19, kdM_20, kdM_21, kdM_22, kdM_23, kdM_24, rM_0, rM_1, rM_5, rM_6, rM_7, rM_10, rM_11, rM_12, rM_13, rM_14, rM_15, rM_16, rM_18, rM_19, rM_20, rM_21, rM_23, rM_24, rM_25, rM_26, rM_28, rM_29, rM_30, rM_31, up_at, up_II, up_III, up_I, up_I2, up_L, up_L1, up_L3, up_R, up_R1, up_R2, Nat.reduceEqDiff, and_false, false_and, reduceIte, eq_self, pk_sub, pk_rem, n4, not_false_eq_true, mQ_upTo_ hb]
    rw [sPd]
    by_cases e0 : (p - start) % 4 = 0
    · rw [if_pos e0, if_pos e0, mQ_turn_35 hb start lim p hl hsl (by omega)]
      simp only [sTm, if_true]
      split <;> rfl
    · rw [if_neg e0, if_neg e0]
      by_cases e : (tk b lim p (fun k => decide (k ≤ 0))).1 = true
      · obtain ⟨a1, a2, a3, a4⟩ := tk_t e
        rw [if_pos e, a4, mQ_turn_p hb start lim hl hsl x4 m (k + 1) (p + 1) (by omega) (by omega) (by omega)]
        rw [if_neg (by rw [e]; decide)]
      · rw [if_neg e, tk_f e, if_pos (bI_c e)]
        rfl
theorem mQ_turn_ (hb : bufM h b) (start lim p : Nat) (hl : lim < 900) (hsl : start < lim) (hs : start ≤ p) (hp : p < 400) : ax_wp kM (d + 2) mQ_turn 0 [some (.ref 0), some (.int (nI start)), some (.int (nI lim)), none, none] [] (ax_upI h 0 3 (nI p)) Q = Q (some (.int (bI (sTn b start lim p).1))) (ax_upI h 0 3 (nI (sTn b start lim p).2)) := by
  simp only [sQ_turn_0, sQ_turn_1, ax_clr_i, ax_clr_l, ax_clr_r, ax_clr_n, ax_ct_0, ax_ct_i, ax_ct_l, ax_ct_r, va_rf_s, Option.toList_some, Option.toList_none, List.cons_append, List.nil_append, and_true, true_and, and_self, ite_true, ite_false, if_true, if_false, Nat.reduceAdd, Nat.reduceLeDiff, Nat.reduceMul, Nat.reduceLT]
  exact mQ_turn_p hb start lim hl hsl none 4 0 p (by omega) hs (by omega)
/-- one instruction at p -/
def sIn (b : List Nat) (n : Nat) (off : Nat → Nat) (start lim p : Nat) : Bool × Nat :=
  if p < b.length then
    (if bg b p = 0 then (true, p + 1) else if bg b p = 16 ∨ bg b p = 25 then tk b lim (p + 1) (fun k => decide (k ≤ 255))
     else if bg b p = 170 then sTn b start lim (p + 1) else if bg b p = 196 then sWd b n off lim (p + 1)
     else if 0 < opd (bg b p) then tk b lim (p + 1) (fun k => ftN b n off k (opd (bg b p))) else (false, p))
  else (false, p)
def sCd (b : List Nat) (n : Nat) (off : Nat → Nat) (start lim : Nat) : Nat → Nat → Bool × Nat
  | 0, p => (true, p)
  | m + 1, p => if p < lim then (if (sIn b n off start lim p).1 = true then sCd b n off start lim m (sIn b n off start lim p).2 else (false, (sIn b n off start lim p).2)) else (true, p)
theorem sNm_le (b : List Nat) (lim : Nat) (f : Nat → Bool) : ∀ (m p : Nat), p ≤ (sNm b lim f m p).2 ∧ (p ≤ lim → (sNm b lim f m p).2 ≤ lim)
  | 0, p => ⟨Nat.le_refl _, fun h => h⟩
  | m + 1, p => by
    rw [sNm]
    by_cases e : (tk b lim p f).1 = true
    · obtain ⟨a1, a2, a3, a4⟩ := tk_t e
      rw [if_pos e, a4]
      have ih := sNm_le b lim f m (p + 1)
      exact ⟨by omega, fun _ => ih.2 (by omega)⟩
    · rw [if_neg e, tk_f e]
      exact ⟨Nat.le_refl _, fun h => h⟩
theorem sPd_lim (b : List Nat) (start lim : Nat) : ∀ (m p : Nat), p ≤ lim → (sPd b start lim m p).2 ≤ lim
  | 0, p, h => h
  | m + 1, p, h => by
    rw [sPd]
    by_cases e0 : (p - start) % 4 = 0
    · rw [if_pos e0]; exact h
    · rw [if_neg e0]
      by_cases e : (tk b lim p (fun k => decide (k ≤ 0))).1 = true
      · obtain ⟨a1, a2, a3, a4⟩ := tk_t e
        rw [if_pos e]; exact sPd_lim b start lim m (p + 1) (by omega)
      · rw [if_neg e]; exact h
theorem tk_le {b : List Nat} {lim p : Nat} {f : Nat → Bool} (hp : p ≤ lim) : p ≤ (tk b lim p f).2 ∧ (tk b lim p f).2 ≤ lim := by
  by_cases e : (tk b lim p f).1 = true
  · obtain ⟨a1, a2, a3, a4⟩ := tk_t e; omega
  · rw [tk_f e]; omega
theorem sTn_le {b : List Nat} {start lim p : Nat} (hp : p ≤ lim) : p ≤ (sTn b start lim p).2 ∧ (sTn b start lim p).2 ≤ lim := by
  have h1 := sPd_le b start lim 4 p
  have h2 := sPd_lim b start lim 4 p hp
  unfold sTn
  by_cases e1 : (sPd b start lim 4 p).1 = true
  · rw [if_pos e1]
    by_cases e2 : (tk b lim (sPd b start lim 4 p).2 (fun k => decide (k ≤ 4))).1 = true
    · obtain ⟨a1, a2, a3, a4⟩ := tk_t e2
      rw [if_pos e2]
      have h3 := sNm_le b lim (fun k => decide (k ≤ lim - start - 1)) (bg b (sPd b start lim 4 p).2) ((sPd b start lim 4 p).2 + 1)
      exact ⟨by omega, h3.2 (by omega)⟩
    · rw [if_neg e2]; exact ⟨h1.1, h2⟩
  · rw [if_neg e1]; exact ⟨h1.1, h2⟩
theorem sWd_le {b : List Nat} {n : Nat} {off : Nat → Nat} {lim p : Nat} (hp : p ≤ lim) : p ≤ (sWd b n off lim p).2 ∧ (sWd b n off lim p).2 ≤ lim := by
  unfold sWd
  by_cases e1 : p < lim ∧ p < b.length ∧ (bg b p = 180 ∨ bg b p = 181 ∨ bg b p = 182 ∨ bg b p = 187)
  · rw [if_pos e1]
    by_cases e2 : p + 1 < lim ∧ p + 1 < b.length
    · rw [if_pos e2]
      by_cases e3 : p + 2 < lim ∧ p + 2 < b.length ∧ ftN b n off (256 * bg b (p + 1) + bg b (p + 2)) (opd (bg b p)) = true
      · rw [if_pos e3]; dsimp only; omega
      · rw [if_neg e3]; dsimp only; omega
    · rw [if_neg e2]; dsimp only; omega
  · rw [if_neg e1]; dsimp only; omega
/-- an instruction goes on, and not past the limit -/
theorem sIn_le {b : List Nat} {n : Nat} {off : Nat → Nat} {start lim p : Nat} (hp : p < lim) : (sIn b n off start lim p).2 ≤ lim ∧ ((sIn b n off start lim p).1 = true → p < (sIn b n off start lim p).2) := by
  unfold sIn
  by_cases e0 : p < b.length
  · rw [if_pos e0]
    have t1 := tk_le (b := b) (lim := lim) (p := p + 1) (f := fun k => decide (k ≤ 255)) (by omega)
    have t2 := sTn_le (b := b) (start := start) (lim := lim) (p := p + 1) (by omega)
    have t3 := sWd_le (b := b) (n := n) (off := off) (lim := lim) (p := p + 1) (by omega)
    have t4 := tk_le (b := b) (lim := lim) (p := p + 1) (f := fun k => ftN b n off k (opd (bg b p))) (by omega)
    (repeat' split) <;> first | (exact ⟨by omega, fun _ => by omega⟩) | (exact ⟨by dsimp only; omega, fun _ => by dsimp only; omega⟩) | (exact ⟨by dsimp only; omega, fun h => by cases h⟩)
  · rw [if_neg e0]
    exact ⟨by dsimp only; omega, fun h => by cases h⟩
end MD
