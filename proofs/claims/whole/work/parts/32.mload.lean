/-! the model: the rest of a unit, the numbers in constants -/
def sMs (b : List Nat) (n : Nat) (off : Nat → Nat) : Nat → Nat → Bool × Nat
  | 0, p => (true, p)
  | m + 1, p => if (sMt b n off p).1 = true then sMs b n off m (sMt b n off p).2 else (false, (sMt b n off p).2)
/-- behind the class's own number: SUPER, interfaces, fields, methods, and nothing else -/
def sR4 (b : List Nat) (n : Nat) (off : Nat → Nat) (p : Nat) : Bool × Nat :=
  if (tk b 120 p (fun k => decide (k ≤ 4))).1 = true then
    (if (sMs b n off (bg b p) (p + 1)).1 = true then (decide ((sMs b n off (bg b p) (p + 1)).2 = b.length), (sMs b n off (bg b p) (p + 1)).2) else (false, (sMs b n off (bg b p) (p + 1)).2))
  else (false, p)
def sR3 (b : List Nat) (n : Nat) (off : Nat → Nat) (p : Nat) : Bool × Nat :=
  if (sSv b 4 (fun k => ftN b n off k 20) p).1 = true then sR4 b n off (sSv b 4 (fun k => ftN b n off k 20) p).2 else (false, (sSv b 4 (fun k => ftN b n off k 20) p).2)
def sR2 (b : List Nat) (n : Nat) (off : Nat → Nat) (p : Nat) : Bool × Nat :=
  if (sSv b 3 (fun k => ftN b n off k 7) p).1 = true then sR3 b n off (sSv b 3 (fun k => ftN b n off k 7) p).2 else (false, (sSv b 3 (fun k => ftN b n off k 7) p).2)
def sRs (b : List Nat) (n : Nat) (off : Nat → Nat) (p : Nat) : Bool × Nat :=
  if p < b.length ∧ bg b p = 0 then sR2 b n off (p + 1) else if (tk b 120 p (fun k => ftN b n off k 7)).1 = true then sR2 b n off (p + 1) else (false, p)
theorem sNm_len (b : List Nat) (lim : Nat) (f : Nat → Bool) : ∀ (m p : Nat), p ≤ b.length → (sNm b lim f m p).1 = true → (sNm b lim f m p).2 = p + m ∧ p + m ≤ b.length ∧ ∀ i, i < m → f (bg b (p + i)) = true
  | 0, p, hp, _ => ⟨rfl, hp, fun i hi => absurd hi (by omega)⟩
  | m + 1, p, hp, h => by
    rw [sNm] at h ⊢
    by_cases e : (tk b lim p f).1 = true
    · obtain ⟨a1, a2, a3, a4⟩ := tk_t e
      rw [if_pos e, a4] at h ⊢
      obtain ⟨c1, c2, c3⟩ := sNm_len b lim f m (p + 1) (by omega) h
      refine ⟨by omega, by omega, fun i hi => ?_⟩
      cases i with
      | zero => exact a3
      | succ i => have := c3 i (by omega); rwa [show p + 1 + i = p + (i + 1) by omega] at this
    · rw [if_neg e] at h; cases h
theorem sPd_len (b : List Nat) (start lim : Nat) : ∀ (m p : Nat), p ≤ b.length → (sPd b start lim m p).1 = true → (sPd b start lim m p).2 ≤ b.length
  | 0, p, hp, _ => hp
  | m + 1, p, hp, h => by
    rw [sPd] at h ⊢
    by_cases e0 : (p - start) % 4 = 0
    · rw [if_pos e0]; exact hp
    · rw [if_neg e0] at h ⊢
      by_cases e : (tk b lim p (fun k => decide (k ≤ 0))).1 = true
      · obtain ⟨a1, a2, a3, a4⟩ := tk_t e
        rw [if_pos e] at h ⊢; exact sPd_len b start lim m (p + 1) (by omega) h
      · rw [if_neg e] at h; cases h
theorem sTn_len {b : List Nat} {start lim p : Nat} (hp : p ≤ b.length) (h : (sTn b start lim p).1 = true) : (sTn b start lim p).2 ≤ b.length := by
  unfold sTn at h ⊢
  by_cases e1 : (sPd b start lim 4 p).1 = true
  · rw [if_pos e1] at h ⊢
    by_cases e2 : (tk b lim (sPd b start lim 4 p).2 (fun k => decide (k ≤ 4))).1 = true
    · obtain ⟨a1, a2, a3, a4⟩ := tk_t e2
      rw [if_pos e2] at h ⊢
      have := sNm_len b lim _ _ _ (by omega) h
      omega
    · rw [if_neg e2] at h; cases h
  · rw [if_neg e1] at h; cases h
theorem sWd_len {b : List Nat} {n : Nat} {off : Nat → Nat} {lim p : Nat} (h : (sWd b n off lim p).1 = true) : (sWd b n off lim p).2 = p + 3 ∧ p + 3 ≤ b.length := by
  unfold sWd at h ⊢
  by_cases e1 : p < lim ∧ p < b.length ∧ (bg b p = 180 ∨ bg b p = 181 ∨ bg b p = 182 ∨ bg b p = 187)
  · rw [if_pos e1] at h ⊢
    by_cases e2 : p + 1 < lim ∧ p + 1 < b.length
    · rw [if_pos e2] at h ⊢
      by_cases e3 : p + 2 < lim ∧ p + 2 < b.length ∧ ftN b n off (256 * bg b (p + 1) + bg b (p + 2)) (opd (bg b p)) = true
      · rw [if_pos e3]; exact ⟨rfl, by omega⟩
      · rw [if_neg e3] at h; cases h
    · rw [if_neg e2] at h; cases h
  · rw [if_neg e1] at h; cases h
theorem sIn_len {b : List Nat} {n : Nat} {off : Nat → Nat} {start lim p : Nat} (h : (sIn b n off start lim p).1 = true) : (sIn b n off start lim p).2 ≤ b.length := by
  unfold sIn at h ⊢
  by_cases e0 : p < b.length
  · rw [if_pos e0] at h ⊢
    by_cases a0 : bg b p = 0
    · rw [if_pos a0]; dsimp only; omega
    · rw [if_neg a0] at h ⊢
      by_cases a1 : bg b p = 16 ∨ bg b p = 25
      · rw [if_pos a1] at h ⊢; have := tk_t h; omega
      · rw [if_neg a1] at h ⊢
        by_cases a2 : bg b p = 170
        · rw [if_pos a2] at h ⊢; exact sTn_len (by omega) h
        · rw [if_neg a2] at h ⊢
          by_cases a3 : bg b p = 196
          · rw [if_pos a3] at h ⊢; have := sWd_len h; omega
          · rw [if_neg a3] at h ⊢
            by_cases a4 : 0 < opd (bg b p)
            · rw [if_pos a4] at h ⊢; have := tk_t h; omega
            · rw [if_neg a4] at h; cases h
  · rw [if_neg e0] at h; cases h
theorem sCd_len (b : List Nat) (n : Nat) (off : Nat → Nat) (start lim : Nat) : ∀ (m p : Nat), p ≤ b.length → (sCd b n off start lim m p).1 = true → (sCd b n off start lim m p).2 ≤ b.length
  | 0, p, hp, _ => hp
  | m + 1, p, hp, h => by
    rw [sCd] at h ⊢
    by_cases e : p < lim
    · rw [if_pos e] at h ⊢
      by_cases e1 : (sIn b n off start lim p).1 = true
      · rw [if_pos e1] at h ⊢
        exact sCd_len b n off start lim m _ (sIn_len e1) h
      · rw [if_neg e1] at h; cases h
    · rw [if_neg e]; exact hp
theorem sCd_end (b : List Nat) (n : Nat) (off : Nat → Nat) (start lim : Nat) : ∀ (m p : Nat), p ≤ lim → lim ≤ p + m → (sCd b n off start lim m p).1 = true → (sCd b n off start lim m p).2 = lim
  | 0, p, hp, hm, _ => by show p = lim; omega
  | m + 1, p, hp, hm, h => by
    rw [sCd] at h ⊢
    by_cases e : p < lim
    · have hle := sIn_le (b := b) (n := n) (off := off) (start := start) e
      rw [if_pos e] at h ⊢
      by_cases e1 : (sIn b n off start lim p).1 = true
      · have h2 := hle.2 e1
        rw [if_pos e1] at h ⊢
        exact sCd_end b n off start lim m _ hle.1 (by omega) h
      · rw [if_neg e1] at h; cases h
    · rw [if_neg e]; show p = lim; omega
theorem sMt_len {b : List Nat} {n : Nat} {off : Nat → Nat} {p : Nat} (h : (sMt b n off p).1 = true) : (sMt b n off p).2 = p + 3 + bg b (p + 2) ∧ p + 3 + bg b (p + 2) ≤ b.length ∧ ftN b n off (bg b p) 20 = true ∧ bg b (p + 2) ≤ 24 ∧ (sCd b n off (p + 3) (p + 3 + bg b (p + 2)) (bg b (p + 2)) (p + 3)).1 = true := by
  unfold sMt at h ⊢
  by_cases e1 : (tk b 120 p (fun k => ftN b n off k 20)).1 = true
  · have k1 := tk_t e1
    rw [if_pos e1] at h ⊢
    by_cases e2 : (tk b 120 (p + 1) (fun k => decide (k ≤ 255))).1 = true
    · rw [if_pos e2] at h ⊢
      by_cases e3 : (tk b 120 (p + 2) (fun k => decide (k ≤ 24))).1 = true
      · have k3 := tk_t e3
        rw [if_pos e3] at h ⊢
        have h1 := sCd_len b n off _ _ _ _ (by omega) h
        have h2 := sCd_end b n off _ _ _ _ (by omega) (by omega) h
        exact ⟨h2, by omega, k1.2.2.1, by simpa using k3.2.2.1, h⟩
      · rw [if_neg e3] at h; cases h
    · rw [if_neg e2] at h; cases h
  · rw [if_neg e1] at h; cases h
theorem sMs_len (b : List Nat) (n : Nat) (off : Nat → Nat) : ∀ (m p : Nat), p ≤ b.length → (sMs b n off m p).1 = true → (sMs b n off m p).2 ≤ b.length
  | 0, p, hp, _ => hp
  | m + 1, p, hp, h => by
    rw [sMs] at h ⊢
    by_cases e : (sMt b n off p).1 = true
    · rw [if_pos e] at h ⊢
      have k := sMt_len e
      exact sMs_len b n off m _ (by omega) h
    · rw [if_neg e] at h; cases h
theorem sSv_len {b : List Nat} {mo : Nat} {f : Nat → Bool} {p : Nat} (h : (sSv b mo f p).1 = true) : (sSv b mo f p).2 = p + 1 + bg b p ∧ p + 1 + bg b p ≤ b.length ∧ bg b p ≤ mo ∧ ∀ i, i < bg b p → f (bg b (p + 1 + i)) = true := by
  unfold sSv at h ⊢
  by_cases e : (tk b 120 p (fun k => decide (k ≤ mo))).1 = true
  · have k := tk_t e
    rw [if_pos e] at h ⊢
    obtain ⟨a, c, g⟩ := sNm_len b 120 f _ _ (by omega) h
    exact ⟨a, c, by simpa using k.2.2.1, g⟩
  · rw [if_neg e] at h; cases h
section MG
variable {d : Nat} {h : ax_H} {b : List Nat} {n : Nat} {off : Nat → Nat} {Q : Option Value → ax_H → Prop}
theorem mQ_rest_l (hb : bufM h b) (hw : cW b n off) (hc : cT h n off) (x1 x2 : Option Value) : ∀ (m i N p : Nat), i + m = N → N < 300 → p ≤ b.length → ax_wp kM (d + 7) mQ_rest 109 [some (.ref 0), x1, x2, some (.int (nI N)), some (.int (nI i))] [] (ax_upI h 0 3 (nI p)) Q =
    (if (sMs b n off m p).1 = true then Q (some (.int (bI (decide ((sMs b n off m p).2 = b.length))))) (ax_upI h 0 3 (nI (sMs b n off m p).2)) else Q (some (.int (nI 0))) (ax_upI h 0 3 (nI (sMs b n off m p).2)))
  | 0, i, N, p, hi, hN, hp => by
    have h2 := hb.1
    have hz := hb.2.2.1
    have hs := hb.2.1
    rw [sQ_rest_109]
    simp (disch := omega) only [sQ_rest_111, sQ_rest_112, sQ_rest_115, sQ_rest_116, sQ_rest_119, sQ_rest_122, sQ_rest_123, sQ_rest_124, sQ_rest_127, sQ_rest_130, sQ_rest_131, sQ_rest_134, sQ_rest_135, sQ_rest_138, sQ_rest_140, sQ_rest_141, sQ_rest_144, sQ_rest_145, sQ_rest_148, sQ_rest_149, ax_clr_i, ax_clr_l, ax_clr_r, ax_clr_n, ax_ct_0, ax_ct_i, ax_ct_l, ax_ct_r, va_rf_s, Option.toList_some, Option.toList_none, List.cons_append, List.nil_append, and_true, true_and, and_self, ite_true, ite_false, if_true, if_false, Nat.reduceAdd, Nat.reduceLeDiff, Nat.reduceMul, Nat.reduceLT, nI_add, pk_mul, nI_lt', nI_le', nI_eq', nI_lt0, nI_ge0, nI_eq0, nI_gt0, nI_le0, nI_ne_m1, m1_ne_nI, m1_lt_nI, m1_le_nI, nI_lt_m1, nI_le_m1, nI_clamp, ax_in_nI, nI_shl, nI_shr, lg_cmp0, nx_and, nI_eq1, bI_0, bI_1, bf_or, eq_self, or_true, true_or, lt_T, le_T, kdM_0, kdM_1, kdM_2, kdM_3, kdM_4, kdM_5, kdM_6, kdM_7, kdM_8, kdM_9, kdM_10, kdM_11, kdM_12, kdM_13, kdM_14, kdM_15, kdM_16, kdM_17, kdM_18, kdM_19, kdM_20, kdM_21, kdM_22, kdM_23, kdM_24, rM_0, rM_1, rM_5, rM_6, rM_7, rM_10, rM_11, rM_12, rM_13, rM_14, rM_15, rM_16, rM_18, rM_19, rM_20, rM_21, rM_23, rM_24, rM_25, rM_26, rM_28, rM_29, rM_30, rM_31, up_at, up_II, up_III, up_I, up_I2, up_L, up_L1, up_L3, up_R, up_R1, up_R2, Nat.reduceEqDiff, and_false, false_and, reduceIte, eq_self, h2, hs]
    simp only [sMs, if_true]
    by_cases e : p = b.length <;> simp [e, bI]
  | m + 1, i, N, p, hi, hN, hp => by
    have hz := hb.2.2.1
    rw [sQ_rest_109]
    simp (disch := omega) only [sQ_rest_111, sQ_rest_112, sQ_rest_115, sQ_rest_116, sQ_rest_119, sQ_rest_122, sQ_rest_123, sQ_rest_124, sQ_rest_127, ax_clr_i, ax_clr_l, ax_clr_r, ax_clr_n, ax_ct_0, ax_ct_i, ax_ct_l, ax_ct_r, va_rf_s, Option.toList_some, Option.toList_none, List.cons_append, List.nil_append, and_true, true_and, and_self, ite_true, ite_false, if_true, if_false, Nat.reduceAdd, Nat.reduceLeDiff, Nat.reduceMul, Nat.reduceLT, nI_add, pk_mul, nI_lt', nI_le', nI_eq', nI_lt0, nI_ge0, nI_eq0, nI_gt0, nI_le0, nI_ne_m1, m1_ne_nI, m1_lt_nI, m1_le_nI, nI_lt_m1, nI_le_m1, nI_clamp, ax_in_nI, nI_shl, nI_shr, lg_cmp0, nx_and, nI_eq1, bI_0, bI_1, bf_or, eq_self, or_true, true_or, lt_T, le_T, lt_F, le_F, kdM_0, kdM_1, kdM_2, kdM_3, kdM_4, kdM_5, kdM_6, kdM_7, kdM_8, kdM_9, kdM_10, kdM_11, kdM_12, kdM_13, kdM_14, kdM_15, kdM_16, kdM_17, kdM_18, kdM_19, kdM_20, kdM_21, kdM_22, kdM_23, kdM_24, rM_0, rM_1, rM_5, rM_6, rM_7, rM_10, rM_11, rM_12, rM_13, rM_14, rM_15, rM_16, rM_18, rM_19, rM_20, rM_21, rM_23, rM_24, rM_25, rM_26, rM_28, rM_29, rM_30, rM_31, mQ_method_ hb hw hc]
    rw [sMs]
    by_cases e : (sMt b n off p).1 = true
    · have k := sMt_len e
      rw [mQ_rest_l hb hw hc x1 x2 m (i + 1) N _ (by omega) hN (by omega), if_neg (by rw [e]; decide), if_pos e]
    · rw [if_pos (bI_c e), if_neg e]; simp
theorem mQ_rest_85 (hb : bufM h b) (hw : cW b n off) (hc : cT h n off) (p : Nat) (hp : p ≤ b.length) (x1 : Option Value) (y : Int32) : ax_wp kM (d + 7) mQ_rest 85 [some (.ref 0), x1, some (.int y), none, none] [] (ax_upI h 0 3 (nI p)) Q = Q (some (.int (bI (sR4 b n off p).1))) (ax_upI h 0 3 (nI (sR4 b n off p).2)) := by
  have hz := hb.2.2.1
  have hlt := hb.lt p
  have hb2 := hb.fr (frM.at (x := nI p))
  simp (disch := omega) only [sQ_rest_85, sQ_rest_86, sQ_rest_87, sQ_rest_90, sQ_rest_93, sQ_rest_94, sQ_rest_95, sQ_rest_96, sQ_rest_98, sQ_rest_101, sQ_rest_104, sQ_rest_105, sQ_rest_106, sQ_rest_107, ax_clr_i, ax_clr_l, ax_clr_r, ax_clr_n, ax_ct_0, ax_ct_i, ax_ct_l, ax_ct_r, va_rf_s, Option.toList_some, Option.toList_none, List.cons_append, List.nil_append, and_true, true_and, and_self, ite_true, ite_false, if_true, if_false, Nat.reduceAdd, Nat.reduceLeDiff, Nat.reduceMul, Nat.reduceLT, nI_add, pk_mul, nI_lt', nI_le', nI_eq', nI_lt0, nI_ge0, nI_eq0, nI_gt0, nI_le0, nI_ne_m1, m1_ne_nI, m1_lt_nI, m1_le_nI, nI_lt_m1, nI_le_m1, nI_clamp, ax_in_nI, nI_shl, nI_shr, lg_cmp0, nx_and, nI_eq1, bI_0, bI_1, bf_or, eq_self, or_true, true_or, kdM_0, kdM_1, kdM_2, kdM_3, kdM_4, kdM_5, kdM_6, kdM_7, kdM_8, kdM_9, kdM_10, kdM_11, kdM_12, kdM_13, kdM_14, kdM_15, kdM_16, kdM_17, kdM_18, kdM_19, kdM_20, kdM_21, kdM_22, kdM_23, kdM_24, rM_0, rM_1, rM_5, rM_6, rM_7, rM_10, rM_11, rM_12, rM_13, rM_14, rM_15, rM_16, rM_18, rM_19, rM_20, rM_21, rM_23, rM_24, rM_25, rM_26, rM_28, rM_29, rM_30, rM_31, up_at, up_II, up_III, up_I, up_I2, up_L, up_L1, up_L3, up_R, up_R1, up_R2, Nat.reduceEqDiff, and_false, false_and, reduceIte, eq_self, mQ_buffer_ hb2, mQ_upTo_ hb]
  unfold sR4
  by_cases e : (tk b 120 p (fun k => decide (k ≤ 4))).1 = true
  · obtain ⟨a1, a2, a3, a4⟩ := tk_t e
    rw [bz_in a2, a4, mQ_rest_l hb hw hc _ _ (bg b p) 0 (bg b p) (p + 1) (by omega) (by omega) (by omega), if_neg (by rw [e]; decide), if_pos e]
    by_cases e2 : (sMs b n off (bg b p) (p + 1)).1 = true
    · rw [if_pos e2, if_pos e2]
    · rw [if_neg e2, if_neg e2]; rfl
  · rw [tk_f e, if_pos (bI_c e), if_neg e]; rfl
theorem mQ_rest_63 (hb : bufM h b) (hw : cW b n off) (hc : cT h n off) (p : Nat) (hp : p ≤ b.length) (x1 : Option Value) (y : Int32) : ax_wp kM (d + 7) mQ_rest 63 [some (.ref 0), x1, some (.int y), none, none] [] (ax_upI h 0 3 (nI p)) Q = Q (some (.int (bI (sR2 b n off p).1))) (ax_upI h 0 3 (nI (sR2 b n off p).2)) := by
  have hz := hb.2.2.1
  simp (disch := omega) only [sQ_rest_63, sQ_rest_64, sQ_rest_65, sQ_rest_67, sQ_rest_70, sQ_rest_73, sQ_rest_74, sQ_rest_75, sQ_rest_77, sQ_rest_80, sQ_rest_83, sQ_rest_84, ax_clr_i, ax_clr_l, ax_clr_r, ax_clr_n, ax_ct_0, ax_ct_i, ax_ct_l, ax_ct_r, va_rf_s, Option.toList_some, Option.toList_none, List.cons_append, List.nil_append, and_true, true_and, and_self, ite_true, ite_false, if_true, if_false, Nat.reduceAdd, Nat.reduceLeDiff, Nat.reduceMul, Nat.reduceLT, nI_add, pk_mul, nI_lt', nI_le', nI_eq', nI_lt0, nI_ge0, nI_eq0, nI_gt0, nI_le0, nI_ne_m1, m1_ne_nI, m1_lt_nI, m1_le_nI, nI_lt_m1, nI_le_m1, nI_clamp, ax_in_nI, nI_shl, nI_shr, lg_cmp0, nx_and, nI_eq1, bI_0, bI_1, bf_or, eq_self, or_true, true_or, kdM_0, kdM_1, kdM_2, kdM_3, kdM_4, kdM_5, kdM_6, kdM_7, kdM_8, kdM_9, kdM_10, kdM_11, kdM_12, kdM_13, kdM_14, kdM_15, kdM_16, kdM_17, kdM_18, kdM_19, kdM_20, kdM_21, kdM_22, kdM_23, kdM_24, rM_0, rM_1, rM_5, rM_6, rM_7, rM_10, rM_11, rM_12, rM_13, rM_14, rM_15, rM_16, rM_18, rM_19, rM_20, rM_21, rM_23, rM_24, rM_25, rM_26, rM_28, rM_29, rM_30, rM_31, up_at, up_II, up_III, up_I, up_I2, up_L, up_L1, up_L3, up_R, up_R1, up_R2, Nat.reduceEqDiff, and_false, false_and, reduceIte, eq_self, mQ_several_ hb hw hc]
  unfold sR2
  by_cases e : (sSv b 3 (fun k => ftN b n off k 7) p).1 = true
  · have k := sSv_len e
    rw [if_neg (by rw [e]; decide), if_pos e, mQ_several_ hb hw hc 4 20 _ (by omega) (by omega) (by omega) (by omega)]
    simp (disch := omega) only [sQ_rest_63, sQ_rest_64, sQ_rest_65, sQ_rest_67, sQ_rest_70, sQ_rest_73, sQ_rest_74, sQ_rest_75, sQ_rest_77, sQ_rest_80, sQ_rest_83, sQ_rest_84, ax_clr_i, ax_clr_l, ax_clr_r, ax_clr_n, ax_ct_0, ax_ct_i, ax_ct_l, ax_ct_r, va_rf_s, Option.toList_some, Option.toList_none, List.cons_append, List.nil_append, and_true, true_and, and_self, ite_true, ite_false, if_true, if_false, Nat.reduceAdd, Nat.reduceLeDiff, Nat.reduceMul, Nat.reduceLT, nI_add, pk_mul, nI_lt', nI_le', nI_eq', nI_lt0, nI_ge0, nI_eq0, nI_gt0, nI_le0, nI_ne_m1, m1_ne_nI, m1_lt_nI, m1_le_nI, nI_lt_m1, nI_le_m1, nI_clamp, ax_in_nI, nI_shl, nI_shr, lg_cmp0, nx_and, nI_eq1, bI_0, bI_1, bf_or, eq_self, or_true, true_or, kdM_0, kdM_1, kdM_2, kdM_3, kdM_4, kdM_5, kdM_6, kdM_7, kdM_8, kdM_9, kdM_10, kdM_11, kdM_12, kdM_13, kdM_14, kdM_15, kdM_16, kdM_17, kdM_18, kdM_19, kdM_20, kdM_21, kdM_22, kdM_23, kdM_24, rM_0, rM_1, rM_5, rM_6, rM_7, rM_10, rM_11, rM_12, rM_13, rM_14, rM_15, rM_16, rM_18, rM_19, rM_20, rM_21, rM_23, rM_24, rM_25, rM_26, rM_28, rM_29, rM_30, rM_31, up_at, up_II, up_III, up_I, up_I2, up_L, up_L1, up_L3, up_R, up_R1, up_R2, Nat.reduceEqDiff, and_false, false_and, reduceIte, eq_self]
    unfold sR3
    by_cases e2 : (sSv b 4 (fun k => ftN b n off k 20) (sSv b 3 (fun k => ftN b n off k 7) p).2).1 = true
    · have k2 := sSv_len e2
      rw [if_neg (by rw [e2]; decide), if_pos e2, mQ_rest_85 hb hw hc _ (by omega)]
    · rw [if_pos (bI_c e2), if_neg e2]; rfl
  · rw [if_pos (bI_c e), if_neg e]; rfl
theorem mQ_rest_ (hb : bufM h b) (hw : cW b n off) (hc : cT h n off) (p : Nat) (hp : p ≤ b.length) : ax_wp kM (d + 7) mQ_rest 0 [some (.ref 0), none, none, none, none] [] (ax_upI h 0 3 (nI p)) Q = Q (some (.int (bI (sRs b n off p).1))) (ax_upI h 0 3 (nI (sRs b n off p).2)) := by
  have hz := hb.2.2.1
  have hlt := hb.lt p
  have hb2 := hb.fr (frM.at (x := nI p))
  simp (disch := omega) only [sQ_rest_0, sQ_rest_1, sQ_rest_2, sQ_rest_5, sQ_rest_8, sQ_rest_11, sQ_rest_12, sQ_rest_15, sQ_rest_16, ax_clr_i, ax_clr_l, ax_clr_r, ax_clr_n, ax_ct_0, ax_ct_i, ax_ct_l, ax_ct_r, va_rf_s, Option.toList_some, Option.toList_none, List.cons_append, List.nil_append, and_true, true_and, and_self, ite_true, ite_false, if_true, if_false, Nat.reduceAdd, Nat.reduceLeDiff, Nat.reduceMul, Nat.reduceLT, nI_add, pk_mul, nI_lt', nI_le', nI_eq', nI_lt0, nI_ge0, nI_eq0, nI_gt0, nI_le0, nI_ne_m1, m1_ne_nI, m1_lt_nI, m1_le_nI, nI_lt_m1, nI_le_m1, nI_clamp, ax_in_nI, nI_shl, nI_shr, lg_cmp0, nx_and, nI_eq1, bI_0, bI_1, bf_or, eq_self, or_true, true_or, kdM_0, kdM_1, kdM_2, kdM_3, kdM_4, kdM_5, kdM_6, kdM_7, kdM_8, kdM_9, kdM_10, kdM_11, kdM_12, kdM_13, kdM_14, kdM_15, kdM_16, kdM_17, kdM_18, kdM_19, kdM_20, kdM_21, kdM_22, kdM_23, kdM_24, rM_0, rM_1, rM_5, rM_6, rM_7, rM_10, rM_11, rM_12, rM_13, rM_14, rM_15, rM_16, rM_18, rM_19, rM_20, rM_21, rM_23, rM_24, rM_25, rM_26, rM_28, rM_29, rM_30, rM_31, up_at, up_II, up_III, up_I, up_I2, up_L, up_L1, up_L3, up_R, up_R1, up_R2, Nat.reduceEqDiff, and_false, false_and, reduceIte, eq_self, mQ_buffer_ hb2]
  unfold sRs
  by_cases e0 : p < b.length ∧ bg b p = 0
  · rw [bz_in e0.1, if_pos (by rw [e0.2]; rfl), if_pos e0]
    simp (disch := omega) only [sQ_rest_17, sQ_rest_18, sQ_rest_21, sQ_rest_22, sQ_rest_24, sQ_rest_26, sQ_rest_29, sQ_rest_32, sQ_rest_33, sQ_rest_36, sQ_rest_37, sQ_rest_38, sQ_rest_39, sQ_rest_40, sQ_rest_43, sQ_rest_44, sQ_rest_47, sQ_rest_48, sQ_rest_49, sQ_rest_52, sQ_rest_53, sQ_rest_56, sQ_rest_59, sQ_rest_60, ax_clr_i, ax_clr_l, ax_clr_r, ax_clr_n, ax_ct_0, ax_ct_i, ax_ct_l, ax_ct_r, va_rf_s, Option.toList_some, Option.toList_none, List.cons_append, List.nil_append, and_true, true_and, and_self, ite_true, ite_false, if_true, if_false, Nat.reduceAdd, Nat.reduceLeDiff, Nat.reduceMul, Nat.reduceLT, nI_add, pk_mul, nI_lt', nI_le', nI_eq', nI_lt0, nI_ge0, nI_eq0, nI_gt0, nI_le0, nI_ne_m1, m1_ne_nI, m1_lt_nI, m1_le_nI, nI_lt_m1, nI_le_m1, nI_clamp, ax_in_nI, nI_shl, nI_shr, lg_cmp0, nx_and, nI_eq1, bI_0, bI_1, bf_or, eq_self, or_true, true_or, lt_T, le_T, lt_F, le_F, eq_F, eq_T, kdM_0, kdM_1, kdM_2, kdM_3, kdM_4, kdM_5, kdM_6, kdM_7, kdM_8, kdM_9, kdM_10, kdM_11, kdM_12, kdM_13, kdM_14, kdM_15, kdM_16, kdM_17, kdM_18, kdM_19, kdM_20, kdM_21, kdM_22, kdM_23, kdM_24, rM_0, rM_1, rM_5, rM_6, rM_7, rM_10, rM_11, rM_12, rM_13, rM_14, rM_15, rM_16, rM_18, rM_19, rM_20, rM_21, rM_23, rM_24, rM_25, rM_26, rM_28, rM_29, rM_30, rM_31, up_at, up_II, up_III, up_I, up_I2, up_L, up_L1, up_L3, up_R, up_R1, up_R2, Nat.reduceEqDiff, and_false, false_and, reduceIte, eq_self, mQ_rest_63 hb hw hc (p + 1) (by omega)]
  · have e1 : ¬ bz b p = 0 := by
      by_cases e2 : p < b.length
      · rw [bz_in e2]; exact fun hh => e0 ⟨e2, cast (nI_eq0 (by omega)) hh⟩
      · rw [bz_out e2]; decide
    rw [if_neg e1, if_neg e0]
    simp (disch := omega) only [sQ_rest_17, sQ_rest_18, sQ_rest_21, sQ_rest_22, sQ_rest_24, sQ_rest_26, sQ_rest_29, sQ_rest_32, sQ_rest_33, sQ_rest_36, sQ_rest_37, sQ_rest_38, sQ_rest_39, sQ_rest_40, sQ_rest_43, sQ_rest_44, sQ_rest_47, sQ_rest_48, sQ_rest_49, sQ_rest_52, sQ_rest_53, sQ_rest_56, sQ_rest_59, sQ_rest_60, ax_clr_i, ax_clr_l, ax_clr_r, ax_clr_n, ax_ct_0, ax_ct_i, ax_ct_l, ax_ct_r, va_rf_s, Option.toList_some, Option.toList_none, List.cons_append, List.nil_append, and_true, true_and, and_self, ite_true, ite_false, if_true, if_false, Nat.reduceAdd, Nat.reduceLeDiff, Nat.reduceMul, Nat.reduceLT, nI_add, pk_mul, nI_lt', nI_le', nI_eq', nI_lt0, nI_ge0, nI_eq0, nI_gt0, nI_le0, nI_ne_m1, m1_ne_nI, m1_lt_nI, m1_le_nI, nI_lt_m1, nI_le_m1, nI_clamp, ax_in_nI, nI_shl, nI_shr, lg_cmp0, nx_and, nI_eq1, bI_0, bI_1, bf_or, eq_self, or_true, true_or, lt_T, le_T, lt_F, le_F, eq_F, eq_T, kdM_0, kdM_1, kdM_2, kdM_3, kdM_4, kdM_5, kdM_6, kdM_7, kdM_8, kdM_9, kdM_10, kdM_11, kdM_12, kdM_13, kdM_14, kdM_15, kdM_16, kdM_17, kdM_18, kdM_19, kdM_20, kdM_21, kdM_22, kdM_23, kdM_24, rM_0, rM_1, rM_5, rM_6, rM_7, rM_10, rM_11, rM_12, rM_13, rM_14, rM_15, rM_16, rM_18, rM_19, rM_20, rM_21, rM_23, rM_24, rM_25, rM_26, rM_28, rM_29, rM_30, rM_31, up_at, up_II, up_III, up_I, up_I2, up_L, up_L1, up_L3, up_R, up_R1, up_R2, Nat.reduceEqDiff, and_false, false_and, reduceIte, eq_self, mQ_number_ hb hw hc]
    by_cases e : (tk b 120 p (fun k => ftN b n off k 7)).1 = true
    · obtain ⟨a1, a2, a3, a4⟩ := tk_t e
      rw [a4, if_neg (by rw [e]; decide), if_pos e, mQ_rest_63 hb hw hc (p + 1) (by omega)]
    · rw [tk_f e, if_pos (bI_c e), if_neg e]
      simp (disch := omega) only [sQ_rest_17, sQ_rest_18, sQ_rest_21, sQ_rest_22, sQ_rest_24, sQ_rest_26, sQ_rest_29, sQ_rest_32, sQ_rest_33, sQ_rest_36, sQ_rest_37, sQ_rest_38, sQ_rest_39, sQ_rest_40, sQ_rest_43, sQ_rest_44, sQ_rest_47, sQ_rest_48, sQ_rest_49, sQ_rest_52, sQ_rest_53, sQ_rest_56, sQ_rest_59, sQ_rest_60, sQ_rest_63, sQ_rest_64, sQ_rest_65, sQ_rest_67, sQ_rest_70, sQ_rest_73, sQ_rest_74, sQ_rest_75, sQ_rest_77, sQ_rest_80, sQ_rest_83, sQ_rest_84, ax_clr_i, ax_clr_l, ax_clr_r, ax_clr_n, ax_ct_0, ax_ct_i, ax_ct_l, ax_ct_r, va_rf_s, Option.toList_some, Option.toList_none, List.cons_append, List.nil_append, and_true, true_and, and_self, ite_true, ite_false, if_true, if_false, Nat.reduceAdd, Nat.reduceLeDiff, Nat.reduceMul, Nat.reduceLT, nI_add, pk_mul, nI_lt', nI_le', nI_eq', nI_lt0, nI_ge0, nI_eq0, nI_gt0, nI_le0, nI_ne_m1, m1_ne_nI, m1_lt_nI, m1_le_nI, nI_lt_m1, nI_le_m1, nI_clamp, ax_in_nI, nI_shl, nI_shr, lg_cmp0, nx_and, nI_eq1, bI_0, bI_1, bf_or, eq_self, or_true, true_or, lt_T, le_T, lt_F, le_F, eq_F, eq_T, kdM_0, kdM_1, kdM_2, kdM_3, kdM_4, kdM_5, kdM_6, kdM_7, kdM_8, kdM_9, kdM_10, kdM_11, kdM_12, kdM_13, kdM_14, kdM_15, kdM_16, kdM_17, kdM_18, kdM_19, kdM_20, kdM_21, kdM_22, kdM_23, kdM_24, rM_0, rM_1, rM_5, rM_6, rM_7, rM_10, rM_11, rM_12, rM_13, rM_14, rM_15, rM_16, rM_18, rM_19, rM_20, rM_21, rM_23, rM_24, rM_25, rM_26, rM_28, rM_29, rM_30, rM_31, up_at, up_II, up_III, up_I, up_I2, up_L, up_L1, up_L3, up_R, up_R1, up_R2, Nat.reduceEqDiff, and_false, false_and, reduceIte, eq_self]
      rfl
/-- the numbers in the constants from number k on, m of them -/
def sCk (b : List Nat) (n : Nat) (off : Nat → Nat) : Nat → Nat → Nat → Bool × Nat
  | 0, _, a => (true, a)
  | m + 1, k, _ =>
    if (tgv b n off k = 7 ∧ ftN b n off (bg b (off k + 1)) 21 = false) ∨ (9 ≤ tgv b n off k ∧ ftN b n off (bg b (off k + 1)) 7 = false) then (false, off k + 1)
    else if 9 ≤ tgv b n off k ∧ ftN b n off (bg b (off k + 2)) 20 = false then (false, off k + 2)
    else sCk b n off m (k + 1) (off k + 2)
theorem mQ_checkConstants_l (hb : bufM h b) (hw : cW b n off) (hc : cT h n off) : ∀ (m k a : Nat) (x2 : Option Value), k + m = n + 1 → 1 ≤ k → ax_wp kM (d + 4) mQ_checkConstants 2 [some (.ref 0), some (.int (nI k)), x2] [] (ax_upI h 0 3 (nI a)) Q = Q (some (.int (bI (sCk b n off m k a).1))) (ax_upI h 0 3 (nI (sCk b n off m k a).2))
  | 0, k, a, x2, hk, h1 => by
    have h2 := hb.1
    have hn := hw.1
    rw [sQ_checkConstants_2]
    simp (disch := omega) only [sQ_checkConstants_3, sQ_checkConstants_4, sQ_checkConstants_7, sQ_checkConstants_117, sQ_checkConstants_118, ax_clr_i, ax_clr_l, ax_clr_r, ax_clr_n, ax_ct_0, ax_ct_i, ax_ct_l, ax_ct_r, va_rf_s, Option.toList_some, Option.toList_none, List.cons_append, List.nil_append, and_true, true_and, and_self, ite_true, ite_false, if_true, if_false, Nat.reduceAdd, Nat.reduceLeDiff, Nat.reduceMul, Nat.reduceLT, nI_add, pk_mul, nI_lt', nI_le', nI_eq', nI_lt0, nI_ge0, nI_eq0, nI_gt0, nI_le0, nI_ne_m1, m1_ne_nI, m1_lt_nI, m1_le_nI, nI_lt_m1, nI_le_m1, nI_clamp, ax_in_nI, nI_shl, nI_shr, lg_cmp0, nx_and, nI_eq1, bI_0, bI_1, bf_or, eq_self, or_true, true_or, lt_T, le_T, lt_F, le_F, eq_F, eq_T, kdM_0, kdM_1, kdM_2, kdM_3, kdM_4, kdM_5, kdM_6, kdM_7, kdM_8, kdM_9, kdM_10, kdM_11, kdM_12, kdM_13, kdM_14, kdM_15, kdM_16, kdM_17, kdM_18, kdM_19, kdM_20, kdM_21, kdM_22, kdM_23, kdM_24, rM_0, rM_1, rM_5, rM_6, rM_7, rM_10, rM_11, rM_12, rM_13, rM_14, rM_15, rM_16, rM_18, rM_19, rM_20, rM_21, rM_23, rM_24, rM_25, rM_26, rM_28, rM_29, rM_30, rM_31, up_at, up_II, up_III, up_I, up_I2, up_L, up_L1, up_L3, up_R, up_R1, up_R2, Nat.reduceEqDiff, and_false, false_and, reduceIte, eq_self, hc.1]
    rfl
  | m + 1, k, a, x2, hk, h1 => by
    have h2 := hb.1
    have hn := hw.1
    have hz := hb.2.2.1
    have hk2 := hc.2 k (by omega)
    have hb2 := hb.fr (frM.at (x := nI a))
    have hc2 := hc.up (x := nI a)
    have ht : tgv b n off k < 256 := by unfold tgv; split; exact hb.lt _; omega
    have l1 := hb.lt (off k + 1)
    have l2 := hb.lt (off k + 2)
    have ho : off k < 120 := by
      by_cases e : off k = 0
      · omega
      · have := hw.lt (by omega : k < 26) e; omega
    have hb3 := hb.fr (frM.at (x := nI (off k + 1)))
    have hc3 := hc.up (x := nI (off k + 1))
    have hb4 := hb.fr (frM.at (x := nI (off k + 2)))
    have hc4 := hc.up (x := nI (off k + 2))
    rw [sQ_checkConstants_2]
    simp (disch := omega) only [sQ_checkConstants_3, sQ_checkConstants_4, sQ_checkConstants_7, sQ_checkConstants_10, sQ_checkConstants_11, sQ_checkConstants_12, sQ_checkConstants_15, sQ_checkConstants_16, sQ_checkConstants_17, sQ_checkConstants_18, sQ_checkConstants_21, sQ_checkConstants_22, sQ_checkConstants_23, sQ_checkConstants_24, sQ_checkConstants_25, sQ_checkConstants_28, sQ_checkConstants_29, ax_clr_i, ax_clr_l, ax_clr_r, ax_clr_n, ax_ct_0, ax_ct_i, ax_ct_l, ax_ct_r, va_rf_s, Option.toList_some, Option.toList_none, List.cons_append, List.nil_append, and_true, true_and, and_self, ite_true, ite_false, if_true, if_false, Nat.reduceAdd, Nat.reduceLeDiff, Nat.reduceMul, Nat.reduceLT, nI_add, pk_mul, nI_lt', nI_le', nI_eq', nI_lt0, nI_ge0, nI_eq0, nI_gt0, nI_le0, nI_ne_m1, m1_ne_nI, m1_lt_nI, m1_le_nI, nI_lt_m1, nI_le_m1, nI_clamp, ax_in_nI, nI_shl, nI_shr, lg_cmp0, nx_and, nI_eq1, bI_0, bI_1, bf_or, eq_self, or_true, true_or, lt_T, le_T, lt_F, le_F, eq_F, eq_T, kdM_0, kdM_1, kdM_2, kdM_3, kdM_4, kdM_5, kdM_6, kdM_7, kdM_8, kdM_9, kdM_10, kdM_11, kdM_12, kdM_13, kdM_14, kdM_15, kdM_16, kdM_17, kdM_18, kdM_19, kdM_20, kdM_21, kdM_22, kdM_23, kdM_24, rM_0, rM_1, rM_5, rM_6, rM_7, rM_10, rM_11, rM_12, rM_13, rM_14, rM_15, rM_16, rM_18, rM_19, rM_20, rM_21, rM_23, rM_24, rM_25, rM_26, rM_28, rM_29, rM_30, rM_31, up_at, up_II, up_III, up_I, up_I2, up_L, up_L1, up_L3, up_R, up_R1, up_R2, Nat.reduceEqDiff, and_false, false_and, reduceIte, eq_self, hc.1, h2, hk2, mQ_tag_ hb2 hw hc2]
    rw [sCk]
    have key : tgv b n off k ≠ 0 → off k + clen b (off k) ≤ b.length ∧ tgv b n off k = bg b (off k) ∧ off k + 1 < b.length ∧ isTg (bg b (off k)) = true := by
      intro h0
      have e1 : 1 ≤ k ∧ k ≤ n ∧ off k ≠ 0 := by
        by_cases e2 : 1 ≤ k ∧ k ≤ n ∧ off k ≠ 0
        · exact e2
        · exact absurd (if_neg e2) h0
      have e2 : tgv b n off k = bg b (off k) := if_pos e1
      have e3 := hw.lt (by omega : k < 26) e1.2.2
      rcases hw.2 k (by omega) with hh | ⟨-, -, -, g4, g5, -⟩
      · exact absurd hh e1.2.2
      · exact ⟨g4, e2, e3, g5⟩
    have ih := fun x2 => mQ_checkConstants_l hb hw hc m (k + 1) (off k + 2) x2 (by omega) (by omega)
    generalize hT : tgv b n off k = t at ht key
    by_cases a7 : t = 7
    · subst a7
      obtain ⟨k1, k2, k3, k4⟩ := key (by omega)
      simp (disch := omega) only [sQ_checkConstants_31, sQ_checkConstants_34, sQ_checkConstants_35, sQ_checkConstants_36, sQ_checkConstants_37, sQ_checkConstants_40, sQ_checkConstants_43, sQ_checkConstants_45, sQ_checkConstants_48, sQ_checkConstants_51, sQ_checkConstants_52, sQ_checkConstants_54, sQ_checkConstants_57, sQ_checkConstants_58, sQ_checkConstants_59, sQ_checkConstants_60, sQ_checkConstants_63, sQ_checkConstants_66, sQ_checkConstants_68, sQ_checkConstants_71, sQ_checkConstants_74, sQ_checkConstants_75, sQ_checkConstants_76, sQ_checkConstants_77, sQ_checkConstants_77r, sQ_checkConstants_78, sQ_checkConstants_81, sQ_checkConstants_82, sQ_checkConstants_83, sQ_checkConstants_86, sQ_checkConstants_87, sQ_checkConstants_89, sQ_checkConstants_92, sQ_checkConstants_93, sQ_checkConstants_94, sQ_checkConstants_95, sQ_checkConstants_98, sQ_checkConstants_101, sQ_checkConstants_103, sQ_checkConstants_106, sQ_checkConstants_109, sQ_checkConstants_110, sQ_checkConstants_111, sQ_checkConstants_114, ax_clr_i, ax_clr_l, ax_clr_r, ax_clr_n, ax_ct_0, ax_ct_i, ax_ct_l, ax_ct_r, va_rf_s, Option.toList_some, Option.toList_none, List.cons_append, List.nil_append, and_true, true_and, and_self, ite_true, ite_false, if_true, if_false, Nat.reduceAdd, Nat.reduceLeDiff, Nat.reduceMul, Nat.reduceLT, nI_add, pk_mul, nI_lt', nI_le', nI_eq', nI_lt0, nI_ge0, nI_eq0, nI_gt0, nI_le0, nI_ne_m1, m1_ne_nI, m1_lt_nI, m1_le_nI, nI_lt_m1, nI_le_m1, nI_clamp, ax_in_nI, nI_shl, nI_shr, lg_cmp0, nx_and, nI_eq1, bI_0, bI_1, bf_or, eq_self, or_true, true_or, lt_T, le_T, lt_F, le_F, eq_F, eq_T, kdM_0, kdM_1, kdM_2, kdM_3, kdM_4, kdM_5, kdM_6, kdM_7, kdM_8, kdM_9, kdM_10, kdM_11, kdM_12, kdM_13, kdM_14, kdM_15, kdM_16, kdM_17, kdM_18, kdM_19, kdM_20, kdM_21, kdM_22, kdM_23, kdM_24, rM_0, rM_1, rM_5, rM_6, rM_7, rM_10, rM_11, rM_12, rM_13, rM_14, rM_15, rM_16, rM_18, rM_19, rM_20, rM_21, rM_23, rM_24, rM_25, rM_26, rM_28, rM_29, rM_30, rM_31, up_at, up_II, up_III, up_I, up_I2, up_L, up_L1, up_L3, up_R, up_R1, up_R2, Nat.reduceEqDiff, and_false, false_and, reduceIte, eq_self, mQ_buffer_ hb3, bz_in k3, mQ_fitting_ hb3 hw hc3]
      by_cases f1 : ftN b n off (bg b (off k + 1)) 21 = true
      · simp (disch := omega) only [sQ_checkConstants_31, sQ_checkConstants_34, sQ_checkConstants_35, sQ_checkConstants_36, sQ_checkConstants_37, sQ_checkConstants_40, sQ_checkConstants_43, sQ_checkConstants_45, sQ_checkConstants_48, sQ_checkConstants_51, sQ_checkConstants_52, sQ_checkConstants_54, sQ_checkConstants_57, sQ_checkConstants_58, sQ_checkConstants_59, sQ_checkConstants_60, sQ_checkConstants_63, sQ_checkConstants_66, sQ_checkConstants_68, sQ_checkConstants_71, sQ_checkConstants_74, sQ_checkConstants_75, sQ_checkConstants_76, sQ_checkConstants_77, sQ_checkConstants_77r, sQ_checkConstants_78, sQ_checkConstants_81, sQ_checkConstants_82, sQ_checkConstants_83, sQ_checkConstants_86, sQ_checkConstants_87, sQ_checkConstants_89, sQ_checkConstants_92, sQ_checkConstants_93, sQ_checkConstants_94, sQ_checkConstants_95, sQ_checkConstants_98, sQ_checkConstants_101, sQ_checkConstants_103, sQ_checkConstants_106, sQ_checkConstants_109, sQ_checkConstants_110, sQ_checkConstants_111, sQ_checkConstants_114, ax_clr_i, ax_clr_l, ax_clr_r, ax_clr_n, ax_ct_0, ax_ct_i, ax_ct_l, ax_ct_r, va_rf_s, Option.toList_some, Option.toList_none, List.cons_append, List.nil_append, and_true, true_and, and_self, ite_true, ite_false, if_true, if_false, Nat.reduceAdd, Nat.reduceLeDiff, Nat.reduceMul, Nat.reduceLT, nI_add, pk_mul, nI_lt', nI_le', nI_eq', nI_lt0, nI_ge0, nI_eq0, nI_gt0, nI_le0, nI_ne_m1, m1_ne_nI, m1_lt_nI, m1_le_nI, nI_lt_m1, nI_le_m1, nI_clamp, ax_in_nI, nI_shl, nI_shr, lg_cmp0, nx_and, nI_eq1, bI_0, bI_1, bf_or, eq_self, or_true, true_or, lt_T, le_T, lt_F, le_F, eq_F, eq_T, f1, ih, Bool.true_eq_false]
        simp
      · simp [f1, bI]
    · by_cases a9 : 9 ≤ t
      · obtain ⟨k1, k2, k3, k4⟩ := key (by omega)
        have k5 : off k + 2 < b.length := by
          unfold clen at k1; rw [← k2, if_neg (by omega), if_neg (by omega)] at k1; omega
        simp (disch := omega) only [sQ_checkConstants_31, sQ_checkConstants_34, sQ_checkConstants_35, sQ_checkConstants_36, sQ_checkConstants_37, sQ_checkConstants_40, sQ_checkConstants_43, sQ_checkConstants_45, sQ_checkConstants_48, sQ_checkConstants_51, sQ_checkConstants_52, sQ_checkConstants_54, sQ_checkConstants_57, sQ_checkConstants_58, sQ_checkConstants_59, sQ_checkConstants_60, sQ_checkConstants_63, sQ_checkConstants_66, sQ_checkConstants_68, sQ_checkConstants_71, sQ_checkConstants_74, sQ_checkConstants_75, sQ_checkConstants_76, ax_clr_i, ax_clr_l, ax_clr_r, ax_clr_n, ax_ct_0, ax_ct_i, ax_ct_l, ax_ct_r, va_rf_s, Option.toList_some, Option.toList_none, List.cons_append, List.nil_append, and_true, true_and, and_self, ite_true, ite_false, if_true, if_false, Nat.reduceAdd, Nat.reduceLeDiff, Nat.reduceMul, Nat.reduceLT, nI_add, pk_mul, nI_lt', nI_le', nI_eq', nI_lt0, nI_ge0, nI_eq0, nI_gt0, nI_le0, nI_ne_m1, m1_ne_nI, m1_lt_nI, m1_le_nI, nI_lt_m1, nI_le_m1, nI_clamp, ax_in_nI, nI_shl, nI_shr, lg_cmp0, nx_and, nI_eq1, bI_0, bI_1, bf_or, eq_self, or_true, true_or, lt_T, le_T, lt_F, le_F, eq_F, eq_T, kdM_0, kdM_1, kdM_2, kdM_3, kdM_4, kdM_5, kdM_6, kdM_7, kdM_8, kdM_9, kdM_10, kdM_11, kdM_12, kdM_13, kdM_14, kdM_15, kdM_16, kdM_17, kdM_18, kdM_19, kdM_20, kdM_21, kdM_22, kdM_23, kdM_24, rM_0, rM_1, rM_5, rM_6, rM_7, rM_10, rM_11, rM_12, rM_13, rM_14, rM_15, rM_16, rM_18, rM_19, rM_20, rM_21, rM_23, rM_24, rM_25, rM_26, rM_28, rM_29, rM_30, rM_31, up_at, up_II, up_III, up_I, up_I2, up_L, up_L1, up_L3, up_R, up_R1, up_R2, Nat.reduceEqDiff, and_false, false_and, reduceIte, eq_self, mQ_buffer_ hb3, bz_in k3, mQ_fitting_ hb3 hw hc3]
        by_cases f1 : ftN b n off (bg b (off k + 1)) 7 = true
        · rw [if_neg (by rw [f1]; decide)]
          simp (disch := omega) only [sQ_checkConstants_77, sQ_checkConstants_77r, sQ_checkConstants_78, sQ_checkConstants_81, sQ_checkConstants_82, sQ_checkConstants_83, sQ_checkConstants_86, sQ_checkConstants_87, sQ_checkConstants_89, sQ_checkConstants_92, sQ_checkConstants_93, sQ_checkConstants_94, sQ_checkConstants_95, sQ_checkConstants_98, sQ_checkConstants_101, sQ_checkConstants_103, sQ_checkConstants_106, sQ_checkConstants_109, sQ_checkConstants_110, sQ_checkConstants_111, sQ_checkConstants_114, ax_clr_i, ax_clr_l, ax_clr_r, ax_clr_n, ax_ct_0, ax_ct_i, ax_ct_l, ax_ct_r, va_rf_s, Option.toList_some, Option.toList_none, List.cons_append, List.nil_append, and_true, true_and, and_self, ite_true, ite_false, if_true, if_false, Nat.reduceAdd, Nat.reduceLeDiff, Nat.reduceMul, Nat.reduceLT, nI_add, pk_mul, nI_lt', nI_le', nI_eq', nI_lt0, nI_ge0, nI_eq0, nI_gt0, nI_le0, nI_ne_m1, m1_ne_nI, m1_lt_nI, m1_le_nI, nI_lt_m1, nI_le_m1, nI_clamp, ax_in_nI, nI_shl, nI_shr, lg_cmp0, nx_and, nI_eq1, bI_0, bI_1, bf_or, eq_self, or_true, true_or, lt_T, le_T, lt_F, le_F, eq_F, eq_T, kdM_0, kdM_1, kdM_2, kdM_3, kdM_4, kdM_5, kdM_6, kdM_7, kdM_8, kdM_9, kdM_10, kdM_11, kdM_12, kdM_13, kdM_14, kdM_15, kdM_16, kdM_17, kdM_18, kdM_19, kdM_20, kdM_21, kdM_22, kdM_23, kdM_24, rM_0, rM_1, rM_5, rM_6, rM_7, rM_10, rM_11, rM_12, rM_13, rM_14, rM_15, rM_16, rM_18, rM_19, rM_20, rM_21, rM_23, rM_24, rM_25, rM_26, rM_28, rM_29, rM_30, rM_31, up_at, up_II, up_III, up_I, up_I2, up_L, up_L1, up_L3, up_R, up_R1, up_R2, Nat.reduceEqDiff, and_false, false_and, reduceIte, eq_self, mQ_buffer_ hb4, bz_in k5, mQ_fitting_ hb4 hw hc4, f1, Bool.true_eq_false]
          by_cases f2 : ftN b n off (bg b (off k + 2)) 20 = true
          · rw [if_neg (by rw [f2]; decide), ih]
            simp [f2]
          · simp [f2, bI]
        · rw [if_pos (bI_c f1)]
          simp [bI_c f1, bI]
      · simp (disch := omega) only [sQ_checkConstants_31, sQ_checkConstants_34, sQ_checkConstants_35, sQ_checkConstants_36, sQ_checkConstants_37, sQ_checkConstants_40, sQ_checkConstants_43, sQ_checkConstants_45, sQ_checkConstants_48, sQ_checkConstants_51, sQ_checkConstants_52, sQ_checkConstants_54, sQ_checkConstants_57, sQ_checkConstants_58, sQ_checkConstants_59, sQ_checkConstants_60, sQ_checkConstants_63, sQ_checkConstants_66, sQ_checkConstants_68, sQ_checkConstants_71, sQ_checkConstants_74, sQ_checkConstants_75, sQ_checkConstants_76, sQ_checkConstants_77, sQ_checkConstants_77r, sQ_checkConstants_78, sQ_checkConstants_81, sQ_checkConstants_82, sQ_checkConstants_83, sQ_checkConstants_86, sQ_checkConstants_87, sQ_checkConstants_89, sQ_checkConstants_92, sQ_checkConstants_93, sQ_checkConstants_94, sQ_checkConstants_95, sQ_checkConstants_98, sQ_checkConstants_101, sQ_checkConstants_103, sQ_checkConstants_106, sQ_checkConstants_109, sQ_checkConstants_110, sQ_checkConstants_111, sQ_checkConstants_114, ax_clr_i, ax_clr_l, ax_clr_r, ax_clr_n, ax_ct_0, ax_ct_i, ax_ct_l, ax_ct_r, va_rf_s, Option.toList_some, Option.toList_none, List.cons_append, List.nil_append, and_true, true_and, and_self, ite_true, ite_false, if_true, if_false, Nat.reduceAdd, Nat.reduceLeDiff, Nat.reduceMul, Nat.reduceLT, nI_add, pk_mul, nI_lt', nI_le', nI_eq', nI_lt0, nI_ge0, nI_eq0, nI_gt0, nI_le0, nI_ne_m1, m1_ne_nI, m1_lt_nI, m1_le_nI, nI_lt_m1, nI_le_m1, nI_clamp, ax_in_nI, nI_shl, nI_shr, lg_cmp0, nx_and, nI_eq1, bI_0, bI_1, bf_or, eq_self, or_true, true_or, lt_T, le_T, lt_F, le_F, eq_F, eq_T, kdM_0, kdM_1, kdM_2, kdM_3, kdM_4, kdM_5, kdM_6, kdM_7, kdM_8, kdM_9, kdM_10, kdM_11, kdM_12, kdM_13, kdM_14, kdM_15, kdM_16, kdM_17, kdM_18, kdM_19, kdM_20, kdM_21, kdM_22, kdM_23, kdM_24, rM_0, rM_1, rM_5, rM_6, rM_7, rM_10, rM_11, rM_12, rM_13, rM_14, rM_15, rM_16, rM_18, rM_19, rM_20, rM_21, rM_23, rM_24, rM_25, rM_26, rM_28, rM_29, rM_30, rM_31, up_at, up_II, up_III, up_I, up_I2, up_L, up_L1, up_L3, up_R, up_R1, up_R2, Nat.reduceEqDiff, and_false, false_and, reduceIte, eq_self, ih]
        simp
theorem mQ_checkConstants_ (hb : bufM h b) (hw : cW b n off) (hc : cT h n off) (a : Nat) : ax_wp kM (d + 4) mQ_checkConstants 0 [some (.ref 0), none, none] [] (ax_upI h 0 3 (nI a)) Q = Q (some (.int (bI (sCk b n off n 1 a).1))) (ax_upI h 0 3 (nI (sCk b n off n 1 a).2)) := by
  simp only [sQ_checkConstants_0, sQ_checkConstants_1, ax_clr_i, ax_clr_l, ax_clr_r, ax_clr_n, ax_ct_0, ax_ct_i, ax_ct_l, ax_ct_r, va_rf_s, Option.toList_some, Option.toList_none, List.cons_append, List.nil_append, and_true, true_and, and_self, ite_true, ite_false, if_true, if_false, Nat.reduceAdd, Nat.reduceLeDiff, Nat.reduceMul, Nat.reduceLT]
  exact mQ_checkConstants_l hb hw hc n 1 a none (by omega) (by omega)
end MG
