/-! the model's reading: all constants -/
def ax_rw (h : ax_H) (r : Nat) (f : Nat → Int32) : ax_H := (fun a b => if a = r then f b else h.1 a b, h.2)
theorem rw_at (h : ax_H) (r : Nat) (f : Nat → Int32) (k : Nat) : (ax_rw h r f).1 r k = f k := by simp [ax_rw]
theorem rw_ne (h : ax_H) (r : Nat) (f : Nat → Int32) (a k : Nat) (ha : ¬ a = r) : (ax_rw h r f).1 a k = h.1 a k := by simp [ax_rw, ha]
theorem rw_2 (h : ax_H) (r : Nat) (f : Nat → Int32) : (ax_rw h r f).2 = h.2 := rfl
theorem rw_up (h : ax_H) (r : Nat) (f : Nat → Int32) (k : Nat) (x : Int32) : ax_upI (ax_rw h r f) r k x = ax_rw h r (upd f k x) := by
  unfold ax_upI ax_rw upd
  refine Prod.ext ?_ rfl
  funext a b
  by_cases e : a = r <;> by_cases e2 : b = k <;> simp [e, e2]
/-- a store into a row, behind one elsewhere -/
theorem rw_up3 (h : ax_H) (f : Nat → Int32) (y : Int32) (k : Nat) (x : Int32) : ax_upI (ax_upI (ax_rw h 3 f) 0 3 y) 3 k x = ax_upI (ax_rw h 3 (upd f k x)) 0 3 y := by
  unfold ax_upI ax_rw upd
  refine Prod.ext ?_ rfl
  funext a b
  by_cases e : a = 3
  · subst e; by_cases e2 : b = k <;> simp [e2]
  · by_cases e0 : a = 0
    · subst e0; simp
    · simp [e, e0]
theorem rw_self (h : ax_H) (r : Nat) : ax_rw h r (h.1 r) = h := by
  unfold ax_rw
  refine Prod.ext ?_ rfl
  funext a b
  by_cases e : a = r <;> simp [e]
/-- only the reading's own cells changed -/
def frM (h h' : ax_H) : Prop := h'.2 = h.2 ∧ ∀ r k, ¬ r = 3 → ¬ (r = 0 ∧ (k = 3 ∨ k = 4)) → h'.1 r k = h.1 r k
theorem bufM.fr {h h' : ax_H} {b : List Nat} (hb : bufM h b) (hf : frM h h') : bufM h' b := by
  obtain ⟨a1, a2, a3, a4, a5⟩ := hb
  refine ⟨by rw [hf.1]; exact a1, ?_, a3, fun j hj => ?_, a5⟩
  · rw [hf.2 _ _ (by omega) (by omega)]; exact a2
  · rw [hf.2 _ _ (by omega) (by omega)]; exact a4 j hj
theorem frM.rf {h : ax_H} : frM h h := ⟨rfl, fun _ _ _ _ => rfl⟩
theorem frM.tr {h h' h2 : ax_H} (a : frM h h') (b : frM h' h2) : frM h h2 := ⟨b.1.trans a.1, fun r k h1 h3 => (b.2 r k h1 h3).trans (a.2 r k h1 h3)⟩
theorem frM.at {h : ax_H} {x : Int32} : frM h (ax_upI h 0 3 x) := ⟨rfl, fun r k _ h2 => by rw [up_I, if_neg (by omega)]⟩
theorem frM.cn {h : ax_H} {x : Int32} : frM h (ax_upI h 0 4 x) := ⟨rfl, fun r k _ h2 => by rw [up_I, if_neg (by omega)]⟩
theorem frM.row {h : ax_H} {f : Nat → Int32} : frM h (ax_rw h 3 f) := ⟨rfl, fun r k h1 _ => rw_ne h 3 f r k h1⟩
theorem frM.off {h : ax_H} {k : Nat} {x : Int32} : frM h (ax_upI h 3 k x) := ⟨rfl, fun r j h1 _ => by rw [up_I, if_neg (by omega)]⟩
theorem sBy_ok (b : List Nat) : ∀ (n p : Nat), p ≤ b.length → (sBy b n p).1 = true → (sBy b n p).2 = p + n ∧ p + n ≤ b.length
  | 0, p, hp, _ => ⟨rfl, hp⟩
  | n + 1, p, hp, h => by
    rw [sBy] at h ⊢
    by_cases e : p < b.length
    · rw [if_pos e] at h ⊢
      obtain ⟨a, c⟩ := sBy_ok b n (p + 1) (by omega) h
      exact ⟨by omega, by omega⟩
    · rw [if_neg e] at h; cases h
theorem sTx_ok (b : List Nat) : ∀ (n p : Nat), p ≤ b.length → (sTx b n p).1 = true → (sTx b n p).2 = p + n ∧ p + n ≤ b.length ∧ ∀ i, i < n → (isLt (bg b (p + i)) = true ∨ bg b (p + i) = 46)
  | 0, p, hp, _ => ⟨rfl, hp, fun i hi => absurd hi (by omega)⟩
  | n + 1, p, hp, h => by
    rw [sTx] at h ⊢
    by_cases e : p < b.length ∧ (isLt (bg b p) = true ∨ bg b p = 46)
    · rw [if_pos e] at h ⊢
      obtain ⟨a, c, f⟩ := sTx_ok b n (p + 1) (by omega) h
      refine ⟨by omega, by omega, fun i hi => ?_⟩
      cases i with
      | zero => exact e.2
      | succ i => have := f i (by omega); rwa [show p + 1 + i = p + (i + 1) by omega] at this
    · rw [if_neg e] at h; cases h
/-- how long a constant at p is, how many numbers it takes -/
def clen (b : List Nat) (p : Nat) : Nat := if bg b p = 1 then 2 + bg b (p + 1) else if bg b p = 7 then 2 else 3
def cstp (b : List Nat) (p : Nat) : Nat := if bg b p = 3 then 2 else 1
theorem sCo_ok {b : List Nat} {last : Bool} {p : Nat} (h : (sCo b last p).1 = true) : tgOk b last p = true ∧ (sCo b last p).2 = p + clen b p ∧ p + clen b p ≤ b.length := by
  unfold sCo at h ⊢
  by_cases e : tgOk b last p = false
  · rw [if_pos e] at h; cases h
  · have e0 : tgOk b last p = true := by simpa using e
    have e1 : p < b.length := by
      simp only [tgOk, Bool.and_eq_true, decide_eq_true_eq] at e0
      exact e0.1.1
    rw [if_neg e] at h ⊢
    refine ⟨e0, ?_⟩
    unfold clen
    by_cases t1 : bg b p = 1
    · rw [if_pos t1] at h ⊢
      rw [if_pos t1]
      by_cases t2 : p + 1 < b.length ∧ 1 ≤ bg b (p + 1) ∧ bg b (p + 1) ≤ 10
      · rw [if_pos t2] at h ⊢
        obtain ⟨a, c, -⟩ := sTx_ok b _ (p + 2) (by omega) h
        exact ⟨by omega, by omega⟩
      · rw [if_neg t2] at h; cases h
    · rw [if_neg t1] at h ⊢
      rw [if_neg t1]
      obtain ⟨a, c⟩ := sBy_ok b _ (p + 1) (by omega) h
      by_cases t7 : bg b p = 7
      · simp only [t7, if_true] at a c ⊢; exact ⟨by omega, by omega⟩
      · simp only [t7, if_false] at a c ⊢; exact ⟨by omega, by omega⟩
/-- all constants from number k on, at p; the table of offsets -/
def sCs (b : List Nat) (n : Nat) : Nat → Nat → Nat → (Nat → Int32) → Bool × Nat × (Nat → Int32)
  | 0, _, p, f => (true, p, f)
  | m + 1, k, p, f => if n < k then (true, p, f) else
      if (sCo b (decide (k = n)) p).1 = false then (false, (sCo b (decide (k = n)) p).2, if tgOk b (decide (k = n)) p = false then f else upd f k (nI p))
      else sCs b n m (k + cstp b p) (sCo b (decide (k = n)) p).2 (upd f k (nI p))
section MC
variable {d : Nat} {h : ax_H} {b : List Nat} {Q : Option Value → ax_H → Prop}
theorem mQ_readConstants_z (h2 : h.2.2 = rM) : ∀ (m i : Nat), i + m = 26 → ax_wp kM (d + 3) mQ_readConstants 52 [some (.ref 0), some (.int (nI i))] [] (ax_rw h 3 (fun k => if k < i then nI 0 else h.1 3 k)) Q = ax_wp kM (d + 3) mQ_readConstants 71 [some (.ref 0), some (.int (nI 26))] [] (ax_rw h 3 (fun k => if k < 26 then nI 0 else h.1 3 k)) Q
  | 0, i, hi => by
    rw [sQ_readConstants_52]
    simp (disch := omega) only [sQ_readConstants_53, sQ_readConstants_55, sQ_readConstants_58, sQ_readConstants_59, sQ_readConstants_62, sQ_readConstants_63, sQ_readConstants_64, sQ_readConstants_65, sQ_readConstants_68, ax_clr_i, ax_clr_l, ax_clr_r, ax_clr_n, ax_ct_0, ax_ct_i, ax_ct_l, ax_ct_r, va_rf_s, Option.toList_some, Option.toList_none, List.cons_append, List.nil_append, and_true, true_and, and_self, ite_true, ite_false, if_true, if_false, Nat.reduceAdd, Nat.reduceLeDiff, Nat.reduceMul, Nat.reduceLT, nI_add, pk_mul, nI_lt', nI_le', nI_eq', nI_lt0, nI_ge0, nI_eq0, nI_gt0, nI_le0, nI_ne_m1, m1_ne_nI, m1_lt_nI, m1_le_nI, nI_lt_m1, nI_le_m1, nI_clamp, ax_in_nI, nI_shl, nI_shr, lg_cmp0, nx_and, nI_eq1, bI_0, bI_1, bf_or, eq_self, or_true, true_or, kdM_0, kdM_1, kdM_2, kdM_3, kdM_4, kdM_5, kdM_6, kdM_7, kdM_8, kdM_9, kdM_10, kdM_11, kdM_12, kdM_13, kdM_14, kdM_15, kdM_16, kdM_17, kdM_18, kdM_19, kdM_20, kdM_21, kdM_22, kdM_23, kdM_24, rM_0, rM_1, rM_5, rM_6, rM_7, rM_10, rM_11, rM_12, rM_13, rM_14, rM_15, rM_16, rM_18, rM_19, rM_20, rM_21, rM_23, rM_24, rM_25, rM_26, rM_28, rM_29, rM_30, rM_31]
    have : i = 26 := by omega
    subst this
    simp
  | m + 1, i, hi => by
    rw [sQ_readConstants_52]
    simp (disch := omega) only [sQ_readConstants_53, sQ_readConstants_55, sQ_readConstants_58, sQ_readConstants_59, sQ_readConstants_62, sQ_readConstants_63, sQ_readConstants_64, sQ_readConstants_65, sQ_readConstants_68, ax_clr_i, ax_clr_l, ax_clr_r, ax_clr_n, ax_ct_0, ax_ct_i, ax_ct_l, ax_ct_r, va_rf_s, Option.toList_some, Option.toList_none, List.cons_append, List.nil_append, and_true, true_and, and_self, ite_true, ite_false, if_true, if_false, Nat.reduceAdd, Nat.reduceLeDiff, Nat.reduceMul, Nat.reduceLT, nI_add, pk_mul, nI_lt', nI_le', nI_eq', nI_lt0, nI_ge0, nI_eq0, nI_gt0, nI_le0, nI_ne_m1, m1_ne_nI, m1_lt_nI, m1_le_nI, nI_lt_m1, nI_le_m1, nI_clamp, ax_in_nI, nI_shl, nI_shr, lg_cmp0, nx_and, nI_eq1, bI_0, bI_1, bf_or, eq_self, or_true, true_or, kdM_0, kdM_1, kdM_2, kdM_3, kdM_4, kdM_5, kdM_6, kdM_7, kdM_8, kdM_9, kdM_10, kdM_11, kdM_12, kdM_13, kdM_14, kdM_15, kdM_16, kdM_17, kdM_18, kdM_19, kdM_20, kdM_21, kdM_22, kdM_23, kdM_24, rM_0, rM_1, rM_5, rM_6, rM_7, rM_10, rM_11, rM_12, rM_13, rM_14, rM_15, rM_16, rM_18, rM_19, rM_20, rM_21, rM_23, rM_24, rM_25, rM_26, rM_28, rM_29, rM_30, rM_31, rw_2, h2]
    rw [if_neg (by omega), rw_up]
    have e : upd (fun k => if k < i then nI 0 else h.1 3 k) i (nI 0) = (fun k => if k < i + 1 then nI 0 else h.1 3 k) := by
      funext k
      unfold upd
      by_cases e1 : k = i
      · simp [e1]
      · by_cases e2 : k < i
        · simp [e1, e2, show k < i + 1 by omega]
        · simp [e1, e2, show ¬ k < i + 1 by omega]
    rw [e, mQ_readConstants_z h2 m (i + 1) (by omega)]
    simp; omega
theorem mQ_readConstants_l (hb : bufM h b) (n : Nat) (hn : h.1 0 4 = nI n) (hn2 : n < 25) : ∀ (m k p : Nat) (f : Nat → Int32), n < k + m → k ≤ 26 → p ≤ b.length → ax_wp kM (d + 3) mQ_readConstants 73 [some (.ref 0), some (.int (nI k))] [] (ax_upI (ax_rw h 3 f) 0 3 (nI p)) Q =
    Q (some (.int (bI (sCs b n m k p f).1))) (ax_upI (ax_rw h 3 (sCs b n m k p f).2.2) 0 3 (nI (sCs b n m k p f).2.1))
  | 0, k, p, f, hm, hk, hp => by
    rw [sQ_readConstants_73]
    simp (disch := omega) only [sQ_readConstants_74, sQ_readConstants_75, sQ_readConstants_78, sQ_readConstants_81, sQ_readConstants_82, sQ_readConstants_83, sQ_readConstants_86, sQ_readConstants_89, sQ_readConstants_90, sQ_readConstants_91, sQ_readConstants_92, sQ_readConstants_93, sQ_readConstants_96, sQ_readConstants_99, sQ_readConstants_100, sQ_readConstants_103, sQ_readConstants_104, sQ_readConstants_105, sQ_readConstants_106, sQ_readConstants_107, sQ_readConstants_108, sQ_readConstants_111, sQ_readConstants_112, sQ_readConstants_115, sQ_readConstants_116, sQ_readConstants_117, sQ_readConstants_118, sQ_readConstants_121, sQ_readConstants_122, ax_clr_i, ax_clr_l, ax_clr_r, ax_clr_n, ax_ct_0, ax_ct_i, ax_ct_l, ax_ct_r, va_rf_s, Option.toList_some, Option.toList_none, List.cons_append, List.nil_append, and_true, true_and, and_self, ite_true, ite_false, if_true, if_false, Nat.reduceAdd, Nat.reduceLeDiff, Nat.reduceMul, Nat.reduceLT, nI_add, pk_mul, nI_lt', nI_le', nI_eq', nI_lt0, nI_ge0, nI_eq0, nI_gt0, nI_le0, nI_ne_m1, m1_ne_nI, m1_lt_nI, m1_le_nI, nI_lt_m1, nI_le_m1, nI_clamp, ax_in_nI, nI_shl, nI_shr, lg_cmp0, nx_and, nI_eq1, bI_0, bI_1, bf_or, eq_self, or_true, true_or, kdM_0, kdM_1, kdM_2, kdM_3, kdM_4, kdM_5, kdM_6, kdM_7, kdM_8, kdM_9, kdM_10, kdM_11, kdM_12, kdM_13, kdM_14, kdM_15, kdM_16, kdM_17, kdM_18, kdM_19, kdM_20, kdM_21, kdM_22, kdM_23, kdM_24, rM_0, rM_1, rM_5, rM_6, rM_7, rM_10, rM_11, rM_12, rM_13, rM_14, rM_15, rM_16, rM_18, rM_19, rM_20, rM_21, rM_23, rM_24, rM_25, rM_26, rM_28, rM_29, rM_30, rM_31, up_at, up_II, up_III, up_I, up_I2, up_L, up_L1, up_L3, up_R, up_R1, up_R2, Nat.reduceEqDiff, and_false, false_and, reduceIte, eq_self, rw_ne, hn]
    rw [if_pos (by omega)]
    rfl
  | m + 1, k, p, f, hm, hk, hp => by
    have hz := hb.2.2.1
    have h2 := hb.1
    have hb1 := hb.fr (frM.row (f := f))
    rw [sQ_readConstants_73]
    simp (disch := omega) only [sQ_readConstants_74, sQ_readConstants_75, sQ_readConstants_78, sQ_readConstants_81, sQ_readConstants_82, sQ_readConstants_83, sQ_readConstants_86, sQ_readConstants_89, sQ_readConstants_90, ax_clr_i, ax_clr_l, ax_clr_r, ax_clr_n, ax_ct_0, ax_ct_i, ax_ct_l, ax_ct_r, va_rf_s, Option.toList_some, Option.toList_none, List.cons_append, List.nil_append, and_true, true_and, and_self, ite_true, ite_false, if_true, if_false, Nat.reduceAdd, Nat.reduceLeDiff, Nat.reduceMul, Nat.reduceLT, nI_add, pk_mul, nI_lt', nI_le', nI_eq', nI_lt0, nI_ge0, nI_eq0, nI_gt0, nI_le0, nI_ne_m1, m1_ne_nI, m1_lt_nI, m1_le_nI, nI_lt_m1, nI_le_m1, nI_clamp, ax_in_nI, nI_shl, nI_shr, lg_cmp0, nx_and, nI_eq1, bI_0, bI_1, bf_or, eq_self, or_true, true_or, kdM_0, kdM_1, kdM_2, kdM_3, kdM_4, kdM_5, kdM_6, kdM_7, kdM_8, kdM_9, kdM_10, kdM_11, kdM_12, kdM_13, kdM_14, kdM_15, kdM_16, kdM_17, kdM_18, kdM_19, kdM_20, kdM_21, kdM_22, kdM_23, kdM_24, rM_0, rM_1, rM_5, rM_6, rM_7, rM_10, rM_11, rM_12, rM_13, rM_14, rM_15, rM_16, rM_18, rM_19, rM_20, rM_21, rM_23, rM_24, rM_25, rM_26, rM_28, rM_29, rM_30, rM_31, up_at, up_II, up_III, up_I, up_I2, up_L, up_L1, up_L3, up_R, up_R1, up_R2, Nat.reduceEqDiff, and_false, false_and, reduceIte, eq_self, rw_ne, hn]
    rw [sCs]
    by_cases e : n < k
    · rw [if_pos e, if_pos e]
      simp (disch := omega) only [sQ_readConstants_74, sQ_readConstants_75, sQ_readConstants_78, sQ_readConstants_81, sQ_readConstants_82, sQ_readConstants_83, sQ_readConstants_86, sQ_readConstants_89, sQ_readConstants_90, sQ_readConstants_91, sQ_readConstants_92, sQ_readConstants_93, sQ_readConstants_96, sQ_readConstants_99, sQ_readConstants_100, sQ_readConstants_103, sQ_readConstants_104, sQ_readConstants_105, sQ_readConstants_106, sQ_readConstants_107, sQ_readConstants_108, sQ_readConstants_111, sQ_readConstants_112, sQ_readConstants_115, sQ_readConstants_116, sQ_readConstants_117, sQ_readConstants_118, sQ_readConstants_121, sQ_readConstants_122, ax_clr_i, ax_clr_l, ax_clr_r, ax_clr_n, ax_ct_0, ax_ct_i, ax_ct_l, ax_ct_r, va_rf_s, Option.toList_some, Option.toList_none, List.cons_append, List.nil_append, and_true, true_and, and_self, ite_true, ite_false, if_true, if_false, Nat.reduceAdd, Nat.reduceLeDiff, Nat.reduceMul, Nat.reduceLT, nI_add, pk_mul, nI_lt', nI_le', nI_eq', nI_lt0, nI_ge0, nI_eq0, nI_gt0, nI_le0, nI_ne_m1, m1_ne_nI, m1_lt_nI, m1_le_nI, nI_lt_m1, nI_le_m1, nI_clamp, ax_in_nI, nI_shl, nI_shr, lg_cmp0, nx_and, nI_eq1, bI_0, bI_1, bf_or, eq_self, or_true, true_or]
      rfl
    · rw [if_neg e, if_neg e, mQ_constant_ hb1 k p n (by omega) (by omega) (by rw [rw_ne _ _ _ _ _ (by omega)]; exact hn) hn2]
      simp (disch := omega) only [sQ_readConstants_74, sQ_readConstants_75, sQ_readConstants_78, sQ_readConstants_81, sQ_readConstants_82, sQ_readConstants_83, sQ_readConstants_86, sQ_readConstants_89, sQ_readConstants_90, ax_clr_i, ax_clr_l, ax_clr_r, ax_clr_n, ax_ct_0, ax_ct_i, ax_ct_l, ax_ct_r, va_rf_s, Option.toList_some, Option.toList_none, List.cons_append, List.nil_append, and_true, true_and, and_self, ite_true, ite_false, if_true, if_false, Nat.reduceAdd, Nat.reduceLeDiff, Nat.reduceMul, Nat.reduceLT, nI_add, pk_mul, nI_lt', nI_le', nI_eq', nI_lt0, nI_ge0, nI_eq0, nI_gt0, nI_le0, nI_ne_m1, m1_ne_nI, m1_lt_nI, m1_le_nI, nI_lt_m1, nI_le_m1, nI_clamp, ax_in_nI, nI_shl, nI_shr, lg_cmp0, nx_and, nI_eq1, bI_0, bI_1, bf_or, eq_self, or_true, true_or]
      cases hc : (sCo b (decide (k = n)) p).1 with
      | false =>
        by_cases et : tgOk b (decide (k = n)) p = false
        · have e2 : (sCo b (decide (k = n)) p).2 = p := by unfold sCo; rw [if_pos et]
          simp only [et, e2, if_true]
          simp [bI]
        · simp only [et, if_true, if_false, rw_up]
          simp [bI]
      | true =>
        obtain ⟨t1, t2, t3⟩ := sCo_ok hc
        have t4 : p < b.length := by
          simp only [tgOk, Bool.and_eq_true, decide_eq_true_eq] at t1
          exact t1.1.1
        have t5 : cstp b p = 1 ∨ cstp b p = 2 := by unfold cstp; split <;> simp
        have t6 := hb.lt p
        have h9 : h.1 1 (1440 + p) = nI (bg b p) := hb.2.2.2.1 p t4
        rw [if_neg (show ¬ tgOk b (decide (k = n)) p = false by rw [t1]; decide), if_neg (show ¬ true = false by decide), rw_up]
        simp (disch := omega) only [sQ_readConstants_91, sQ_readConstants_92, sQ_readConstants_93, sQ_readConstants_96, sQ_readConstants_99, sQ_readConstants_100, sQ_readConstants_103, sQ_readConstants_104, sQ_readConstants_105, sQ_readConstants_106, sQ_readConstants_107, sQ_readConstants_108, sQ_readConstants_111, sQ_readConstants_112, sQ_readConstants_115, sQ_readConstants_116, sQ_readConstants_117, sQ_readConstants_118, sQ_readConstants_121, sQ_readConstants_122, ax_clr_i, ax_clr_l, ax_clr_r, ax_clr_n, ax_ct_0, ax_ct_i, ax_ct_l, ax_ct_r, va_rf_s, Option.toList_some, Option.toList_none, List.cons_append, List.nil_append, and_true, true_and, and_self, ite_true, ite_false, if_true, if_false, Nat.reduceAdd, Nat.reduceLeDiff, Nat.reduceMul, Nat.reduceLT, nI_add, pk_mul, nI_lt', nI_le', nI_eq', nI_lt0, nI_ge0, nI_eq0, nI_gt0, nI_le0, nI_ne_m1, m1_ne_nI, m1_lt_nI, m1_le_nI, nI_lt_m1, nI_le_m1, nI_clamp, ax_in_nI, nI_shl, nI_shr, lg_cmp0, nx_and, nI_eq1, bI_0, bI_1, bf_or, eq_self, or_true, true_or, kdM_0, kdM_1, kdM_2, kdM_3, kdM_4, kdM_5, kdM_6, kdM_7, kdM_8, kdM_9, kdM_10, kdM_11, kdM_12, kdM_13, kdM_14, kdM_15, kdM_16, kdM_17, kdM_18, kdM_19, kdM_20, kdM_21, kdM_22, kdM_23, kdM_24, rM_0, rM_1, rM_5, rM_6, rM_7, rM_10, rM_11, rM_12, rM_13, rM_14, rM_15, rM_16, rM_18, rM_19, rM_20, rM_21, rM_23, rM_24, rM_25, rM_26, rM_28, rM_29, rM_30, rM_31, up_at, up_II, up_III, up_I, up_I2, up_L, up_L1, up_L3, up_R, up_R1, up_R2, Nat.reduceEqDiff, and_false, false_and, reduceIte, eq_self, rw_ne, rw_at, h2, rw_2, hn, hc]
        have h8 : upd f k (nI p) k = nI p := pk_us
        simp (disch := omega) only [h8, nI_add, pk_mul, nI_lt', nI_le', nI_eq', nI_lt0, nI_ge0, nI_eq0, nI_gt0, nI_le0, nI_ne_m1, m1_ne_nI, m1_lt_nI, m1_le_nI, nI_lt_m1, nI_le_m1, nI_clamp, ax_in_nI, nI_shl, nI_shr, lg_cmp0, nx_and, nI_eq1, bI_0, bI_1, bf_or, eq_self, or_true, true_or, h9, Nat.add_assoc]
        have ih1 := mQ_readConstants_l hb n hn hn2 m (k + 1) (sCo b (decide (k = n)) p).2 (upd f k (nI p)) (by omega) (by omega) (by omega)
        have ih2 := fun hh : bg b p = 3 => mQ_readConstants_l hb n hn hn2 m (k + 2) (sCo b (decide (k = n)) p).2 (upd f k (nI p)) (by omega) (by
          simp only [tgOk, Bool.and_eq_true, Bool.not_eq_true', hh] at t1
          have := t1.2
          simp at this
          omega) (by omega)
        unfold cstp
        by_cases e3 : bg b p = 3
        · rw [if_pos e3, if_pos e3, ih2 e3]
          simp [show 1440 + p < 1560 by omega, show k < 26 by omega]
        · rw [if_neg e3, if_neg e3, ih1]
          simp [show 1440 + p < 1560 by omega, show k < 26 by omega]
/-- the first byte, the count, the constants -/
def rdC (b : List Nat) (f : Nat → Int32) : Bool × Nat × (Nat → Int32) :=
  if 0 < b.length ∧ bg b 0 = 197 then (if 1 < b.length ∧ bg b 1 ≤ 24 then sCs b (bg b 1) 26 1 2 (fun k => if k < 26 then nI 0 else f k) else (false, 1, f)) else (false, 0, f)
theorem mQ_readConstants_ (hb : bufM h b) (ha : h.1 0 3 = nI 0) (hQ : ∀ h', frM h h' → h'.1 0 3 = nI (rdC b (h.1 3)).2.1 → ((rdC b (h.1 3)).1 = true → h' = ax_upI (ax_rw (ax_upI h 0 4 (nI (bg b 1))) 3 (rdC b (h.1 3)).2.2) 0 3 (nI (rdC b (h.1 3)).2.1)) → Q (some (.int (bI (rdC b (h.1 3)).1))) h') : ax_wp kM (d + 3) mQ_readConstants 0 [some (.ref 0), none] [] h Q := by
  have h2 := hb.1
  have hl0 := hb.lt 0
  have hl1 := hb.lt 1
  have hb1 := hb.up (r := 0) (k := 3) (x := nI 1) (show ¬ 0 = 1 by omega) (show ¬ 0 = 2 by omega)
  simp (disch := omega) only [sQ_readConstants_0, sQ_readConstants_1, sQ_readConstants_2, sQ_readConstants_5, sQ_readConstants_8, sQ_readConstants_11, sQ_readConstants_12, sQ_readConstants_13, sQ_readConstants_14, sQ_readConstants_15, sQ_readConstants_18, sQ_readConstants_19, sQ_readConstants_20, sQ_readConstants_21, sQ_readConstants_24, sQ_readConstants_27, sQ_readConstants_28, sQ_readConstants_31, sQ_readConstants_34, sQ_readConstants_35, sQ_readConstants_38, sQ_readConstants_40, sQ_readConstants_43, sQ_readConstants_44, sQ_readConstants_45, sQ_readConstants_46, sQ_readConstants_47, ax_clr_i, ax_clr_l, ax_clr_r, ax_clr_n, ax_ct_0, ax_ct_i, ax_ct_l, ax_ct_r, va_rf_s, Option.toList_some, Option.toList_none, List.cons_append, List.nil_append, and_true, true_and, and_self, ite_true, ite_false, if_true, if_false, Nat.reduceAdd, Nat.reduceLeDiff, Nat.reduceMul, Nat.reduceLT, nI_add, pk_mul, nI_lt', nI_le', nI_eq', nI_lt0, nI_ge0, nI_eq0, nI_gt0, nI_le0, nI_ne_m1, m1_ne_nI, m1_lt_nI, m1_le_nI, nI_lt_m1, nI_le_m1, nI_clamp, ax_in_nI, nI_shl, nI_shr, lg_cmp0, nx_and, nI_eq1, bI_0, bI_1, bf_or, eq_self, or_true, true_or, kdM_0, kdM_1, kdM_2, kdM_3, kdM_4, kdM_5, kdM_6, kdM_7, kdM_8, kdM_9, kdM_10, kdM_11, kdM_12, kdM_13, kdM_14, kdM_15, kdM_16, kdM_17, kdM_18, kdM_19, kdM_20, kdM_21, kdM_22, kdM_23, kdM_24, rM_0, rM_1, rM_5, rM_6, rM_7, rM_10, rM_11, rM_12, rM_13, rM_14, rM_15, rM_16, rM_18, rM_19, rM_20, rM_21, rM_23, rM_24, rM_25, rM_26, rM_28, rM_29, rM_30, rM_31, up_at, up_II, up_III, up_I, up_I2, up_L, up_L1, up_L3, up_R, up_R1, up_R2, Nat.reduceEqDiff, and_false, false_and, reduceIte, eq_self, mQ_buffer_ hb, mQ_buffer_ hb1]
  unfold rdC at hQ
  by_cases e0 : 0 < b.length ∧ bg b 0 = 197
  · rw [if_pos e0] at hQ
    rw [bz_in e0.1, if_pos (by rw [e0.2])]
    by_cases e1 : 1 < b.length ∧ bg b 1 ≤ 24
    · rw [if_pos e1] at hQ
      rw [bz_in e1.1]
      simp (disch := omega) only [nI_add, pk_mul, nI_lt', nI_le', nI_eq', nI_lt0, nI_ge0, nI_eq0, nI_gt0, nI_le0, nI_ne_m1, m1_ne_nI, m1_lt_nI, m1_le_nI, nI_lt_m1, nI_le_m1, nI_clamp, ax_in_nI, nI_shl, nI_shr, lg_cmp0, nx_and, nI_eq1, bI_0, bI_1, bf_or, eq_self, or_true, true_or, ax_clr_i, ax_clr_l, ax_clr_r, ax_clr_n, ax_ct_0, ax_ct_i, ax_ct_l, ax_ct_r, va_rf_s, Option.toList_some, Option.toList_none, List.cons_append, List.nil_append, and_true, true_and, and_self, ite_true, ite_false, if_true, if_false, Nat.reduceAdd, Nat.reduceLeDiff, Nat.reduceMul, Nat.reduceLT]
      rw [if_pos (by omega)]
      simp (disch := omega) only [sQ_readConstants_50, sQ_readConstants_51, ax_clr_i, ax_clr_l, ax_clr_r, ax_clr_n, ax_ct_0, ax_ct_i, ax_ct_l, ax_ct_r, va_rf_s, Option.toList_some, Option.toList_none, List.cons_append, List.nil_append, and_true, true_and, and_self, ite_true, ite_false, if_true, if_false, Nat.reduceAdd, Nat.reduceLeDiff, Nat.reduceMul, Nat.reduceLT]
      have hn : (ax_upI h 0 4 (nI (bg b 1))).1 0 4 = nI (bg b 1) := up_at _ _ _ _
      have hb3 := hb.fr (frM.cn (x := nI (bg b 1)))
      have e9 : ax_upI (ax_upI h 0 4 (nI (bg b 1))) 0 3 (nI 2) = ax_rw (ax_upI (ax_upI h 0 4 (nI (bg b 1))) 0 3 (nI 2)) 3 (fun k => if k < 0 then nI 0 else (ax_upI (ax_upI h 0 4 (nI (bg b 1))) 0 3 (nI 2)).1 3 k) := by
        simp only [Nat.not_lt_zero, if_false]
        exact (rw_self _ 3).symm
      have e8 : ax_rw (ax_upI (ax_upI h 0 4 (nI (bg b 1))) 0 3 (nI 2)) 3 (fun k => if k < 26 then nI 0 else (ax_upI (ax_upI h 0 4 (nI (bg b 1))) 0 3 (nI 2)).1 3 k) = ax_upI (ax_rw (ax_upI h 0 4 (nI (bg b 1))) 3 (fun k => if k < 26 then nI 0 else h.1 3 k)) 0 3 (nI 2) := by
        unfold ax_rw ax_upI
        refine Prod.ext ?_ rfl
        funext a b
        by_cases e : a = 3
        · subst e; simp
        · simp [e]
      have e7 := mQ_readConstants_z (d := d) (Q := Q) (h := ax_upI (ax_upI h 0 4 (nI (bg b 1))) 0 3 (nI 2)) (by rw [up_I2, up_I2]; exact h2) 26 0 (by omega)
      rw [← e9, e8] at e7
      rw [e7]
      simp (disch := omega) only [sQ_readConstants_71, sQ_readConstants_72, ax_clr_i, ax_clr_l, ax_clr_r, ax_clr_n, ax_ct_0, ax_ct_i, ax_ct_l, ax_ct_r, va_rf_s, Option.toList_some, Option.toList_none, List.cons_append, List.nil_append, and_true, true_and, and_self, ite_true, ite_false, if_true, if_false, Nat.reduceAdd, Nat.reduceLeDiff, Nat.reduceMul, Nat.reduceLT]
      rw [mQ_readConstants_l hb3 (bg b 1) hn (by omega) 26 1 2 _ (by omega) (by omega) (by omega)]
      exact hQ _ (frM.cn.tr (frM.row.tr frM.at)) (up_at _ _ _ _) (fun _ => rfl)
    · rw [if_neg e1] at hQ
      have h9 := hQ (ax_upI (ax_upI h 0 3 (nI 1)) 0 4 (bz b 1)) (frM.at.tr frM.cn) (by simp [up_I]) (fun hh => by cases hh)
      by_cases e2 : 1 < b.length
      · rw [bz_in e2] at h9 ⊢
        simp (disch := omega) only [nI_add, pk_mul, nI_lt', nI_le', nI_eq', nI_lt0, nI_ge0, nI_eq0, nI_gt0, nI_le0, nI_ne_m1, m1_ne_nI, m1_lt_nI, m1_le_nI, nI_lt_m1, nI_le_m1, nI_clamp, ax_in_nI, nI_shl, nI_shr, lg_cmp0, nx_and, nI_eq1, bI_0, bI_1, bf_or, eq_self, or_true, true_or, ax_clr_i, ax_clr_l, ax_clr_r, ax_clr_n, ax_ct_0, ax_ct_i, ax_ct_l, ax_ct_r, va_rf_s, Option.toList_some, Option.toList_none, List.cons_append, List.nil_append, and_true, true_and, and_self, ite_true, ite_false, if_true, if_false, Nat.reduceAdd, Nat.reduceLeDiff, Nat.reduceMul, Nat.reduceLT]
        rw [if_neg (by omega)]
        exact h9
      · rw [bz_out e2] at h9 ⊢
        simp (disch := omega) only [nI_add, pk_mul, nI_lt', nI_le', nI_eq', nI_lt0, nI_ge0, nI_eq0, nI_gt0, nI_le0, nI_ne_m1, m1_ne_nI, m1_lt_nI, m1_le_nI, nI_lt_m1, nI_le_m1, nI_clamp, ax_in_nI, nI_shl, nI_shr, lg_cmp0, nx_and, nI_eq1, bI_0, bI_1, bf_or, eq_self, or_true, true_or, ax_clr_i, ax_clr_l, ax_clr_r, ax_clr_n, ax_ct_0, ax_ct_i, ax_ct_l, ax_ct_r, va_rf_s, Option.toList_some, Option.toList_none, List.cons_append, List.nil_append, and_true, true_and, and_self, ite_true, ite_false, if_true, if_false, Nat.reduceAdd, Nat.reduceLeDiff, Nat.reduceMul, Nat.reduceLT]
        simp
        exact h9
  · rw [if_neg e0] at hQ
    have h9 := hQ h frM.rf ha (fun hh => by cases hh)
    by_cases e2 : 0 < b.length
    · rw [bz_in e2, if_neg (fun hh => e0 ⟨e2, (nI_eq (by omega) (by omega)).mp hh⟩)]
      exact h9
    · rw [bz_out e2, if_neg (by decide)]
      exact h9
end MC
