/-! the model: type, pattern, rule -/
theorem patM.keep {h h' : ax_H} {ps : List (List Nat)} {ty : List Nat} (hp : patM h ps ty) (f : ∀ r k, (r = 0 ∧ k = 8) ∨ r = 4 ∨ r = 5 → h'.1 r k = h.1 r k) : patM h' ps ty := by
  have g : ∀ p t, pat1 h p t → pat1 h' p t := fun p t hp => ⟨by rw [f _ _ (by omega)]; exact hp.1, hp.2.1, fun i hi => by rw [f _ _ (by omega)]; exact hp.2.2 i hi⟩
  exact ⟨by rw [f _ _ (by omega)]; exact hp.1, hp.2.1, fun p h1 => g _ _ (hp.2.2.1 p h1), g _ _ hp.2.2.2⟩
theorem bufM.keep {h h' : ax_H} {b : List Nat} (hb : bufM h b) (f0 : h'.2.2 = h.2.2) (f : ∀ r k, r = 1 ∨ r = 2 → h'.1 r k = h.1 r k) : bufM h' b := by
  obtain ⟨a1, a2, a3, a4, a5⟩ := hb
  exact ⟨by rw [f0]; exact a1, by rw [f _ _ (by omega)]; exact a2, a3, fun j hj => by rw [f _ _ (by omega)]; exact a4 j hj, a5⟩
theorem clsM.keep {h h' : ax_H} {us : List (List Nat)} (hc : clsM h us) (f0 : h'.2.2 = h.2.2) (f : ∀ r k, (r = 0 ∧ k = 2) ∨ r = 1 → h'.1 r k = h.1 r k) : clsM h' us := by
  obtain ⟨a1, a2, a3, a4, a5⟩ := hc
  refine ⟨by rw [f0]; exact a1, ?_, a3, a4, fun c hc => ?_⟩
  · rw [f _ _ (by omega)]; exact a2
  · obtain ⟨b1, b2, b3, b4⟩ := (a5 c hc).1
    exact ⟨⟨by rw [f0]; exact b1, b2, fun j hj => by rw [f _ _ (by omega)]; exact b3 j hj, b4⟩, (a5 c hc).2⟩
theorem knM.keep {h h' : ax_H} {r : Nat} {K : List oc4} (hk : knM h r K) (f : ∀ a k, a = 9 ∨ a = 10 → h'.1 a k = h.1 a k) (g : ∀ a k, a = 11 ∨ a = 12 → h'.2.1 a k = h.2.1 a k) : knM h' r K :=
  ⟨by rw [f _ _ (by omega)]; exact hk.1, fun i hi => by rw [f _ _ (by omega), g _ _ (by omega), g _ _ (by omega)]; exact hk.2 i hi⟩
theorem rulM.keep {h h' : ax_H} {n : Nat} {rs : List rl4} (hk : rulM h n rs) (f : ∀ a k, (a = 0 ∧ k = 9) ∨ (6 ≤ a ∧ a ≤ 10) → h'.1 a k = h.1 a k) (g : ∀ a k, a = 11 ∨ a = 12 → h'.2.1 a k = h.2.1 a k) : rulM h' n rs := by
  refine ⟨by rw [f _ _ (by omega)]; exact hk.1, hk.2.1, fun r hr => ?_, fun r h1 h2 => by rw [f _ _ (by omega)]; exact hk.2.2.2 r h1 h2⟩
  obtain ⟨c1, c2, c3, c4, c5⟩ := hk.2.2.1 r hr
  exact ⟨by rw [f _ _ (by omega)]; exact c1, by rw [f _ _ (by omega)]; exact c2, by rw [f _ _ (by omega)]; exact c3, c4.keep (fun a k q => f a k (by omega)) g, c5⟩
theorem rlv.le {n m : Nat} {x : rl4} (h : rlv n x) (hm : n ≤ m) : rlv m x := by
  refine ⟨?_, h.2⟩
  rcases h.1 with q | q
  · exact Or.inl ⟨q.1, by omega, by omega⟩
  · exact Or.inr q
theorem rulM.le {h : ax_H} {n m : Nat} {rs : List rl4} (hk : rulM h n rs) (hm : n ≤ m) : rulM h m rs :=
  ⟨hk.1, hk.2.1, fun r hr => by obtain ⟨c1, c2, c3, c4, c5⟩ := hk.2.2.1 r hr; exact ⟨c1, c2, c3, c4, c5.le hm⟩, hk.2.2.2⟩
theorem cod_le (c : Nat) : cod c ≤ 55 := by unfold cod; (repeat' split) <;> omega
theorem chp_of (n : Nat) (h : ¬ cod n = 0) : chp (cod n) = n := by
  unfold cod at h ⊢
  unfold chp chr
  by_cases a1 : 97 ≤ n ∧ n ≤ 122
  · simp only [if_pos a1]; (repeat' split) <;> omega
  · by_cases a2 : 65 ≤ n ∧ n ≤ 90
    · simp only [if_neg a1, if_pos a2]; (repeat' split) <;> omega
    · by_cases a3 : n = 35
      · subst a3; decide
      · by_cases a4 : n = 42
        · subst a4; decide
        · by_cases a5 : n = 46
          · subst a5; decide
          · rw [if_neg a1, if_neg a2, if_neg a3, if_neg a4, if_neg a5] at h; exact absurd rfl h
theorem bg_app {t : List Nat} {x i : Nat} (hi : i < t.length + 1) : bg (t ++ [x]) i = if i = t.length then x else bg t i := by
  unfold bg
  rw [List.getD_eq_getElem?_getD, List.getD_eq_getElem?_getD]
  by_cases e : i = t.length
  · subst e; simp
  · rw [if_neg e, List.getElem?_append_left (by omega)]
theorem pA_app {ps : List (List Nat)} {x : List Nat} {i : Nat} (hi : i < ps.length + 1) : pA (ps ++ [x]) i = if i = ps.length then x else pA ps i := by
  unfold pA
  rw [List.getD_eq_getElem?_getD, List.getD_eq_getElem?_getD]
  by_cases e : i = ps.length
  · subst e; simp
  · rw [if_neg e, List.getElem?_append_left (by omega)]
theorem rA_app {rs : List rl4} {x : rl4} {i : Nat} (hi : i < rs.length + 1) : rA (rs ++ [x]) i = if i = rs.length then x else rA rs i := by
  unfold rA
  rw [List.getD_eq_getElem?_getD, List.getD_eq_getElem?_getD]
  by_cases e : i = rs.length
  · subst e; simp
  · rw [if_neg e, List.getElem?_append_left (by omega)]
theorem vP.app {t : List Nat} (h : vP t) {c : Nat} (hl : t.length < 10) (h1 : 1 ≤ c) (h2 : c ≤ 55) : vP (t ++ [c]) := by
  refine ⟨⟨by simp; omega, fun x hx => ?_⟩, fun x hx => ?_⟩
  · rcases List.mem_append.mp hx with q | q
    · exact h.1.2 x q
    · simp at q; omega
  · rcases List.mem_append.mp hx with q | q
    · exact h.2 x q
    · simp at q; omega
theorem isTy (n : Nat) : (isLt n || decide (n = 46) || decide (n = 42) || decide (n = 35)) = decide (¬ cod n = 0) := by
  unfold isLt cod
  by_cases a1 : 97 ≤ n ∧ n ≤ 122
  · simp [a1]; omega
  · by_cases a2 : 65 ≤ n ∧ n ≤ 90
    · simp [a1, a2]; omega
    · by_cases a3 : n = 35
      · subst a3; decide
      · by_cases a4 : n = 42
        · subst a4; decide
        · by_cases a5 : n = 46
          · subst a5; decide
          · simp [a1, a2, a3, a4, a5]
def oPat (ps : List (List Nat)) (ty : List Nat) : Bool := decide (¬ ty = [] ∧ ps.length < 6)
def nPs (ps : List (List Nat)) (ty : List Nat) : List (List Nat) := if oPat ps ty = true then ps ++ [ty] else ps
def nTy (ps : List (List Nat)) (ty : List Nat) : List Nat := if oPat ps ty = true then [] else ty
def aPat (ps : List (List Nat)) (ty : List Nat) : Int32 := if oPat ps ty = true then nI ps.length else -1
section MP
variable {d : Nat} {Q : Option Value → ax_H → Prop} {b : List Nat} {us ps : List (List Nat)} {ty : List Nat} {rs : List rl4}
theorem mQ_typeable_ {h : ax_H} (n : Nat) (hn : n < 2 ^ 16) : ax_wp kM (d + 1) mQ_typeable 0 [some (.int (nI n))] [] h Q = Q (some (.int (bI (decide (¬ cod n = 0))))) h := by
  rw [← isTy]
  simp (disch := omega) only [sQ_typeable_0, sQ_typeable_1, sQ_typeable_4, sQ_typeable_7, sQ_typeable_8, sQ_typeable_10, sQ_typeable_13, sQ_typeable_14, sQ_typeable_16, sQ_typeable_19, sQ_typeable_20, sQ_typeable_22, sQ_typeable_25, sQ_typeable_26, sQ_typeable_29, sQ_typeable_30, ax_clr_i, ax_clr_l, ax_clr_r, ax_clr_n, ax_ct_0, ax_ct_i, ax_ct_l, ax_ct_r, va_rf_s, Option.toList_some, Option.toList_none, List.cons_append, List.nil_append, and_true, true_and, and_self, ite_true, ite_false, if_true, if_false, Nat.reduceAdd, Nat.reduceLeDiff, Nat.reduceMul, Nat.reduceLT, nI_add, pk_mul, nI_lt', nI_le', nI_eq', nI_lt0, nI_ge0, nI_eq0, nI_gt0, nI_le0, nI_ne_m1, m1_ne_nI, m1_lt_nI, m1_le_nI, nI_lt_m1, nI_le_m1, nI_clamp, ax_in_nI, nI_shl, nI_shr, lg_cmp0, nx_and, nI_eq1, bI_0, bI_1, bf_or, eq_self, or_true, true_or, mQ_letter_ n hn]
  by_cases a1 : isLt n = true
  · simp [a1, bI]
  · by_cases a5 : n = 46
    · simp [a1, a5, bI]
    · by_cases a4 : n = 42
      · simp [a1, a4, a5, bI]
      · by_cases a3 : n = 35
        · simp [a1, a3, a4, a5, bI]
        · simp [a1, a3, a4, a5, bI]
theorem mQ_type_ {h : ax_H} (hs : stM h b us ps ty rs) (n : Nat) (hn : n < 2 ^ 16) (hQ : ∀ h', stM h' b us ps (nTyp ty n) rs → Q (some (.int (bI (oTyp ty n)))) h') : ax_wp kM (d + 2) mQ_type 0 [some (.ref 0), some (.int (nI n))] [] h Q := by
  have hr := hs.1.1
  obtain ⟨p1, p2, p3⟩ := hs.2.2.1.2.2.2
  have h10 := p2.1.1
  unfold nTyp at hQ
  simp (disch := omega) only [sQ_type_0, sQ_type_1, sQ_type_4, ax_clr_i, ax_clr_l, ax_clr_r, ax_clr_n, ax_ct_0, ax_ct_i, ax_ct_l, ax_ct_r, va_rf_s, Option.toList_some, Option.toList_none, List.cons_append, List.nil_append, and_true, true_and, and_self, ite_true, ite_false, if_true, if_false, Nat.reduceAdd, Nat.reduceLeDiff, Nat.reduceMul, Nat.reduceLT, bI_0, mQ_typeable_ n hn]
  by_cases e : ¬ cod n = 0
  · rw [decide_eq_true e, if_neg (by simp)]
    simp (disch := omega) only [sQ_type_7, sQ_type_8, sQ_type_11, sQ_type_13, sQ_type_14, sQ_type_16, ax_clr_i, ax_clr_l, ax_clr_r, ax_clr_n, ax_ct_0, ax_ct_i, ax_ct_l, ax_ct_r, va_rf_s, Option.toList_some, Option.toList_none, List.cons_append, List.nil_append, and_true, true_and, and_self, ite_true, ite_false, if_true, if_false, Nat.reduceAdd, Nat.reduceLeDiff, Nat.reduceMul, Nat.reduceLT, kdM_0, kdM_1, kdM_2, kdM_3, kdM_4, kdM_5, kdM_6, kdM_7, kdM_8, kdM_9, kdM_10, kdM_11, kdM_12, kdM_13, kdM_14, kdM_15, kdM_16, kdM_17, kdM_18, kdM_19, kdM_20, kdM_21, kdM_22, kdM_23, kdM_24, rM_0, rM_1, rM_5, rM_6, rM_7, rM_10, rM_11, rM_12, rM_13, rM_14, rM_15, rM_16, rM_18, rM_19, rM_20, rM_21, rM_23, rM_24, rM_25, rM_26, rM_28, rM_29, rM_30, rM_31, lt_T, le_T, lt_F, le_F, eq_F, eq_T, hr, p1, nI_clamp, ax_in_nI, nI_lt']
    by_cases e2 : ty.length < 10
    · rw [if_pos e2]
      have o : oTyp ty n = true := by unfold oTyp; exact decide_eq_true ⟨e, e2⟩
      rw [o] at hQ
      rw [if_pos rfl] at hQ
      simp (disch := omega) only [sQ_type_21, sQ_type_22, sQ_type_25, sQ_type_27, sQ_type_28, sQ_type_31, sQ_type_33, sQ_type_34, sQ_type_35, sQ_type_36, sQ_type_37, sQ_type_38, sQ_type_41, sQ_type_43, sQ_type_44, sQ_type_45, sQ_type_46, sQ_type_47, sQ_type_48, sQ_type_49, ax_clr_i, ax_clr_l, ax_clr_r, ax_clr_n, ax_ct_0, ax_ct_i, ax_ct_l, ax_ct_r, va_rf_s, Option.toList_some, Option.toList_none, List.cons_append, List.nil_append, and_true, true_and, and_self, ite_true, ite_false, if_true, if_false, Nat.reduceAdd, Nat.reduceLeDiff, Nat.reduceMul, Nat.reduceLT, kdM_0, kdM_1, kdM_2, kdM_3, kdM_4, kdM_5, kdM_6, kdM_7, kdM_8, kdM_9, kdM_10, kdM_11, kdM_12, kdM_13, kdM_14, kdM_15, kdM_16, kdM_17, kdM_18, kdM_19, kdM_20, kdM_21, kdM_22, kdM_23, kdM_24, rM_0, rM_1, rM_5, rM_6, rM_7, rM_10, rM_11, rM_12, rM_13, rM_14, rM_15, rM_16, rM_18, rM_19, rM_20, rM_21, rM_23, rM_24, rM_25, rM_26, rM_28, rM_29, rM_30, rM_31, nI_add, pk_mul, nI_lt', nI_le', nI_eq', nI_lt0, nI_ge0, nI_eq0, nI_gt0, nI_le0, nI_ne_m1, m1_ne_nI, m1_lt_nI, m1_le_nI, nI_lt_m1, nI_le_m1, nI_clamp, ax_in_nI, nI_shl, nI_shr, lg_cmp0, nx_and, nI_eq1, bI_0, bI_1, bf_or, eq_self, or_true, true_or, lt_T, le_T, lt_F, le_F, eq_F, eq_T, hr, p1, up_I, up_I2, Nat.reduceEqDiff, and_false, false_and, reduceIte]
      refine hQ _ ⟨hs.1.keep rfl (fun r k q => ?_), hs.2.1.keep rfl (fun r k q => ?_), ?_, hs.2.2.2.keep (fun r k q => ?_) (fun _ _ _ => rfl)⟩
      · simp only [up_I]; rw [if_neg (by omega), if_neg (by omega)]
      · simp only [up_I]; rw [if_neg (by omega), if_neg (by omega)]
      · obtain ⟨q1, q2, q3, q4⟩ := hs.2.2.1
        refine ⟨by simp only [up_I]; rw [if_neg (by omega), if_neg (by omega)]; exact q1, q2, fun p hp => ?_, ?_, p2.app e2 (by omega) (cod_le n), fun i hi => ?_⟩
        · obtain ⟨r1, r2, r3⟩ := q3 p hp
          have := r2.1.1
          exact ⟨by simp only [up_I]; rw [if_neg (by omega), if_neg (by omega)]; exact r1, r2, fun i hi => by simp only [up_I]; rw [if_neg (by omega), if_neg (by omega)]; exact r3 i hi⟩
        · simp [up_I]
        · simp only [List.length_append, List.length_cons, List.length_nil] at hi
          simp only [up_I]
          rw [if_neg (by omega), bg_app (by omega)]
          by_cases e3 : i = ty.length
          · rw [if_pos ⟨trivial, by omega⟩, if_pos e3, chp_of n e]
          · rw [if_neg (by omega), if_neg e3]; exact p3 i (by omega)
      · simp only [up_I]; rw [if_neg (by omega), if_neg (by omega)]
    · rw [if_neg e2]
      have o : oTyp ty n = false := by unfold oTyp; exact decide_eq_false (fun q => e2 q.2)
      rw [o] at hQ
      rw [if_neg (by simp)] at hQ
      simp (disch := omega) only [sQ_type_19, sQ_type_20, ax_clr_i, ax_clr_l, ax_clr_r, ax_clr_n, ax_ct_0, ax_ct_i, ax_ct_l, ax_ct_r, va_rf_s, Option.toList_some, Option.toList_none, List.cons_append, List.nil_append, and_true, true_and, and_self, ite_true, ite_false, if_true, if_false, Nat.reduceAdd, Nat.reduceLeDiff, Nat.reduceMul, Nat.reduceLT, nI_add, pk_mul, nI_lt', nI_le', nI_eq', nI_lt0, nI_ge0, nI_eq0, nI_gt0, nI_le0, nI_ne_m1, m1_ne_nI, m1_lt_nI, m1_le_nI, nI_lt_m1, nI_le_m1, nI_clamp, ax_in_nI, nI_shl, nI_shr, lg_cmp0, nx_and, nI_eq1, bI_0, bI_1, bf_or, eq_self, or_true, true_or]
      exact hQ h hs
  · rw [decide_eq_false e, if_pos rfl]
    have o : oTyp ty n = false := by unfold oTyp; exact decide_eq_false (fun q => e q.1)
    rw [o] at hQ
    rw [if_neg (by simp)] at hQ
    simp (disch := omega) only [sQ_type_19, sQ_type_20, ax_clr_i, ax_clr_l, ax_clr_r, ax_clr_n, ax_ct_0, ax_ct_i, ax_ct_l, ax_ct_r, va_rf_s, Option.toList_some, Option.toList_none, List.cons_append, List.nil_append, and_true, true_and, and_self, ite_true, ite_false, if_true, if_false, Nat.reduceAdd, Nat.reduceLeDiff, Nat.reduceMul, Nat.reduceLT, nI_add, pk_mul, nI_lt', nI_le', nI_eq', nI_lt0, nI_ge0, nI_eq0, nI_gt0, nI_le0, nI_ne_m1, m1_ne_nI, m1_lt_nI, m1_le_nI, nI_lt_m1, nI_le_m1, nI_clamp, ax_in_nI, nI_shl, nI_shr, lg_cmp0, nx_and, nI_eq1, bI_0, bI_1, bf_or, eq_self, or_true, true_or]
    exact hQ h hs
theorem mQ_pattern_l (hn : ps.length < 6) : ∀ (m k : Nat) (h : ax_H), k + m = 10 → stM h b us ps ty rs → (∀ i, i < k → h.1 4 (10 * ps.length + i) = h.1 4 (60 + i)) → (∀ h', stM h' b us ps ty rs → (∀ i, i < 10 → h'.1 4 (10 * ps.length + i) = h'.1 4 (60 + i)) → ax_wp kM d mQ_pattern 58 [some (.ref 0), some (.int (nI 10))] [] h' Q) → ax_wp kM d mQ_pattern 23 [some (.ref 0), some (.int (nI k))] [] h Q
  | 0, k, h, hk, hs, hi, hQ => by
    rw [sQ_pattern_23]
    simp (disch := omega) only [sQ_pattern_24, sQ_pattern_26, ax_clr_i, ax_clr_l, ax_clr_r, ax_clr_n, ax_ct_0, ax_ct_i, ax_ct_l, ax_ct_r, va_rf_s, Option.toList_some, Option.toList_none, List.cons_append, List.nil_append, and_true, true_and, and_self, ite_true, ite_false, if_true, if_false, Nat.reduceAdd, Nat.reduceLeDiff, Nat.reduceMul, Nat.reduceLT, nI_add, pk_mul, nI_lt', nI_le', nI_eq', nI_lt0, nI_ge0, nI_eq0, nI_gt0, nI_le0, nI_ne_m1, m1_ne_nI, m1_lt_nI, m1_le_nI, nI_lt_m1, nI_le_m1, nI_clamp, ax_in_nI, nI_shl, nI_shr, lg_cmp0, nx_and, nI_eq1, bI_0, bI_1, bf_or, eq_self, or_true, true_or, lt_T, le_T, lt_F, le_F, eq_F, eq_T]
    rw [show k = 10 by omega] at hi ⊢
    exact hQ h hs hi
  | m + 1, k, h, hk, hs, hi, hQ => by
    have hr := hs.1.1
    have p1 := hs.2.2.1.1
    rw [sQ_pattern_23]
    simp (disch := omega) only [sQ_pattern_24, sQ_pattern_26, sQ_pattern_29, sQ_pattern_30, sQ_pattern_33, sQ_pattern_35, sQ_pattern_36, sQ_pattern_39, sQ_pattern_40, sQ_pattern_41, sQ_pattern_42, sQ_pattern_43, sQ_pattern_46, sQ_pattern_48, sQ_pattern_49, sQ_pattern_50, sQ_pattern_51, sQ_pattern_52, sQ_pattern_55, ax_clr_i, ax_clr_l, ax_clr_r, ax_clr_n, ax_ct_0, ax_ct_i, ax_ct_l, ax_ct_r, va_rf_s, Option.toList_some, Option.toList_none, List.cons_append, List.nil_append, and_true, true_and, and_self, ite_true, ite_false, if_true, if_false, Nat.reduceAdd, Nat.reduceLeDiff, Nat.reduceMul, Nat.reduceLT, nI_add, pk_mul, nI_lt', nI_le', nI_eq', nI_lt0, nI_ge0, nI_eq0, nI_gt0, nI_le0, nI_ne_m1, m1_ne_nI, m1_lt_nI, m1_le_nI, nI_lt_m1, nI_le_m1, nI_clamp, ax_in_nI, nI_shl, nI_shr, lg_cmp0, nx_and, nI_eq1, bI_0, bI_1, bf_or, eq_self, or_true, true_or, kdM_0, kdM_1, kdM_2, kdM_3, kdM_4, kdM_5, kdM_6, kdM_7, kdM_8, kdM_9, kdM_10, kdM_11, kdM_12, kdM_13, kdM_14, kdM_15, kdM_16, kdM_17, kdM_18, kdM_19, kdM_20, kdM_21, kdM_22, kdM_23, kdM_24, rM_0, rM_1, rM_5, rM_6, rM_7, rM_10, rM_11, rM_12, rM_13, rM_14, rM_15, rM_16, rM_18, rM_19, rM_20, rM_21, rM_23, rM_24, rM_25, rM_26, rM_28, rM_29, rM_30, rM_31, lt_T, le_T, lt_F, le_F, eq_F, eq_T, hr, p1]
    refine mQ_pattern_l hn m (k + 1) _ (by omega) ⟨hs.1.keep rfl (fun r j q => ?_), hs.2.1.keep rfl (fun r j q => ?_), ?_, hs.2.2.2.keep (fun r j q => ?_) (fun _ _ _ => rfl)⟩ (fun i h1 => ?_) hQ
    · simp only [up_I]; rw [if_neg (by omega)]
    · simp only [up_I]; rw [if_neg (by omega)]
    · obtain ⟨q1, q2, q3, q4⟩ := hs.2.2.1
      have g : ∀ p t, pat1 h p t → (p < ps.length ∨ p = 6) → pat1 (ax_upI h 4 (10 * ps.length + k) (h.1 4 (60 + k))) p t := fun p t hp h6 => by
        have := hp.2.1.1.1
        exact ⟨by rw [up_I, if_neg (by omega)]; exact hp.1, hp.2.1, fun i hi => by rw [up_I, if_neg (by omega)]; exact hp.2.2 i hi⟩
      exact ⟨by rw [up_I, if_neg (by omega)]; exact q1, q2, fun p h1 => g _ _ (q3 p h1) (Or.inl h1), g _ _ q4 (Or.inr rfl)⟩
    · simp only [up_I]; rw [if_neg (by omega)]
    · simp only [up_I]
      rw [if_neg (show ¬ (True ∧ 60 + i = 10 * ps.length + k) by omega)]
      by_cases e : i = k
      · subst e; rw [if_pos ⟨trivial, rfl⟩]
      · rw [if_neg (by omega)]; exact hi i (by omega)
theorem mQ_pattern_ {h : ax_H} (hs : stM h b us ps ty rs) (hQ : ∀ h', stM h' b us (nPs ps ty) (nTy ps ty) rs → Q (some (.int (aPat ps ty))) h') : ax_wp kM d mQ_pattern 0 [some (.ref 0), none] [] h Q := by
  have hr := hs.1.1
  obtain ⟨p1, p2, p3⟩ := hs.2.2.1.2.2.2
  obtain ⟨n1, n2, -⟩ := hs.2.2.1
  have h10 := p2.1.1
  have h0 : (ty = []) = (ty.length = 0) := propext List.length_eq_zero_iff.symm
  unfold nPs nTy aPat oPat at hQ
  simp only [h0] at hQ
  have no : ax_wp kM d mQ_pattern 19 [some (.ref 0), none] [] h Q = Q (some (.int (-1))) h := by
    simp (disch := omega) only [sQ_pattern_19, sQ_pattern_20, ax_clr_i, ax_clr_l, ax_clr_r, ax_clr_n, ax_ct_0, ax_ct_i, ax_ct_l, ax_ct_r, va_rf_s, Option.toList_some, Option.toList_none, List.cons_append, List.nil_append, and_true, true_and, and_self, ite_true, ite_false, if_true, if_false, Nat.reduceAdd, Nat.reduceLeDiff, Nat.reduceMul, Nat.reduceLT, nI_add, pk_mul, nI_lt', nI_le', nI_eq', nI_lt0, nI_ge0, nI_eq0, nI_gt0, nI_le0, nI_ne_m1, m1_ne_nI, m1_lt_nI, m1_le_nI, nI_lt_m1, nI_le_m1, nI_clamp, ax_in_nI, nI_shl, nI_shr, lg_cmp0, nx_and, nI_eq1, bI_0, bI_1, bf_or, eq_self, or_true, true_or]
  simp (disch := omega) only [sQ_pattern_0, sQ_pattern_1, sQ_pattern_4, sQ_pattern_6, sQ_pattern_7, ax_clr_i, ax_clr_l, ax_clr_r, ax_clr_n, ax_ct_0, ax_ct_i, ax_ct_l, ax_ct_r, va_rf_s, Option.toList_some, Option.toList_none, List.cons_append, List.nil_append, and_true, true_and, and_self, ite_true, ite_false, if_true, if_false, Nat.reduceAdd, Nat.reduceLeDiff, Nat.reduceMul, Nat.reduceLT, kdM_0, kdM_1, kdM_2, kdM_3, kdM_4, kdM_5, kdM_6, kdM_7, kdM_8, kdM_9, kdM_10, kdM_11, kdM_12, kdM_13, kdM_14, kdM_15, kdM_16, kdM_17, kdM_18, kdM_19, kdM_20, kdM_21, kdM_22, kdM_23, kdM_24, rM_0, rM_1, rM_5, rM_6, rM_7, rM_10, rM_11, rM_12, rM_13, rM_14, rM_15, rM_16, rM_18, rM_19, rM_20, rM_21, rM_23, rM_24, rM_25, rM_26, rM_28, rM_29, rM_30, rM_31, lt_T, le_T, lt_F, le_F, eq_F, eq_T, hr, p1, nI_clamp, ax_in_nI, nI_eq0]
  by_cases e1 : ty.length = 0
  · rw [decide_eq_false (fun q => q.1 e1)] at hQ
    rw [if_pos e1, no]
    exact hQ h hs
  · rw [if_neg e1]
    simp (disch := omega) only [sQ_pattern_10, sQ_pattern_11, sQ_pattern_14, sQ_pattern_16, ax_clr_i, ax_clr_l, ax_clr_r, ax_clr_n, ax_ct_0, ax_ct_i, ax_ct_l, ax_ct_r, va_rf_s, Option.toList_some, Option.toList_none, List.cons_append, List.nil_append, and_true, true_and, and_self, ite_true, ite_false, if_true, if_false, Nat.reduceAdd, Nat.reduceLeDiff, Nat.reduceMul, Nat.reduceLT, kdM_0, kdM_1, kdM_2, kdM_3, kdM_4, kdM_5, kdM_6, kdM_7, kdM_8, kdM_9, kdM_10, kdM_11, kdM_12, kdM_13, kdM_14, kdM_15, kdM_16, kdM_17, kdM_18, kdM_19, kdM_20, kdM_21, kdM_22, kdM_23, kdM_24, rM_0, rM_1, rM_5, rM_6, rM_7, rM_10, rM_11, rM_12, rM_13, rM_14, rM_15, rM_16, rM_18, rM_19, rM_20, rM_21, rM_23, rM_24, rM_25, rM_26, rM_28, rM_29, rM_30, rM_31, n1, nI_eq']
    by_cases e2 : ps.length = 6
    · rw [decide_eq_false (fun q => by omega)] at hQ
      rw [if_pos e2, no]
      exact hQ h hs
    · rw [decide_eq_true ⟨e1, by omega⟩, if_pos rfl, if_pos rfl, if_pos rfl] at hQ
      rw [if_neg e2]
      simp (disch := omega) only [sQ_pattern_21, sQ_pattern_22, ax_clr_i, ax_clr_l, ax_clr_r, ax_clr_n, ax_ct_0, ax_ct_i, ax_ct_l, ax_ct_r, va_rf_s, Option.toList_some, Option.toList_none, List.cons_append, List.nil_append, and_true, true_and, and_self, ite_true, ite_false, if_true, if_false, Nat.reduceAdd, Nat.reduceLeDiff, Nat.reduceMul, Nat.reduceLT]
      refine mQ_pattern_l (by omega) 10 0 h (by omega) hs (fun i hi => by omega) (fun h1 hs1 hi => ?_)
      have hr1 := hs1.1.1
      obtain ⟨p4, p5, p6⟩ := hs1.2.2.1.2.2.2
      obtain ⟨n4, n5, n6, -⟩ := hs1.2.2.1
      simp (disch := omega) only [sQ_pattern_58, sQ_pattern_59, sQ_pattern_62, sQ_pattern_63, sQ_pattern_66, sQ_pattern_67, sQ_pattern_70, sQ_pattern_72, sQ_pattern_73, sQ_pattern_74, sQ_pattern_75, sQ_pattern_78, sQ_pattern_80, sQ_pattern_81, sQ_pattern_82, sQ_pattern_83, sQ_pattern_83r, sQ_pattern_84, sQ_pattern_87, sQ_pattern_88, sQ_pattern_89, sQ_pattern_92, sQ_pattern_93, sQ_pattern_96, sQ_pattern_97, sQ_pattern_98, ax_clr_i, ax_clr_l, ax_clr_r, ax_clr_n, ax_ct_0, ax_ct_i, ax_ct_l, ax_ct_r, va_rf_s, Option.toList_some, Option.toList_none, List.cons_append, List.nil_append, and_true, true_and, and_self, ite_true, ite_false, if_true, if_false, Nat.reduceAdd, Nat.reduceLeDiff, Nat.reduceMul, Nat.reduceLT, kdM_0, kdM_1, kdM_2, kdM_3, kdM_4, kdM_5, kdM_6, kdM_7, kdM_8, kdM_9, kdM_10, kdM_11, kdM_12, kdM_13, kdM_14, kdM_15, kdM_16, kdM_17, kdM_18, kdM_19, kdM_20, kdM_21, kdM_22, kdM_23, kdM_24, rM_0, rM_1, rM_5, rM_6, rM_7, rM_10, rM_11, rM_12, rM_13, rM_14, rM_15, rM_16, rM_18, rM_19, rM_20, rM_21, rM_23, rM_24, rM_25, rM_26, rM_28, rM_29, rM_30, rM_31, nI_add, pk_mul, nI_lt', nI_le', nI_eq', nI_lt0, nI_ge0, nI_eq0, nI_gt0, nI_le0, nI_ne_m1, m1_ne_nI, m1_lt_nI, m1_le_nI, nI_lt_m1, nI_le_m1, nI_clamp, ax_in_nI, nI_shl, nI_shr, lg_cmp0, nx_and, nI_eq1, bI_0, bI_1, bf_or, eq_self, or_true, true_or, lt_T, le_T, lt_F, le_F, eq_F, eq_T, hr1, p4, n4, up_I, up_I2, Nat.reduceEqDiff, and_false, false_and, reduceIte, pk_sub, Nat.add_sub_cancel]
      refine hQ _ ⟨hs1.1.keep rfl (fun r j q => ?_), hs1.2.1.keep rfl (fun r j q => ?_), ?_, (hs1.2.2.2.keep (fun r j q => ?_) (fun _ _ _ => rfl)).le (by simp)⟩
      · simp only [up_I]; rw [if_neg (by omega), if_neg (by omega), if_neg (by omega)]
      · simp only [up_I]; rw [if_neg (by omega), if_neg (by omega), if_neg (by omega)]
      · refine ⟨by simp [up_I], by simp; omega, fun p hp => ?_, ⟨by simp only [up_I]; simp, ⟨vT_nil, by simp⟩, fun i hi => by simp at hi⟩⟩
        simp only [List.length_append, List.length_cons, List.length_nil] at hp
        rw [pA_app (by omega)]
        by_cases e : p = ps.length
        · subst e
          rw [if_pos rfl]
          refine ⟨?_, p5, fun i hi2 => ?_⟩
          · simp only [up_I]; rw [if_neg (by omega), if_neg (by omega), if_pos ⟨trivial, trivial⟩]
          · simp only [up_I]; rw [if_neg (by omega), if_neg (by omega), if_neg (by omega)]
            rw [hi i (by omega)]; exact p6 i hi2
        · rw [if_neg e]
          obtain ⟨r1, r2, r3⟩ := n6 p (by omega)
          refine ⟨?_, r2, fun i hi2 => ?_⟩
          · simp only [up_I]; rw [if_neg (by omega), if_neg (by omega), if_neg (by omega)]; exact r1
          · simp only [up_I]; rw [if_neg (by omega), if_neg (by omega), if_neg (by omega)]; exact r3 i hi2
      · simp only [up_I]; (repeat rw [if_neg (by omega)])
end MP
