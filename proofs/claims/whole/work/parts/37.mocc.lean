/-! the model: occurrences -/
abbrev oc4 : Type := Nat × Nat × List Nat × List Nat
def ocA (L : List oc4) (i : Nat) : oc4 := L.getD i (0, 0, [], [])
def ocM (h : ax_H) (L : List oc4) : Prop := h.1 0 17 = nI L.length ∧ L.length ≤ 64 ∧ ∀ i, i < L.length → h.1 13 i = nI (ocA L i).1 ∧ h.1 14 i = nI (ocA L i).2.1 ∧ h.2.1 15 i = lN (pB (ocA L i).2.2.1) ∧ h.2.1 16 i = lN (pB (ocA L i).2.2.2)
/-- only the cells of the occurrences changed -/
def frO (h h' : ax_H) : Prop := h'.2.2 = h.2.2 ∧ (∀ r k, ¬ (r = 0 ∧ k = 17) → ¬ r = 13 → ¬ r = 14 → h'.1 r k = h.1 r k) ∧ ∀ r k, ¬ r = 15 → ¬ r = 16 → h'.2.1 r k = h.2.1 r k
theorem frO.rf {h : ax_H} : frO h h := ⟨rfl, fun _ _ _ _ _ => rfl, fun _ _ _ _ => rfl⟩
theorem frO.tr {h h' h2 : ax_H} (a : frO h h') (b : frO h' h2) : frO h h2 := ⟨b.1.trans a.1, fun r k h1 h3 h4 => (b.2.1 r k h1 h3 h4).trans (a.2.1 r k h1 h3 h4), fun r k h1 h3 => (b.2.2 r k h1 h3).trans (a.2.2 r k h1 h3)⟩
theorem untM.frO {h h' : ax_H} {c : Nat} {u : List Nat} (hu : untM h c u) (f : frO h h') : untM h' c u := by
  obtain ⟨a1, a2, a3, a4⟩ := hu
  refine ⟨by rw [f.1]; exact a1, a2, fun j hj => ?_, a4⟩
  rw [f.2.1 _ _ (by omega) (by omega) (by omega)]; exact a3 j hj
theorem clsM.frO {h h' : ax_H} {us : List (List Nat)} (hc : clsM h us) (f : frO h h') : clsM h' us := by
  obtain ⟨a1, a2, a3, a4, a5⟩ := hc
  refine ⟨by rw [f.1]; exact a1, ?_, a3, a4, fun c hc => ⟨(a5 c hc).1.frO f, (a5 c hc).2⟩⟩
  rw [f.2.1 _ _ (by omega) (by omega) (by omega)]; exact a2
theorem ocA_app {L : List oc4} {x : oc4} {i : Nat} (hi : i < L.length + 1) : ocA (L ++ [x]) i = if i = L.length then x else ocA L i := by
  unfold ocA
  simp only [List.getD_eq_getElem?_getD]
  by_cases e : i = L.length
  · simp [e]
  · rw [List.getElem?_append_left (by omega), if_neg e]
section MO
variable {d : Nat} {h : ax_H} {u : List Nat} {c : Nat} {L : List oc4} {Q : Option Value → ax_H → Prop}
theorem mQ_occurrence_ (hr : h.2.2 = rM) (ho : ocM h L) (hl : L.length < 64) (k l : Nat) (t w : List Nat) (hQ : ∀ h', frO h h' → ocM h' (L ++ [(k, l, t, w)]) → Q none h') : ax_wp kM d mQ_occurrence 0 [some (.ref 0), some (.int (nI k)), some (.int (nI l)), some (.long (lN (pB t))), none, some (.long (lN (pB w))), none] [] h Q := by
  have hn := ho.1
  simp (disch := omega) only [sQ_occurrence_0, sQ_occurrence_1, sQ_occurrence_4, sQ_occurrence_5, sQ_occurrence_8, sQ_occurrence_9, sQ_occurrence_10, sQ_occurrence_11, sQ_occurrence_14, sQ_occurrence_15, sQ_occurrence_18, sQ_occurrence_19, sQ_occurrence_20, sQ_occurrence_21, sQ_occurrence_24, sQ_occurrence_25, sQ_occurrence_28, sQ_occurrence_29, sQ_occurrence_30, sQ_occurrence_31, sQ_occurrence_34, sQ_occurrence_35, sQ_occurrence_38, sQ_occurrence_40, sQ_occurrence_41, sQ_occurrence_42, sQ_occurrence_42r, sQ_occurrence_43, sQ_occurrence_46, sQ_occurrence_47, sQ_occurrence_48, sQ_occurrence_51, ax_clr_i, ax_clr_l, ax_clr_r, ax_clr_n, ax_ct_0, ax_ct_i, ax_ct_l, ax_ct_r, va_rf_s, Option.toList_some, Option.toList_none, List.cons_append, List.nil_append, and_true, true_and, and_self, ite_true, ite_false, if_true, if_false, Nat.reduceAdd, Nat.reduceLeDiff, Nat.reduceMul, Nat.reduceLT, nI_add, pk_mul, nI_lt', nI_le', nI_eq', nI_lt0, nI_ge0, nI_eq0, nI_gt0, nI_le0, nI_ne_m1, m1_ne_nI, m1_lt_nI, m1_le_nI, nI_lt_m1, nI_le_m1, nI_clamp, ax_in_nI, nI_shl, nI_shr, lg_cmp0, nx_and, nI_eq1, bI_0, bI_1, bf_or, eq_self, or_true, true_or, lt_T, le_T, lt_F, le_F, eq_F, eq_T, kdM_0, kdM_1, kdM_2, kdM_3, kdM_4, kdM_5, kdM_6, kdM_7, kdM_8, kdM_9, kdM_10, kdM_11, kdM_12, kdM_13, kdM_14, kdM_15, kdM_16, kdM_17, kdM_18, kdM_19, kdM_20, kdM_21, kdM_22, kdM_23, kdM_24, rM_0, rM_1, rM_5, rM_6, rM_7, rM_10, rM_11, rM_12, rM_13, rM_14, rM_15, rM_16, rM_18, rM_19, rM_20, rM_21, rM_23, rM_24, rM_25, rM_26, rM_28, rM_29, rM_30, rM_31, up_at, up_II, up_III, up_I, up_I2, up_L, up_L1, up_L3, up_R, up_R1, up_R2, Nat.reduceEqDiff, and_false, false_and, reduceIte, eq_self, hr, hn]
  refine hQ _ ⟨rfl, fun r k h1 h2 h3 => ?_, fun r k h1 h2 => ?_⟩ ⟨?_, ?_, fun i hi => ?_⟩
  · simp only [up_I, up_L1]
    rw [if_neg h1, if_neg (fun hh => h3 hh.1), if_neg (fun hh => h2 hh.1)]
  · simp only [up_L, up_I2]
    rw [if_neg (fun hh => h2 hh.1), if_neg (fun hh => h1 hh.1)]
  · simp [up_I]
  · simp; omega
  · have hi2 : i < L.length + 1 := by simpa using hi
    rw [ocA_app hi2]
    by_cases e : i = L.length
    · subst e
      simp [up_I, up_L, up_I2, up_L1]
    · have h9 := ho.2.2 i (by omega)
      simp [up_I, up_L, up_I2, up_L1, e]
      exact h9
/-- what an instruction's number names -/
def nmsU (u : List Nat) (op k line : Nat) : List oc4 :=
  if op = 18 ∧ tgU u k = 1 then []
  else if 180 ≤ op ∧ op ≤ 182 then [(op - 180, line, nmU u (bg u (cAt u k + 1)), txt u (cAt u (bg u (cAt u k + 2))))]
  else [(if op = 187 then 3 else if op = 192 then 4 else if op = 193 then 5 else 6, line, nmU u k, [])]
theorem pB_nil : pB [] = 0 := rfl
theorem mQ_names_ (hu : untM h c u) (hc : c ≤ 12) (hk : okU u) (ho : ocM h L) (hl : L.length < 64) (op k line : Nat) (hop : op < 256) (h0 : 0 < opd op) (hf : fU u k (opd op) = true) (hQ : ∀ h', frO h h' → ocM h' (L ++ nmsU u op k line) → Q none h') : ax_wp kM (d + 3) mQ_names 0 [some (.ref 0), some (.int (nI c)), some (.int (nI op)), some (.int (nI k)), some (.int (nI line)), none] [] h Q := by
  have hr := hu.1
  have hz := hu.2.1
  have htn : tgU u k ≠ 0 := by
    intro e
    unfold fU ftN at hf
    have e2 : tgv u (bg u 1) (offU u (bg u 1)) k = 0 := e
    rw [e2] at hf
    by_cases w20 : opd op = 20
    · simp [w20] at hf
    · by_cases w21 : opd op = 21
      · simp [w21] at hf
      · by_cases w22 : opd op = 22
        · simp [w22] at hf
        · simp [w20, w21, w22] at hf; omega
  obtain ⟨t1, t2, t3, t4, t5, t6, t7⟩ := tgU_at hk.1 htn
  have hcl := clen_pos u (cAt u k)
  have b0 := hu.2.2.1 (cAt u k) (by omega)
  have l0 := hu.lt (cAt u k)
  have hcA := fun (Q : Option Value → ax_H → Prop) d => mQ_constantAt_ (d := d) (h := h) (Q := Q) hu hc (bg u 1) k (by omega) hk.1.2.1 hk.1.2.2 hk.1.1
  by_cases a18 : op = 18 ∧ tgU u k = 1
  · have en : nmsU u op k line = [] := if_pos a18
    rw [en, List.append_nil] at hQ
    have a3 : bg u (cAt u k) = 1 := by rw [← t4]; exact a18.2
    simp (disch := omega) only [sQ_names_0, sQ_names_1, sQ_names_2, sQ_names_3, sQ_names_6, sQ_names_8, sQ_names_9, sQ_names_11, sQ_names_14, sQ_names_15, sQ_names_18, sQ_names_20, sQ_names_21, sQ_names_22, sQ_names_25, ax_clr_i, ax_clr_l, ax_clr_r, ax_clr_n, ax_ct_0, ax_ct_i, ax_ct_l, ax_ct_r, va_rf_s, Option.toList_some, Option.toList_none, List.cons_append, List.nil_append, and_true, true_and, and_self, ite_true, ite_false, if_true, if_false, Nat.reduceAdd, Nat.reduceLeDiff, Nat.reduceMul, Nat.reduceLT, nI_add, pk_mul, nI_lt', nI_le', nI_eq', nI_lt0, nI_ge0, nI_eq0, nI_gt0, nI_le0, nI_ne_m1, m1_ne_nI, m1_lt_nI, m1_le_nI, nI_lt_m1, nI_le_m1, nI_clamp, ax_in_nI, nI_shl, nI_shr, lg_cmp0, nx_and, nI_eq1, bI_0, bI_1, bf_or, eq_self, or_true, true_or, lt_T, le_T, lt_F, le_F, eq_F, eq_T, kdM_0, kdM_1, kdM_2, kdM_3, kdM_4, kdM_5, kdM_6, kdM_7, kdM_8, kdM_9, kdM_10, kdM_11, kdM_12, kdM_13, kdM_14, kdM_15, kdM_16, kdM_17, kdM_18, kdM_19, kdM_20, kdM_21, kdM_22, kdM_23, kdM_24, rM_0, rM_1, rM_5, rM_6, rM_7, rM_10, rM_11, rM_12, rM_13, rM_14, rM_15, rM_16, rM_18, rM_19, rM_20, rM_21, rM_23, rM_24, rM_25, rM_26, rM_28, rM_29, rM_30, rM_31, hr, hcA, a18.1, b0, a3]
    exact hQ h frO.rf ho
  · by_cases a180 : 180 ≤ op ∧ op ≤ 182
    · have en : nmsU u op k line = [(op - 180, line, nmU u (bg u (cAt u k + 1)), txt u (cAt u (bg u (cAt u k + 2))))] := by unfold nmsU; rw [if_neg a18, if_pos a180]
      rw [en] at hQ
      have t9 : 9 ≤ tgU u k := by
        have : opd op = 9 ∨ opd op = 10 := by unfold opd; (repeat' split) <;> omega
        have := fU_7 (u := u) (k := k) (w := opd op) (by omega) hf
        omega
      obtain ⟨m1, m2, m3⟩ := hk.mem t9
      have hcl3 : cAt u k + 3 ≤ u.length := by unfold clen at t6; rw [← t4, if_neg (by omega), if_neg (by omega)] at t6; exact t6
      have b1 := hu.2.2.1 (cAt u k + 1) (by omega)
      have b2 := hu.2.2.1 (cAt u k + 2) (by omega)
      rw [← Nat.add_assoc] at b1 b2
      simp (disch := omega) only [sQ_names_0, sQ_names_1, sQ_names_2, sQ_names_3, sQ_names_6, sQ_names_8, sQ_names_9, sQ_names_11, sQ_names_14, sQ_names_15, sQ_names_18, sQ_names_20, sQ_names_21, sQ_names_22, sQ_names_25, sQ_names_26, sQ_names_27, sQ_names_30, sQ_names_33, sQ_names_34, sQ_names_37, sQ_names_40, sQ_names_41, sQ_names_42, sQ_names_45, sQ_names_46, sQ_names_48, sQ_names_49, sQ_names_50, sQ_names_51, sQ_names_54, sQ_names_56, sQ_names_57, sQ_names_58, sQ_names_59, sQ_names_62, sQ_names_63, sQ_names_64, sQ_names_65, sQ_names_68, sQ_names_70, sQ_names_71, sQ_names_72, sQ_names_73, sQ_names_76, sQ_names_79, sQ_names_82, sQ_names_83, sQ_names_84, sQ_names_87, sQ_names_90, sQ_names_91, sQ_names_94, sQ_names_95, sQ_names_98, sQ_names_101, sQ_names_102, sQ_names_105, sQ_names_106, sQ_names_109, sQ_names_112, sQ_names_113, sQ_names_116, sQ_names_118, sQ_names_120, sQ_names_121, sQ_names_122, sQ_names_123, sQ_names_126, sQ_names_127, sQ_names_130, ax_clr_i, ax_clr_l, ax_clr_r, ax_clr_n, ax_ct_0, ax_ct_i, ax_ct_l, ax_ct_r, va_rf_s, Option.toList_some, Option.toList_none, List.cons_append, List.nil_append, and_true, true_and, and_self, ite_true, ite_false, if_true, if_false, Nat.reduceAdd, Nat.reduceLeDiff, Nat.reduceMul, Nat.reduceLT, nI_add, pk_mul, nI_lt', nI_le', nI_eq', nI_lt0, nI_ge0, nI_eq0, nI_gt0, nI_le0, nI_ne_m1, m1_ne_nI, m1_lt_nI, m1_le_nI, nI_lt_m1, nI_le_m1, nI_clamp, ax_in_nI, nI_shl, nI_shr, lg_cmp0, nx_and, nI_eq1, bI_0, bI_1, bf_or, eq_self, or_true, true_or, lt_T, le_T, lt_F, le_F, eq_F, eq_T, kdM_0, kdM_1, kdM_2, kdM_3, kdM_4, kdM_5, kdM_6, kdM_7, kdM_8, kdM_9, kdM_10, kdM_11, kdM_12, kdM_13, kdM_14, kdM_15, kdM_16, kdM_17, kdM_18, kdM_19, kdM_20, kdM_21, kdM_22, kdM_23, kdM_24, rM_0, rM_1, rM_5, rM_6, rM_7, rM_10, rM_11, rM_12, rM_13, rM_14, rM_15, rM_16, rM_18, rM_19, rM_20, rM_21, rM_23, rM_24, rM_25, rM_26, rM_28, rM_29, rM_30, rM_31, hr, hcA, b1, b2, pk_sub, mQ_nameOf_c hu hc hk _ m1, mQ_textOf_ hu hc hk.1 _ m2]
      refine mQ_occurrence_ hr ho hl _ _ _ _ (fun h' f o => ?_)
      simp (disch := omega) only [sQ_names_0, sQ_names_1, sQ_names_2, sQ_names_3, sQ_names_6, sQ_names_8, sQ_names_9, sQ_names_11, sQ_names_14, sQ_names_15, sQ_names_18, sQ_names_20, sQ_names_21, sQ_names_22, sQ_names_25, sQ_names_26, sQ_names_27, sQ_names_30, sQ_names_33, sQ_names_34, sQ_names_37, sQ_names_40, sQ_names_41, sQ_names_42, sQ_names_45, sQ_names_46, sQ_names_48, sQ_names_49, sQ_names_50, sQ_names_51, sQ_names_54, sQ_names_56, sQ_names_57, sQ_names_58, sQ_names_59, sQ_names_62, sQ_names_63, sQ_names_64, sQ_names_65, sQ_names_68, sQ_names_70, sQ_names_71, sQ_names_72, sQ_names_73, sQ_names_76, sQ_names_79, sQ_names_82, sQ_names_83, sQ_names_84, sQ_names_87, sQ_names_90, sQ_names_91, sQ_names_94, sQ_names_95, sQ_names_98, sQ_names_101, sQ_names_102, sQ_names_105, sQ_names_106, sQ_names_109, sQ_names_112, sQ_names_113, sQ_names_116, sQ_names_118, sQ_names_120, sQ_names_121, sQ_names_122, sQ_names_123, sQ_names_126, sQ_names_127, sQ_names_130, ax_clr_i, ax_clr_l, ax_clr_r, ax_clr_n, ax_ct_0, ax_ct_i, ax_ct_l, ax_ct_r, va_rf_s, Option.toList_some, Option.toList_none, List.cons_append, List.nil_append, and_true, true_and, and_self, ite_true, ite_false, if_true, if_false, Nat.reduceAdd, Nat.reduceLeDiff, Nat.reduceMul, Nat.reduceLT]
      exact hQ h' f o
    · have en : nmsU u op k line = [(if op = 187 then 3 else if op = 192 then 4 else if op = 193 then 5 else 6, line, nmU u k, [])] := by unfold nmsU; rw [if_neg a18, if_neg a180]
      rw [en] at hQ
      have t9 : tgU u k = 7 := by
        have ho4 : op = 18 ∨ op = 187 ∨ op = 192 ∨ op = 193 := by
          unfold opd at h0
          by_cases o1 : op = 18
          · exact Or.inl o1
          · rw [if_neg o1, if_neg (by omega), if_neg (by omega)] at h0
            by_cases o2 : op = 187 ∨ op = 192 ∨ op = 193
            · exact Or.inr o2
            · rw [if_neg o2] at h0; omega
        rcases ho4 with o | o | o | o
        · subst o
          unfold fU ftN at hf
          have : opd 18 = 22 := rfl
          rw [this] at hf
          simp at hf
          rcases hf with hf | hf
          · exact hf
          · exact absurd ⟨rfl, hf⟩ a18
        · subst o; exact fU_7 (Or.inl rfl) hf
        · subst o; exact fU_7 (Or.inl rfl) hf
        · subst o; exact fU_7 (Or.inl rfl) hf
      have a3 : ¬ bg u (cAt u k) = 1 := by rw [← t4]; omega
      have key : ∀ K, K = (if op = 187 then 3 else if op = 192 then 4 else if op = 193 then 5 else 6) → ax_wp kM (d + 3) mQ_names 118 [some (.ref 0), some (.int (nI c)), some (.int (nI op)), some (.int (nI k)), some (.int (nI line)), some (.int (nI (120 * c + cAt u k)))] [.int (nI K), .ref 0] h Q := by
        intro K hK
        simp (disch := omega) only [sQ_names_118, sQ_names_120, sQ_names_121, sQ_names_122, sQ_names_123, sQ_names_126, sQ_names_127, sQ_names_130, ax_clr_i, ax_clr_l, ax_clr_r, ax_clr_n, ax_ct_0, ax_ct_i, ax_ct_l, ax_ct_r, va_rf_s, Option.toList_some, Option.toList_none, List.cons_append, List.nil_append, and_true, true_and, and_self, ite_true, ite_false, if_true, if_false, Nat.reduceAdd, Nat.reduceLeDiff, Nat.reduceMul, Nat.reduceLT, nI_add, pk_mul, nI_lt', nI_le', nI_eq', nI_lt0, nI_ge0, nI_eq0, nI_gt0, nI_le0, nI_ne_m1, m1_ne_nI, m1_lt_nI, m1_le_nI, nI_lt_m1, nI_le_m1, nI_clamp, ax_in_nI, nI_shl, nI_shr, lg_cmp0, nx_and, nI_eq1, bI_0, bI_1, bf_or, eq_self, or_true, true_or, lt_T, le_T, lt_F, le_F, eq_F, eq_T, kdM_0, kdM_1, kdM_2, kdM_3, kdM_4, kdM_5, kdM_6, kdM_7, kdM_8, kdM_9, kdM_10, kdM_11, kdM_12, kdM_13, kdM_14, kdM_15, kdM_16, kdM_17, kdM_18, kdM_19, kdM_20, kdM_21, kdM_22, kdM_23, kdM_24, rM_0, rM_1, rM_5, rM_6, rM_7, rM_10, rM_11, rM_12, rM_13, rM_14, rM_15, rM_16, rM_18, rM_19, rM_20, rM_21, rM_23, rM_24, rM_25, rM_26, rM_28, rM_29, rM_30, rM_31, hr, mQ_nameOf_c hu hc hk _ t9]
        rw [lN_0, ← pB_nil]
        refine mQ_occurrence_ hr ho hl _ _ _ _ (fun h' f o => ?_)
        simp (disch := omega) only [sQ_names_118, sQ_names_120, sQ_names_121, sQ_names_122, sQ_names_123, sQ_names_126, sQ_names_127, sQ_names_130, ax_clr_i, ax_clr_l, ax_clr_r, ax_clr_n, ax_ct_0, ax_ct_i, ax_ct_l, ax_ct_r, va_rf_s, Option.toList_some, Option.toList_none, List.cons_append, List.nil_append, and_true, true_and, and_self, ite_true, ite_false, if_true, if_false, Nat.reduceAdd, Nat.reduceLeDiff, Nat.reduceMul, Nat.reduceLT]
        rw [hK] at o
        exact hQ h' f o
      simp (disch := omega) only [sQ_names_0, sQ_names_1, sQ_names_2, sQ_names_3, sQ_names_6, sQ_names_8, sQ_names_9, sQ_names_11, sQ_names_14, sQ_names_15, sQ_names_18, sQ_names_20, sQ_names_21, sQ_names_22, sQ_names_25, sQ_names_26, sQ_names_27, sQ_names_30, sQ_names_33, sQ_names_34, sQ_names_37, sQ_names_40, sQ_names_41, sQ_names_42, sQ_names_45, sQ_names_46, sQ_names_48, sQ_names_49, sQ_names_50, sQ_names_51, sQ_names_54, sQ_names_56, sQ_names_57, sQ_names_58, sQ_names_59, sQ_names_62, sQ_names_63, sQ_names_64, sQ_names_65, sQ_names_68, sQ_names_70, sQ_names_71, sQ_names_72, sQ_names_73, sQ_names_76, sQ_names_79, sQ_names_82, sQ_names_83, sQ_names_84, sQ_names_87, sQ_names_90, sQ_names_91, sQ_names_94, sQ_names_95, sQ_names_98, sQ_names_101, sQ_names_102, sQ_names_105, sQ_names_106, sQ_names_109, sQ_names_112, sQ_names_113, sQ_names_116, ax_clr_i, ax_clr_l, ax_clr_r, ax_clr_n, ax_ct_0, ax_ct_i, ax_ct_l, ax_ct_r, va_rf_s, Option.toList_some, Option.toList_none, List.cons_append, List.nil_append, and_true, true_and, and_self, ite_true, ite_false, if_true, if_false, Nat.reduceAdd, Nat.reduceLeDiff, Nat.reduceMul, Nat.reduceLT, nI_add, pk_mul, nI_lt', nI_le', nI_eq', nI_lt0, nI_ge0, nI_eq0, nI_gt0, nI_le0, nI_ne_m1, m1_ne_nI, m1_lt_nI, m1_le_nI, nI_lt_m1, nI_le_m1, nI_clamp, ax_in_nI, nI_shl, nI_shr, lg_cmp0, nx_and, nI_eq1, bI_0, bI_1, bf_or, eq_self, or_true, true_or, lt_T, le_T, lt_F, le_F, kdM_0, kdM_1, kdM_2, kdM_3, kdM_4, kdM_5, kdM_6, kdM_7, kdM_8, kdM_9, kdM_10, kdM_11, kdM_12, kdM_13, kdM_14, kdM_15, kdM_16, kdM_17, kdM_18, kdM_19, kdM_20, kdM_21, kdM_22, kdM_23, kdM_24, rM_0, rM_1, rM_5, rM_6, rM_7, rM_10, rM_11, rM_12, rM_13, rM_14, rM_15, rM_16, rM_18, rM_19, rM_20, rM_21, rM_23, rM_24, rM_25, rM_26, rM_28, rM_29, rM_30, rM_31, hr, hcA, b0]
      by_cases o18 : op = 18
      · subst o18
        have := key 6 (by simp)
        simpa [a3] using this
      · by_cases o187 : op = 187
        · subst o187
          have := key 3 (by simp)
          simpa using this
        · by_cases o192 : op = 192
          · subst o192
            have := key 4 (by simp)
            simpa using this
          · by_cases o193 : op = 193
            · subst o193
              have := key 5 (by simp)
              simpa using this
            · exfalso
              unfold opd at h0
              rw [if_neg o18, if_neg (by omega), if_neg (by omega), if_neg (by omega)] at h0
              omega
end MO
