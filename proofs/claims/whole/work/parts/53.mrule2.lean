/-! the model: rule -/
def okR (n : Nat) (x y z : Int32) : Option (Nat × Nat × Nat) := match ixN x 3 with
  | some k => (match ixN y n with
    | none => none
    | some p => (match ixN z n with
      | none => none
      | some q => some (k, p, q)))
  | none => if x = nI 3 then (match ixN y 3 with
    | none => none
    | some p => if p = 0 then none else if z = 0 then some (3, p, 0) else none) else none
def oRul (n : Nat) (rs : List rl4) (x y z : Int32) : Option (Nat × Nat × Nat) := if rs.length < 6 then okR n x y z else none
def nRs (n : Nat) (rs : List rl4) (x y z : Int32) : List rl4 := match oRul n rs x y z with
  | none => rs
  | some (k, p, q) => rs ++ [(k, p, q, [])]
def aRul (n : Nat) (rs : List rl4) (x y z : Int32) : Int32 := match oRul n rs x y z with
  | none => -1
  | some _ => nI rs.length
section MP
variable {d : Nat} {Q : Option Value → ax_H → Prop} {b : List Nat} {us ps : List (List Nat)} {ty : List Nat} {rs : List rl4}
theorem mQ_rule_76 {h : ax_H} (hs : stM h b us ps ty rs) (k p q : Nat) (y4 y5 : Int32) (hv : rlv ps.length (k, p, q, [])) (hQ : ∀ h', stM h' b us ps ty (if rs.length < 6 then rs ++ [(k, p, q, [])] else rs) → Q (some (.int (if rs.length < 6 then nI rs.length else -1))) h') : ax_wp kM d mQ_rule 76 [some (.ref 0), some (.int (nI k)), some (.int (nI p)), some (.int (nI q)), some (.int y4), some (.int y5)] [] h Q := by
  have hr := hs.1.1
  obtain ⟨n1, n2, n3, n4⟩ := hs.2.2.2
  simp (disch := omega) only [sQ_rule_76, sQ_rule_77, sQ_rule_80, sQ_rule_82, ax_clr_i, ax_clr_l, ax_clr_r, ax_clr_n, ax_ct_0, ax_ct_i, ax_ct_l, ax_ct_r, va_rf_s, Option.toList_some, Option.toList_none, List.cons_append, List.nil_append, and_true, true_and, and_self, ite_true, ite_false, if_true, if_false, Nat.reduceAdd, Nat.reduceLeDiff, Nat.reduceMul, Nat.reduceLT, kdM_0, kdM_1, kdM_2, kdM_3, kdM_4, kdM_5, kdM_6, kdM_7, kdM_8, kdM_9, kdM_10, kdM_11, kdM_12, kdM_13, kdM_14, kdM_15, kdM_16, kdM_17, kdM_18, kdM_19, kdM_20, kdM_21, kdM_22, kdM_23, kdM_24, rM_0, rM_1, rM_5, rM_6, rM_7, rM_10, rM_11, rM_12, rM_13, rM_14, rM_15, rM_16, rM_18, rM_19, rM_20, rM_21, rM_23, rM_24, rM_25, rM_26, rM_28, rM_29, rM_30, rM_31, n1, nI_eq']
  by_cases e : rs.length = 6
  · rw [if_neg (by omega), if_neg (by omega)] at hQ
    rw [if_pos e]
    simp (disch := omega) only [sQ_rule_85, sQ_rule_86, ax_clr_i, ax_clr_l, ax_clr_r, ax_clr_n, ax_ct_0, ax_ct_i, ax_ct_l, ax_ct_r, va_rf_s, Option.toList_some, Option.toList_none, List.cons_append, List.nil_append, and_true, true_and, and_self, ite_true, ite_false, if_true, if_false, Nat.reduceAdd, Nat.reduceLeDiff, Nat.reduceMul, Nat.reduceLT]
    exact hQ h hs
  · rw [if_pos (by omega), if_pos (by omega)] at hQ
    rw [if_neg e]
    simp (disch := omega) only [sQ_rule_87, sQ_rule_88, sQ_rule_91, sQ_rule_92, sQ_rule_95, sQ_rule_96, sQ_rule_97, sQ_rule_98, sQ_rule_101, sQ_rule_102, sQ_rule_105, sQ_rule_106, sQ_rule_107, sQ_rule_108, sQ_rule_111, sQ_rule_112, sQ_rule_115, sQ_rule_116, sQ_rule_117, sQ_rule_118, sQ_rule_118r, sQ_rule_119, sQ_rule_122, sQ_rule_123, sQ_rule_124, sQ_rule_127, sQ_rule_128, sQ_rule_131, sQ_rule_132, sQ_rule_133, ax_clr_i, ax_clr_l, ax_clr_r, ax_clr_n, ax_ct_0, ax_ct_i, ax_ct_l, ax_ct_r, va_rf_s, Option.toList_some, Option.toList_none, List.cons_append, List.nil_append, and_true, true_and, and_self, ite_true, ite_false, if_true, if_false, Nat.reduceAdd, Nat.reduceLeDiff, Nat.reduceMul, Nat.reduceLT, kdM_0, kdM_1, kdM_2, kdM_3, kdM_4, kdM_5, kdM_6, kdM_7, kdM_8, kdM_9, kdM_10, kdM_11, kdM_12, kdM_13, kdM_14, kdM_15, kdM_16, kdM_17, kdM_18, kdM_19, kdM_20, kdM_21, kdM_22, kdM_23, kdM_24, rM_0, rM_1, rM_5, rM_6, rM_7, rM_10, rM_11, rM_12, rM_13, rM_14, rM_15, rM_16, rM_18, rM_19, rM_20, rM_21, rM_23, rM_24, rM_25, rM_26, rM_28, rM_29, rM_30, rM_31, nI_add, pk_mul, nI_lt', nI_le', nI_eq', nI_lt0, nI_ge0, nI_eq0, nI_gt0, nI_le0, nI_ne_m1, m1_ne_nI, m1_lt_nI, m1_le_nI, nI_lt_m1, nI_le_m1, nI_clamp, ax_in_nI, nI_shl, nI_shr, lg_cmp0, nx_and, nI_eq1, bI_0, bI_1, bf_or, eq_self, or_true, true_or, lt_T, le_T, lt_F, le_F, eq_F, eq_T, hr, n1, up_I, up_I2, Nat.reduceEqDiff, and_false, false_and, reduceIte, pk_sub, Nat.add_sub_cancel]
    refine hQ _ ⟨hs.1.keep rfl (fun r j w => ?_), hs.2.1.keep rfl (fun r j w => ?_), hs.2.2.1.keep (fun r j w => ?_), ?_⟩
    · simp only [up_I]; (repeat rw [if_neg (by omega)])
    · simp only [up_I]; (repeat rw [if_neg (by omega)])
    · simp only [up_I]; (repeat rw [if_neg (by omega)])
    · refine ⟨by simp [up_I], by simp; omega, fun r hr2 => ?_, fun r h1 h2 => ?_⟩
      · simp only [List.length_append, List.length_cons, List.length_nil] at hr2
        rw [rA_app (by omega)]
        by_cases e2 : r = rs.length
        · subst e2
          rw [if_pos rfl]
          refine ⟨by simp [up_I], by simp [up_I], by simp [up_I], ⟨?_, fun i hi => by simp at hi⟩, hv⟩
          simp only [up_I]; (repeat rw [if_neg (by omega)])
          exact n4 rs.length (by omega) (by omega)
        · rw [if_neg e2]
          obtain ⟨c1, c2, c3, c4, c5⟩ := n3 r (by omega)
          refine ⟨?_, ?_, ?_, c4.keep (fun a j w => ?_) (fun _ _ _ => rfl), c5⟩
          · simp only [up_I]; (repeat rw [if_neg (by omega)]); exact c1
          · simp only [up_I]; (repeat rw [if_neg (by omega)]); exact c2
          · simp only [up_I]; (repeat rw [if_neg (by omega)]); exact c3
          · simp only [up_I]; (repeat rw [if_neg (by omega)])
      · simp only [List.length_append, List.length_cons, List.length_nil] at h1
        simp only [up_I]; (repeat rw [if_neg (by omega)])
        exact n4 r (by omega) h2
theorem mQ_rule_ {h : ax_H} (hs : stM h b us ps ty rs) (x y z : Int32) (hQ : ∀ h', stM h' b us ps ty (nRs ps.length rs x y z) → Q (some (.int (aRul ps.length rs x y z))) h') : ax_wp kM d mQ_rule 0 [some (.ref 0), some (.int x), some (.int y), some (.int z), none, none] [] h Q := by
  have n1 := hs.2.2.1.1
  have n2 := hs.2.2.1.2.1
  unfold nRs aRul oRul at hQ
  have no : ∀ v4 v5 : Int32, ax_wp kM d mQ_rule 85 [some (.ref 0), some (.int x), some (.int y), some (.int z), some (.int v4), some (.int v5)] [] h Q = Q (some (.int (-1))) h := fun v4 v5 => by
    simp (disch := omega) only [sQ_rule_85, sQ_rule_86, ax_clr_i, ax_clr_l, ax_clr_r, ax_clr_n, ax_ct_0, ax_ct_i, ax_ct_l, ax_ct_r, va_rf_s, Option.toList_some, Option.toList_none, List.cons_append, List.nil_append, and_true, true_and, and_self, ite_true, ite_false, if_true, if_false, Nat.reduceAdd, Nat.reduceLeDiff, Nat.reduceMul, Nat.reduceLT]
  -- a kind of 0, 1 or 2
  cases ex : ixN x 3 with
  | some k =>
    obtain ⟨a1, rfl⟩ := ixN_some (by omega) ex
    have n3 : ¬ k = 3 := by omega
    have r40 : ∀ P : Bool, ax_wp kM d mQ_rule 40 [some (.ref 0), some (.int (nI k)), some (.int y), some (.int z), some (.int (bI P)), none] [] h Q = if P = true then ax_wp kM d mQ_rule 76 [some (.ref 0), some (.int (nI k)), some (.int y), some (.int z), some (.int (bI P)), some (.int (nI 0))] [] h Q else Q (some (.int (-1))) h := fun P => by
      simp (disch := omega) only [sQ_rule_40, sQ_rule_41, sQ_rule_42, sQ_rule_63, sQ_rule_64, sQ_rule_66, sQ_rule_68, sQ_rule_71, sQ_rule_73, ax_clr_i, ax_clr_l, ax_clr_r, ax_clr_n, ax_ct_0, ax_ct_i, ax_ct_l, ax_ct_r, va_rf_s, Option.toList_some, Option.toList_none, List.cons_append, List.nil_append, and_true, true_and, and_self, ite_true, ite_false, if_true, if_false, Nat.reduceAdd, Nat.reduceLeDiff, Nat.reduceMul, Nat.reduceLT, nI_eq', n3, nI_eq0, bI_0, no, eq_self]
      cases P <;> simp
    have n37 : ax_wp kM d mQ_rule 37 [some (.ref 0), some (.int (nI k)), some (.int y), some (.int z), none, none] [] h Q = ax_wp kM d mQ_rule 40 [some (.ref 0), some (.int (nI k)), some (.int y), some (.int z), some (.int (bI false)), none] [] h Q := by
      simp (disch := omega) only [sQ_rule_37, sQ_rule_38, ax_clr_i, ax_clr_l, ax_clr_r, ax_clr_n, ax_ct_0, ax_ct_i, ax_ct_l, ax_ct_r, va_rf_s, Option.toList_some, Option.toList_none, List.cons_append, List.nil_append, and_true, true_and, and_self, ite_true, ite_false, if_true, if_false, Nat.reduceAdd, Nat.reduceLeDiff, Nat.reduceMul, Nat.reduceLT, bI_f]
    simp (disch := omega) only [sQ_rule_0, sQ_rule_1, sQ_rule_4, sQ_rule_5, sQ_rule_6, sQ_rule_9, sQ_rule_10, ax_clr_i, ax_clr_l, ax_clr_r, ax_clr_n, ax_ct_0, ax_ct_i, ax_ct_l, ax_ct_r, va_rf_s, Option.toList_some, Option.toList_none, List.cons_append, List.nil_append, and_true, true_and, and_self, ite_true, ite_false, if_true, if_false, Nat.reduceAdd, Nat.reduceLeDiff, Nat.reduceMul, Nat.reduceLT, nI_lt0, nI_lt', lt_F]
    unfold okR at hQ
    rw [ex] at hQ
    dsimp only at hQ
    cases ey : ixN y ps.length with
    | none =>
      rw [ey] at hQ
      have ey2 := ixN_none ey
      simp only [ite_self] at hQ
      by_cases e1 : y < 0
      · rw [if_pos e1, n37, r40, if_neg (by simp)]; exact hQ h hs
      · rw [if_neg e1]
        simp (disch := omega) only [sQ_rule_13, sQ_rule_14, sQ_rule_15, sQ_rule_18, ax_clr_i, ax_clr_l, ax_clr_r, ax_clr_n, ax_ct_0, ax_ct_i, ax_ct_l, ax_ct_r, va_rf_s, Option.toList_some, Option.toList_none, List.cons_append, List.nil_append, and_true, true_and, and_self, ite_true, ite_false, if_true, if_false, Nat.reduceAdd, Nat.reduceLeDiff, Nat.reduceMul, Nat.reduceLT, kdM_0, kdM_1, kdM_2, kdM_3, kdM_4, kdM_5, kdM_6, kdM_7, kdM_8, kdM_9, kdM_10, kdM_11, kdM_12, kdM_13, kdM_14, kdM_15, kdM_16, kdM_17, kdM_18, kdM_19, kdM_20, kdM_21, kdM_22, kdM_23, kdM_24, rM_0, rM_1, rM_5, rM_6, rM_7, rM_10, rM_11, rM_12, rM_13, rM_14, rM_15, rM_16, rM_18, rM_19, rM_20, rM_21, rM_23, rM_24, rM_25, rM_26, rM_28, rM_29, rM_30, rM_31, n1]
        rw [if_pos (lt_not ey2 e1), n37, r40, if_neg (by simp)]; exact hQ h hs
    | some p =>
      obtain ⟨b1, rfl⟩ := ixN_some (by omega) ey
      rw [ey] at hQ
      dsimp only at hQ
      simp (disch := omega) only [sQ_rule_13, sQ_rule_14, sQ_rule_15, sQ_rule_18, sQ_rule_21, sQ_rule_22, ax_clr_i, ax_clr_l, ax_clr_r, ax_clr_n, ax_ct_0, ax_ct_i, ax_ct_l, ax_ct_r, va_rf_s, Option.toList_some, Option.toList_none, List.cons_append, List.nil_append, and_true, true_and, and_self, ite_true, ite_false, if_true, if_false, Nat.reduceAdd, Nat.reduceLeDiff, Nat.reduceMul, Nat.reduceLT, kdM_0, kdM_1, kdM_2, kdM_3, kdM_4, kdM_5, kdM_6, kdM_7, kdM_8, kdM_9, kdM_10, kdM_11, kdM_12, kdM_13, kdM_14, kdM_15, kdM_16, kdM_17, kdM_18, kdM_19, kdM_20, kdM_21, kdM_22, kdM_23, kdM_24, rM_0, rM_1, rM_5, rM_6, rM_7, rM_10, rM_11, rM_12, rM_13, rM_14, rM_15, rM_16, rM_18, rM_19, rM_20, rM_21, rM_23, rM_24, rM_25, rM_26, rM_28, rM_29, rM_30, rM_31, n1, nI_lt0, nI_le', le_F]
      cases ez : ixN z ps.length with
      | none =>
        rw [ez] at hQ
        have ez2 := ixN_none ez
        simp only [ite_self] at hQ
        by_cases e1 : z < 0
        · rw [if_pos e1, n37, r40, if_neg (by simp)]; exact hQ h hs
        · rw [if_neg e1]
          simp (disch := omega) only [sQ_rule_25, sQ_rule_26, sQ_rule_27, sQ_rule_30, ax_clr_i, ax_clr_l, ax_clr_r, ax_clr_n, ax_ct_0, ax_ct_i, ax_ct_l, ax_ct_r, va_rf_s, Option.toList_some, Option.toList_none, List.cons_append, List.nil_append, and_true, true_and, and_self, ite_true, ite_false, if_true, if_false, Nat.reduceAdd, Nat.reduceLeDiff, Nat.reduceMul, Nat.reduceLT, kdM_0, kdM_1, kdM_2, kdM_3, kdM_4, kdM_5, kdM_6, kdM_7, kdM_8, kdM_9, kdM_10, kdM_11, kdM_12, kdM_13, kdM_14, kdM_15, kdM_16, kdM_17, kdM_18, kdM_19, kdM_20, kdM_21, kdM_22, kdM_23, kdM_24, rM_0, rM_1, rM_5, rM_6, rM_7, rM_10, rM_11, rM_12, rM_13, rM_14, rM_15, rM_16, rM_18, rM_19, rM_20, rM_21, rM_23, rM_24, rM_25, rM_26, rM_28, rM_29, rM_30, rM_31, n1]
          rw [if_pos (lt_not ez2 e1), n37, r40, if_neg (by simp)]; exact hQ h hs
      | some q =>
        obtain ⟨c1, rfl⟩ := ixN_some (by omega) ez
        rw [ez] at hQ
        dsimp only at hQ
        simp (disch := omega) only [sQ_rule_25, sQ_rule_26, sQ_rule_27, sQ_rule_30, sQ_rule_33, sQ_rule_34, sQ_rule_37, sQ_rule_38, ax_clr_i, ax_clr_l, ax_clr_r, ax_clr_n, ax_ct_0, ax_ct_i, ax_ct_l, ax_ct_r, va_rf_s, Option.toList_some, Option.toList_none, List.cons_append, List.nil_append, and_true, true_and, and_self, ite_true, ite_false, if_true, if_false, Nat.reduceAdd, Nat.reduceLeDiff, Nat.reduceMul, Nat.reduceLT, kdM_0, kdM_1, kdM_2, kdM_3, kdM_4, kdM_5, kdM_6, kdM_7, kdM_8, kdM_9, kdM_10, kdM_11, kdM_12, kdM_13, kdM_14, kdM_15, kdM_16, kdM_17, kdM_18, kdM_19, kdM_20, kdM_21, kdM_22, kdM_23, kdM_24, rM_0, rM_1, rM_5, rM_6, rM_7, rM_10, rM_11, rM_12, rM_13, rM_14, rM_15, rM_16, rM_18, rM_19, rM_20, rM_21, rM_23, rM_24, rM_25, rM_26, rM_28, rM_29, rM_30, rM_31, n1, nI_lt0, nI_le', le_F]
        rw [show nI 1 = bI true from rfl, r40, if_pos rfl]
        refine mQ_rule_76 hs k p q _ _ ⟨Or.inl ⟨by show k ≤ 2; omega, b1, c1⟩, by simp, by simp⟩ (fun h' s => ?_)
        have q9 := hQ h'
        by_cases e6 : rs.length < 6
        · rw [if_pos e6] at s q9 ⊢; exact q9 s
        · rw [if_neg e6] at s q9 ⊢; exact q9 s
  | none =>
    have ex2 := ixN_none ex
    unfold okR at hQ
    rw [ex] at hQ
    dsimp only at hQ
    have s40 : ax_wp kM d mQ_rule 0 [some (.ref 0), some (.int x), some (.int y), some (.int z), none, none] [] h Q = ax_wp kM d mQ_rule 40 [some (.ref 0), some (.int x), some (.int y), some (.int z), some (.int (nI 0)), none] [] h Q := by
      simp (disch := omega) only [sQ_rule_0, sQ_rule_1, ax_clr_i, ax_clr_l, ax_clr_r, ax_clr_n, ax_ct_0, ax_ct_i, ax_ct_l, ax_ct_r, va_rf_s, Option.toList_some, Option.toList_none, List.cons_append, List.nil_append, and_true, true_and, and_self, ite_true, ite_false, if_true, if_false, Nat.reduceAdd, Nat.reduceLeDiff, Nat.reduceMul, Nat.reduceLT]
      by_cases e1 : x < 0
      · rw [if_pos e1]
        simp (disch := omega) only [sQ_rule_37, sQ_rule_38, ax_clr_i, ax_clr_l, ax_clr_r, ax_clr_n, ax_ct_0, ax_ct_i, ax_ct_l, ax_ct_r, va_rf_s, Option.toList_some, Option.toList_none, List.cons_append, List.nil_append, and_true, true_and, and_self, ite_true, ite_false, if_true, if_false, Nat.reduceAdd, Nat.reduceLeDiff, Nat.reduceMul, Nat.reduceLT]
      · rw [if_neg e1]
        simp (disch := omega) only [sQ_rule_4, sQ_rule_5, sQ_rule_6, ax_clr_i, ax_clr_l, ax_clr_r, ax_clr_n, ax_ct_0, ax_ct_i, ax_ct_l, ax_ct_r, va_rf_s, Option.toList_some, Option.toList_none, List.cons_append, List.nil_append, and_true, true_and, and_self, ite_true, ite_false, if_true, if_false, Nat.reduceAdd, Nat.reduceLeDiff, Nat.reduceMul, Nat.reduceLT]
        rw [if_pos]
        · simp (disch := omega) only [sQ_rule_37, sQ_rule_38, ax_clr_i, ax_clr_l, ax_clr_r, ax_clr_n, ax_ct_0, ax_ct_i, ax_ct_l, ax_ct_r, va_rf_s, Option.toList_some, Option.toList_none, List.cons_append, List.nil_append, and_true, true_and, and_self, ite_true, ite_false, if_true, if_false, Nat.reduceAdd, Nat.reduceLeDiff, Nat.reduceMul, Nat.reduceLT]
        · have := lt_not ex2 e1
          rw [Int32.le_iff_toInt_le, nI_toInt (by omega)] at this
          rw [Int32.lt_iff_toInt_lt, nI_toInt (by omega)]; omega
    rw [s40]
    have n63 : ax_wp kM d mQ_rule 63 [some (.ref 0), some (.int x), some (.int y), some (.int z), some (.int (nI 0)), none] [] h Q = Q (some (.int (-1))) h := by
      simp (disch := omega) only [sQ_rule_63, sQ_rule_64, sQ_rule_66, sQ_rule_68, sQ_rule_71, sQ_rule_73, ax_clr_i, ax_clr_l, ax_clr_r, ax_clr_n, ax_ct_0, ax_ct_i, ax_ct_l, ax_ct_r, va_rf_s, Option.toList_some, Option.toList_none, List.cons_append, List.nil_append, and_true, true_and, and_self, ite_true, ite_false, if_true, if_false, Nat.reduceAdd, Nat.reduceLeDiff, Nat.reduceMul, Nat.reduceLT, nI_eq0, no, eq_self]
    simp (disch := omega) only [sQ_rule_40, sQ_rule_41, sQ_rule_42, ax_clr_i, ax_clr_l, ax_clr_r, ax_clr_n, ax_ct_0, ax_ct_i, ax_ct_l, ax_ct_r, va_rf_s, Option.toList_some, Option.toList_none, List.cons_append, List.nil_append, and_true, true_and, and_self, ite_true, ite_false, if_true, if_false, Nat.reduceAdd, Nat.reduceLeDiff, Nat.reduceMul, Nat.reduceLT]
    by_cases e3 : x = nI 3
    · rw [if_pos e3]
      rw [if_pos e3] at hQ
      simp (disch := omega) only [sQ_rule_45, sQ_rule_46, sQ_rule_47, ax_clr_i, ax_clr_l, ax_clr_r, ax_clr_n, ax_ct_0, ax_ct_i, ax_ct_l, ax_ct_r, va_rf_s, Option.toList_some, Option.toList_none, List.cons_append, List.nil_append, and_true, true_and, and_self, ite_true, ite_false, if_true, if_false, Nat.reduceAdd, Nat.reduceLeDiff, Nat.reduceMul, Nat.reduceLT]
      cases ey : ixN y 3 with
      | none =>
        rw [ey] at hQ
        have ey2 := ixN_none ey
        simp only [ite_self] at hQ
        by_cases e1 : y < nI 1
        · rw [if_pos e1, n63]; exact hQ h hs
        · rw [if_neg e1]
          simp (disch := omega) only [sQ_rule_50, sQ_rule_51, sQ_rule_52, ax_clr_i, ax_clr_l, ax_clr_r, ax_clr_n, ax_ct_0, ax_ct_i, ax_ct_l, ax_ct_r, va_rf_s, Option.toList_some, Option.toList_none, List.cons_append, List.nil_append, and_true, true_and, and_self, ite_true, ite_false, if_true, if_false, Nat.reduceAdd, Nat.reduceLeDiff, Nat.reduceMul, Nat.reduceLT]
          rw [if_pos, n63]
          · exact hQ h hs
          · rw [Int32.lt_iff_toInt_lt, nI_toInt (by omega)]
            have e0 : ¬ y < 0 := by
              intro q; apply e1
              rw [Int32.lt_iff_toInt_lt] at q ⊢
              rw [nI_toInt (by omega)]
              have : (0 : Int32).toInt = 0 := by decide
              omega
            have := lt_not ey2 e0
            rw [Int32.le_iff_toInt_le, nI_toInt (by omega)] at this
            omega
      | some p =>
        obtain ⟨b1, rfl⟩ := ixN_some (by omega) ey
        rw [ey] at hQ
        dsimp only at hQ
        by_cases e1 : p = 0
        · rw [if_pos e1] at hQ
          simp only [ite_self] at hQ
          rw [if_pos (by rw [nI_lt' (by omega) (by omega)]; omega), n63]
          exact hQ h hs
        · rw [if_neg e1] at hQ
          rw [if_neg (by rw [nI_lt' (by omega) (by omega)]; omega)]
          simp (disch := omega) only [sQ_rule_50, sQ_rule_51, sQ_rule_52, sQ_rule_55, sQ_rule_56, ax_clr_i, ax_clr_l, ax_clr_r, ax_clr_n, ax_ct_0, ax_ct_i, ax_ct_l, ax_ct_r, va_rf_s, Option.toList_some, Option.toList_none, List.cons_append, List.nil_append, and_true, true_and, and_self, ite_true, ite_false, if_true, if_false, Nat.reduceAdd, Nat.reduceLeDiff, Nat.reduceMul, Nat.reduceLT, nI_lt', lt_F]
          by_cases e4 : z = 0
          · rw [if_pos e4] at hQ
            rw [if_pos e4]
            subst e3 e4
            simp (disch := omega) only [sQ_rule_59, sQ_rule_60, sQ_rule_63, sQ_rule_64, sQ_rule_66, sQ_rule_68, sQ_rule_71, sQ_rule_73, ax_clr_i, ax_clr_l, ax_clr_r, ax_clr_n, ax_ct_0, ax_ct_i, ax_ct_l, ax_ct_r, va_rf_s, Option.toList_some, Option.toList_none, List.cons_append, List.nil_append, and_true, true_and, and_self, ite_true, ite_false, if_true, if_false, Nat.reduceAdd, Nat.reduceLeDiff, Nat.reduceMul, Nat.reduceLT, nI_eq0, eq_self, Nat.reduceEqDiff]
            refine mQ_rule_76 hs 3 p 0 _ _ ⟨Or.inr ⟨rfl, by show p = 1 ∨ p = 2; omega, rfl⟩, by simp, by simp⟩ (fun h' s => ?_)
            have q9 := hQ h'
            by_cases e6 : rs.length < 6
            · rw [if_pos e6] at s q9 ⊢; exact q9 s
            · rw [if_neg e6] at s q9 ⊢; exact q9 s
          · rw [if_neg e4] at hQ
            rw [if_neg e4, n63]
            simp only [ite_self] at hQ
            exact hQ h hs
    · rw [if_neg e3, n63]
      rw [if_neg e3] at hQ
      simp only [ite_self] at hQ
      exact hQ h hs
end MP
