/-! the class: parents and ancestors -/
def niU (us : List (List Nat)) (c : Nat) : Nat := bg (uAt us c) (piU (uAt us c))
def lkC (h : ax_H) (us : List (List Nat)) : Prop := ∀ c, c < us.length → h.1 11 c = oI (parU us c 0) ∧ (∀ j, j < niU us c → h.1 12 (3 * c + j) = oI (parU us c (j + 1))) ∧ h.1 13 c = nI (rwB (clN (wA us) 12) c)
theorem lkC.keep {h h' : ax_H} {us : List (List Nat)} (hl : lkC h us) (f : ∀ a k, a = 11 ∨ a = 12 ∨ a = 13 → h'.1 a k = h.1 a k) : lkC h' us := fun c hc => ⟨by rw [f _ _ (by omega)]; exact (hl c hc).1, fun j hj => by rw [f _ _ (by omega)]; exact (hl c hc).2.1 j hj, by rw [f _ _ (by omega)]; exact (hl c hc).2.2⟩
def wE (us : List (List Nat)) (m k : Nat) : Bool := eA us (k / 12) (k % 12) m
theorem wE_at (us : List (List Nat)) (m c : Nat) {j : Nat} (hj : j < 12) : wE us m (12 * c + j) = eA us c j m := by
  unfold wE; rw [show (12 * c + j) / 12 = c by omega, show (12 * c + j) % 12 = j by omega]
theorem wi_wE {us : List (List Nat)} (h12 : us.length ≤ 12) (c m : Nat) : wi (rwB (wE us m) c) (parU us c m) = rwB (wE us (m + 1)) c := by
  apply Nat.eq_of_testBit_eq
  intro j
  by_cases e : j < 12
  · rw [rwb_at _ _ e, wE_at _ _ _ e, eA_succ]
    cases q : parU us c m with
    | none => unfold wi; dsimp only; rw [rwb_at _ _ e, wE_at _ _ _ e]; simp
    | some r =>
      unfold wi; dsimp only
      rw [tb_or, rwb_at _ _ e, wE_at _ _ _ e]
      by_cases e2 : r = j <;> simp [e2]
  · rw [rwb_tb, decide_eq_false e, Bool.false_and]
    cases q : parU us c m with
    | none => unfold wi; dsimp only; rw [rwb_tb, decide_eq_false e, Bool.false_and]
    | some r =>
      have := parU_lt q
      unfold wi; dsimp only
      rw [tb_or, rwb_tb, decide_eq_false e, Bool.false_and, decide_eq_false (by omega)]; rfl
theorem wE_0 (us : List (List Nat)) (c : Nat) : rwB (wE us 0) c = 0 := by
  apply Nat.eq_of_testBit_eq
  intro j
  rw [Nat.zero_testBit, rwb_tb]
  have : wE us 0 (12 * c + j) = false := by unfold wE eA; simp
  rw [this, Bool.and_false]
theorem par_none {us : List (List Nat)} {c k : Nat} (h : niU us c < k) : parU us c k = none := by unfold niU at h; unfold parU; rw [if_pos h]
theorem wE_4 {us : List (List Nat)} (h12 : us.length ≤ 12) (c : Nat) (h3 : niU us c ≤ 3) : rwB (wE us (niU us c + 1)) c = rwB (wE us 4) c := by
  have st : ∀ m, niU us c < m → rwB (wE us m) c = rwB (wE us (m + 1)) c := fun m hm => by rw [← wi_wE h12, par_none hm]; rfl
  have h : niU us c = 0 ∨ niU us c = 1 ∨ niU us c = 2 ∨ niU us c = 3 := by omega
  rcases h with e | e | e | e <;> rw [e]
  · rw [st 1 (by omega), st 2 (by omega), st 3 (by omega)]
  · rw [st 2 (by omega), st 3 (by omega)]
  · rw [st 3 (by omega)]
theorem wA_row {us : List (List Nat)} {c : Nat} (hc : c < us.length) : rwB (wE us 4) c = rwB (wA us) c := rwb_ext (fun j hj => by
  rw [wE_at _ _ _ hj]; unfold wA
  rw [show (12 * c + j) / 12 = c by omega, show (12 * c + j) % 12 = j by omega, decide_eq_true hc, Bool.true_and])
theorem wA_col (us : List (List Nat)) : ∀ a j, us.length ≤ j → j < 12 → wA us (12 * a + j) = false := fun a j h1 h2 => by
  unfold wA eA
  rw [show (12 * a + j) / 12 = a by omega, show (12 * a + j) % 12 = j by omega]
  have : (List.range 4).any (fun k => decide (parU us a k = some j)) = false := by
    rw [List.any_eq_false]
    intro k _ hk
    have := parU_lt (of_decide_eq_true hk)
    omega
  rw [this, Bool.and_false]
theorem clA_row {us : List (List Nat)} (h12 : us.length ≤ 12) (c : Nat) : rwB (clN (wA us) us.length) c = rwB (clN (wA us) 12) c := rwb_ext (fun j hj => by
  have := clN_up (wA_col us) (12 - us.length) (by omega) c j hj
  rw [show us.length + (12 - us.length) = 12 by omega] at this
  exact this.symm)
theorem par_sup {o : Nat → Nat} {s : Nat} {x : Option Nat} {h : ax_H} {us : List (List Nat)} (hc : usC o s x h us) {c : Nat} (h1 : c < us.length) : ixOf us (supU (uAt us c)) = parU us c 0 ∧ vT (supU (uAt us c)) := by
  have ep : parU us c 0 = if bg (uAt us c) (hdU (uAt us c) + 1) = 0 then none else ixOf us (nmU (uAt us c) (bg (uAt us c) (hdU (uAt us c) + 1))) := by unfold parU; rw [if_neg (Nat.not_lt_zero _), if_pos rfl]
  rw [ep]
  unfold supU
  by_cases e : bg (uAt us c) (hdU (uAt us c) + 1) = 0
  · rw [if_pos e, if_pos e]
    refine ⟨?_, vT_nil⟩
    cases q : ixOf us [] with
    | none => rfl
    | some r => have := ixOf_some q; exact absurd this.2 (hc.own this.1).2.2
  · rw [if_neg e, if_neg e]
    have k := (hc.2.2.2.1 c h1).2
    rcases k.rest.2.1 with w | w
    · exact absurd w e
    · exact ⟨rfl, (nm_vT k w).1⟩
theorem par_ifc {o : Nat → Nat} {s : Nat} {x : Option Nat} {h : ax_H} {us : List (List Nat)} (hc : usC o s x h us) {c : Nat} (h1 : c < us.length) {j : Nat} (hj : j < niU us c) : ixOf us (nmU (uAt us c) (bg (uAt us c) (piU (uAt us c) + 1 + j))) = parU us c (j + 1) ∧ vT (nmU (uAt us c) (bg (uAt us c) (piU (uAt us c) + 1 + j))) := by
  unfold niU at hj
  have k := (hc.2.2.2.1 c h1).2
  refine ⟨?_, (nm_vT k (k.rest.2.2.2.1 j hj)).1⟩
  unfold parU
  rw [if_neg (by omega), if_neg (by omega), show piU (uAt us c) + 1 + j = piU (uAt us c) + (j + 1) by omega]
theorem usC.ifc {o : Nat → Nat} {s : Nat} {x : Option Nat} {h : ax_H} {us : List (List Nat)} (hc : usC o s x h us) {c : Nat} (h1 : c < us.length) : h.1 (17 + 8 * o c) 2 = nI (niU us c) ∧ niU us c ≤ 3 ∧ ∀ j, j < niU us c → h.2.1 (17 + 8 * o c + 1) j = lN (pL (nmU (uAt us c) (bg (uAt us c) (piU (uAt us c) + 1 + j)))) := by
  have k := (hc.2.2.2.1 c h1).1.2.2.1
  have l : (ifU (uAt us c) (bg (uAt us c) (piU (uAt us c)))).length = niU us c := by simp [ifU, niU]
  refine ⟨by rw [← l]; exact k.1, (hc.2.2.2.1 c h1).2.rest.2.2.1, fun j hj => ?_⟩
  rw [k.2 j (by rw [l]; exact hj)]
  unfold niU at hj
  unfold pA ifU
  rw [List.getD_eq_getElem?_getD, List.getElem?_map, List.getElem?_range hj]
  rfl
/-- one class's parents are linked -/
def frJ (c : Nat) (h h' : ax_H) : Prop := h'.2 = h.2 ∧ ∀ a k, ¬ (a = 11 ∧ k = c) → ¬ (a = 12 ∧ 3 * c ≤ k ∧ k < 3 * c + 3) → ¬ (a = 13 ∧ k = c) → h'.1 a k = h.1 a k
theorem frJ.rf {c : Nat} {h : ax_H} : frJ c h h := ⟨rfl, fun _ _ _ _ _ => rfl⟩
theorem frJ.tr {c : Nat} {h h' h2 : ax_H} (a : frJ c h h') (b : frJ c h' h2) : frJ c h h2 := ⟨b.1.trans a.1, fun r k h1 h3 h4 => (b.2 r k h1 h3 h4).trans (a.2 r k h1 h3 h4)⟩
def frH (h h' : ax_H) : Prop := h'.2 = h.2 ∧ ∀ a k, ¬ (11 ≤ a ∧ a ≤ 13) → h'.1 a k = h.1 a k
theorem frH.rf {h : ax_H} : frH h h := ⟨rfl, fun _ _ _ => rfl⟩
theorem frH.tr {h h' h2 : ax_H} (a : frH h h') (b : frH h' h2) : frH h h2 := ⟨b.1.trans a.1, fun r k h1 => (b.2 r k h1).trans (a.2 r k h1)⟩
theorem frJ.h {c : Nat} {h h' : ax_H} (f : frJ c h h') : frH h h' := ⟨f.1, fun a k w => f.2 a k (by omega) (by omega) (by omega)⟩
theorem frR.h {h h' : ax_H} (f : frR 13 h h') : frH h h' := ⟨f.1, fun a k w => f.2 a k (by omega)⟩
theorem usC.h {o : Nat → Nat} {s : Nat} {x : Option Nat} {h h' : ax_H} {us : List (List Nat)} (hc : usC o s x h us) (f : frH h h') : usC o s x h' us := hc.keep (by rw [f.1]) (f.2 _ _ (by omega)) (fun a k _ _ => f.2 _ _ (by omega)) (fun a k _ _ => by rw [f.1])
section CL
variable {d : Nat} {Q : Option Value → ax_H → Prop} {o : Nat → Nat} {s : Nat} {x : Option Nat} {us : List (List Nat)}
theorem mG_linkParents_i (c : Nat) (hcl : c < us.length) : ∀ (m j : Nat) (h : ax_H) (x3 : Option Value), j + m = niU us c → usC o s x h us → h.1 13 c = nI (rwB (wE us (j + 1)) c) → (∀ i, i < j → h.1 12 (3 * c + i) = oI (parU us c (i + 1))) → (∀ h' x3, frJ c h h' → h'.1 11 c = h.1 11 c → h'.1 13 c = nI (rwB (wE us (niU us c + 1)) c) → (∀ i, i < niU us c → h'.1 12 (3 * c + i) = oI (parU us c (i + 1))) → ax_wp kC (d + 2) mG_linkParents 109 [some (.ref 2), some (.int (nI c)), some (.int (nI (niU us c))), x3] [] h' Q) → ax_wp kC (d + 2) mG_linkParents 47 [some (.ref 2), some (.int (nI c)), some (.int (nI j)), x3] [] h Q
  | 0, j, h, x3, hm, hc, h13, hi, hQ => by
    have e : j = niU us c := by omega
    subst e
    have hr := hc.1
    have h12 := hc.2.2.1
    have ho := hc.2.2.2.2.1 c (by omega)
    obtain ⟨i1, i2, i3⟩ := hc.ifc hcl
    rw [sG_linkParents_47]
    simp (disch := omega) only [sG_linkParents_48, sG_linkParents_49, sG_linkParents_52, sG_linkParents_53, sG_linkParents_54, sG_linkParents_57, ax_clr_i, ax_clr_l, ax_clr_r, ax_clr_n, ax_ct_0, ax_ct_i, ax_ct_l, ax_ct_r, va_rf_s, Option.toList_some, Option.toList_none, List.cons_append, List.nil_append, and_true, true_and, and_self, ite_true, ite_false, if_true, if_false, Nat.reduceAdd, Nat.reduceLeDiff, Nat.reduceMul, Nat.reduceLT, nI_add, pk_mul, nI_lt', nI_le', nI_eq', nI_lt0, nI_ge0, nI_eq0, nI_gt0, nI_le0, nI_ne_m1, m1_ne_nI, m1_lt_nI, m1_le_nI, nI_lt_m1, nI_le_m1, nI_clamp, ax_in_nI, nI_shl, nI_shr, lg_cmp0, nx_and, nI_eq1, bI_0, bI_1, bf_or, eq_self, or_true, true_or, lt_T, le_T, lt_F, le_F, eq_F, eq_T, kdC_0, kdC_1, kdC_2, kdC_3, kdC_4, kdC_5, kdC_6, kdC_7, kdC_8, kdC_9, kdC_10, kdC_11, kdC_12, kdC_13, kdC_14, kdC_15, kdC_16, kdU_1, kdU_2, kdU_3, kdU_4, kdU_5, kdU_6, kdU_7, kdU_, kdR_1, kdR_2, kdR_3, kdR_4, kdR_5, kdR_, rC_00, rC_01, rC_02, rC_03, rC_04, rC_10, rC_16, rC_18, rC_19, rC_1a, rC_20, rC_22, rC_23, rC_24, rC_25, rC_26, rC_27, rC_28, rC_4, rC_10k, rC_u3, rC_u5, rC_u7, rC_u9, rC_ua, rC_ub, rC_uc, rC_r4, rC_r5, rC_r6, rC_r7, rC_r8, Nat.add_zero, hr, i1]
    exact hQ h x3 frJ.rf rfl h13 hi
  | m + 1, j, h, x3, hm, hc, h13, hi, hQ => by
    have hr := hc.1
    have h12 := hc.2.2.1
    have ho := hc.2.2.2.2.1 c (by omega)
    obtain ⟨i1, i2, i3⟩ := hc.ifc hcl
    have t1 := i3 j (by omega)
    obtain ⟨p1, p2⟩ := par_ifc hc hcl (show j < niU us c by omega)
    have lw := rwb_lt (wE us (j + 1)) c
    have pl : ∀ r, parU us c (j + 1) = some r → r < 31 := fun r w => by have := parU_lt w; omega
    have ew := wi_wE h12 c (j + 1)
    rw [sG_linkParents_47]
    simp (disch := omega) only [sG_linkParents_48, sG_linkParents_49, sG_linkParents_52, sG_linkParents_53, sG_linkParents_54, sG_linkParents_57, sG_linkParents_60, sG_linkParents_61, sG_linkParents_62, sG_linkParents_65, sG_linkParents_66, sG_linkParents_67, sG_linkParents_70, sG_linkParents_71, sG_linkParents_72, ax_clr_i, ax_clr_l, ax_clr_r, ax_clr_n, ax_ct_0, ax_ct_i, ax_ct_l, ax_ct_r, va_rf_s, Option.toList_some, Option.toList_none, List.cons_append, List.nil_append, and_true, true_and, and_self, ite_true, ite_false, if_true, if_false, Nat.reduceAdd, Nat.reduceLeDiff, Nat.reduceMul, Nat.reduceLT, nI_add, pk_mul, nI_lt', nI_le', nI_eq', nI_lt0, nI_ge0, nI_eq0, nI_gt0, nI_le0, nI_ne_m1, m1_ne_nI, m1_lt_nI, m1_le_nI, nI_lt_m1, nI_le_m1, nI_clamp, ax_in_nI, nI_shl, nI_shr, lg_cmp0, nx_and, nI_eq1, bI_0, bI_1, bf_or, eq_self, or_true, true_or, lt_T, le_T, lt_F, le_F, eq_F, eq_T, kdC_0, kdC_1, kdC_2, kdC_3, kdC_4, kdC_5, kdC_6, kdC_7, kdC_8, kdC_9, kdC_10, kdC_11, kdC_12, kdC_13, kdC_14, kdC_15, kdC_16, kdU_1, kdU_2, kdU_3, kdU_4, kdU_5, kdU_6, kdU_7, kdU_, kdR_1, kdR_2, kdR_3, kdR_4, kdR_5, kdR_, rC_00, rC_01, rC_02, rC_03, rC_04, rC_10, rC_16, rC_18, rC_19, rC_1a, rC_20, rC_22, rC_23, rC_24, rC_25, rC_26, rC_27, rC_28, rC_4, rC_10k, rC_u3, rC_u5, rC_u7, rC_u9, rC_ua, rC_ub, rC_uc, rC_r4, rC_r5, rC_r6, rC_r7, rC_r8, Nat.add_zero, hr, i1, t1, mG_numberOf_ hc _ p2, p1]
    simp (disch := omega) only [sG_linkParents_75, sG_linkParents_76, sG_linkParents_77, sG_linkParents_80, sG_linkParents_81, sG_linkParents_82, sG_linkParents_83, sG_linkParents_84, sG_linkParents_85, sG_linkParents_86, sG_linkParents_87, sG_linkParents_88, sG_linkParents_91, sG_linkParents_92, sG_linkParents_93, sG_linkParents_96, sG_linkParents_97, ax_clr_i, ax_clr_l, ax_clr_r, ax_clr_n, ax_ct_0, ax_ct_i, ax_ct_l, ax_ct_r, va_rf_s, Option.toList_some, Option.toList_none, List.cons_append, List.nil_append, and_true, true_and, and_self, ite_true, ite_false, if_true, if_false, Nat.reduceAdd, Nat.reduceLeDiff, Nat.reduceMul, Nat.reduceLT, nI_add, pk_mul, nI_lt', nI_le', nI_eq', nI_lt0, nI_ge0, nI_eq0, nI_gt0, nI_le0, nI_ne_m1, m1_ne_nI, m1_lt_nI, m1_le_nI, nI_lt_m1, nI_le_m1, nI_clamp, ax_in_nI, nI_shl, nI_shr, lg_cmp0, nx_and, nI_eq1, bI_0, bI_1, bf_or, eq_self, or_true, true_or, lt_T, le_T, lt_F, le_F, eq_F, eq_T, kdC_0, kdC_1, kdC_2, kdC_3, kdC_4, kdC_5, kdC_6, kdC_7, kdC_8, kdC_9, kdC_10, kdC_11, kdC_12, kdC_13, kdC_14, kdC_15, kdC_16, kdU_1, kdU_2, kdU_3, kdU_4, kdU_5, kdU_6, kdU_7, kdU_, kdR_1, kdR_2, kdR_3, kdR_4, kdR_5, kdR_, rC_00, rC_01, rC_02, rC_03, rC_04, rC_10, rC_16, rC_18, rC_19, rC_1a, rC_20, rC_22, rC_23, rC_24, rC_25, rC_26, rC_27, rC_28, rC_4, rC_10k, rC_u3, rC_u5, rC_u7, rC_u9, rC_ua, rC_ub, rC_uc, rC_r4, rC_r5, rC_r6, rC_r7, rC_r8, Nat.add_zero, hr, h13, up_I, up_I2, Nat.reduceEqDiff, false_and, reduceIte]
    simp (disch := omega) only [sG_linkParents_98, sG_linkParents_99, sG_linkParents_102, sG_linkParents_103, sG_linkParents_106, ax_clr_i, ax_clr_l, ax_clr_r, ax_clr_n, ax_ct_0, ax_ct_i, ax_ct_l, ax_ct_r, va_rf_s, Option.toList_some, Option.toList_none, List.cons_append, List.nil_append, and_true, true_and, and_self, ite_true, ite_false, if_true, if_false, Nat.reduceAdd, Nat.reduceLeDiff, Nat.reduceMul, Nat.reduceLT, nI_add, pk_mul, nI_lt', nI_le', nI_eq', nI_lt0, nI_ge0, nI_eq0, nI_gt0, nI_le0, nI_ne_m1, m1_ne_nI, m1_lt_nI, m1_le_nI, nI_lt_m1, nI_le_m1, nI_clamp, ax_in_nI, nI_shl, nI_shr, lg_cmp0, nx_and, nI_eq1, bI_0, bI_1, bf_or, eq_self, or_true, true_or, lt_T, le_T, lt_F, le_F, eq_F, eq_T, kdC_0, kdC_1, kdC_2, kdC_3, kdC_4, kdC_5, kdC_6, kdC_7, kdC_8, kdC_9, kdC_10, kdC_11, kdC_12, kdC_13, kdC_14, kdC_15, kdC_16, kdU_1, kdU_2, kdU_3, kdU_4, kdU_5, kdU_6, kdU_7, kdU_, kdR_1, kdR_2, kdR_3, kdR_4, kdR_5, kdR_, rC_00, rC_01, rC_02, rC_03, rC_04, rC_10, rC_16, rC_18, rC_19, rC_1a, rC_20, rC_22, rC_23, rC_24, rC_25, rC_26, rC_27, rC_28, rC_4, rC_10k, rC_u3, rC_u5, rC_u7, rC_u9, rC_ua, rC_ub, rC_uc, rC_r4, rC_r5, rC_r6, rC_r7, rC_r8, Nat.add_zero, mG_with_ _ _ (show rwB (wE us (j + 1)) c < 2 ^ 31 by omega) pl, ew]
    have f1 : frJ c h (ax_upI (ax_upI h 12 (3 * c + j) (oI (parU us c (j + 1)))) 13 c (nI (rwB (wE us (j + 1 + 1)) c))) := ⟨rfl, fun a k w1 w2 w3 => by rw [up_I, if_neg (by omega), up_I, if_neg (by omega)]⟩
    refine mG_linkParents_i c hcl m (j + 1) _ _ (by omega) (hc.h f1.h) (up_at _ _ _ _) (fun i hi2 => ?_) (fun h' x3 f e1 => hQ h' x3 (f1.tr f) (by rw [e1, up_I, if_neg (by omega), up_I, if_neg (by omega)]))
    rw [up_I, if_neg (by omega), up_I]
    by_cases e : i = j
    · rw [if_pos ⟨rfl, by rw [e]⟩, e]
    · rw [if_neg (by omega)]; exact hi i (by omega)
def ptC (h : ax_H) (us : List (List Nat)) (n : Nat) : Prop := ∀ c, c < n → h.1 11 c = oI (parU us c 0) ∧ (∀ j, j < niU us c → h.1 12 (3 * c + j) = oI (parU us c (j + 1))) ∧ h.1 13 c = nI (rwB (wA us) c)
theorem mG_linkParents_l : ∀ (q c : Nat) (h : ax_H) (x2 x3 : Option Value), c + q = us.length → usC o s x h us → ptC h us c → (∀ h' x2 x3, frH h h' → ptC h' us us.length → ax_wp kC (d + 2) mG_linkParents 115 [some (.ref 2), some (.int (nI us.length)), x2, x3] [] h' Q) → ax_wp kC (d + 2) mG_linkParents 2 [some (.ref 2), some (.int (nI c)), x2, x3] [] h Q
  | 0, c, h, x2, x3, hm, hc, hp, hQ => by
    have e : c = us.length := by omega
    subst e
    have h1 := hc.2.1
    have h12 := hc.2.2.1
    rw [sG_linkParents_2]
    simp (disch := omega) only [sG_linkParents_3, sG_linkParents_4, sG_linkParents_7, ax_clr_i, ax_clr_l, ax_clr_r, ax_clr_n, ax_ct_0, ax_ct_i, ax_ct_l, ax_ct_r, va_rf_s, Option.toList_some, Option.toList_none, List.cons_append, List.nil_append, and_true, true_and, and_self, ite_true, ite_false, if_true, if_false, Nat.reduceAdd, Nat.reduceLeDiff, Nat.reduceMul, Nat.reduceLT, nI_add, pk_mul, nI_lt', nI_le', nI_eq', nI_lt0, nI_ge0, nI_eq0, nI_gt0, nI_le0, nI_ne_m1, m1_ne_nI, m1_lt_nI, m1_le_nI, nI_lt_m1, nI_le_m1, nI_clamp, ax_in_nI, nI_shl, nI_shr, lg_cmp0, nx_and, nI_eq1, bI_0, bI_1, bf_or, eq_self, or_true, true_or, lt_T, le_T, lt_F, le_F, eq_F, eq_T, kdC_0, kdC_1, kdC_2, kdC_3, kdC_4, kdC_5, kdC_6, kdC_7, kdC_8, kdC_9, kdC_10, kdC_11, kdC_12, kdC_13, kdC_14, kdC_15, kdC_16, kdU_1, kdU_2, kdU_3, kdU_4, kdU_5, kdU_6, kdU_7, kdU_, kdR_1, kdR_2, kdR_3, kdR_4, kdR_5, kdR_, rC_00, rC_01, rC_02, rC_03, rC_04, rC_10, rC_16, rC_18, rC_19, rC_1a, rC_20, rC_22, rC_23, rC_24, rC_25, rC_26, rC_27, rC_28, rC_4, rC_10k, rC_u3, rC_u5, rC_u7, rC_u9, rC_ua, rC_ub, rC_uc, rC_r4, rC_r5, rC_r6, rC_r7, rC_r8, Nat.add_zero, h1]
    exact hQ h x2 x3 frH.rf hp
  | q + 1, c, h, x2, x3, hm, hc, hp, hQ => by
    have hr := hc.1
    have h1 := hc.2.1
    have h12 := hc.2.2.1
    have ho := hc.2.2.2.2.1 c (by omega)
    have t1 := (hc.2.2.2.1 c (by omega)).1.2.1
    obtain ⟨p1, p2⟩ := par_sup hc (show c < us.length by omega)
    have pl : ∀ r, parU us c 0 = some r → r < 31 := fun r w => by have := parU_lt w; omega
    have ew := wi_wE h12 c 0
    rw [wE_0] at ew
    have i2 := (hc.ifc (show c < us.length by omega)).2.1
    rw [sG_linkParents_2]
    simp (disch := omega) only [sG_linkParents_3, sG_linkParents_4, sG_linkParents_7, sG_linkParents_10, sG_linkParents_11, sG_linkParents_14, sG_linkParents_15, sG_linkParents_16, sG_linkParents_17, sG_linkParents_20, sG_linkParents_21, sG_linkParents_22, sG_linkParents_25, ax_clr_i, ax_clr_l, ax_clr_r, ax_clr_n, ax_ct_0, ax_ct_i, ax_ct_l, ax_ct_r, va_rf_s, Option.toList_some, Option.toList_none, List.cons_append, List.nil_append, and_true, true_and, and_self, ite_true, ite_false, if_true, if_false, Nat.reduceAdd, Nat.reduceLeDiff, Nat.reduceMul, Nat.reduceLT, nI_add, pk_mul, nI_lt', nI_le', nI_eq', nI_lt0, nI_ge0, nI_eq0, nI_gt0, nI_le0, nI_ne_m1, m1_ne_nI, m1_lt_nI, m1_le_nI, nI_lt_m1, nI_le_m1, nI_clamp, ax_in_nI, nI_shl, nI_shr, lg_cmp0, nx_and, nI_eq1, bI_0, bI_1, bf_or, eq_self, or_true, true_or, lt_T, le_T, lt_F, le_F, eq_F, eq_T, kdC_0, kdC_1, kdC_2, kdC_3, kdC_4, kdC_5, kdC_6, kdC_7, kdC_8, kdC_9, kdC_10, kdC_11, kdC_12, kdC_13, kdC_14, kdC_15, kdC_16, kdU_1, kdU_2, kdU_3, kdU_4, kdU_5, kdU_6, kdU_7, kdU_, kdR_1, kdR_2, kdR_3, kdR_4, kdR_5, kdR_, rC_00, rC_01, rC_02, rC_03, rC_04, rC_10, rC_16, rC_18, rC_19, rC_1a, rC_20, rC_22, rC_23, rC_24, rC_25, rC_26, rC_27, rC_28, rC_4, rC_10k, rC_u3, rC_u5, rC_u7, rC_u9, rC_ua, rC_ub, rC_uc, rC_r4, rC_r5, rC_r6, rC_r7, rC_r8, Nat.add_zero, hr, h1, t1, mG_numberOf_ hc _ p2, p1]
    simp (disch := omega) only [sG_linkParents_28, sG_linkParents_29, sG_linkParents_30, sG_linkParents_33, sG_linkParents_34, sG_linkParents_35, sG_linkParents_36, sG_linkParents_39, sG_linkParents_40, sG_linkParents_41, sG_linkParents_44, sG_linkParents_45, sG_linkParents_46, ax_clr_i, ax_clr_l, ax_clr_r, ax_clr_n, ax_ct_0, ax_ct_i, ax_ct_l, ax_ct_r, va_rf_s, Option.toList_some, Option.toList_none, List.cons_append, List.nil_append, and_true, true_and, and_self, ite_true, ite_false, if_true, if_false, Nat.reduceAdd, Nat.reduceLeDiff, Nat.reduceMul, Nat.reduceLT, nI_add, pk_mul, nI_lt', nI_le', nI_eq', nI_lt0, nI_ge0, nI_eq0, nI_gt0, nI_le0, nI_ne_m1, m1_ne_nI, m1_lt_nI, m1_le_nI, nI_lt_m1, nI_le_m1, nI_clamp, ax_in_nI, nI_shl, nI_shr, lg_cmp0, nx_and, nI_eq1, bI_0, bI_1, bf_or, eq_self, or_true, true_or, lt_T, le_T, lt_F, le_F, eq_F, eq_T, kdC_0, kdC_1, kdC_2, kdC_3, kdC_4, kdC_5, kdC_6, kdC_7, kdC_8, kdC_9, kdC_10, kdC_11, kdC_12, kdC_13, kdC_14, kdC_15, kdC_16, kdU_1, kdU_2, kdU_3, kdU_4, kdU_5, kdU_6, kdU_7, kdU_, kdR_1, kdR_2, kdR_3, kdR_4, kdR_5, kdR_, rC_00, rC_01, rC_02, rC_03, rC_04, rC_10, rC_16, rC_18, rC_19, rC_1a, rC_20, rC_22, rC_23, rC_24, rC_25, rC_26, rC_27, rC_28, rC_4, rC_10k, rC_u3, rC_u5, rC_u7, rC_u9, rC_ua, rC_ub, rC_uc, rC_r4, rC_r5, rC_r6, rC_r7, rC_r8, Nat.add_zero, hr, up_at, up_I2, mG_with_ _ _ (show 0 < 2 ^ 31 by omega) pl, ew]
    have f1 : frJ c h (ax_upI (ax_upI h 11 c (oI (parU us c 0))) 13 c (nI (rwB (wE us (0 + 1)) c))) := ⟨rfl, fun a k w1 w2 w3 => by rw [up_I, if_neg (by omega), up_I, if_neg (by omega)]⟩
    refine mG_linkParents_i c (by omega) (niU us c) 0 _ _ (by omega) (hc.h f1.h) (up_at _ _ _ _) (fun i hi => by omega) (fun h' x3 f e1 e2 e3 => ?_)
    simp (disch := omega) only [sG_linkParents_109, sG_linkParents_112, ax_clr_i, ax_clr_l, ax_clr_r, ax_clr_n, ax_ct_0, ax_ct_i, ax_ct_l, ax_ct_r, va_rf_s, Option.toList_some, Option.toList_none, List.cons_append, List.nil_append, and_true, true_and, and_self, ite_true, ite_false, if_true, if_false, Nat.reduceAdd, Nat.reduceLeDiff, Nat.reduceMul, Nat.reduceLT, nI_add]
    have f2 := f1.tr f
    refine mG_linkParents_l q (c + 1) h' _ _ (by omega) (hc.h f2.h) (fun a ha => ?_) (fun h2 x2 x3 f3 => hQ h2 x2 x3 (f2.h.tr f3))
    by_cases e : a = c
    · subst e
      refine ⟨by rw [e1, up_I, if_neg (by omega), up_at], e3, ?_⟩
      rw [e2, wE_4 h12 _ i2, wA_row (by omega)]
    · have w := hp a (by omega)
      exact ⟨by rw [f2.2 _ _ (by omega) (by omega) (by omega)]; exact w.1, fun j hj => by rw [f2.2 _ _ (by omega) (by have := (hc.ifc (show a < us.length by omega)).2.1; omega) (by omega)]; exact w.2.1 j hj, by rw [f2.2 _ _ (by omega) (by omega) (by omega)]; exact w.2.2⟩
theorem mG_linkParents_ {h : ax_H} (hc : usC o s x h us) (hQ : ∀ h', frH h h' → lkC h' us → Q none h') : ax_wp kC (d + 2) mG_linkParents 0 [some (.ref 2), none, none, none] [] h Q := by
  have h12 := hc.2.2.1
  simp only [sG_linkParents_0, sG_linkParents_1, ax_clr_i, ax_clr_l, ax_clr_r, ax_clr_n, ax_ct_0, ax_ct_i, ax_ct_l, ax_ct_r, va_rf_s, Option.toList_some, Option.toList_none, List.cons_append, List.nil_append, and_true, true_and, and_self, ite_true, ite_false, if_true, if_false, Nat.reduceAdd, Nat.reduceLeDiff, Nat.reduceMul, Nat.reduceLT]
  refine mG_linkParents_l us.length 0 h none none (by omega) hc (fun a ha => by omega) (fun h' x2 x3 f hp => ?_)
  have hc2 := hc.h f
  have hr2 := hc2.1
  simp (disch := omega) only [sG_linkParents_115, sG_linkParents_116, sG_linkParents_117, sG_linkParents_120, ax_clr_i, ax_clr_l, ax_clr_r, ax_clr_n, ax_ct_0, ax_ct_i, ax_ct_l, ax_ct_r, va_rf_s, Option.toList_some, Option.toList_none, List.cons_append, List.nil_append, and_true, true_and, and_self, ite_true, ite_false, if_true, if_false, Nat.reduceAdd, Nat.reduceLeDiff, Nat.reduceMul, Nat.reduceLT, kdC_0, kdC_1, kdC_2, kdC_3, kdC_4, kdC_5, kdC_6, kdC_7, kdC_8, kdC_9, kdC_10, kdC_11, kdC_12, kdC_13, kdC_14, kdC_15, kdC_16, kdU_1, kdU_2, kdU_3, kdU_4, kdU_5, kdU_6, kdU_7, kdU_, kdR_1, kdR_2, kdR_3, kdR_4, kdR_5, kdR_, rC_00, rC_01, rC_02, rC_03, rC_04, rC_10, rC_16, rC_18, rC_19, rC_1a, rC_20, rC_22, rC_23, rC_24, rC_25, rC_26, rC_27, rC_28, rC_4, rC_10k, rC_u3, rC_u5, rC_u7, rC_u9, rC_ua, rC_ub, rC_uc, rC_r4, rC_r5, rC_r6, rC_r7, rC_r8, Nat.add_zero, hr2]
  refine mG_follow_ 13 us.length kdC_13 h12 (by omega) (wA us) hc2.2.1 (fun c hc => (hp c hc).2.2) (fun h3 f3 w3 => ?_)
  simp (disch := omega) only [sG_linkParents_123, ax_clr_i, ax_clr_l, ax_clr_r, ax_clr_n, ax_ct_0, ax_ct_i, ax_ct_l, ax_ct_r, va_rf_s, Option.toList_some, Option.toList_none, List.cons_append, List.nil_append, and_true, true_and, and_self, ite_true, ite_false, if_true, if_false, Nat.reduceAdd, Nat.reduceLeDiff, Nat.reduceMul, Nat.reduceLT]
  refine hQ h3 (f.tr f3.h) (fun c hcl => ⟨?_, fun j hj => ?_, ?_⟩)
  · rw [f3.2 _ _ (by omega)]; exact (hp c hcl).1
  · rw [f3.2 _ _ (by omega)]; exact (hp c hcl).2.1 j hj
  · rw [w3 c hcl, clA_row h12]
theorem mG_isCircular_l {h : ax_H} (hr : h.2.2 = rC o s x) (n : Nat) (hn : n ≤ 12) (h1 : h.1 2 1 = nI n) (w : Nat → Bool) (hw : rowC h 13 w n) (c v : Nat) (hv : v < 2 ^ 12) : ∀ (q a : Nat), a + q = n → ax_wp kC (d + 1) mG_isCircular 13 [some (.ref 2), some (.int (nI c)), some (.int (nI v)), some (.int (nI a))] [] h Q = Q (some (.int (bI ((List.range q).any (fun j => v.testBit (a + j) && w (12 * (a + j) + (a + j))))))) h
  | 0, a, ha => by
    rw [sG_isCircular_13]
    simp (disch := omega) only [sG_isCircular_14, sG_isCircular_15, sG_isCircular_18, sG_isCircular_50, sG_isCircular_51, ax_clr_i, ax_clr_l, ax_clr_r, ax_clr_n, ax_ct_0, ax_ct_i, ax_ct_l, ax_ct_r, va_rf_s, Option.toList_some, Option.toList_none, List.cons_append, List.nil_append, and_true, true_and, and_self, ite_true, ite_false, if_true, if_false, Nat.reduceAdd, Nat.reduceLeDiff, Nat.reduceMul, Nat.reduceLT, nI_add, pk_mul, nI_lt', nI_le', nI_eq', nI_lt0, nI_ge0, nI_eq0, nI_gt0, nI_le0, nI_ne_m1, m1_ne_nI, m1_lt_nI, m1_le_nI, nI_lt_m1, nI_le_m1, nI_clamp, ax_in_nI, nI_shl, nI_shr, lg_cmp0, nx_and, nI_eq1, bI_0, bI_1, bf_or, eq_self, or_true, true_or, lt_T, le_T, lt_F, le_F, eq_F, eq_T, kdC_0, kdC_1, kdC_2, kdC_3, kdC_4, kdC_5, kdC_6, kdC_7, kdC_8, kdC_9, kdC_10, kdC_11, kdC_12, kdC_13, kdC_14, kdC_15, kdC_16, kdU_1, kdU_2, kdU_3, kdU_4, kdU_5, kdU_6, kdU_7, kdU_, kdR_1, kdR_2, kdR_3, kdR_4, kdR_5, kdR_, rC_00, rC_01, rC_02, rC_03, rC_04, rC_10, rC_16, rC_18, rC_19, rC_1a, rC_20, rC_22, rC_23, rC_24, rC_25, rC_26, rC_27, rC_28, rC_4, rC_10k, rC_u3, rC_u5, rC_u7, rC_u9, rC_ua, rC_ub, rC_uc, rC_r4, rC_r5, rC_r6, rC_r7, rC_r8, Nat.add_zero, h1]
    rfl
  | q + 1, a, ha => by
    have ra := hw a (by omega)
    have la := rwb_lt w a
    rw [sG_isCircular_13, any_shift (fun j => v.testBit j && w (12 * j + j))]
    simp (disch := omega) only [sG_isCircular_14, sG_isCircular_15, sG_isCircular_18, sG_isCircular_21, sG_isCircular_22, sG_isCircular_23, sG_isCircular_26, ax_clr_i, ax_clr_l, ax_clr_r, ax_clr_n, ax_ct_0, ax_ct_i, ax_ct_l, ax_ct_r, va_rf_s, Option.toList_some, Option.toList_none, List.cons_append, List.nil_append, and_true, true_and, and_self, ite_true, ite_false, if_true, if_false, Nat.reduceAdd, Nat.reduceLeDiff, Nat.reduceMul, Nat.reduceLT, nI_add, pk_mul, nI_lt', nI_le', nI_eq', nI_lt0, nI_ge0, nI_eq0, nI_gt0, nI_le0, nI_ne_m1, m1_ne_nI, m1_lt_nI, m1_le_nI, nI_lt_m1, nI_le_m1, nI_clamp, ax_in_nI, nI_shl, nI_shr, lg_cmp0, nx_and, nI_eq1, bI_0, bI_1, bf_or, eq_self, or_true, true_or, lt_T, le_T, lt_F, le_F, eq_F, eq_T, kdC_0, kdC_1, kdC_2, kdC_3, kdC_4, kdC_5, kdC_6, kdC_7, kdC_8, kdC_9, kdC_10, kdC_11, kdC_12, kdC_13, kdC_14, kdC_15, kdC_16, kdU_1, kdU_2, kdU_3, kdU_4, kdU_5, kdU_6, kdU_7, kdU_, kdR_1, kdR_2, kdR_3, kdR_4, kdR_5, kdR_, rC_00, rC_01, rC_02, rC_03, rC_04, rC_10, rC_16, rC_18, rC_19, rC_1a, rC_20, rC_22, rC_23, rC_24, rC_25, rC_26, rC_27, rC_28, rC_4, rC_10k, rC_u3, rC_u5, rC_u7, rC_u9, rC_ua, rC_ub, rC_uc, rC_r4, rC_r5, rC_r6, rC_r7, rC_r8, Nat.add_zero, h1, mG_isIn_ v a (by omega) (by omega)]
    have nx : ax_wp kC (d + 1) mG_isCircular 44 [some (.ref 2), some (.int (nI c)), some (.int (nI v)), some (.int (nI a))] [] h Q = Q (some (.int (bI ((List.range q).any (fun j => v.testBit (a + 1 + j) && w (12 * (a + 1 + j) + (a + 1 + j))))))) h := by
      simp (disch := omega) only [sG_isCircular_44, sG_isCircular_47, ax_clr_i, ax_clr_l, ax_clr_r, ax_clr_n, ax_ct_0, ax_ct_i, ax_ct_l, ax_ct_r, va_rf_s, Option.toList_some, Option.toList_none, List.cons_append, List.nil_append, and_true, true_and, and_self, ite_true, ite_false, if_true, if_false, Nat.reduceAdd, Nat.reduceLeDiff, Nat.reduceMul, Nat.reduceLT, nI_add]
      exact mG_isCircular_l hr n hn h1 w hw c v hv q (a + 1) (by omega)
    by_cases b1 : v.testBit a = true
    · rw [if_neg (by rw [b1]; simp), b1, Bool.true_and]
      simp (disch := omega) only [sG_isCircular_29, sG_isCircular_30, sG_isCircular_33, sG_isCircular_34, sG_isCircular_35, sG_isCircular_36, sG_isCircular_39, ax_clr_i, ax_clr_l, ax_clr_r, ax_clr_n, ax_ct_0, ax_ct_i, ax_ct_l, ax_ct_r, va_rf_s, Option.toList_some, Option.toList_none, List.cons_append, List.nil_append, and_true, true_and, and_self, ite_true, ite_false, if_true, if_false, Nat.reduceAdd, Nat.reduceLeDiff, Nat.reduceMul, Nat.reduceLT, nI_add, pk_mul, nI_lt', nI_le', nI_eq', nI_lt0, nI_ge0, nI_eq0, nI_gt0, nI_le0, nI_ne_m1, m1_ne_nI, m1_lt_nI, m1_le_nI, nI_lt_m1, nI_le_m1, nI_clamp, ax_in_nI, nI_shl, nI_shr, lg_cmp0, nx_and, nI_eq1, bI_0, bI_1, bf_or, eq_self, or_true, true_or, lt_T, le_T, lt_F, le_F, eq_F, eq_T, kdC_0, kdC_1, kdC_2, kdC_3, kdC_4, kdC_5, kdC_6, kdC_7, kdC_8, kdC_9, kdC_10, kdC_11, kdC_12, kdC_13, kdC_14, kdC_15, kdC_16, kdU_1, kdU_2, kdU_3, kdU_4, kdU_5, kdU_6, kdU_7, kdU_, kdR_1, kdR_2, kdR_3, kdR_4, kdR_5, kdR_, rC_00, rC_01, rC_02, rC_03, rC_04, rC_10, rC_16, rC_18, rC_19, rC_1a, rC_20, rC_22, rC_23, rC_24, rC_25, rC_26, rC_27, rC_28, rC_4, rC_10k, rC_u3, rC_u5, rC_u7, rC_u9, rC_ua, rC_ub, rC_uc, rC_r4, rC_r5, rC_r6, rC_r7, rC_r8, Nat.add_zero, hr, ra, mG_isIn_ (rwB w a) a (by omega) (by omega), rwb_at w a (show a < 12 by omega)]
      by_cases b2 : w (12 * a + a) = true
      · rw [if_neg (by rw [b2]; simp), b2, Bool.true_or]
        simp (disch := omega) only [sG_isCircular_42, sG_isCircular_43, ax_clr_i, ax_clr_l, ax_clr_r, ax_clr_n, ax_ct_0, ax_ct_i, ax_ct_l, ax_ct_r, va_rf_s, Option.toList_some, Option.toList_none, List.cons_append, List.nil_append, and_true, true_and, and_self, ite_true, ite_false, if_true, if_false, Nat.reduceAdd, Nat.reduceLeDiff, Nat.reduceMul, Nat.reduceLT, nI_add, pk_mul, nI_lt', nI_le', nI_eq', nI_lt0, nI_ge0, nI_eq0, nI_gt0, nI_le0, nI_ne_m1, m1_ne_nI, m1_lt_nI, m1_le_nI, nI_lt_m1, nI_le_m1, nI_clamp, ax_in_nI, nI_shl, nI_shr, lg_cmp0, nx_and, nI_eq1, bI_0, bI_1, bf_or, eq_self, or_true, true_or]
        rfl
      · rw [if_pos (by simpa using b2), nx]
        have b3 : w (12 * a + a) = false := by simpa using b2
        rw [b3, Bool.false_or]
    · rw [if_pos (by simpa using b1), nx]
      have b3 : v.testBit a = false := by simpa using b1
      rw [b3, Bool.false_and, Bool.false_or]
theorem cir_eq (us : List (List Nat)) (h12 : us.length ≤ 12) {c : Nat} (hc : c < us.length) : (List.range us.length).any (fun j => (rwB (clN (wA us) 12) c ||| 2 ^ c).testBit (0 + j) && clN (wA us) 12 (12 * (0 + j) + (0 + j))) = cirU us c := by
  have col := clN_col (wA_col us) 12
  unfold cirU
  rw [Bool.eq_iff_iff, List.any_eq_true, Bool.or_eq_true, List.any_eq_true]
  constructor
  · rintro ⟨j, hj, w⟩
    rw [List.mem_range] at hj
    rw [Nat.zero_add, tb_or, rwb_at _ _ (by omega), Bool.and_eq_true, Bool.or_eq_true] at w
    rcases w.1 with w1 | w1
    · exact Or.inr ⟨j, List.mem_range.mpr (by omega), by rw [w1, show 13 * j = 12 * j + j by omega, w.2]; rfl⟩
    · have e := of_decide_eq_true w1
      subst e
      exact Or.inl (by rw [show 13 * c = 12 * c + c by omega]; exact w.2)
  · rintro (w | ⟨j, hj, w⟩)
    · refine ⟨c, List.mem_range.mpr hc, ?_⟩
      rw [Nat.zero_add, tb_or, decide_eq_true rfl, Bool.or_true, Bool.true_and, show 12 * c + c = 13 * c by omega]; exact w
    · rw [List.mem_range] at hj
      rw [Bool.and_eq_true] at w
      by_cases e : j < us.length
      · refine ⟨j, List.mem_range.mpr e, ?_⟩
        rw [Nat.zero_add, tb_or, rwb_at _ _ hj, w.1, Bool.true_or, Bool.true_and, show 12 * j + j = 13 * j by omega]; exact w.2
      · rw [col c j (by omega) hj] at w; exact absurd w.1 (by simp)
theorem mG_isCircular_ {h : ax_H} (hc : usC o s x h us) (hl : lkC h us) (c : Nat) (hcl : c < us.length) : ax_wp kC (d + 1) mG_isCircular 0 [some (.ref 2), some (.int (nI c)), none, none] [] h Q = Q (some (.int (bI (cirU us c)))) h := by
  have hr := hc.1
  have h12 := hc.2.2.1
  have r1 := (hl c hcl).2.2
  have l1 := rwb_lt (clN (wA us) 12) c
  have p2 : 2 ^ c < 2 ^ 12 := Nat.pow_lt_pow_right (by omega) (by omega)
  have l2 : rwB (clN (wA us) 12) c ||| 2 ^ c < 2 ^ 12 := Nat.or_lt_two_pow l1 p2
  simp (disch := omega) only [sG_isCircular_0, sG_isCircular_1, sG_isCircular_4, sG_isCircular_5, sG_isCircular_6, sG_isCircular_7, sG_isCircular_8, sG_isCircular_9, sG_isCircular_10, sG_isCircular_11, sG_isCircular_12, ax_clr_i, ax_clr_l, ax_clr_r, ax_clr_n, ax_ct_0, ax_ct_i, ax_ct_l, ax_ct_r, va_rf_s, Option.toList_some, Option.toList_none, List.cons_append, List.nil_append, and_true, true_and, and_self, ite_true, ite_false, if_true, if_false, Nat.reduceAdd, Nat.reduceLeDiff, Nat.reduceMul, Nat.reduceLT, nI_add, pk_mul, nI_lt', nI_le', nI_eq', nI_lt0, nI_ge0, nI_eq0, nI_gt0, nI_le0, nI_ne_m1, m1_ne_nI, m1_lt_nI, m1_le_nI, nI_lt_m1, nI_le_m1, nI_clamp, ax_in_nI, nI_shl, nI_shr, lg_cmp0, nx_and, nI_eq1, bI_0, bI_1, bf_or, eq_self, or_true, true_or, lt_T, le_T, lt_F, le_F, eq_F, eq_T, kdC_0, kdC_1, kdC_2, kdC_3, kdC_4, kdC_5, kdC_6, kdC_7, kdC_8, kdC_9, kdC_10, kdC_11, kdC_12, kdC_13, kdC_14, kdC_15, kdC_16, kdU_1, kdU_2, kdU_3, kdU_4, kdU_5, kdU_6, kdU_7, kdU_, kdR_1, kdR_2, kdR_3, kdR_4, kdR_5, kdR_, rC_00, rC_01, rC_02, rC_03, rC_04, rC_10, rC_16, rC_18, rC_19, rC_1a, rC_20, rC_22, rC_23, rC_24, rC_25, rC_26, rC_27, rC_28, rC_4, rC_10k, rC_u3, rC_u5, rC_u7, rC_u9, rC_ua, rC_ub, rC_uc, rC_r4, rC_r5, rC_r6, rC_r7, rC_r8, Nat.add_zero, hr, r1, Nat.one_mul, nI_or]
  rw [mG_isCircular_l hr us.length h12 hc.2.1 (clN (wA us) 12) (fun c hc => (hl c hc).2.2) c _ l2 us.length 0 (by omega), cir_eq us h12 hcl]
end CL
