/-! the class: a read unit becomes a class -/
def nAd (us : List (List Nat)) (b : List Nat) : List (List Nat) := match ixOf us (ownU b) with
  | some c => us.set c b
  | none => if us.length = 12 then us else us ++ [b]
def aAd (us : List (List Nat)) (b : List Nat) : Option Nat := match ixOf us (ownU b) with
  | some c => some c
  | none => if us.length = 12 then none else some us.length
def oAd (o : Nat → Nat) (s c : Nat) : Nat → Nat := fun i => if i = c then s else o i
theorem prm.ad {o : Nat → Nat} {s c : Nat} (h : prm o s) (hc : c < 12) : prm (oAd o s c) (o c) := by
  obtain ⟨h1, h2, h3, h4⟩ := h
  unfold oAd
  refine ⟨fun i hi => ?_, h1 c hc, fun i j hi hj e => ?_, fun i hi e => ?_⟩
  · dsimp only; split
    · exact h2
    · exact h1 i hi
  · dsimp only at e
    by_cases e1 : i = c
    · by_cases e2 : j = c
      · omega
      · rw [if_pos e1, if_neg e2] at e; exact absurd e.symm (h4 j hj)
    · by_cases e2 : j = c
      · rw [if_neg e1, if_pos e2] at e; exact absurd e (h4 i hi)
      · rw [if_neg e1, if_neg e2] at e; exact h3 i j hi hj e
  · dsimp only at e
    by_cases e1 : i = c
    · rw [if_pos e1] at e; exact absurd e.symm (h4 c hc)
    · rw [if_neg e1] at e; exact e1 (h3 i c hi hc e)
theorem rC_ad (o : Nat → Nat) (s : Nat) (x : Option Nat) {h : ax_H} (hr : h.2.2 = rC o s x) (c : Nat) (hc : c < 12) : (ax_upR (ax_upR h 10 c (some (17 + 8 * s))) 2 2 (some (17 + 8 * o c))).2.2 = rC (oAd o s c) (o c) x := by
  funext r k
  rw [up_R, up_R, hr]
  by_cases e2 : r = 2
  · subst e2
    rw [if_neg (show ¬ (2 = 10 ∧ k = c) by omega)]
    by_cases e : k = 2
    · subst e; rw [if_pos ⟨rfl, rfl⟩]; rfl
    · rw [if_neg (fun w => e w.2)]
      unfold rC
      match k with
      | 0 => rfl
      | 1 => rfl
      | 2 => exact absurd rfl e
      | 3 => rfl
      | 4 => rfl
      | 5 => rfl
      | 6 => rfl
      | 7 => rfl
      | 8 => rfl
      | k + 9 => rfl
  · rw [if_neg (fun w => e2 w.1)]
    by_cases e10 : r = 10
    · subst e10
      by_cases e : k = c
      · subst e
        rw [if_pos ⟨rfl, rfl⟩, rC_10k hc]
        unfold oAd; rw [if_pos rfl]
      · rw [if_neg (fun w => e w.2)]
        by_cases ek : k < 12
        · rw [rC_10k ek, rC_10k ek]; unfold oAd; rw [if_neg e]
        · have n : ∀ o s, rC o s x 10 k = none := fun o s => if_neg ek
          rw [n, n]
    · rw [if_neg (fun w => e10 w.1)]
      unfold rC
      simp only [if_neg e2, if_neg e10]
/-- what becoming a class leaves alone -/
def frBa (h h' : ax_H) : Prop := h'.2.1 = h.2.1 ∧ ∀ a k, ¬ (a = 2 ∧ k = 1) → ¬ (11 ≤ a ∧ a ≤ 13) → h'.1 a k = h.1 a k
section CA
variable {d : Nat} {Q : Option Value → ax_H → Prop} {o : Nat → Nat} {s : Nat} {x : Option Nat} {us : List (List Nat)} {b : List Nat}
theorem mG_adoptSpare_e {h : ax_H} (n c : Nat) (hn : n ≤ 12) (hcn : c < n) (us' : List (List Nat)) (hl' : us'.length = n) (hp : prm o s) (hr : h.2.2 = rC o s x) (h1 : h.1 2 1 = nI n) (hu : ∀ j, j < n → unK h (oAd o s c j) (uAt us' j) ∧ okU (uAt us' j)) (hQ : ∀ h', h'.2.1 = h.2.1 → (∀ a k, ¬ (11 ≤ a ∧ a ≤ 13) → h'.1 a k = h.1 a k) → usC (oAd o s c) (o c) x h' us' → lkC h' us' → Q (some (.int (nI c))) h') : ax_wp kC (d + 3) mG_adoptSpare 43 [some (.ref 2), some (.int (nI c)), none] [] h Q := by
  subst hl'
  have ho := hp.1 c (by omega)
  have hs := hp.2.1
  have kl : (17 + 8 * o c < kC.length) = True := by
    rw [kC_len]; exact eq_true (by omega)
  have r10 : ∀ r j, (ax_upR h 10 c (some (17 + 8 * s))).2.2 r j = if r = 10 ∧ j = c then some (17 + 8 * s) else rC o s x r j := fun r j => by rw [up_R, hr]
  simp (disch := omega) only [sG_adoptSpare_43, sG_adoptSpare_44, sG_adoptSpare_47, sG_adoptSpare_48, sG_adoptSpare_49, sG_adoptSpare_50, sG_adoptSpare_51, sG_adoptSpare_54, sG_adoptSpare_55, sG_adoptSpare_56, sG_adoptSpare_59, sG_adoptSpare_60, sG_adoptSpare_61, sG_adoptSpare_62, sG_adoptSpare_65, sG_adoptSpare_66, ax_clr_i, ax_clr_l, ax_clr_r, ax_clr_n, ax_ct_0, ax_ct_i, ax_ct_l, ax_ct_r, va_rf_s, Option.toList_some, Option.toList_none, List.cons_append, List.nil_append, and_true, true_and, and_self, ite_true, ite_false, if_true, if_false, Nat.reduceAdd, Nat.reduceLeDiff, Nat.reduceMul, Nat.reduceLT, nI_add, pk_mul, nI_lt', nI_le', nI_eq', nI_lt0, nI_ge0, nI_eq0, nI_gt0, nI_le0, nI_ne_m1, m1_ne_nI, m1_lt_nI, m1_le_nI, nI_lt_m1, nI_le_m1, nI_clamp, ax_in_nI, nI_shl, nI_shr, lg_cmp0, nx_and, nI_eq1, bI_0, bI_1, bf_or, eq_self, or_true, true_or, lt_T, le_T, lt_F, le_F, eq_F, eq_T, kdC_0, kdC_1, kdC_2, kdC_3, kdC_4, kdC_5, kdC_6, kdC_7, kdC_8, kdC_9, kdC_10, kdC_11, kdC_12, kdC_13, kdC_14, kdC_15, kdC_16, kdU_1, kdU_2, kdU_3, kdU_4, kdU_5, kdU_6, kdU_7, kdU_, kdR_1, kdR_2, kdR_3, kdR_4, kdR_5, kdR_, rC_00, rC_01, rC_02, rC_03, rC_04, rC_10, rC_16, rC_18, rC_19, rC_1a, rC_20, rC_22, rC_23, rC_24, rC_25, rC_26, rC_27, rC_28, rC_4, rC_10k, rC_u3, rC_u5, rC_u7, rC_u9, rC_ua, rC_ub, rC_uc, rC_r4, rC_r5, rC_r6, rC_r7, rC_r8, Nat.add_zero, hr, kl]
  have hr2 := rC_ad o s x hr c (by omega)
  have e1 : (ax_upR (ax_upR h 10 c (some (17 + 8 * s))) 2 2 (some (17 + 8 * o c))).1 = h.1 := rfl
  have e2 : (ax_upR (ax_upR h 10 c (some (17 + 8 * s))) 2 2 (some (17 + 8 * o c))).2.1 = h.2.1 := rfl
  generalize ax_upR (ax_upR h 10 c (some (17 + 8 * s))) 2 2 (some (17 + 8 * o c)) = h2 at hr2 e1 e2 ⊢
  have hc2 : usC (oAd o s c) (o c) x h2 us' := ⟨hr2, by rw [e1]; exact h1, hn, fun j hj => ⟨(hu j hj).1.keep (fun a k _ _ => by rw [e1]) (fun a k _ _ => by rw [e2]), (hu j hj).2⟩, hp.ad (by omega)⟩
  refine mG_linkParents_ hc2 (fun h3 f3 l3 => ?_)
  simp (disch := omega) only [sG_adoptSpare_69, sG_adoptSpare_70, ax_clr_i, ax_clr_l, ax_clr_r, ax_clr_n, ax_ct_0, ax_ct_i, ax_ct_l, ax_ct_r, va_rf_s, Option.toList_some, Option.toList_none, List.cons_append, List.nil_append, and_true, true_and, and_self, ite_true, ite_false, if_true, if_false, Nat.reduceAdd, Nat.reduceLeDiff, Nat.reduceMul, Nat.reduceLT]
  exact hQ h3 (by rw [f3.1, e2]) (fun a k w => by rw [f3.2 a k w, e1]) (hc2.h f3) l3
theorem mG_adoptSpare_ {h : ax_H} (hc : usC o s x h us) (hl : lkC h us) (hu : unK h s b) (hk : okU b) (hQ : ∀ h' o' s', frBa h h' → usC o' s' x h' (nAd us b) → lkC h' (nAd us b) → Q (some (.int (oI (aAd us b)))) h') : ax_wp kC (d + 3) mG_adoptSpare 0 [some (.ref 2), none, none] [] h Q := by
  have hr := hc.1
  have h1 := hc.2.1
  have h12 := hc.2.2.1
  have hp := hc.2.2.2.2
  have hs := hp.2.1
  have hv : vT (ownU b) := (nm_vT hk hk.rest.1).1
  have t1 := hu.1
  unfold nAd aAd at hQ
  simp (disch := omega) only [sG_adoptSpare_0, sG_adoptSpare_1, sG_adoptSpare_2, sG_adoptSpare_5, sG_adoptSpare_8, sG_adoptSpare_11, sG_adoptSpare_12, sG_adoptSpare_13, ax_clr_i, ax_clr_l, ax_clr_r, ax_clr_n, ax_ct_0, ax_ct_i, ax_ct_l, ax_ct_r, va_rf_s, Option.toList_some, Option.toList_none, List.cons_append, List.nil_append, and_true, true_and, and_self, ite_true, ite_false, if_true, if_false, Nat.reduceAdd, Nat.reduceLeDiff, Nat.reduceMul, Nat.reduceLT, kdC_0, kdC_1, kdC_2, kdC_3, kdC_4, kdC_5, kdC_6, kdC_7, kdC_8, kdC_9, kdC_10, kdC_11, kdC_12, kdC_13, kdC_14, kdC_15, kdC_16, kdU_1, kdU_2, kdU_3, kdU_4, kdU_5, kdU_6, kdU_7, kdU_, kdR_1, kdR_2, kdR_3, kdR_4, kdR_5, kdR_, rC_00, rC_01, rC_02, rC_03, rC_04, rC_10, rC_16, rC_18, rC_19, rC_1a, rC_20, rC_22, rC_23, rC_24, rC_25, rC_26, rC_27, rC_28, rC_4, rC_10k, rC_u3, rC_u5, rC_u7, rC_u9, rC_ua, rC_ub, rC_uc, rC_r4, rC_r5, rC_r6, rC_r7, rC_r8, Nat.add_zero, hr, t1, mG_numberOf_ hc _ hv]
  cases e : ixOf us (ownU b) with
  | none =>
    rw [e] at hQ
    dsimp only at hQ
    simp (disch := omega) only [sG_adoptSpare_14, sG_adoptSpare_17, sG_adoptSpare_18, sG_adoptSpare_21, sG_adoptSpare_23, ax_clr_i, ax_clr_l, ax_clr_r, ax_clr_n, ax_ct_0, ax_ct_i, ax_ct_l, ax_ct_r, va_rf_s, Option.toList_some, Option.toList_none, List.cons_append, List.nil_append, and_true, true_and, and_self, ite_true, ite_false, if_true, if_false, Nat.reduceAdd, Nat.reduceLeDiff, Nat.reduceMul, Nat.reduceLT, nI_add, pk_mul, nI_lt', nI_le', nI_eq', nI_lt0, nI_ge0, nI_eq0, nI_gt0, nI_le0, nI_ne_m1, m1_ne_nI, m1_lt_nI, m1_le_nI, nI_lt_m1, nI_le_m1, nI_clamp, ax_in_nI, nI_shl, nI_shr, lg_cmp0, nx_and, nI_eq1, bI_0, bI_1, bf_or, eq_self, or_true, true_or, kdC_0, kdC_1, kdC_2, kdC_3, kdC_4, kdC_5, kdC_6, kdC_7, kdC_8, kdC_9, kdC_10, kdC_11, kdC_12, kdC_13, kdC_14, kdC_15, kdC_16, kdU_1, kdU_2, kdU_3, kdU_4, kdU_5, kdU_6, kdU_7, kdU_, kdR_1, kdR_2, kdR_3, kdR_4, kdR_5, kdR_, rC_00, rC_01, rC_02, rC_03, rC_04, rC_10, rC_16, rC_18, rC_19, rC_1a, rC_20, rC_22, rC_23, rC_24, rC_25, rC_26, rC_27, rC_28, rC_4, rC_10k, rC_u3, rC_u5, rC_u7, rC_u9, rC_ua, rC_ub, rC_uc, rC_r4, rC_r5, rC_r6, rC_r7, rC_r8, Nat.add_zero, oI_n, h1]
    by_cases e12 : us.length = 12
    · rw [if_pos e12, if_pos e12] at hQ
      rw [if_neg (by omega)]
      simp (disch := omega) only [sG_adoptSpare_26, sG_adoptSpare_27, ax_clr_i, ax_clr_l, ax_clr_r, ax_clr_n, ax_ct_0, ax_ct_i, ax_ct_l, ax_ct_r, va_rf_s, Option.toList_some, Option.toList_none, List.cons_append, List.nil_append, and_true, true_and, and_self, ite_true, ite_false, if_true, if_false, Nat.reduceAdd, Nat.reduceLeDiff, Nat.reduceMul, Nat.reduceLT]
      exact hQ h o s ⟨rfl, fun _ _ _ _ => rfl⟩ hc hl
    · rw [if_neg e12, if_neg e12] at hQ
      rw [if_pos (by omega)]
      simp (disch := omega) only [sG_adoptSpare_28, sG_adoptSpare_29, sG_adoptSpare_32, sG_adoptSpare_33, sG_adoptSpare_34, sG_adoptSpare_34r, sG_adoptSpare_35, sG_adoptSpare_38, sG_adoptSpare_39, sG_adoptSpare_40, ax_clr_i, ax_clr_l, ax_clr_r, ax_clr_n, ax_ct_0, ax_ct_i, ax_ct_l, ax_ct_r, va_rf_s, Option.toList_some, Option.toList_none, List.cons_append, List.nil_append, and_true, true_and, and_self, ite_true, ite_false, if_true, if_false, Nat.reduceAdd, Nat.reduceLeDiff, Nat.reduceMul, Nat.reduceLT, kdC_0, kdC_1, kdC_2, kdC_3, kdC_4, kdC_5, kdC_6, kdC_7, kdC_8, kdC_9, kdC_10, kdC_11, kdC_12, kdC_13, kdC_14, kdC_15, kdC_16, kdU_1, kdU_2, kdU_3, kdU_4, kdU_5, kdU_6, kdU_7, kdU_, kdR_1, kdR_2, kdR_3, kdR_4, kdR_5, kdR_, rC_00, rC_01, rC_02, rC_03, rC_04, rC_10, rC_16, rC_18, rC_19, rC_1a, rC_20, rC_22, rC_23, rC_24, rC_25, rC_26, rC_27, rC_28, rC_4, rC_10k, rC_u3, rC_u5, rC_u7, rC_u9, rC_ua, rC_ub, rC_uc, rC_r4, rC_r5, rC_r6, rC_r7, rC_r8, Nat.add_zero, h1, nI_add]
      have g : ∀ a k, ¬ (a = 2 ∧ k = 1) → (ax_upI h 2 1 (nI (us.length + 1))).1 a k = h.1 a k := fun a k w => by rw [up_I, if_neg w]
      refine mG_adoptSpare_e (us.length + 1) us.length (by omega) (by omega) (us ++ [b]) (by simp) hp hr (up_at _ _ _ _) (fun j hj => ?_) (fun h' f1 f2 c3 l3 => hQ h' _ _ ⟨f1, fun a k w1 w2 => by rw [f2 a k w2, g a k w1]⟩ c3 l3)
      rw [uAt_app hj]
      unfold oAd
      by_cases ej : j = us.length
      · rw [if_pos ej, if_pos ej]; exact ⟨hu.keep (fun a k _ _ => g a k (by omega)) (fun a k _ _ => rfl), hk⟩
      · rw [if_neg ej, if_neg ej]
        have := hc.2.2.2.1 j (by omega)
        exact ⟨this.1.keep (fun a k _ _ => g a k (by omega)) (fun a k _ _ => rfl), this.2⟩
  | some c =>
    have lc := (ixOf_some e).1
    rw [e] at hQ
    dsimp only at hQ
    simp (disch := omega) only [sG_adoptSpare_14, ax_clr_i, ax_clr_l, ax_clr_r, ax_clr_n, ax_ct_0, ax_ct_i, ax_ct_l, ax_ct_r, va_rf_s, Option.toList_some, Option.toList_none, List.cons_append, List.nil_append, and_true, true_and, and_self, ite_true, ite_false, if_true, if_false, Nat.reduceAdd, Nat.reduceLeDiff, Nat.reduceMul, Nat.reduceLT, nI_add, pk_mul, nI_lt', nI_le', nI_eq', nI_lt0, nI_ge0, nI_eq0, nI_gt0, nI_le0, nI_ne_m1, m1_ne_nI, m1_lt_nI, m1_le_nI, nI_lt_m1, nI_le_m1, nI_clamp, ax_in_nI, nI_shl, nI_shr, lg_cmp0, nx_and, nI_eq1, bI_0, bI_1, bf_or, eq_self, or_true, true_or, oI_s]
    refine mG_adoptSpare_e us.length c h12 lc (us.set c b) (by simp) hp hr h1 (fun j hj => ?_) (fun h' f1 f2 c3 l3 => hQ h' _ _ ⟨f1, fun a k w1 w2 => f2 a k w2⟩ c3 l3)
    rw [uAt_set lc]
    unfold oAd
    by_cases ej : j = c
    · rw [if_pos ej, if_pos ej]; exact ⟨hu, hk⟩
    · rw [if_neg ej, if_neg ej]; exact hc.2.2.2.1 j hj
end CA
