/-! the model's classes -/
theorem pB_app (t : List Nat) (c : Nat) : pB (t ++ [c]) = pB t * 64 + c := by unfold pB; rw [List.foldl_append]; rfl
theorem pB_rev (t : List Nat) : pB t = pL t.reverse := by
  have key : ∀ s : List Nat, pB s.reverse = pL s := by
    intro s
    induction s with
    | nil => rfl
    | cons a s ih => rw [List.reverse_cons, pB_app, ih, pL]; omega
  have := key t.reverse
  rwa [List.reverse_reverse] at this
theorem pB_inj {t s : List Nat} (ht : vT t) (hs : vT s) : pB t = pB s ↔ t = s := by
  constructor
  · intro h
    rw [pB_rev, pB_rev] at h
    have := pL_inj _ _ (fun c hc => ht.2 c (List.mem_reverse.mp hc)) (fun c hc => hs.2 c (List.mem_reverse.mp hc)) h
    exact List.reverse_inj.mp this
  · intro h; rw [h]
theorem vT_rev {t : List Nat} (ht : vT t) : vT t.reverse := ⟨by simpa using ht.1, fun c hc => ht.2 c (List.mem_reverse.mp hc)⟩
theorem pB_p {t : List Nat} (ht : vT t) : pB t < 2 ^ 60 := by rw [pB_rev]; exact vT_p (vT_rev ht)
theorem lB_eq {t s : List Nat} (ht : vT t) (hs : vT s) : (lN (pB t) = lN (pB s)) = (t = s) := by
  rw [lN_eq' (by have := pB_p ht; omega) (by have := pB_p hs; omega)]
  exact propext (pB_inj ht hs)
theorem vT_nil : vT [] := ⟨by simp, fun c hc => absurd hc (by simp)⟩
/-- an index, or -1 -/
def oI (o : Option Nat) : Int32 := match o with
  | some c => nI c
  | none => -1
def uAt (us : List (List Nat)) (c : Nat) : List Nat := us.getD c []
/-- the class of a name -/
def ixF (us : List (List Nat)) (t : List Nat) : Nat → Nat → Option Nat
  | 0, _ => none
  | m + 1, c => if ownU (uAt us c) = t then some c else ixF us t m (c + 1)
def ixOf (us : List (List Nat)) (t : List Nat) : Option Nat := ixF us t us.length 0
/-- own names are apart -/
def dstU (us : List (List Nat)) : Prop := ∀ i j, i < us.length → j < us.length → ownU (uAt us i) = ownU (uAt us j) → i = j
theorem ixF_some (us : List (List Nat)) (t : List Nat) : ∀ (m c r : Nat), ixF us t m c = some r → c ≤ r ∧ r < c + m ∧ ownU (uAt us r) = t
  | 0, c, r, h => by cases h
  | m + 1, c, r, h => by
    rw [ixF] at h
    by_cases e : ownU (uAt us c) = t
    · rw [if_pos e] at h; cases h; exact ⟨Nat.le_refl _, by omega, e⟩
    · rw [if_neg e] at h
      have := ixF_some us t m (c + 1) r h
      exact ⟨by omega, by omega, this.2.2⟩
theorem ixF_none (us : List (List Nat)) (t : List Nat) : ∀ (m c r : Nat), ixF us t m c = none → c ≤ r → r < c + m → ownU (uAt us r) ≠ t
  | 0, c, r, _, h1, h2 => absurd h2 (by omega)
  | m + 1, c, r, h, h1, h2 => by
    rw [ixF] at h
    by_cases e : ownU (uAt us c) = t
    · rw [if_pos e] at h; cases h
    · rw [if_neg e] at h
      by_cases e2 : r = c
      · subst e2; exact e
      · exact ixF_none us t m (c + 1) r h (by omega) (by omega)
theorem ixOf_some {us : List (List Nat)} {t : List Nat} {r : Nat} (h : ixOf us t = some r) : r < us.length ∧ ownU (uAt us r) = t := by
  have := ixF_some us t _ _ _ h; exact ⟨by omega, this.2.2⟩
theorem ixOf_is {us : List (List Nat)} (hd : dstU us) {t : List Nat} {r : Nat} (hr : r < us.length) (ht : ownU (uAt us r) = t) : ixOf us t = some r := by
  cases h : ixOf us t with
  | none => exact absurd ht (ixF_none us t _ _ r h (by omega) (by omega))
  | some q => have := ixOf_some h; rw [hd q r this.1 hr (this.2.trans ht.symm)]
def clsM (h : ax_H) (us : List (List Nat)) : Prop := h.2.2 = rM ∧ h.1 0 2 = nI us.length ∧ us.length ≤ 12 ∧ dstU us ∧ ∀ c, c < us.length → untM h c (uAt us c) ∧ okU (uAt us c)
theorem clsM.vT {h : ax_H} {us : List (List Nat)} (hc : clsM h us) {c : Nat} (h1 : c < us.length) : vT (ownU (uAt us c)) := (nm_vT (hc.2.2.2.2 c h1).2 (hc.2.2.2.2 c h1).2.rest.1).1
section ML
variable {d : Nat} {h : ax_H} {us : List (List Nat)} {Q : Option Value → ax_H → Prop}
theorem mQ_indexOf_l (hc : clsM h us) (t : List Nat) (ht : vT t) : ∀ (m c : Nat) (o : Option Nat), c + m = us.length → (∀ r, o = some r → r < c ∧ ownU (uAt us r) = t) → (o = none → ∀ r, r < c → ownU (uAt us r) ≠ t) → ax_wp kM (d + 4) mQ_indexOf 5 [some (.ref 0), some (.long (lN (pB t))), none, some (.int (oI o)), some (.int (nI c))] [] h Q = Q (some (.int (oI (ixOf us t)))) h
  | 0, c, o, hm, h1, h2 => by
    have hn := hc.2.1
    have h12 := hc.2.2.1
    rw [sQ_indexOf_5]
    simp (disch := omega) only [sQ_indexOf_7, sQ_indexOf_8, sQ_indexOf_11, sQ_indexOf_14, sQ_indexOf_15, sQ_indexOf_17, sQ_indexOf_20, sQ_indexOf_21, sQ_indexOf_22, sQ_indexOf_25, sQ_indexOf_27, sQ_indexOf_30, sQ_indexOf_31, sQ_indexOf_32, sQ_indexOf_35, sQ_indexOf_38, sQ_indexOf_39, ax_clr_i, ax_clr_l, ax_clr_r, ax_clr_n, ax_ct_0, ax_ct_i, ax_ct_l, ax_ct_r, va_rf_s, Option.toList_some, Option.toList_none, List.cons_append, List.nil_append, and_true, true_and, and_self, ite_true, ite_false, if_true, if_false, Nat.reduceAdd, Nat.reduceLeDiff, Nat.reduceMul, Nat.reduceLT, nI_add, pk_mul, nI_lt', nI_le', nI_eq', nI_lt0, nI_ge0, nI_eq0, nI_gt0, nI_le0, nI_ne_m1, m1_ne_nI, m1_lt_nI, m1_le_nI, nI_lt_m1, nI_le_m1, nI_clamp, ax_in_nI, nI_shl, nI_shr, lg_cmp0, nx_and, nI_eq1, bI_0, bI_1, bf_or, eq_self, or_true, true_or, lt_T, le_T, lt_F, le_F, eq_F, eq_T, kdM_0, kdM_1, kdM_2, kdM_3, kdM_4, kdM_5, kdM_6, kdM_7, kdM_8, kdM_9, kdM_10, kdM_11, kdM_12, kdM_13, kdM_14, kdM_15, kdM_16, kdM_17, kdM_18, kdM_19, kdM_20, kdM_21, kdM_22, kdM_23, kdM_24, rM_0, rM_1, rM_5, rM_6, rM_7, rM_10, rM_11, rM_12, rM_13, rM_14, rM_15, rM_16, rM_18, rM_19, rM_20, rM_21, rM_23, rM_24, rM_25, rM_26, rM_28, rM_29, rM_30, rM_31, hn]
    cases o with
    | some r => rw [ixOf_is hc.2.2.2.1 (by have := h1 r rfl; omega) (h1 r rfl).2]
    | none =>
      cases h3 : ixOf us t with
      | none => rfl
      | some r => have := ixOf_some h3; exact absurd this.2 (h2 rfl r (by omega))
  | m + 1, c, o, hm, h1, h2 => by
    have hr := hc.1
    have hn := hc.2.1
    have h12 := hc.2.2.1
    obtain ⟨hu, hk⟩ := hc.2.2.2.2 c (by omega)
    have hv := hc.vT (c := c) (by omega)
    have ih := fun o a b => mQ_indexOf_l hc t ht m (c + 1) o (by omega) a b
    rw [sQ_indexOf_5]
    simp (disch := omega) only [sQ_indexOf_7, sQ_indexOf_8, sQ_indexOf_11, sQ_indexOf_14, sQ_indexOf_15, sQ_indexOf_17, sQ_indexOf_20, sQ_indexOf_21, sQ_indexOf_22, sQ_indexOf_25, sQ_indexOf_27, sQ_indexOf_30, sQ_indexOf_31, sQ_indexOf_32, sQ_indexOf_35, ax_clr_i, ax_clr_l, ax_clr_r, ax_clr_n, ax_ct_0, ax_ct_i, ax_ct_l, ax_ct_r, va_rf_s, Option.toList_some, Option.toList_none, List.cons_append, List.nil_append, and_true, true_and, and_self, ite_true, ite_false, if_true, if_false, Nat.reduceAdd, Nat.reduceLeDiff, Nat.reduceMul, Nat.reduceLT, nI_add, pk_mul, nI_lt', nI_le', nI_eq', nI_lt0, nI_ge0, nI_eq0, nI_gt0, nI_le0, nI_ne_m1, m1_ne_nI, m1_lt_nI, m1_le_nI, nI_lt_m1, nI_le_m1, nI_clamp, ax_in_nI, nI_shl, nI_shr, lg_cmp0, nx_and, nI_eq1, bI_0, bI_1, bf_or, eq_self, or_true, true_or, lt_T, le_T, lt_F, le_F, eq_F, eq_T, kdM_0, kdM_1, kdM_2, kdM_3, kdM_4, kdM_5, kdM_6, kdM_7, kdM_8, kdM_9, kdM_10, kdM_11, kdM_12, kdM_13, kdM_14, kdM_15, kdM_16, kdM_17, kdM_18, kdM_19, kdM_20, kdM_21, kdM_22, kdM_23, kdM_24, rM_0, rM_1, rM_5, rM_6, rM_7, rM_10, rM_11, rM_12, rM_13, rM_14, rM_15, rM_16, rM_18, rM_19, rM_20, rM_21, rM_23, rM_24, rM_25, rM_26, rM_28, rM_29, rM_30, rM_31, hn, mQ_ownName_ hu (by omega) hk, lB_eq hv ht]
    by_cases e : ownU (uAt us c) = t
    · rw [if_pos e]
      exact ih (some c) (fun r hr => by cases hr; exact ⟨by omega, e⟩) (fun hh => by cases hh)
    · rw [if_neg e]
      exact ih o (fun r hr => by have := h1 r hr; exact ⟨by omega, this.2⟩) (fun hh r hr => by
        by_cases e2 : r = c
        · subst e2; exact e
        · exact h2 hh r (by omega))
theorem mQ_indexOf_ (hc : clsM h us) (t : List Nat) (ht : vT t) : ax_wp kM (d + 4) mQ_indexOf 0 [some (.ref 0), some (.long (lN (pB t))), none, none, none] [] h Q = Q (some (.int (oI (ixOf us t)))) h := by
  simp only [sQ_indexOf_0, sQ_indexOf_1, sQ_indexOf_2, sQ_indexOf_3, ax_clr_i, ax_clr_l, ax_clr_r, ax_clr_n, ax_ct_0, ax_ct_i, ax_ct_l, ax_ct_r, va_rf_s, Option.toList_some, Option.toList_none, List.cons_append, List.nil_append, and_true, true_and, and_self, ite_true, ite_false, if_true, if_false, Nat.reduceAdd, Nat.reduceLeDiff, Nat.reduceMul, Nat.reduceLT]
  exact mQ_indexOf_l hc t ht us.length 0 none (by omega) (fun r hr => by cases hr) (fun _ r hr => absurd hr (by omega))
/-- the class that SUPER (k = 0) or an interface (k from 1 on) of class c is -/
def parU (us : List (List Nat)) (c k : Nat) : Option Nat :=
  if bg (uAt us c) (piU (uAt us c)) < k then none
  else if k = 0 then (if bg (uAt us c) (hdU (uAt us c) + 1) = 0 then none else ixOf us (nmU (uAt us c) (bg (uAt us c) (hdU (uAt us c) + 1))))
  else ixOf us (nmU (uAt us c) (bg (uAt us c) (piU (uAt us c) + k)))
theorem mQ_parent_ (hc : clsM h us) (c k : Nat) (hcl : c < us.length) (hk : k ≤ 3) : ax_wp kM (d + 5) mQ_parent 0 [some (.ref 0), some (.int (nI c)), some (.int (nI k)), none, none] [] h Q = Q (some (.int (oI (parU us c k)))) h := by
  have hr := hc.1
  have h12 := hc.2.2.1
  obtain ⟨hu, hok⟩ := hc.2.2.2.2 c hcl
  unfold parU
  generalize uAt us c = u at hu hok
  have hz := hu.2.1
  have kk := hok.rest
  have b1 := hu.2.2.1 (hdU u + 1) (by omega)
  have b2 := hu.2.2.1 (piU u) (by omega)
  have l1 := hu.lt (hdU u + 1)
  have epi : piU u = hdU u + 2 := rfl
  have hh := fun (Q : Option Value → ax_H → Prop) d => mQ_headOf_ (d := d) (Q := Q) hu (by omega) hok.1
  simp only [show cAt u (bg u 1 + 1) = hdU u from rfl] at hh
  rw [← Nat.add_assoc] at b1
  rw [epi, ← Nat.add_assoc] at b2
  rw [← epi] at b2
  simp (disch := omega) only [sQ_parent_0, sQ_parent_1, sQ_parent_2, sQ_parent_5, sQ_parent_6, sQ_parent_7, sQ_parent_8, sQ_parent_11, sQ_parent_12, sQ_parent_13, sQ_parent_14, sQ_parent_15, sQ_parent_18, sQ_parent_19, ax_clr_i, ax_clr_l, ax_clr_r, ax_clr_n, ax_ct_0, ax_ct_i, ax_ct_l, ax_ct_r, va_rf_s, Option.toList_some, Option.toList_none, List.cons_append, List.nil_append, and_true, true_and, and_self, ite_true, ite_false, if_true, if_false, Nat.reduceAdd, Nat.reduceLeDiff, Nat.reduceMul, Nat.reduceLT, nI_add, pk_mul, nI_lt', nI_le', nI_eq', nI_lt0, nI_ge0, nI_eq0, nI_gt0, nI_le0, nI_ne_m1, m1_ne_nI, m1_lt_nI, m1_le_nI, nI_lt_m1, nI_le_m1, nI_clamp, ax_in_nI, nI_shl, nI_shr, lg_cmp0, nx_and, nI_eq1, bI_0, bI_1, bf_or, eq_self, or_true, true_or, kdM_0, kdM_1, kdM_2, kdM_3, kdM_4, kdM_5, kdM_6, kdM_7, kdM_8, kdM_9, kdM_10, kdM_11, kdM_12, kdM_13, kdM_14, kdM_15, kdM_16, kdM_17, kdM_18, kdM_19, kdM_20, kdM_21, kdM_22, kdM_23, kdM_24, rM_0, rM_1, rM_5, rM_6, rM_7, rM_10, rM_11, rM_12, rM_13, rM_14, rM_15, rM_16, rM_18, rM_19, rM_20, rM_21, rM_23, rM_24, rM_25, rM_26, rM_28, rM_29, rM_30, rM_31, hr, b2, hh]
  by_cases e1 : bg u (piU u) < k
  · rw [if_neg (by omega), if_pos e1]
    simp [show 120 * c + hdU u + 2 < 1560 by omega]
    rfl
  · rw [if_pos (by omega), if_neg e1]
    by_cases e0 : k = 0
    · subst e0
      simp (disch := omega) only [sQ_parent_20, sQ_parent_21, sQ_parent_24, sQ_parent_25, sQ_parent_28, sQ_parent_29, sQ_parent_30, sQ_parent_31, sQ_parent_32, sQ_parent_35, sQ_parent_36, sQ_parent_39, sQ_parent_40, sQ_parent_41, sQ_parent_42, sQ_parent_43, sQ_parent_44, sQ_parent_45, sQ_parent_47, sQ_parent_49, sQ_parent_52, sQ_parent_53, sQ_parent_56, sQ_parent_57, sQ_parent_58, sQ_parent_59, sQ_parent_61, sQ_parent_64, sQ_parent_67, ax_clr_i, ax_clr_l, ax_clr_r, ax_clr_n, ax_ct_0, ax_ct_i, ax_ct_l, ax_ct_r, va_rf_s, Option.toList_some, Option.toList_none, List.cons_append, List.nil_append, and_true, true_and, and_self, ite_true, ite_false, if_true, if_false, Nat.reduceAdd, Nat.reduceLeDiff, Nat.reduceMul, Nat.reduceLT, nI_add, pk_mul, nI_lt', nI_le', nI_eq', nI_lt0, nI_ge0, nI_eq0, nI_gt0, nI_le0, nI_ne_m1, m1_ne_nI, m1_lt_nI, m1_le_nI, nI_lt_m1, nI_le_m1, nI_clamp, ax_in_nI, nI_shl, nI_shr, lg_cmp0, nx_and, nI_eq1, bI_0, bI_1, bf_or, eq_self, or_true, true_or, lt_T, le_T, lt_F, le_F, eq_F, eq_T, kdM_0, kdM_1, kdM_2, kdM_3, kdM_4, kdM_5, kdM_6, kdM_7, kdM_8, kdM_9, kdM_10, kdM_11, kdM_12, kdM_13, kdM_14, kdM_15, kdM_16, kdM_17, kdM_18, kdM_19, kdM_20, kdM_21, kdM_22, kdM_23, kdM_24, rM_0, rM_1, rM_5, rM_6, rM_7, rM_10, rM_11, rM_12, rM_13, rM_14, rM_15, rM_16, rM_18, rM_19, rM_20, rM_21, rM_23, rM_24, rM_25, rM_26, rM_28, rM_29, rM_30, rM_31, hr, b1]
      by_cases e2 : bg u (hdU u + 1) = 0
      · rw [if_pos e2]; simp [e2]; rfl
      · have t7 := kk.2.1.resolve_left e2
        simp (disch := omega) only [sQ_parent_20, sQ_parent_21, sQ_parent_24, sQ_parent_25, sQ_parent_28, sQ_parent_29, sQ_parent_30, sQ_parent_31, sQ_parent_32, sQ_parent_35, sQ_parent_36, sQ_parent_39, sQ_parent_40, sQ_parent_41, sQ_parent_42, sQ_parent_43, sQ_parent_44, sQ_parent_45, sQ_parent_47, sQ_parent_49, sQ_parent_52, sQ_parent_53, sQ_parent_56, sQ_parent_57, sQ_parent_58, sQ_parent_59, sQ_parent_61, sQ_parent_64, sQ_parent_67, ax_clr_i, ax_clr_l, ax_clr_r, ax_clr_n, ax_ct_0, ax_ct_i, ax_ct_l, ax_ct_r, va_rf_s, Option.toList_some, Option.toList_none, List.cons_append, List.nil_append, and_true, true_and, and_self, ite_true, ite_false, if_true, if_false, Nat.reduceAdd, Nat.reduceLeDiff, Nat.reduceMul, Nat.reduceLT, nI_add, pk_mul, nI_lt', nI_le', nI_eq', nI_lt0, nI_ge0, nI_eq0, nI_gt0, nI_le0, nI_ne_m1, m1_ne_nI, m1_lt_nI, m1_le_nI, nI_lt_m1, nI_le_m1, nI_clamp, ax_in_nI, nI_shl, nI_shr, lg_cmp0, nx_and, nI_eq1, bI_0, bI_1, bf_or, eq_self, or_true, true_or, lt_T, le_T, lt_F, le_F, eq_F, eq_T, kdM_0, kdM_1, kdM_2, kdM_3, kdM_4, kdM_5, kdM_6, kdM_7, kdM_8, kdM_9, kdM_10, kdM_11, kdM_12, kdM_13, kdM_14, kdM_15, kdM_16, kdM_17, kdM_18, kdM_19, kdM_20, kdM_21, kdM_22, kdM_23, kdM_24, rM_0, rM_1, rM_5, rM_6, rM_7, rM_10, rM_11, rM_12, rM_13, rM_14, rM_15, rM_16, rM_18, rM_19, rM_20, rM_21, rM_23, rM_24, rM_25, rM_26, rM_28, rM_29, rM_30, rM_31, mQ_nameOf_c hu (by omega) hok _ t7, mQ_indexOf_ hc _ (nm_vT hok t7).1]
    · have t7 := kk.2.2.2.1 (k - 1) (by omega)
      have e9 : piU u + 1 + (k - 1) = piU u + k := by omega
      rw [e9] at t7
      have t0 := tgU_at hok.1 (k := bg u (piU u + k)) (by omega)
      have lk := hu.lt (piU u + k)
      have b3 := hu.2.2.1 (piU u + k) (by
        have : pfU u = piU u + 1 + bg u (piU u) := rfl
        omega)
      rw [epi, ← Nat.add_assoc, ← Nat.add_assoc] at b3
      rw [← epi] at b3
      simp (disch := omega) only [sQ_parent_20, sQ_parent_21, sQ_parent_24, sQ_parent_25, sQ_parent_28, sQ_parent_29, sQ_parent_30, sQ_parent_31, sQ_parent_32, sQ_parent_35, sQ_parent_36, sQ_parent_39, sQ_parent_40, sQ_parent_41, sQ_parent_42, sQ_parent_43, sQ_parent_44, sQ_parent_45, sQ_parent_47, sQ_parent_49, sQ_parent_52, sQ_parent_53, sQ_parent_56, sQ_parent_57, sQ_parent_58, sQ_parent_59, sQ_parent_61, sQ_parent_64, sQ_parent_67, ax_clr_i, ax_clr_l, ax_clr_r, ax_clr_n, ax_ct_0, ax_ct_i, ax_ct_l, ax_ct_r, va_rf_s, Option.toList_some, Option.toList_none, List.cons_append, List.nil_append, and_true, true_and, and_self, ite_true, ite_false, if_true, if_false, Nat.reduceAdd, Nat.reduceLeDiff, Nat.reduceMul, Nat.reduceLT, nI_add, pk_mul, nI_lt', nI_le', nI_eq', nI_lt0, nI_ge0, nI_eq0, nI_gt0, nI_le0, nI_ne_m1, m1_ne_nI, m1_lt_nI, m1_le_nI, nI_lt_m1, nI_le_m1, nI_clamp, ax_in_nI, nI_shl, nI_shr, lg_cmp0, nx_and, nI_eq1, bI_0, bI_1, bf_or, eq_self, or_true, true_or, lt_T, le_T, lt_F, le_F, eq_F, eq_T, kdM_0, kdM_1, kdM_2, kdM_3, kdM_4, kdM_5, kdM_6, kdM_7, kdM_8, kdM_9, kdM_10, kdM_11, kdM_12, kdM_13, kdM_14, kdM_15, kdM_16, kdM_17, kdM_18, kdM_19, kdM_20, kdM_21, kdM_22, kdM_23, kdM_24, rM_0, rM_1, rM_5, rM_6, rM_7, rM_10, rM_11, rM_12, rM_13, rM_14, rM_15, rM_16, rM_18, rM_19, rM_20, rM_21, rM_23, rM_24, rM_25, rM_26, rM_28, rM_29, rM_30, rM_31, hr, b3, mQ_nameOf_c hu (by omega) hok _ t7, mQ_indexOf_ hc _ (nm_vT hok t7).1]
theorem parU_lt {us : List (List Nat)} {c k r : Nat} (hp : parU us c k = some r) : r < us.length := by
  unfold parU at hp
  by_cases e1 : bg (uAt us c) (piU (uAt us c)) < k
  · rw [if_pos e1] at hp; cases hp
  · rw [if_neg e1] at hp
    by_cases e0 : k = 0
    · rw [if_pos e0] at hp
      by_cases e2 : bg (uAt us c) (hdU (uAt us c) + 1) = 0
      · rw [if_pos e2] at hp; cases hp
      · rw [if_neg e2] at hp; exact (ixOf_some hp).1
    · rw [if_neg e0] at hp; exact (ixOf_some hp).1
theorem mQ_isClass_ (hc : clsM h us) (x : Int32) : ax_wp kM d mQ_isClass 0 [some (.ref 0), some (.int x)] [] h Q = Q (some (.int (bI (decide (0 ≤ x ∧ x < nI us.length))))) h := by
  have hn := hc.2.1
  simp (disch := omega) only [sQ_isClass_0, sQ_isClass_1, sQ_isClass_4, sQ_isClass_5, sQ_isClass_6, sQ_isClass_9, sQ_isClass_12, sQ_isClass_13, sQ_isClass_16, sQ_isClass_17, ax_clr_i, ax_clr_l, ax_clr_r, ax_clr_n, ax_ct_0, ax_ct_i, ax_ct_l, ax_ct_r, va_rf_s, Option.toList_some, Option.toList_none, List.cons_append, List.nil_append, and_true, true_and, and_self, ite_true, ite_false, if_true, if_false, Nat.reduceAdd, Nat.reduceLeDiff, Nat.reduceMul, Nat.reduceLT, nI_add, pk_mul, nI_lt', nI_le', nI_eq', nI_lt0, nI_ge0, nI_eq0, nI_gt0, nI_le0, nI_ne_m1, m1_ne_nI, m1_lt_nI, m1_le_nI, nI_lt_m1, nI_le_m1, nI_clamp, ax_in_nI, nI_shl, nI_shr, lg_cmp0, nx_and, nI_eq1, bI_0, bI_1, bf_or, eq_self, or_true, true_or, kdM_0, kdM_1, kdM_2, kdM_3, kdM_4, kdM_5, kdM_6, kdM_7, kdM_8, kdM_9, kdM_10, kdM_11, kdM_12, kdM_13, kdM_14, kdM_15, kdM_16, kdM_17, kdM_18, kdM_19, kdM_20, kdM_21, kdM_22, kdM_23, kdM_24, rM_0, rM_1, rM_5, rM_6, rM_7, rM_10, rM_11, rM_12, rM_13, rM_14, rM_15, rM_16, rM_18, rM_19, rM_20, rM_21, rM_23, rM_24, rM_25, rM_26, rM_28, rM_29, rM_30, rM_31, hn]
  by_cases e1 : x < 0
  · have e2 : ¬ (0 ≤ x ∧ x < nI us.length) := fun hh => absurd hh.1 (Int32.not_le.mpr e1)
    simp [e1, e2, bI]
  · by_cases e3 : nI us.length ≤ x
    · have e2 : ¬ (0 ≤ x ∧ x < nI us.length) := fun hh => absurd e3 (Int32.not_le.mpr hh.2)
      simp [e1, e2, e3, bI]
    · have e2 : 0 ≤ x ∧ x < nI us.length := ⟨Int32.not_lt.mp e1, Int32.not_le.mp e3⟩
      simp [e1, e2, e3, bI]
/-- a class's number is an index, or nothing -/
theorem isC_of {us : List (List Nat)} (h12 : us.length ≤ 12) {x : Int32} (h : 0 ≤ x ∧ x < nI us.length) : ∃ c, c < us.length ∧ x = nI c := by
  obtain ⟨j, hj, rfl⟩ := nI_of (x := x) (Int32.not_lt.mpr h.1)
  exact ⟨j, (nI_ltI hj (by omega)).mp h.2, rfl⟩
theorem isC_is {us : List (List Nat)} (h12 : us.length ≤ 12) {c : Nat} (h : c < us.length) : 0 ≤ nI c ∧ nI c < nI us.length := ⟨nI_pos' (by omega), (nI_ltI (by omega) (by omega)).mpr h⟩
end ML
