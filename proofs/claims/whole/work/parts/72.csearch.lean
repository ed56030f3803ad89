/-! the class: the target of an access -/
def fr9 (h h' : ax_H) : Prop := h'.2 = h.2 ∧ ∀ a k, ¬ (a = 2 ∧ k = 9) → h'.1 a k = h.1 a k
theorem fr9.rf {h : ax_H} : fr9 h h := ⟨rfl, fun _ _ _ => rfl⟩
theorem fr9.tr {h h' h2 : ax_H} (a : fr9 h h') (b : fr9 h' h2) : fr9 h h2 := ⟨b.1.trans a.1, fun r k h1 => (b.2 r k h1).trans (a.2 r k h1)⟩
theorem fr9.up {h : ax_H} {y : Int32} : fr9 h (ax_upI h 2 9 y) := ⟨rfl, fun r j h1 => by rw [up_I, if_neg h1]⟩
theorem usC.f9 {o : Nat → Nat} {s : Nat} {x : Option Nat} {h h' : ax_H} {us : List (List Nat)} (hc : usC o s x h us) (f : fr9 h h') : usC o s x h' us := hc.keep (by rw [f.1]) (f.2 _ _ (by omega)) (fun a k _ _ => f.2 _ _ (by omega)) (fun a k _ _ => by rw [f.1])
theorem lkC.f9 {h h' : ax_H} {us : List (List Nat)} (hl : lkC h us) (f : fr9 h h') : lkC h' us := hl.keep (fun a k w => f.2 _ _ (by omega))
theorem dL_lt (F : Option Nat → Nat → Option Nat × Nat) (hF : ∀ q v, (∀ y, q = some y → y < 12) → v < 2 ^ 12 → (F q v).2 < 2 ^ 12) : ∀ (l : List (Option Nat)) (v : Nat), (∀ y, some y ∈ l → y < 12) → v < 2 ^ 12 → (dL F l v).2 < 2 ^ 12
  | [], v, _, hv => hv
  | q :: l, v, hl, hv => by
    have h1 := hF q v (fun y hy => hl y (by rw [hy]; exact List.mem_cons_self ..)) hv
    rw [dL]
    rcases hd : F q v with ⟨o1, v1⟩
    rw [hd] at h1
    cases o1 with
    | some r => exact h1
    | none => exact dL_lt F hF l v1 (fun y hy => hl y (List.mem_cons_of_mem _ hy)) h1
theorem dF_lt {us : List (List Nat)} (h12 : us.length ≤ 12) (fl : Bool) (t : List Nat) : ∀ (k : Nat) (q : Option Nat) (v : Nat), (∀ y, q = some y → y < 12) → v < 2 ^ 12 → (dF us fl t k q v).2 < 2 ^ 12
  | 0, _, _, _, hv => hv
  | k + 1, none, v, _, hv => hv
  | k + 1, some c, v, hq, hv => by
    have hc := hq c rfl
    have h2 : v ||| 2 ^ c < 2 ^ 12 := Nat.or_lt_two_pow hv (Nat.pow_lt_pow_right (by omega) (by omega))
    rw [dF]
    by_cases b1 : v.testBit c = true
    · rw [if_pos b1]; exact hv
    · rw [if_neg b1]
      by_cases b2 : hsU us fl t c = true
      · rw [if_pos b2]; exact h2
      · rw [if_neg b2]; exact dL_lt _ (fun q v => dF_lt h12 fl t k q v) _ _ (fun y hy => by have := kO_lt hy; omega) h2
/-- the interfaces from the j-th on -/
def lI (us : List (List Nat)) (c : Nat) : Nat → Nat → List (Option Nat)
  | 0, _ => []
  | m + 1, j => parU us c (j + 1) :: lI us c m (j + 1)
theorem lI_lt {us : List (List Nat)} {c : Nat} : ∀ {m j y : Nat}, some y ∈ lI us c m j → y < us.length
  | 0, j, y, h => by simp [lI] at h
  | m + 1, j, y, h => by
    rw [lI] at h
    rcases List.mem_cons.mp h with e | e
    · exact parU_lt e.symm
    · exact lI_lt e
theorem dL_lI (us : List (List Nat)) (fl : Bool) (t : List Nat) (k c v : Nat) (h3 : niU us c ≤ 3) : dL (dF us fl t k) (lI us c (niU us c) 0) v = dL (dF us fl t k) (l3 us c) v := by
  have nn : ∀ l v, dL (dF us fl t k) (none :: l) v = dL (dF us fl t k) l v := fun l v => by rw [dL, dF_none]
  have h : niU us c = 0 ∨ niU us c = 1 ∨ niU us c = 2 ∨ niU us c = 3 := by omega
  unfold l3
  rcases h with e | e | e | e
  · rw [par_none (us := us) (c := c) (k := 1) (by omega), par_none (us := us) (c := c) (k := 2) (by omega), par_none (us := us) (c := c) (k := 3) (by omega), e, nn, nn, nn]; rfl
  · rw [par_none (us := us) (c := c) (k := 2) (by omega), par_none (us := us) (c := c) (k := 3) (by omega), e]
    show dL _ [parU us c 1] v = dL _ ([parU us c 1] ++ [none, none]) v
    rw [dL_app]
    rcases dL (dF us fl t k) [parU us c 1] v with ⟨o1, v1⟩
    cases o1 with
    | some r => rfl
    | none => dsimp only; rw [nn, nn]; rfl
  · rw [par_none (us := us) (c := c) (k := 3) (by omega), e]
    show dL _ [parU us c 1, parU us c 2] v = dL _ ([parU us c 1, parU us c 2] ++ [none]) v
    rw [dL_app]
    rcases dL (dF us fl t k) [parU us c 1, parU us c 2] v with ⟨o1, v1⟩
    cases o1 with
    | some r => rfl
    | none => dsimp only; rw [nn]; rfl
  · rw [e]; rfl
theorem hasF_any (u t : List Nat) : (fdU u (bg u (pfU u))).any (fun f => decide (f = t)) = hasF u t := by unfold fdU hasF; rw [List.any_map]; rfl
theorem hasM_any (u t : List Nat) : (mtU u (bg u (pmU u))).any (fun f => decide (f = t)) = hasM u t := by unfold mtU hasM; rw [List.any_map]; rfl
theorem fdU_v {u : List Nat} (hk : okU u) : (fdU u (bg u (pfU u))).length ≤ 4 ∧ ∀ f ∈ fdU u (bg u (pfU u)), vT f := by
  obtain ⟨k1, k2, k3, k4, k5, k6, k7, k8, k9⟩ := hk.rest
  refine ⟨by simpa [fdU] using k5, fun f hf => ?_⟩
  unfold fdU at hf
  obtain ⟨i, hi, rfl⟩ := List.mem_map.mp hf
  exact (txt_vT hk.1 (fU_20 hk.1 (k6 i (List.mem_range.mp hi))).1).1
theorem mtU_v {u : List Nat} (hk : okU u) : (mtU u (bg u (pmU u))).length ≤ 4 ∧ ∀ f ∈ mtU u (bg u (pmU u)), vT f := by
  obtain ⟨k1, k2, k3, k4, k5, k6, k7, k8, k9⟩ := hk.rest
  refine ⟨by simpa [mtU] using k7, fun f hf => ?_⟩
  unfold mtU at hf
  obtain ⟨i, hi, rfl⟩ := List.mem_map.mp hf
  have k := sMt_len (k8 i (List.mem_range.mp hi))
  exact (txt_vT hk.1 (fU_20 hk.1 k.2.2.1).1).1
theorem dL_some_lt {n : Nat} (F : Option Nat → Nat → Option Nat × Nat) (hF : ∀ q v r, (∀ y, q = some y → y < n) → (F q v).1 = some r → r < n) : ∀ (l : List (Option Nat)) (v r : Nat), (∀ y, some y ∈ l → y < n) → (dL F l v).1 = some r → r < n
  | [], v, r, _, h => by rw [dL] at h; cases h
  | q :: l, v, r, hl, h => by
    rw [dL] at h
    rcases hd : F q v with ⟨o1, v1⟩
    rw [hd] at h
    cases o1 with
    | some r1 =>
      have e : r1 = r := by simpa using h
      subst e
      exact hF q v r1 (fun y hy => hl y (by rw [hy]; exact List.mem_cons_self ..)) (by rw [hd])
    | none => exact dL_some_lt F hF l v1 r (fun y hy => hl y (List.mem_cons_of_mem _ hy)) h
theorem dF_some_lt {us : List (List Nat)} (h12 : us.length ≤ 12) {fl : Bool} {t : List Nat} : ∀ (k : Nat) (q : Option Nat) (v r : Nat), (∀ y, q = some y → y < us.length) → (dF us fl t k q v).1 = some r → r < us.length
  | 0, _, _, _, _, h => by rw [dF] at h; cases h
  | k + 1, none, _, _, _, h => by rw [dF] at h; cases h
  | k + 1, some c, v, r, hq, h => by
    rw [dF] at h
    by_cases b1 : v.testBit c = true
    · rw [if_pos b1] at h; cases h
    · rw [if_neg b1] at h
      by_cases b2 : hsU us fl t c = true
      · rw [if_pos b2] at h
        have e : c = r := by simpa using h
        subst e
        exact hq c rfl
      · rw [if_neg b2] at h
        exact dL_some_lt _ (fun q v r hq h => dF_some_lt h12 k q v r hq h) _ _ r (fun y hy => kO_lt hy) h
section CT
variable {d : Nat} {Q : Option Value → ax_H → Prop} {o : Nat → Nat} {s : Nat} {x : Option Nat} {us : List (List Nat)}
theorem mG_interfaceOf_ {h : ax_H} (hc : usC o s x h us) (hl : lkC h us) (c j : Nat) (hcl : c < us.length) (hj : j < niU us c) : ax_wp kC d mG_interfaceOf 0 [some (.ref 2), some (.int (nI c)), some (.int (nI j))] [] h Q = Q (some (.int (oI (parU us c (j + 1))))) h := by
  have hr := hc.1
  have h12 := hc.2.2.1
  have h3 := (hc.ifc hcl).2.1
  have r1 := (hl c hcl).2.1 j hj
  simp (disch := omega) only [sG_interfaceOf_0, sG_interfaceOf_1, sG_interfaceOf_4, sG_interfaceOf_5, sG_interfaceOf_6, sG_interfaceOf_7, sG_interfaceOf_8, sG_interfaceOf_9, sG_interfaceOf_10, ax_clr_i, ax_clr_l, ax_clr_r, ax_clr_n, ax_ct_0, ax_ct_i, ax_ct_l, ax_ct_r, va_rf_s, Option.toList_some, Option.toList_none, List.cons_append, List.nil_append, and_true, true_and, and_self, ite_true, ite_false, if_true, if_false, Nat.reduceAdd, Nat.reduceLeDiff, Nat.reduceMul, Nat.reduceLT, nI_add, pk_mul, nI_lt', nI_le', nI_eq', nI_lt0, nI_ge0, nI_eq0, nI_gt0, nI_le0, nI_ne_m1, m1_ne_nI, m1_lt_nI, m1_le_nI, nI_lt_m1, nI_le_m1, nI_clamp, ax_in_nI, nI_shl, nI_shr, lg_cmp0, nx_and, nI_eq1, bI_0, bI_1, bf_or, eq_self, or_true, true_or, lt_T, le_T, lt_F, le_F, eq_F, eq_T, kdC_0, kdC_1, kdC_2, kdC_3, kdC_4, kdC_5, kdC_6, kdC_7, kdC_8, kdC_9, kdC_10, kdC_11, kdC_12, kdC_13, kdC_14, kdC_15, kdC_16, kdU_1, kdU_2, kdU_3, kdU_4, kdU_5, kdU_6, kdU_7, kdU_, kdR_1, kdR_2, kdR_3, kdR_4, kdR_5, kdR_, rC_00, rC_01, rC_02, rC_03, rC_04, rC_10, rC_16, rC_18, rC_19, rC_1a, rC_20, rC_22, rC_23, rC_24, rC_25, rC_26, rC_27, rC_28, rC_4, rC_10k, rC_u3, rC_u5, rC_u7, rC_u9, rC_ua, rC_ub, rC_uc, rC_r4, rC_r5, rC_r6, rC_r7, rC_r8, Nat.add_zero, hr, r1]
/-- one search within another -/
def spF (o : Nat → Nat) (s : Nat) (x : Option Nat) (us : List (List Nat)) (t : List Nat) (d k : Nat) : Prop := ∀ (dep : Nat) (q : Option Nat) (v : Nat) (h : ax_H) (Q : Option Value → ax_H → Prop), dep + k = 13 → usC o s x h us → lkC h us → h.1 2 9 = nI v → v < 2 ^ 12 → (∀ y, q = some y → y < us.length) → (∀ h', fr9 h h' → h'.1 2 9 = nI (dF us true t k q v).2 → Q (some (.int (oI (dF us true t k q v).1))) h') → ax_wp kC (d + 1 + k) mG_fieldFrom 0 [some (.ref 2), some (.int (oI q)), some (.long (lN (pL t))), none, some (.int (nI dep)), none, none] [] h Q
theorem mG_fieldFrom_j (t : List Nat) (k dep c : Nat) (hk : dep + (k + 1) = 13) (ih : spF o s x us t d k) (hcl : c < us.length) : ∀ (m j v : Nat) (h : ax_H), j + m = niU us c → usC o s x h us → lkC h us → h.1 2 9 = nI v → v < 2 ^ 12 → (∀ h' j', fr9 h h' → h'.1 2 9 = nI (dL (dF us true t k) (lI us c m j) v).2 → ax_wp kC (d + 1 + k + 1) mG_fieldFrom 102 [some (.ref 2), some (.int (nI c)), some (.long (lN (pL t))), none, some (.int (nI dep)), some (.int (oI (dL (dF us true t k) (lI us c m j) v).1)), some (.int (nI j'))] [] h' Q) → ax_wp kC (d + 1 + k + 1) mG_fieldFrom 58 [some (.ref 2), some (.int (nI c)), some (.long (lN (pL t))), none, some (.int (nI dep)), some (.int (-1)), some (.int (nI j))] [] h Q
  | 0, j, v, h, hm, hc, hl, h9, hv, hQ => by
    have hr := hc.1
    have h12 := hc.2.2.1
    have ho := hc.2.2.2.2.1 c (by omega)
    obtain ⟨i1, i2, i3⟩ := hc.ifc hcl
    rw [sG_fieldFrom_58]
    simp (disch := omega) only [sG_fieldFrom_60, sG_fieldFrom_61, sG_fieldFrom_64, sG_fieldFrom_65, sG_fieldFrom_66, sG_fieldFrom_69, ax_clr_i, ax_clr_l, ax_clr_r, ax_clr_n, ax_ct_0, ax_ct_i, ax_ct_l, ax_ct_r, va_rf_s, Option.toList_some, Option.toList_none, List.cons_append, List.nil_append, and_true, true_and, and_self, ite_true, ite_false, if_true, if_false, Nat.reduceAdd, Nat.reduceLeDiff, Nat.reduceMul, Nat.reduceLT, nI_add, pk_mul, nI_lt', nI_le', nI_eq', nI_lt0, nI_ge0, nI_eq0, nI_gt0, nI_le0, nI_ne_m1, m1_ne_nI, m1_lt_nI, m1_le_nI, nI_lt_m1, nI_le_m1, nI_clamp, ax_in_nI, nI_shl, nI_shr, lg_cmp0, nx_and, nI_eq1, bI_0, bI_1, bf_or, eq_self, or_true, true_or, lt_T, le_T, lt_F, le_F, eq_F, eq_T, kdC_0, kdC_1, kdC_2, kdC_3, kdC_4, kdC_5, kdC_6, kdC_7, kdC_8, kdC_9, kdC_10, kdC_11, kdC_12, kdC_13, kdC_14, kdC_15, kdC_16, kdU_1, kdU_2, kdU_3, kdU_4, kdU_5, kdU_6, kdU_7, kdU_, kdR_1, kdR_2, kdR_3, kdR_4, kdR_5, kdR_, rC_00, rC_01, rC_02, rC_03, rC_04, rC_10, rC_16, rC_18, rC_19, rC_1a, rC_20, rC_22, rC_23, rC_24, rC_25, rC_26, rC_27, rC_28, rC_4, rC_10k, rC_u3, rC_u5, rC_u7, rC_u9, rC_ua, rC_ub, rC_uc, rC_r4, rC_r5, rC_r6, rC_r7, rC_r8, Nat.add_zero, hr, i1]
    exact hQ h j fr9.rf h9
  | m + 1, j, v, h, hm, hc, hl, h9, hv, hQ => by
    have hr := hc.1
    have h12 := hc.2.2.1
    have ho := hc.2.2.2.2.1 c (by omega)
    obtain ⟨i1, i2, i3⟩ := hc.ifc hcl
    have pl : ∀ y, parU us c (j + 1) = some y → y < us.length := fun y w => parU_lt w
    have vl := dF_lt h12 true t k (parU us c (j + 1)) v (fun y w => by have := pl y w; omega) hv
    rw [sG_fieldFrom_58]
    simp (disch := omega) only [sG_fieldFrom_60, sG_fieldFrom_61, sG_fieldFrom_64, sG_fieldFrom_65, sG_fieldFrom_66, sG_fieldFrom_69, sG_fieldFrom_72, sG_fieldFrom_74, sG_fieldFrom_75, sG_fieldFrom_78, sG_fieldFrom_79, sG_fieldFrom_80, sG_fieldFrom_81, sG_fieldFrom_83, sG_fieldFrom_86, sG_fieldFrom_87, sG_fieldFrom_89, sG_fieldFrom_90, ax_clr_i, ax_clr_l, ax_clr_r, ax_clr_n, ax_ct_0, ax_ct_i, ax_ct_l, ax_ct_r, va_rf_s, Option.toList_some, Option.toList_none, List.cons_append, List.nil_append, and_true, true_and, and_self, ite_true, ite_false, if_true, if_false, Nat.reduceAdd, Nat.reduceLeDiff, Nat.reduceMul, Nat.reduceLT, nI_add, pk_mul, nI_lt', nI_le', nI_eq', nI_lt0, nI_ge0, nI_eq0, nI_gt0, nI_le0, nI_ne_m1, m1_ne_nI, m1_lt_nI, m1_le_nI, nI_lt_m1, nI_le_m1, nI_clamp, ax_in_nI, nI_shl, nI_shr, lg_cmp0, nx_and, nI_eq1, bI_0, bI_1, bf_or, eq_self, or_true, true_or, lt_T, le_T, lt_F, le_F, eq_F, eq_T, kdC_0, kdC_1, kdC_2, kdC_3, kdC_4, kdC_5, kdC_6, kdC_7, kdC_8, kdC_9, kdC_10, kdC_11, kdC_12, kdC_13, kdC_14, kdC_15, kdC_16, kdU_1, kdU_2, kdU_3, kdU_4, kdU_5, kdU_6, kdU_7, kdU_, kdR_1, kdR_2, kdR_3, kdR_4, kdR_5, kdR_, rC_00, rC_01, rC_02, rC_03, rC_04, rC_10, rC_16, rC_18, rC_19, rC_1a, rC_20, rC_22, rC_23, rC_24, rC_25, rC_26, rC_27, rC_28, rC_4, rC_10k, rC_u3, rC_u5, rC_u7, rC_u9, rC_ua, rC_ub, rC_uc, rC_r4, rC_r5, rC_r6, rC_r7, rC_r8, Nat.add_zero, hr, i1, mG_interfaceOf_ hc hl c j hcl (show j < niU us c by omega)]
    rw [sG_fieldFrom_91]
    refine ⟨⟨by simp only [kdC_0, kdC_1, kdC_2, kdC_3, kdC_4, kdC_5, kdC_6, kdC_7, kdC_8, kdC_9, kdC_10, kdC_11, kdC_12, kdC_13, kdC_14, kdC_15, kdC_16, kdU_1, kdU_2, kdU_3, kdU_4, kdU_5, kdU_6, kdU_7, kdU_, kdR_1, kdR_2, kdR_3, kdR_4, kdR_5, kdR_, rC_00, rC_01, rC_02, rC_03, rC_04, rC_10, rC_16, rC_18, rC_19, rC_1a, rC_20, rC_22, rC_23, rC_24, rC_25, rC_26, rC_27, rC_28, rC_4, rC_10k, rC_u3, rC_u5, rC_u7, rC_u9, rC_ua, rC_ub, rC_uc, rC_r4, rC_r5, rC_r6, rC_r7, rC_r8, Nat.add_zero], by simp only [ax_clr_i, ax_clr_l, ax_clr_r, ax_clr_n, ax_ct_0, ax_ct_i, ax_ct_l, ax_ct_r, va_rf_s, Option.toList_some, Option.toList_none, List.cons_append, List.nil_append, and_true, true_and, and_self, ite_true, ite_false, if_true, if_false, Nat.reduceAdd, Nat.reduceLeDiff, Nat.reduceMul, Nat.reduceLT]⟩, ?_⟩
    refine ih (dep + 1) (parU us c (j + 1)) v h _ (by omega) hc hl h9 hv pl (fun h1 f1 n1 => ?_)
    rw [lI, dL] at hQ
    rcases hd : dF us true t k (parU us c (j + 1)) v with ⟨o1, v1⟩
    rw [hd] at hQ n1 vl
    simp (disch := omega) only [sG_fieldFrom_94, sG_fieldFrom_96, sG_fieldFrom_99, ax_clr_i, ax_clr_l, ax_clr_r, ax_clr_n, ax_ct_0, ax_ct_i, ax_ct_l, ax_ct_r, va_rf_s, Option.toList_some, Option.toList_none, List.cons_append, List.nil_append, and_true, true_and, and_self, ite_true, ite_false, if_true, if_false, Nat.reduceAdd, Nat.reduceLeDiff, Nat.reduceMul, Nat.reduceLT, nI_add]
    cases o1 with
    | some r =>
      have rl : r < us.length := by
        have := dF_some_lt (us := us) h12 (fl := true) (t := t) k (parU us c (j + 1)) v r (fun y w => pl y w) (by rw [hd])
        exact this
      have hc1 := hc.f9 f1
      have hr1 := hc1.1
      have i11 := (hc1.ifc hcl).1
      rw [sG_fieldFrom_58]
      simp (disch := omega) only [sG_fieldFrom_60, sG_fieldFrom_61, sG_fieldFrom_64, sG_fieldFrom_65, sG_fieldFrom_66, sG_fieldFrom_69, sG_fieldFrom_72, sG_fieldFrom_74, sG_fieldFrom_75, ax_clr_i, ax_clr_l, ax_clr_r, ax_clr_n, ax_ct_0, ax_ct_i, ax_ct_l, ax_ct_r, va_rf_s, Option.toList_some, Option.toList_none, List.cons_append, List.nil_append, and_true, true_and, and_self, ite_true, ite_false, if_true, if_false, Nat.reduceAdd, Nat.reduceLeDiff, Nat.reduceMul, Nat.reduceLT, nI_add, pk_mul, nI_lt', nI_le', nI_eq', nI_lt0, nI_ge0, nI_eq0, nI_gt0, nI_le0, nI_ne_m1, m1_ne_nI, m1_lt_nI, m1_le_nI, nI_lt_m1, nI_le_m1, nI_clamp, ax_in_nI, nI_shl, nI_shr, lg_cmp0, nx_and, nI_eq1, bI_0, bI_1, bf_or, eq_self, or_true, true_or, lt_T, le_T, lt_F, le_F, eq_F, eq_T, kdC_0, kdC_1, kdC_2, kdC_3, kdC_4, kdC_5, kdC_6, kdC_7, kdC_8, kdC_9, kdC_10, kdC_11, kdC_12, kdC_13, kdC_14, kdC_15, kdC_16, kdU_1, kdU_2, kdU_3, kdU_4, kdU_5, kdU_6, kdU_7, kdU_, kdR_1, kdR_2, kdR_3, kdR_4, kdR_5, kdR_, rC_00, rC_01, rC_02, rC_03, rC_04, rC_10, rC_16, rC_18, rC_19, rC_1a, rC_20, rC_22, rC_23, rC_24, rC_25, rC_26, rC_27, rC_28, rC_4, rC_10k, rC_u3, rC_u5, rC_u7, rC_u9, rC_ua, rC_ub, rC_uc, rC_r4, rC_r5, rC_r6, rC_r7, rC_r8, Nat.add_zero, hr1, i11, oI_s, ite_self]
      exact hQ h1 (j + 1) f1 n1
    | none =>
      exact mG_fieldFrom_j t k dep c hk ih hcl m (j + 1) v1 h1 (by omega) (hc.f9 f1) (hl.f9 f1) n1 vl (fun h' j' f => hQ h' j' (f1.tr f))
theorem mG_fieldFrom_s (t : List Nat) (ht : vT t) : ∀ (k : Nat), spF o s x us t d k
  | 0 => fun dep q v h Q hk hc hl h9 hv hq hQ => by
    have h12 := hc.2.2.1
    have hQ2 := hQ h fr9.rf h9
    cases q with
    | none =>
      simp (disch := omega) only [sG_fieldFrom_0, sG_fieldFrom_1, sG_fieldFrom_2, sG_fieldFrom_5, sG_fieldFrom_7, sG_fieldFrom_9, sG_fieldFrom_12, sG_fieldFrom_13, sG_fieldFrom_16, sG_fieldFrom_17, sG_fieldFrom_20, sG_fieldFrom_23, sG_fieldFrom_24, ax_clr_i, ax_clr_l, ax_clr_r, ax_clr_n, ax_ct_0, ax_ct_i, ax_ct_l, ax_ct_r, va_rf_s, Option.toList_some, Option.toList_none, List.cons_append, List.nil_append, and_true, true_and, and_self, ite_true, ite_false, if_true, if_false, Nat.reduceAdd, Nat.reduceLeDiff, Nat.reduceMul, Nat.reduceLT, nI_add, pk_mul, nI_lt', nI_le', nI_eq', nI_lt0, nI_ge0, nI_eq0, nI_gt0, nI_le0, nI_ne_m1, m1_ne_nI, m1_lt_nI, m1_le_nI, nI_lt_m1, nI_le_m1, nI_clamp, ax_in_nI, nI_shl, nI_shr, lg_cmp0, nx_and, nI_eq1, bI_0, bI_1, bf_or, eq_self, or_true, true_or, oI_n]
      exact hQ2
    | some c =>
      have hcl := hq c rfl
      simp (disch := omega) only [sG_fieldFrom_0, sG_fieldFrom_1, sG_fieldFrom_2, sG_fieldFrom_5, sG_fieldFrom_7, sG_fieldFrom_9, sG_fieldFrom_23, sG_fieldFrom_24, ax_clr_i, ax_clr_l, ax_clr_r, ax_clr_n, ax_ct_0, ax_ct_i, ax_ct_l, ax_ct_r, va_rf_s, Option.toList_some, Option.toList_none, List.cons_append, List.nil_append, and_true, true_and, and_self, ite_true, ite_false, if_true, if_false, Nat.reduceAdd, Nat.reduceLeDiff, Nat.reduceMul, Nat.reduceLT, nI_add, pk_mul, nI_lt', nI_le', nI_eq', nI_lt0, nI_ge0, nI_eq0, nI_gt0, nI_le0, nI_ne_m1, m1_ne_nI, m1_lt_nI, m1_le_nI, nI_lt_m1, nI_le_m1, nI_clamp, ax_in_nI, nI_shl, nI_shr, lg_cmp0, nx_and, nI_eq1, bI_0, bI_1, bf_or, eq_self, or_true, true_or, lt_T, le_T, lt_F, le_F, eq_F, eq_T, oI_s]
      exact hQ2
  | k + 1 => fun dep q v h Q hk hc hl h9 hv hq hQ => by
    have h12 := hc.2.2.1
    rw [← Nat.add_assoc (d + 1) k 1]
    cases q with
    | none =>
      have hQ2 := hQ h fr9.rf h9
      simp (disch := omega) only [sG_fieldFrom_0, sG_fieldFrom_1, sG_fieldFrom_2, sG_fieldFrom_5, sG_fieldFrom_7, sG_fieldFrom_9, sG_fieldFrom_12, sG_fieldFrom_13, sG_fieldFrom_16, sG_fieldFrom_17, sG_fieldFrom_20, sG_fieldFrom_23, sG_fieldFrom_24, ax_clr_i, ax_clr_l, ax_clr_r, ax_clr_n, ax_ct_0, ax_ct_i, ax_ct_l, ax_ct_r, va_rf_s, Option.toList_some, Option.toList_none, List.cons_append, List.nil_append, and_true, true_and, and_self, ite_true, ite_false, if_true, if_false, Nat.reduceAdd, Nat.reduceLeDiff, Nat.reduceMul, Nat.reduceLT, nI_add, pk_mul, nI_lt', nI_le', nI_eq', nI_lt0, nI_ge0, nI_eq0, nI_gt0, nI_le0, nI_ne_m1, m1_ne_nI, m1_lt_nI, m1_le_nI, nI_lt_m1, nI_le_m1, nI_clamp, ax_in_nI, nI_shl, nI_shr, lg_cmp0, nx_and, nI_eq1, bI_0, bI_1, bf_or, eq_self, or_true, true_or, oI_n]
      exact hQ2
    | some c =>
      have hcl := hq c rfl
      have hr := hc.1
      have ho := hc.2.2.2.2.1 c (by omega)
      rw [dF] at hQ
      simp (disch := omega) only [sG_fieldFrom_0, sG_fieldFrom_1, sG_fieldFrom_2, sG_fieldFrom_5, sG_fieldFrom_7, sG_fieldFrom_9, sG_fieldFrom_12, sG_fieldFrom_13, sG_fieldFrom_16, sG_fieldFrom_17, sG_fieldFrom_20, ax_clr_i, ax_clr_l, ax_clr_r, ax_clr_n, ax_ct_0, ax_ct_i, ax_ct_l, ax_ct_r, va_rf_s, Option.toList_some, Option.toList_none, List.cons_append, List.nil_append, and_true, true_and, and_self, ite_true, ite_false, if_true, if_false, Nat.reduceAdd, Nat.reduceLeDiff, Nat.reduceMul, Nat.reduceLT, nI_add, pk_mul, nI_lt', nI_le', nI_eq', nI_lt0, nI_ge0, nI_eq0, nI_gt0, nI_le0, nI_ne_m1, m1_ne_nI, m1_lt_nI, m1_le_nI, nI_lt_m1, nI_le_m1, nI_clamp, ax_in_nI, nI_shl, nI_shr, lg_cmp0, nx_and, nI_eq1, bI_0, bI_1, bf_or, eq_self, or_true, true_or, lt_T, le_T, lt_F, le_F, eq_F, eq_T, kdC_0, kdC_1, kdC_2, kdC_3, kdC_4, kdC_5, kdC_6, kdC_7, kdC_8, kdC_9, kdC_10, kdC_11, kdC_12, kdC_13, kdC_14, kdC_15, kdC_16, kdU_1, kdU_2, kdU_3, kdU_4, kdU_5, kdU_6, kdU_7, kdU_, kdR_1, kdR_2, kdR_3, kdR_4, kdR_5, kdR_, rC_00, rC_01, rC_02, rC_03, rC_04, rC_10, rC_16, rC_18, rC_19, rC_1a, rC_20, rC_22, rC_23, rC_24, rC_25, rC_26, rC_27, rC_28, rC_4, rC_10k, rC_u3, rC_u5, rC_u7, rC_u9, rC_ua, rC_ub, rC_uc, rC_r4, rC_r5, rC_r6, rC_r7, rC_r8, Nat.add_zero, oI_s, h9, mG_isIn_ v c (by omega) (by omega)]
      by_cases b1 : v.testBit c = true
      · rw [if_pos b1] at hQ
        rw [if_neg (by rw [b1]; simp)]
        simp (disch := omega) only [sG_fieldFrom_23, sG_fieldFrom_24, ax_clr_i, ax_clr_l, ax_clr_r, ax_clr_n, ax_ct_0, ax_ct_i, ax_ct_l, ax_ct_r, va_rf_s, Option.toList_some, Option.toList_none, List.cons_append, List.nil_append, and_true, true_and, and_self, ite_true, ite_false, if_true, if_false, Nat.reduceAdd, Nat.reduceLeDiff, Nat.reduceMul, Nat.reduceLT]
        exact hQ h fr9.rf h9
      · rw [if_neg b1] at hQ
        rw [if_pos (by simpa using b1)]
        have ew : ax_wp kC (d + 1 + k) mG_with 0 [some (.int (nI v)), some (.int (nI c))] [] h = fun Q => Q (some (.int (nI (v ||| 2 ^ c)))) h := by
          funext Q; exact mG_with_ v (some c) (by omega) (fun y w => by cases w; omega)
        simp (disch := omega) only [sG_fieldFrom_25, sG_fieldFrom_26, sG_fieldFrom_27, sG_fieldFrom_30, sG_fieldFrom_31, sG_fieldFrom_34, ax_clr_i, ax_clr_l, ax_clr_r, ax_clr_n, ax_ct_0, ax_ct_i, ax_ct_l, ax_ct_r, va_rf_s, Option.toList_some, Option.toList_none, List.cons_append, List.nil_append, and_true, true_and, and_self, ite_true, ite_false, if_true, if_false, Nat.reduceAdd, Nat.reduceLeDiff, Nat.reduceMul, Nat.reduceLT, kdC_0, kdC_1, kdC_2, kdC_3, kdC_4, kdC_5, kdC_6, kdC_7, kdC_8, kdC_9, kdC_10, kdC_11, kdC_12, kdC_13, kdC_14, kdC_15, kdC_16, kdU_1, kdU_2, kdU_3, kdU_4, kdU_5, kdU_6, kdU_7, kdU_, kdR_1, kdR_2, kdR_3, kdR_4, kdR_5, kdR_, rC_00, rC_01, rC_02, rC_03, rC_04, rC_10, rC_16, rC_18, rC_19, rC_1a, rC_20, rC_22, rC_23, rC_24, rC_25, rC_26, rC_27, rC_28, rC_4, rC_10k, rC_u3, rC_u5, rC_u7, rC_u9, rC_ua, rC_ub, rC_uc, rC_r4, rC_r5, rC_r6, rC_r7, rC_r8, Nat.add_zero, h9, ew]
        have f1 : fr9 h (ax_upI h 2 9 (nI (v ||| 2 ^ c))) := fr9.up
        have n1 : (ax_upI h 2 9 (nI (v ||| 2 ^ c))).1 2 9 = nI (v ||| 2 ^ c) := up_at _ _ _ _
        have v1 : v ||| 2 ^ c < 2 ^ 12 := Nat.or_lt_two_pow hv (Nat.pow_lt_pow_right (by omega) (by omega))
        generalize ax_upI h 2 9 (nI (v ||| 2 ^ c)) = h1 at f1 n1 ⊢
        have hc1 := hc.f9 f1
        have hl1 := hl.f9 f1
        have hr1 := hc1.1
        have hk1 := (hc1.2.2.2.1 c hcl)
        simp (disch := omega) only [sG_fieldFrom_37, sG_fieldFrom_38, sG_fieldFrom_41, sG_fieldFrom_42, sG_fieldFrom_43, sG_fieldFrom_44, ax_clr_i, ax_clr_l, ax_clr_r, ax_clr_n, ax_ct_0, ax_ct_i, ax_ct_l, ax_ct_r, va_rf_s, Option.toList_some, Option.toList_none, List.cons_append, List.nil_append, and_true, true_and, and_self, ite_true, ite_false, if_true, if_false, Nat.reduceAdd, Nat.reduceLeDiff, Nat.reduceMul, Nat.reduceLT, nI_add, pk_mul, nI_lt', nI_le', nI_eq', nI_lt0, nI_ge0, nI_eq0, nI_gt0, nI_le0, nI_ne_m1, m1_ne_nI, m1_lt_nI, m1_le_nI, nI_lt_m1, nI_le_m1, nI_clamp, ax_in_nI, nI_shl, nI_shr, lg_cmp0, nx_and, nI_eq1, bI_0, bI_1, bf_or, eq_self, or_true, true_or, lt_T, le_T, lt_F, le_F, eq_F, eq_T, kdC_0, kdC_1, kdC_2, kdC_3, kdC_4, kdC_5, kdC_6, kdC_7, kdC_8, kdC_9, kdC_10, kdC_11, kdC_12, kdC_13, kdC_14, kdC_15, kdC_16, kdU_1, kdU_2, kdU_3, kdU_4, kdU_5, kdU_6, kdU_7, kdU_, kdR_1, kdR_2, kdR_3, kdR_4, kdR_5, kdR_, rC_00, rC_01, rC_02, rC_03, rC_04, rC_10, rC_16, rC_18, rC_19, rC_1a, rC_20, rC_22, rC_23, rC_24, rC_25, rC_26, rC_27, rC_28, rC_4, rC_10k, rC_u3, rC_u5, rC_u7, rC_u9, rC_ua, rC_ub, rC_uc, rC_r4, rC_r5, rC_r6, rC_r7, rC_r8, Nat.add_zero, hr1, mU_hasField_ hr1 (o c) ho hk1.1.2.2.2.1 (fdU_v hk1.2).1 (fdU_v hk1.2).2 t ht, hasF_any]
        have ehs : hasF (uAt us c) t = hsU us true t c := rfl
        rw [ehs]
        by_cases b2 : hsU us true t c = true
        · rw [if_pos b2] at hQ
          simp (disch := omega) only [sG_fieldFrom_47, sG_fieldFrom_50, sG_fieldFrom_51, ax_clr_i, ax_clr_l, ax_clr_r, ax_clr_n, ax_ct_0, ax_ct_i, ax_ct_l, ax_ct_r, va_rf_s, Option.toList_some, Option.toList_none, List.cons_append, List.nil_append, and_true, true_and, and_self, ite_true, ite_false, if_true, if_false, Nat.reduceAdd, Nat.reduceLeDiff, Nat.reduceMul, Nat.reduceLT, nI_add, pk_mul, nI_lt', nI_le', nI_eq', nI_lt0, nI_ge0, nI_eq0, nI_gt0, nI_le0, nI_ne_m1, m1_ne_nI, m1_lt_nI, m1_le_nI, nI_lt_m1, nI_le_m1, nI_clamp, ax_in_nI, nI_shl, nI_shr, lg_cmp0, nx_and, nI_eq1, bI_0, bI_1, bf_or, eq_self, or_true, true_or, b2, Bool.true_eq_false]
          exact hQ h1 f1 n1
        · rw [if_neg b2] at hQ
          have b3 : hsU us true t c = false := by simpa using b2
          simp (disch := omega) only [sG_fieldFrom_47, sG_fieldFrom_52, sG_fieldFrom_53, sG_fieldFrom_55, sG_fieldFrom_56, ax_clr_i, ax_clr_l, ax_clr_r, ax_clr_n, ax_ct_0, ax_ct_i, ax_ct_l, ax_ct_r, va_rf_s, Option.toList_some, Option.toList_none, List.cons_append, List.nil_append, and_true, true_and, and_self, ite_true, ite_false, if_true, if_false, Nat.reduceAdd, Nat.reduceLeDiff, Nat.reduceMul, Nat.reduceLT, nI_add, pk_mul, nI_lt', nI_le', nI_eq', nI_lt0, nI_ge0, nI_eq0, nI_gt0, nI_le0, nI_ne_m1, m1_ne_nI, m1_lt_nI, m1_le_nI, nI_lt_m1, nI_le_m1, nI_clamp, ax_in_nI, nI_shl, nI_shr, lg_cmp0, nx_and, nI_eq1, bI_0, bI_1, bf_or, eq_self, or_true, true_or, b3]
          refine mG_fieldFrom_j t k dep c hk (mG_fieldFrom_s t ht k) hcl (niU us c) 0 (v ||| 2 ^ c) h1 (by omega) hc1 hl1 n1 v1 (fun h2 j' f2 n2 => ?_)
          rw [dL_lI us true t k c _ (hc.ifc hcl).2.1] at n2 ⊢
          have ek : kO us true c = l3 us c ++ (if true = true then [parU us c 0] else []) := rfl
          rw [ek, dL_app] at hQ
          have vl := dL_lt (dF us true t k) (fun q v => dF_lt h12 true t k q v) (l3 us c) (v ||| 2 ^ c) (fun y hy => by unfold l3 at hy; simp only [List.mem_cons, List.not_mem_nil, or_false] at hy; rcases hy with w | w | w <;> (have := parU_lt w.symm; omega)) v1
          rcases hd : dL (dF us true t k) (l3 us c) (v ||| 2 ^ c) with ⟨o1, v2⟩
          rw [hd] at hQ n2 vl
          cases o1 with
          | some r =>
            have rl : r < us.length := dL_some_lt _ (fun q v r hq h => dF_some_lt h12 k q v r hq h) (l3 us c) (v ||| 2 ^ c) r (fun y hy => by unfold l3 at hy; simp only [List.mem_cons, List.not_mem_nil, or_false] at hy; rcases hy with w | w | w <;> exact parU_lt w.symm) (by rw [hd])
            simp (disch := omega) only [sG_fieldFrom_102, sG_fieldFrom_104, sG_fieldFrom_105, sG_fieldFrom_108, sG_fieldFrom_110, sG_fieldFrom_128, ax_clr_i, ax_clr_l, ax_clr_r, ax_clr_n, ax_ct_0, ax_ct_i, ax_ct_l, ax_ct_r, va_rf_s, Option.toList_some, Option.toList_none, List.cons_append, List.nil_append, and_true, true_and, and_self, ite_true, ite_false, if_true, if_false, Nat.reduceAdd, Nat.reduceLeDiff, Nat.reduceMul, Nat.reduceLT, nI_add, pk_mul, nI_lt', nI_le', nI_eq', nI_lt0, nI_ge0, nI_eq0, nI_gt0, nI_le0, nI_ne_m1, m1_ne_nI, m1_lt_nI, m1_le_nI, nI_lt_m1, nI_le_m1, nI_clamp, ax_in_nI, nI_shl, nI_shr, lg_cmp0, nx_and, nI_eq1, bI_0, bI_1, bf_or, eq_self, or_true, true_or, lt_T, le_T, lt_F, le_F, eq_F, eq_T, oI_s]
            exact hQ h2 (f1.tr f2) n2
          | none =>
            have hc2 := hc1.f9 f2
            have hl2 := hl1.f9 f2
            have hr2 := hc2.1
            have r0 := (hl2 c hcl).1
            simp (disch := omega) only [sG_fieldFrom_102, sG_fieldFrom_104, sG_fieldFrom_105, sG_fieldFrom_113, sG_fieldFrom_114, sG_fieldFrom_115, sG_fieldFrom_118, sG_fieldFrom_119, sG_fieldFrom_120, sG_fieldFrom_121, sG_fieldFrom_123, sG_fieldFrom_124, ax_clr_i, ax_clr_l, ax_clr_r, ax_clr_n, ax_ct_0, ax_ct_i, ax_ct_l, ax_ct_r, va_rf_s, Option.toList_some, Option.toList_none, List.cons_append, List.nil_append, and_true, true_and, and_self, ite_true, ite_false, if_true, if_false, Nat.reduceAdd, Nat.reduceLeDiff, Nat.reduceMul, Nat.reduceLT, nI_add, pk_mul, nI_lt', nI_le', nI_eq', nI_lt0, nI_ge0, nI_eq0, nI_gt0, nI_le0, nI_ne_m1, m1_ne_nI, m1_lt_nI, m1_le_nI, nI_lt_m1, nI_le_m1, nI_clamp, ax_in_nI, nI_shl, nI_shr, lg_cmp0, nx_and, nI_eq1, bI_0, bI_1, bf_or, eq_self, or_true, true_or, lt_T, le_T, lt_F, le_F, eq_F, eq_T, kdC_0, kdC_1, kdC_2, kdC_3, kdC_4, kdC_5, kdC_6, kdC_7, kdC_8, kdC_9, kdC_10, kdC_11, kdC_12, kdC_13, kdC_14, kdC_15, kdC_16, kdU_1, kdU_2, kdU_3, kdU_4, kdU_5, kdU_6, kdU_7, kdU_, kdR_1, kdR_2, kdR_3, kdR_4, kdR_5, kdR_, rC_00, rC_01, rC_02, rC_03, rC_04, rC_10, rC_16, rC_18, rC_19, rC_1a, rC_20, rC_22, rC_23, rC_24, rC_25, rC_26, rC_27, rC_28, rC_4, rC_10k, rC_u3, rC_u5, rC_u7, rC_u9, rC_ua, rC_ub, rC_uc, rC_r4, rC_r5, rC_r6, rC_r7, rC_r8, Nat.add_zero, oI_n, hr2, r0]
            rw [sG_fieldFrom_125]
            refine ⟨⟨by simp only [kdC_0, kdC_1, kdC_2, kdC_3, kdC_4, kdC_5, kdC_6, kdC_7, kdC_8, kdC_9, kdC_10, kdC_11, kdC_12, kdC_13, kdC_14, kdC_15, kdC_16, kdU_1, kdU_2, kdU_3, kdU_4, kdU_5, kdU_6, kdU_7, kdU_, kdR_1, kdR_2, kdR_3, kdR_4, kdR_5, kdR_, rC_00, rC_01, rC_02, rC_03, rC_04, rC_10, rC_16, rC_18, rC_19, rC_1a, rC_20, rC_22, rC_23, rC_24, rC_25, rC_26, rC_27, rC_28, rC_4, rC_10k, rC_u3, rC_u5, rC_u7, rC_u9, rC_ua, rC_ub, rC_uc, rC_r4, rC_r5, rC_r6, rC_r7, rC_r8, Nat.add_zero], by simp only [ax_clr_i, ax_clr_l, ax_clr_r, ax_clr_n, ax_ct_0, ax_ct_i, ax_ct_l, ax_ct_r, va_rf_s, Option.toList_some, Option.toList_none, List.cons_append, List.nil_append, and_true, true_and, and_self, ite_true, ite_false, if_true, if_false, Nat.reduceAdd, Nat.reduceLeDiff, Nat.reduceMul, Nat.reduceLT]⟩, ?_⟩
            refine mG_fieldFrom_s t ht k (dep + 1) (parU us c 0) v2 h2 _ (by omega) hc2 hl2 n2 vl (fun y w => parU_lt w) (fun h3 f3 n3 => ?_)
            simp (disch := omega) only [sG_fieldFrom_128, ax_clr_i, ax_clr_l, ax_clr_r, ax_clr_n, ax_ct_0, ax_ct_i, ax_ct_l, ax_ct_r, va_rf_s, Option.toList_some, Option.toList_none, List.cons_append, List.nil_append, and_true, true_and, and_self, ite_true, ite_false, if_true, if_false, Nat.reduceAdd, Nat.reduceLeDiff, Nat.reduceMul, Nat.reduceLT]
            have e1 : dL (dF us true t k) [parU us c 0] v2 = dF us true t k (parU us c 0) v2 := by
              rw [dL]
              rcases dF us true t k (parU us c 0) v2 with ⟨o3, v3⟩
              cases o3 <;> rfl
            dsimp only at hQ
            rw [if_pos rfl, e1] at hQ
            exact hQ h3 ((f1.tr f2).tr f3) n3
/-- one search within another -/
def spM (o : Nat → Nat) (s : Nat) (x : Option Nat) (us : List (List Nat)) (t : List Nat) (d k : Nat) : Prop := ∀ (dep : Nat) (q : Option Nat) (v : Nat) (h : ax_H) (Q : Option Value → ax_H → Prop), dep + k = 13 → usC o s x h us → lkC h us → h.1 2 9 = nI v → v < 2 ^ 12 → (∀ y, q = some y → y < us.length) → (∀ h', fr9 h h' → h'.1 2 9 = nI (dF us false t k q v).2 → Q (some (.int (oI (dF us false t k q v).1))) h') → ax_wp kC (d + 1 + k) mG_faceFrom 0 [some (.ref 2), some (.int (oI q)), some (.long (lN (pL t))), none, some (.int (nI dep)), none, none] [] h Q
theorem mG_faceFrom_j (t : List Nat) (k dep c : Nat) (hk : dep + (k + 1) = 13) (ih : spM o s x us t d k) (hcl : c < us.length) : ∀ (m j v : Nat) (h : ax_H), j + m = niU us c → usC o s x h us → lkC h us → h.1 2 9 = nI v → v < 2 ^ 12 → (∀ h' j', fr9 h h' → h'.1 2 9 = nI (dL (dF us false t k) (lI us c m j) v).2 → ax_wp kC (d + 1 + k + 1) mG_faceFrom 102 [some (.ref 2), some (.int (nI c)), some (.long (lN (pL t))), none, some (.int (nI dep)), some (.int (oI (dL (dF us false t k) (lI us c m j) v).1)), some (.int (nI j'))] [] h' Q) → ax_wp kC (d + 1 + k + 1) mG_faceFrom 58 [some (.ref 2), some (.int (nI c)), some (.long (lN (pL t))), none, some (.int (nI dep)), some (.int (-1)), some (.int (nI j))] [] h Q
  | 0, j, v, h, hm, hc, hl, h9, hv, hQ => by
    have hr := hc.1
    have h12 := hc.2.2.1
    have ho := hc.2.2.2.2.1 c (by omega)
    obtain ⟨i1, i2, i3⟩ := hc.ifc hcl
    rw [sG_faceFrom_58]
    simp (disch := omega) only [sG_faceFrom_60, sG_faceFrom_61, sG_faceFrom_64, sG_faceFrom_65, sG_faceFrom_66, sG_faceFrom_69, ax_clr_i, ax_clr_l, ax_clr_r, ax_clr_n, ax_ct_0, ax_ct_i, ax_ct_l, ax_ct_r, va_rf_s, Option.toList_some, Option.toList_none, List.cons_append, List.nil_append, and_true, true_and, and_self, ite_true, ite_false, if_true, if_false, Nat.reduceAdd, Nat.reduceLeDiff, Nat.reduceMul, Nat.reduceLT, nI_add, pk_mul, nI_lt', nI_le', nI_eq', nI_lt0, nI_ge0, nI_eq0, nI_gt0, nI_le0, nI_ne_m1, m1_ne_nI, m1_lt_nI, m1_le_nI, nI_lt_m1, nI_le_m1, nI_clamp, ax_in_nI, nI_shl, nI_shr, lg_cmp0, nx_and, nI_eq1, bI_0, bI_1, bf_or, eq_self, or_true, true_or, lt_T, le_T, lt_F, le_F, eq_F, eq_T, kdC_0, kdC_1, kdC_2, kdC_3, kdC_4, kdC_5, kdC_6, kdC_7, kdC_8, kdC_9, kdC_10, kdC_11, kdC_12, kdC_13, kdC_14, kdC_15, kdC_16, kdU_1, kdU_2, kdU_3, kdU_4, kdU_5, kdU_6, kdU_7, kdU_, kdR_1, kdR_2, kdR_3, kdR_4, kdR_5, kdR_, rC_00, rC_01, rC_02, rC_03, rC_04, rC_10, rC_16, rC_18, rC_19, rC_1a, rC_20, rC_22, rC_23, rC_24, rC_25, rC_26, rC_27, rC_28, rC_4, rC_10k, rC_u3, rC_u5, rC_u7, rC_u9, rC_ua, rC_ub, rC_uc, rC_r4, rC_r5, rC_r6, rC_r7, rC_r8, Nat.add_zero, hr, i1]
    exact hQ h j fr9.rf h9
  | m + 1, j, v, h, hm, hc, hl, h9, hv, hQ => by
    have hr := hc.1
    have h12 := hc.2.2.1
    have ho := hc.2.2.2.2.1 c (by omega)
    obtain ⟨i1, i2, i3⟩ := hc.ifc hcl
    have pl : ∀ y, parU us c (j + 1) = some y → y < us.length := fun y w => parU_lt w
    have vl := dF_lt h12 false t k (parU us c (j + 1)) v (fun y w => by have := pl y w; omega) hv
    rw [sG_faceFrom_58]
    simp (disch := omega) only [sG_faceFrom_60, sG_faceFrom_61, sG_faceFrom_64, sG_faceFrom_65, sG_faceFrom_66, sG_faceFrom_69, sG_faceFrom_72, sG_faceFrom_74, sG_faceFrom_75, sG_faceFrom_78, sG_faceFrom_79, sG_faceFrom_80, sG_faceFrom_81, sG_faceFrom_83, sG_faceFrom_86, sG_faceFrom_87, sG_faceFrom_89, sG_faceFrom_90, ax_clr_i, ax_clr_l, ax_clr_r, ax_clr_n, ax_ct_0, ax_ct_i, ax_ct_l, ax_ct_r, va_rf_s, Option.toList_some, Option.toList_none, List.cons_append, List.nil_append, and_true, true_and, and_self, ite_true, ite_false, if_true, if_false, Nat.reduceAdd, Nat.reduceLeDiff, Nat.reduceMul, Nat.reduceLT, nI_add, pk_mul, nI_lt', nI_le', nI_eq', nI_lt0, nI_ge0, nI_eq0, nI_gt0, nI_le0, nI_ne_m1, m1_ne_nI, m1_lt_nI, m1_le_nI, nI_lt_m1, nI_le_m1, nI_clamp, ax_in_nI, nI_shl, nI_shr, lg_cmp0, nx_and, nI_eq1, bI_0, bI_1, bf_or, eq_self, or_true, true_or, lt_T, le_T, lt_F, le_F, eq_F, eq_T, kdC_0, kdC_1, kdC_2, kdC_3, kdC_4, kdC_5, kdC_6, kdC_7, kdC_8, kdC_9, kdC_10, kdC_11, kdC_12, kdC_13, kdC_14, kdC_15, kdC_16, kdU_1, kdU_2, kdU_3, kdU_4, kdU_5, kdU_6, kdU_7, kdU_, kdR_1, kdR_2, kdR_3, kdR_4, kdR_5, kdR_, rC_00, rC_01, rC_02, rC_03, rC_04, rC_10, rC_16, rC_18, rC_19, rC_1a, rC_20, rC_22, rC_23, rC_24, rC_25, rC_26, rC_27, rC_28, rC_4, rC_10k, rC_u3, rC_u5, rC_u7, rC_u9, rC_ua, rC_ub, rC_uc, rC_r4, rC_r5, rC_r6, rC_r7, rC_r8, Nat.add_zero, hr, i1, mG_interfaceOf_ hc hl c j hcl (show j < niU us c by omega)]
    rw [sG_faceFrom_91]
    refine ⟨⟨by simp only [kdC_0, kdC_1, kdC_2, kdC_3, kdC_4, kdC_5, kdC_6, kdC_7, kdC_8, kdC_9, kdC_10, kdC_11, kdC_12, kdC_13, kdC_14, kdC_15, kdC_16, kdU_1, kdU_2, kdU_3, kdU_4, kdU_5, kdU_6, kdU_7, kdU_, kdR_1, kdR_2, kdR_3, kdR_4, kdR_5, kdR_, rC_00, rC_01, rC_02, rC_03, rC_04, rC_10, rC_16, rC_18, rC_19, rC_1a, rC_20, rC_22, rC_23, rC_24, rC_25, rC_26, rC_27, rC_28, rC_4, rC_10k, rC_u3, rC_u5, rC_u7, rC_u9, rC_ua, rC_ub, rC_uc, rC_r4, rC_r5, rC_r6, rC_r7, rC_r8, Nat.add_zero], by simp only [ax_clr_i, ax_clr_l, ax_clr_r, ax_clr_n, ax_ct_0, ax_ct_i, ax_ct_l, ax_ct_r, va_rf_s, Option.toList_some, Option.toList_none, List.cons_append, List.nil_append, and_true, true_and, and_self, ite_true, ite_false, if_true, if_false, Nat.reduceAdd, Nat.reduceLeDiff, Nat.reduceMul, Nat.reduceLT]⟩, ?_⟩
    refine ih (dep + 1) (parU us c (j + 1)) v h _ (by omega) hc hl h9 hv pl (fun h1 f1 n1 => ?_)
    rw [lI, dL] at hQ
    rcases hd : dF us false t k (parU us c (j + 1)) v with ⟨o1, v1⟩
    rw [hd] at hQ n1 vl
    simp (disch := omega) only [sG_faceFrom_94, sG_faceFrom_96, sG_faceFrom_99, ax_clr_i, ax_clr_l, ax_clr_r, ax_clr_n, ax_ct_0, ax_ct_i, ax_ct_l, ax_ct_r, va_rf_s, Option.toList_some, Option.toList_none, List.cons_append, List.nil_append, and_true, true_and, and_self, ite_true, ite_false, if_true, if_false, Nat.reduceAdd, Nat.reduceLeDiff, Nat.reduceMul, Nat.reduceLT, nI_add]
    cases o1 with
    | some r =>
      have rl : r < us.length := by
        have := dF_some_lt (us := us) h12 (fl := false) (t := t) k (parU us c (j + 1)) v r (fun y w => pl y w) (by rw [hd])
        exact this
      have hc1 := hc.f9 f1
      have hr1 := hc1.1
      have i11 := (hc1.ifc hcl).1
      rw [sG_faceFrom_58]
      simp (disch := omega) only [sG_faceFrom_60, sG_faceFrom_61, sG_faceFrom_64, sG_faceFrom_65, sG_faceFrom_66, sG_faceFrom_69, sG_faceFrom_72, sG_faceFrom_74, sG_faceFrom_75, ax_clr_i, ax_clr_l, ax_clr_r, ax_clr_n, ax_ct_0, ax_ct_i, ax_ct_l, ax_ct_r, va_rf_s, Option.toList_some, Option.toList_none, List.cons_append, List.nil_append, and_true, true_and, and_self, ite_true, ite_false, if_true, if_false, Nat.reduceAdd, Nat.reduceLeDiff, Nat.reduceMul, Nat.reduceLT, nI_add, pk_mul, nI_lt', nI_le', nI_eq', nI_lt0, nI_ge0, nI_eq0, nI_gt0, nI_le0, nI_ne_m1, m1_ne_nI, m1_lt_nI, m1_le_nI, nI_lt_m1, nI_le_m1, nI_clamp, ax_in_nI, nI_shl, nI_shr, lg_cmp0, nx_and, nI_eq1, bI_0, bI_1, bf_or, eq_self, or_true, true_or, lt_T, le_T, lt_F, le_F, eq_F, eq_T, kdC_0, kdC_1, kdC_2, kdC_3, kdC_4, kdC_5, kdC_6, kdC_7, kdC_8, kdC_9, kdC_10, kdC_11, kdC_12, kdC_13, kdC_14, kdC_15, kdC_16, kdU_1, kdU_2, kdU_3, kdU_4, kdU_5, kdU_6, kdU_7, kdU_, kdR_1, kdR_2, kdR_3, kdR_4, kdR_5, kdR_, rC_00, rC_01, rC_02, rC_03, rC_04, rC_10, rC_16, rC_18, rC_19, rC_1a, rC_20, rC_22, rC_23, rC_24, rC_25, rC_26, rC_27, rC_28, rC_4, rC_10k, rC_u3, rC_u5, rC_u7, rC_u9, rC_ua, rC_ub, rC_uc, rC_r4, rC_r5, rC_r6, rC_r7, rC_r8, Nat.add_zero, hr1, i11, oI_s, ite_self]
      exact hQ h1 (j + 1) f1 n1
    | none =>
      exact mG_faceFrom_j t k dep c hk ih hcl m (j + 1) v1 h1 (by omega) (hc.f9 f1) (hl.f9 f1) n1 vl (fun h' j' f => hQ h' j' (f1.tr f))
theorem mG_faceFrom_s (t : List Nat) (ht : vT t) : ∀ (k : Nat), spM o s x us t d k
  | 0 => fun dep q v h Q hk hc hl h9 hv hq hQ => by
    have h12 := hc.2.2.1
    have hQ2 := hQ h fr9.rf h9
    cases q with
    | none =>
      simp (disch := omega) only [sG_faceFrom_0, sG_faceFrom_1, sG_faceFrom_2, sG_faceFrom_5, sG_faceFrom_7, sG_faceFrom_9, sG_faceFrom_12, sG_faceFrom_13, sG_faceFrom_16, sG_faceFrom_17, sG_faceFrom_20, sG_faceFrom_23, sG_faceFrom_24, ax_clr_i, ax_clr_l, ax_clr_r, ax_clr_n, ax_ct_0, ax_ct_i, ax_ct_l, ax_ct_r, va_rf_s, Option.toList_some, Option.toList_none, List.cons_append, List.nil_append, and_true, true_and, and_self, ite_true, ite_false, if_true, if_false, Nat.reduceAdd, Nat.reduceLeDiff, Nat.reduceMul, Nat.reduceLT, nI_add, pk_mul, nI_lt', nI_le', nI_eq', nI_lt0, nI_ge0, nI_eq0, nI_gt0, nI_le0, nI_ne_m1, m1_ne_nI, m1_lt_nI, m1_le_nI, nI_lt_m1, nI_le_m1, nI_clamp, ax_in_nI, nI_shl, nI_shr, lg_cmp0, nx_and, nI_eq1, bI_0, bI_1, bf_or, eq_self, or_true, true_or, oI_n]
      exact hQ2
    | some c =>
      have hcl := hq c rfl
      simp (disch := omega) only [sG_faceFrom_0, sG_faceFrom_1, sG_faceFrom_2, sG_faceFrom_5, sG_faceFrom_7, sG_faceFrom_9, sG_faceFrom_23, sG_faceFrom_24, ax_clr_i, ax_clr_l, ax_clr_r, ax_clr_n, ax_ct_0, ax_ct_i, ax_ct_l, ax_ct_r, va_rf_s, Option.toList_some, Option.toList_none, List.cons_append, List.nil_append, and_true, true_and, and_self, ite_true, ite_false, if_true, if_false, Nat.reduceAdd, Nat.reduceLeDiff, Nat.reduceMul, Nat.reduceLT, nI_add, pk_mul, nI_lt', nI_le', nI_eq', nI_lt0, nI_ge0, nI_eq0, nI_gt0, nI_le0, nI_ne_m1, m1_ne_nI, m1_lt_nI, m1_le_nI, nI_lt_m1, nI_le_m1, nI_clamp, ax_in_nI, nI_shl, nI_shr, lg_cmp0, nx_and, nI_eq1, bI_0, bI_1, bf_or, eq_self, or_true, true_or, lt_T, le_T, lt_F, le_F, eq_F, eq_T, oI_s]
      exact hQ2
  | k + 1 => fun dep q v h Q hk hc hl h9 hv hq hQ => by
    have h12 := hc.2.2.1
    rw [← Nat.add_assoc (d + 1) k 1]
    cases q with
    | none =>
      have hQ2 := hQ h fr9.rf h9
      simp (disch := omega) only [sG_faceFrom_0, sG_faceFrom_1, sG_faceFrom_2, sG_faceFrom_5, sG_faceFrom_7, sG_faceFrom_9, sG_faceFrom_12, sG_faceFrom_13, sG_faceFrom_16, sG_faceFrom_17, sG_faceFrom_20, sG_faceFrom_23, sG_faceFrom_24, ax_clr_i, ax_clr_l, ax_clr_r, ax_clr_n, ax_ct_0, ax_ct_i, ax_ct_l, ax_ct_r, va_rf_s, Option.toList_some, Option.toList_none, List.cons_append, List.nil_append, and_true, true_and, and_self, ite_true, ite_false, if_true, if_false, Nat.reduceAdd, Nat.reduceLeDiff, Nat.reduceMul, Nat.reduceLT, nI_add, pk_mul, nI_lt', nI_le', nI_eq', nI_lt0, nI_ge0, nI_eq0, nI_gt0, nI_le0, nI_ne_m1, m1_ne_nI, m1_lt_nI, m1_le_nI, nI_lt_m1, nI_le_m1, nI_clamp, ax_in_nI, nI_shl, nI_shr, lg_cmp0, nx_and, nI_eq1, bI_0, bI_1, bf_or, eq_self, or_true, true_or, oI_n]
      exact hQ2
    | some c =>
      have hcl := hq c rfl
      have hr := hc.1
      have ho := hc.2.2.2.2.1 c (by omega)
      rw [dF] at hQ
      simp (disch := omega) only [sG_faceFrom_0, sG_faceFrom_1, sG_faceFrom_2, sG_faceFrom_5, sG_faceFrom_7, sG_faceFrom_9, sG_faceFrom_12, sG_faceFrom_13, sG_faceFrom_16, sG_faceFrom_17, sG_faceFrom_20, ax_clr_i, ax_clr_l, ax_clr_r, ax_clr_n, ax_ct_0, ax_ct_i, ax_ct_l, ax_ct_r, va_rf_s, Option.toList_some, Option.toList_none, List.cons_append, List.nil_append, and_true, true_and, and_self, ite_true, ite_false, if_true, if_false, Nat.reduceAdd, Nat.reduceLeDiff, Nat.reduceMul, Nat.reduceLT, nI_add, pk_mul, nI_lt', nI_le', nI_eq', nI_lt0, nI_ge0, nI_eq0, nI_gt0, nI_le0, nI_ne_m1, m1_ne_nI, m1_lt_nI, m1_le_nI, nI_lt_m1, nI_le_m1, nI_clamp, ax_in_nI, nI_shl, nI_shr, lg_cmp0, nx_and, nI_eq1, bI_0, bI_1, bf_or, eq_self, or_true, true_or, lt_T, le_T, lt_F, le_F, eq_F, eq_T, kdC_0, kdC_1, kdC_2, kdC_3, kdC_4, kdC_5, kdC_6, kdC_7, kdC_8, kdC_9, kdC_10, kdC_11, kdC_12, kdC_13, kdC_14, kdC_15, kdC_16, kdU_1, kdU_2, kdU_3, kdU_4, kdU_5, kdU_6, kdU_7, kdU_, kdR_1, kdR_2, kdR_3, kdR_4, kdR_5, kdR_, rC_00, rC_01, rC_02, rC_03, rC_04, rC_10, rC_16, rC_18, rC_19, rC_1a, rC_20, rC_22, rC_23, rC_24, rC_25, rC_26, rC_27, rC_28, rC_4, rC_10k, rC_u3, rC_u5, rC_u7, rC_u9, rC_ua, rC_ub, rC_uc, rC_r4, rC_r5, rC_r6, rC_r7, rC_r8, Nat.add_zero, oI_s, h9, mG_isIn_ v c (by omega) (by omega)]
      by_cases b1 : v.testBit c = true
      · rw [if_pos b1] at hQ
        rw [if_neg (by rw [b1]; simp)]
        simp (disch := omega) only [sG_faceFrom_23, sG_faceFrom_24, ax_clr_i, ax_clr_l, ax_clr_r, ax_clr_n, ax_ct_0, ax_ct_i, ax_ct_l, ax_ct_r, va_rf_s, Option.toList_some, Option.toList_none, List.cons_append, List.nil_append, and_true, true_and, and_self, ite_true, ite_false, if_true, if_false, Nat.reduceAdd, Nat.reduceLeDiff, Nat.reduceMul, Nat.reduceLT]
        exact hQ h fr9.rf h9
      · rw [if_neg b1] at hQ
        rw [if_pos (by simpa using b1)]
        have ew : ax_wp kC (d + 1 + k) mG_with 0 [some (.int (nI v)), some (.int (nI c))] [] h = fun Q => Q (some (.int (nI (v ||| 2 ^ c)))) h := by
          funext Q; exact mG_with_ v (some c) (by omega) (fun y w => by cases w; omega)
        simp (disch := omega) only [sG_faceFrom_25, sG_faceFrom_26, sG_faceFrom_27, sG_faceFrom_30, sG_faceFrom_31, sG_faceFrom_34, ax_clr_i, ax_clr_l, ax_clr_r, ax_clr_n, ax_ct_0, ax_ct_i, ax_ct_l, ax_ct_r, va_rf_s, Option.toList_some, Option.toList_none, List.cons_append, List.nil_append, and_true, true_and, and_self, ite_true, ite_false, if_true, if_false, Nat.reduceAdd, Nat.reduceLeDiff, Nat.reduceMul, Nat.reduceLT, kdC_0, kdC_1, kdC_2, kdC_3, kdC_4, kdC_5, kdC_6, kdC_7, kdC_8, kdC_9, kdC_10, kdC_11, kdC_12, kdC_13, kdC_14, kdC_15, kdC_16, kdU_1, kdU_2, kdU_3, kdU_4, kdU_5, kdU_6, kdU_7, kdU_, kdR_1, kdR_2, kdR_3, kdR_4, kdR_5, kdR_, rC_00, rC_01, rC_02, rC_03, rC_04, rC_10, rC_16, rC_18, rC_19, rC_1a, rC_20, rC_22, rC_23, rC_24, rC_25, rC_26, rC_27, rC_28, rC_4, rC_10k, rC_u3, rC_u5, rC_u7, rC_u9, rC_ua, rC_ub, rC_uc, rC_r4, rC_r5, rC_r6, rC_r7, rC_r8, Nat.add_zero, h9, ew]
        have f1 : fr9 h (ax_upI h 2 9 (nI (v ||| 2 ^ c))) := fr9.up
        have n1 : (ax_upI h 2 9 (nI (v ||| 2 ^ c))).1 2 9 = nI (v ||| 2 ^ c) := up_at _ _ _ _
        have v1 : v ||| 2 ^ c < 2 ^ 12 := Nat.or_lt_two_pow hv (Nat.pow_lt_pow_right (by omega) (by omega))
        generalize ax_upI h 2 9 (nI (v ||| 2 ^ c)) = h1 at f1 n1 ⊢
        have hc1 := hc.f9 f1
        have hl1 := hl.f9 f1
        have hr1 := hc1.1
        have hk1 := (hc1.2.2.2.1 c hcl)
        simp (disch := omega) only [sG_faceFrom_37, sG_faceFrom_38, sG_faceFrom_41, sG_faceFrom_42, sG_faceFrom_43, sG_faceFrom_44, ax_clr_i, ax_clr_l, ax_clr_r, ax_clr_n, ax_ct_0, ax_ct_i, ax_ct_l, ax_ct_r, va_rf_s, Option.toList_some, Option.toList_none, List.cons_append, List.nil_append, and_true, true_and, and_self, ite_true, ite_false, if_true, if_false, Nat.reduceAdd, Nat.reduceLeDiff, Nat.reduceMul, Nat.reduceLT, nI_add, pk_mul, nI_lt', nI_le', nI_eq', nI_lt0, nI_ge0, nI_eq0, nI_gt0, nI_le0, nI_ne_m1, m1_ne_nI, m1_lt_nI, m1_le_nI, nI_lt_m1, nI_le_m1, nI_clamp, ax_in_nI, nI_shl, nI_shr, lg_cmp0, nx_and, nI_eq1, bI_0, bI_1, bf_or, eq_self, or_true, true_or, lt_T, le_T, lt_F, le_F, eq_F, eq_T, kdC_0, kdC_1, kdC_2, kdC_3, kdC_4, kdC_5, kdC_6, kdC_7, kdC_8, kdC_9, kdC_10, kdC_11, kdC_12, kdC_13, kdC_14, kdC_15, kdC_16, kdU_1, kdU_2, kdU_3, kdU_4, kdU_5, kdU_6, kdU_7, kdU_, kdR_1, kdR_2, kdR_3, kdR_4, kdR_5, kdR_, rC_00, rC_01, rC_02, rC_03, rC_04, rC_10, rC_16, rC_18, rC_19, rC_1a, rC_20, rC_22, rC_23, rC_24, rC_25, rC_26, rC_27, rC_28, rC_4, rC_10k, rC_u3, rC_u5, rC_u7, rC_u9, rC_ua, rC_ub, rC_uc, rC_r4, rC_r5, rC_r6, rC_r7, rC_r8, Nat.add_zero, hr1, mU_hasMethod_ hr1 (o c) ho hk1.1.2.2.2.2.1 (mtU_v hk1.2).1 (mtU_v hk1.2).2 t ht, hasM_any]
        have ehs : hasM (uAt us c) t = hsU us false t c := rfl
        rw [ehs]
        by_cases b2 : hsU us false t c = true
        · rw [if_pos b2] at hQ
          simp (disch := omega) only [sG_faceFrom_47, sG_faceFrom_50, sG_faceFrom_51, ax_clr_i, ax_clr_l, ax_clr_r, ax_clr_n, ax_ct_0, ax_ct_i, ax_ct_l, ax_ct_r, va_rf_s, Option.toList_some, Option.toList_none, List.cons_append, List.nil_append, and_true, true_and, and_self, ite_true, ite_false, if_true, if_false, Nat.reduceAdd, Nat.reduceLeDiff, Nat.reduceMul, Nat.reduceLT, nI_add, pk_mul, nI_lt', nI_le', nI_eq', nI_lt0, nI_ge0, nI_eq0, nI_gt0, nI_le0, nI_ne_m1, m1_ne_nI, m1_lt_nI, m1_le_nI, nI_lt_m1, nI_le_m1, nI_clamp, ax_in_nI, nI_shl, nI_shr, lg_cmp0, nx_and, nI_eq1, bI_0, bI_1, bf_or, eq_self, or_true, true_or, b2, Bool.true_eq_false]
          exact hQ h1 f1 n1
        · rw [if_neg b2] at hQ
          have b3 : hsU us false t c = false := by simpa using b2
          simp (disch := omega) only [sG_faceFrom_47, sG_faceFrom_52, sG_faceFrom_53, sG_faceFrom_55, sG_faceFrom_56, ax_clr_i, ax_clr_l, ax_clr_r, ax_clr_n, ax_ct_0, ax_ct_i, ax_ct_l, ax_ct_r, va_rf_s, Option.toList_some, Option.toList_none, List.cons_append, List.nil_append, and_true, true_and, and_self, ite_true, ite_false, if_true, if_false, Nat.reduceAdd, Nat.reduceLeDiff, Nat.reduceMul, Nat.reduceLT, nI_add, pk_mul, nI_lt', nI_le', nI_eq', nI_lt0, nI_ge0, nI_eq0, nI_gt0, nI_le0, nI_ne_m1, m1_ne_nI, m1_lt_nI, m1_le_nI, nI_lt_m1, nI_le_m1, nI_clamp, ax_in_nI, nI_shl, nI_shr, lg_cmp0, nx_and, nI_eq1, bI_0, bI_1, bf_or, eq_self, or_true, true_or, b3]
          refine mG_faceFrom_j t k dep c hk (mG_faceFrom_s t ht k) hcl (niU us c) 0 (v ||| 2 ^ c) h1 (by omega) hc1 hl1 n1 v1 (fun h2 j' f2 n2 => ?_)
          rw [dL_lI us false t k c _ (hc.ifc hcl).2.1] at n2 ⊢
          have ek : kO us false c = l3 us c ++ (if false = true then [parU us c 0] else []) := rfl
          rw [ek, dL_app] at hQ
          rcases hd : dL (dF us false t k) (l3 us c) (v ||| 2 ^ c) with ⟨o1, v2⟩
          rw [hd] at hQ n2
          simp (disch := omega) only [sG_faceFrom_102, sG_faceFrom_104, ax_clr_i, ax_clr_l, ax_clr_r, ax_clr_n, ax_ct_0, ax_ct_i, ax_ct_l, ax_ct_r, va_rf_s, Option.toList_some, Option.toList_none, List.cons_append, List.nil_append, and_true, true_and, and_self, ite_true, ite_false, if_true, if_false, Nat.reduceAdd, Nat.reduceLeDiff, Nat.reduceMul, Nat.reduceLT]
          cases o1 with
          | some r => exact hQ h2 (f1.tr f2) n2
          | none => exact hQ h2 (f1.tr f2) n2
end CT
