/-! the class: where its objects lie -/
def rC (o : Nat → Nat) (s : Nat) (x : Option Nat) : Nat → Nat → Option Nat := fun r k =>
  if r = 0 then (match k with
    | 0 => some 1
    | 1 => some 2
    | 2 => some 3
    | 3 => some 4
    | 4 => some 5
    | _ => none)
  else if r = 1 then (match k with
    | 0 => some 6
    | 6 => x
    | 8 => some 7
    | 9 => some 8
    | 10 => some 9
    | _ => none)
  else if r = 2 then (match k with
    | 0 => some 10
    | 2 => some (17 + 8 * s)
    | 3 => some 11
    | 4 => some 12
    | 5 => some 13
    | 6 => some 14
    | 7 => some 15
    | 8 => some 16
    | _ => none)
  else if r = 4 then (if k < 6 then some (121 + 6 * k) else none)
  else if r = 10 then (if k < 12 then some (17 + 8 * o k) else none)
  else if 17 ≤ r ∧ r < 121 ∧ (r - 17) % 8 = 0 then (match k with
    | 3 => some (r + 1)
    | 5 => some (r + 2)
    | 7 => some (r + 3)
    | 9 => some (r + 4)
    | 10 => some (r + 5)
    | 11 => some (r + 6)
    | 12 => some (r + 7)
    | _ => none)
  else if 121 ≤ r ∧ r < 157 ∧ (r - 121) % 6 = 0 then (match k with
    | 4 => some (r + 1)
    | 5 => some (r + 2)
    | 6 => some (r + 3)
    | 7 => some (r + 4)
    | 8 => some (r + 5)
    | _ => none)
  else none
section RC
variable {o : Nat → Nat} {s : Nat} {x : Option Nat}
theorem rC_00 : rC o s x 0 0 = some 1 := rfl
theorem rC_01 : rC o s x 0 1 = some 2 := rfl
theorem rC_02 : rC o s x 0 2 = some 3 := rfl
theorem rC_03 : rC o s x 0 3 = some 4 := rfl
theorem rC_04 : rC o s x 0 4 = some 5 := rfl
theorem rC_10 : rC o s x 1 0 = some 6 := rfl
theorem rC_16 : rC o s x 1 6 = x := rfl
theorem rC_18 : rC o s x 1 8 = some 7 := rfl
theorem rC_19 : rC o s x 1 9 = some 8 := rfl
theorem rC_1a : rC o s x 1 10 = some 9 := rfl
theorem rC_20 : rC o s x 2 0 = some 10 := rfl
theorem rC_22 : rC o s x 2 2 = some (17 + 8 * s) := rfl
theorem rC_23 : rC o s x 2 3 = some 11 := rfl
theorem rC_24 : rC o s x 2 4 = some 12 := rfl
theorem rC_25 : rC o s x 2 5 = some 13 := rfl
theorem rC_26 : rC o s x 2 6 = some 14 := rfl
theorem rC_27 : rC o s x 2 7 = some 15 := rfl
theorem rC_28 : rC o s x 2 8 = some 16 := rfl
theorem rC_4 {k : Nat} (hk : k < 6) : rC o s x 4 k = some (121 + 6 * k) := if_pos hk
theorem rC_10k {k : Nat} (hk : k < 12) : rC o s x 10 k = some (17 + 8 * o k) := if_pos hk
theorem rC_u {u : Nat} (hu : u < 13) (k : Nat) : rC o s x (17 + 8 * u) k = (match k with
    | 3 => some (17 + 8 * u + 1)
    | 5 => some (17 + 8 * u + 2)
    | 7 => some (17 + 8 * u + 3)
    | 9 => some (17 + 8 * u + 4)
    | 10 => some (17 + 8 * u + 5)
    | 11 => some (17 + 8 * u + 6)
    | 12 => some (17 + 8 * u + 7)
    | _ => none) := by
  unfold rC
  rw [if_neg (by omega), if_neg (by omega), if_neg (by omega), if_neg (by omega), if_neg (by omega), if_pos (by omega)]
theorem rC_u3 {u : Nat} (hu : u < 13) : rC o s x (17 + 8 * u) 3 = some (17 + 8 * u + 1) := rC_u hu 3
theorem rC_u5 {u : Nat} (hu : u < 13) : rC o s x (17 + 8 * u) 5 = some (17 + 8 * u + 2) := rC_u hu 5
theorem rC_u7 {u : Nat} (hu : u < 13) : rC o s x (17 + 8 * u) 7 = some (17 + 8 * u + 3) := rC_u hu 7
theorem rC_u9 {u : Nat} (hu : u < 13) : rC o s x (17 + 8 * u) 9 = some (17 + 8 * u + 4) := rC_u hu 9
theorem rC_ua {u : Nat} (hu : u < 13) : rC o s x (17 + 8 * u) 10 = some (17 + 8 * u + 5) := rC_u hu 10
theorem rC_ub {u : Nat} (hu : u < 13) : rC o s x (17 + 8 * u) 11 = some (17 + 8 * u + 6) := rC_u hu 11
theorem rC_uc {u : Nat} (hu : u < 13) : rC o s x (17 + 8 * u) 12 = some (17 + 8 * u + 7) := rC_u hu 12
theorem rC_r {u : Nat} (hu : u < 6) (k : Nat) : rC o s x (121 + 6 * u) k = (match k with
    | 4 => some (121 + 6 * u + 1)
    | 5 => some (121 + 6 * u + 2)
    | 6 => some (121 + 6 * u + 3)
    | 7 => some (121 + 6 * u + 4)
    | 8 => some (121 + 6 * u + 5)
    | _ => none) := by
  unfold rC
  rw [if_neg (by omega), if_neg (by omega), if_neg (by omega), if_neg (by omega), if_neg (by omega), if_neg (by omega), if_pos (by omega)]
theorem rC_r4 {u : Nat} (hu : u < 6) : rC o s x (121 + 6 * u) 4 = some (121 + 6 * u + 1) := rC_r hu 4
theorem rC_r5 {u : Nat} (hu : u < 6) : rC o s x (121 + 6 * u) 5 = some (121 + 6 * u + 2) := rC_r hu 5
theorem rC_r6 {u : Nat} (hu : u < 6) : rC o s x (121 + 6 * u) 6 = some (121 + 6 * u + 3) := rC_r hu 6
theorem rC_r7 {u : Nat} (hu : u < 6) : rC o s x (121 + 6 * u) 7 = some (121 + 6 * u + 4) := rC_r hu 7
theorem rC_r8 {u : Nat} (hu : u < 6) : rC o s x (121 + 6 * u) 8 = some (121 + 6 * u + 5) := rC_r hu 8
end RC
/-! what a unit says -/
def lsT (h : ax_H) (r k j : Nat) (T : List (List Nat)) : Prop := h.1 r k = nI T.length ∧ ∀ i, i < T.length → h.2.1 (r + j) i = lN (pL (pA T i))
def ocT (h : ax_H) (r : Nat) (O : List oc4) : Prop := h.1 r 8 = nI O.length ∧ O.length ≤ 52 ∧ ∀ i, i < O.length → h.1 (r + 4) i = nI (ocA O i).1 ∧ h.1 (r + 5) i = nI (ocA O i).2.1 ∧ h.2.1 (r + 6) i = lN (pL (ocA O i).2.2.1) ∧ h.2.1 (r + 7) i = lN (pL (ocA O i).2.2.2)
def unC (h : ax_H) (r : Nat) (own sup : List Nat) (I F M : List (List Nat)) (O : List oc4) : Prop := h.2.1 r 0 = lN (pL own) ∧ h.2.1 r 1 = lN (pL sup) ∧ lsT h r 2 1 I ∧ lsT h r 4 2 F ∧ lsT h r 6 3 M ∧ ocT h r O
/-- only the unit at r is changed -/
def frN (r : Nat) (h h' : ax_H) : Prop := h'.2.2 = h.2.2 ∧ (∀ a k, ¬ (r ≤ a ∧ a < r + 8) → h'.1 a k = h.1 a k) ∧ ∀ a k, ¬ (r ≤ a ∧ a < r + 8) → h'.2.1 a k = h.2.1 a k
theorem frN.rf {r : Nat} {h : ax_H} : frN r h h := ⟨rfl, fun _ _ _ => rfl, fun _ _ _ => rfl⟩
theorem frN.tr {r : Nat} {h h' h2 : ax_H} (a : frN r h h') (b : frN r h' h2) : frN r h h2 := ⟨b.1.trans a.1, fun r k h1 => (b.2.1 r k h1).trans (a.2.1 r k h1), fun r k h1 => (b.2.2 r k h1).trans (a.2.2 r k h1)⟩
theorem lsT.keep {h h' : ax_H} {r k j : Nat} {T : List (List Nat)} (hl : lsT h r k j T) (f : h'.1 r k = h.1 r k) (g : ∀ i, h'.2.1 (r + j) i = h.2.1 (r + j) i) : lsT h' r k j T := ⟨by rw [f]; exact hl.1, fun i hi => by rw [g]; exact hl.2 i hi⟩
theorem ocT.keep {h h' : ax_H} {r : Nat} {O : List oc4} (ho : ocT h r O) (f : h'.1 r 8 = h.1 r 8) (g : ∀ a i, a = r + 4 ∨ a = r + 5 → h'.1 a i = h.1 a i) (e : ∀ a i, a = r + 6 ∨ a = r + 7 → h'.2.1 a i = h.2.1 a i) : ocT h' r O :=
  ⟨by rw [f]; exact ho.1, ho.2.1, fun i hi => by rw [g _ _ (by omega), g _ _ (by omega), e _ _ (by omega), e _ _ (by omega)]; exact ho.2.2 i hi⟩
theorem unC.keep {h h' : ax_H} {r : Nat} {own sup : List Nat} {I F M : List (List Nat)} {O : List oc4} (hu : unC h r own sup I F M O) (f : ∀ a k, r ≤ a → a < r + 8 → h'.1 a k = h.1 a k) (g : ∀ a k, r ≤ a → a < r + 8 → h'.2.1 a k = h.2.1 a k) : unC h' r own sup I F M O := by
  obtain ⟨a1, a2, a3, a4, a5, a6⟩ := hu
  exact ⟨by rw [g _ _ (by omega) (by omega)]; exact a1, by rw [g _ _ (by omega) (by omega)]; exact a2, a3.keep (f _ _ (by omega) (by omega)) (fun i => g _ _ (by omega) (by omega)), a4.keep (f _ _ (by omega) (by omega)) (fun i => g _ _ (by omega) (by omega)), a5.keep (f _ _ (by omega) (by omega)) (fun i => g _ _ (by omega) (by omega)), a6.keep (f _ _ (by omega) (by omega)) (fun a i q => f _ _ (by omega) (by omega)) (fun a i q => g _ _ (by omega) (by omega))⟩
theorem lsT.app {h : ax_H} {r k j : Nat} {T : List (List Nat)} (hl : lsT h r k j T) (t : List Nat) : lsT (ax_upI (ax_upL h (r + j) T.length (lN (pL t))) r k (nI (T.length + 1))) r k j (T ++ [t]) := by
  refine ⟨by rw [up_at]; simp, fun i hi => ?_⟩
  simp only [List.length_append, List.length_cons, List.length_nil] at hi
  rw [pA_app (by omega), up_I2, up_L]
  by_cases e : i = T.length
  · rw [if_pos ⟨rfl, e⟩, if_pos e]
  · rw [if_neg (fun q => e q.2), if_neg e]; exact hl.2 i (by omega)
section UN
variable {d : Nat} {Q : Option Value → ax_H → Prop} {o : Nat → Nat} {s : Nat} {x : Option Nat} {own sup : List Nat} {I F M : List (List Nat)} {O : List oc4}
theorem mU_clear_ {h : ax_H} (u : Nat) (hu : u < 13) (hQ : ∀ h', frN (17 + 8 * u) h h' → unC h' (17 + 8 * u) [] [] [] [] [] [] → Q none h') : ax_wp kC d mU_clear 0 [some (.ref (17 + 8 * u))] [] h Q := by
  simp (disch := omega) only [sU_clear_0, sU_clear_1, sU_clear_2, sU_clear_5, sU_clear_6, sU_clear_7, sU_clear_10, sU_clear_11, sU_clear_12, sU_clear_15, sU_clear_16, sU_clear_17, sU_clear_20, sU_clear_21, sU_clear_22, sU_clear_25, sU_clear_26, sU_clear_27, sU_clear_30, ax_clr_i, ax_clr_l, ax_clr_r, ax_clr_n, ax_ct_0, ax_ct_i, ax_ct_l, ax_ct_r, va_rf_s, Option.toList_some, Option.toList_none, List.cons_append, List.nil_append, and_true, true_and, and_self, ite_true, ite_false, if_true, if_false, Nat.reduceAdd, Nat.reduceLeDiff, Nat.reduceMul, Nat.reduceLT, kdC_0, kdC_1, kdC_2, kdC_3, kdC_4, kdC_5, kdC_6, kdC_7, kdC_8, kdC_9, kdC_10, kdC_11, kdC_12, kdC_13, kdC_14, kdC_15, kdC_16, kdU_1, kdU_2, kdU_3, kdU_4, kdU_5, kdU_6, kdU_7, kdU_, kdR_1, kdR_2, kdR_3, kdR_4, kdR_5, kdR_, rC_00, rC_01, rC_02, rC_03, rC_04, rC_10, rC_16, rC_18, rC_19, rC_1a, rC_20, rC_22, rC_23, rC_24, rC_25, rC_26, rC_27, rC_28, rC_4, rC_10k, rC_u3, rC_u5, rC_u7, rC_u9, rC_ua, rC_ub, rC_uc, rC_r4, rC_r5, rC_r6, rC_r7, rC_r8, Nat.add_zero, lN_0]
  refine hQ _ ⟨rfl, fun a k q => ?_, fun a k q => ?_⟩ ?_
  · simp only [up_I, up_L1]; (repeat rw [if_neg (by omega)])
  · simp only [up_I2, up_L]; (repeat rw [if_neg (by omega)])
  · refine ⟨?_, ?_, ⟨?_, fun i hi => by simp at hi⟩, ⟨?_, fun i hi => by simp at hi⟩, ⟨?_, fun i hi => by simp at hi⟩, ⟨?_, by simp, fun i hi => by simp at hi⟩⟩
    · simp [up_I2, up_L, pL]
    · simp [up_I2, up_L, pL]
    · simp [up_I]
    · simp [up_I]
    · simp [up_I]
    · simp [up_I]
theorem mU_addInterface_ {h : ax_H} (hr : h.2.2 = rC o s x) (u : Nat) (hu : u < 13) (hn : unC h (17 + 8 * u) own sup I F M O) (hl : I.length < 3) (t : List Nat) (hQ : ∀ h', frN (17 + 8 * u) h h' → unC h' (17 + 8 * u) own sup (I ++ [t]) F M O → Q none h') : ax_wp kC d mU_addInterface 0 [some (.ref (17 + 8 * u)), some (.long (lN (pL t))), none] [] h Q := by
  obtain ⟨a1, a2, a3, a4, a5, a6⟩ := hn
  have b1 := a3.1
  simp (disch := omega) only [sU_addInterface_0, sU_addInterface_1, sU_addInterface_4, sU_addInterface_5, sU_addInterface_8, sU_addInterface_9, sU_addInterface_12, sU_addInterface_13, sU_addInterface_16, sU_addInterface_17, sU_addInterface_18, sU_addInterface_19, sU_addInterface_19r, sU_addInterface_20, sU_addInterface_23, sU_addInterface_24, sU_addInterface_25, sU_addInterface_28, ax_clr_i, ax_clr_l, ax_clr_r, ax_clr_n, ax_ct_0, ax_ct_i, ax_ct_l, ax_ct_r, va_rf_s, Option.toList_some, Option.toList_none, List.cons_append, List.nil_append, and_true, true_and, and_self, ite_true, ite_false, if_true, if_false, Nat.reduceAdd, Nat.reduceLeDiff, Nat.reduceMul, Nat.reduceLT, nI_add, pk_mul, nI_lt', nI_le', nI_eq', nI_lt0, nI_ge0, nI_eq0, nI_gt0, nI_le0, nI_ne_m1, m1_ne_nI, m1_lt_nI, m1_le_nI, nI_lt_m1, nI_le_m1, nI_clamp, ax_in_nI, nI_shl, nI_shr, lg_cmp0, nx_and, nI_eq1, bI_0, bI_1, bf_or, eq_self, or_true, true_or, lt_T, le_T, lt_F, le_F, eq_F, eq_T, kdC_0, kdC_1, kdC_2, kdC_3, kdC_4, kdC_5, kdC_6, kdC_7, kdC_8, kdC_9, kdC_10, kdC_11, kdC_12, kdC_13, kdC_14, kdC_15, kdC_16, kdU_1, kdU_2, kdU_3, kdU_4, kdU_5, kdU_6, kdU_7, kdU_, kdR_1, kdR_2, kdR_3, kdR_4, kdR_5, kdR_, rC_00, rC_01, rC_02, rC_03, rC_04, rC_10, rC_16, rC_18, rC_19, rC_1a, rC_20, rC_22, rC_23, rC_24, rC_25, rC_26, rC_27, rC_28, rC_4, rC_10k, rC_u3, rC_u5, rC_u7, rC_u9, rC_ua, rC_ub, rC_uc, rC_r4, rC_r5, rC_r6, rC_r7, rC_r8, Nat.add_zero, hr, b1, up_L1]
  refine hQ _ ⟨rfl, fun a k q => ?_, fun a k q => ?_⟩ ⟨?_, ?_, a3.app t, a4.keep ?_ (fun i => ?_), a5.keep ?_ (fun i => ?_), a6.keep ?_ (fun a i q => ?_) (fun a i q => ?_)⟩
  · simp only [up_I, up_L1]; (repeat rw [if_neg (by omega)])
  · simp only [up_I2, up_L]; (repeat rw [if_neg (by omega)])
  · simp only [up_I2, up_L]; (repeat rw [if_neg (by omega)]); exact a1
  · simp only [up_I2, up_L]; (repeat rw [if_neg (by omega)]); exact a2
  · simp only [up_I, up_L1]; (repeat rw [if_neg (by omega)])
  · simp only [up_I2, up_L]; (repeat rw [if_neg (by omega)])
  · simp only [up_I, up_L1]; (repeat rw [if_neg (by omega)])
  · simp only [up_I2, up_L]; (repeat rw [if_neg (by omega)])
  · simp only [up_I, up_L1]; (repeat rw [if_neg (by omega)])
  · simp only [up_I, up_L1]; (repeat rw [if_neg (by omega)])
  · simp only [up_I2, up_L]; (repeat rw [if_neg (by omega)])
theorem mU_addField_ {h : ax_H} (hr : h.2.2 = rC o s x) (u : Nat) (hu : u < 13) (hn : unC h (17 + 8 * u) own sup I F M O) (hl : F.length < 4) (t : List Nat) (hQ : ∀ h', frN (17 + 8 * u) h h' → unC h' (17 + 8 * u) own sup I (F ++ [t]) M O → Q none h') : ax_wp kC d mU_addField 0 [some (.ref (17 + 8 * u)), some (.long (lN (pL t))), none] [] h Q := by
  obtain ⟨a1, a2, a3, a4, a5, a6⟩ := hn
  have b1 := a4.1
  simp (disch := omega) only [sU_addField_0, sU_addField_1, sU_addField_4, sU_addField_5, sU_addField_8, sU_addField_9, sU_addField_12, sU_addField_13, sU_addField_16, sU_addField_17, sU_addField_18, sU_addField_19, sU_addField_19r, sU_addField_20, sU_addField_23, sU_addField_24, sU_addField_25, sU_addField_28, ax_clr_i, ax_clr_l, ax_clr_r, ax_clr_n, ax_ct_0, ax_ct_i, ax_ct_l, ax_ct_r, va_rf_s, Option.toList_some, Option.toList_none, List.cons_append, List.nil_append, and_true, true_and, and_self, ite_true, ite_false, if_true, if_false, Nat.reduceAdd, Nat.reduceLeDiff, Nat.reduceMul, Nat.reduceLT, nI_add, pk_mul, nI_lt', nI_le', nI_eq', nI_lt0, nI_ge0, nI_eq0, nI_gt0, nI_le0, nI_ne_m1, m1_ne_nI, m1_lt_nI, m1_le_nI, nI_lt_m1, nI_le_m1, nI_clamp, ax_in_nI, nI_shl, nI_shr, lg_cmp0, nx_and, nI_eq1, bI_0, bI_1, bf_or, eq_self, or_true, true_or, lt_T, le_T, lt_F, le_F, eq_F, eq_T, kdC_0, kdC_1, kdC_2, kdC_3, kdC_4, kdC_5, kdC_6, kdC_7, kdC_8, kdC_9, kdC_10, kdC_11, kdC_12, kdC_13, kdC_14, kdC_15, kdC_16, kdU_1, kdU_2, kdU_3, kdU_4, kdU_5, kdU_6, kdU_7, kdU_, kdR_1, kdR_2, kdR_3, kdR_4, kdR_5, kdR_, rC_00, rC_01, rC_02, rC_03, rC_04, rC_10, rC_16, rC_18, rC_19, rC_1a, rC_20, rC_22, rC_23, rC_24, rC_25, rC_26, rC_27, rC_28, rC_4, rC_10k, rC_u3, rC_u5, rC_u7, rC_u9, rC_ua, rC_ub, rC_uc, rC_r4, rC_r5, rC_r6, rC_r7, rC_r8, Nat.add_zero, hr, b1, up_L1]
  refine hQ _ ⟨rfl, fun a k q => ?_, fun a k q => ?_⟩ ⟨?_, ?_, a3.keep ?_ (fun i => ?_), a4.app t, a5.keep ?_ (fun i => ?_), a6.keep ?_ (fun a i q => ?_) (fun a i q => ?_)⟩
  · simp only [up_I, up_L1]; (repeat rw [if_neg (by omega)])
  · simp only [up_I2, up_L]; (repeat rw [if_neg (by omega)])
  · simp only [up_I2, up_L]; (repeat rw [if_neg (by omega)]); exact a1
  · simp only [up_I2, up_L]; (repeat rw [if_neg (by omega)]); exact a2
  · simp only [up_I, up_L1]; (repeat rw [if_neg (by omega)])
  · simp only [up_I2, up_L]; (repeat rw [if_neg (by omega)])
  · simp only [up_I, up_L1]; (repeat rw [if_neg (by omega)])
  · simp only [up_I2, up_L]; (repeat rw [if_neg (by omega)])
  · simp only [up_I, up_L1]; (repeat rw [if_neg (by omega)])
  · simp only [up_I, up_L1]; (repeat rw [if_neg (by omega)])
  · simp only [up_I2, up_L]; (repeat rw [if_neg (by omega)])
theorem mU_addMethod_ {h : ax_H} (hr : h.2.2 = rC o s x) (u : Nat) (hu : u < 13) (hn : unC h (17 + 8 * u) own sup I F M O) (hl : M.length < 4) (t : List Nat) (hQ : ∀ h', frN (17 + 8 * u) h h' → unC h' (17 + 8 * u) own sup I F (M ++ [t]) O → Q none h') : ax_wp kC d mU_addMethod 0 [some (.ref (17 + 8 * u)), some (.long (lN (pL t))), none] [] h Q := by
  obtain ⟨a1, a2, a3, a4, a5, a6⟩ := hn
  have b1 := a5.1
  simp (disch := omega) only [sU_addMethod_0, sU_addMethod_1, sU_addMethod_4, sU_addMethod_5, sU_addMethod_8, sU_addMethod_9, sU_addMethod_12, sU_addMethod_13, sU_addMethod_16, sU_addMethod_17, sU_addMethod_18, sU_addMethod_19, sU_addMethod_19r, sU_addMethod_20, sU_addMethod_23, sU_addMethod_24, sU_addMethod_25, sU_addMethod_28, ax_clr_i, ax_clr_l, ax_clr_r, ax_clr_n, ax_ct_0, ax_ct_i, ax_ct_l, ax_ct_r, va_rf_s, Option.toList_some, Option.toList_none, List.cons_append, List.nil_append, and_true, true_and, and_self, ite_true, ite_false, if_true, if_false, Nat.reduceAdd, Nat.reduceLeDiff, Nat.reduceMul, Nat.reduceLT, nI_add, pk_mul, nI_lt', nI_le', nI_eq', nI_lt0, nI_ge0, nI_eq0, nI_gt0, nI_le0, nI_ne_m1, m1_ne_nI, m1_lt_nI, m1_le_nI, nI_lt_m1, nI_le_m1, nI_clamp, ax_in_nI, nI_shl, nI_shr, lg_cmp0, nx_and, nI_eq1, bI_0, bI_1, bf_or, eq_self, or_true, true_or, lt_T, le_T, lt_F, le_F, eq_F, eq_T, kdC_0, kdC_1, kdC_2, kdC_3, kdC_4, kdC_5, kdC_6, kdC_7, kdC_8, kdC_9, kdC_10, kdC_11, kdC_12, kdC_13, kdC_14, kdC_15, kdC_16, kdU_1, kdU_2, kdU_3, kdU_4, kdU_5, kdU_6, kdU_7, kdU_, kdR_1, kdR_2, kdR_3, kdR_4, kdR_5, kdR_, rC_00, rC_01, rC_02, rC_03, rC_04, rC_10, rC_16, rC_18, rC_19, rC_1a, rC_20, rC_22, rC_23, rC_24, rC_25, rC_26, rC_27, rC_28, rC_4, rC_10k, rC_u3, rC_u5, rC_u7, rC_u9, rC_ua, rC_ub, rC_uc, rC_r4, rC_r5, rC_r6, rC_r7, rC_r8, Nat.add_zero, hr, b1, up_L1]
  refine hQ _ ⟨rfl, fun a k q => ?_, fun a k q => ?_⟩ ⟨?_, ?_, a3.keep ?_ (fun i => ?_), a4.keep ?_ (fun i => ?_), a5.app t, a6.keep ?_ (fun a i q => ?_) (fun a i q => ?_)⟩
  · simp only [up_I, up_L1]; (repeat rw [if_neg (by omega)])
  · simp only [up_I2, up_L]; (repeat rw [if_neg (by omega)])
  · simp only [up_I2, up_L]; (repeat rw [if_neg (by omega)]); exact a1
  · simp only [up_I2, up_L]; (repeat rw [if_neg (by omega)]); exact a2
  · simp only [up_I, up_L1]; (repeat rw [if_neg (by omega)])
  · simp only [up_I2, up_L]; (repeat rw [if_neg (by omega)])
  · simp only [up_I, up_L1]; (repeat rw [if_neg (by omega)])
  · simp only [up_I2, up_L]; (repeat rw [if_neg (by omega)])
  · simp only [up_I, up_L1]; (repeat rw [if_neg (by omega)])
  · simp only [up_I, up_L1]; (repeat rw [if_neg (by omega)])
  · simp only [up_I2, up_L]; (repeat rw [if_neg (by omega)])
theorem mU_addOccurrence_ {h : ax_H} (hr : h.2.2 = rC o s x) (u : Nat) (hu : u < 13) (hn : unC h (17 + 8 * u) own sup I F M O) (hl : O.length < 52) (k l : Nat) (t w : List Nat) (hQ : ∀ h', frN (17 + 8 * u) h h' → unC h' (17 + 8 * u) own sup I F M (O ++ [(k, l, t, w)]) → Q none h') : ax_wp kC d mU_addOccurrence 0 [some (.ref (17 + 8 * u)), some (.int (nI k)), some (.int (nI l)), some (.long (lN (pL t))), none, some (.long (lN (pL w))), none] [] h Q := by
  obtain ⟨a1, a2, a3, a4, a5, a6⟩ := hn
  have b1 := a6.1
  have z : ∀ j, j < 8 → 1 ≤ j → ¬ 17 + 8 * u = 17 + 8 * u + j := fun j _ _ => by omega
  have z4 : (17 + 8 * u = 17 + 8 * u + 4) = False := eq_false (by omega)
  have z5 : (17 + 8 * u = 17 + 8 * u + 5) = False := eq_false (by omega)
  simp (disch := omega) only [sU_addOccurrence_0, sU_addOccurrence_1, sU_addOccurrence_4, sU_addOccurrence_6, sU_addOccurrence_9, sU_addOccurrence_10, sU_addOccurrence_13, sU_addOccurrence_14, sU_addOccurrence_17, sU_addOccurrence_18, sU_addOccurrence_19, sU_addOccurrence_20, sU_addOccurrence_23, sU_addOccurrence_24, sU_addOccurrence_27, sU_addOccurrence_28, sU_addOccurrence_29, sU_addOccurrence_30, sU_addOccurrence_33, sU_addOccurrence_34, sU_addOccurrence_37, sU_addOccurrence_38, sU_addOccurrence_39, sU_addOccurrence_40, sU_addOccurrence_43, sU_addOccurrence_44, sU_addOccurrence_47, sU_addOccurrence_49, sU_addOccurrence_50, sU_addOccurrence_51, sU_addOccurrence_51r, sU_addOccurrence_52, sU_addOccurrence_55, sU_addOccurrence_56, sU_addOccurrence_57, sU_addOccurrence_60, ax_clr_i, ax_clr_l, ax_clr_r, ax_clr_n, ax_ct_0, ax_ct_i, ax_ct_l, ax_ct_r, va_rf_s, Option.toList_some, Option.toList_none, List.cons_append, List.nil_append, and_true, true_and, and_self, ite_true, ite_false, if_true, if_false, Nat.reduceAdd, Nat.reduceLeDiff, Nat.reduceMul, Nat.reduceLT, nI_add, pk_mul, nI_lt', nI_le', nI_eq', nI_lt0, nI_ge0, nI_eq0, nI_gt0, nI_le0, nI_ne_m1, m1_ne_nI, m1_lt_nI, m1_le_nI, nI_lt_m1, nI_le_m1, nI_clamp, ax_in_nI, nI_shl, nI_shr, lg_cmp0, nx_and, nI_eq1, bI_0, bI_1, bf_or, eq_self, or_true, true_or, lt_T, le_T, lt_F, le_F, eq_F, eq_T, kdC_0, kdC_1, kdC_2, kdC_3, kdC_4, kdC_5, kdC_6, kdC_7, kdC_8, kdC_9, kdC_10, kdC_11, kdC_12, kdC_13, kdC_14, kdC_15, kdC_16, kdU_1, kdU_2, kdU_3, kdU_4, kdU_5, kdU_6, kdU_7, kdU_, kdR_1, kdR_2, kdR_3, kdR_4, kdR_5, kdR_, rC_00, rC_01, rC_02, rC_03, rC_04, rC_10, rC_16, rC_18, rC_19, rC_1a, rC_20, rC_22, rC_23, rC_24, rC_25, rC_26, rC_27, rC_28, rC_4, rC_10k, rC_u3, rC_u5, rC_u7, rC_u9, rC_ua, rC_ub, rC_uc, rC_r4, rC_r5, rC_r6, rC_r7, rC_r8, Nat.add_zero, hr, b1, up_L1, up_L3, up_I, up_I2, false_and, and_false, if_false, z4, z5]
  refine hQ _ ⟨rfl, fun a k q => ?_, fun a k q => ?_⟩ ⟨?_, ?_, a3.keep ?_ (fun i => ?_), a4.keep ?_ (fun i => ?_), a5.keep ?_ (fun i => ?_), ?_, by simp; omega, fun i hi => ?_⟩
  · simp only [up_I, up_L1]; (repeat rw [if_neg (by omega)])
  · simp only [up_I2, up_L]; (repeat rw [if_neg (by omega)])
  · simp only [up_I2, up_L]; (repeat rw [if_neg (by omega)]); exact a1
  · simp only [up_I2, up_L]; (repeat rw [if_neg (by omega)]); exact a2
  · simp only [up_I, up_L1]; (repeat rw [if_neg (by omega)])
  · simp only [up_I2, up_L]; (repeat rw [if_neg (by omega)])
  · simp only [up_I, up_L1]; (repeat rw [if_neg (by omega)])
  · simp only [up_I2, up_L]; (repeat rw [if_neg (by omega)])
  · simp only [up_I, up_L1]; (repeat rw [if_neg (by omega)])
  · simp only [up_I2, up_L]; (repeat rw [if_neg (by omega)])
  · simp [up_I]
  · simp only [List.length_append, List.length_cons, List.length_nil] at hi
    rw [ocA_app (by omega)]
    simp only [up_I, up_I2, up_L, up_L1]
    by_cases e : i = O.length
    · simp [e]
    · have q := a6.2.2 i (by omega)
      simp [e, q]
theorem mU_hasField_l {h : ax_H} (hr : h.2.2 = rC o s x) (u : Nat) (hu : u < 13) (hn : lsT h (17 + 8 * u) 4 2 F) (hl : F.length ≤ 4) (hF : ∀ f ∈ F, vT f) (t : List Nat) (ht : vT t) : ∀ (m i : Nat), i + m = F.length → ax_wp kC d mU_hasField 2 [some (.ref (17 + 8 * u)), some (.long (lN (pL t))), none, some (.int (nI i))] [] h Q = Q (some (.int (bI ((F.drop i).any (fun f => decide (f = t)))))) h
  | 0, i, hi => by
    have b1 := hn.1
    rw [sU_hasField_2]
    simp (disch := omega) only [sU_hasField_0, sU_hasField_1, sU_hasField_3, sU_hasField_4, sU_hasField_7, sU_hasField_10, sU_hasField_11, sU_hasField_14, sU_hasField_15, sU_hasField_16, sU_hasField_17, sU_hasField_18, sU_hasField_21, sU_hasField_22, sU_hasField_23, sU_hasField_26, sU_hasField_29, sU_hasField_30, ax_clr_i, ax_clr_l, ax_clr_r, ax_clr_n, ax_ct_0, ax_ct_i, ax_ct_l, ax_ct_r, va_rf_s, Option.toList_some, Option.toList_none, List.cons_append, List.nil_append, and_true, true_and, and_self, ite_true, ite_false, if_true, if_false, Nat.reduceAdd, Nat.reduceLeDiff, Nat.reduceMul, Nat.reduceLT, nI_add, pk_mul, nI_lt', nI_le', nI_eq', nI_lt0, nI_ge0, nI_eq0, nI_gt0, nI_le0, nI_ne_m1, m1_ne_nI, m1_lt_nI, m1_le_nI, nI_lt_m1, nI_le_m1, nI_clamp, ax_in_nI, nI_shl, nI_shr, lg_cmp0, nx_and, nI_eq1, bI_0, bI_1, bf_or, eq_self, or_true, true_or, lt_T, le_T, lt_F, le_F, eq_F, eq_T, kdC_0, kdC_1, kdC_2, kdC_3, kdC_4, kdC_5, kdC_6, kdC_7, kdC_8, kdC_9, kdC_10, kdC_11, kdC_12, kdC_13, kdC_14, kdC_15, kdC_16, kdU_1, kdU_2, kdU_3, kdU_4, kdU_5, kdU_6, kdU_7, kdU_, kdR_1, kdR_2, kdR_3, kdR_4, kdR_5, kdR_, rC_00, rC_01, rC_02, rC_03, rC_04, rC_10, rC_16, rC_18, rC_19, rC_1a, rC_20, rC_22, rC_23, rC_24, rC_25, rC_26, rC_27, rC_28, rC_4, rC_10k, rC_u3, rC_u5, rC_u7, rC_u9, rC_ua, rC_ub, rC_uc, rC_r4, rC_r5, rC_r6, rC_r7, rC_r8, Nat.add_zero, b1]
    rw [List.drop_eq_nil_of_le (by omega)]; rfl
  | m + 1, i, hi => by
    have b1 := hn.1
    have b2 := hn.2 i (by omega)
    have hd : F.drop i = pA F i :: F.drop (i + 1) := by
      unfold pA
      rw [List.drop_eq_getElem_cons (by omega), List.getD_eq_getElem?_getD, List.getElem?_eq_getElem (by omega)]; rfl
    have hm : pA F i ∈ F := by unfold pA; rw [List.getD_eq_getElem?_getD, List.getElem?_eq_getElem (show i < F.length by omega)]; exact List.getElem_mem _
    have e0 : (lN (pL (pA F i)) = lN (pL t)) = (pA F i = t) := by
      rw [lN_eq' (by have := vT_p (hF _ hm); omega) (by have := vT_p ht; omega)]
      exact propext ⟨pL_inj _ _ (hF _ hm).2 ht.2, fun q => by rw [q]⟩
    rw [sU_hasField_2]
    simp (disch := omega) only [sU_hasField_0, sU_hasField_1, sU_hasField_3, sU_hasField_4, sU_hasField_7, sU_hasField_10, sU_hasField_11, sU_hasField_14, sU_hasField_15, sU_hasField_16, sU_hasField_17, sU_hasField_18, sU_hasField_21, sU_hasField_22, sU_hasField_23, sU_hasField_26, sU_hasField_29, sU_hasField_30, ax_clr_i, ax_clr_l, ax_clr_r, ax_clr_n, ax_ct_0, ax_ct_i, ax_ct_l, ax_ct_r, va_rf_s, Option.toList_some, Option.toList_none, List.cons_append, List.nil_append, and_true, true_and, and_self, ite_true, ite_false, if_true, if_false, Nat.reduceAdd, Nat.reduceLeDiff, Nat.reduceMul, Nat.reduceLT, nI_add, pk_mul, nI_lt', nI_le', nI_eq', nI_lt0, nI_ge0, nI_eq0, nI_gt0, nI_le0, nI_ne_m1, m1_ne_nI, m1_lt_nI, m1_le_nI, nI_lt_m1, nI_le_m1, nI_clamp, ax_in_nI, nI_shl, nI_shr, lg_cmp0, nx_and, nI_eq1, bI_0, bI_1, bf_or, eq_self, or_true, true_or, lt_T, le_T, lt_F, le_F, eq_F, eq_T, kdC_0, kdC_1, kdC_2, kdC_3, kdC_4, kdC_5, kdC_6, kdC_7, kdC_8, kdC_9, kdC_10, kdC_11, kdC_12, kdC_13, kdC_14, kdC_15, kdC_16, kdU_1, kdU_2, kdU_3, kdU_4, kdU_5, kdU_6, kdU_7, kdU_, kdR_1, kdR_2, kdR_3, kdR_4, kdR_5, kdR_, rC_00, rC_01, rC_02, rC_03, rC_04, rC_10, rC_16, rC_18, rC_19, rC_1a, rC_20, rC_22, rC_23, rC_24, rC_25, rC_26, rC_27, rC_28, rC_4, rC_10k, rC_u3, rC_u5, rC_u7, rC_u9, rC_ua, rC_ub, rC_uc, rC_r4, rC_r5, rC_r6, rC_r7, rC_r8, Nat.add_zero, hr, b1, b2, e0]
    rw [mU_hasField_l hr u hu hn hl hF t ht m (i + 1) (by omega), hd, List.any_cons]
    by_cases e : pA F i = t
    · rw [if_pos e]; simp [e, bI]
    · rw [if_neg e]; simp [e]
theorem mU_hasField_ {h : ax_H} (hr : h.2.2 = rC o s x) (u : Nat) (hu : u < 13) (hn : lsT h (17 + 8 * u) 4 2 F) (hl : F.length ≤ 4) (hF : ∀ f ∈ F, vT f) (t : List Nat) (ht : vT t) : ax_wp kC d mU_hasField 0 [some (.ref (17 + 8 * u)), some (.long (lN (pL t))), none, none] [] h Q = Q (some (.int (bI (F.any (fun f => decide (f = t)))))) h := by
  simp only [sU_hasField_0, sU_hasField_1, ax_clr_i, ax_clr_l, ax_clr_r, ax_clr_n, ax_ct_0, ax_ct_i, ax_ct_l, ax_ct_r, va_rf_s, Option.toList_some, Option.toList_none, List.cons_append, List.nil_append, and_true, true_and, and_self, ite_true, ite_false, if_true, if_false, Nat.reduceAdd, Nat.reduceLeDiff, Nat.reduceMul, Nat.reduceLT]
  exact mU_hasField_l hr u hu hn hl hF t ht F.length 0 (by omega)
theorem mU_hasMethod_l {h : ax_H} (hr : h.2.2 = rC o s x) (u : Nat) (hu : u < 13) (hn : lsT h (17 + 8 * u) 6 3 F) (hl : F.length ≤ 4) (hF : ∀ f ∈ F, vT f) (t : List Nat) (ht : vT t) : ∀ (m i : Nat), i + m = F.length → ax_wp kC d mU_hasMethod 2 [some (.ref (17 + 8 * u)), some (.long (lN (pL t))), none, some (.int (nI i))] [] h Q = Q (some (.int (bI ((F.drop i).any (fun f => decide (f = t)))))) h
  | 0, i, hi => by
    have b1 := hn.1
    rw [sU_hasMethod_2]
    simp (disch := omega) only [sU_hasMethod_0, sU_hasMethod_1, sU_hasMethod_3, sU_hasMethod_4, sU_hasMethod_7, sU_hasMethod_10, sU_hasMethod_11, sU_hasMethod_14, sU_hasMethod_15, sU_hasMethod_16, sU_hasMethod_17, sU_hasMethod_18, sU_hasMethod_21, sU_hasMethod_22, sU_hasMethod_23, sU_hasMethod_26, sU_hasMethod_29, sU_hasMethod_30, ax_clr_i, ax_clr_l, ax_clr_r, ax_clr_n, ax_ct_0, ax_ct_i, ax_ct_l, ax_ct_r, va_rf_s, Option.toList_some, Option.toList_none, List.cons_append, List.nil_append, and_true, true_and, and_self, ite_true, ite_false, if_true, if_false, Nat.reduceAdd, Nat.reduceLeDiff, Nat.reduceMul, Nat.reduceLT, nI_add, pk_mul, nI_lt', nI_le', nI_eq', nI_lt0, nI_ge0, nI_eq0, nI_gt0, nI_le0, nI_ne_m1, m1_ne_nI, m1_lt_nI, m1_le_nI, nI_lt_m1, nI_le_m1, nI_clamp, ax_in_nI, nI_shl, nI_shr, lg_cmp0, nx_and, nI_eq1, bI_0, bI_1, bf_or, eq_self, or_true, true_or, lt_T, le_T, lt_F, le_F, eq_F, eq_T, kdC_0, kdC_1, kdC_2, kdC_3, kdC_4, kdC_5, kdC_6, kdC_7, kdC_8, kdC_9, kdC_10, kdC_11, kdC_12, kdC_13, kdC_14, kdC_15, kdC_16, kdU_1, kdU_2, kdU_3, kdU_4, kdU_5, kdU_6, kdU_7, kdU_, kdR_1, kdR_2, kdR_3, kdR_4, kdR_5, kdR_, rC_00, rC_01, rC_02, rC_03, rC_04, rC_10, rC_16, rC_18, rC_19, rC_1a, rC_20, rC_22, rC_23, rC_24, rC_25, rC_26, rC_27, rC_28, rC_4, rC_10k, rC_u3, rC_u5, rC_u7, rC_u9, rC_ua, rC_ub, rC_uc, rC_r4, rC_r5, rC_r6, rC_r7, rC_r8, Nat.add_zero, b1]
    rw [List.drop_eq_nil_of_le (by omega)]; rfl
  | m + 1, i, hi => by
    have b1 := hn.1
    have b2 := hn.2 i (by omega)
    have hd : F.drop i = pA F i :: F.drop (i + 1) := by
      unfold pA
      rw [List.drop_eq_getElem_cons (by omega), List.getD_eq_getElem?_getD, List.getElem?_eq_getElem (by omega)]; rfl
    have hm : pA F i ∈ F := by unfold pA; rw [List.getD_eq_getElem?_getD, List.getElem?_eq_getElem (show i < F.length by omega)]; exact List.getElem_mem _
    have e0 : (lN (pL (pA F i)) = lN (pL t)) = (pA F i = t) := by
      rw [lN_eq' (by have := vT_p (hF _ hm); omega) (by have := vT_p ht; omega)]
      exact propext ⟨pL_inj _ _ (hF _ hm).2 ht.2, fun q => by rw [q]⟩
    rw [sU_hasMethod_2]
    simp (disch := omega) only [sU_hasMethod_0, sU_hasMethod_1, sU_hasMethod_3, sU_hasMethod_4, sU_hasMethod_7, sU_hasMethod_10, sU_hasMethod_11, sU_hasMethod_14, sU_hasMethod_15, sU_hasMethod_16, sU_hasMethod_17, sU_hasMethod_18, sU_hasMethod_21, sU_hasMethod_22, sU_hasMethod_23, sU_hasMethod_26, sU_hasMethod_29, sU_hasMethod_30, ax_clr_i, ax_clr_l, ax_clr_r, ax_clr_n, ax_ct_0, ax_ct_i, ax_ct_l, ax_ct_r, va_rf_s, Option.toList_some, Option.toList_none, List.cons_append, List.nil_append, and_true, true_and, and_self, ite_true, ite_false, if_true, if_false, Nat.reduceAdd, Nat.reduceLeDiff, Nat.reduceMul, Nat.reduceLT, nI_add, pk_mul, nI_lt', nI_le', nI_eq', nI_lt0, nI_ge0, nI_eq0, nI_gt0, nI_le0, nI_ne_m1, m1_ne_nI, m1_lt_nI, m1_le_nI, nI_lt_m1, nI_le_m1, nI_clamp, ax_in_nI, nI_shl, nI_shr, lg_cmp0, nx_and, nI_eq1, bI_0, bI_1, bf_or, eq_self, or_true, true_or, lt_T, le_T, lt_F, le_F, eq_F, eq_T, kdC_0, kdC_1, kdC_2, kdC_3, kdC_4, kdC_5, kdC_6, kdC_7, kdC_8, kdC_9, kdC_10, kdC_11, kdC_12, kdC_13, kdC_14, kdC_15, kdC_16, kdU_1, kdU_2, kdU_3, kdU_4, kdU_5, kdU_6, kdU_7, kdU_, kdR_1, kdR_2, kdR_3, kdR_4, kdR_5, kdR_, rC_00, rC_01, rC_02, rC_03, rC_04, rC_10, rC_16, rC_18, rC_19, rC_1a, rC_20, rC_22, rC_23, rC_24, rC_25, rC_26, rC_27, rC_28, rC_4, rC_10k, rC_u3, rC_u5, rC_u7, rC_u9, rC_ua, rC_ub, rC_uc, rC_r4, rC_r5, rC_r6, rC_r7, rC_r8, Nat.add_zero, hr, b1, b2, e0]
    rw [mU_hasMethod_l hr u hu hn hl hF t ht m (i + 1) (by omega), hd, List.any_cons]
    by_cases e : pA F i = t
    · rw [if_pos e]; simp [e, bI]
    · rw [if_neg e]; simp [e]
theorem mU_hasMethod_ {h : ax_H} (hr : h.2.2 = rC o s x) (u : Nat) (hu : u < 13) (hn : lsT h (17 + 8 * u) 6 3 F) (hl : F.length ≤ 4) (hF : ∀ f ∈ F, vT f) (t : List Nat) (ht : vT t) : ax_wp kC d mU_hasMethod 0 [some (.ref (17 + 8 * u)), some (.long (lN (pL t))), none, none] [] h Q = Q (some (.int (bI (F.any (fun f => decide (f = t)))))) h := by
  simp only [sU_hasMethod_0, sU_hasMethod_1, ax_clr_i, ax_clr_l, ax_clr_r, ax_clr_n, ax_ct_0, ax_ct_i, ax_ct_l, ax_ct_r, va_rf_s, Option.toList_some, Option.toList_none, List.cons_append, List.nil_append, and_true, true_and, and_self, ite_true, ite_false, if_true, if_false, Nat.reduceAdd, Nat.reduceLeDiff, Nat.reduceMul, Nat.reduceLT]
  exact mU_hasMethod_l hr u hu hn hl hF t ht F.length 0 (by omega)
end UN
