/-! the model: cycles among slices -/
def frC (h h' : ax_H) : Prop := h'.2.2 = h.2.2 ∧ (∀ r k, ¬ (r = 0 ∧ k = 17) → ¬ r = 13 → ¬ r = 14 → ¬ (22 ≤ r ∧ r ≤ 24) → h'.1 r k = h.1 r k) ∧ ∀ r k, ¬ r = 15 → ¬ r = 16 → h'.2.1 r k = h.2.1 r k
theorem frC.rf {h : ax_H} : frC h h := ⟨rfl, fun _ _ _ _ _ _ => rfl, fun _ _ _ _ => rfl⟩
theorem frC.tr {h h' h2 : ax_H} (a : frC h h') (b : frC h' h2) : frC h h2 := ⟨b.1.trans a.1, fun r k h1 h3 h4 h5 => (b.2.1 r k h1 h3 h4 h5).trans (a.2.1 r k h1 h3 h4 h5), fun r k h1 h3 => (b.2.2 r k h1 h3).trans (a.2.2 r k h1 h3)⟩
theorem frO.c {h h' : ax_H} (f : frO h h') : frC h h' := ⟨f.1, fun r k h1 h2 h3 _ => f.2.1 r k h1 h2 h3, f.2.2⟩
theorem frL.c {h h' : ax_H} (f : frL h h') : frC h h' := ⟨by rw [f.1], fun r k h1 h2 h3 h4 => f.2 r k (by omega), fun r k _ _ => by rw [f.1]⟩
theorem frX.c {h h' : ax_H} (f : frX h h') : frC h h' := ⟨by rw [f.1], fun r k h1 h2 h3 h4 => f.2 r k (by omega) (by omega), fun r k _ _ => by rw [f.1]⟩
theorem frW.c {h h' : ax_H} (f : frW h h') : frC h h' := f.x.c
theorem frC.a {h h' : ax_H} (f : frC h h') : frA h h' := ⟨f.1, fun r k h1 => f.2.1 r k (by omega) (by omega) (by omega) (by omega), fun r k h1 => f.2.2 r k (by omega) (by omega)⟩
theorem wayM.frL {h h' : ax_H} {w : Nat → Bool} (hw : wayM h w) (f : frL h h') : wayM h' w := fun k hk => by rw [f.2 _ _ (by omega)]; exact hw k hk
theorem wayM.frO {h h' : ax_H} {w : Nat → Bool} (hw : wayM h w) (f : frO h h') : wayM h' w := fun k hk => by rw [f.2.1 _ _ (by omega) (by omega) (by omega)]; exact hw k hk
def fshM (h : ax_H) (L : List Nat) : Prop := h.1 0 27 = nI L.length ∧ L.length ≤ 640 ∧ ∀ i, i < L.length → h.1 21 i = nI (bg L i)
theorem fshM.c {h h' : ax_H} {L : List Nat} (hf : fshM h L) (f : frC h h') : fshM h' L := ⟨by rw [f.2.1 _ _ (by omega) (by omega) (by omega) (by omega)]; exact hf.1, hf.2.1, fun i hi => by rw [f.2.1 _ _ (by omega) (by omega) (by omega) (by omega)]; exact hf.2.2 i hi⟩
/-- the slice that an occurrence leads to -/
def sTo (us : List (List Nat)) (w c i : Nat) : Option Nat := match ixOf us (oOf us c i).2.2.1 with
  | none => none
  | some m => lsU us w m
def e1S (us : List (List Nat)) (w c r i : Nat) : Bool := decide (sTo us w c i = some r) && !decide (lsU us w c = some r)
def eS (us : List (List Nat)) (w c r n : Nat) : Bool := (List.range n).any (fun i => e1S us w c r i)
def wS (us : List (List Nat)) (w k j : Nat) : Bool := (List.range k).any (fun c => decide (lsU us w c = some (j / 12)) && eS us w c (j % 12) (ocU (uAt us c)).length)
theorem eS_succ (us : List (List Nat)) (w c r n : Nat) : eS us w c r (n + 1) = (eS us w c r n || e1S us w c r n) := by
  unfold eS; rw [List.range_succ, List.any_append]; simp
theorem wS_succ (us : List (List Nat)) (w k j : Nat) : wS us w (k + 1) j = (wS us w k j || (decide (lsU us w k = some (j / 12)) && eS us w k (j % 12) (ocU (uAt us k)).length)) := by
  unfold wS; rw [List.range_succ, List.any_append]; simp
def cyF (w : Nat → Bool) : Nat → Nat → List Nat → List Nat
  | 0, _, L => L
  | m + 1, c, L => cyF w m (c + 1) (if w (13 * c) = true then L ++ [64 * c + 63] else L)
def cyL (us : List (List Nat)) (w : Nat) : List Nat := cyF (clN (wS us w us.length) 12) 12 0 []
/-- frames of the fresh list -/
def frF (h h' : ax_H) : Prop := h'.2 = h.2 ∧ ∀ r k, ¬ (r = 0 ∧ k = 27) → ¬ r = 21 → h'.1 r k = h.1 r k
theorem frF.rf {h : ax_H} : frF h h := ⟨rfl, fun _ _ _ _ => rfl⟩
theorem frF.tr {h h' h2 : ax_H} (a : frF h h') (b : frF h' h2) : frF h h2 := ⟨b.1.trans a.1, fun r k h1 h3 => (b.2 r k h1 h3).trans (a.2 r k h1 h3)⟩
theorem frF.a {h h' : ax_H} (f : frF h h') : frA h h' := ⟨by rw [f.1], fun r k h1 => f.2 r k (by omega) (by omega), fun r k h1 => by rw [f.1]⟩
theorem wayM.frF {h h' : ax_H} {w : Nat → Bool} (hw : wayM h w) (f : frF h h') : wayM h' w := fun k hk => by rw [f.2 _ _ (by omega) (by omega)]; exact hw k hk
theorem fshM.app {h : ax_H} {L : List Nat} (hf : fshM h L) (x : Nat) (hl : L.length < 640) : fshM (ax_upI (ax_upI h 21 L.length (nI x)) 0 27 (nI (L.length + 1))) (L ++ [x]) ∧ frF h (ax_upI (ax_upI h 21 L.length (nI x)) 0 27 (nI (L.length + 1))) := by
  refine ⟨⟨by simp [up_I], by simp; omega, fun i hi => ?_⟩, rfl, fun r k h1 h2 => by simp only [up_I]; rw [if_neg h1, if_neg (fun q => h2 q.1)]⟩
  simp only [List.length_append, List.length_cons, List.length_nil] at hi
  rw [bg_app (by omega)]
  simp only [up_I]
  rw [if_neg (by omega)]
  by_cases e : i = L.length
  · rw [if_pos ⟨trivial, e⟩, if_pos e]
  · rw [if_neg (fun q => e q.2), if_neg e]; exact hf.2.2 i (by omega)
section MC
variable {d : Nat} {Q : Option Value → ax_H → Prop} {us : List (List Nat)}
theorem mQ_cycles_f (w : Nat → Bool) (y1 : Int32) (x3 x4 x5 x6 : Option Value) : ∀ (q c : Nat) (h : ax_H) (L : List Nat), c + q = 12 → L.length ≤ c → h.2.2 = rM → wayM h w → fshM h L → (∀ h', frF h h' → fshM h' (cyF w q c L) → Q none h') → ax_wp kM d mQ_cycles 133 [some (.ref 0), some (.int y1), some (.int (nI c)), x3, x4, x5, x6] [] h Q
  | 0, c, h, L, hq, hl, hr, hw, hf, hQ => by
    rw [sQ_cycles_133]
    simp (disch := omega) only [sQ_cycles_134, sQ_cycles_136, sQ_cycles_183, ax_clr_i, ax_clr_l, ax_clr_r, ax_clr_n, ax_ct_0, ax_ct_i, ax_ct_l, ax_ct_r, va_rf_s, Option.toList_some, Option.toList_none, List.cons_append, List.nil_append, and_true, true_and, and_self, ite_true, ite_false, if_true, if_false, Nat.reduceAdd, Nat.reduceLeDiff, Nat.reduceMul, Nat.reduceLT, nI_add, pk_mul, nI_lt', nI_le', nI_eq', nI_lt0, nI_ge0, nI_eq0, nI_gt0, nI_le0, nI_ne_m1, m1_ne_nI, m1_lt_nI, m1_le_nI, nI_lt_m1, nI_le_m1, nI_clamp, ax_in_nI, nI_shl, nI_shr, lg_cmp0, nx_and, nI_eq1, bI_0, bI_1, bf_or, eq_self, or_true, true_or, lt_T, le_T, lt_F, le_F, eq_F, eq_T]
    exact hQ h frF.rf hf
  | q + 1, c, h, L, hq, hl, hr, hw, hf, hQ => by
    have w1 := hw (13 * c) (by omega)
    have f1 := hf.1
    unfold cyF at hQ
    rw [sQ_cycles_133]
    simp (disch := omega) only [sQ_cycles_134, sQ_cycles_136, sQ_cycles_139, sQ_cycles_140, sQ_cycles_143, sQ_cycles_145, sQ_cycles_146, sQ_cycles_147, sQ_cycles_148, ax_clr_i, ax_clr_l, ax_clr_r, ax_clr_n, ax_ct_0, ax_ct_i, ax_ct_l, ax_ct_r, va_rf_s, Option.toList_some, Option.toList_none, List.cons_append, List.nil_append, and_true, true_and, and_self, ite_true, ite_false, if_true, if_false, Nat.reduceAdd, Nat.reduceLeDiff, Nat.reduceMul, Nat.reduceLT, nI_add, pk_mul, nI_lt', nI_le', nI_eq', nI_lt0, nI_ge0, nI_eq0, nI_gt0, nI_le0, nI_ne_m1, m1_ne_nI, m1_lt_nI, m1_le_nI, nI_lt_m1, nI_le_m1, nI_clamp, ax_in_nI, nI_shl, nI_shr, lg_cmp0, nx_and, nI_eq1, bI_0, bI_1, bf_or, eq_self, or_true, true_or, lt_T, le_T, lt_F, le_F, eq_F, eq_T, kdM_0, kdM_1, kdM_2, kdM_3, kdM_4, kdM_5, kdM_6, kdM_7, kdM_8, kdM_9, kdM_10, kdM_11, kdM_12, kdM_13, kdM_14, kdM_15, kdM_16, kdM_17, kdM_18, kdM_19, kdM_20, kdM_21, kdM_22, kdM_23, kdM_24, rM_0, rM_1, rM_5, rM_6, rM_7, rM_10, rM_11, rM_12, rM_13, rM_14, rM_15, rM_16, rM_18, rM_19, rM_20, rM_21, rM_23, rM_24, rM_25, rM_26, rM_28, rM_29, rM_30, rM_31, hr, w1]
    by_cases e : w (13 * c) = true
    · rw [if_pos e] at hQ
      simp (disch := omega) only [sQ_cycles_151, sQ_cycles_152, sQ_cycles_155, sQ_cycles_156, sQ_cycles_159, sQ_cycles_161, sQ_cycles_162, sQ_cycles_163, sQ_cycles_165, sQ_cycles_166, sQ_cycles_167, sQ_cycles_168, sQ_cycles_168r, sQ_cycles_169, sQ_cycles_172, sQ_cycles_173, sQ_cycles_174, sQ_cycles_177, sQ_cycles_180, ax_clr_i, ax_clr_l, ax_clr_r, ax_clr_n, ax_ct_0, ax_ct_i, ax_ct_l, ax_ct_r, va_rf_s, Option.toList_some, Option.toList_none, List.cons_append, List.nil_append, and_true, true_and, and_self, ite_true, ite_false, if_true, if_false, Nat.reduceAdd, Nat.reduceLeDiff, Nat.reduceMul, Nat.reduceLT, nI_add, pk_mul, nI_lt', nI_le', nI_eq', nI_lt0, nI_ge0, nI_eq0, nI_gt0, nI_le0, nI_ne_m1, m1_ne_nI, m1_lt_nI, m1_le_nI, nI_lt_m1, nI_le_m1, nI_clamp, ax_in_nI, nI_shl, nI_shr, lg_cmp0, nx_and, nI_eq1, bI_0, bI_1, bf_or, eq_self, or_true, true_or, lt_T, le_T, lt_F, le_F, eq_F, eq_T, kdM_0, kdM_1, kdM_2, kdM_3, kdM_4, kdM_5, kdM_6, kdM_7, kdM_8, kdM_9, kdM_10, kdM_11, kdM_12, kdM_13, kdM_14, kdM_15, kdM_16, kdM_17, kdM_18, kdM_19, kdM_20, kdM_21, kdM_22, kdM_23, kdM_24, rM_0, rM_1, rM_5, rM_6, rM_7, rM_10, rM_11, rM_12, rM_13, rM_14, rM_15, rM_16, rM_18, rM_19, rM_20, rM_21, rM_23, rM_24, rM_25, rM_26, rM_28, rM_29, rM_30, rM_31, hr, e, f1, up_I, up_I2, Nat.reduceEqDiff, and_false, false_and, reduceIte, Bool.true_eq_false]
      obtain ⟨g1, g2⟩ := hf.app (64 * c + 63) (by omega)
      exact mQ_cycles_f w y1 x3 x4 x5 x6 q (c + 1) _ _ (by omega) (by simp; omega) (by rw [g2.1]; exact hr) (hw.frF g2) g1 (fun h' f o => hQ h' (g2.tr f) o)
    · rw [if_neg e] at hQ
      simp (disch := omega) only [sQ_cycles_177, sQ_cycles_180, ax_clr_i, ax_clr_l, ax_clr_r, ax_clr_n, ax_ct_0, ax_ct_i, ax_ct_l, ax_ct_r, va_rf_s, Option.toList_some, Option.toList_none, List.cons_append, List.nil_append, and_true, true_and, and_self, ite_true, ite_false, if_true, if_false, Nat.reduceAdd, Nat.reduceLeDiff, Nat.reduceMul, Nat.reduceLT, nI_add, pk_mul, nI_lt', nI_le', nI_eq', nI_lt0, nI_ge0, nI_eq0, nI_gt0, nI_le0, nI_ne_m1, m1_ne_nI, m1_lt_nI, m1_le_nI, nI_lt_m1, nI_le_m1, nI_clamp, ax_in_nI, nI_shl, nI_shr, lg_cmp0, nx_and, nI_eq1, bI_0, bI_1, bf_or, eq_self, or_true, true_or, lt_T, le_T, lt_F, le_F, eq_F, eq_T, bI_c e]
      exact mQ_cycles_f w y1 x3 x4 x5 x6 q (c + 1) h L (by omega) (by omega) hr hw hf hQ
theorem mQ_cycles_z (y1 : Int32) : ∀ (q k : Nat) (h : ax_H), k + q = 144 → h.2.2 = rM → (∀ j, j < k → h.1 24 j = bI false) → (∀ h', frW h h' → wayM h' (fun _ => false) → ax_wp kM d mQ_cycles 22 [some (.ref 0), some (.int y1), some (.int (nI 144)), none, none, none, none] [] h' Q) → ax_wp kM d mQ_cycles 2 [some (.ref 0), some (.int y1), some (.int (nI k)), none, none, none, none] [] h Q
  | 0, k, h, hk, hr, hw, hQ => by
    have e : k = 144 := by omega
    subst e
    rw [sQ_cycles_2]
    simp (disch := omega) only [sQ_cycles_3, sQ_cycles_6, sQ_cycles_9, sQ_cycles_10, sQ_cycles_13, sQ_cycles_14, sQ_cycles_15, sQ_cycles_16, sQ_cycles_19, ax_clr_i, ax_clr_l, ax_clr_r, ax_clr_n, ax_ct_0, ax_ct_i, ax_ct_l, ax_ct_r, va_rf_s, Option.toList_some, Option.toList_none, List.cons_append, List.nil_append, and_true, true_and, and_self, ite_true, ite_false, if_true, if_false, Nat.reduceAdd, Nat.reduceLeDiff, Nat.reduceMul, Nat.reduceLT, nI_add, pk_mul, nI_lt', nI_le', nI_eq', nI_lt0, nI_ge0, nI_eq0, nI_gt0, nI_le0, nI_ne_m1, m1_ne_nI, m1_lt_nI, m1_le_nI, nI_lt_m1, nI_le_m1, nI_clamp, ax_in_nI, nI_shl, nI_shr, lg_cmp0, nx_and, nI_eq1, bI_0, bI_1, bf_or, eq_self, or_true, true_or, lt_T, le_T, lt_F, le_F, eq_F, eq_T]
    exact hQ h frW.rf hw
  | q + 1, k, h, hk, hr, hw, hQ => by
    rw [sQ_cycles_2]
    simp (disch := omega) only [sQ_cycles_3, sQ_cycles_6, sQ_cycles_9, sQ_cycles_10, sQ_cycles_13, sQ_cycles_14, sQ_cycles_15, sQ_cycles_16, sQ_cycles_19, ax_clr_i, ax_clr_l, ax_clr_r, ax_clr_n, ax_ct_0, ax_ct_i, ax_ct_l, ax_ct_r, va_rf_s, Option.toList_some, Option.toList_none, List.cons_append, List.nil_append, and_true, true_and, and_self, ite_true, ite_false, if_true, if_false, Nat.reduceAdd, Nat.reduceLeDiff, Nat.reduceMul, Nat.reduceLT, nI_add, pk_mul, nI_lt', nI_le', nI_eq', nI_lt0, nI_ge0, nI_eq0, nI_gt0, nI_le0, nI_ne_m1, m1_ne_nI, m1_lt_nI, m1_le_nI, nI_lt_m1, nI_le_m1, nI_clamp, ax_in_nI, nI_shl, nI_shr, lg_cmp0, nx_and, nI_eq1, bI_0, bI_1, bf_or, eq_self, or_true, true_or, lt_T, le_T, lt_F, le_F, eq_F, eq_T, kdM_0, kdM_1, kdM_2, kdM_3, kdM_4, kdM_5, kdM_6, kdM_7, kdM_8, kdM_9, kdM_10, kdM_11, kdM_12, kdM_13, kdM_14, kdM_15, kdM_16, kdM_17, kdM_18, kdM_19, kdM_20, kdM_21, kdM_22, kdM_23, kdM_24, rM_0, rM_1, rM_5, rM_6, rM_7, rM_10, rM_11, rM_12, rM_13, rM_14, rM_15, rM_16, rM_18, rM_19, rM_20, rM_21, rM_23, rM_24, rM_25, rM_26, rM_28, rM_29, rM_30, rM_31, hr, nar_0]
    refine mQ_cycles_z y1 q (k + 1) _ (by omega) hr (fun j hj => ?_) (fun h' f o => hQ h' (frW.up.tr f) o)
    rw [up_I]
    by_cases e : j = k
    · simp [e]
    · simp [e]; exact hw j (by omega)
theorem mQ_cycles_i (w c fr : Nat) (hw1 : 1 ≤ w) (hw2 : w < 100) (hcl : c < us.length) (hfr : lsU us w c = some fr) : ∀ (q i : Nat) (h : ax_H) (x5 x6 : Option Value), i + q = (ocU (uAt us c)).length → clsM h us → ocM h (ocU (uAt us c)) → wayM h (fun j => wS us w c j || (decide (lsU us w c = some (j / 12)) && eS us w c (j % 12) i)) → (∀ h' x4 x5 x6, frC h h' → wayM h' (fun j => wS us w (c + 1) j) → ax_wp kM (d + 6) mQ_cycles 121 [some (.ref 0), some (.int (nI w)), some (.int (nI c)), some (.int (nI fr)), x4, x5, x6] [] h' Q) → ax_wp kM (d + 6) mQ_cycles 47 [some (.ref 0), some (.int (nI w)), some (.int (nI c)), some (.int (nI fr)), some (.int (nI i)), x5, x6] [] h Q
  | 0, i, h, x5, x6, hi, hc, ho, hwy, hQ => by
    have hl := (ocU_v (hc.2.2.2.2 c hcl).2).2
    have o1 := ho.1
    rw [sQ_cycles_47]
    simp (disch := omega) only [sQ_cycles_49, sQ_cycles_50, sQ_cycles_53, ax_clr_i, ax_clr_l, ax_clr_r, ax_clr_n, ax_ct_0, ax_ct_i, ax_ct_l, ax_ct_r, va_rf_s, Option.toList_some, Option.toList_none, List.cons_append, List.nil_append, and_true, true_and, and_self, ite_true, ite_false, if_true, if_false, Nat.reduceAdd, Nat.reduceLeDiff, Nat.reduceMul, Nat.reduceLT, nI_add, pk_mul, nI_lt', nI_le', nI_eq', nI_lt0, nI_ge0, nI_eq0, nI_gt0, nI_le0, nI_ne_m1, m1_ne_nI, m1_lt_nI, m1_le_nI, nI_lt_m1, nI_le_m1, nI_clamp, ax_in_nI, nI_shl, nI_shr, lg_cmp0, nx_and, nI_eq1, bI_0, bI_1, bf_or, eq_self, or_true, true_or, lt_T, le_T, lt_F, le_F, eq_F, eq_T, kdM_0, kdM_1, kdM_2, kdM_3, kdM_4, kdM_5, kdM_6, kdM_7, kdM_8, kdM_9, kdM_10, kdM_11, kdM_12, kdM_13, kdM_14, kdM_15, kdM_16, kdM_17, kdM_18, kdM_19, kdM_20, kdM_21, kdM_22, kdM_23, kdM_24, rM_0, rM_1, rM_5, rM_6, rM_7, rM_10, rM_11, rM_12, rM_13, rM_14, rM_15, rM_16, rM_18, rM_19, rM_20, rM_21, rM_23, rM_24, rM_25, rM_26, rM_28, rM_29, rM_30, rM_31, o1]
    refine hQ h _ _ _ frC.rf (fun j hj => ?_)
    rw [hwy j hj]
    dsimp only
    rw [wS_succ, show i = (ocU (uAt us c)).length by omega]
  | q + 1, i, h, x5, x6, hi, hc, ho, hwy, hQ => by
    have h12 := hc.2.2.1
    have hr := hc.1
    have hl := (ocU_v (hc.2.2.2.2 c hcl).2).2
    have hv := ocA_v (hc.2.2.2.2 c hcl).2 (show i < (ocU (uAt us c)).length by omega)
    have o1 := ho.1
    have o2 := (ho.2.2 i (by omega)).2.2.1
    have hfl := (lsU_some hfr).1
    have keep : ∀ h1, frL h h1 → sTo us w c i = none ∨ sTo us w c i = some fr → ∀ x5 x6, ax_wp kM (d + 6) mQ_cycles 47 [some (.ref 0), some (.int (nI w)), some (.int (nI c)), some (.int (nI fr)), some (.int (nI (i + 1))), x5, x6] [] h1 Q := fun h1 f1 hto x5 x6 => by
      refine mQ_cycles_i w c fr hw1 hw2 hcl hfr q (i + 1) h1 x5 x6 (by omega) (hc.frL f1) (ho.frL f1) (fun j hj => ?_) (fun h' x4 x5 x6 f o => hQ h' x4 x5 x6 (f1.c.tr f) o)
      rw [hwy.frL f1 j hj]
      dsimp only
      rw [eS_succ]
      have : e1S us w c (j % 12) i = false := by
        unfold e1S
        rcases hto with q | q
        · rw [q]; simp
        · rw [q, hfr]; simp
      rw [this, Bool.or_false]
    rw [sQ_cycles_47]
    simp (disch := omega) only [sQ_cycles_49, sQ_cycles_50, sQ_cycles_53, sQ_cycles_56, sQ_cycles_57, sQ_cycles_60, sQ_cycles_61, sQ_cycles_62, sQ_cycles_65, sQ_cycles_67, sQ_cycles_68, ax_clr_i, ax_clr_l, ax_clr_r, ax_clr_n, ax_ct_0, ax_ct_i, ax_ct_l, ax_ct_r, va_rf_s, Option.toList_some, Option.toList_none, List.cons_append, List.nil_append, and_true, true_and, and_self, ite_true, ite_false, if_true, if_false, Nat.reduceAdd, Nat.reduceLeDiff, Nat.reduceMul, Nat.reduceLT, nI_add, pk_mul, nI_lt', nI_le', nI_eq', nI_lt0, nI_ge0, nI_eq0, nI_gt0, nI_le0, nI_ne_m1, m1_ne_nI, m1_lt_nI, m1_le_nI, nI_lt_m1, nI_le_m1, nI_clamp, ax_in_nI, nI_shl, nI_shr, lg_cmp0, nx_and, nI_eq1, bI_0, bI_1, bf_or, eq_self, or_true, true_or, lt_T, le_T, lt_F, le_F, eq_F, eq_T, kdM_0, kdM_1, kdM_2, kdM_3, kdM_4, kdM_5, kdM_6, kdM_7, kdM_8, kdM_9, kdM_10, kdM_11, kdM_12, kdM_13, kdM_14, kdM_15, kdM_16, kdM_17, kdM_18, kdM_19, kdM_20, kdM_21, kdM_22, kdM_23, kdM_24, rM_0, rM_1, rM_5, rM_6, rM_7, rM_10, rM_11, rM_12, rM_13, rM_14, rM_15, rM_16, rM_18, rM_19, rM_20, rM_21, rM_23, rM_24, rM_25, rM_26, rM_28, rM_29, rM_30, rM_31, hr, o1, o2, mQ_indexOf_ hc _ hv.2.1]
    cases hx : ixOf us (ocA (ocU (uAt us c)) i).2.2.1 with
    | none =>
      rw [oI_n]
      simp (disch := omega) only [sQ_cycles_71, sQ_cycles_73, sQ_cycles_75, sQ_cycles_78, sQ_cycles_79, sQ_cycles_82, sQ_cycles_83, sQ_cycles_85, sQ_cycles_86, sQ_cycles_89, sQ_cycles_91, sQ_cycles_93, sQ_cycles_115, sQ_cycles_118, ax_clr_i, ax_clr_l, ax_clr_r, ax_clr_n, ax_ct_0, ax_ct_i, ax_ct_l, ax_ct_r, va_rf_s, Option.toList_some, Option.toList_none, List.cons_append, List.nil_append, and_true, true_and, and_self, ite_true, ite_false, if_true, if_false, Nat.reduceAdd, Nat.reduceLeDiff, Nat.reduceMul, Nat.reduceLT, nI_add, pk_mul, nI_lt', nI_le', nI_eq', nI_lt0, nI_ge0, nI_eq0, nI_gt0, nI_le0, nI_ne_m1, m1_ne_nI, m1_lt_nI, m1_le_nI, nI_lt_m1, nI_le_m1, nI_clamp, ax_in_nI, nI_shl, nI_shr, lg_cmp0, nx_and, nI_eq1, bI_0, bI_1, bf_or, eq_self, or_true, true_or]
      rw [if_neg (by decide), if_pos (by decide)]
      exact keep h frL.rf (Or.inl (by unfold sTo oOf; rw [hx])) _ _
    | some m =>
      have hml := (ixOf_some hx).1
      rw [oI_s]
      simp (disch := omega) only [sQ_cycles_71, sQ_cycles_73, sQ_cycles_75, sQ_cycles_78, sQ_cycles_79, sQ_cycles_82, sQ_cycles_83, sQ_cycles_85, sQ_cycles_86, ax_clr_i, ax_clr_l, ax_clr_r, ax_clr_n, ax_ct_0, ax_ct_i, ax_ct_l, ax_ct_r, va_rf_s, Option.toList_some, Option.toList_none, List.cons_append, List.nil_append, and_true, true_and, and_self, ite_true, ite_false, if_true, if_false, Nat.reduceAdd, Nat.reduceLeDiff, Nat.reduceMul, Nat.reduceLT, nI_add, pk_mul, nI_lt', nI_le', nI_eq', nI_lt0, nI_ge0, nI_eq0, nI_gt0, nI_le0, nI_ne_m1, m1_ne_nI, m1_lt_nI, m1_le_nI, nI_lt_m1, nI_le_m1, nI_clamp, ax_in_nI, nI_shl, nI_shr, lg_cmp0, nx_and, nI_eq1, bI_0, bI_1, bf_or, eq_self, or_true, true_or, kdM_0, kdM_1, kdM_2, kdM_3, kdM_4, kdM_5, kdM_6, kdM_7, kdM_8, kdM_9, kdM_10, kdM_11, kdM_12, kdM_13, kdM_14, kdM_15, kdM_16, kdM_17, kdM_18, kdM_19, kdM_20, kdM_21, kdM_22, kdM_23, kdM_24, rM_0, rM_1, rM_5, rM_6, rM_7, rM_10, rM_11, rM_12, rM_13, rM_14, rM_15, rM_16, rM_18, rM_19, rM_20, rM_21, rM_23, rM_24, rM_25, rM_26, rM_28, rM_29, rM_30, rM_31]
      refine mQ_least_ hc w m hw2 hw1 hml (fun h1 f1 => ?_)
      have hto : sTo us w c i = lsU us w m := by unfold sTo oOf; rw [hx]
      cases ht : lsU us w m with
      | none =>
        rw [oI_n]
        simp (disch := omega) only [sQ_cycles_89, sQ_cycles_91, sQ_cycles_93, sQ_cycles_115, sQ_cycles_118, ax_clr_i, ax_clr_l, ax_clr_r, ax_clr_n, ax_ct_0, ax_ct_i, ax_ct_l, ax_ct_r, va_rf_s, Option.toList_some, Option.toList_none, List.cons_append, List.nil_append, and_true, true_and, and_self, ite_true, ite_false, if_true, if_false, Nat.reduceAdd, Nat.reduceLeDiff, Nat.reduceMul, Nat.reduceLT, nI_add, pk_mul, nI_lt', nI_le', nI_eq', nI_lt0, nI_ge0, nI_eq0, nI_gt0, nI_le0, nI_ne_m1, m1_ne_nI, m1_lt_nI, m1_le_nI, nI_lt_m1, nI_le_m1, nI_clamp, ax_in_nI, nI_shl, nI_shr, lg_cmp0, nx_and, nI_eq1, bI_0, bI_1, bf_or, eq_self, or_true, true_or]
        rw [if_pos (by decide)]
        exact keep h1 f1 (Or.inl (by rw [hto, ht])) _ _
      | some to =>
        have htl := (lsU_some ht).1
        rw [oI_s]
        simp (disch := omega) only [sQ_cycles_89, sQ_cycles_91, sQ_cycles_93, sQ_cycles_96, sQ_cycles_98, sQ_cycles_99, ax_clr_i, ax_clr_l, ax_clr_r, ax_clr_n, ax_ct_0, ax_ct_i, ax_ct_l, ax_ct_r, va_rf_s, Option.toList_some, Option.toList_none, List.cons_append, List.nil_append, and_true, true_and, and_self, ite_true, ite_false, if_true, if_false, Nat.reduceAdd, Nat.reduceLeDiff, Nat.reduceMul, Nat.reduceLT, nI_add, pk_mul, nI_lt', nI_le', nI_eq', nI_lt0, nI_ge0, nI_eq0, nI_gt0, nI_le0, nI_ne_m1, m1_ne_nI, m1_lt_nI, m1_le_nI, nI_lt_m1, nI_le_m1, nI_clamp, ax_in_nI, nI_shl, nI_shr, lg_cmp0, nx_and, nI_eq1, bI_0, bI_1, bf_or, eq_self, or_true, true_or]
        by_cases e : to = fr
        · rw [if_pos e]
          simp (disch := omega) only [sQ_cycles_115, sQ_cycles_118, ax_clr_i, ax_clr_l, ax_clr_r, ax_clr_n, ax_ct_0, ax_ct_i, ax_ct_l, ax_ct_r, va_rf_s, Option.toList_some, Option.toList_none, List.cons_append, List.nil_append, and_true, true_and, and_self, ite_true, ite_false, if_true, if_false, Nat.reduceAdd, Nat.reduceLeDiff, Nat.reduceMul, Nat.reduceLT, nI_add, pk_mul, nI_lt', nI_le', nI_eq', nI_lt0, nI_ge0, nI_eq0, nI_gt0, nI_le0, nI_ne_m1, m1_ne_nI, m1_lt_nI, m1_le_nI, nI_lt_m1, nI_le_m1, nI_clamp, ax_in_nI, nI_shl, nI_shr, lg_cmp0, nx_and, nI_eq1, bI_0, bI_1, bf_or, eq_self, or_true, true_or]
          exact keep h1 f1 (Or.inr (by rw [hto, ht, e])) _ _
        · rw [if_neg e]
          have hr1 : h1.2.2 = rM := by rw [f1.1]; exact hr
          simp (disch := omega) only [sQ_cycles_102, sQ_cycles_103, sQ_cycles_106, sQ_cycles_108, sQ_cycles_109, sQ_cycles_110, sQ_cycles_112, sQ_cycles_113, sQ_cycles_114, sQ_cycles_115, sQ_cycles_118, ax_clr_i, ax_clr_l, ax_clr_r, ax_clr_n, ax_ct_0, ax_ct_i, ax_ct_l, ax_ct_r, va_rf_s, Option.toList_some, Option.toList_none, List.cons_append, List.nil_append, and_true, true_and, and_self, ite_true, ite_false, if_true, if_false, Nat.reduceAdd, Nat.reduceLeDiff, Nat.reduceMul, Nat.reduceLT, nI_add, pk_mul, nI_lt', nI_le', nI_eq', nI_lt0, nI_ge0, nI_eq0, nI_gt0, nI_le0, nI_ne_m1, m1_ne_nI, m1_lt_nI, m1_le_nI, nI_lt_m1, nI_le_m1, nI_clamp, ax_in_nI, nI_shl, nI_shr, lg_cmp0, nx_and, nI_eq1, bI_0, bI_1, bf_or, eq_self, or_true, true_or, lt_T, le_T, lt_F, le_F, eq_F, eq_T, kdM_0, kdM_1, kdM_2, kdM_3, kdM_4, kdM_5, kdM_6, kdM_7, kdM_8, kdM_9, kdM_10, kdM_11, kdM_12, kdM_13, kdM_14, kdM_15, kdM_16, kdM_17, kdM_18, kdM_19, kdM_20, kdM_21, kdM_22, kdM_23, kdM_24, rM_0, rM_1, rM_5, rM_6, rM_7, rM_10, rM_11, rM_12, rM_13, rM_14, rM_15, rM_16, rM_18, rM_19, rM_20, rM_21, rM_23, rM_24, rM_25, rM_26, rM_28, rM_29, rM_30, rM_31, hr1, nar_1]
          refine mQ_cycles_i w c fr hw1 hw2 hcl hfr q (i + 1) _ _ _ (by omega) ((hc.frL f1).frW frW.up) ((ho.frL f1).frW frW.up) (fun j hj => ?_) (fun h' x4 x5 x6 f o => hQ h' x4 x5 x6 ((f1.c.tr frW.up.c).tr f) o)
          rw [(hwy.frL f1).up (12 * fr + to) true j hj]
          dsimp only
          rw [eS_succ]
          congr 1
          unfold e1S
          rw [hto, ht, hfr]
          by_cases e1 : j = 12 * fr + to
          · have e2 : j / 12 = fr := by omega
            have e3 : j % 12 = to := by omega
            have e4 : ¬ fr = to := fun q => e q.symm
            rw [if_pos e1, e2, e3]; simp [e4]
          · rw [if_neg e1]
            by_cases e2 : fr = j / 12
            · have e3 : ¬ to = j % 12 := by omega
              simp [e2, e3]
            · simp [e2]
theorem mQ_cycles_c (w : Nat) (hw1 : 1 ≤ w) (hw2 : w < 100) (L : List Nat) : ∀ (q c : Nat) (h : ax_H) (x3 x4 x5 x6 : Option Value), c + q = us.length → clsM h us → fshM h L → wayM h (wS us w c) → (∀ h' x3 x4 x5 x6, frC h h' → wayM h' (wS us w us.length) → ax_wp kM (d + 6) mQ_cycles 127 [some (.ref 0), some (.int (nI w)), some (.int (nI us.length)), x3, x4, x5, x6] [] h' Q) → ax_wp kM (d + 6) mQ_cycles 24 [some (.ref 0), some (.int (nI w)), some (.int (nI c)), x3, x4, x5, x6] [] h Q
  | 0, c, h, x3, x4, x5, x6, hq, hc, hf, hw, hQ => by
    have h12 := hc.2.2.1
    have hn := hc.2.1
    have e : c = us.length := by omega
    subst e
    rw [sQ_cycles_24]
    simp (disch := omega) only [sQ_cycles_25, sQ_cycles_26, sQ_cycles_29, ax_clr_i, ax_clr_l, ax_clr_r, ax_clr_n, ax_ct_0, ax_ct_i, ax_ct_l, ax_ct_r, va_rf_s, Option.toList_some, Option.toList_none, List.cons_append, List.nil_append, and_true, true_and, and_self, ite_true, ite_false, if_true, if_false, Nat.reduceAdd, Nat.reduceLeDiff, Nat.reduceMul, Nat.reduceLT, nI_add, pk_mul, nI_lt', nI_le', nI_eq', nI_lt0, nI_ge0, nI_eq0, nI_gt0, nI_le0, nI_ne_m1, m1_ne_nI, m1_lt_nI, m1_le_nI, nI_lt_m1, nI_le_m1, nI_clamp, ax_in_nI, nI_shl, nI_shr, lg_cmp0, nx_and, nI_eq1, bI_0, bI_1, bf_or, eq_self, or_true, true_or, lt_T, le_T, lt_F, le_F, eq_F, eq_T, kdM_0, kdM_1, kdM_2, kdM_3, kdM_4, kdM_5, kdM_6, kdM_7, kdM_8, kdM_9, kdM_10, kdM_11, kdM_12, kdM_13, kdM_14, kdM_15, kdM_16, kdM_17, kdM_18, kdM_19, kdM_20, kdM_21, kdM_22, kdM_23, kdM_24, rM_0, rM_1, rM_5, rM_6, rM_7, rM_10, rM_11, rM_12, rM_13, rM_14, rM_15, rM_16, rM_18, rM_19, rM_20, rM_21, rM_23, rM_24, rM_25, rM_26, rM_28, rM_29, rM_30, rM_31, hn]
    exact hQ h _ _ _ _ frC.rf hw
  | q + 1, c, h, x3, x4, x5, x6, hq, hc, hf, hw, hQ => by
    have h12 := hc.2.2.1
    have hn := hc.2.1
    rw [sQ_cycles_24]
    simp (disch := omega) only [sQ_cycles_25, sQ_cycles_26, sQ_cycles_29, sQ_cycles_32, sQ_cycles_33, sQ_cycles_34, sQ_cycles_35, ax_clr_i, ax_clr_l, ax_clr_r, ax_clr_n, ax_ct_0, ax_ct_i, ax_ct_l, ax_ct_r, va_rf_s, Option.toList_some, Option.toList_none, List.cons_append, List.nil_append, and_true, true_and, and_self, ite_true, ite_false, if_true, if_false, Nat.reduceAdd, Nat.reduceLeDiff, Nat.reduceMul, Nat.reduceLT, nI_add, pk_mul, nI_lt', nI_le', nI_eq', nI_lt0, nI_ge0, nI_eq0, nI_gt0, nI_le0, nI_ne_m1, m1_ne_nI, m1_lt_nI, m1_le_nI, nI_lt_m1, nI_le_m1, nI_clamp, ax_in_nI, nI_shl, nI_shr, lg_cmp0, nx_and, nI_eq1, bI_0, bI_1, bf_or, eq_self, or_true, true_or, lt_T, le_T, lt_F, le_F, eq_F, eq_T, kdM_0, kdM_1, kdM_2, kdM_3, kdM_4, kdM_5, kdM_6, kdM_7, kdM_8, kdM_9, kdM_10, kdM_11, kdM_12, kdM_13, kdM_14, kdM_15, kdM_16, kdM_17, kdM_18, kdM_19, kdM_20, kdM_21, kdM_22, kdM_23, kdM_24, rM_0, rM_1, rM_5, rM_6, rM_7, rM_10, rM_11, rM_12, rM_13, rM_14, rM_15, rM_16, rM_18, rM_19, rM_20, rM_21, rM_23, rM_24, rM_25, rM_26, rM_28, rM_29, rM_30, rM_31, hn]
    refine mQ_least_ hc w c hw2 hw1 (by omega) (fun h1 f1 => ?_)
    have hc1 := hc.frL f1
    simp (disch := omega) only [sQ_cycles_38, sQ_cycles_39, sQ_cycles_40, sQ_cycles_41, ax_clr_i, ax_clr_l, ax_clr_r, ax_clr_n, ax_ct_0, ax_ct_i, ax_ct_l, ax_ct_r, va_rf_s, Option.toList_some, Option.toList_none, List.cons_append, List.nil_append, and_true, true_and, and_self, ite_true, ite_false, if_true, if_false, Nat.reduceAdd, Nat.reduceLeDiff, Nat.reduceMul, Nat.reduceLT, kdM_0, kdM_1, kdM_2, kdM_3, kdM_4, kdM_5, kdM_6, kdM_7, kdM_8, kdM_9, kdM_10, kdM_11, kdM_12, kdM_13, kdM_14, kdM_15, kdM_16, kdM_17, kdM_18, kdM_19, kdM_20, kdM_21, kdM_22, kdM_23, kdM_24, rM_0, rM_1, rM_5, rM_6, rM_7, rM_10, rM_11, rM_12, rM_13, rM_14, rM_15, rM_16, rM_18, rM_19, rM_20, rM_21, rM_23, rM_24, rM_25, rM_26, rM_28, rM_29, rM_30, rM_31]
    refine mQ_list_ (hc1.2.2.2.2 c (by omega)).1 (by omega) (hc1.2.2.2.2 c (by omega)).2 (fun h2 f2 o2 => ?_)
    have hc2 := hc1.frO f2
    have hwy := (hw.frL f1).frO f2
    simp (disch := omega) only [sQ_cycles_44, sQ_cycles_45, ax_clr_i, ax_clr_l, ax_clr_r, ax_clr_n, ax_ct_0, ax_ct_i, ax_ct_l, ax_ct_r, va_rf_s, Option.toList_some, Option.toList_none, List.cons_append, List.nil_append, and_true, true_and, and_self, ite_true, ite_false, if_true, if_false, Nat.reduceAdd, Nat.reduceLeDiff, Nat.reduceMul, Nat.reduceLT]
    have nxt : ∀ h3 x3 x4 x5 x6, frC h2 h3 → wayM h3 (fun j => wS us w (c + 1) j) → ax_wp kM (d + 6) mQ_cycles 121 [some (.ref 0), some (.int (nI w)), some (.int (nI c)), x3, x4, x5, x6] [] h3 Q := fun h3 x3 x4 x5 x6 f3 o3 => by
      simp (disch := omega) only [sQ_cycles_121, sQ_cycles_124, ax_clr_i, ax_clr_l, ax_clr_r, ax_clr_n, ax_ct_0, ax_ct_i, ax_ct_l, ax_ct_r, va_rf_s, Option.toList_some, Option.toList_none, List.cons_append, List.nil_append, and_true, true_and, and_self, ite_true, ite_false, if_true, if_false, Nat.reduceAdd, Nat.reduceLeDiff, Nat.reduceMul, Nat.reduceLT, nI_add]
      have f9 := (f1.c.tr f2.c).tr f3
      exact mQ_cycles_c w hw1 hw2 L q (c + 1) h3 _ _ _ _ (by omega) (hc.a f9.a) (hf.c f9) o3 (fun h' x3 x4 x5 x6 f o => hQ h' x3 x4 x5 x6 (f9.tr f) o)
    cases hfr : lsU us w c with
    | none =>
      have o1 := o2.1
      have hl := (ocU_v (hc.2.2.2.2 c (by omega)).2).2
      rw [oI_n]
      have fin := nxt h2 (some (.int (-1))) (some (.int (nI 0))) x5 x6 frC.rf (fun j hj => by rw [hwy j hj]; dsimp only; rw [wS_succ, hfr]; simp)
      rw [sQ_cycles_47]
      simp (disch := omega) only [sQ_cycles_49, sQ_cycles_50, sQ_cycles_53, sQ_cycles_56, sQ_cycles_57, ax_clr_i, ax_clr_l, ax_clr_r, ax_clr_n, ax_ct_0, ax_ct_i, ax_ct_l, ax_ct_r, va_rf_s, Option.toList_some, Option.toList_none, List.cons_append, List.nil_append, and_true, true_and, and_self, ite_true, ite_false, if_true, if_false, Nat.reduceAdd, Nat.reduceLeDiff, Nat.reduceMul, Nat.reduceLT, nI_add, pk_mul, nI_lt', nI_le', nI_eq', nI_lt0, nI_ge0, nI_eq0, nI_gt0, nI_le0, nI_ne_m1, m1_ne_nI, m1_lt_nI, m1_le_nI, nI_lt_m1, nI_le_m1, nI_clamp, ax_in_nI, nI_shl, nI_shr, lg_cmp0, nx_and, nI_eq1, bI_0, bI_1, bf_or, eq_self, or_true, true_or, kdM_0, kdM_1, kdM_2, kdM_3, kdM_4, kdM_5, kdM_6, kdM_7, kdM_8, kdM_9, kdM_10, kdM_11, kdM_12, kdM_13, kdM_14, kdM_15, kdM_16, kdM_17, kdM_18, kdM_19, kdM_20, kdM_21, kdM_22, kdM_23, kdM_24, rM_0, rM_1, rM_5, rM_6, rM_7, rM_10, rM_11, rM_12, rM_13, rM_14, rM_15, rM_16, rM_18, rM_19, rM_20, rM_21, rM_23, rM_24, rM_25, rM_26, rM_28, rM_29, rM_30, rM_31, o1]
      rw [if_pos (show (-1 : Int32) < 0 by decide), ite_self]
      exact fin
    | some fr =>
      rw [oI_s]
      refine mQ_cycles_i w c fr hw1 hw2 (by omega) hfr (ocU (uAt us c)).length 0 h2 _ _ (by omega) hc2 o2 (fun j hj => ?_) (fun h3 x4 x5 x6 f3 o3 => nxt h3 _ _ _ _ f3 o3)
      rw [hwy j hj]; simp [eS]
theorem mQ_cycles_ {h : ax_H} (hc : clsM h us) (hf : fshM h []) (w : Nat) (hw1 : 1 ≤ w) (hw2 : w < 100) (hQ : ∀ h', frA h h' → fshM h' (cyL us w) → Q none h') : ax_wp kM (d + 6) mQ_cycles 0 [some (.ref 0), some (.int (nI w)), none, none, none, none, none] [] h Q := by
  simp (disch := omega) only [sQ_cycles_0, sQ_cycles_1, ax_clr_i, ax_clr_l, ax_clr_r, ax_clr_n, ax_ct_0, ax_ct_i, ax_ct_l, ax_ct_r, va_rf_s, Option.toList_some, Option.toList_none, List.cons_append, List.nil_append, and_true, true_and, and_self, ite_true, ite_false, if_true, if_false, Nat.reduceAdd, Nat.reduceLeDiff, Nat.reduceMul, Nat.reduceLT]
  refine mQ_cycles_z _ 144 0 h (by omega) hc.1 (fun j hj => absurd hj (by omega)) (fun h1 f1 o1 => ?_)
  simp (disch := omega) only [sQ_cycles_22, sQ_cycles_23, ax_clr_i, ax_clr_l, ax_clr_r, ax_clr_n, ax_ct_0, ax_ct_i, ax_ct_l, ax_ct_r, va_rf_s, Option.toList_some, Option.toList_none, List.cons_append, List.nil_append, and_true, true_and, and_self, ite_true, ite_false, if_true, if_false, Nat.reduceAdd, Nat.reduceLeDiff, Nat.reduceMul, Nat.reduceLT]
  refine mQ_cycles_c w hw1 hw2 [] us.length 0 h1 _ _ _ _ (by omega) (hc.frW f1) (hf.c f1.c) (fun j hj => by rw [o1 j hj]; simp [wS]) (fun h2 x3 x4 x5 x6 f2 o2 => ?_)
  have f12 := f1.c.tr f2
  simp (disch := omega) only [sQ_cycles_127, sQ_cycles_128, ax_clr_i, ax_clr_l, ax_clr_r, ax_clr_n, ax_ct_0, ax_ct_i, ax_ct_l, ax_ct_r, va_rf_s, Option.toList_some, Option.toList_none, List.cons_append, List.nil_append, and_true, true_and, and_self, ite_true, ite_false, if_true, if_false, Nat.reduceAdd, Nat.reduceLeDiff, Nat.reduceMul, Nat.reduceLT, kdM_0, kdM_1, kdM_2, kdM_3, kdM_4, kdM_5, kdM_6, kdM_7, kdM_8, kdM_9, kdM_10, kdM_11, kdM_12, kdM_13, kdM_14, kdM_15, kdM_16, kdM_17, kdM_18, kdM_19, kdM_20, kdM_21, kdM_22, kdM_23, kdM_24, rM_0, rM_1, rM_5, rM_6, rM_7, rM_10, rM_11, rM_12, rM_13, rM_14, rM_15, rM_16, rM_18, rM_19, rM_20, rM_21, rM_23, rM_24, rM_25, rM_26, rM_28, rM_29, rM_30, rM_31]
  refine mQ_close_ (by rw [f12.1]; exact hc.1) _ o2 (fun h3 f3 o3 => ?_)
  simp (disch := omega) only [sQ_cycles_131, sQ_cycles_132, ax_clr_i, ax_clr_l, ax_clr_r, ax_clr_n, ax_ct_0, ax_ct_i, ax_ct_l, ax_ct_r, va_rf_s, Option.toList_some, Option.toList_none, List.cons_append, List.nil_append, and_true, true_and, and_self, ite_true, ite_false, if_true, if_false, Nat.reduceAdd, Nat.reduceLeDiff, Nat.reduceMul, Nat.reduceLT]
  have f13 := f12.tr f3.c
  exact mQ_cycles_f _ _ _ _ _ _ 12 0 h3 [] (by omega) (by simp) (by rw [f13.1]; exact hc.1) o3 (hf.c f13) (fun h4 f4 o4 => hQ h4 (f13.a.tr f4.a) o4)
end MC
