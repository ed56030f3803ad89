/-! the model: gathering violations -/
def gI (us ps : List (List Nat)) (x : rl4) (c : Nat) : Nat → Nat → List (Nat × Nat)
  | 0, _ => []
  | m + 1, i => (if vioU us ps x c i = true then [(c, i)] else []) ++ gI us ps x c m (i + 1)
def gC (us ps : List (List Nat)) (x : rl4) : Nat → Nat → List (Nat × Nat)
  | 0, _ => []
  | m + 1, c => gI us ps x c (ocU (uAt us c)).length 0 ++ gC us ps x m (c + 1)
def gaU (us ps : List (List Nat)) (x : rl4) : List (Nat × Nat) := gC us ps x us.length 0
def vA (V : List (Nat × Nat)) (j : Nat) : Nat × Nat := V.getD j (0, 0)
theorem vA_app {V : List (Nat × Nat)} {x : Nat × Nat} {i : Nat} (hi : i < V.length + 1) : vA (V ++ [x]) i = if i = V.length then x else vA V i := by
  unfold vA
  rw [List.getD_eq_getElem?_getD, List.getD_eq_getElem?_getD]
  by_cases e : i = V.length
  · subst e; simp
  · rw [if_neg e, List.getElem?_append_left (by omega)]
theorem gI_v (us ps : List (List Nat)) (x : rl4) (c : Nat) : ∀ (m i : Nat), (gI us ps x c m i).length ≤ m ∧ ∀ v ∈ gI us ps x c m i, v.1 = c ∧ i ≤ v.2 ∧ v.2 < i + m
  | 0, i => ⟨by simp [gI], fun v hv => by simp [gI] at hv⟩
  | m + 1, i => by
    obtain ⟨a1, a2⟩ := gI_v us ps x c m (i + 1)
    unfold gI
    refine ⟨?_, fun v hv => ?_⟩
    · rw [List.length_append]
      by_cases e : vioU us ps x c i = true
      · rw [if_pos e]; simp; omega
      · rw [if_neg e]; simp; omega
    · rcases List.mem_append.mp hv with q | q
      · by_cases e : vioU us ps x c i = true
        · rw [if_pos e] at q; simp at q; subst q; exact ⟨rfl, by show i ≤ i; omega, by show i < i + (m + 1); omega⟩
        · rw [if_neg e] at q; cases q
      · have := a2 v q; exact ⟨this.1, by omega, by omega⟩
theorem gC_v (us ps : List (List Nat)) (x : rl4) (hk : ∀ c, c < us.length → okU (uAt us c)) : ∀ (m c : Nat), c + m ≤ us.length → (gC us ps x m c).length ≤ 52 * m ∧ ∀ v ∈ gC us ps x m c, v.1 < us.length ∧ v.2 < (ocU (uAt us v.1)).length
  | 0, c, h => ⟨by simp [gC], fun v hv => by simp [gC] at hv⟩
  | m + 1, c, h => by
    obtain ⟨a1, a2⟩ := gC_v us ps x hk m (c + 1) (by omega)
    obtain ⟨b1, b2⟩ := gI_v us ps x c (ocU (uAt us c)).length 0
    have l := (ocU_v (hk c (by omega))).2
    unfold gC
    refine ⟨by rw [List.length_append]; omega, fun v hv => ?_⟩
    rcases List.mem_append.mp hv with q | q
    · have := b2 v q; rw [this.1]; exact ⟨by omega, by omega⟩
    · exact a2 v q
def vM (us : List (List Nat)) (h : ax_H) (V : List (Nat × Nat)) : Prop := h.1 0 22 = nI V.length ∧ V.length ≤ 624 ∧ ∀ j, j < V.length → h.1 17 j = nI (16 * (vA V j).1 + (oOf us (vA V j).1 (vA V j).2).1) ∧ h.1 18 j = nI (64 * (vA V j).1 + (vA V j).2) ∧ h.2.1 19 j = lN (pB (oOf us (vA V j).1 (vA V j).2).2.2.1) ∧ h.2.1 20 j = lN (pB (oOf us (vA V j).1 (vA V j).2).2.2.2)
theorem vM.c {us : List (List Nat)} {h h' : ax_H} {V : List (Nat × Nat)} (hv : vM us h V) (f : frC h h') : vM us h' V := by
  refine ⟨by rw [f.2.1 _ _ (by omega) (by omega) (by omega) (by omega)]; exact hv.1, hv.2.1, fun j hj => ?_⟩
  rw [f.2.1 _ _ (by omega) (by omega) (by omega) (by omega), f.2.1 _ _ (by omega) (by omega) (by omega) (by omega), f.2.2 _ _ (by omega) (by omega), f.2.2 _ _ (by omega) (by omega)]
  exact hv.2.2 j hj
def frG (h h' : ax_H) : Prop := h'.2.2 = h.2.2 ∧ (∀ r k, ¬ (r = 0 ∧ (k = 17 ∨ k = 22)) → ¬ r = 13 → ¬ r = 14 → ¬ r = 17 → ¬ r = 18 → ¬ (22 ≤ r ∧ r ≤ 24) → h'.1 r k = h.1 r k) ∧ ∀ r k, ¬ r = 15 → ¬ r = 16 → ¬ r = 19 → ¬ r = 20 → h'.2.1 r k = h.2.1 r k
theorem frG.rf {h : ax_H} : frG h h := ⟨rfl, fun _ _ _ _ _ _ _ _ => rfl, fun _ _ _ _ _ _ => rfl⟩
theorem frG.tr {h h' h2 : ax_H} (a : frG h h') (b : frG h' h2) : frG h h2 := ⟨b.1.trans a.1, fun r k h1 h3 h4 h5 h6 h7 => (b.2.1 r k h1 h3 h4 h5 h6 h7).trans (a.2.1 r k h1 h3 h4 h5 h6 h7), fun r k h1 h3 h4 h5 => (b.2.2 r k h1 h3 h4 h5).trans (a.2.2 r k h1 h3 h4 h5)⟩
theorem frC.g {h h' : ax_H} (f : frC h h') : frG h h' := ⟨f.1, fun r k h1 h2 h3 _ _ h4 => f.2.1 r k (by omega) h2 h3 h4, fun r k h1 h2 _ _ => f.2.2 r k h1 h2⟩
theorem frG.a {h h' : ax_H} (f : frG h h') : frA h h' := ⟨f.1, fun r k h1 => f.2.1 r k (by omega) (by omega) (by omega) (by omega) (by omega) (by omega), fun r k h1 => f.2.2 r k (by omega) (by omega) (by omega) (by omega)⟩
theorem fshM.g {h h' : ax_H} {L : List Nat} (hf : fshM h L) (f : frG h h') : fshM h' L := ⟨by rw [f.2.1 _ _ (by omega) (by omega) (by omega) (by omega) (by omega) (by omega)]; exact hf.1, hf.2.1, fun i hi => by rw [f.2.1 _ _ (by omega) (by omega) (by omega) (by omega) (by omega) (by omega)]; exact hf.2.2 i hi⟩
/-- one violation more -/
def vPu (h : ax_H) (n : Nat) (a b : Int32) (x y : Int64) : ax_H := ax_upI (ax_upL (ax_upL (ax_upI (ax_upI h 17 n a) 18 n b) 19 n x) 20 n y) 0 22 (nI (n + 1))
theorem vPu_g (h : ax_H) (n : Nat) (a b : Int32) (x y : Int64) : frG h (vPu h n a b x y) := by
  refine ⟨rfl, fun r k h1 h2 h3 h4 h5 h6 => ?_, fun r k h1 h2 h3 h4 => ?_⟩
  · unfold vPu; simp only [up_I, up_L1]; rw [if_neg (by omega), if_neg (by omega), if_neg (by omega)]
  · unfold vPu; simp only [up_L, up_I2]; rw [if_neg (by omega), if_neg (by omega)]
theorem vM.app {us : List (List Nat)} {h : ax_H} {V : List (Nat × Nat)} (hv : vM us h V) (c i : Nat) (hl : V.length < 624) : vM us (vPu h V.length (nI (16 * c + (oOf us c i).1)) (nI (64 * c + i)) (lN (pB (oOf us c i).2.2.1)) (lN (pB (oOf us c i).2.2.2))) (V ++ [(c, i)]) := by
  refine ⟨by unfold vPu; simp [up_I], by simp; omega, fun j hj => ?_⟩
  simp only [List.length_append, List.length_cons, List.length_nil] at hj
  rw [vA_app (by omega)]
  unfold vPu
  simp only [up_I, up_L, up_L1, up_I2, Nat.reduceEqDiff, false_and, if_false, true_and]
  by_cases e : j = V.length
  · simp only [if_pos e]; exact ⟨trivial, trivial, trivial, trivial⟩
  · simp only [if_neg e]; exact hv.2.2 j (by omega)
theorem ocM.vp {h : ax_H} {L : List oc4} (ho : ocM h L) (n : Nat) (a b : Int32) (x y : Int64) : ocM (vPu h n a b x y) L := by
  obtain ⟨a1, a2, a3⟩ := ho
  refine ⟨by unfold vPu; simp only [up_I, up_L1]; rw [if_neg (by omega), if_neg (by omega), if_neg (by omega)]; exact a1, a2, fun i hi => ?_⟩
  unfold vPu
  simp only [up_I, up_L, up_L1, up_I2, Nat.reduceEqDiff, false_and, if_false]
  exact a3 i hi
section MV
variable {d : Nat} {Q : Option Value → ax_H → Prop} {us ps : List (List Nat)} {ty : List Nat} {rs : List rl4}
theorem mQ_gather_i (r c : Nat) (hrl : r < rs.length) (hk2 : (rA rs r).1 ≤ 2) (hcl : c < us.length) : ∀ (q i : Nat) (h : ax_H) (V : List (Nat × Nat)), i + q = (ocU (uAt us c)).length → clsM h us → patM h ps ty → rulM h ps.length rs → ocM h (ocU (uAt us c)) → vM us h V → V.length + q ≤ 624 → (∀ h', frG h h' → vM us h' (V ++ gI us ps (rA rs r) c q i) → ax_wp kM (d + 10) mQ_gather 121 [some (.ref 0), some (.int (nI r)), some (.int (nI c)), some (.int (nI (ocU (uAt us c)).length))] [] h' Q) → ax_wp kM (d + 10) mQ_gather 22 [some (.ref 0), some (.int (nI r)), some (.int (nI c)), some (.int (nI i))] [] h Q
  | 0, i, h, V, hi, hc, hp, hru, ho, hv, hl, hQ => by
    have hl2 := (ocU_v (hc.2.2.2.2 c hcl).2).2
    have o1 := ho.1
    rw [sQ_gather_22]
    simp (disch := omega) only [sQ_gather_23, sQ_gather_24, sQ_gather_27, ax_clr_i, ax_clr_l, ax_clr_r, ax_clr_n, ax_ct_0, ax_ct_i, ax_ct_l, ax_ct_r, va_rf_s, Option.toList_some, Option.toList_none, List.cons_append, List.nil_append, and_true, true_and, and_self, ite_true, ite_false, if_true, if_false, Nat.reduceAdd, Nat.reduceLeDiff, Nat.reduceMul, Nat.reduceLT, nI_add, pk_mul, nI_lt', nI_le', nI_eq', nI_lt0, nI_ge0, nI_eq0, nI_gt0, nI_le0, nI_ne_m1, m1_ne_nI, m1_lt_nI, m1_le_nI, nI_lt_m1, nI_le_m1, nI_clamp, ax_in_nI, nI_shl, nI_shr, lg_cmp0, nx_and, nI_eq1, bI_0, bI_1, bf_or, eq_self, or_true, true_or, lt_T, le_T, lt_F, le_F, eq_F, eq_T, kdM_0, kdM_1, kdM_2, kdM_3, kdM_4, kdM_5, kdM_6, kdM_7, kdM_8, kdM_9, kdM_10, kdM_11, kdM_12, kdM_13, kdM_14, kdM_15, kdM_16, kdM_17, kdM_18, kdM_19, kdM_20, kdM_21, kdM_22, kdM_23, kdM_24, rM_0, rM_1, rM_5, rM_6, rM_7, rM_10, rM_11, rM_12, rM_13, rM_14, rM_15, rM_16, rM_18, rM_19, rM_20, rM_21, rM_23, rM_24, rM_25, rM_26, rM_28, rM_29, rM_30, rM_31, o1]
    simp only [gI, List.append_nil] at hQ
    rw [show i = (ocU (uAt us c)).length by omega]
    exact hQ h frG.rf hv
  | q + 1, i, h, V, hi, hc, hp, hru, ho, hv, hl, hQ => by
    have hl2 := (ocU_v (hc.2.2.2.2 c hcl).2).2
    have h12 := hc.2.2.1
    have r6 := hru.2.1
    have hov := ocA_v (hc.2.2.2.2 c hcl).2 (show i < (ocU (uAt us c)).length by omega)
    have ov1 := hov.1
    have o1 := ho.1
    unfold gI at hQ
    rw [sQ_gather_22]
    simp (disch := omega) only [sQ_gather_23, sQ_gather_24, sQ_gather_27, sQ_gather_30, sQ_gather_31, sQ_gather_32, sQ_gather_33, sQ_gather_34, ax_clr_i, ax_clr_l, ax_clr_r, ax_clr_n, ax_ct_0, ax_ct_i, ax_ct_l, ax_ct_r, va_rf_s, Option.toList_some, Option.toList_none, List.cons_append, List.nil_append, and_true, true_and, and_self, ite_true, ite_false, if_true, if_false, Nat.reduceAdd, Nat.reduceLeDiff, Nat.reduceMul, Nat.reduceLT, nI_add, pk_mul, nI_lt', nI_le', nI_eq', nI_lt0, nI_ge0, nI_eq0, nI_gt0, nI_le0, nI_ne_m1, m1_ne_nI, m1_lt_nI, m1_le_nI, nI_lt_m1, nI_le_m1, nI_clamp, ax_in_nI, nI_shl, nI_shr, lg_cmp0, nx_and, nI_eq1, bI_0, bI_1, bf_or, eq_self, or_true, true_or, lt_T, le_T, lt_F, le_F, eq_F, eq_T, kdM_0, kdM_1, kdM_2, kdM_3, kdM_4, kdM_5, kdM_6, kdM_7, kdM_8, kdM_9, kdM_10, kdM_11, kdM_12, kdM_13, kdM_14, kdM_15, kdM_16, kdM_17, kdM_18, kdM_19, kdM_20, kdM_21, kdM_22, kdM_23, kdM_24, rM_0, rM_1, rM_5, rM_6, rM_7, rM_10, rM_11, rM_12, rM_13, rM_14, rM_15, rM_16, rM_18, rM_19, rM_20, rM_21, rM_23, rM_24, rM_25, rM_26, rM_28, rM_29, rM_30, rM_31, o1]
    refine mQ_violates_ hc hp hru r c i hrl hk2 hcl ho (by omega) (fun h1 f1 => ?_)
    have f1c := f1.c
    have hc1 := hc.a f1c.a
    have hr1 := hc1.1
    have ho1 := ho.frV f1
    have hv1 := hv.c f1c
    by_cases e : vioU us ps (rA rs r) c i = true
    · rw [if_pos e] at hQ
      have q1 := (ho1.2.2 i (by omega)).1
      have q3 := (ho1.2.2 i (by omega)).2.2.1
      have q4 := (ho1.2.2 i (by omega)).2.2.2
      have v1 := hv1.1
      rw [e]
      simp (disch := omega) only [sQ_gather_37, sQ_gather_40, sQ_gather_41, sQ_gather_44, sQ_gather_45, sQ_gather_48, sQ_gather_50, sQ_gather_51, sQ_gather_52, sQ_gather_53, sQ_gather_56, sQ_gather_57, sQ_gather_58, sQ_gather_59, sQ_gather_60, sQ_gather_61, sQ_gather_64, sQ_gather_65, sQ_gather_68, sQ_gather_70, sQ_gather_71, sQ_gather_72, sQ_gather_73, sQ_gather_74, sQ_gather_75, sQ_gather_76, sQ_gather_79, sQ_gather_80, sQ_gather_83, sQ_gather_84, sQ_gather_87, sQ_gather_88, sQ_gather_89, sQ_gather_90, sQ_gather_91, sQ_gather_94, sQ_gather_95, sQ_gather_98, sQ_gather_99, sQ_gather_102, sQ_gather_103, sQ_gather_104, sQ_gather_105, sQ_gather_106, sQ_gather_106r, sQ_gather_107, sQ_gather_110, sQ_gather_111, sQ_gather_112, sQ_gather_115, sQ_gather_118, ax_clr_i, ax_clr_l, ax_clr_r, ax_clr_n, ax_ct_0, ax_ct_i, ax_ct_l, ax_ct_r, va_rf_s, Option.toList_some, Option.toList_none, List.cons_append, List.nil_append, and_true, true_and, and_self, ite_true, ite_false, if_true, if_false, Nat.reduceAdd, Nat.reduceLeDiff, Nat.reduceMul, Nat.reduceLT, nI_add, pk_mul, nI_lt', nI_le', nI_eq', nI_lt0, nI_ge0, nI_eq0, nI_gt0, nI_le0, nI_ne_m1, m1_ne_nI, m1_lt_nI, m1_le_nI, nI_lt_m1, nI_le_m1, nI_clamp, ax_in_nI, nI_shl, nI_shr, lg_cmp0, nx_and, nI_eq1, bI_0, bI_1, bf_or, eq_self, or_true, true_or, lt_T, le_T, lt_F, le_F, eq_F, eq_T, kdM_0, kdM_1, kdM_2, kdM_3, kdM_4, kdM_5, kdM_6, kdM_7, kdM_8, kdM_9, kdM_10, kdM_11, kdM_12, kdM_13, kdM_14, kdM_15, kdM_16, kdM_17, kdM_18, kdM_19, kdM_20, kdM_21, kdM_22, kdM_23, kdM_24, rM_0, rM_1, rM_5, rM_6, rM_7, rM_10, rM_11, rM_12, rM_13, rM_14, rM_15, rM_16, rM_18, rM_19, rM_20, rM_21, rM_23, rM_24, rM_25, rM_26, rM_28, rM_29, rM_30, rM_31, hr1, q1, q3, q4, v1, up_I, up_I2, up_L, up_L1, up_L3, Nat.reduceEqDiff, and_false, false_and, reduceIte, Bool.true_eq_false]
      have fg := f1c.g.tr (vPu_g h1 V.length (nI (16 * c + (oOf us c i).1)) (nI (64 * c + i)) (lN (pB (oOf us c i).2.2.1)) (lN (pB (oOf us c i).2.2.2)))
      refine mQ_gather_i r c hrl hk2 hcl q (i + 1) (vPu h1 V.length (nI (16 * c + (oOf us c i).1)) (nI (64 * c + i)) (lN (pB (oOf us c i).2.2.1)) (lN (pB (oOf us c i).2.2.2))) (V ++ [(c, i)]) (by omega) (hc.a fg.a) (hp.a fg.a) (hru.a fg.a) (ho1.vp _ _ _ _ _) (hv1.app c i (by omega)) (by simp; omega) (fun h' f o => hQ h' (fg.tr f) ?_)
      rw [← List.append_assoc]; exact o
    · rw [if_neg e] at hQ
      rw [bI_c e]
      simp (disch := omega) only [sQ_gather_37, sQ_gather_115, sQ_gather_118, ax_clr_i, ax_clr_l, ax_clr_r, ax_clr_n, ax_ct_0, ax_ct_i, ax_ct_l, ax_ct_r, va_rf_s, Option.toList_some, Option.toList_none, List.cons_append, List.nil_append, and_true, true_and, and_self, ite_true, ite_false, if_true, if_false, Nat.reduceAdd, Nat.reduceLeDiff, Nat.reduceMul, Nat.reduceLT, nI_add, pk_mul, nI_lt', nI_le', nI_eq', nI_lt0, nI_ge0, nI_eq0, nI_gt0, nI_le0, nI_ne_m1, m1_ne_nI, m1_lt_nI, m1_le_nI, nI_lt_m1, nI_le_m1, nI_clamp, ax_in_nI, nI_shl, nI_shr, lg_cmp0, nx_and, nI_eq1, bI_0, bI_1, bf_or, eq_self, or_true, true_or]
      exact mQ_gather_i r c hrl hk2 hcl q (i + 1) h1 V (by omega) hc1 (hp.a f1c.a) (hru.a f1c.a) ho1 hv1 (by omega) (fun h' f o => hQ h' (f1c.g.tr f) o)
theorem mQ_gather_c (r : Nat) (hrl : r < rs.length) (hk2 : (rA rs r).1 ≤ 2) : ∀ (q c : Nat) (h : ax_H) (V : List (Nat × Nat)) (x3 : Option Value), c + q = us.length → clsM h us → patM h ps ty → rulM h ps.length rs → vM us h V → V.length ≤ 52 * c → (∀ h', frG h h' → vM us h' (V ++ gC us ps (rA rs r) q c) → Q none h') → ax_wp kM (d + 10) mQ_gather 7 [some (.ref 0), some (.int (nI r)), some (.int (nI c)), x3] [] h Q
  | 0, c, h, V, x3, hq, hc, hp, hru, hv, hl, hQ => by
    have h12 := hc.2.2.1
    have hn := hc.2.1
    rw [sQ_gather_7]
    simp (disch := omega) only [sQ_gather_8, sQ_gather_9, sQ_gather_12, sQ_gather_127, ax_clr_i, ax_clr_l, ax_clr_r, ax_clr_n, ax_ct_0, ax_ct_i, ax_ct_l, ax_ct_r, va_rf_s, Option.toList_some, Option.toList_none, List.cons_append, List.nil_append, and_true, true_and, and_self, ite_true, ite_false, if_true, if_false, Nat.reduceAdd, Nat.reduceLeDiff, Nat.reduceMul, Nat.reduceLT, nI_add, pk_mul, nI_lt', nI_le', nI_eq', nI_lt0, nI_ge0, nI_eq0, nI_gt0, nI_le0, nI_ne_m1, m1_ne_nI, m1_lt_nI, m1_le_nI, nI_lt_m1, nI_le_m1, nI_clamp, ax_in_nI, nI_shl, nI_shr, lg_cmp0, nx_and, nI_eq1, bI_0, bI_1, bf_or, eq_self, or_true, true_or, lt_T, le_T, lt_F, le_F, eq_F, eq_T, kdM_0, kdM_1, kdM_2, kdM_3, kdM_4, kdM_5, kdM_6, kdM_7, kdM_8, kdM_9, kdM_10, kdM_11, kdM_12, kdM_13, kdM_14, kdM_15, kdM_16, kdM_17, kdM_18, kdM_19, kdM_20, kdM_21, kdM_22, kdM_23, kdM_24, rM_0, rM_1, rM_5, rM_6, rM_7, rM_10, rM_11, rM_12, rM_13, rM_14, rM_15, rM_16, rM_18, rM_19, rM_20, rM_21, rM_23, rM_24, rM_25, rM_26, rM_28, rM_29, rM_30, rM_31, hn]
    simp only [gC, List.append_nil] at hQ
    exact hQ h frG.rf hv
  | q + 1, c, h, V, x3, hq, hc, hp, hru, hv, hl, hQ => by
    have h12 := hc.2.2.1
    have hn := hc.2.1
    have hl2 := (ocU_v (hc.2.2.2.2 c (by omega)).2).2
    unfold gC at hQ
    rw [sQ_gather_7]
    simp (disch := omega) only [sQ_gather_8, sQ_gather_9, sQ_gather_12, sQ_gather_15, sQ_gather_16, sQ_gather_17, ax_clr_i, ax_clr_l, ax_clr_r, ax_clr_n, ax_ct_0, ax_ct_i, ax_ct_l, ax_ct_r, va_rf_s, Option.toList_some, Option.toList_none, List.cons_append, List.nil_append, and_true, true_and, and_self, ite_true, ite_false, if_true, if_false, Nat.reduceAdd, Nat.reduceLeDiff, Nat.reduceMul, Nat.reduceLT, nI_add, pk_mul, nI_lt', nI_le', nI_eq', nI_lt0, nI_ge0, nI_eq0, nI_gt0, nI_le0, nI_ne_m1, m1_ne_nI, m1_lt_nI, m1_le_nI, nI_lt_m1, nI_le_m1, nI_clamp, ax_in_nI, nI_shl, nI_shr, lg_cmp0, nx_and, nI_eq1, bI_0, bI_1, bf_or, eq_self, or_true, true_or, lt_T, le_T, lt_F, le_F, eq_F, eq_T, kdM_0, kdM_1, kdM_2, kdM_3, kdM_4, kdM_5, kdM_6, kdM_7, kdM_8, kdM_9, kdM_10, kdM_11, kdM_12, kdM_13, kdM_14, kdM_15, kdM_16, kdM_17, kdM_18, kdM_19, kdM_20, kdM_21, kdM_22, kdM_23, kdM_24, rM_0, rM_1, rM_5, rM_6, rM_7, rM_10, rM_11, rM_12, rM_13, rM_14, rM_15, rM_16, rM_18, rM_19, rM_20, rM_21, rM_23, rM_24, rM_25, rM_26, rM_28, rM_29, rM_30, rM_31, hn]
    refine mQ_list_ (d := d + 4) (hc.2.2.2.2 c (by omega)).1 (by omega) (hc.2.2.2.2 c (by omega)).2 (fun h2 f2 o2 => ?_)
    simp (disch := omega) only [sQ_gather_20, sQ_gather_21, ax_clr_i, ax_clr_l, ax_clr_r, ax_clr_n, ax_ct_0, ax_ct_i, ax_ct_l, ax_ct_r, va_rf_s, Option.toList_some, Option.toList_none, List.cons_append, List.nil_append, and_true, true_and, and_self, ite_true, ite_false, if_true, if_false, Nat.reduceAdd, Nat.reduceLeDiff, Nat.reduceMul, Nat.reduceLT]
    refine mQ_gather_i r c hrl hk2 (by omega) (ocU (uAt us c)).length 0 h2 V (by omega) (hc.frO f2) (hp.a f2.a) (hru.a f2.a) o2 (hv.c f2.c) (by omega) (fun h3 f3 o3 => ?_)
    have fg := f2.c.g.tr f3
    simp (disch := omega) only [sQ_gather_121, sQ_gather_124, ax_clr_i, ax_clr_l, ax_clr_r, ax_clr_n, ax_ct_0, ax_ct_i, ax_ct_l, ax_ct_r, va_rf_s, Option.toList_some, Option.toList_none, List.cons_append, List.nil_append, and_true, true_and, and_self, ite_true, ite_false, if_true, if_false, Nat.reduceAdd, Nat.reduceLeDiff, Nat.reduceMul, Nat.reduceLT, nI_add]
    refine mQ_gather_c r hrl hk2 q (c + 1) h3 _ _ (by omega) (hc.a fg.a) (hp.a fg.a) (hru.a fg.a) o3 ?_ (fun h' f o => hQ h' (fg.tr f) ?_)
    · rw [List.length_append]; have := (gI_v us ps (rA rs r) c (ocU (uAt us c)).length 0).1; omega
    · rw [← List.append_assoc]; exact o
theorem mQ_gather_ {h : ax_H} (hc : clsM h us) (hp : patM h ps ty) (hru : rulM h ps.length rs) (r : Nat) (hrl : r < rs.length) (hk2 : (rA rs r).1 ≤ 2) (hQ : ∀ h', frG h h' → vM us h' (gaU us ps (rA rs r)) → Q none h') : ax_wp kM (d + 10) mQ_gather 0 [some (.ref 0), some (.int (nI r)), none, none] [] h Q := by
  simp (disch := omega) only [sQ_gather_0, sQ_gather_1, sQ_gather_2, sQ_gather_5, sQ_gather_6, ax_clr_i, ax_clr_l, ax_clr_r, ax_clr_n, ax_ct_0, ax_ct_i, ax_ct_l, ax_ct_r, va_rf_s, Option.toList_some, Option.toList_none, List.cons_append, List.nil_append, and_true, true_and, and_self, ite_true, ite_false, if_true, if_false, Nat.reduceAdd, Nat.reduceLeDiff, Nat.reduceMul, Nat.reduceLT, kdM_0, kdM_1, kdM_2, kdM_3, kdM_4, kdM_5, kdM_6, kdM_7, kdM_8, kdM_9, kdM_10, kdM_11, kdM_12, kdM_13, kdM_14, kdM_15, kdM_16, kdM_17, kdM_18, kdM_19, kdM_20, kdM_21, kdM_22, kdM_23, kdM_24, rM_0, rM_1, rM_5, rM_6, rM_7, rM_10, rM_11, rM_12, rM_13, rM_14, rM_15, rM_16, rM_18, rM_19, rM_20, rM_21, rM_23, rM_24, rM_25, rM_26, rM_28, rM_29, rM_30, rM_31]
  have fg : frG h (ax_upI h 0 22 (nI 0)) := ⟨rfl, fun r k h1 h2 h3 h4 h5 h6 => by rw [up_I, if_neg (by omega)], fun _ _ _ _ _ _ => rfl⟩
  refine mQ_gather_c r hrl hk2 us.length 0 _ [] _ (by omega) (hc.a fg.a) (hp.a fg.a) (hru.a fg.a) ⟨up_at _ _ _ _, by simp, fun j hj => by simp at hj⟩ (by simp) (fun h' f o => hQ h' (fg.tr f) ?_)
  rw [List.nil_append] at o; exact o
end MV
