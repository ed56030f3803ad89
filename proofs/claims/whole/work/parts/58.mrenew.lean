/-! the model: new violations, freeze -/
def fdF (P : Nat → Bool) : Nat → Nat → Option Nat
  | 0, _ => none
  | m + 1, k => if P k = true then some k else fdF P m (k + 1)
def bkF (P : Nat → Bool) : Nat → Option Nat → Option Nat
  | 0, o => o
  | k + 1, o => bkF P k (if P k = true then some k else o)
theorem fdF_succ (P : Nat → Bool) : ∀ (m k : Nat), fdF P (m + 1) k = match fdF P m k with
    | some r => some r
    | none => if P (k + m) = true then some (k + m) else none
  | 0, k => by simp [fdF]
  | m + 1, k => by
    rw [fdF, fdF_succ P m (k + 1)]
    conv => rhs; rw [fdF]
    by_cases e : P k = true
    · simp [e]
    · simp only [if_neg e]
      rw [show k + 1 + m = k + (m + 1) by omega]
theorem bkF_eq (P : Nat → Bool) : ∀ (k : Nat) (o : Option Nat), bkF P k o = match fdF P k 0 with
    | some r => some r
    | none => o
  | 0, o => by simp [bkF, fdF]
  | k + 1, o => by
    rw [bkF, bkF_eq P k, fdF_succ P k 0, Nat.zero_add]
    cases fdF P k 0 with
    | some r => rfl
    | none =>
      by_cases e : P k = true
      · simp [e]
      · simp [e]
theorem fdF_some (P : Nat → Bool) : ∀ (m k r : Nat), fdF P m k = some r → k ≤ r ∧ r < k + m ∧ P r = true
  | 0, k, r, h => by cases h
  | m + 1, k, r, h => by
    unfold fdF at h
    by_cases e : P k = true
    · rw [if_pos e] at h
      have : k = r := by simpa using h
      subst this; exact ⟨by omega, by omega, e⟩
    · rw [if_neg e] at h
      have := fdF_some P m (k + 1) r h
      exact ⟨by omega, by omega, this.2.2⟩
/-- what a list of known violations keeps of an occurrence -/
def knO (us : List (List Nat)) (v : Nat × Nat) : oc4 := (v.1, (oOf us v.1 v.2).1, (oOf us v.1 v.2).2.2.1, (oOf us v.1 v.2).2.2.2)
def eqK (us : List (List Nat)) (K : List oc4) (v : Nat × Nat) (u k : Nat) : Bool := decide (ocA K k = knO us v) && !u.testBit k
def rnF (us : List (List Nat)) (K : List oc4) : List (Nat × Nat) → Nat → List Nat
  | [], _ => []
  | v :: V, u => match fdF (eqK us K v u) K.length 0 with
    | some k => rnF us K V (u ||| 2 ^ k)
    | none => (64 * v.1 + v.2) :: rnF us K V u
def frU (us ps : List (List Nat)) (x : rl4) : List Nat := if x.1 = 3 then cyL us x.2.1 else rnF us x.2.2.2 (gaU us ps x) 0
theorem rnF_len (us : List (List Nat)) (K : List oc4) : ∀ (V : List (Nat × Nat)) (u : Nat), (rnF us K V u).length ≤ V.length
  | [], u => by simp [rnF]
  | v :: V, u => by
    unfold rnF
    cases fdF (eqK us K v u) K.length 0 with
    | some k => have := rnF_len us K V (u ||| 2 ^ k); simp; omega
    | none => have := rnF_len us K V u; simp; omega
def aVls (us ps : List (List Nat)) (rs : List rl4) (x : Int32) : Int32 := match ixN x rs.length with
  | none => -1
  | some r => nI (frU us ps (rA rs r)).length
def aVio (us ps : List (List Nat)) (rs : List rl4) (x y : Int32) : Int32 := match ixN x rs.length with
  | none => -1
  | some r => match ixN y (frU us ps (rA rs r)).length with
    | none => -1
    | some i => nI (bg (frU us ps (rA rs r)) i)
def oFrz (us ps : List (List Nat)) (rs : List rl4) (x : Int32) : Option (Nat × List (Nat × Nat)) := match ixN x rs.length with
  | none => none
  | some r => if (rA rs r).1 = 3 then none else if (gaU us ps (rA rs r)).length ≤ 8 then some (r, gaU us ps (rA rs r)) else none
def aFrz (us ps : List (List Nat)) (rs : List rl4) (x : Int32) : Int32 := match oFrz us ps rs x with
  | none => -1
  | some (_, V) => nI V.length
def nFrz (us ps : List (List Nat)) (rs : List rl4) (x : Int32) : List rl4 := match oFrz us ps rs x with
  | none => rs
  | some (r, V) => rs.set r ((rA rs r).1, (rA rs r).2.1, (rA rs r).2.2.1, V.map (knO us))
theorem oc4_eq (a b : oc4) : (a = b) = (a.1 = b.1 ∧ a.2.1 = b.2.1 ∧ a.2.2.1 = b.2.2.1 ∧ a.2.2.2 = b.2.2.2) := by
  obtain ⟨a1, a2, a3, a4⟩ := a
  obtain ⟨b1, b2, b3, b4⟩ := b
  simp only [Prod.mk.injEq]
theorem cyF_len (w : Nat → Bool) : ∀ (m c : Nat) (L : List Nat), (cyF w m c L).length ≤ L.length + m
  | 0, c, L => by simp [cyF]
  | m + 1, c, L => by
    unfold cyF
    have := cyF_len w m (c + 1) (if w (13 * c) = true then L ++ [64 * c + 63] else L)
    by_cases e : w (13 * c) = true
    · rw [if_pos e] at this ⊢; simp at this; omega
    · rw [if_neg e] at this ⊢; omega
section MV
variable {d : Nat} {Q : Option Value → ax_H → Prop} {b : List Nat} {us ps : List (List Nat)} {ty : List Nat} {rs : List rl4}
theorem mQ_renew_k {h : ax_H} (hr : h.2.2 = rM) (r : Nat) (hr6 : r < 6) (K : List oc4) (hK : knM h r K) (h8 : K.length ≤ 8) (hkv : ∀ x ∈ K, x.1 < 12 ∧ x.2.1 ≤ 8 ∧ vT x.2.2.1 ∧ vT x.2.2.2) (V : List (Nat × Nat)) (hv : vM us h V) (v : Nat) (hvl : v < V.length) (hvv : (vA V v).1 < 12 ∧ ocv (oOf us (vA V v).1 (vA V v).2)) (u : Nat) (hu : u < 2 ^ 8) : ∀ (k : Nat) (o : Option Nat) (x6 x7 : Option Value), k ≤ K.length → (∀ x5 x6 x7, ax_wp kM d mQ_renew 156 [some (.ref 0), some (.int (nI r)), some (.int (nI u)), some (.int (nI v)), some (.int (oI (bkF (eqK us K (vA V v) u) k o))), x5, x6, x7] [] h Q) → ax_wp kM d mQ_renew 56 [some (.ref 0), some (.int (nI r)), some (.int (nI u)), some (.int (nI v)), some (.int (oI o)), some (.int (nI k + (-1))), x6, x7] [] h Q
  | 0, o, x6, x7, hk, hQ => by
    rw [sQ_renew_56]
    simp (disch := omega) only [sQ_renew_58, ax_clr_i, ax_clr_l, ax_clr_r, ax_clr_n, ax_ct_0, ax_ct_i, ax_ct_l, ax_ct_r, va_rf_s, Option.toList_some, Option.toList_none, List.cons_append, List.nil_append, and_true, true_and, and_self, ite_true, ite_false, if_true, if_false, Nat.reduceAdd, Nat.reduceLeDiff, Nat.reduceMul, Nat.reduceLT]
    rw [if_pos (by decide)]
    exact hQ _ _ _
  | k + 1, o, x6, x7, hk, hQ => by
    obtain ⟨a1, a2, a3, a4⟩ := hv.2.2 v hvl
    obtain ⟨b1, b2, b3⟩ := hK.2 k (by omega)
    have vl := hv.2.1
    have mk : ocA K k ∈ K := by unfold ocA; rw [List.getD_eq_getElem?_getD, List.getElem?_eq_getElem (show k < K.length by omega)]; exact List.getElem_mem _
    obtain ⟨c1, c2, c3, c4⟩ := hkv _ mk
    obtain ⟨d1, d2, d3, d4, d5⟩ := hvv
    unfold bkF at hQ
    rw [sQ_renew_56]
    simp (disch := omega) only [sQ_renew_58, sQ_renew_61, sQ_renew_63, sQ_renew_64, sQ_renew_65, sQ_renew_67, sQ_renew_68, sQ_renew_70, sQ_renew_71, sQ_renew_74, sQ_renew_76, sQ_renew_77, sQ_renew_78, sQ_renew_81, sQ_renew_82, sQ_renew_83, ax_clr_i, ax_clr_l, ax_clr_r, ax_clr_n, ax_ct_0, ax_ct_i, ax_ct_l, ax_ct_r, va_rf_s, Option.toList_some, Option.toList_none, List.cons_append, List.nil_append, and_true, true_and, and_self, ite_true, ite_false, if_true, if_false, Nat.reduceAdd, Nat.reduceLeDiff, Nat.reduceMul, Nat.reduceLT, nI_add, pk_mul, nI_lt', nI_le', nI_eq', nI_lt0, nI_ge0, nI_eq0, nI_gt0, nI_le0, nI_ne_m1, m1_ne_nI, m1_lt_nI, m1_le_nI, nI_lt_m1, nI_le_m1, nI_clamp, ax_in_nI, nI_shl, nI_shr, lg_cmp0, nx_and, nI_eq1, bI_0, bI_1, bf_or, eq_self, or_true, true_or, lt_T, le_T, lt_F, le_F, eq_F, eq_T, kdM_0, kdM_1, kdM_2, kdM_3, kdM_4, kdM_5, kdM_6, kdM_7, kdM_8, kdM_9, kdM_10, kdM_11, kdM_12, kdM_13, kdM_14, kdM_15, kdM_16, kdM_17, kdM_18, kdM_19, kdM_20, kdM_21, kdM_22, kdM_23, kdM_24, rM_0, rM_1, rM_5, rM_6, rM_7, rM_10, rM_11, rM_12, rM_13, rM_14, rM_15, rM_16, rM_18, rM_19, rM_20, rM_21, rM_23, rM_24, rM_25, rM_26, rM_28, rM_29, rM_30, rM_31, nI_dec, Nat.add_sub_cancel, hr, a1, b1]
    have nx : ∀ (e : Bool), e = decide (ocA K k = knO us (vA V v)) → ax_wp kM d mQ_renew 125 [some (.ref 0), some (.int (nI r)), some (.int (nI u)), some (.int (nI v)), some (.int (oI o)), some (.int (nI k)), some (.int (nI (8 * r + k))), x7] [.int (bI e)] h Q := fun e he => by
      have hP : eqK us K (vA V v) u k = (e && !u.testBit k) := by unfold eqK; rw [he]
      rw [hP] at hQ
      cases e with
      | false =>
        simp (disch := omega) only [sQ_renew_125, sQ_renew_127, sQ_renew_129, sQ_renew_146, sQ_renew_148, sQ_renew_150, sQ_renew_153, ax_clr_i, ax_clr_l, ax_clr_r, ax_clr_n, ax_ct_0, ax_ct_i, ax_ct_l, ax_ct_r, va_rf_s, Option.toList_some, Option.toList_none, List.cons_append, List.nil_append, and_true, true_and, and_self, ite_true, ite_false, if_true, if_false, Nat.reduceAdd, Nat.reduceLeDiff, Nat.reduceMul, Nat.reduceLT, nI_add, pk_mul, nI_lt', nI_le', nI_eq', nI_lt0, nI_ge0, nI_eq0, nI_gt0, nI_le0, nI_ne_m1, m1_ne_nI, m1_lt_nI, m1_le_nI, nI_lt_m1, nI_le_m1, nI_clamp, ax_in_nI, nI_shl, nI_shr, lg_cmp0, nx_and, nI_eq1, bI_0, bI_1, bf_or, eq_self, or_true, true_or]
        exact mQ_renew_k hr r hr6 K hK h8 hkv V hv v hvl ⟨d1, d2, d3, d4, d5⟩ u hu k o _ _ (by omega) hQ
      | true =>
        simp (disch := omega) only [sQ_renew_125, sQ_renew_127, sQ_renew_129, sQ_renew_132, sQ_renew_133, sQ_renew_135, sQ_renew_136, sQ_renew_137, sQ_renew_138, ax_clr_i, ax_clr_l, ax_clr_r, ax_clr_n, ax_ct_0, ax_ct_i, ax_ct_l, ax_ct_r, va_rf_s, Option.toList_some, Option.toList_none, List.cons_append, List.nil_append, and_true, true_and, and_self, ite_true, ite_false, if_true, if_false, Nat.reduceAdd, Nat.reduceLeDiff, Nat.reduceMul, Nat.reduceLT, bI_0, nI_shr, nI_bit, Bool.true_eq_false]
        by_cases e2 : u.testBit k = true
        · rw [if_neg (by simp [e2])] at hQ
          rw [if_neg (by simp [e2])]
          simp (disch := omega) only [sQ_renew_146, sQ_renew_148, sQ_renew_150, sQ_renew_153, ax_clr_i, ax_clr_l, ax_clr_r, ax_clr_n, ax_ct_0, ax_ct_i, ax_ct_l, ax_ct_r, va_rf_s, Option.toList_some, Option.toList_none, List.cons_append, List.nil_append, and_true, true_and, and_self, ite_true, ite_false, if_true, if_false, Nat.reduceAdd, Nat.reduceLeDiff, Nat.reduceMul, Nat.reduceLT]
          exact mQ_renew_k hr r hr6 K hK h8 hkv V hv v hvl ⟨d1, d2, d3, d4, d5⟩ u hu k o _ _ (by omega) hQ
        · rw [if_pos (by simp [e2])] at hQ
          rw [if_pos (bI_c e2)]
          simp (disch := omega) only [sQ_renew_141, sQ_renew_143, sQ_renew_146, sQ_renew_148, sQ_renew_150, sQ_renew_153, ax_clr_i, ax_clr_l, ax_clr_r, ax_clr_n, ax_ct_0, ax_ct_i, ax_ct_l, ax_ct_r, va_rf_s, Option.toList_some, Option.toList_none, List.cons_append, List.nil_append, and_true, true_and, and_self, ite_true, ite_false, if_true, if_false, Nat.reduceAdd, Nat.reduceLeDiff, Nat.reduceMul, Nat.reduceLT]
          exact mQ_renew_k hr r hr6 K hK h8 hkv V hv v hvl ⟨d1, d2, d3, d4, d5⟩ u hu k (some k) _ _ (by omega) hQ
    have nx0 := nx false
    have nx1 := nx true
    have hdec := oc4_eq (ocA K k) (knO us (vA V v))
    unfold knO at hdec nx0 nx1
    dsimp only at hdec
    have n124 : (¬ (ocA K k = ((vA V v).1, (oOf us (vA V v).1 (vA V v).2).1, (oOf us (vA V v).1 (vA V v).2).2.2.1, (oOf us (vA V v).1 (vA V v).2).2.2.2))) → ax_wp kM d mQ_renew 124 [some (.ref 0), some (.int (nI r)), some (.int (nI u)), some (.int (nI v)), some (.int (oI o)), some (.int (nI k)), some (.int (nI (8 * r + k))), x7] [] h Q := fun hn => by
      simp (disch := omega) only [sQ_renew_124, ax_clr_i, ax_clr_l, ax_clr_r, ax_clr_n, ax_ct_0, ax_ct_i, ax_ct_l, ax_ct_r, va_rf_s, Option.toList_some, Option.toList_none, List.cons_append, List.nil_append, and_true, true_and, and_self, ite_true, ite_false, if_true, if_false, Nat.reduceAdd, Nat.reduceLeDiff, Nat.reduceMul, Nat.reduceLT]
      exact nx0 (decide_eq_false hn).symm
    by_cases e1 : 16 * (ocA K k).1 + (ocA K k).2.1 = 16 * (vA V v).1 + (oOf us (vA V v).1 (vA V v).2).1
    · rw [if_pos e1]
      simp (disch := omega) only [sQ_renew_86, sQ_renew_87, sQ_renew_90, sQ_renew_92, sQ_renew_93, sQ_renew_94, sQ_renew_97, sQ_renew_98, sQ_renew_99, sQ_renew_100, ax_clr_i, ax_clr_l, ax_clr_r, ax_clr_n, ax_ct_0, ax_ct_i, ax_ct_l, ax_ct_r, va_rf_s, Option.toList_some, Option.toList_none, List.cons_append, List.nil_append, and_true, true_and, and_self, ite_true, ite_false, if_true, if_false, Nat.reduceAdd, Nat.reduceLeDiff, Nat.reduceMul, Nat.reduceLT, nI_add, pk_mul, nI_lt', nI_le', nI_eq', nI_lt0, nI_ge0, nI_eq0, nI_gt0, nI_le0, nI_ne_m1, m1_ne_nI, m1_lt_nI, m1_le_nI, nI_lt_m1, nI_le_m1, nI_clamp, ax_in_nI, nI_shl, nI_shr, lg_cmp0, nx_and, nI_eq1, bI_0, bI_1, bf_or, eq_self, or_true, true_or, lt_T, le_T, lt_F, le_F, eq_F, eq_T, kdM_0, kdM_1, kdM_2, kdM_3, kdM_4, kdM_5, kdM_6, kdM_7, kdM_8, kdM_9, kdM_10, kdM_11, kdM_12, kdM_13, kdM_14, kdM_15, kdM_16, kdM_17, kdM_18, kdM_19, kdM_20, kdM_21, kdM_22, kdM_23, kdM_24, rM_0, rM_1, rM_5, rM_6, rM_7, rM_10, rM_11, rM_12, rM_13, rM_14, rM_15, rM_16, rM_18, rM_19, rM_20, rM_21, rM_23, rM_24, rM_25, rM_26, rM_28, rM_29, rM_30, rM_31, hr, a3, b2, lB_eq c3 d3]
      by_cases e2 : (ocA K k).2.2.1 = (oOf us (vA V v).1 (vA V v).2).2.2.1
      · rw [if_pos e2]
        simp (disch := omega) only [sQ_renew_103, sQ_renew_104, sQ_renew_107, sQ_renew_109, sQ_renew_110, sQ_renew_111, sQ_renew_114, sQ_renew_115, sQ_renew_116, sQ_renew_117, ax_clr_i, ax_clr_l, ax_clr_r, ax_clr_n, ax_ct_0, ax_ct_i, ax_ct_l, ax_ct_r, va_rf_s, Option.toList_some, Option.toList_none, List.cons_append, List.nil_append, and_true, true_and, and_self, ite_true, ite_false, if_true, if_false, Nat.reduceAdd, Nat.reduceLeDiff, Nat.reduceMul, Nat.reduceLT, nI_add, pk_mul, nI_lt', nI_le', nI_eq', nI_lt0, nI_ge0, nI_eq0, nI_gt0, nI_le0, nI_ne_m1, m1_ne_nI, m1_lt_nI, m1_le_nI, nI_lt_m1, nI_le_m1, nI_clamp, ax_in_nI, nI_shl, nI_shr, lg_cmp0, nx_and, nI_eq1, bI_0, bI_1, bf_or, eq_self, or_true, true_or, lt_T, le_T, lt_F, le_F, eq_F, eq_T, kdM_0, kdM_1, kdM_2, kdM_3, kdM_4, kdM_5, kdM_6, kdM_7, kdM_8, kdM_9, kdM_10, kdM_11, kdM_12, kdM_13, kdM_14, kdM_15, kdM_16, kdM_17, kdM_18, kdM_19, kdM_20, kdM_21, kdM_22, kdM_23, kdM_24, rM_0, rM_1, rM_5, rM_6, rM_7, rM_10, rM_11, rM_12, rM_13, rM_14, rM_15, rM_16, rM_18, rM_19, rM_20, rM_21, rM_23, rM_24, rM_25, rM_26, rM_28, rM_29, rM_30, rM_31, hr, a4, b3, lB_eq c4 d5]
        by_cases e3 : (ocA K k).2.2.2 = (oOf us (vA V v).1 (vA V v).2).2.2.2
        · rw [if_pos e3]
          simp (disch := omega) only [sQ_renew_120, sQ_renew_121, ax_clr_i, ax_clr_l, ax_clr_r, ax_clr_n, ax_ct_0, ax_ct_i, ax_ct_l, ax_ct_r, va_rf_s, Option.toList_some, Option.toList_none, List.cons_append, List.nil_append, and_true, true_and, and_self, ite_true, ite_false, if_true, if_false, Nat.reduceAdd, Nat.reduceLeDiff, Nat.reduceMul, Nat.reduceLT]
          refine nx1 (decide_eq_true ?_).symm
          rw [hdec]; exact ⟨by omega, by omega, e2, e3⟩
        · rw [if_neg e3]
          refine n124 (fun q => e3 ?_)
          rw [hdec] at q; exact q.2.2.2
      · rw [if_neg e2]
        refine n124 (fun q => e2 ?_)
        rw [hdec] at q; exact q.2.2.1
    · rw [if_neg e1]
      refine n124 (fun q => e1 ?_)
      rw [hdec] at q; rw [q.1, q.2.1]
theorem mQ_renew_v (r : Nat) (hr6 : r < 6) (K : List oc4) (h8 : K.length ≤ 8) (hkv : ∀ x ∈ K, x.1 < 12 ∧ x.2.1 ≤ 8 ∧ vT x.2.2.1 ∧ vT x.2.2.2) (V : List (Nat × Nat)) (hvv : ∀ x ∈ V, x.1 < 12 ∧ x.2 < 64 ∧ ocv (oOf us x.1 x.2)) : ∀ (W : List (Nat × Nat)) (v : Nat) (h : ax_H) (u : Nat) (L : List Nat) (x4 x5 x6 x7 : Option Value), V.drop v = W → v + W.length = V.length → h.2.2 = rM → knM h r K → vM us h V → fshM h L → L.length ≤ v → u < 2 ^ 8 → (∀ h', frF h h' → fshM h' (L ++ rnF us K W u) → Q none h') → ax_wp kM d mQ_renew 35 [some (.ref 0), some (.int (nI r)), some (.int (nI u)), some (.int (nI v)), x4, x5, x6, x7] [] h Q
  | [], v, h, u, L, x4, x5, x6, x7, hW, hl, hr, hK, hv, hf, hL, hu, hQ => by
    have v1 := hv.1
    have v2 := hv.2.1
    simp only [List.length_nil] at hl
    rw [sQ_renew_35]
    simp (disch := omega) only [sQ_renew_36, sQ_renew_37, sQ_renew_40, sQ_renew_202, ax_clr_i, ax_clr_l, ax_clr_r, ax_clr_n, ax_ct_0, ax_ct_i, ax_ct_l, ax_ct_r, va_rf_s, Option.toList_some, Option.toList_none, List.cons_append, List.nil_append, and_true, true_and, and_self, ite_true, ite_false, if_true, if_false, Nat.reduceAdd, Nat.reduceLeDiff, Nat.reduceMul, Nat.reduceLT, nI_add, pk_mul, nI_lt', nI_le', nI_eq', nI_lt0, nI_ge0, nI_eq0, nI_gt0, nI_le0, nI_ne_m1, m1_ne_nI, m1_lt_nI, m1_le_nI, nI_lt_m1, nI_le_m1, nI_clamp, ax_in_nI, nI_shl, nI_shr, lg_cmp0, nx_and, nI_eq1, bI_0, bI_1, bf_or, eq_self, or_true, true_or, lt_T, le_T, lt_F, le_F, eq_F, eq_T, kdM_0, kdM_1, kdM_2, kdM_3, kdM_4, kdM_5, kdM_6, kdM_7, kdM_8, kdM_9, kdM_10, kdM_11, kdM_12, kdM_13, kdM_14, kdM_15, kdM_16, kdM_17, kdM_18, kdM_19, kdM_20, kdM_21, kdM_22, kdM_23, kdM_24, rM_0, rM_1, rM_5, rM_6, rM_7, rM_10, rM_11, rM_12, rM_13, rM_14, rM_15, rM_16, rM_18, rM_19, rM_20, rM_21, rM_23, rM_24, rM_25, rM_26, rM_28, rM_29, rM_30, rM_31, v1]
    simp only [rnF, List.append_nil] at hQ
    exact hQ h frF.rf hf
  | w :: W, v, h, u, L, x4, x5, x6, x7, hW, hl, hr, hK, hv, hf, hL, hu, hQ => by
    have v1 := hv.1
    have v2 := hv.2.1
    have k1 := hK.1
    simp only [List.length_cons] at hl
    have hw : vA V v = w := by
      unfold vA
      rw [List.getD_eq_getElem?_getD, show V[v]? = (V.drop v)[0]? by simp, hW]; rfl
    have hW2 : V.drop (v + 1) = W := by rw [← List.tail_drop, hW]; rfl
    have hmem : vA V v ∈ V := by unfold vA; rw [List.getD_eq_getElem?_getD, List.getElem?_eq_getElem (show v < V.length by omega)]; exact List.getElem_mem _
    have hvw := hvv _ hmem
    unfold rnF at hQ
    rw [sQ_renew_35]
    simp (disch := omega) only [sQ_renew_36, sQ_renew_37, sQ_renew_40, sQ_renew_43, sQ_renew_44, sQ_renew_46, sQ_renew_47, sQ_renew_50, sQ_renew_51, sQ_renew_52, sQ_renew_53, sQ_renew_54, ax_clr_i, ax_clr_l, ax_clr_r, ax_clr_n, ax_ct_0, ax_ct_i, ax_ct_l, ax_ct_r, va_rf_s, Option.toList_some, Option.toList_none, List.cons_append, List.nil_append, and_true, true_and, and_self, ite_true, ite_false, if_true, if_false, Nat.reduceAdd, Nat.reduceLeDiff, Nat.reduceMul, Nat.reduceLT, nI_add, pk_mul, nI_lt', nI_le', nI_eq', nI_lt0, nI_ge0, nI_eq0, nI_gt0, nI_le0, nI_ne_m1, m1_ne_nI, m1_lt_nI, m1_le_nI, nI_lt_m1, nI_le_m1, nI_clamp, ax_in_nI, nI_shl, nI_shr, lg_cmp0, nx_and, nI_eq1, bI_0, bI_1, bf_or, eq_self, or_true, true_or, lt_T, le_T, lt_F, le_F, eq_F, eq_T, kdM_0, kdM_1, kdM_2, kdM_3, kdM_4, kdM_5, kdM_6, kdM_7, kdM_8, kdM_9, kdM_10, kdM_11, kdM_12, kdM_13, kdM_14, kdM_15, kdM_16, kdM_17, kdM_18, kdM_19, kdM_20, kdM_21, kdM_22, kdM_23, kdM_24, rM_0, rM_1, rM_5, rM_6, rM_7, rM_10, rM_11, rM_12, rM_13, rM_14, rM_15, rM_16, rM_18, rM_19, rM_20, rM_21, rM_23, rM_24, rM_25, rM_26, rM_28, rM_29, rM_30, rM_31, v1, hr, k1, nI_s1]
    have h9 := mQ_renew_k (us := us) (d := d) (Q := Q) hr r hr6 K hK h8 hkv V hv v (by omega) ⟨hvw.1, hvw.2.2⟩ u hu K.length none x6 x7 (by omega)
    rw [oI_n] at h9
    refine h9 (fun y5 y6 y7 => ?_)
    rw [bkF_eq, hw]
    cases hm : fdF (eqK us K w u) K.length 0 with
    | some k =>
      have hk := fdF_some _ _ _ _ hm
      rw [hm] at hQ
      dsimp only at hQ ⊢
      rw [oI_s]
      simp (disch := omega) only [sQ_renew_156, sQ_renew_158, sQ_renew_161, sQ_renew_162, sQ_renew_163, ax_clr_i, ax_clr_l, ax_clr_r, ax_clr_n, ax_ct_0, ax_ct_i, ax_ct_l, ax_ct_r, va_rf_s, Option.toList_some, Option.toList_none, List.cons_append, List.nil_append, and_true, true_and, and_self, ite_true, ite_false, if_true, if_false, Nat.reduceAdd, Nat.reduceLeDiff, Nat.reduceMul, Nat.reduceLT, nI_add, pk_mul, nI_lt', nI_le', nI_eq', nI_lt0, nI_ge0, nI_eq0, nI_gt0, nI_le0, nI_ne_m1, m1_ne_nI, m1_lt_nI, m1_le_nI, nI_lt_m1, nI_le_m1, nI_clamp, ax_in_nI, nI_shl, nI_shr, lg_cmp0, nx_and, nI_eq1, bI_0, bI_1, bf_or, eq_self, or_true, true_or]
      have hp : 2 ^ k < 2 ^ 32 := Nat.pow_lt_pow_right (by decide) (by omega)
      simp (disch := omega) only [sQ_renew_165, sQ_renew_166, sQ_renew_167, sQ_renew_168, sQ_renew_196, sQ_renew_199, ax_clr_i, ax_clr_l, ax_clr_r, ax_clr_n, ax_ct_0, ax_ct_i, ax_ct_l, ax_ct_r, va_rf_s, Option.toList_some, Option.toList_none, List.cons_append, List.nil_append, and_true, true_and, and_self, ite_true, ite_false, if_true, if_false, Nat.reduceAdd, Nat.reduceLeDiff, Nat.reduceMul, Nat.reduceLT, nI_add, pk_mul, nI_lt', nI_le', nI_eq', nI_lt0, nI_ge0, nI_eq0, nI_gt0, nI_le0, nI_ne_m1, m1_ne_nI, m1_lt_nI, m1_le_nI, nI_lt_m1, nI_le_m1, nI_clamp, ax_in_nI, nI_shl, nI_shr, lg_cmp0, nx_and, nI_eq1, bI_0, bI_1, bf_or, eq_self, or_true, true_or, Nat.one_mul, nI_or]
      exact mQ_renew_v r hr6 K h8 hkv V hvv W (v + 1) h _ L _ _ _ _ hW2 (by omega) hr hK hv hf (by omega) (or_lt hu (by omega)) hQ
    | none =>
      rw [hm] at hQ
      dsimp only at hQ ⊢
      rw [oI_n]
      simp (disch := omega) only [sQ_renew_156, sQ_renew_158, ax_clr_i, ax_clr_l, ax_clr_r, ax_clr_n, ax_ct_0, ax_ct_i, ax_ct_l, ax_ct_r, va_rf_s, Option.toList_some, Option.toList_none, List.cons_append, List.nil_append, and_true, true_and, and_self, ite_true, ite_false, if_true, if_false, Nat.reduceAdd, Nat.reduceLeDiff, Nat.reduceMul, Nat.reduceLT]
      rw [if_pos (by decide)]
      have a2 := (hv.2.2 v (by omega)).2.1
      rw [hw] at a2 hvw
      have f1 := hf.1
      simp (disch := omega) only [sQ_renew_171, sQ_renew_172, sQ_renew_175, sQ_renew_176, sQ_renew_179, sQ_renew_180, sQ_renew_183, sQ_renew_184, sQ_renew_185, sQ_renew_186, sQ_renew_187, sQ_renew_187r, sQ_renew_188, sQ_renew_191, sQ_renew_192, sQ_renew_193, sQ_renew_196, sQ_renew_199, ax_clr_i, ax_clr_l, ax_clr_r, ax_clr_n, ax_ct_0, ax_ct_i, ax_ct_l, ax_ct_r, va_rf_s, Option.toList_some, Option.toList_none, List.cons_append, List.nil_append, and_true, true_and, and_self, ite_true, ite_false, if_true, if_false, Nat.reduceAdd, Nat.reduceLeDiff, Nat.reduceMul, Nat.reduceLT, nI_add, pk_mul, nI_lt', nI_le', nI_eq', nI_lt0, nI_ge0, nI_eq0, nI_gt0, nI_le0, nI_ne_m1, m1_ne_nI, m1_lt_nI, m1_le_nI, nI_lt_m1, nI_le_m1, nI_clamp, ax_in_nI, nI_shl, nI_shr, lg_cmp0, nx_and, nI_eq1, bI_0, bI_1, bf_or, eq_self, or_true, true_or, lt_T, le_T, lt_F, le_F, eq_F, eq_T, kdM_0, kdM_1, kdM_2, kdM_3, kdM_4, kdM_5, kdM_6, kdM_7, kdM_8, kdM_9, kdM_10, kdM_11, kdM_12, kdM_13, kdM_14, kdM_15, kdM_16, kdM_17, kdM_18, kdM_19, kdM_20, kdM_21, kdM_22, kdM_23, kdM_24, rM_0, rM_1, rM_5, rM_6, rM_7, rM_10, rM_11, rM_12, rM_13, rM_14, rM_15, rM_16, rM_18, rM_19, rM_20, rM_21, rM_23, rM_24, rM_25, rM_26, rM_28, rM_29, rM_30, rM_31, hr, f1, a2, up_I, up_I2, Nat.reduceEqDiff, and_false, false_and, reduceIte]
      obtain ⟨g1, g2⟩ := hf.app (64 * w.1 + w.2) (by omega)
      have ga := g2.a
      refine mQ_renew_v r hr6 K h8 hkv V hvv W (v + 1) _ u (L ++ [64 * w.1 + w.2]) _ _ _ _ hW2 (by omega) (by rw [g2.1]; exact hr) (hK.a ga) ?_ g1 (by simp; omega) hu (fun h' f o => hQ h' (g2.tr f) ?_)
      · refine ⟨by rw [g2.2 _ _ (by omega) (by omega)]; exact v1, v2, fun j hj => ?_⟩
        rw [g2.2 _ _ (by omega) (by omega), g2.2 _ _ (by omega) (by omega), g2.1]; exact hv.2.2 j hj
      · rw [List.append_assoc] at o; exact o
theorem mQ_renew_ {h : ax_H} (hc : clsM h us) (hp : patM h ps ty) (hru : rulM h ps.length rs) (r : Nat) (hrl : r < rs.length) (hQ : ∀ h', frA h h' → fshM h' (frU us ps (rA rs r)) → Q none h') : ax_wp kM (d + 11) mQ_renew 0 [some (.ref 0), some (.int (nI r)), none, none, none, none, none, none] [] h Q := by
  have hr := hc.1
  have h12 := hc.2.2.1
  have r6 := hru.2.1
  obtain ⟨k1, k2, k3, k4, k5, k6, k7⟩ := hru.2.2.1 r hrl
  unfold frU at hQ
  have fa : frA h (ax_upI h 0 27 (nI 0)) := frA.up (by omega)
  have f0 : fshM (ax_upI h 0 27 (nI 0)) [] := ⟨up_at _ _ _ _, by simp, fun i hi => by simp at hi⟩
  have kk : (rA rs r).1 ≤ 3 := by rcases k5 with q | q <;> omega
  simp (disch := omega) only [sQ_renew_0, sQ_renew_1, sQ_renew_2, sQ_renew_5, sQ_renew_6, sQ_renew_9, sQ_renew_10, sQ_renew_11, sQ_renew_12, ax_clr_i, ax_clr_l, ax_clr_r, ax_clr_n, ax_ct_0, ax_ct_i, ax_ct_l, ax_ct_r, va_rf_s, Option.toList_some, Option.toList_none, List.cons_append, List.nil_append, and_true, true_and, and_self, ite_true, ite_false, if_true, if_false, Nat.reduceAdd, Nat.reduceLeDiff, Nat.reduceMul, Nat.reduceLT, nI_add, pk_mul, nI_lt', nI_le', nI_eq', nI_lt0, nI_ge0, nI_eq0, nI_gt0, nI_le0, nI_ne_m1, m1_ne_nI, m1_lt_nI, m1_le_nI, nI_lt_m1, nI_le_m1, nI_clamp, ax_in_nI, nI_shl, nI_shr, lg_cmp0, nx_and, nI_eq1, bI_0, bI_1, bf_or, eq_self, or_true, true_or, lt_T, le_T, lt_F, le_F, eq_F, eq_T, kdM_0, kdM_1, kdM_2, kdM_3, kdM_4, kdM_5, kdM_6, kdM_7, kdM_8, kdM_9, kdM_10, kdM_11, kdM_12, kdM_13, kdM_14, kdM_15, kdM_16, kdM_17, kdM_18, kdM_19, kdM_20, kdM_21, kdM_22, kdM_23, kdM_24, rM_0, rM_1, rM_5, rM_6, rM_7, rM_10, rM_11, rM_12, rM_13, rM_14, rM_15, rM_16, rM_18, rM_19, rM_20, rM_21, rM_23, rM_24, rM_25, rM_26, rM_28, rM_29, rM_30, rM_31, hr, k1, up_I, up_I2, Nat.reduceEqDiff, and_false, false_and, reduceIte]
  by_cases e : (rA rs r).1 = 3
  · rw [if_pos e] at hQ ⊢
    have hw : (rA rs r).2.1 = 1 ∨ (rA rs r).2.1 = 2 := by rcases k5 with q | q <;> omega
    simp (disch := omega) only [sQ_renew_15, sQ_renew_16, sQ_renew_17, sQ_renew_20, sQ_renew_21, sQ_renew_22, ax_clr_i, ax_clr_l, ax_clr_r, ax_clr_n, ax_ct_0, ax_ct_i, ax_ct_l, ax_ct_r, va_rf_s, Option.toList_some, Option.toList_none, List.cons_append, List.nil_append, and_true, true_and, and_self, ite_true, ite_false, if_true, if_false, Nat.reduceAdd, Nat.reduceLeDiff, Nat.reduceMul, Nat.reduceLT, nI_add, pk_mul, nI_lt', nI_le', nI_eq', nI_lt0, nI_ge0, nI_eq0, nI_gt0, nI_le0, nI_ne_m1, m1_ne_nI, m1_lt_nI, m1_le_nI, nI_lt_m1, nI_le_m1, nI_clamp, ax_in_nI, nI_shl, nI_shr, lg_cmp0, nx_and, nI_eq1, bI_0, bI_1, bf_or, eq_self, or_true, true_or, lt_T, le_T, lt_F, le_F, eq_F, eq_T, kdM_0, kdM_1, kdM_2, kdM_3, kdM_4, kdM_5, kdM_6, kdM_7, kdM_8, kdM_9, kdM_10, kdM_11, kdM_12, kdM_13, kdM_14, kdM_15, kdM_16, kdM_17, kdM_18, kdM_19, kdM_20, kdM_21, kdM_22, kdM_23, kdM_24, rM_0, rM_1, rM_5, rM_6, rM_7, rM_10, rM_11, rM_12, rM_13, rM_14, rM_15, rM_16, rM_18, rM_19, rM_20, rM_21, rM_23, rM_24, rM_25, rM_26, rM_28, rM_29, rM_30, rM_31, hr, k2, up_I, up_I2, Nat.reduceEqDiff, and_false, false_and, reduceIte]
    refine mQ_cycles_ (d := d + 4) (hc.a fa) f0 _ (by omega) (by omega) (fun h' f o => ?_)
    simp (disch := omega) only [sQ_renew_25, ax_clr_i, ax_clr_l, ax_clr_r, ax_clr_n, ax_ct_0, ax_ct_i, ax_ct_l, ax_ct_r, va_rf_s, Option.toList_some, Option.toList_none, List.cons_append, List.nil_append, and_true, true_and, and_self, ite_true, ite_false, if_true, if_false, Nat.reduceAdd, Nat.reduceLeDiff, Nat.reduceMul, Nat.reduceLT]
    exact hQ h' (fa.tr f) o
  · rw [if_neg e] at hQ ⊢
    simp (disch := omega) only [sQ_renew_26, sQ_renew_27, sQ_renew_28, ax_clr_i, ax_clr_l, ax_clr_r, ax_clr_n, ax_ct_0, ax_ct_i, ax_ct_l, ax_ct_r, va_rf_s, Option.toList_some, Option.toList_none, List.cons_append, List.nil_append, and_true, true_and, and_self, ite_true, ite_false, if_true, if_false, Nat.reduceAdd, Nat.reduceLeDiff, Nat.reduceMul, Nat.reduceLT, kdM_0, kdM_1, kdM_2, kdM_3, kdM_4, kdM_5, kdM_6, kdM_7, kdM_8, kdM_9, kdM_10, kdM_11, kdM_12, kdM_13, kdM_14, kdM_15, kdM_16, kdM_17, kdM_18, kdM_19, kdM_20, kdM_21, kdM_22, kdM_23, kdM_24, rM_0, rM_1, rM_5, rM_6, rM_7, rM_10, rM_11, rM_12, rM_13, rM_14, rM_15, rM_16, rM_18, rM_19, rM_20, rM_21, rM_23, rM_24, rM_25, rM_26, rM_28, rM_29, rM_30, rM_31]
    refine mQ_gather_ (hc.a fa) (hp.a fa) (hru.a fa) r hrl (by omega) (fun h1 f1 o1 => ?_)
    have f2 := fa.tr f1.a
    simp (disch := omega) only [sQ_renew_31, sQ_renew_32, sQ_renew_33, sQ_renew_34, ax_clr_i, ax_clr_l, ax_clr_r, ax_clr_n, ax_ct_0, ax_ct_i, ax_ct_l, ax_ct_r, va_rf_s, Option.toList_some, Option.toList_none, List.cons_append, List.nil_append, and_true, true_and, and_self, ite_true, ite_false, if_true, if_false, Nat.reduceAdd, Nat.reduceLeDiff, Nat.reduceMul, Nat.reduceLT]
    obtain ⟨g1, g2⟩ := gC_v us ps (rA rs r) (fun c h1 => (hc.2.2.2.2 c h1).2) us.length 0 (by omega)
    refine mQ_renew_v r (by omega) (rA rs r).2.2.2 k6 k7 (gaU us ps (rA rs r)) (fun x hx => ?_) (gaU us ps (rA rs r)) 0 h1 0 [] _ _ _ _ (by simp) (by omega) (by rw [f2.1]; exact hr) (k4.a f2) o1 (f0.g f1) (by simp) (by decide) (fun h' f o => hQ h' (f2.tr f.a) ?_)
    · have q := g2 x hx
      have l := (ocU_v (hc.2.2.2.2 x.1 q.1).2).2
      exact ⟨by omega, by omega, ocA_v (hc.2.2.2.2 x.1 q.1).2 q.2⟩
    · rw [List.nil_append] at o; exact o
theorem frU_len {h : ax_H} (hc : clsM h us) (x : rl4) : (frU us ps x).length ≤ 624 := by
  have h12 := hc.2.2.1
  unfold frU
  by_cases e : x.1 = 3
  · rw [if_pos e]; have := cyF_len (clN (wS us x.2.1 us.length) 12) 12 0 []; unfold cyL; simp at this; omega
  · rw [if_neg e]
    have h1 := rnF_len us x.2.2.2 (gaU us ps x) 0
    have h2 := (gC_v us ps x (fun c h1 => (hc.2.2.2.2 c h1).2) us.length 0 (by omega)).1
    unfold gaU at h1 ⊢
    omega
theorem mQ_violations_ {h : ax_H} (hc : clsM h us) (hp : patM h ps ty) (hru : rulM h ps.length rs) (x : Int32) (hQ : ∀ h', frA h h' → (∀ r, ixN x rs.length = some r → fshM h' (frU us ps (rA rs r))) → Q (some (.int (aVls us ps rs x))) h') : ax_wp kM (d + 12) mQ_violations 0 [some (.ref 0), some (.int x)] [] h Q := by
  have r6 := hru.2.1
  unfold aVls at hQ
  cases e : ixN x rs.length with
  | none =>
    rw [e] at hQ
    simp (disch := omega) only [sQ_violations_0, sQ_violations_1, sQ_violations_2, sQ_violations_5, sQ_violations_8, sQ_violations_9, ax_clr_i, ax_clr_l, ax_clr_r, ax_clr_n, ax_ct_0, ax_ct_i, ax_ct_l, ax_ct_r, va_rf_s, Option.toList_some, Option.toList_none, List.cons_append, List.nil_append, and_true, true_and, and_self, ite_true, ite_false, if_true, if_false, Nat.reduceAdd, Nat.reduceLeDiff, Nat.reduceMul, Nat.reduceLT, nI_add, pk_mul, nI_lt', nI_le', nI_eq', nI_lt0, nI_ge0, nI_eq0, nI_gt0, nI_le0, nI_ne_m1, m1_ne_nI, m1_lt_nI, m1_le_nI, nI_lt_m1, nI_le_m1, nI_clamp, ax_in_nI, nI_shl, nI_shr, lg_cmp0, nx_and, nI_eq1, bI_0, bI_1, bf_or, eq_self, or_true, true_or, kdM_0, kdM_1, kdM_2, kdM_3, kdM_4, kdM_5, kdM_6, kdM_7, kdM_8, kdM_9, kdM_10, kdM_11, kdM_12, kdM_13, kdM_14, kdM_15, kdM_16, kdM_17, kdM_18, kdM_19, kdM_20, kdM_21, kdM_22, kdM_23, kdM_24, rM_0, rM_1, rM_5, rM_6, rM_7, rM_10, rM_11, rM_12, rM_13, rM_14, rM_15, rM_16, rM_18, rM_19, rM_20, rM_21, rM_23, rM_24, rM_25, rM_26, rM_28, rM_29, rM_30, rM_31, mQ_isRule_ hru, e, Option.isSome_none]
    exact hQ h frA.rf (fun r q => by cases q)
  | some r =>
    obtain ⟨a1, rfl⟩ := ixN_some (by omega) e
    rw [e] at hQ
    simp (disch := omega) only [sQ_violations_0, sQ_violations_1, sQ_violations_2, sQ_violations_5, sQ_violations_8, sQ_violations_9, sQ_violations_10, sQ_violations_11, sQ_violations_12, ax_clr_i, ax_clr_l, ax_clr_r, ax_clr_n, ax_ct_0, ax_ct_i, ax_ct_l, ax_ct_r, va_rf_s, Option.toList_some, Option.toList_none, List.cons_append, List.nil_append, and_true, true_and, and_self, ite_true, ite_false, if_true, if_false, Nat.reduceAdd, Nat.reduceLeDiff, Nat.reduceMul, Nat.reduceLT, nI_add, pk_mul, nI_lt', nI_le', nI_eq', nI_lt0, nI_ge0, nI_eq0, nI_gt0, nI_le0, nI_ne_m1, m1_ne_nI, m1_lt_nI, m1_le_nI, nI_lt_m1, nI_le_m1, nI_clamp, ax_in_nI, nI_shl, nI_shr, lg_cmp0, nx_and, nI_eq1, bI_0, bI_1, bf_or, eq_self, or_true, true_or, kdM_0, kdM_1, kdM_2, kdM_3, kdM_4, kdM_5, kdM_6, kdM_7, kdM_8, kdM_9, kdM_10, kdM_11, kdM_12, kdM_13, kdM_14, kdM_15, kdM_16, kdM_17, kdM_18, kdM_19, kdM_20, kdM_21, kdM_22, kdM_23, kdM_24, rM_0, rM_1, rM_5, rM_6, rM_7, rM_10, rM_11, rM_12, rM_13, rM_14, rM_15, rM_16, rM_18, rM_19, rM_20, rM_21, rM_23, rM_24, rM_25, rM_26, rM_28, rM_29, rM_30, rM_31, mQ_isRule_ hru, e, Option.isSome_some, Bool.true_eq_false]
    refine mQ_renew_ hc hp hru r a1 (fun h' f o => ?_)
    have o1 := o.1
    simp (disch := omega) only [sQ_violations_15, sQ_violations_16, sQ_violations_19, ax_clr_i, ax_clr_l, ax_clr_r, ax_clr_n, ax_ct_0, ax_ct_i, ax_ct_l, ax_ct_r, va_rf_s, Option.toList_some, Option.toList_none, List.cons_append, List.nil_append, and_true, true_and, and_self, ite_true, ite_false, if_true, if_false, Nat.reduceAdd, Nat.reduceLeDiff, Nat.reduceMul, Nat.reduceLT, kdM_0, kdM_1, kdM_2, kdM_3, kdM_4, kdM_5, kdM_6, kdM_7, kdM_8, kdM_9, kdM_10, kdM_11, kdM_12, kdM_13, kdM_14, kdM_15, kdM_16, kdM_17, kdM_18, kdM_19, kdM_20, kdM_21, kdM_22, kdM_23, kdM_24, rM_0, rM_1, rM_5, rM_6, rM_7, rM_10, rM_11, rM_12, rM_13, rM_14, rM_15, rM_16, rM_18, rM_19, rM_20, rM_21, rM_23, rM_24, rM_25, rM_26, rM_28, rM_29, rM_30, rM_31, o1]
    exact hQ h' f (fun r2 q => by simp only [Option.some.injEq] at q; subst q; exact o)
theorem mQ_violation_ {h : ax_H} (hc : clsM h us) (hp : patM h ps ty) (hru : rulM h ps.length rs) (x y : Int32) (hQ : ∀ h', frA h h' → Q (some (.int (aVio us ps rs x y))) h') : ax_wp kM (d + 13) mQ_violation 0 [some (.ref 0), some (.int x), some (.int y), none] [] h Q := by
  have r6 := hru.2.1
  unfold aVio at hQ
  simp (disch := omega) only [sQ_violation_0, sQ_violation_1, sQ_violation_2, ax_clr_i, ax_clr_l, ax_clr_r, ax_clr_n, ax_ct_0, ax_ct_i, ax_ct_l, ax_ct_r, va_rf_s, Option.toList_some, Option.toList_none, List.cons_append, List.nil_append, and_true, true_and, and_self, ite_true, ite_false, if_true, if_false, Nat.reduceAdd, Nat.reduceLeDiff, Nat.reduceMul, Nat.reduceLT, kdM_0, kdM_1, kdM_2, kdM_3, kdM_4, kdM_5, kdM_6, kdM_7, kdM_8, kdM_9, kdM_10, kdM_11, kdM_12, kdM_13, kdM_14, kdM_15, kdM_16, kdM_17, kdM_18, kdM_19, kdM_20, kdM_21, kdM_22, kdM_23, kdM_24, rM_0, rM_1, rM_5, rM_6, rM_7, rM_10, rM_11, rM_12, rM_13, rM_14, rM_15, rM_16, rM_18, rM_19, rM_20, rM_21, rM_23, rM_24, rM_25, rM_26, rM_28, rM_29, rM_30, rM_31]
  refine mQ_violations_ hc hp hru x (fun h1 f1 o1 => ?_)
  have hc1 := hc.a f1
  have hr1 := hc1.1
  have no : ∀ y3, ax_wp kM (d + 13) mQ_violation 15 [some (.ref 0), some (.int x), some (.int y), some (.int y3)] [] h1 Q = Q (some (.int (-1))) h1 := fun y3 => by
    simp (disch := omega) only [sQ_violation_15, sQ_violation_16, sQ_violation_25, ax_clr_i, ax_clr_l, ax_clr_r, ax_clr_n, ax_ct_0, ax_ct_i, ax_ct_l, ax_ct_r, va_rf_s, Option.toList_some, Option.toList_none, List.cons_append, List.nil_append, and_true, true_and, and_self, ite_true, ite_false, if_true, if_false, Nat.reduceAdd, Nat.reduceLeDiff, Nat.reduceMul, Nat.reduceLT]
  simp (disch := omega) only [sQ_violation_5, sQ_violation_6, sQ_violation_7, ax_clr_i, ax_clr_l, ax_clr_r, ax_clr_n, ax_ct_0, ax_ct_i, ax_ct_l, ax_ct_r, va_rf_s, Option.toList_some, Option.toList_none, List.cons_append, List.nil_append, and_true, true_and, and_self, ite_true, ite_false, if_true, if_false, Nat.reduceAdd, Nat.reduceLeDiff, Nat.reduceMul, Nat.reduceLT]
  have q9 := hQ h1 f1
  unfold aVls
  by_cases e1 : y < 0
  · rw [if_pos e1, no]
    have : ∀ n, ixN y n = none := fun n => by unfold ixN; rw [if_neg (fun q => absurd e1 (by rw [Int32.not_lt]; exact q.1))]
    cases e : ixN x rs.length with
    | none => rw [e] at q9; exact q9
    | some r => rw [e] at q9; dsimp only at q9; rw [this] at q9; exact q9
  · rw [if_neg e1]
    simp (disch := omega) only [sQ_violation_10, sQ_violation_11, sQ_violation_12, ax_clr_i, ax_clr_l, ax_clr_r, ax_clr_n, ax_ct_0, ax_ct_i, ax_ct_l, ax_ct_r, va_rf_s, Option.toList_some, Option.toList_none, List.cons_append, List.nil_append, and_true, true_and, and_self, ite_true, ite_false, if_true, if_false, Nat.reduceAdd, Nat.reduceLeDiff, Nat.reduceMul, Nat.reduceLT]
    cases e : ixN x rs.length with
    | none =>
      rw [e] at q9
      dsimp only
      rw [if_neg, no]
      · exact q9
      · rw [Int32.not_lt]
        have := Int32.not_lt.mp e1
        rw [Int32.le_iff_toInt_le] at this ⊢
        have h0 : (0 : Int32).toInt = 0 := by decide
        have h2 : (-1 : Int32).toInt = -1 := by decide
        omega
    | some r =>
      have o2 := o1 r e
      have l := frU_len (ps := ps) hc (rA rs r)
      rw [e] at q9
      dsimp only at q9 ⊢
      cases e2 : ixN y (frU us ps (rA rs r)).length with
      | none =>
        rw [e2] at q9
        rw [if_neg (by rw [Int32.not_lt]; exact lt_not (ixN_none e2) e1), no]
        exact q9
      | some i =>
        obtain ⟨a1, rfl⟩ := ixN_some (by omega) e2
        rw [e2] at q9
        rw [if_pos (by rw [nI_lt' (by omega) (by omega)]; exact a1)]
        have o3 := o2.2.2 i a1
        simp (disch := omega) only [sQ_violation_19, sQ_violation_20, sQ_violation_23, sQ_violation_24, sQ_violation_25, ax_clr_i, ax_clr_l, ax_clr_r, ax_clr_n, ax_ct_0, ax_ct_i, ax_ct_l, ax_ct_r, va_rf_s, Option.toList_some, Option.toList_none, List.cons_append, List.nil_append, and_true, true_and, and_self, ite_true, ite_false, if_true, if_false, Nat.reduceAdd, Nat.reduceLeDiff, Nat.reduceMul, Nat.reduceLT, nI_add, pk_mul, nI_lt', nI_le', nI_eq', nI_lt0, nI_ge0, nI_eq0, nI_gt0, nI_le0, nI_ne_m1, m1_ne_nI, m1_lt_nI, m1_le_nI, nI_lt_m1, nI_le_m1, nI_clamp, ax_in_nI, nI_shl, nI_shr, lg_cmp0, nx_and, nI_eq1, bI_0, bI_1, bf_or, eq_self, or_true, true_or, lt_T, le_T, lt_F, le_F, eq_F, eq_T, kdM_0, kdM_1, kdM_2, kdM_3, kdM_4, kdM_5, kdM_6, kdM_7, kdM_8, kdM_9, kdM_10, kdM_11, kdM_12, kdM_13, kdM_14, kdM_15, kdM_16, kdM_17, kdM_18, kdM_19, kdM_20, kdM_21, kdM_22, kdM_23, kdM_24, rM_0, rM_1, rM_5, rM_6, rM_7, rM_10, rM_11, rM_12, rM_13, rM_14, rM_15, rM_16, rM_18, rM_19, rM_20, rM_21, rM_23, rM_24, rM_25, rM_26, rM_28, rM_29, rM_30, rM_31, hr1, o3]
        exact q9
end MV
