/-! the model: the search for a member -/
def kd1 (o : Option Nat) : List Nat := match o with
  | some r => [r]
  | none => []
/-- what is searched behind a class: interfaces in order, then (for fields) SUPER -/
def kids (us : List (List Nat)) (fl : Bool) (c : Nat) : List Nat := kd1 (parU us c 1) ++ (kd1 (parU us c 2) ++ (kd1 (parU us c 3) ++ (if fl = true then kd1 (parU us c 0) else [])))
def hsU (us : List (List Nat)) (fl : Bool) (t : List Nat) (c : Nat) : Bool := if fl = true then hasF (uAt us c) t else hasM (uAt us c) t
def srch (us : List (List Nat)) (fl : Bool) (t : List Nat) : Nat → List Nat → Nat → Option Nat
  | 0, _, _ => none
  | _ + 1, [], _ => none
  | f + 1, c :: st, v => if v.testBit c = true then srch us fl t f st v else if hsU us fl t c = true then some c else srch us fl t f (kids us fl c ++ st) (v ||| 2 ^ c)
def uns (v : Nat) : Nat → Nat
  | 0 => 0
  | k + 1 => uns v k + (if v.testBit k = true then 0 else 1)
theorem uns_lo (v c : Nat) : ∀ k, k ≤ c → uns (v ||| 2 ^ c) k = uns v k
  | 0, _ => rfl
  | k + 1, h => by rw [uns, uns, uns_lo v c k (by omega), tb_ne (by omega)]
theorem uns_hi (v c : Nat) (hv : ¬ v.testBit c = true) : ∀ k, c < k → uns (v ||| 2 ^ c) k + 1 = uns v k
  | 0, h => absurd h (by omega)
  | k + 1, h => by
    rw [uns, uns]
    by_cases e : k = c
    · subst e; rw [uns_lo v k k (by omega), tb_eq, if_pos rfl, if_neg hv]
    · rw [tb_ne (fun hh => e hh.symm)]; have := uns_hi v c hv k (by omega); omega
theorem uns_le (v : Nat) : ∀ k, uns v k ≤ k
  | 0 => Nat.le_refl _
  | k + 1 => by rw [uns]; have := uns_le v k; split <;> omega
theorem kd1_len (o : Option Nat) : (kd1 o).length ≤ 1 := by cases o <;> simp [kd1]
theorem kids_len (us : List (List Nat)) (fl : Bool) (c : Nat) : (kids us fl c).length ≤ 4 := by
  have h0 := kd1_len (parU us c 0)
  have h1 := kd1_len (parU us c 1)
  have h2 := kd1_len (parU us c 2)
  have h3 := kd1_len (parU us c 3)
  unfold kids
  cases fl <;> simp [List.length_append] <;> omega
def stkM (h : ax_H) (us : List (List Nat)) (st : List Nat) : Prop := (∀ i, i < st.length → h.1 23 i = nI (st.reverse.getD i 0)) ∧ ∀ c ∈ st, c < us.length
def frS (h h' : ax_H) : Prop := h'.2 = h.2 ∧ ∀ r k, ¬ r = 23 → h'.1 r k = h.1 r k
theorem frS.rf {h : ax_H} : frS h h := ⟨rfl, fun _ _ _ => rfl⟩
theorem frS.tr {h h' h2 : ax_H} (a : frS h h') (b : frS h' h2) : frS h h2 := ⟨b.1.trans a.1, fun r k h1 => (b.2 r k h1).trans (a.2 r k h1)⟩
theorem frS.up {h : ax_H} {k : Nat} {x : Int32} : frS h (ax_upI h 23 k x) := ⟨rfl, fun r j h1 => by rw [up_I, if_neg (fun hh => h1 hh.1)]⟩
theorem clsM.frS {h h' : ax_H} {us : List (List Nat)} (hc : clsM h us) (f : frS h h') : clsM h' us := by
  obtain ⟨a1, a2, a3, a4, a5⟩ := hc
  refine ⟨by rw [f.1]; exact a1, ?_, a3, a4, fun c hc => ?_⟩
  · rw [f.2 _ _ (by omega)]; exact a2
  · obtain ⟨b1, b2, b3, b4⟩ := (a5 c hc).1
    exact ⟨⟨by rw [f.1]; exact b1, b2, fun j hj => by rw [f.2 _ _ (by omega)]; exact b3 j hj, b4⟩, (a5 c hc).2⟩
theorem ocM.frS {h h' : ax_H} {L : List oc4} (ho : ocM h L) (f : frS h h') : ocM h' L := by
  refine ⟨by rw [f.2 _ _ (by omega)]; exact ho.1, ho.2.1, fun i hi => ?_⟩
  rw [f.2 _ _ (by omega), f.2 _ _ (by omega), f.1]
  exact ho.2.2 i hi
theorem stkM.push {h : ax_H} {us : List (List Nat)} {st : List Nat} (hs : stkM h us st) {r : Nat} (hr : r < us.length) : stkM (ax_upI h 23 st.length (nI r)) us (r :: st) := by
  refine ⟨fun i hi => ?_, fun c hc => ?_⟩
  · rw [up_I, List.reverse_cons]
    by_cases e : i = st.length
    · subst e; simp [List.getD_eq_getElem?_getD]
    · have hi2 : i < st.length := by simp at hi; omega
      rw [if_neg (fun hh => e hh.2), hs.1 i hi2]
      congr 1
      simp only [List.getD_eq_getElem?_getD]
      rw [List.getElem?_append_left (by simpa using hi2)]
  · rcases List.mem_cons.mp hc with rfl | h
    · exact hr
    · exact hs.2 c h
theorem stkM.pop {h : ax_H} {us : List (List Nat)} {c : Nat} {st : List Nat} (hs : stkM h us (c :: st)) : h.1 23 st.length = nI c ∧ stkM h us st ∧ c < us.length := by
  refine ⟨?_, ⟨fun i hi => ?_, fun x hx => hs.2 x (by simp [hx])⟩, hs.2 c (by simp)⟩
  · rw [hs.1 st.length (by simp), List.reverse_cons]
    congr 1
    simp [List.getD_eq_getElem?_getD]
  · rw [hs.1 i (by simp; omega), List.reverse_cons]
    congr 1
    simp only [List.getD_eq_getElem?_getD]
    rw [List.getElem?_append_left (by simpa using hi)]
section MX
variable {d : Nat} {us : List (List Nat)} {Q : Option Value → ax_H → Prop}
/-- one push of a parent, if there is one -/
theorem mQ_search_k (t : List Nat) (fl : Bool) (x1 : Option Value) (c v : Nat) (hcl : c < us.length) (y8 : Int32) (k : Nat) (h : ax_H) (st : List Nat) (x10 : Option Value) (h1 : 1 ≤ k) (h3 : k ≤ 3) (hc : clsM h us) (hs : stkM h us st) (hl : st.length ≤ 60)
    (hQ : ∀ h' x10, frS h h' → stkM h' us (kd1 (parU us c k) ++ st) → ax_wp kM (d + 6) mQ_search 98 [some (.ref 0), x1, some (.long (lN (pB t))), none, some (.int (bI fl)), some (.int (nI (kd1 (parU us c k) ++ st).length)), some (.int (nI v)), some (.int (nI c)), some (.int y8), some (.int (nI (k - 1))), x10] [] h' Q) :
    ax_wp kM (d + 6) mQ_search 98 [some (.ref 0), x1, some (.long (lN (pB t))), none, some (.int (bI fl)), some (.int (nI st.length)), some (.int (nI v)), some (.int (nI c)), some (.int y8), some (.int (nI k)), x10] [] h Q := by
  have hr := hc.1
  have h12 := hc.2.2.1
  rw [sQ_search_98]
  simp (disch := omega) only [sQ_search_100, sQ_search_101, sQ_search_104, sQ_search_105, sQ_search_107, sQ_search_109, ax_clr_i, ax_clr_l, ax_clr_r, ax_clr_n, ax_ct_0, ax_ct_i, ax_ct_l, ax_ct_r, va_rf_s, Option.toList_some, Option.toList_none, List.cons_append, List.nil_append, and_true, true_and, and_self, ite_true, ite_false, if_true, if_false, Nat.reduceAdd, Nat.reduceLeDiff, Nat.reduceMul, Nat.reduceLT, nI_add, pk_mul, nI_lt', nI_le', nI_eq', nI_lt0, nI_ge0, nI_eq0, nI_gt0, nI_le0, nI_ne_m1, m1_ne_nI, m1_lt_nI, m1_le_nI, nI_lt_m1, nI_le_m1, nI_clamp, ax_in_nI, nI_shl, nI_shr, lg_cmp0, nx_and, nI_eq1, bI_0, bI_1, bf_or, eq_self, or_true, true_or, lt_T, le_T, lt_F, le_F, eq_F, eq_T, kdM_0, kdM_1, kdM_2, kdM_3, kdM_4, kdM_5, kdM_6, kdM_7, kdM_8, kdM_9, kdM_10, kdM_11, kdM_12, kdM_13, kdM_14, kdM_15, kdM_16, kdM_17, kdM_18, kdM_19, kdM_20, kdM_21, kdM_22, kdM_23, kdM_24, rM_0, rM_1, rM_5, rM_6, rM_7, rM_10, rM_11, rM_12, rM_13, rM_14, rM_15, rM_16, rM_18, rM_19, rM_20, rM_21, rM_23, rM_24, rM_25, rM_26, rM_28, rM_29, rM_30, rM_31, mQ_parent_ hc c k hcl]
  cases hp : parU us c k with
  | none =>
    have e : oI none = -1 := rfl
    rw [e]
    rw [hp] at hQ
    have := hQ h (some (.int (-1))) frS.rf hs
    simp (disch := omega) only [sQ_search_112, sQ_search_114, sQ_search_116, sQ_search_119, sQ_search_120, sQ_search_123, sQ_search_125, sQ_search_128, sQ_search_130, sQ_search_131, sQ_search_134, ax_clr_i, ax_clr_l, ax_clr_r, ax_clr_n, ax_ct_0, ax_ct_i, ax_ct_l, ax_ct_r, va_rf_s, Option.toList_some, Option.toList_none, List.cons_append, List.nil_append, and_true, true_and, and_self, ite_true, ite_false, if_true, if_false, Nat.reduceAdd, Nat.reduceLeDiff, Nat.reduceMul, Nat.reduceLT, nI_add, pk_mul, nI_lt', nI_le', nI_eq', nI_lt0, nI_ge0, nI_eq0, nI_gt0, nI_le0, nI_ne_m1, m1_ne_nI, m1_lt_nI, m1_le_nI, nI_lt_m1, nI_le_m1, nI_clamp, ax_in_nI, nI_shl, nI_shr, lg_cmp0, nx_and, nI_eq1, bI_0, bI_1, bf_or, eq_self, or_true, true_or, nI_dec]
    simpa [kd1] using this
  | some r =>
    have e : oI (some r) = nI r := rfl
    have hrl := parU_lt hp
    rw [e]
    rw [hp] at hQ
    have := hQ (ax_upI h 23 st.length (nI r)) (some (.int (nI r))) frS.up (hs.push hrl)
    simp (disch := omega) only [sQ_search_112, sQ_search_114, sQ_search_116, sQ_search_119, sQ_search_120, sQ_search_123, sQ_search_125, sQ_search_128, sQ_search_130, sQ_search_131, sQ_search_134, ax_clr_i, ax_clr_l, ax_clr_r, ax_clr_n, ax_ct_0, ax_ct_i, ax_ct_l, ax_ct_r, va_rf_s, Option.toList_some, Option.toList_none, List.cons_append, List.nil_append, and_true, true_and, and_self, ite_true, ite_false, if_true, if_false, Nat.reduceAdd, Nat.reduceLeDiff, Nat.reduceMul, Nat.reduceLT, nI_add, pk_mul, nI_lt', nI_le', nI_eq', nI_lt0, nI_ge0, nI_eq0, nI_gt0, nI_le0, nI_ne_m1, m1_ne_nI, m1_lt_nI, m1_le_nI, nI_lt_m1, nI_le_m1, nI_clamp, ax_in_nI, nI_shl, nI_shr, lg_cmp0, nx_and, nI_eq1, bI_0, bI_1, bf_or, eq_self, or_true, true_or, lt_T, le_T, lt_F, le_F, eq_F, eq_T, kdM_0, kdM_1, kdM_2, kdM_3, kdM_4, kdM_5, kdM_6, kdM_7, kdM_8, kdM_9, kdM_10, kdM_11, kdM_12, kdM_13, kdM_14, kdM_15, kdM_16, kdM_17, kdM_18, kdM_19, kdM_20, kdM_21, kdM_22, kdM_23, kdM_24, rM_0, rM_1, rM_5, rM_6, rM_7, rM_10, rM_11, rM_12, rM_13, rM_14, rM_15, rM_16, rM_18, rM_19, rM_20, rM_21, rM_23, rM_24, rM_25, rM_26, rM_28, rM_29, rM_30, rM_31, hr, nI_dec]
    exact this
theorem mQ_has_ {h : ax_H} (hc : clsM h us) (c : Nat) (hcl : c < us.length) (t : List Nat) (ht : vT t) (fl : Bool) : ax_wp kM (d + 2) mQ_has 0 [some (.ref 0), some (.int (nI c)), some (.long (lN (pB t))), none, some (.int (bI fl)), none, none, none, none] [] h Q = Q (some (.int (bI (hsU us fl t c)))) h := by
  have h12 := hc.2.2.1
  obtain ⟨hu, hk⟩ := hc.2.2.2.2 c hcl
  cases fl with
  | true => exact mQ_has_f hu (by omega) hk t ht
  | false => exact mQ_has_m hu (by omega) hk t ht
theorem mQ_search_l (t : List Nat) (ht : vT t) (fl : Bool) (x1 : Option Value) : ∀ (f : Nat) (h : ax_H) (st : List Nat) (v : Nat) (x7 x8 x9 x10 : Option Value), clsM h us → stkM h us st → v < 2 ^ 12 → st.length + 4 * uns v 12 ≤ f → f ≤ 49 → (∀ h', frS h h' → Q (some (.int (oI (srch us fl t (f + 1) st v)))) h') →
    ax_wp kM (d + 6) mQ_search 13 [some (.ref 0), x1, some (.long (lN (pB t))), none, some (.int (bI fl)), some (.int (nI st.length)), some (.int (nI v)), x7, x8, x9, x10] [] h Q
  | f, h, [], v, x7, x8, x9, x10, hc, hs, hv, hm, hf, hQ => by
    rw [sQ_search_13]
    simp (disch := omega) only [sQ_search_15, sQ_search_140, sQ_search_141, ax_clr_i, ax_clr_l, ax_clr_r, ax_clr_n, ax_ct_0, ax_ct_i, ax_ct_l, ax_ct_r, va_rf_s, Option.toList_some, Option.toList_none, List.cons_append, List.nil_append, and_true, true_and, and_self, ite_true, ite_false, if_true, if_false, Nat.reduceAdd, Nat.reduceLeDiff, Nat.reduceMul, Nat.reduceLT, nI_add, pk_mul, nI_lt', nI_le', nI_eq', nI_lt0, nI_ge0, nI_eq0, nI_gt0, nI_le0, nI_ne_m1, m1_ne_nI, m1_lt_nI, m1_le_nI, nI_lt_m1, nI_le_m1, nI_clamp, ax_in_nI, nI_shl, nI_shr, lg_cmp0, nx_and, nI_eq1, bI_0, bI_1, bf_or, eq_self, or_true, true_or, lt_T, le_T, lt_F, le_F, eq_F, eq_T, List.length_nil]
    exact hQ h frS.rf
  | 0, h, c :: st, v, x7, x8, x9, x10, hc, hs, hv, hm, hf, hQ => by simp at hm
  | f + 1, h, c :: st, v, x7, x8, x9, x10, hc, hs, hv, hm, hf, hQ => by
    have hr := hc.1
    have h12 := hc.2.2.1
    obtain ⟨p1, p2, p3⟩ := hs.pop
    rw [List.length_cons] at hm
    have e2c : 2 ^ c < 2 ^ 32 := Nat.pow_lt_pow_right (by decide) (by omega)
    rw [sQ_search_13, List.length_cons]
    simp (disch := omega) only [sQ_search_15, sQ_search_18, sQ_search_21, sQ_search_22, sQ_search_25, sQ_search_27, sQ_search_28, sQ_search_30, sQ_search_32, sQ_search_34, sQ_search_35, sQ_search_36, sQ_search_37, ax_clr_i, ax_clr_l, ax_clr_r, ax_clr_n, ax_ct_0, ax_ct_i, ax_ct_l, ax_ct_r, va_rf_s, Option.toList_some, Option.toList_none, List.cons_append, List.nil_append, and_true, true_and, and_self, ite_true, ite_false, if_true, if_false, Nat.reduceAdd, Nat.reduceLeDiff, Nat.reduceMul, Nat.reduceLT, nI_dec, nI_le0, nI_clamp, ax_in_nI, lt_T, le_T, lt_F, le_F, eq_F, eq_T, kdM_0, kdM_1, kdM_2, kdM_3, kdM_4, kdM_5, kdM_6, kdM_7, kdM_8, kdM_9, kdM_10, kdM_11, kdM_12, kdM_13, kdM_14, kdM_15, kdM_16, kdM_17, kdM_18, kdM_19, kdM_20, kdM_21, kdM_22, kdM_23, kdM_24, rM_0, rM_1, rM_5, rM_6, rM_7, rM_10, rM_11, rM_12, rM_13, rM_14, rM_15, rM_16, rM_18, rM_19, rM_20, rM_21, rM_23, rM_24, rM_25, rM_26, rM_28, rM_29, rM_30, rM_31, hr, p1, nI_shr, nI_bit, Nat.add_sub_cancel]
    rw [srch] at hQ
    by_cases e : v.testBit c = true
    · rw [if_pos e] at hQ
      have ih := mQ_search_l t ht fl x1 f h st v (some (.int (nI c))) x8 x9 x10 hc p2 hv (by omega) (by omega) hQ
      simp (disch := omega) only [sQ_search_137, e, Bool.true_eq_false, ax_clr_i, ax_clr_l, ax_clr_r, ax_clr_n, ax_ct_0, ax_ct_i, ax_ct_l, ax_ct_r, va_rf_s, Option.toList_some, Option.toList_none, List.cons_append, List.nil_append, and_true, true_and, and_self, ite_true, ite_false, if_true, if_false, Nat.reduceAdd, Nat.reduceLeDiff, Nat.reduceMul, Nat.reduceLT]
      exact ih
    · rw [if_neg e] at hQ
      have e' : v.testBit c = false := by simpa using e
      simp (disch := omega) only [sQ_search_40, sQ_search_41, sQ_search_43, sQ_search_44, sQ_search_46, e', ax_clr_i, ax_clr_l, ax_clr_r, ax_clr_n, ax_ct_0, ax_ct_i, ax_ct_l, ax_ct_r, va_rf_s, Option.toList_some, Option.toList_none, List.cons_append, List.nil_append, and_true, true_and, and_self, ite_true, ite_false, if_true, if_false, Nat.reduceAdd, Nat.reduceLeDiff, Nat.reduceMul, Nat.reduceLT, kdM_0, kdM_1, kdM_2, kdM_3, kdM_4, kdM_5, kdM_6, kdM_7, kdM_8, kdM_9, kdM_10, kdM_11, kdM_12, kdM_13, kdM_14, kdM_15, kdM_16, kdM_17, kdM_18, kdM_19, kdM_20, kdM_21, kdM_22, kdM_23, kdM_24, rM_0, rM_1, rM_5, rM_6, rM_7, rM_10, rM_11, rM_12, rM_13, rM_14, rM_15, rM_16, rM_18, rM_19, rM_20, rM_21, rM_23, rM_24, rM_25, rM_26, rM_28, rM_29, rM_30, rM_31, mQ_has_ hc c p3 t ht]
      by_cases e3 : hsU us fl t c = true
      · rw [if_pos e3] at hQ
        simp (disch := omega) only [sQ_search_49, sQ_search_52, sQ_search_54, e3, ax_clr_i, ax_clr_l, ax_clr_r, ax_clr_n, ax_ct_0, ax_ct_i, ax_ct_l, ax_ct_r, va_rf_s, Option.toList_some, Option.toList_none, List.cons_append, List.nil_append, and_true, true_and, and_self, ite_true, ite_false, if_true, if_false, Nat.reduceAdd, Nat.reduceLeDiff, Nat.reduceMul, Nat.reduceLT, nI_add, pk_mul, nI_lt', nI_le', nI_eq', nI_lt0, nI_ge0, nI_eq0, nI_gt0, nI_le0, nI_ne_m1, m1_ne_nI, m1_lt_nI, m1_le_nI, nI_lt_m1, nI_le_m1, nI_clamp, ax_in_nI, nI_shl, nI_shr, lg_cmp0, nx_and, nI_eq1, bI_0, bI_1, bf_or, eq_self, or_true, true_or, Bool.true_eq_false]
        exact hQ h frS.rf
      · rw [if_neg e3] at hQ
        have hun := uns_hi v c e 12 (by omega)
        have hkl := kids_len us fl c
        simp (disch := omega) only [sQ_search_49, sQ_search_52, sQ_search_54, sQ_search_55, sQ_search_57, sQ_search_58, sQ_search_60, sQ_search_61, sQ_search_62, sQ_search_64, sQ_search_65, sQ_search_67, sQ_search_68, bI_c e3, ax_clr_i, ax_clr_l, ax_clr_r, ax_clr_n, ax_ct_0, ax_ct_i, ax_ct_l, ax_ct_r, va_rf_s, Option.toList_some, Option.toList_none, List.cons_append, List.nil_append, and_true, true_and, and_self, ite_true, ite_false, if_true, if_false, Nat.reduceAdd, Nat.reduceLeDiff, Nat.reduceMul, Nat.reduceLT, nI_add, pk_mul, nI_lt', nI_le', nI_eq', nI_lt0, nI_ge0, nI_eq0, nI_gt0, nI_le0, nI_ne_m1, m1_ne_nI, m1_lt_nI, m1_le_nI, nI_lt_m1, nI_le_m1, nI_clamp, ax_in_nI, nI_shl, nI_shr, lg_cmp0, nx_and, nI_eq1, bI_0, bI_1, bf_or, eq_self, or_true, true_or, kdM_0, kdM_1, kdM_2, kdM_3, kdM_4, kdM_5, kdM_6, kdM_7, kdM_8, kdM_9, kdM_10, kdM_11, kdM_12, kdM_13, kdM_14, kdM_15, kdM_16, kdM_17, kdM_18, kdM_19, kdM_20, kdM_21, kdM_22, kdM_23, kdM_24, rM_0, rM_1, rM_5, rM_6, rM_7, rM_10, rM_11, rM_12, rM_13, rM_14, rM_15, rM_16, rM_18, rM_19, rM_20, rM_21, rM_23, rM_24, rM_25, rM_26, rM_28, rM_29, rM_30, rM_31, nI_or, Nat.one_mul, mQ_parent_ hc c 0 p3]
        -- behind SUPER
        have tail : ∀ (h1 : ax_H) (S : List Nat), frS h h1 → stkM h1 us S → S = (if fl = true then kd1 (parU us c 0) else []) ++ st → ax_wp kM (d + 6) mQ_search 95 [some (.ref 0), x1, some (.long (lN (pB t))), none, some (.int (bI fl)), some (.int (nI S.length)), some (.int (nI (v ||| 2 ^ c))), some (.int (nI c)), some (.int (oI (parU us c 0))), x9, x10] [] h1 Q := by
          intro h1 S f1 s1 hS
          have hSl : S.length ≤ st.length + 1 := by
            rw [hS, List.length_append]
            have := kd1_len (parU us c 0)
            cases fl <;> simp <;> omega
          have k1 := kd1_len (parU us c 1)
          have k2 := kd1_len (parU us c 2)
          have k3 := kd1_len (parU us c 3)
          simp (disch := omega) only [sQ_search_95, sQ_search_96, ax_clr_i, ax_clr_l, ax_clr_r, ax_clr_n, ax_ct_0, ax_ct_i, ax_ct_l, ax_ct_r, va_rf_s, Option.toList_some, Option.toList_none, List.cons_append, List.nil_append, and_true, true_and, and_self, ite_true, ite_false, if_true, if_false, Nat.reduceAdd, Nat.reduceLeDiff, Nat.reduceMul, Nat.reduceLT]
          refine mQ_search_k t fl x1 c (v ||| 2 ^ c) p3 _ 3 h1 S x10 (by omega) (by omega) (hc.frS f1) s1 (by omega) (fun h2 y2 f2 s2 => ?_)
          refine mQ_search_k t fl x1 c (v ||| 2 ^ c) p3 _ 2 h2 _ y2 (by omega) (by omega) (hc.frS (f1.tr f2)) s2 (by rw [List.length_append]; omega) (fun h3 y3 f3 s3 => ?_)
          refine mQ_search_k t fl x1 c (v ||| 2 ^ c) p3 _ 1 h3 _ y3 (by omega) (by omega) (hc.frS ((f1.tr f2).tr f3)) s3 (by rw [List.length_append, List.length_append]; omega) (fun h4 y4 f4 s4 => ?_)
          have eS : kd1 (parU us c 1) ++ (kd1 (parU us c 2) ++ (kd1 (parU us c 3) ++ S)) = kids us fl c ++ st := by
            rw [hS]; unfold kids; simp only [List.append_assoc]
          rw [eS] at s4 ⊢
          rw [sQ_search_98]
          simp (disch := omega) only [sQ_search_100, sQ_search_101, sQ_search_137, ax_clr_i, ax_clr_l, ax_clr_r, ax_clr_n, ax_ct_0, ax_ct_i, ax_ct_l, ax_ct_r, va_rf_s, Option.toList_some, Option.toList_none, List.cons_append, List.nil_append, and_true, true_and, and_self, ite_true, ite_false, if_true, if_false, Nat.reduceAdd, Nat.reduceLeDiff, Nat.reduceMul, Nat.reduceLT, nI_add, pk_mul, nI_lt', nI_le', nI_eq', nI_lt0, nI_ge0, nI_eq0, nI_gt0, nI_le0, nI_ne_m1, m1_ne_nI, m1_lt_nI, m1_le_nI, nI_lt_m1, nI_le_m1, nI_clamp, ax_in_nI, nI_shl, nI_shr, lg_cmp0, nx_and, nI_eq1, bI_0, bI_1, bf_or, eq_self, or_true, true_or, lt_T, le_T, lt_F, le_F, eq_F, eq_T, Nat.reduceSub]
          exact mQ_search_l t ht fl x1 f h4 _ _ _ _ _ _ (hc.frS (((f1.tr f2).tr f3).tr f4)) s4 (or_lt hv (by omega)) (by rw [List.length_append]; omega) (by omega) (fun h5 f5 => hQ h5 ((((f1.tr f2).tr f3).tr f4).tr f5))
        cases fl with
        | false =>
          simp (disch := omega) only [sQ_search_71, sQ_search_73, sQ_search_75, ax_clr_i, ax_clr_l, ax_clr_r, ax_clr_n, ax_ct_0, ax_ct_i, ax_ct_l, ax_ct_r, va_rf_s, Option.toList_some, Option.toList_none, List.cons_append, List.nil_append, and_true, true_and, and_self, ite_true, ite_false, if_true, if_false, Nat.reduceAdd, Nat.reduceLeDiff, Nat.reduceMul, Nat.reduceLT, nI_add, pk_mul, nI_lt', nI_le', nI_eq', nI_lt0, nI_ge0, nI_eq0, nI_gt0, nI_le0, nI_ne_m1, m1_ne_nI, m1_lt_nI, m1_le_nI, nI_lt_m1, nI_le_m1, nI_clamp, ax_in_nI, nI_shl, nI_shr, lg_cmp0, nx_and, nI_eq1, bI_0, bI_1, bf_or, eq_self, or_true, true_or]
          exact tail h st frS.rf p2 (by simp)
        | true =>
          cases hp : parU us c 0 with
          | none =>
            have tl := tail h st frS.rf p2 (by simp [hp, kd1])
            rw [hp] at tl
            have e9 : oI none = -1 := rfl
            rw [e9] at tl ⊢
            simp (disch := omega) only [sQ_search_71, sQ_search_73, sQ_search_75, sQ_search_78, sQ_search_80, sQ_search_83, sQ_search_84, sQ_search_87, sQ_search_89, sQ_search_92, sQ_search_94, ax_clr_i, ax_clr_l, ax_clr_r, ax_clr_n, ax_ct_0, ax_ct_i, ax_ct_l, ax_ct_r, va_rf_s, Option.toList_some, Option.toList_none, List.cons_append, List.nil_append, and_true, true_and, and_self, ite_true, ite_false, if_true, if_false, Nat.reduceAdd, Nat.reduceLeDiff, Nat.reduceMul, Nat.reduceLT, nI_add, pk_mul, nI_lt', nI_le', nI_eq', nI_lt0, nI_ge0, nI_eq0, nI_gt0, nI_le0, nI_ne_m1, m1_ne_nI, m1_lt_nI, m1_le_nI, nI_lt_m1, nI_le_m1, nI_clamp, ax_in_nI, nI_shl, nI_shr, lg_cmp0, nx_and, nI_eq1, bI_0, bI_1, bf_or, eq_self, or_true, true_or, Bool.true_eq_false]
            simpa using tl
          | some r =>
            have hrl := parU_lt hp
            have tl := tail (ax_upI h 23 st.length (nI r)) (r :: st) frS.up (p2.push hrl) (by simp [hp, kd1])
            rw [hp] at tl
            have e9 : oI (some r) = nI r := rfl
            rw [e9] at tl ⊢
            simp (disch := omega) only [sQ_search_71, sQ_search_73, sQ_search_75, sQ_search_78, sQ_search_80, sQ_search_83, sQ_search_84, sQ_search_87, sQ_search_89, sQ_search_92, sQ_search_94, ax_clr_i, ax_clr_l, ax_clr_r, ax_clr_n, ax_ct_0, ax_ct_i, ax_ct_l, ax_ct_r, va_rf_s, Option.toList_some, Option.toList_none, List.cons_append, List.nil_append, and_true, true_and, and_self, ite_true, ite_false, if_true, if_false, Nat.reduceAdd, Nat.reduceLeDiff, Nat.reduceMul, Nat.reduceLT, nI_add, pk_mul, nI_lt', nI_le', nI_eq', nI_lt0, nI_ge0, nI_eq0, nI_gt0, nI_le0, nI_ne_m1, m1_ne_nI, m1_lt_nI, m1_le_nI, nI_lt_m1, nI_le_m1, nI_clamp, ax_in_nI, nI_shl, nI_shr, lg_cmp0, nx_and, nI_eq1, bI_0, bI_1, bf_or, eq_self, or_true, true_or, lt_T, le_T, lt_F, le_F, eq_F, eq_T, kdM_0, kdM_1, kdM_2, kdM_3, kdM_4, kdM_5, kdM_6, kdM_7, kdM_8, kdM_9, kdM_10, kdM_11, kdM_12, kdM_13, kdM_14, kdM_15, kdM_16, kdM_17, kdM_18, kdM_19, kdM_20, kdM_21, kdM_22, kdM_23, kdM_24, rM_0, rM_1, rM_5, rM_6, rM_7, rM_10, rM_11, rM_12, rM_13, rM_14, rM_15, rM_16, rM_18, rM_19, rM_20, rM_21, rM_23, rM_24, rM_25, rM_26, rM_28, rM_29, rM_30, rM_31, hr, Bool.true_eq_false]
            exact tl
theorem uns_0 : uns 0 12 = 12 := by decide
/-- the search from a class -/
def srU (us : List (List Nat)) (fl : Bool) (t : List Nat) (c : Nat) : Option Nat := srch us fl t 50 [c] 0
theorem mQ_search_ {h : ax_H} (hc : clsM h us) (c : Nat) (hcl : c < us.length) (t : List Nat) (ht : vT t) (fl : Bool) (hQ : ∀ h', frS h h' → Q (some (.int (oI (srU us fl t c)))) h') : ax_wp kM (d + 6) mQ_search 0 [some (.ref 0), some (.int (nI c)), some (.long (lN (pB t))), none, some (.int (bI fl)), none, none, none, none, none, none] [] h Q := by
  have hr := hc.1
  have h12 := hc.2.2.1
  simp (disch := omega) only [sQ_search_0, sQ_search_1, sQ_search_3, sQ_search_4, sQ_search_6, sQ_search_7, sQ_search_10, sQ_search_11, sQ_search_12, ax_clr_i, ax_clr_l, ax_clr_r, ax_clr_n, ax_ct_0, ax_ct_i, ax_ct_l, ax_ct_r, va_rf_s, Option.toList_some, Option.toList_none, List.cons_append, List.nil_append, and_true, true_and, and_self, ite_true, ite_false, if_true, if_false, Nat.reduceAdd, Nat.reduceLeDiff, Nat.reduceMul, Nat.reduceLT, nI_add, pk_mul, nI_lt', nI_le', nI_eq', nI_lt0, nI_ge0, nI_eq0, nI_gt0, nI_le0, nI_ne_m1, m1_ne_nI, m1_lt_nI, m1_le_nI, nI_lt_m1, nI_le_m1, nI_clamp, ax_in_nI, nI_shl, nI_shr, lg_cmp0, nx_and, nI_eq1, bI_0, bI_1, bf_or, eq_self, or_true, true_or, lt_T, le_T, lt_F, le_F, eq_F, eq_T, kdM_0, kdM_1, kdM_2, kdM_3, kdM_4, kdM_5, kdM_6, kdM_7, kdM_8, kdM_9, kdM_10, kdM_11, kdM_12, kdM_13, kdM_14, kdM_15, kdM_16, kdM_17, kdM_18, kdM_19, kdM_20, kdM_21, kdM_22, kdM_23, kdM_24, rM_0, rM_1, rM_5, rM_6, rM_7, rM_10, rM_11, rM_12, rM_13, rM_14, rM_15, rM_16, rM_18, rM_19, rM_20, rM_21, rM_23, rM_24, rM_25, rM_26, rM_28, rM_29, rM_30, rM_31, hr]
  have s0 : stkM h us [] := ⟨fun i hi => absurd hi (by simp), fun c hc => absurd hc (by simp)⟩
  exact mQ_search_l t ht fl _ 49 _ [c] 0 _ _ _ _ (hc.frS frS.up) (s0.push hcl) (by decide) (by rw [uns_0]; simp) (by omega) (fun h' f => hQ h' (frS.up.tr f))
end MX
