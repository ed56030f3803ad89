/-! the model: targets -/
def frX (h h' : ax_H) : Prop := h'.2 = h.2 ∧ ∀ r k, ¬ r = 23 → ¬ r = 24 → h'.1 r k = h.1 r k
theorem frX.rf {h : ax_H} : frX h h := ⟨rfl, fun _ _ _ _ => rfl⟩
theorem frX.tr {h h' h2 : ax_H} (a : frX h h') (b : frX h' h2) : frX h h2 := ⟨b.1.trans a.1, fun r k h1 h3 => (b.2 r k h1 h3).trans (a.2 r k h1 h3)⟩
theorem frS.x {h h' : ax_H} (f : frS h h') : frX h h' := ⟨f.1, fun r k h1 _ => f.2 r k h1⟩
theorem frW.x {h h' : ax_H} (f : frW h h') : frX h h' := ⟨f.1, fun r k _ h2 => f.2 r k h2⟩
theorem clsM.frX {h h' : ax_H} {us : List (List Nat)} (hc : clsM h us) (f : frX h h') : clsM h' us := by
  obtain ⟨a1, a2, a3, a4, a5⟩ := hc
  refine ⟨by rw [f.1]; exact a1, ?_, a3, a4, fun c hc => ?_⟩
  · rw [f.2 _ _ (by omega) (by omega)]; exact a2
  · obtain ⟨b1, b2, b3, b4⟩ := (a5 c hc).1
    exact ⟨⟨by rw [f.1]; exact b1, b2, fun j hj => by rw [f.2 _ _ (by omega) (by omega)]; exact b3 j hj, b4⟩, (a5 c hc).2⟩
theorem ocM.frX {h h' : ax_H} {L : List oc4} (ho : ocM h L) (f : frX h h') : ocM h' L := by
  refine ⟨by rw [f.2 _ _ (by omega) (by omega)]; exact ho.1, ho.2.1, fun i hi => ?_⟩
  rw [f.2 _ _ (by omega) (by omega), f.2 _ _ (by omega) (by omega), f.1]
  exact ho.2.2 i hi
theorem oI_s (r : Nat) : oI (some r) = nI r := rfl
theorem oI_n : oI none = -1 := rfl
def mO1 (us : List (List Nat)) (t : List Nat) : Nat → Option Nat → Option Nat
  | 0, _ => none
  | _ + 1, none => none
  | f + 1, some k => if hsU us false t k = true then some k else mO1 us t f (parU us k 0)
/-- a search from an interface, if it is there -/
def fcU (us : List (List Nat)) (t : List Nat) (k i : Nat) : Option Nat := match parU us k i with
  | some r => srU us false t r
  | none => none
def fc3 (us : List (List Nat)) (t : List Nat) (k : Nat) : Option Nat := match fcU us t k 1 with
  | some r => some r
  | none => match fcU us t k 2 with
    | some r => some r
    | none => fcU us t k 3
def mO2 (us : List (List Nat)) (t : List Nat) : Nat → Option Nat → Option Nat
  | 0, _ => none
  | _ + 1, none => none
  | f + 1, some k => match fc3 us t k with
    | some r => some r
    | none => mO2 us t f (parU us k 0)
def methU (us : List (List Nat)) (t : List Nat) (c : Nat) : Option Nat := match mO1 us t 12 (some c) with
  | some r => some r
  | none => mO2 us t 12 (some c)
theorem srch_lt {us : List (List Nat)} {fl : Bool} {t : List Nat} : ∀ (f : Nat) (st : List Nat) (v r : Nat), (∀ c ∈ st, c < us.length) → srch us fl t f st v = some r → r < us.length
  | 0, _, _, _, _, h => by cases h
  | f + 1, [], _, _, _, h => by cases h
  | f + 1, c :: st, v, r, hs, h => by
    rw [srch] at h
    by_cases e : v.testBit c = true
    · rw [if_pos e] at h; exact srch_lt f st v r (fun x hx => hs x (by simp [hx])) h
    · rw [if_neg e] at h
      by_cases e2 : hsU us fl t c = true
      · rw [if_pos e2] at h; cases h; exact hs c (by simp)
      · rw [if_neg e2] at h
        refine srch_lt f _ _ r (fun x hx => ?_) h
        rcases List.mem_append.mp hx with hx | hx
        · unfold kids at hx
          have kk : ∀ k, x ∈ kd1 (parU us c k) → x < us.length := by
            intro k hk
            cases hp : parU us c k with
            | none => rw [hp] at hk; simp [kd1] at hk
            | some q => rw [hp] at hk; simp [kd1] at hk; subst hk; exact parU_lt hp
          rcases List.mem_append.mp hx with hx | hx
          · exact kk 1 hx
          · rcases List.mem_append.mp hx with hx | hx
            · exact kk 2 hx
            · rcases List.mem_append.mp hx with hx | hx
              · exact kk 3 hx
              · cases fl
                · simp at hx
                · exact kk 0 (by simpa using hx)
        · exact hs x (by simp [hx])
theorem srU_lt {us : List (List Nat)} {fl : Bool} {t : List Nat} {c r : Nat} (hc : c < us.length) (h : srU us fl t c = some r) : r < us.length := srch_lt 50 [c] 0 r (fun x hx => by simp at hx; subst hx; exact hc) h
theorem fcU_lt {us : List (List Nat)} {t : List Nat} {k i r : Nat} (h : fcU us t k i = some r) : r < us.length := by
  unfold fcU at h
  cases hp : parU us k i with
  | none => rw [hp] at h; cases h
  | some q => rw [hp] at h; exact srU_lt (parU_lt hp) h
section MT
variable {d : Nat} {us : List (List Nat)} {Q : Option Value → ax_H → Prop}
theorem mQ_methodOf_a (t : List Nat) (ht : vT t) (c : Nat) {h : ax_H} (hc : clsM h us) : ∀ (f n : Nat) (k : Option Nat), n + f = 12 → (∀ r, k = some r → r < us.length) → (∀ r, mO1 us t f k = some r → Q (some (.int (nI r))) h) → (mO1 us t f k = none → ∀ y4 y5, ax_wp kM (d + 7) mQ_methodOf 47 [some (.ref 0), some (.int (nI c)), some (.long (lN (pB t))), none, some (.int y4), some (.int y5), none, none, none] [] h Q) →
    ax_wp kM (d + 7) mQ_methodOf 6 [some (.ref 0), some (.int (nI c)), some (.long (lN (pB t))), none, some (.int (oI k)), some (.int (nI n)), none, none, none] [] h Q
  | 0, n, k, hn, hk, hQ1, hQ2 => by
    rw [sQ_methodOf_6]
    simp (disch := omega) only [sQ_methodOf_8, sQ_methodOf_10, sQ_methodOf_13, sQ_methodOf_15, sQ_methodOf_18, sQ_methodOf_19, sQ_methodOf_21, sQ_methodOf_22, sQ_methodOf_23, sQ_methodOf_26, sQ_methodOf_29, sQ_methodOf_31, sQ_methodOf_32, sQ_methodOf_33, sQ_methodOf_35, sQ_methodOf_36, sQ_methodOf_39, sQ_methodOf_41, sQ_methodOf_44, ax_clr_i, ax_clr_l, ax_clr_r, ax_clr_n, ax_ct_0, ax_ct_i, ax_ct_l, ax_ct_r, va_rf_s, Option.toList_some, Option.toList_none, List.cons_append, List.nil_append, and_true, true_and, and_self, ite_true, ite_false, if_true, if_false, Nat.reduceAdd, Nat.reduceLeDiff, Nat.reduceMul, Nat.reduceLT, nI_add, pk_mul, nI_lt', nI_le', nI_eq', nI_lt0, nI_ge0, nI_eq0, nI_gt0, nI_le0, nI_ne_m1, m1_ne_nI, m1_lt_nI, m1_le_nI, nI_lt_m1, nI_le_m1, nI_clamp, ax_in_nI, nI_shl, nI_shr, lg_cmp0, nx_and, nI_eq1, bI_0, bI_1, bf_or, eq_self, or_true, true_or, lt_T, le_T, lt_F, le_F, eq_F, eq_T]
    exact hQ2 rfl _ _
  | f + 1, n, none, hn, hk, hQ1, hQ2 => by
    rw [sQ_methodOf_6, oI_n]
    simp (disch := omega) only [sQ_methodOf_8, sQ_methodOf_10, sQ_methodOf_13, sQ_methodOf_15, ax_clr_i, ax_clr_l, ax_clr_r, ax_clr_n, ax_ct_0, ax_ct_i, ax_ct_l, ax_ct_r, va_rf_s, Option.toList_some, Option.toList_none, List.cons_append, List.nil_append, and_true, true_and, and_self, ite_true, ite_false, if_true, if_false, Nat.reduceAdd, Nat.reduceLeDiff, Nat.reduceMul, Nat.reduceLT, nI_add, pk_mul, nI_lt', nI_le', nI_eq', nI_lt0, nI_ge0, nI_eq0, nI_gt0, nI_le0, nI_ne_m1, m1_ne_nI, m1_lt_nI, m1_le_nI, nI_lt_m1, nI_le_m1, nI_clamp, ax_in_nI, nI_shl, nI_shr, lg_cmp0, nx_and, nI_eq1, bI_0, bI_1, bf_or, eq_self, or_true, true_or, lt_T, le_T, lt_F, le_F, eq_F, eq_T]
    simpa using hQ2 rfl _ _
  | f + 1, n, some k, hn, hk, hQ1, hQ2 => by
    have hr := hc.1
    have h12 := hc.2.2.1
    have hkl := hk k rfl
    rw [mO1] at hQ1 hQ2
    rw [sQ_methodOf_6, oI_s]
    have hm := fun (Q : Option Value → ax_H → Prop) d => mQ_has_ (d := d) (Q := Q) hc k hkl t ht false
    simp only [bI_f] at hm
    simp (disch := omega) only [sQ_methodOf_8, sQ_methodOf_10, sQ_methodOf_13, sQ_methodOf_15, sQ_methodOf_18, sQ_methodOf_19, sQ_methodOf_21, sQ_methodOf_22, sQ_methodOf_23, sQ_methodOf_26, sQ_methodOf_29, sQ_methodOf_31, sQ_methodOf_32, sQ_methodOf_33, sQ_methodOf_35, sQ_methodOf_36, sQ_methodOf_39, sQ_methodOf_41, sQ_methodOf_44, ax_clr_i, ax_clr_l, ax_clr_r, ax_clr_n, ax_ct_0, ax_ct_i, ax_ct_l, ax_ct_r, va_rf_s, Option.toList_some, Option.toList_none, List.cons_append, List.nil_append, and_true, true_and, and_self, ite_true, ite_false, if_true, if_false, Nat.reduceAdd, Nat.reduceLeDiff, Nat.reduceMul, Nat.reduceLT, nI_add, pk_mul, nI_lt', nI_le', nI_eq', nI_lt0, nI_ge0, nI_eq0, nI_gt0, nI_le0, nI_ne_m1, m1_ne_nI, m1_lt_nI, m1_le_nI, nI_lt_m1, nI_le_m1, nI_clamp, ax_in_nI, nI_shl, nI_shr, lg_cmp0, nx_and, nI_eq1, bI_0, bI_1, bf_or, eq_self, or_true, true_or, lt_T, le_T, lt_F, le_F, eq_F, eq_T, kdM_0, kdM_1, kdM_2, kdM_3, kdM_4, kdM_5, kdM_6, kdM_7, kdM_8, kdM_9, kdM_10, kdM_11, kdM_12, kdM_13, kdM_14, kdM_15, kdM_16, kdM_17, kdM_18, kdM_19, kdM_20, kdM_21, kdM_22, kdM_23, kdM_24, rM_0, rM_1, rM_5, rM_6, rM_7, rM_10, rM_11, rM_12, rM_13, rM_14, rM_15, rM_16, rM_18, rM_19, rM_20, rM_21, rM_23, rM_24, rM_25, rM_26, rM_28, rM_29, rM_30, rM_31, hm, mQ_parent_ hc k 0 hkl]
    by_cases e : hsU us false t k = true
    · rw [if_pos e] at hQ1
      rw [if_neg (by rw [e]; decide)]
      exact hQ1 k rfl
    · rw [if_neg e] at hQ1 hQ2
      rw [if_pos (bI_c e)]
      exact mQ_methodOf_a t ht c hc f (n + 1) (parU us k 0) (by omega) (fun r hr => parU_lt hr) hQ1 hQ2
theorem mQ_methodOf_i (t : List Nat) (ht : vT t) (x1 : Option Value) (k n : Nat) (hk : k < us.length) (h : ax_H) (hc : clsM h us) (i : Nat) (h1 : 1 ≤ i) (h3 : i ≤ 3) (x7 x8 : Option Value) (hQ1 : ∀ r h', frX h h' → fcU us t k i = some r → Q (some (.int (nI r))) h') (hQ2 : fcU us t k i = none → ∀ h' x7 x8, frX h h' → ax_wp kM (d + 7) mQ_methodOf 68 [some (.ref 0), x1, some (.long (lN (pB t))), none, some (.int (nI k)), some (.int (nI n)), some (.int (nI (i + 1))), x7, x8] [] h' Q) :
    ax_wp kM (d + 7) mQ_methodOf 68 [some (.ref 0), x1, some (.long (lN (pB t))), none, some (.int (nI k)), some (.int (nI n)), some (.int (nI i)), x7, x8] [] h Q := by
  have hr := hc.1
  have h12 := hc.2.2.1
  rw [sQ_methodOf_68]
  simp (disch := omega) only [sQ_methodOf_70, sQ_methodOf_71, sQ_methodOf_74, sQ_methodOf_75, sQ_methodOf_77, sQ_methodOf_79, sQ_methodOf_82, ax_clr_i, ax_clr_l, ax_clr_r, ax_clr_n, ax_ct_0, ax_ct_i, ax_ct_l, ax_ct_r, va_rf_s, Option.toList_some, Option.toList_none, List.cons_append, List.nil_append, and_true, true_and, and_self, ite_true, ite_false, if_true, if_false, Nat.reduceAdd, Nat.reduceLeDiff, Nat.reduceMul, Nat.reduceLT, nI_add, pk_mul, nI_lt', nI_le', nI_eq', nI_lt0, nI_ge0, nI_eq0, nI_gt0, nI_le0, nI_ne_m1, m1_ne_nI, m1_lt_nI, m1_le_nI, nI_lt_m1, nI_le_m1, nI_clamp, ax_in_nI, nI_shl, nI_shr, lg_cmp0, nx_and, nI_eq1, bI_0, bI_1, bf_or, eq_self, or_true, true_or, lt_T, le_T, lt_F, le_F, eq_F, eq_T, kdM_0, kdM_1, kdM_2, kdM_3, kdM_4, kdM_5, kdM_6, kdM_7, kdM_8, kdM_9, kdM_10, kdM_11, kdM_12, kdM_13, kdM_14, kdM_15, kdM_16, kdM_17, kdM_18, kdM_19, kdM_20, kdM_21, kdM_22, kdM_23, kdM_24, rM_0, rM_1, rM_5, rM_6, rM_7, rM_10, rM_11, rM_12, rM_13, rM_14, rM_15, rM_16, rM_18, rM_19, rM_20, rM_21, rM_23, rM_24, rM_25, rM_26, rM_28, rM_29, rM_30, rM_31, mQ_parent_ hc k i hk]
  unfold fcU at hQ1 hQ2
  cases hp : parU us k i with
  | none =>
    rw [hp] at hQ1 hQ2
    rw [oI_n]
    simp (disch := omega) only [sQ_methodOf_84, sQ_methodOf_86, sQ_methodOf_89, sQ_methodOf_90, sQ_methodOf_93, sQ_methodOf_94, sQ_methodOf_96, sQ_methodOf_97, sQ_methodOf_98, sQ_methodOf_101, sQ_methodOf_103, sQ_methodOf_105, sQ_methodOf_108, sQ_methodOf_110, sQ_methodOf_111, sQ_methodOf_114, ax_clr_i, ax_clr_l, ax_clr_r, ax_clr_n, ax_ct_0, ax_ct_i, ax_ct_l, ax_ct_r, va_rf_s, Option.toList_some, Option.toList_none, List.cons_append, List.nil_append, and_true, true_and, and_self, ite_true, ite_false, if_true, if_false, Nat.reduceAdd, Nat.reduceLeDiff, Nat.reduceMul, Nat.reduceLT, nI_add, pk_mul, nI_lt', nI_le', nI_eq', nI_lt0, nI_ge0, nI_eq0, nI_gt0, nI_le0, nI_ne_m1, m1_ne_nI, m1_lt_nI, m1_le_nI, nI_lt_m1, nI_le_m1, nI_clamp, ax_in_nI, nI_shl, nI_shr, lg_cmp0, nx_and, nI_eq1, bI_0, bI_1, bf_or, eq_self, or_true, true_or]
    simpa using hQ2 rfl h (some (.int (-1))) (some (.int (-1))) frX.rf
  | some r =>
    rw [hp] at hQ1 hQ2
    rw [oI_s]
    have hrl := parU_lt hp
    simp (disch := omega) only [sQ_methodOf_84, sQ_methodOf_86, sQ_methodOf_89, sQ_methodOf_90, sQ_methodOf_93, sQ_methodOf_94, sQ_methodOf_96, sQ_methodOf_97, sQ_methodOf_98, ax_clr_i, ax_clr_l, ax_clr_r, ax_clr_n, ax_ct_0, ax_ct_i, ax_ct_l, ax_ct_r, va_rf_s, Option.toList_some, Option.toList_none, List.cons_append, List.nil_append, and_true, true_and, and_self, ite_true, ite_false, if_true, if_false, Nat.reduceAdd, Nat.reduceLeDiff, Nat.reduceMul, Nat.reduceLT, nI_add, pk_mul, nI_lt', nI_le', nI_eq', nI_lt0, nI_ge0, nI_eq0, nI_gt0, nI_le0, nI_ne_m1, m1_ne_nI, m1_lt_nI, m1_le_nI, nI_lt_m1, nI_le_m1, nI_clamp, ax_in_nI, nI_shl, nI_shr, lg_cmp0, nx_and, nI_eq1, bI_0, bI_1, bf_or, eq_self, or_true, true_or, kdM_0, kdM_1, kdM_2, kdM_3, kdM_4, kdM_5, kdM_6, kdM_7, kdM_8, kdM_9, kdM_10, kdM_11, kdM_12, kdM_13, kdM_14, kdM_15, kdM_16, kdM_17, kdM_18, kdM_19, kdM_20, kdM_21, kdM_22, kdM_23, kdM_24, rM_0, rM_1, rM_5, rM_6, rM_7, rM_10, rM_11, rM_12, rM_13, rM_14, rM_15, rM_16, rM_18, rM_19, rM_20, rM_21, rM_23, rM_24, rM_25, rM_26, rM_28, rM_29, rM_30, rM_31]
    have hs := mQ_search_ (d := d) (Q := fun v h1 => ax_wp kM (d + 6 + 1) mQ_methodOf 101 [some (.ref 0), x1, some (.long (lN (pB t))), none, some (.int (nI k)), some (.int (nI n)), some (.int (nI i)), some (.int (nI r)), x8] (v.toList ++ []) h1 Q) hc r hrl t ht false
    rw [bI_f] at hs
    refine hs (fun h' f => ?_)
    dsimp only at hQ1 hQ2
    cases hq : srU us false t r with
    | none =>
      rw [oI_n]
      simp (disch := omega) only [sQ_methodOf_101, sQ_methodOf_103, sQ_methodOf_105, sQ_methodOf_108, sQ_methodOf_110, sQ_methodOf_111, sQ_methodOf_114, ax_clr_i, ax_clr_l, ax_clr_r, ax_clr_n, ax_ct_0, ax_ct_i, ax_ct_l, ax_ct_r, va_rf_s, Option.toList_some, Option.toList_none, List.cons_append, List.nil_append, and_true, true_and, and_self, ite_true, ite_false, if_true, if_false, Nat.reduceAdd, Nat.reduceLeDiff, Nat.reduceMul, Nat.reduceLT, nI_add, pk_mul, nI_lt', nI_le', nI_eq', nI_lt0, nI_ge0, nI_eq0, nI_gt0, nI_le0, nI_ne_m1, m1_ne_nI, m1_lt_nI, m1_le_nI, nI_lt_m1, nI_le_m1, nI_clamp, ax_in_nI, nI_shl, nI_shr, lg_cmp0, nx_and, nI_eq1, bI_0, bI_1, bf_or, eq_self, or_true, true_or]
      simpa using hQ2 hq h' _ (some (.int (-1))) f.x
    | some z =>
      have hzl := srU_lt hrl hq
      rw [oI_s]
      simp (disch := omega) only [sQ_methodOf_101, sQ_methodOf_103, sQ_methodOf_105, sQ_methodOf_108, sQ_methodOf_110, sQ_methodOf_111, sQ_methodOf_114, ax_clr_i, ax_clr_l, ax_clr_r, ax_clr_n, ax_ct_0, ax_ct_i, ax_ct_l, ax_ct_r, va_rf_s, Option.toList_some, Option.toList_none, List.cons_append, List.nil_append, and_true, true_and, and_self, ite_true, ite_false, if_true, if_false, Nat.reduceAdd, Nat.reduceLeDiff, Nat.reduceMul, Nat.reduceLT, nI_add, pk_mul, nI_lt', nI_le', nI_eq', nI_lt0, nI_ge0, nI_eq0, nI_gt0, nI_le0, nI_ne_m1, m1_ne_nI, m1_lt_nI, m1_le_nI, nI_lt_m1, nI_le_m1, nI_clamp, ax_in_nI, nI_shl, nI_shr, lg_cmp0, nx_and, nI_eq1, bI_0, bI_1, bf_or, eq_self, or_true, true_or]
      exact hQ1 z h' f.x hq
theorem mQ_methodOf_b (t : List Nat) (ht : vT t) (x1 : Option Value) : ∀ (f n : Nat) (k : Option Nat) (h : ax_H) (x6 x7 x8 : Option Value), n + f = 12 → clsM h us → (∀ r, k = some r → r < us.length) → (∀ h', frX h h' → Q (some (.int (oI (mO2 us t f k)))) h') →
    ax_wp kM (d + 7) mQ_methodOf 53 [some (.ref 0), x1, some (.long (lN (pB t))), none, some (.int (oI k)), some (.int (nI n)), x6, x7, x8] [] h Q
  | 0, n, k, h, x6, x7, x8, hn, hc, hk, hQ => by
    rw [sQ_methodOf_53]
    simp (disch := omega) only [sQ_methodOf_55, sQ_methodOf_57, sQ_methodOf_60, sQ_methodOf_62, sQ_methodOf_65, sQ_methodOf_66, sQ_methodOf_132, sQ_methodOf_133, ax_clr_i, ax_clr_l, ax_clr_r, ax_clr_n, ax_ct_0, ax_ct_i, ax_ct_l, ax_ct_r, va_rf_s, Option.toList_some, Option.toList_none, List.cons_append, List.nil_append, and_true, true_and, and_self, ite_true, ite_false, if_true, if_false, Nat.reduceAdd, Nat.reduceLeDiff, Nat.reduceMul, Nat.reduceLT, nI_add, pk_mul, nI_lt', nI_le', nI_eq', nI_lt0, nI_ge0, nI_eq0, nI_gt0, nI_le0, nI_ne_m1, m1_ne_nI, m1_lt_nI, m1_le_nI, nI_lt_m1, nI_le_m1, nI_clamp, ax_in_nI, nI_shl, nI_shr, lg_cmp0, nx_and, nI_eq1, bI_0, bI_1, bf_or, eq_self, or_true, true_or, lt_T, le_T, lt_F, le_F, eq_F, eq_T]
    exact hQ h frX.rf
  | f + 1, n, none, h, x6, x7, x8, hn, hc, hk, hQ => by
    rw [sQ_methodOf_53, oI_n]
    simp (disch := omega) only [sQ_methodOf_55, sQ_methodOf_57, sQ_methodOf_60, sQ_methodOf_62, sQ_methodOf_132, sQ_methodOf_133, ax_clr_i, ax_clr_l, ax_clr_r, ax_clr_n, ax_ct_0, ax_ct_i, ax_ct_l, ax_ct_r, va_rf_s, Option.toList_some, Option.toList_none, List.cons_append, List.nil_append, and_true, true_and, and_self, ite_true, ite_false, if_true, if_false, Nat.reduceAdd, Nat.reduceLeDiff, Nat.reduceMul, Nat.reduceLT, nI_add, pk_mul, nI_lt', nI_le', nI_eq', nI_lt0, nI_ge0, nI_eq0, nI_gt0, nI_le0, nI_ne_m1, m1_ne_nI, m1_lt_nI, m1_le_nI, nI_lt_m1, nI_le_m1, nI_clamp, ax_in_nI, nI_shl, nI_shr, lg_cmp0, nx_and, nI_eq1, bI_0, bI_1, bf_or, eq_self, or_true, true_or, lt_T, le_T, lt_F, le_F, eq_F, eq_T]
    exact hQ h frX.rf
  | f + 1, n, some k, h, x6, x7, x8, hn, hc, hk, hQ => by
    have h12 := hc.2.2.1
    have hkl := hk k rfl
    rw [mO2] at hQ
    unfold fc3 at hQ
    rw [sQ_methodOf_53, oI_s]
    simp (disch := omega) only [sQ_methodOf_55, sQ_methodOf_57, sQ_methodOf_60, sQ_methodOf_62, sQ_methodOf_65, sQ_methodOf_66, ax_clr_i, ax_clr_l, ax_clr_r, ax_clr_n, ax_ct_0, ax_ct_i, ax_ct_l, ax_ct_r, va_rf_s, Option.toList_some, Option.toList_none, List.cons_append, List.nil_append, and_true, true_and, and_self, ite_true, ite_false, if_true, if_false, Nat.reduceAdd, Nat.reduceLeDiff, Nat.reduceMul, Nat.reduceLT, nI_add, pk_mul, nI_lt', nI_le', nI_eq', nI_lt0, nI_ge0, nI_eq0, nI_gt0, nI_le0, nI_ne_m1, m1_ne_nI, m1_lt_nI, m1_le_nI, nI_lt_m1, nI_le_m1, nI_clamp, ax_in_nI, nI_shl, nI_shr, lg_cmp0, nx_and, nI_eq1, bI_0, bI_1, bf_or, eq_self, or_true, true_or, lt_T, le_T, lt_F, le_F, eq_F, eq_T]
    refine mQ_methodOf_i t ht x1 k n hkl h hc 1 (by omega) (by omega) x7 x8 (fun r h' g1 e => ?_) (fun e1 h1 y7 y8 g1 => ?_)
    · rw [e] at hQ; exact hQ h' g1
    · rw [e1] at hQ
      refine mQ_methodOf_i t ht x1 k n hkl h1 (hc.frX g1) 2 (by omega) (by omega) y7 y8 (fun r h' g2 e => ?_) (fun e2 h2 z7 z8 g2 => ?_)
      · rw [e] at hQ; exact hQ h' (g1.tr g2)
      · rw [e2] at hQ
        refine mQ_methodOf_i t ht x1 k n hkl h2 (hc.frX (g1.tr g2)) 3 (by omega) (by omega) z7 z8 (fun r h' g3 e => ?_) (fun e3 h3 w7 w8 g3 => ?_)
        · rw [e] at hQ; exact hQ h' ((g1.tr g2).tr g3)
        · rw [e3] at hQ
          have hc3 := hc.frX ((g1.tr g2).tr g3)
          rw [sQ_methodOf_68]
          simp (disch := omega) only [sQ_methodOf_70, sQ_methodOf_71, sQ_methodOf_117, sQ_methodOf_118, sQ_methodOf_120, sQ_methodOf_121, sQ_methodOf_124, sQ_methodOf_126, sQ_methodOf_129, ax_clr_i, ax_clr_l, ax_clr_r, ax_clr_n, ax_ct_0, ax_ct_i, ax_ct_l, ax_ct_r, va_rf_s, Option.toList_some, Option.toList_none, List.cons_append, List.nil_append, and_true, true_and, and_self, ite_true, ite_false, if_true, if_false, Nat.reduceAdd, Nat.reduceLeDiff, Nat.reduceMul, Nat.reduceLT, nI_add, pk_mul, nI_lt', nI_le', nI_eq', nI_lt0, nI_ge0, nI_eq0, nI_gt0, nI_le0, nI_ne_m1, m1_ne_nI, m1_lt_nI, m1_le_nI, nI_lt_m1, nI_le_m1, nI_clamp, ax_in_nI, nI_shl, nI_shr, lg_cmp0, nx_and, nI_eq1, bI_0, bI_1, bf_or, eq_self, or_true, true_or, lt_T, le_T, lt_F, le_F, eq_F, eq_T, kdM_0, kdM_1, kdM_2, kdM_3, kdM_4, kdM_5, kdM_6, kdM_7, kdM_8, kdM_9, kdM_10, kdM_11, kdM_12, kdM_13, kdM_14, kdM_15, kdM_16, kdM_17, kdM_18, kdM_19, kdM_20, kdM_21, kdM_22, kdM_23, kdM_24, rM_0, rM_1, rM_5, rM_6, rM_7, rM_10, rM_11, rM_12, rM_13, rM_14, rM_15, rM_16, rM_18, rM_19, rM_20, rM_21, rM_23, rM_24, rM_25, rM_26, rM_28, rM_29, rM_30, rM_31, mQ_parent_ hc3 k 0 hkl]
          exact mQ_methodOf_b t ht x1 f (n + 1) (parU us k 0) h3 _ _ _ (by omega) hc3 (fun r hr => parU_lt hr) (fun h' g4 => hQ h' (((g1.tr g2).tr g3).tr g4))
theorem mQ_methodOf_ {h : ax_H} (hc : clsM h us) (c : Nat) (hcl : c < us.length) (t : List Nat) (ht : vT t) (hQ : ∀ h', frX h h' → Q (some (.int (oI (methU us t c)))) h') : ax_wp kM (d + 7) mQ_methodOf 0 [some (.ref 0), some (.int (nI c)), some (.long (lN (pB t))), none, none, none, none, none, none] [] h Q := by
  unfold methU at hQ
  simp only [sQ_methodOf_0, sQ_methodOf_1, sQ_methodOf_3, sQ_methodOf_4, ax_clr_i, ax_clr_l, ax_clr_r, ax_clr_n, ax_ct_0, ax_ct_i, ax_ct_l, ax_ct_r, va_rf_s, Option.toList_some, Option.toList_none, List.cons_append, List.nil_append, and_true, true_and, and_self, ite_true, ite_false, if_true, if_false, Nat.reduceAdd, Nat.reduceLeDiff, Nat.reduceMul, Nat.reduceLT]
  rw [← oI_s]
  refine mQ_methodOf_a t ht c hc 12 0 (some c) (by omega) (fun r hr => by cases hr; exact hcl) (fun r e => ?_) (fun e y4 y5 => ?_)
  · rw [e] at hQ; exact hQ h frX.rf
  · rw [e] at hQ
    simp only [sQ_methodOf_47, sQ_methodOf_48, sQ_methodOf_50, sQ_methodOf_51, ax_clr_i, ax_clr_l, ax_clr_r, ax_clr_n, ax_ct_0, ax_ct_i, ax_ct_l, ax_ct_r, va_rf_s, Option.toList_some, Option.toList_none, List.cons_append, List.nil_append, and_true, true_and, and_self, ite_true, ite_false, if_true, if_false, Nat.reduceAdd, Nat.reduceLeDiff, Nat.reduceMul, Nat.reduceLT]
    rw [← oI_s]
    exact mQ_methodOf_b t ht _ 12 0 (some c) h _ _ _ (by omega) hc (fun r hr => by cases hr; exact hcl) hQ
/-- the target of an access -/
def tgtU (us : List (List Nat)) (kind : Nat) (t w : List Nat) : Option Nat :=
  if 2 < kind then none else match ixOf us t with
  | none => none
  | some c => if cirU us c = true then none else if kind = 2 then methU us w c else srU us true w c
theorem mO1_lt {us : List (List Nat)} {t : List Nat} : ∀ (f : Nat) (k : Option Nat) (r : Nat), (∀ q, k = some q → q < us.length) → mO1 us t f k = some r → r < us.length
  | 0, _, _, _, h => by cases h
  | f + 1, none, _, _, h => by cases h
  | f + 1, some k, r, hk, h => by
    rw [mO1] at h
    by_cases e : hsU us false t k = true
    · rw [if_pos e] at h; cases h; exact hk k rfl
    · rw [if_neg e] at h; exact mO1_lt f _ r (fun q hq => parU_lt hq) h
theorem fc3_lt {us : List (List Nat)} {t : List Nat} {k r : Nat} (h : fc3 us t k = some r) : r < us.length := by
  unfold fc3 at h
  cases h1 : fcU us t k 1 with
  | some q => rw [h1] at h; cases h; exact fcU_lt h1
  | none =>
    rw [h1] at h
    cases h2 : fcU us t k 2 with
    | some q => rw [h2] at h; cases h; exact fcU_lt h2
    | none => rw [h2] at h; exact fcU_lt h
theorem mO2_lt {us : List (List Nat)} {t : List Nat} : ∀ (f : Nat) (k : Option Nat) (r : Nat), mO2 us t f k = some r → r < us.length
  | 0, _, _, h => by cases h
  | f + 1, none, _, h => by cases h
  | f + 1, some k, r, h => by
    rw [mO2] at h
    cases e : fc3 us t k with
    | some q => rw [e] at h; cases h; exact fc3_lt e
    | none => rw [e] at h; exact mO2_lt f _ r h
theorem methU_lt {us : List (List Nat)} {t : List Nat} {c r : Nat} (hc : c < us.length) (h : methU us t c = some r) : r < us.length := by
  unfold methU at h
  cases e : mO1 us t 12 (some c) with
  | some q => rw [e] at h; cases h; exact mO1_lt 12 _ _ (fun q hq => by cases hq; exact hc) e
  | none => rw [e] at h; exact mO2_lt 12 _ _ h
theorem tgtU_lt {us : List (List Nat)} {kind : Nat} {t w : List Nat} {r : Nat} (h : tgtU us kind t w = some r) : r < us.length := by
  unfold tgtU at h
  by_cases e : 2 < kind
  · rw [if_pos e] at h; cases h
  · rw [if_neg e] at h
    cases hx : ixOf us t with
    | none => rw [hx] at h; cases h
    | some c =>
      rw [hx] at h
      dsimp only at h
      have hcl := (ixOf_some hx).1
      by_cases e2 : cirU us c = true
      · rw [if_pos e2] at h; cases h
      · rw [if_neg e2] at h
        by_cases e3 : kind = 2
        · rw [if_pos e3] at h; exact methU_lt hcl h
        · rw [if_neg e3] at h; exact srU_lt hcl h
theorem mQ_targetOf_ {h : ax_H} (hc : clsM h us) (kind : Nat) (hk : kind < 100) (t w : List Nat) (ht : vT t) (hw : vT w) (hQ : ∀ h', frX h h' → Q (some (.int (oI (tgtU us kind t w)))) h') : ax_wp kM (d + 8) mQ_targetOf 0 [some (.ref 0), some (.int (nI kind)), some (.long (lN (pB t))), none, some (.long (lN (pB w))), none, none] [] h Q := by
  have h12 := hc.2.2.1
  unfold tgtU at hQ
  simp (disch := omega) only [sQ_targetOf_0, sQ_targetOf_1, sQ_targetOf_2, sQ_targetOf_5, sQ_targetOf_6, sQ_targetOf_9, sQ_targetOf_10, sQ_targetOf_11, ax_clr_i, ax_clr_l, ax_clr_r, ax_clr_n, ax_ct_0, ax_ct_i, ax_ct_l, ax_ct_r, va_rf_s, Option.toList_some, Option.toList_none, List.cons_append, List.nil_append, and_true, true_and, and_self, ite_true, ite_false, if_true, if_false, Nat.reduceAdd, Nat.reduceLeDiff, Nat.reduceMul, Nat.reduceLT, nI_add, pk_mul, nI_lt', nI_le', nI_eq', nI_lt0, nI_ge0, nI_eq0, nI_gt0, nI_le0, nI_ne_m1, m1_ne_nI, m1_lt_nI, m1_le_nI, nI_lt_m1, nI_le_m1, nI_clamp, ax_in_nI, nI_shl, nI_shr, lg_cmp0, nx_and, nI_eq1, bI_0, bI_1, bf_or, eq_self, or_true, true_or, kdM_0, kdM_1, kdM_2, kdM_3, kdM_4, kdM_5, kdM_6, kdM_7, kdM_8, kdM_9, kdM_10, kdM_11, kdM_12, kdM_13, kdM_14, kdM_15, kdM_16, kdM_17, kdM_18, kdM_19, kdM_20, kdM_21, kdM_22, kdM_23, kdM_24, rM_0, rM_1, rM_5, rM_6, rM_7, rM_10, rM_11, rM_12, rM_13, rM_14, rM_15, rM_16, rM_18, rM_19, rM_20, rM_21, rM_23, rM_24, rM_25, rM_26, rM_28, rM_29, rM_30, rM_31, mQ_indexOf_ hc t ht]
  by_cases e : 2 < kind
  · rw [if_pos e] at hQ
    rw [if_neg (by omega)]
    simp (disch := omega) only [sQ_targetOf_14, sQ_targetOf_16, sQ_targetOf_18, sQ_targetOf_21, sQ_targetOf_22, sQ_targetOf_24, sQ_targetOf_27, sQ_targetOf_30, sQ_targetOf_31, ax_clr_i, ax_clr_l, ax_clr_r, ax_clr_n, ax_ct_0, ax_ct_i, ax_ct_l, ax_ct_r, va_rf_s, Option.toList_some, Option.toList_none, List.cons_append, List.nil_append, and_true, true_and, and_self, ite_true, ite_false, if_true, if_false, Nat.reduceAdd, Nat.reduceLeDiff, Nat.reduceMul, Nat.reduceLT, nI_add, pk_mul, nI_lt', nI_le', nI_eq', nI_lt0, nI_ge0, nI_eq0, nI_gt0, nI_le0, nI_ne_m1, m1_ne_nI, m1_lt_nI, m1_le_nI, nI_lt_m1, nI_le_m1, nI_clamp, ax_in_nI, nI_shl, nI_shr, lg_cmp0, nx_and, nI_eq1, bI_0, bI_1, bf_or, eq_self, or_true, true_or]
    exact hQ h frX.rf
  · rw [if_neg e] at hQ
    rw [if_pos (by omega)]
    cases hx : ixOf us t with
    | none =>
      rw [hx] at hQ
      rw [oI_n]
      simp (disch := omega) only [sQ_targetOf_14, sQ_targetOf_16, sQ_targetOf_18, sQ_targetOf_21, sQ_targetOf_22, sQ_targetOf_24, sQ_targetOf_27, sQ_targetOf_30, sQ_targetOf_31, ax_clr_i, ax_clr_l, ax_clr_r, ax_clr_n, ax_ct_0, ax_ct_i, ax_ct_l, ax_ct_r, va_rf_s, Option.toList_some, Option.toList_none, List.cons_append, List.nil_append, and_true, true_and, and_self, ite_true, ite_false, if_true, if_false, Nat.reduceAdd, Nat.reduceLeDiff, Nat.reduceMul, Nat.reduceLT, nI_add, pk_mul, nI_lt', nI_le', nI_eq', nI_lt0, nI_ge0, nI_eq0, nI_gt0, nI_le0, nI_ne_m1, m1_ne_nI, m1_lt_nI, m1_le_nI, nI_lt_m1, nI_le_m1, nI_clamp, ax_in_nI, nI_shl, nI_shr, lg_cmp0, nx_and, nI_eq1, bI_0, bI_1, bf_or, eq_self, or_true, true_or]
      exact hQ h frX.rf
    | some c =>
      have hcl := (ixOf_some hx).1
      rw [hx] at hQ
      dsimp only at hQ
      rw [oI_s]
      simp (disch := omega) only [sQ_targetOf_14, sQ_targetOf_16, sQ_targetOf_18, sQ_targetOf_21, sQ_targetOf_22, sQ_targetOf_24, ax_clr_i, ax_clr_l, ax_clr_r, ax_clr_n, ax_ct_0, ax_ct_i, ax_ct_l, ax_ct_r, va_rf_s, Option.toList_some, Option.toList_none, List.cons_append, List.nil_append, and_true, true_and, and_self, ite_true, ite_false, if_true, if_false, Nat.reduceAdd, Nat.reduceLeDiff, Nat.reduceMul, Nat.reduceLT, nI_add, pk_mul, nI_lt', nI_le', nI_eq', nI_lt0, nI_ge0, nI_eq0, nI_gt0, nI_le0, nI_ne_m1, m1_ne_nI, m1_lt_nI, m1_le_nI, nI_lt_m1, nI_le_m1, nI_clamp, ax_in_nI, nI_shl, nI_shr, lg_cmp0, nx_and, nI_eq1, bI_0, bI_1, bf_or, eq_self, or_true, true_or, kdM_0, kdM_1, kdM_2, kdM_3, kdM_4, kdM_5, kdM_6, kdM_7, kdM_8, kdM_9, kdM_10, kdM_11, kdM_12, kdM_13, kdM_14, kdM_15, kdM_16, kdM_17, kdM_18, kdM_19, kdM_20, kdM_21, kdM_22, kdM_23, kdM_24, rM_0, rM_1, rM_5, rM_6, rM_7, rM_10, rM_11, rM_12, rM_13, rM_14, rM_15, rM_16, rM_18, rM_19, rM_20, rM_21, rM_23, rM_24, rM_25, rM_26, rM_28, rM_29, rM_30, rM_31]
      refine mQ_circular_ hc c hcl (fun h1 f1 => ?_)
      have hc1 := hc.frW f1
      by_cases e2 : cirU us c = true
      · rw [if_pos e2] at hQ
        simp (disch := omega) only [sQ_targetOf_27, sQ_targetOf_30, sQ_targetOf_31, ax_clr_i, ax_clr_l, ax_clr_r, ax_clr_n, ax_ct_0, ax_ct_i, ax_ct_l, ax_ct_r, va_rf_s, Option.toList_some, Option.toList_none, List.cons_append, List.nil_append, and_true, true_and, and_self, ite_true, ite_false, if_true, if_false, Nat.reduceAdd, Nat.reduceLeDiff, Nat.reduceMul, Nat.reduceLT, nI_add, pk_mul, nI_lt', nI_le', nI_eq', nI_lt0, nI_ge0, nI_eq0, nI_gt0, nI_le0, nI_ne_m1, m1_ne_nI, m1_lt_nI, m1_le_nI, nI_lt_m1, nI_le_m1, nI_clamp, ax_in_nI, nI_shl, nI_shr, lg_cmp0, nx_and, nI_eq1, bI_0, bI_1, bf_or, eq_self, or_true, true_or, e2, Bool.true_eq_false]
        exact hQ h1 f1.x
      · rw [if_neg e2] at hQ
        by_cases e3 : kind = 2
        · rw [if_pos e3] at hQ
          simp (disch := omega) only [sQ_targetOf_27, sQ_targetOf_30, sQ_targetOf_31, sQ_targetOf_32, sQ_targetOf_33, sQ_targetOf_34, sQ_targetOf_37, sQ_targetOf_38, sQ_targetOf_40, sQ_targetOf_42, sQ_targetOf_45, sQ_targetOf_48, sQ_targetOf_49, sQ_targetOf_51, sQ_targetOf_53, sQ_targetOf_54, sQ_targetOf_57, ax_clr_i, ax_clr_l, ax_clr_r, ax_clr_n, ax_ct_0, ax_ct_i, ax_ct_l, ax_ct_r, va_rf_s, Option.toList_some, Option.toList_none, List.cons_append, List.nil_append, and_true, true_and, and_self, ite_true, ite_false, if_true, if_false, Nat.reduceAdd, Nat.reduceLeDiff, Nat.reduceMul, Nat.reduceLT, nI_add, pk_mul, nI_lt', nI_le', nI_eq', nI_lt0, nI_ge0, nI_eq0, nI_gt0, nI_le0, nI_ne_m1, m1_ne_nI, m1_lt_nI, m1_le_nI, nI_lt_m1, nI_le_m1, nI_clamp, ax_in_nI, nI_shl, nI_shr, lg_cmp0, nx_and, nI_eq1, bI_0, bI_1, bf_or, eq_self, or_true, true_or, lt_T, le_T, lt_F, le_F, eq_F, eq_T, kdM_0, kdM_1, kdM_2, kdM_3, kdM_4, kdM_5, kdM_6, kdM_7, kdM_8, kdM_9, kdM_10, kdM_11, kdM_12, kdM_13, kdM_14, kdM_15, kdM_16, kdM_17, kdM_18, kdM_19, kdM_20, kdM_21, kdM_22, kdM_23, kdM_24, rM_0, rM_1, rM_5, rM_6, rM_7, rM_10, rM_11, rM_12, rM_13, rM_14, rM_15, rM_16, rM_18, rM_19, rM_20, rM_21, rM_23, rM_24, rM_25, rM_26, rM_28, rM_29, rM_30, rM_31, bI_c e2]
          refine mQ_methodOf_ hc1 c hcl w hw (fun h2 f2 => ?_)
          simp (disch := omega) only [sQ_targetOf_45, sQ_targetOf_48, sQ_targetOf_49, sQ_targetOf_51, sQ_targetOf_53, sQ_targetOf_54, sQ_targetOf_57, ax_clr_i, ax_clr_l, ax_clr_r, ax_clr_n, ax_ct_0, ax_ct_i, ax_ct_l, ax_ct_r, va_rf_s, Option.toList_some, Option.toList_none, List.cons_append, List.nil_append, and_true, true_and, and_self, ite_true, ite_false, if_true, if_false, Nat.reduceAdd, Nat.reduceLeDiff, Nat.reduceMul, Nat.reduceLT]
          exact hQ h2 (f1.x.tr f2)
        · rw [if_neg e3] at hQ
          simp (disch := omega) only [sQ_targetOf_27, sQ_targetOf_30, sQ_targetOf_31, sQ_targetOf_32, sQ_targetOf_33, sQ_targetOf_34, sQ_targetOf_37, sQ_targetOf_38, sQ_targetOf_40, sQ_targetOf_42, sQ_targetOf_45, sQ_targetOf_48, sQ_targetOf_49, sQ_targetOf_51, sQ_targetOf_53, sQ_targetOf_54, sQ_targetOf_57, ax_clr_i, ax_clr_l, ax_clr_r, ax_clr_n, ax_ct_0, ax_ct_i, ax_ct_l, ax_ct_r, va_rf_s, Option.toList_some, Option.toList_none, List.cons_append, List.nil_append, and_true, true_and, and_self, ite_true, ite_false, if_true, if_false, Nat.reduceAdd, Nat.reduceLeDiff, Nat.reduceMul, Nat.reduceLT, nI_add, pk_mul, nI_lt', nI_le', nI_eq', nI_lt0, nI_ge0, nI_eq0, nI_gt0, nI_le0, nI_ne_m1, m1_ne_nI, m1_lt_nI, m1_le_nI, nI_lt_m1, nI_le_m1, nI_clamp, ax_in_nI, nI_shl, nI_shr, lg_cmp0, nx_and, nI_eq1, bI_0, bI_1, bf_or, eq_self, or_true, true_or, lt_T, le_T, lt_F, le_F, eq_F, eq_T, kdM_0, kdM_1, kdM_2, kdM_3, kdM_4, kdM_5, kdM_6, kdM_7, kdM_8, kdM_9, kdM_10, kdM_11, kdM_12, kdM_13, kdM_14, kdM_15, kdM_16, kdM_17, kdM_18, kdM_19, kdM_20, kdM_21, kdM_22, kdM_23, kdM_24, rM_0, rM_1, rM_5, rM_6, rM_7, rM_10, rM_11, rM_12, rM_13, rM_14, rM_15, rM_16, rM_18, rM_19, rM_20, rM_21, rM_23, rM_24, rM_25, rM_26, rM_28, rM_29, rM_30, rM_31, bI_c e2]
          rw [← bI_t]
          refine mQ_search_ hc1 c hcl w hw true (fun h2 f2 => ?_)
          simp (disch := omega) only [sQ_targetOf_45, sQ_targetOf_48, sQ_targetOf_49, sQ_targetOf_51, sQ_targetOf_53, sQ_targetOf_54, sQ_targetOf_57, ax_clr_i, ax_clr_l, ax_clr_r, ax_clr_n, ax_ct_0, ax_ct_i, ax_ct_l, ax_ct_r, va_rf_s, Option.toList_some, Option.toList_none, List.cons_append, List.nil_append, and_true, true_and, and_self, ite_true, ite_false, if_true, if_false, Nat.reduceAdd, Nat.reduceLeDiff, Nat.reduceMul, Nat.reduceLT]
          exact hQ h2 (f1.x.tr f2.x)
end MT
