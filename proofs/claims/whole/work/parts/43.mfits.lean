/-! the model: spelling a name, what fits -/
def frL (h h' : ax_H) : Prop := h'.2 = h.2 ∧ ∀ r k, ¬ r = 22 → h'.1 r k = h.1 r k
theorem frL.rf {h : ax_H} : frL h h := ⟨rfl, fun _ _ _ => rfl⟩
theorem frL.tr {h h' h2 : ax_H} (a : frL h h') (b : frL h' h2) : frL h h2 := ⟨b.1.trans a.1, fun r k h1 => (b.2 r k h1).trans (a.2 r k h1)⟩
theorem frL.up {h : ax_H} {k : Nat} {x : Int32} : frL h (ax_upI h 22 k x) := ⟨rfl, fun r j h1 => by rw [up_I, if_neg (fun hh => h1 hh.1)]⟩
theorem clsM.frL {h h' : ax_H} {us : List (List Nat)} (hc : clsM h us) (f : frL h h') : clsM h' us := by
  obtain ⟨a1, a2, a3, a4, a5⟩ := hc
  refine ⟨by rw [f.1]; exact a1, ?_, a3, a4, fun c hc => ?_⟩
  · rw [f.2 _ _ (by omega)]; exact a2
  · obtain ⟨b1, b2, b3, b4⟩ := (a5 c hc).1
    exact ⟨⟨by rw [f.1]; exact b1, b2, fun j hj => by rw [f.2 _ _ (by omega)]; exact b3 j hj, b4⟩, (a5 c hc).2⟩
theorem ocM.frL {h h' : ax_H} {L : List oc4} (ho : ocM h L) (f : frL h h') : ocM h' L := by
  obtain ⟨a1, a2, a3⟩ := ho
  refine ⟨by rw [f.2 _ _ (by omega)]; exact a1, a2, fun i hi => ?_⟩
  rw [f.2 _ _ (by omega), f.2 _ _ (by omega), f.1]; exact a3 i hi
def letM (h : ax_H) (t : List Nat) : Prop := ∀ k, k < t.length → h.1 22 k = nI (bg t k)
theorem n64 : (lN 64 = 0) = False := eq_false (by decide)
theorem nI_s1 (x : Int32) : x - nI 1 = x + (-1) := by rw [Int32.sub_eq_add_neg]; rfl
section MF
variable {d : Nat} {Q : Option Value → ax_H → Prop}
theorem mQ_spell_a {h : ax_H} (y : Int64) : ∀ (r : List Nat) (n : Nat), r.length + n ≤ 10 → (∀ c ∈ r, 1 ≤ c ∧ c < 64) → ax_wp kM d mQ_spell 5 [some (.ref 0), some (.long y), none, some (.int (nI n)), some (.long (lN (pL r))), none, none] [] h Q = ax_wp kM d mQ_spell 26 [some (.ref 0), some (.long y), none, some (.int (nI (n + r.length))), some (.long (lN 0)), none, none] [] h Q
  | [], n, hn, hr => by
    rw [sQ_spell_5]
    simp (disch := omega) only [sQ_spell_7, sQ_spell_8, sQ_spell_9, ax_clr_i, ax_clr_l, ax_clr_r, ax_clr_n, ax_ct_0, ax_ct_i, ax_ct_l, ax_ct_r, va_rf_s, Option.toList_some, Option.toList_none, List.cons_append, List.nil_append, and_true, true_and, and_self, ite_true, ite_false, if_true, if_false, Nat.reduceAdd, Nat.reduceLeDiff, Nat.reduceMul, Nat.reduceLT, nI_add, pk_mul, nI_lt', nI_le', nI_eq', nI_lt0, nI_ge0, nI_eq0, nI_gt0, nI_le0, nI_ne_m1, m1_ne_nI, m1_lt_nI, m1_le_nI, nI_lt_m1, nI_le_m1, nI_clamp, ax_in_nI, nI_shl, nI_shr, lg_cmp0, nx_and, nI_eq1, bI_0, bI_1, bf_or, eq_self, or_true, true_or, pL, lN_0]
    simp
  | c :: r, n, hn, hr => by
    have hc := hr c (by simp)
    have hlt : pL (c :: r) < 2 ^ 60 := vT_p ⟨by simp at hn ⊢; omega, hr⟩
    have e1 : pL (c :: r) / 64 = pL r := by simp only [pL]; omega
    have hne : ¬ lN (pL (c :: r)) = lN 0 := by rw [pk_lEQ (by omega) (by omega)]; simp only [pL]; omega
    rw [sQ_spell_5]
    simp (disch := omega) only [sQ_spell_7, sQ_spell_8, sQ_spell_9, ax_clr_i, ax_clr_l, ax_clr_r, ax_clr_n, ax_ct_0, ax_ct_i, ax_ct_l, ax_ct_r, va_rf_s, Option.toList_some, Option.toList_none, List.cons_append, List.nil_append, and_true, true_and, and_self, ite_true, ite_false, if_true, if_false, Nat.reduceAdd, Nat.reduceLeDiff, Nat.reduceMul, Nat.reduceLT, lg_cmp0, lN_0]
    rw [if_neg hne]
    simp (disch := omega) only [sQ_spell_12, sQ_spell_15, sQ_spell_17, sQ_spell_20, sQ_spell_21, sQ_spell_23, ax_clr_i, ax_clr_l, ax_clr_r, ax_clr_n, ax_ct_0, ax_ct_i, ax_ct_l, ax_ct_r, va_rf_s, Option.toList_some, Option.toList_none, List.cons_append, List.nil_append, and_true, true_and, and_self, ite_true, ite_false, if_true, if_false, Nat.reduceAdd, Nat.reduceLeDiff, Nat.reduceMul, Nat.reduceLT, nI_add, show (64 : Int64) = lN 64 from rfl, pk_lDiv, lN_eq', n64, not_false_eq_true]
    rw [e1, mQ_spell_a y r (n + 1) (by simp at hn; omega) (fun x hx => hr x (by simp [hx]))]
    simp only [List.length_cons]
    rw [show n + 1 + r.length = n + (r.length + 1) by omega]
theorem mQ_spell_b (y : Int64) (N : Nat) (t : List Nat) (ht : vT t) : ∀ (r : List Nat) (h : ax_H), h.2.2 = rM → r = (t.take r.length).reverse → r.length ≤ t.length → (∀ k, r.length ≤ k → k < t.length → h.1 22 k = nI (bg t k)) → (∀ h', frL h h' → letM h' t → Q (some (.int (nI N))) h') → ax_wp kM d mQ_spell 34 [some (.ref 0), some (.long y), none, some (.int (nI N)), some (.long (lN (pL r))), none, some (.int (nI r.length + (-1)))] [] h Q
  | [], h, hr, hp, hl, hk, hQ => by
    rw [sQ_spell_34]
    simp (disch := omega) only [sQ_spell_36, sQ_spell_67, sQ_spell_68, ax_clr_i, ax_clr_l, ax_clr_r, ax_clr_n, ax_ct_0, ax_ct_i, ax_ct_l, ax_ct_r, va_rf_s, Option.toList_some, Option.toList_none, List.cons_append, List.nil_append, and_true, true_and, and_self, ite_true, ite_false, if_true, if_false, Nat.reduceAdd, Nat.reduceLeDiff, Nat.reduceMul, Nat.reduceLT, List.length_nil]
    rw [if_pos (by decide)]
    exact hQ h frL.rf (fun k hk2 => hk k (by simp) hk2)
  | c :: r, h, hr, hp, hl, hk, hQ => by
    have h10 := ht.1
    simp only [List.length_cons] at hl
    have hsp : (t.take (r.length + 1)) = t.take r.length ++ [bg t r.length] := by
      rw [List.take_succ_eq_append_getElem (by omega)]
      simp [bg, List.getD_eq_getElem?_getD, List.getElem?_eq_getElem (show r.length < t.length by omega)]
    simp only [List.length_cons] at hp
    rw [hsp, List.reverse_append] at hp
    simp only [List.reverse_cons, List.reverse_nil, List.nil_append, List.cons_append, List.cons.injEq] at hp
    have hcm : ∀ x ∈ t, 1 ≤ x ∧ x < 64 := ht.2
    have hrm : ∀ x ∈ r, 1 ≤ x ∧ x < 64 := fun x hx => hcm x (by rw [hp.2] at hx; exact List.mem_of_mem_take (List.mem_reverse.mp hx))
    have hc : 1 ≤ c ∧ c < 64 := by
      rw [hp.1]
      exact hcm _ (by unfold bg; rw [List.getD_eq_getElem?_getD, List.getElem?_eq_getElem (show r.length < t.length by omega)]; exact List.getElem_mem _)
    have hlt : pL (c :: r) < 2 ^ 60 := vT_p ⟨by simp; omega, fun x hx => by rcases List.mem_cons.mp hx with e | e; exact e ▸ hc; exact hrm x e⟩
    have e1 : pL (c :: r) / 64 = pL r := by simp only [pL]; omega
    have e2 : pL (c :: r) % 64 = c := by simp only [pL]; omega
    rw [sQ_spell_34]
    simp (disch := omega) only [sQ_spell_36, ax_clr_i, ax_clr_l, ax_clr_r, ax_clr_n, ax_ct_0, ax_ct_i, ax_ct_l, ax_ct_r, va_rf_s, Option.toList_some, Option.toList_none, List.cons_append, List.nil_append, and_true, true_and, and_self, ite_true, ite_false, if_true, if_false, Nat.reduceAdd, Nat.reduceLeDiff, Nat.reduceMul, Nat.reduceLT, List.length_cons, nI_dec, Nat.add_sub_cancel, nI_lt0]
    simp (disch := omega) only [sQ_spell_39, sQ_spell_40, sQ_spell_43, sQ_spell_45, sQ_spell_47, sQ_spell_50, sQ_spell_51, sQ_spell_52, sQ_spell_53, sQ_spell_55, sQ_spell_58, sQ_spell_59, sQ_spell_61, sQ_spell_64, ax_clr_i, ax_clr_l, ax_clr_r, ax_clr_n, ax_ct_0, ax_ct_i, ax_ct_l, ax_ct_r, va_rf_s, Option.toList_some, Option.toList_none, List.cons_append, List.nil_append, and_true, true_and, and_self, ite_true, ite_false, if_true, if_false, Nat.reduceAdd, Nat.reduceLeDiff, Nat.reduceMul, Nat.reduceLT, kdM_0, kdM_1, kdM_2, kdM_3, kdM_4, kdM_5, kdM_6, kdM_7, kdM_8, kdM_9, kdM_10, kdM_11, kdM_12, kdM_13, kdM_14, kdM_15, kdM_16, kdM_17, kdM_18, kdM_19, kdM_20, kdM_21, kdM_22, kdM_23, kdM_24, rM_0, rM_1, rM_5, rM_6, rM_7, rM_10, rM_11, rM_12, rM_13, rM_14, rM_15, rM_16, rM_18, rM_19, rM_20, rM_21, rM_23, rM_24, rM_25, rM_26, rM_28, rM_29, rM_30, rM_31, hr, show (64 : Int64) = lN 64 from rfl, pk_lDiv, pk_lRem, lN_i, lN_eq', nI_clamp, ax_in_nI, n64, lt_T, eq_F, not_false_eq_true]
    rw [e1, show lN (pL (c :: r)) - lN (pL r) * lN 64 = lN c by rw [lN_mul, lN_sub (by simp only [pL]; omega)]; congr 1; simp only [pL]; omega, lN_i]
    refine mQ_spell_b y N t ht r _ (by simp [up_I2, hr]) hp.2 (by omega) (fun k h1 h2 => ?_) (fun h' f hl' => hQ h' (frL.up.tr f) hl')
    rw [up_I]
    by_cases e : k = r.length
    · rw [if_pos ⟨rfl, e⟩, e, hp.1]
    · rw [if_neg (fun hh => e hh.2)]; exact hk k (by simp; omega) h2
theorem mQ_spell_ {h : ax_H} (hr : h.2.2 = rM) (t : List Nat) (ht : vT t) (hQ : ∀ h', frL h h' → letM h' t → Q (some (.int (nI t.length))) h') : ax_wp kM d mQ_spell 0 [some (.ref 0), some (.long (lN (pB t))), none, none, none, none, none] [] h Q := by
  have h10 := ht.1
  have h1 := vT_rev ht
  simp (disch := omega) only [sQ_spell_0, sQ_spell_1, sQ_spell_2, sQ_spell_3, ax_clr_i, ax_clr_l, ax_clr_r, ax_clr_n, ax_ct_0, ax_ct_i, ax_ct_l, ax_ct_r, va_rf_s, Option.toList_some, Option.toList_none, List.cons_append, List.nil_append, and_true, true_and, and_self, ite_true, ite_false, if_true, if_false, Nat.reduceAdd, Nat.reduceLeDiff, Nat.reduceMul, Nat.reduceLT]
  rw [show lN (pB t) = lN (pL t.reverse) by rw [pB_rev], mQ_spell_a _ t.reverse 0 (by simp; omega) h1.2]
  simp (disch := omega) only [sQ_spell_26, sQ_spell_27, sQ_spell_29, sQ_spell_30, sQ_spell_31, sQ_spell_32, ax_clr_i, ax_clr_l, ax_clr_r, ax_clr_n, ax_ct_0, ax_ct_i, ax_ct_l, ax_ct_r, va_rf_s, Option.toList_some, Option.toList_none, List.cons_append, List.nil_append, and_true, true_and, and_self, ite_true, ite_false, if_true, if_false, Nat.reduceAdd, Nat.reduceLeDiff, Nat.reduceMul, Nat.reduceLT, List.length_reverse, Nat.zero_add, nI_s1]
  have h9 := mQ_spell_b (d := d) (Q := Q) (lN (pL t.reverse)) t.length t ht t.reverse h hr (by simp) (by simp) (fun k h1 h2 => by simp at h1; omega) hQ
  rw [List.length_reverse] at h9
  exact h9
end MF
