/-! the model: put -/
def byt (x : Int32) (k : Nat) : Nat := x.toBitVec.toNat / 2 ^ (8 * k) % 256
theorem byt_lt (x : Int32) (k : Nat) : byt x k < 256 := Nat.mod_lt _ (by decide)
theorem byt_bit (x : Int32) (k i : Nat) (hi : i < 32) : (BitVec.ofNat 32 (byt x k)).getLsbD i = (x.toBitVec.getLsbD (8 * k + i) && decide (i < 8)) := by
  unfold byt
  rw [BitVec.getLsbD_ofNat, show (256 : Nat) = 2 ^ 8 from rfl, Nat.testBit_mod_two_pow, Nat.testBit_div_two_pow]
  rw [show i + 8 * k = 8 * k + i by omega]
  simp [hi, BitVec.getLsbD, Bool.and_comm]
theorem b255 (i : Nat) (hi : i < 32) : (nI 255).toBitVec.getLsbD i = decide (i < 8) := by
  have := byt_bit (nI 4294967295) 0 i hi
  have h2 : byt (nI 4294967295) 0 = 255 := by decide
  rw [h2] at this
  have h3 : (nI 255).toBitVec = BitVec.ofNat 32 255 := rfl
  rw [h3, this]
  have h4 : ∀ i, i < 32 → (nI 4294967295).toBitVec.getLsbD (8 * 0 + i) = true := by decide +kernel
  rw [h4 i hi]; simp
theorem byt_sar (x : Int32) (k : Nat) (hk : k < 4) : (x >>> (nI (8 * k) &&& 31)) &&& nI 255 = nI (byt x k) := by
  apply Int32.toBitVec_inj.mp
  have e1 : (x >>> (nI (8 * k) &&& 31)).toBitVec = x.toBitVec.sshiftRight (8 * k) := by
    show BitVec.sshiftRight x.toBitVec ((nI (8 * k) &&& 31).toBitVec.smod 32).toNat = _
    rw [nI_sh _ (by omega)]
  show (x >>> (nI (8 * k) &&& 31)).toBitVec &&& (nI 255).toBitVec = BitVec.ofNat 32 (byt x k)
  rw [e1]
  apply BitVec.eq_of_getLsbD_eq
  intro i hi
  rw [BitVec.getLsbD_and, b255 i hi, byt_bit x k i hi, BitVec.getLsbD_sshiftRight]
  by_cases e : i < 8
  · have : 8 * k + i < 32 := by omega
    have n : ¬ 32 ≤ i := by omega
    simp [e, this, n]
  · simp [e]
theorem nI_shu : ∀ n, n < 32 → ((nI n).toUInt32 &&& Int32.toUInt32 31) = UInt32.ofNat n := by decide +kernel
theorem byt_shr (x : Int32) (k : Nat) (hk : k < 4) : (x.toUInt32 >>> ((nI (8 * k)).toUInt32 &&& Int32.toUInt32 31)).toInt32 &&& nI 255 = nI (byt x k) := by
  apply Int32.toBitVec_inj.mp
  have e1 : (x.toUInt32 >>> ((nI (8 * k)).toUInt32 &&& Int32.toUInt32 31)).toInt32.toBitVec = x.toBitVec >>> (8 * k) := by
    rw [nI_shu _ (by omega)]
    apply BitVec.eq_of_toNat_eq
    show (x.toUInt32 >>> UInt32.ofNat (8 * k)).toNat = _
    rw [UInt32.toNat_shiftRight, BitVec.toNat_ushiftRight]
    have h1 : (UInt32.ofNat (8 * k)).toNat = 8 * k := Nat.mod_eq_of_lt (by omega)
    rw [h1, Nat.mod_eq_of_lt (by omega)]
    rfl
  show (x.toUInt32 >>> ((nI (8 * k)).toUInt32 &&& Int32.toUInt32 31)).toInt32.toBitVec &&& (nI 255).toBitVec = BitVec.ofNat 32 (byt x k)
  rw [e1]
  apply BitVec.eq_of_getLsbD_eq
  intro i hi
  rw [BitVec.getLsbD_and, b255 i hi, byt_bit x k i hi, BitVec.getLsbD_ushiftRight]
/-- how many bytes are put -/
def oPut (b : List Nat) (y : Int32) : Option Nat := match ixN y 5 with
  | none => none
  | some m => if 1 ≤ m ∧ b.length + m ≤ 120 then some m else none
def bts (w : Int32) : Nat → List Nat
  | 0 => []
  | m + 1 => byt w m :: bts w m
def nBuf (b : List Nat) (w y : Int32) : List Nat := match oPut b y with
  | none => b
  | some m => b ++ bts w m
theorem stM.put {h : ax_H} {b : List Nat} {us ps : List (List Nat)} {ty : List Nat} {rs : List rl4} (hs : stM h b us ps ty rs) (hl : b.length < 120) (x : Nat) (hx : x < 256) : stM (ax_upI (ax_upI h 1 (1440 + b.length) (nI x)) 2 12 (nI (b.length + 1))) (b ++ [x]) us ps ty rs := by
  obtain ⟨s1, s2, s3, s4⟩ := hs
  refine ⟨?_, ?_, ?_, ?_⟩
  · obtain ⟨a1, a2, a3, a4, a5⟩ := s1
    refine ⟨a1, by simp [up_I], by simp; omega, fun j hj => ?_, fun c hc => ?_⟩
    · simp only [up_I, List.length_append, List.length_cons, List.length_nil] at hj ⊢
      unfold bg
      by_cases e : j = b.length
      · subst e; simp
      · have h2 := a4 j (by omega)
        unfold bg at h2
        rw [List.getD_eq_getElem?_getD, List.getElem?_append_left (by omega), ← List.getD_eq_getElem?_getD]
        simp [e, h2]
    · rcases List.mem_append.mp hc with q | q
      · exact a5 c q
      · simp at q; omega
  · obtain ⟨a1, a2, a3, a4, a5⟩ := s2
    refine ⟨a1, by simp only [up_I]; rw [if_neg (by omega), if_neg (by omega)]; exact a2, a3, a4, fun c hc => ⟨?_, (a5 c hc).2⟩⟩
    obtain ⟨b1, b2, b3, b4⟩ := (a5 c hc).1
    refine ⟨b1, b2, fun j hj => ?_, b4⟩
    simp only [up_I]
    rw [if_neg (by omega), if_neg (by omega)]
    exact b3 j hj
  · have e : ∀ r k, ¬ r = 1 → ¬ r = 2 → (ax_upI (ax_upI h 1 (1440 + b.length) (nI x)) 2 12 (nI (b.length + 1))).1 r k = h.1 r k := fun r k h1 h2 => by simp only [up_I]; rw [if_neg (by omega), if_neg (by omega)]
    have f : ∀ p t, pat1 h p t → pat1 (ax_upI (ax_upI h 1 (1440 + b.length) (nI x)) 2 12 (nI (b.length + 1))) p t := fun p t hp => ⟨by rw [e _ _ (by omega) (by omega)]; exact hp.1, hp.2.1, fun i hi => by rw [e _ _ (by omega) (by omega)]; exact hp.2.2 i hi⟩
    exact ⟨by rw [e _ _ (by omega) (by omega)]; exact s3.1, s3.2.1, fun p hp => f _ _ (s3.2.2.1 p hp), f _ _ s3.2.2.2⟩
  · have e : ∀ r k, ¬ r = 1 → ¬ r = 2 → (ax_upI (ax_upI h 1 (1440 + b.length) (nI x)) 2 12 (nI (b.length + 1))).1 r k = h.1 r k := fun r k h1 h2 => by simp only [up_I]; rw [if_neg (by omega), if_neg (by omega)]
    refine ⟨by rw [e _ _ (by omega) (by omega)]; exact s4.1, s4.2.1, fun r hr => ?_, fun r h1 h2 => by rw [e _ _ (by omega) (by omega)]; exact s4.2.2.2 r h1 h2⟩
    obtain ⟨c1, c2, c3, c4, c5⟩ := s4.2.2.1 r hr
    exact ⟨by rw [e _ _ (by omega) (by omega)]; exact c1, by rw [e _ _ (by omega) (by omega)]; exact c2, by rw [e _ _ (by omega) (by omega)]; exact c3, ⟨by rw [e _ _ (by omega) (by omega)]; exact c4.1, fun i hi => by rw [e _ _ (by omega) (by omega)]; exact c4.2 i hi⟩, c5⟩
section MP
variable {d : Nat} {Q : Option Value → ax_H → Prop} {us ps : List (List Nat)} {ty : List Nat} {rs : List rl4}
theorem mQ_put_l (w y : Int32) : ∀ (m : Nat) (h : ax_H) (b : List Nat), stM h b us ps ty rs → b.length + m ≤ 120 → m ≤ 4 → (∀ h', stM h' (b ++ bts w m) us ps ty rs → Q (some (.int (bI true))) h') → ax_wp kM d mQ_put 30 [some (.ref 0), some (.int w), some (.int y), some (.int (nI m + (-1)))] [] h Q
  | 0, h, b, hs, hl, h4, hQ => by
    rw [sQ_put_30]
    simp (disch := omega) only [sQ_put_31, sQ_put_77, sQ_put_78, ax_clr_i, ax_clr_l, ax_clr_r, ax_clr_n, ax_ct_0, ax_ct_i, ax_ct_l, ax_ct_r, va_rf_s, Option.toList_some, Option.toList_none, List.cons_append, List.nil_append, and_true, true_and, and_self, ite_true, ite_false, if_true, if_false, Nat.reduceAdd, Nat.reduceLeDiff, Nat.reduceMul, Nat.reduceLT]
    rw [if_pos (by decide)]
    simp (disch := omega) only [sQ_put_77, sQ_put_78, ax_clr_i, ax_clr_l, ax_clr_r, ax_clr_n, ax_ct_0, ax_ct_i, ax_ct_l, ax_ct_r, va_rf_s, Option.toList_some, Option.toList_none, List.cons_append, List.nil_append, and_true, true_and, and_self, ite_true, ite_false, if_true, if_false, Nat.reduceAdd, Nat.reduceLeDiff, Nat.reduceMul, Nat.reduceLT, nI_add, pk_mul, nI_lt', nI_le', nI_eq', nI_lt0, nI_ge0, nI_eq0, nI_gt0, nI_le0, nI_ne_m1, m1_ne_nI, m1_lt_nI, m1_le_nI, nI_lt_m1, nI_le_m1, nI_clamp, ax_in_nI, nI_shl, nI_shr, lg_cmp0, nx_and, nI_eq1, bI_0, bI_1, bf_or, eq_self, or_true, true_or]
    simp only [bts, List.append_nil] at hQ
    exact hQ h hs
  | m + 1, h, b, hs, hl, h4, hQ => by
    have hr := hs.1.1
    have h1 := hs.1.2.1
    have bm := byt_lt w m
    rw [sQ_put_30]
    simp (disch := omega) only [sQ_put_31, sQ_put_34, sQ_put_35, sQ_put_38, sQ_put_41, sQ_put_42, sQ_put_45, sQ_put_47, sQ_put_48, sQ_put_49, sQ_put_50, sQ_put_52, sQ_put_53, sQ_put_54, sQ_put_55, sQ_put_58, sQ_put_59, sQ_put_60, sQ_put_61, sQ_put_64, sQ_put_66, sQ_put_67, sQ_put_68, sQ_put_69, sQ_put_70, sQ_put_71, sQ_put_74, ax_clr_i, ax_clr_l, ax_clr_r, ax_clr_n, ax_ct_0, ax_ct_i, ax_ct_l, ax_ct_r, va_rf_s, Option.toList_some, Option.toList_none, List.cons_append, List.nil_append, and_true, true_and, and_self, ite_true, ite_false, if_true, if_false, Nat.reduceAdd, Nat.reduceLeDiff, Nat.reduceMul, Nat.reduceLT, kdM_0, kdM_1, kdM_2, kdM_3, kdM_4, kdM_5, kdM_6, kdM_7, kdM_8, kdM_9, kdM_10, kdM_11, kdM_12, kdM_13, kdM_14, kdM_15, kdM_16, kdM_17, kdM_18, kdM_19, kdM_20, kdM_21, kdM_22, kdM_23, kdM_24, rM_0, rM_1, rM_5, rM_6, rM_7, rM_10, rM_11, rM_12, rM_13, rM_14, rM_15, rM_16, rM_18, rM_19, rM_20, rM_21, rM_23, rM_24, rM_25, rM_26, rM_28, rM_29, rM_30, rM_31, nI_dec, Nat.add_sub_cancel, nI_lt0, hr, h1, nI_clamp, ax_in_nI, lt_T, pk_mul, byt_sar, nI_add, up_I, up_I2, Nat.reduceEqDiff, and_false, false_and, reduceIte, eq_self]
    refine mQ_put_l w y m _ _ (hs.put (by omega) (byt w m) bm) (by simp; omega) (by omega) (fun h' s => hQ h' ?_)
    rw [bts, show b ++ byt w m :: bts w m = b ++ [byt w m] ++ bts w m by simp]
    exact s
theorem mQ_put_ {h : ax_H} {b : List Nat} (hs : stM h b us ps ty rs) (w y : Int32) (hQ : ∀ h', stM h' (nBuf b w y) us ps ty rs → Q (some (.int (bI (oPut b y).isSome))) h') : ax_wp kM d mQ_put 0 [some (.ref 0), some (.int w), some (.int y), none] [] h Q := by
  have hr := hs.1.1
  have h1 := hs.1.2.1
  have hl := hs.1.2.2.1
  unfold nBuf at hQ
  have no : ax_wp kM d mQ_put 24 [some (.ref 0), some (.int w), some (.int y), none] [] h Q = Q (some (.int (bI false))) h := by
    simp (disch := omega) only [sQ_put_24, sQ_put_25, ax_clr_i, ax_clr_l, ax_clr_r, ax_clr_n, ax_ct_0, ax_ct_i, ax_ct_l, ax_ct_r, va_rf_s, Option.toList_some, Option.toList_none, List.cons_append, List.nil_append, and_true, true_and, and_self, ite_true, ite_false, if_true, if_false, Nat.reduceAdd, Nat.reduceLeDiff, Nat.reduceMul, Nat.reduceLT, nI_add, pk_mul, nI_lt', nI_le', nI_eq', nI_lt0, nI_ge0, nI_eq0, nI_gt0, nI_le0, nI_ne_m1, m1_ne_nI, m1_lt_nI, m1_le_nI, nI_lt_m1, nI_le_m1, nI_clamp, ax_in_nI, nI_shl, nI_shr, lg_cmp0, nx_and, nI_eq1, bI_0, bI_1, bf_or, eq_self, or_true, true_or, bI_f]
  simp (disch := omega) only [sQ_put_0, sQ_put_1, sQ_put_2, ax_clr_i, ax_clr_l, ax_clr_r, ax_clr_n, ax_ct_0, ax_ct_i, ax_ct_l, ax_ct_r, va_rf_s, Option.toList_some, Option.toList_none, List.cons_append, List.nil_append, and_true, true_and, and_self, ite_true, ite_false, if_true, if_false, Nat.reduceAdd, Nat.reduceLeDiff, Nat.reduceMul, Nat.reduceLT]
  cases e : ixN y 5 with
  | none =>
    have e2 := ixN_none e
    have o : oPut b y = none := by unfold oPut; rw [e]
    rw [o] at hQ
    by_cases e3 : y < nI 1
    · rw [if_pos e3, no]; exact hQ h hs
    · rw [if_neg e3]
      simp (disch := omega) only [sQ_put_5, sQ_put_6, sQ_put_7, ax_clr_i, ax_clr_l, ax_clr_r, ax_clr_n, ax_ct_0, ax_ct_i, ax_ct_l, ax_ct_r, va_rf_s, Option.toList_some, Option.toList_none, List.cons_append, List.nil_append, and_true, true_and, and_self, ite_true, ite_false, if_true, if_false, Nat.reduceAdd, Nat.reduceLeDiff, Nat.reduceMul, Nat.reduceLT]
      rw [if_pos, no]
      · exact hQ h hs
      · rw [← Int32.not_le]
        intro q
        apply e2
        have q1 := Int32.le_iff_toInt_le.mp q
        have q2 := Int32.le_iff_toInt_le.mp (Int32.not_lt.mp e3)
        rw [nI_toInt (by omega)] at q1 q2
        refine ⟨Int32.le_iff_toInt_le.mpr ?_, Int32.lt_iff_toInt_lt.mpr ?_⟩
        · have : (0 : Int32).toInt = 0 := by decide
          omega
        · rw [nI_toInt (by omega)]; omega
  | some m =>
    obtain ⟨a1, rfl⟩ := ixN_some (by omega) e
    by_cases e3 : 1 ≤ m ∧ b.length + m ≤ 120
    · have o : oPut b (nI m) = some m := by unfold oPut; rw [e]; dsimp only; rw [if_pos e3]
      rw [o] at hQ
      simp (disch := omega) only [sQ_put_5, sQ_put_6, sQ_put_7, sQ_put_10, sQ_put_11, sQ_put_14, sQ_put_16, sQ_put_17, sQ_put_18, sQ_put_19, sQ_put_21, sQ_put_24, sQ_put_25, sQ_put_26, sQ_put_27, sQ_put_28, sQ_put_29, ax_clr_i, ax_clr_l, ax_clr_r, ax_clr_n, ax_ct_0, ax_ct_i, ax_ct_l, ax_ct_r, va_rf_s, Option.toList_some, Option.toList_none, List.cons_append, List.nil_append, and_true, true_and, and_self, ite_true, ite_false, if_true, if_false, Nat.reduceAdd, Nat.reduceLeDiff, Nat.reduceMul, Nat.reduceLT, nI_add, pk_mul, nI_lt', nI_le', nI_eq', nI_lt0, nI_ge0, nI_eq0, nI_gt0, nI_le0, nI_ne_m1, m1_ne_nI, m1_lt_nI, m1_le_nI, nI_lt_m1, nI_le_m1, nI_clamp, ax_in_nI, nI_shl, nI_shr, lg_cmp0, nx_and, nI_eq1, bI_0, bI_1, bf_or, eq_self, or_true, true_or, kdM_0, kdM_1, kdM_2, kdM_3, kdM_4, kdM_5, kdM_6, kdM_7, kdM_8, kdM_9, kdM_10, kdM_11, kdM_12, kdM_13, kdM_14, kdM_15, kdM_16, kdM_17, kdM_18, kdM_19, kdM_20, kdM_21, kdM_22, kdM_23, kdM_24, rM_0, rM_1, rM_5, rM_6, rM_7, rM_10, rM_11, rM_12, rM_13, rM_14, rM_15, rM_16, rM_18, rM_19, rM_20, rM_21, rM_23, rM_24, rM_25, rM_26, rM_28, rM_29, rM_30, rM_31, lt_T, le_T, lt_F, le_F, eq_F, eq_T, hr, h1, nI_s1]
      exact mQ_put_l w _ m h b hs (by omega) (by omega) hQ
    · have o : oPut b (nI m) = none := by unfold oPut; rw [e]; dsimp only; rw [if_neg e3]
      rw [o] at hQ
      by_cases e4 : m = 0
      · rw [if_pos (by rw [nI_lt' (by omega) (by omega)]; omega), no]; exact hQ h hs
      · simp (disch := omega) only [sQ_put_5, sQ_put_6, sQ_put_7, sQ_put_10, sQ_put_11, sQ_put_14, sQ_put_16, sQ_put_17, sQ_put_18, sQ_put_19, sQ_put_21, ax_clr_i, ax_clr_l, ax_clr_r, ax_clr_n, ax_ct_0, ax_ct_i, ax_ct_l, ax_ct_r, va_rf_s, Option.toList_some, Option.toList_none, List.cons_append, List.nil_append, and_true, true_and, and_self, ite_true, ite_false, if_true, if_false, Nat.reduceAdd, Nat.reduceLeDiff, Nat.reduceMul, Nat.reduceLT, nI_add, pk_mul, nI_lt', nI_le', nI_eq', nI_lt0, nI_ge0, nI_eq0, nI_gt0, nI_le0, nI_ne_m1, m1_ne_nI, m1_lt_nI, m1_le_nI, nI_lt_m1, nI_le_m1, nI_clamp, ax_in_nI, nI_shl, nI_shr, lg_cmp0, nx_and, nI_eq1, bI_0, bI_1, bf_or, eq_self, or_true, true_or, kdM_0, kdM_1, kdM_2, kdM_3, kdM_4, kdM_5, kdM_6, kdM_7, kdM_8, kdM_9, kdM_10, kdM_11, kdM_12, kdM_13, kdM_14, kdM_15, kdM_16, kdM_17, kdM_18, kdM_19, kdM_20, kdM_21, kdM_22, kdM_23, kdM_24, rM_0, rM_1, rM_5, rM_6, rM_7, rM_10, rM_11, rM_12, rM_13, rM_14, rM_15, rM_16, rM_18, rM_19, rM_20, rM_21, rM_23, rM_24, rM_25, rM_26, rM_28, rM_29, rM_30, rM_31, lt_T, le_T, lt_F, le_F, eq_F, eq_T, hr, h1]
        rw [no]; exact hQ h hs
end MP
