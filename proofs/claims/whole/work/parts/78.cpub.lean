/-! the class: where a fault may lie -/
theorem sTx_le (b : List Nat) : ∀ n p, (sTx b n p).2 ≤ p + n
  | 0, p => Nat.le_refl _
  | n + 1, p => by
    rw [sTx]
    split
    · have := sTx_le b n (p + 1); omega
    · show p ≤ _; omega
theorem sBy_le (b : List Nat) : ∀ n p, (sBy b n p).2 ≤ p + n
  | 0, p => Nat.le_refl _
  | n + 1, p => by
    rw [sBy]
    split
    · have := sBy_le b n (p + 1); omega
    · show p ≤ _; omega
theorem sCo_le (b : List Nat) (last : Bool) (p : Nat) : (sCo b last p).2 ≤ p + 12 := by
  unfold sCo
  by_cases e0 : tgOk b last p = false
  · rw [if_pos e0]; show p ≤ _; omega
  · rw [if_neg e0]
    by_cases e1 : bg b p = 1
    · rw [if_pos e1]
      by_cases e2 : p + 1 < b.length ∧ 1 ≤ bg b (p + 1) ∧ bg b (p + 1) ≤ 10
      · rw [if_pos e2]; have := sTx_le b (bg b (p + 1)) (p + 2); omega
      · rw [if_neg e2]; show p + 1 ≤ _; omega
    · rw [if_neg e1]
      have := sBy_le b (if bg b p = 7 then 1 else 2) (p + 1)
      have : (if bg b p = 7 then 1 else 2) ≤ 2 := by split <;> omega
      omega
theorem sCs_le (b : List Nat) (n : Nat) : ∀ (m k p : Nat) (f : Nat → Int32), p ≤ b.length → (sCs b n m k p f).2.1 ≤ b.length + 12
  | 0, k, p, f, hp => by rw [sCs]; show p ≤ _; omega
  | m + 1, k, p, f, hp => by
    rw [sCs]
    by_cases e : n < k
    · rw [if_pos e]; show p ≤ _; omega
    · rw [if_neg e]
      by_cases e1 : (sCo b (decide (k = n)) p).1 = false
      · rw [if_pos e1]; have := sCo_le b (decide (k = n)) p; show (sCo b (decide (k = n)) p).2 ≤ _; omega
      · rw [if_neg e1]
        have := sCo_ok (b := b) (last := decide (k = n)) (p := p) (by simpa using e1)
        exact sCs_le b n m _ _ _ (by rw [this.2.1]; exact this.2.2)
theorem rdB_le (b : List Nat) : (rdB b).2 ≤ b.length + 20 := by
  unfold rdB rdC
  by_cases e0 : 0 < b.length ∧ bg b 0 = 197
  · simp only [if_pos e0]
    by_cases e1 : 1 < b.length ∧ bg b 1 ≤ 24
    · simp only [if_pos e1]; have := sCs_le b (bg b 1) 26 1 2 (fun k => if k < 26 then nI 0 else 0) (by omega); omega
    · simp only [if_neg e1]; omega
  · simp only [if_neg e0]; omega
theorem sCk_le {b : List Nat} (hc : cU b) : ∀ (m k a : Nat), (sCk b (bg b 1) (offU b (bg b 1)) m k a).1 = false → (sCk b (bg b 1) (offU b (bg b 1)) m k a).2 ≤ b.length + 2
  | 0, k, a, h => by rw [sCk] at h; cases h
  | m + 1, k, a, h => by
    rw [sCk] at h ⊢
    have key : tgv b (bg b 1) (offU b (bg b 1)) k ≠ 0 → offU b (bg b 1) k ≤ b.length := fun w => by
      have := tgU_at hc (k := k) w
      omega
    by_cases e : (tgv b (bg b 1) (offU b (bg b 1)) k = 7 ∧ ftN b (bg b 1) (offU b (bg b 1)) (bg b (offU b (bg b 1) k + 1)) 21 = false) ∨ (9 ≤ tgv b (bg b 1) (offU b (bg b 1)) k ∧ ftN b (bg b 1) (offU b (bg b 1)) (bg b (offU b (bg b 1) k + 1)) 7 = false)
    · rw [if_pos e]
      have := key (by omega)
      show offU b (bg b 1) k + 1 ≤ _; omega
    · rw [if_neg e] at h ⊢
      by_cases e2 : 9 ≤ tgv b (bg b 1) (offU b (bg b 1)) k ∧ ftN b (bg b 1) (offU b (bg b 1)) (bg b (offU b (bg b 1) k + 2)) 20 = false
      · rw [if_pos e2]
        have := key (by omega)
        show offU b (bg b 1) k + 2 ≤ _; omega
      · rw [if_neg e2] at h ⊢; exact sCk_le hc m (k + 1) _ h
theorem sSv_le (b : List Nat) (mo : Nat) (f : Nat → Bool) {p : Nat} (hp : p < 1000) : (sSv b mo f p).2 < 1000 := by
  unfold sSv
  by_cases e : (tk b 120 p (fun k => decide (k ≤ mo))).1 = true
  · rw [if_pos e]; have k := tk_t e; have := (sNm_le b 120 f (bg b p) (p + 1)).2 (by omega); omega
  · rw [if_neg e]; exact hp
theorem sCd_le (b : List Nat) (n : Nat) (off : Nat → Nat) (start lim : Nat) : ∀ (m p : Nat), p ≤ lim → (sCd b n off start lim m p).2 ≤ lim
  | 0, p, hp => hp
  | m + 1, p, hp => by
    rw [sCd]
    by_cases e : p < lim
    · rw [if_pos e]
      have k := sIn_le (b := b) (n := n) (off := off) (start := start) e
      by_cases e1 : (sIn b n off start lim p).1 = true
      · rw [if_pos e1]; exact sCd_le b n off start lim m _ k.1
      · rw [if_neg e1]; exact k.1
    · rw [if_neg e]; exact hp
theorem sMt_le (b : List Nat) (n : Nat) (off : Nat → Nat) (p : Nat) : (sMt b n off p).2 ≤ p + 27 := by
  unfold sMt
  by_cases e0 : (tk b 120 p (fun k => ftN b n off k 20)).1 = true
  · rw [if_pos e0]
    by_cases e1 : (tk b 120 (p + 1) (fun k => decide (k ≤ 255))).1 = true
    · rw [if_pos e1]
      by_cases e2 : (tk b 120 (p + 2) (fun k => decide (k ≤ 24))).1 = true
      · rw [if_pos e2]
        have k := of_decide_eq_true (tk_t e2).2.2.1
        have := sCd_le b n off (p + 3) (p + 3 + bg b (p + 2)) (bg b (p + 2)) (p + 3) (by omega)
        omega
      · rw [if_neg e2]; show p + 2 ≤ _; omega
    · rw [if_neg e1]; show p + 1 ≤ _; omega
  · rw [if_neg e0]; show p ≤ _; omega
theorem sMs_le (b : List Nat) (n : Nat) (off : Nat → Nat) : ∀ (m p : Nat), p ≤ b.length → (sMs b n off m p).2 ≤ b.length + 27
  | 0, p, hp => by rw [sMs]; show p ≤ _; omega
  | m + 1, p, hp => by
    rw [sMs]
    by_cases e : (sMt b n off p).1 = true
    · rw [if_pos e]; have k := sMt_len e; exact sMs_le b n off m _ (by rw [k.1]; exact k.2.1)
    · rw [if_neg e]; have := sMt_le b n off p; show (sMt b n off p).2 ≤ _; omega
theorem sR4_le {b : List Nat} (h120 : b.length ≤ 120) (n : Nat) (off : Nat → Nat) {p : Nat} (hp : p < 1000) : (sR4 b n off p).2 < 1000 := by
  unfold sR4
  by_cases e : (tk b 120 p (fun k => decide (k ≤ 4))).1 = true
  · have k := tk_t e
    have := sMs_le b n off (bg b p) (p + 1) (by omega)
    rw [if_pos e]
    split
    · show (sMs b n off (bg b p) (p + 1)).2 < _; omega
    · show (sMs b n off (bg b p) (p + 1)).2 < _; omega
  · rw [if_neg e]; exact hp
theorem sR3_le {b : List Nat} (h120 : b.length ≤ 120) (n : Nat) (off : Nat → Nat) {p : Nat} (hp : p < 1000) : (sR3 b n off p).2 < 1000 := by
  have k := sSv_le b 4 (fun k => ftN b n off k 20) hp
  unfold sR3
  split
  · exact sR4_le h120 n off k
  · exact k
theorem sR2_le {b : List Nat} (h120 : b.length ≤ 120) (n : Nat) (off : Nat → Nat) {p : Nat} (hp : p < 1000) : (sR2 b n off p).2 < 1000 := by
  have k := sSv_le b 3 (fun k => ftN b n off k 7) hp
  unfold sR2
  split
  · exact sR3_le h120 n off k
  · exact k
theorem ldU_lt {b : List Nat} (h120 : b.length ≤ 120) : (ldU b).2 < 1000 := by
  unfold ldU
  by_cases e0 : (rdB b).1 = true
  · obtain ⟨c1, c2, c3, c4⟩ := rdB_ok e0
    rw [if_pos e0]
    by_cases e1 : (sCk b (bg b 1) (offU b (bg b 1)) (bg b 1) 1 (hdU b)).1 = true
    · rw [if_pos e1]
      by_cases e2 : (tk b 120 (hdU b) (fun k => fU b k 7)).1 = true
      · rw [if_pos e2]
        unfold sRs
        split
        · exact sR2_le h120 _ _ (by omega)
        · split
          · exact sR2_le h120 _ _ (by omega)
          · show hdU b + 1 < 1000; omega
      · rw [if_neg e2]; show hdU b < 1000; omega
    · rw [if_neg e1]
      have := sCk_le c1 (bg b 1) 1 (hdU b) (by simpa using e1)
      show (sCk b (bg b 1) (offU b (bg b 1)) (bg b 1) 1 (hdU b)).2 < 1000; omega
  · rw [if_neg e0]; have := rdB_le b; show (rdB b).2 < 1000; omega
/-! the class: its public methods -/
def stC (h : ax_H) (b : List Nat) (us ps : List (List Nat)) (ty : List Nat) (rs : List rl4) : Prop := ∃ o s x, usC o s x h us ∧ lkC h us ∧ bfC h b ∧ patC h ps ty ∧ rulC h ps.length rs
theorem stC.q {h h' : ax_H} {b : List Nat} {us ps : List (List Nat)} {ty : List Nat} {rs : List rl4} (hs : stC h b us ps ty rs) (f : frq h h') : stC h' b us ps ty rs := by
  obtain ⟨o, s, x, a1, a2, a3, a4, a5⟩ := hs
  exact ⟨o, s, x, a1.q f, a2.q f, a3.q2 f, a4.q f, a5.q f⟩
def frp (h h' : ax_H) : Prop := (∀ a k, a = 0 ∨ 121 ≤ a → h'.1 a k = h.1 a k) ∧ ∀ a k, a = 0 ∨ a = 3 ∨ 121 ≤ a → h'.2.1 a k = h.2.1 a k
theorem patC.p {h h' : ax_H} {ps : List (List Nat)} {ty : List Nat} (hp : patC h ps ty) (f : frp h h') : patC h' ps ty := ⟨by rw [f.1 _ _ (by omega)]; exact hp.1, hp.2.1, fun p w => by rw [f.2 _ _ (by omega)]; exact hp.2.2.1 p w, by rw [f.2 _ _ (by omega)]; exact hp.2.2.2.1, hp.2.2.2.2⟩
theorem knC.p {h h' : ax_H} {r : Nat} {K : List oc4} (hk : knC h r K) (f : frp h h') : knC h' r K := ⟨by rw [f.1 _ _ (by omega)]; exact hk.1, fun i hi => by rw [f.1 _ _ (by omega), f.1 _ _ (by omega), f.2 _ _ (by omega), f.2 _ _ (by omega)]; exact hk.2 i hi⟩
theorem rulC.p {h h' : ax_H} {n : Nat} {rs : List rl4} (hk : rulC h n rs) (f : frp h h') : rulC h' n rs := ⟨by rw [f.1 _ _ (by omega)]; exact hk.1, hk.2.1, fun r w => by
  obtain ⟨a1, a2, a3, a4, a5⟩ := hk.2.2.1 r w
  exact ⟨by rw [f.1 _ _ (by omega)]; exact a1, by rw [f.1 _ _ (by omega)]; exact a2, by rw [f.1 _ _ (by omega)]; exact a3, a4.p f, a5⟩, fun r w1 w2 => by rw [f.1 _ _ (by omega)]; exact hk.2.2.2 r w1 w2⟩
section CP
variable {d : Nat} {Q : Option Value → ax_H → Prop} {b : List Nat} {us ps : List (List Nat)} {ty : List Nat} {rs : List rl4}
theorem mP_bytes_ {h : ax_H} (hs : stC h b us ps ty rs) : ax_wp kC d mP_bytes 0 [some (.ref 0)] [] h Q = Q (some (.int (nI b.length))) h := by
  obtain ⟨o, s, x, a1, a2, a3, a4, a5⟩ := hs
  have hr := a1.1
  have z := a3.1
  simp (disch := omega) only [sP_bytes_0, sP_bytes_1, sP_bytes_4, sP_bytes_7, ax_clr_i, ax_clr_l, ax_clr_r, ax_clr_n, ax_ct_0, ax_ct_i, ax_ct_l, ax_ct_r, va_rf_s, Option.toList_some, Option.toList_none, List.cons_append, List.nil_append, and_true, true_and, and_self, ite_true, ite_false, if_true, if_false, Nat.reduceAdd, Nat.reduceLeDiff, Nat.reduceMul, Nat.reduceLT, kdC_0, kdC_1, kdC_2, kdC_3, kdC_4, kdC_5, kdC_6, kdC_7, kdC_8, kdC_9, kdC_10, kdC_11, kdC_12, kdC_13, kdC_14, kdC_15, kdC_16, kdU_1, kdU_2, kdU_3, kdU_4, kdU_5, kdU_6, kdU_7, kdU_, kdR_1, kdR_2, kdR_3, kdR_4, kdR_5, kdR_, rC_00, rC_01, rC_02, rC_03, rC_04, rC_10, rC_16, rC_18, rC_19, rC_1a, rC_20, rC_22, rC_23, rC_24, rC_25, rC_26, rC_27, rC_28, rC_4, rC_10k, rC_u3, rC_u5, rC_u7, rC_u9, rC_ua, rC_ub, rC_uc, rC_r4, rC_r5, rC_r6, rC_r7, rC_r8, Nat.add_zero, hr, z]
theorem mP_classes_ {h : ax_H} (hs : stC h b us ps ty rs) : ax_wp kC d mP_classes 0 [some (.ref 0)] [] h Q = Q (some (.int (nI us.length))) h := by
  obtain ⟨o, s, x, a1, a2, a3, a4, a5⟩ := hs
  have hr := a1.1
  have z := a1.2.1
  simp (disch := omega) only [sP_classes_0, sP_classes_1, sP_classes_4, sP_classes_7, ax_clr_i, ax_clr_l, ax_clr_r, ax_clr_n, ax_ct_0, ax_ct_i, ax_ct_l, ax_ct_r, va_rf_s, Option.toList_some, Option.toList_none, List.cons_append, List.nil_append, and_true, true_and, and_self, ite_true, ite_false, if_true, if_false, Nat.reduceAdd, Nat.reduceLeDiff, Nat.reduceMul, Nat.reduceLT, kdC_0, kdC_1, kdC_2, kdC_3, kdC_4, kdC_5, kdC_6, kdC_7, kdC_8, kdC_9, kdC_10, kdC_11, kdC_12, kdC_13, kdC_14, kdC_15, kdC_16, kdU_1, kdU_2, kdU_3, kdU_4, kdU_5, kdU_6, kdU_7, kdU_, kdR_1, kdR_2, kdR_3, kdR_4, kdR_5, kdR_, rC_00, rC_01, rC_02, rC_03, rC_04, rC_10, rC_16, rC_18, rC_19, rC_1a, rC_20, rC_22, rC_23, rC_24, rC_25, rC_26, rC_27, rC_28, rC_4, rC_10k, rC_u3, rC_u5, rC_u7, rC_u9, rC_ua, rC_ub, rC_uc, rC_r4, rC_r5, rC_r6, rC_r7, rC_r8, Nat.add_zero, hr, z]
theorem mR_append_l (w : Int32) (y2 : Int32) : ∀ (m : Nat) (b : List Nat) (h : ax_H), m ≤ 4 → b.length + m ≤ 120 → (∃ o s x, h.2.2 = rC o s x) → bfC h b → (∀ h', h'.2 = h.2 → (∀ a k, ¬ (a = 1 ∧ k = 1) → ¬ a = 6 → h'.1 a k = h.1 a k) → bfC h' (b ++ bts w m) → Q (some (.int (bI true))) h') → ax_wp kC d mR_append 27 [some (.ref 1), some (.int w), some (.int y2), some (.int (nI m + (-1)))] [] h Q
  | 0, b, h, hm4, hm, hr, hb, hQ => by
    have e : (nI 0 + (-1) < 0) = True := by decide
    rw [sR_append_27]
    simp (disch := omega) only [sR_append_28, sR_append_66, sR_append_67, ax_clr_i, ax_clr_l, ax_clr_r, ax_clr_n, ax_ct_0, ax_ct_i, ax_ct_l, ax_ct_r, va_rf_s, Option.toList_some, Option.toList_none, List.cons_append, List.nil_append, and_true, true_and, and_self, ite_true, ite_false, if_true, if_false, Nat.reduceAdd, Nat.reduceLeDiff, Nat.reduceMul, Nat.reduceLT, nI_add, pk_mul, nI_lt', nI_le', nI_eq', nI_lt0, nI_ge0, nI_eq0, nI_gt0, nI_le0, nI_ne_m1, m1_ne_nI, m1_lt_nI, m1_le_nI, nI_lt_m1, nI_le_m1, nI_clamp, ax_in_nI, nI_shl, nI_shr, lg_cmp0, nx_and, nI_eq1, bI_0, bI_1, bf_or, eq_self, or_true, true_or, e]
    exact hQ h rfl (fun _ _ _ _ => rfl) (by simpa [bts] using hb)
  | m + 1, b, h, hm4, hm, hr, hb, hQ => by
    obtain ⟨o, s, x, hr⟩ := hr
    have e : nI (m + 1) + (-1) = nI m := nI_dec (by omega)
    have z := hb.1
    have bl := byt_lt w m
    have bs := byt_shr w m (by omega)
    rw [e, sR_append_27]
    simp (disch := omega) only [sR_append_28, sR_append_31, sR_append_32, sR_append_35, sR_append_36, sR_append_39, sR_append_40, sR_append_42, sR_append_43, sR_append_44, sR_append_45, sR_append_48, sR_append_49, sR_append_50, sR_append_51, sR_append_51r, sR_append_52, sR_append_55, sR_append_56, sR_append_57, sR_append_60, sR_append_63, ax_clr_i, ax_clr_l, ax_clr_r, ax_clr_n, ax_ct_0, ax_ct_i, ax_ct_l, ax_ct_r, va_rf_s, Option.toList_some, Option.toList_none, List.cons_append, List.nil_append, and_true, true_and, and_self, ite_true, ite_false, if_true, if_false, Nat.reduceAdd, Nat.reduceLeDiff, Nat.reduceMul, Nat.reduceLT, nI_add, pk_mul, nI_lt', nI_le', nI_eq', nI_lt0, nI_ge0, nI_eq0, nI_gt0, nI_le0, nI_ne_m1, m1_ne_nI, m1_lt_nI, m1_le_nI, nI_lt_m1, nI_le_m1, nI_clamp, ax_in_nI, nI_shl, nI_shr, lg_cmp0, nx_and, nI_eq1, bI_0, bI_1, bf_or, eq_self, or_true, true_or, lt_T, le_T, lt_F, le_F, eq_F, eq_T, kdC_0, kdC_1, kdC_2, kdC_3, kdC_4, kdC_5, kdC_6, kdC_7, kdC_8, kdC_9, kdC_10, kdC_11, kdC_12, kdC_13, kdC_14, kdC_15, kdC_16, kdU_1, kdU_2, kdU_3, kdU_4, kdU_5, kdU_6, kdU_7, kdU_, kdR_1, kdR_2, kdR_3, kdR_4, kdR_5, kdR_, rC_00, rC_01, rC_02, rC_03, rC_04, rC_10, rC_16, rC_18, rC_19, rC_1a, rC_20, rC_22, rC_23, rC_24, rC_25, rC_26, rC_27, rC_28, rC_4, rC_10k, rC_u3, rC_u5, rC_u7, rC_u9, rC_ua, rC_ub, rC_uc, rC_r4, rC_r5, rC_r6, rC_r7, rC_r8, Nat.add_zero, hr, z, bs, up_I, up_I2, Nat.reduceEqDiff, false_and, and_false, reduceIte]
    rw [bts] at hQ
    refine mR_append_l w y2 m (b ++ [byt w m]) _ (by omega) (by simp; omega) ⟨o, s, x, hr⟩ ⟨by rw [up_at]; simp, by simp; omega, fun j hj => ?_, fun c hc => ?_⟩ (fun h' f1 f2 w1 => hQ h' f1 (fun a k q1 q2 => by rw [f2 a k q1 q2, up_I, if_neg (by omega), up_I, if_neg (by omega)]) (by rw [List.append_assoc] at w1; exact w1))
    · simp only [List.length_append, List.length_cons, List.length_nil] at hj
      rw [bg_app (by omega), up_I, if_neg (by omega), up_I]
      by_cases ej : j = b.length
      · rw [if_pos ⟨rfl, ej⟩, if_pos ej]
      · rw [if_neg (by omega), if_neg ej]; exact hb.2.2.1 j (by omega)
    · rcases List.mem_append.mp hc with q | q
      · exact hb.2.2.2 c q
      · simp at q; omega
theorem mP_put_ {h : ax_H} (hs : stC h b us ps ty rs) (w y : Int32) (hQ : ∀ h', stC h' (nBuf b w y) us ps ty rs → Q (some (.int (bI (oPut b y).isSome))) h') : ax_wp kC (d + 1) mP_put 0 [some (.ref 0), some (.int w), some (.int y)] [] h Q := by
  have hs0 := hs
  obtain ⟨o, s, x, a1, a2, a3, a4, a5⟩ := hs
  have hr := a1.1
  have z := a3.1
  have l120 := a3.2.1
  simp (disch := omega) only [sP_put_0, sP_put_1, sP_put_4, sP_put_5, sP_put_6, ax_clr_i, ax_clr_l, ax_clr_r, ax_clr_n, ax_ct_0, ax_ct_i, ax_ct_l, ax_ct_r, va_rf_s, Option.toList_some, Option.toList_none, List.cons_append, List.nil_append, and_true, true_and, and_self, ite_true, ite_false, if_true, if_false, Nat.reduceAdd, Nat.reduceLeDiff, Nat.reduceMul, Nat.reduceLT, kdC_0, kdC_1, kdC_2, kdC_3, kdC_4, kdC_5, kdC_6, kdC_7, kdC_8, kdC_9, kdC_10, kdC_11, kdC_12, kdC_13, kdC_14, kdC_15, kdC_16, kdU_1, kdU_2, kdU_3, kdU_4, kdU_5, kdU_6, kdU_7, kdU_, kdR_1, kdR_2, kdR_3, kdR_4, kdR_5, kdR_, rC_00, rC_01, rC_02, rC_03, rC_04, rC_10, rC_16, rC_18, rC_19, rC_1a, rC_20, rC_22, rC_23, rC_24, rC_25, rC_26, rC_27, rC_28, rC_4, rC_10k, rC_u3, rC_u5, rC_u7, rC_u9, rC_ua, rC_ub, rC_uc, rC_r4, rC_r5, rC_r6, rC_r7, rC_r8, Nat.add_zero, hr]
  unfold nBuf at hQ
  have no : oPut b y = none → ∀ (z3 : Option Value), ax_wp kC d mR_append 21 [some (.ref 1), some (.int w), some (.int y), z3] [] h (fun v h1 => ax_wp kC (d + 1) mP_put 9 [some (.ref 0), some (.int w), some (.int y)] (v.toList ++ []) h1 Q) := fun e z3 => by
    rw [e] at hQ
    simp (disch := omega) only [sR_append_21, sR_append_22, sP_put_9, ax_clr_i, ax_clr_l, ax_clr_r, ax_clr_n, ax_ct_0, ax_ct_i, ax_ct_l, ax_ct_r, va_rf_s, Option.toList_some, Option.toList_none, List.cons_append, List.nil_append, and_true, true_and, and_self, ite_true, ite_false, if_true, if_false, Nat.reduceAdd, Nat.reduceLeDiff, Nat.reduceMul, Nat.reduceLT, nI_add, pk_mul, nI_lt', nI_le', nI_eq', nI_lt0, nI_ge0, nI_eq0, nI_gt0, nI_le0, nI_ne_m1, m1_ne_nI, m1_lt_nI, m1_le_nI, nI_lt_m1, nI_le_m1, nI_clamp, ax_in_nI, nI_shl, nI_shr, lg_cmp0, nx_and, nI_eq1, bI_0, bI_1, bf_or, eq_self, or_true, true_or]
    exact hQ h hs0
  simp (disch := omega) only [sR_append_0, sR_append_1, sR_append_2, ax_clr_i, ax_clr_l, ax_clr_r, ax_clr_n, ax_ct_0, ax_ct_i, ax_ct_l, ax_ct_r, va_rf_s, Option.toList_some, Option.toList_none, List.cons_append, List.nil_append, and_true, true_and, and_self, ite_true, ite_false, if_true, if_false, Nat.reduceAdd, Nat.reduceLeDiff, Nat.reduceMul, Nat.reduceLT]
  cases e5 : ixN y 5 with
  | none =>
    have n := ixN_none e5
    have e : oPut b y = none := by unfold oPut; rw [e5]
    by_cases e1 : y < nI 1
    · rw [if_pos e1]; exact no e _
    · rw [if_neg e1]
      simp (disch := omega) only [sR_append_5, sR_append_6, sR_append_7, ax_clr_i, ax_clr_l, ax_clr_r, ax_clr_n, ax_ct_0, ax_ct_i, ax_ct_l, ax_ct_r, va_rf_s, Option.toList_some, Option.toList_none, List.cons_append, List.nil_append, and_true, true_and, and_self, ite_true, ite_false, if_true, if_false, Nat.reduceAdd, Nat.reduceLeDiff, Nat.reduceMul, Nat.reduceLT]
      by_cases e2 : nI 4 < y
      · rw [if_pos e2]; exact no e _
      · exfalso
        apply n
        have p1 : ¬ y.toInt < 1 := fun q => e1 (Int32.lt_iff_toInt_lt.mpr (by rw [nI_toInt (by omega)]; exact q))
        have p2 : ¬ 4 < y.toInt := fun q => e2 (Int32.lt_iff_toInt_lt.mpr (by rw [nI_toInt (by omega)]; exact q))
        exact ⟨Int32.le_iff_toInt_le.mpr (by show (0 : Int32).toInt ≤ _; rw [show (0 : Int32).toInt = 0 from by decide]; omega), Int32.lt_iff_toInt_lt.mpr (by rw [nI_toInt (by omega)]; omega)⟩
  | some m =>
    obtain ⟨m1, rfl⟩ := ixN_some (by omega) e5
    by_cases e1 : m < 1
    · have e : oPut b (nI m) = none := by unfold oPut; rw [e5]; dsimp only; rw [if_neg (by omega)]
      rw [if_pos (by rw [nI_lt' (by omega) (by omega)]; exact e1)]; exact no e _
    · rw [if_neg (by rw [nI_lt' (by omega) (by omega)]; exact e1)]
      simp (disch := omega) only [sR_append_5, sR_append_6, sR_append_7, sR_append_10, sR_append_11, sR_append_14, sR_append_15, sR_append_16, sR_append_18, ax_clr_i, ax_clr_l, ax_clr_r, ax_clr_n, ax_ct_0, ax_ct_i, ax_ct_l, ax_ct_r, va_rf_s, Option.toList_some, Option.toList_none, List.cons_append, List.nil_append, and_true, true_and, and_self, ite_true, ite_false, if_true, if_false, Nat.reduceAdd, Nat.reduceLeDiff, Nat.reduceMul, Nat.reduceLT, nI_add, pk_mul, nI_lt', nI_le', nI_eq', nI_lt0, nI_ge0, nI_eq0, nI_gt0, nI_le0, nI_ne_m1, m1_ne_nI, m1_lt_nI, m1_le_nI, nI_lt_m1, nI_le_m1, nI_clamp, ax_in_nI, nI_shl, nI_shr, lg_cmp0, nx_and, nI_eq1, bI_0, bI_1, bf_or, eq_self, or_true, true_or, lt_T, le_T, lt_F, le_F, eq_F, eq_T, kdC_0, kdC_1, kdC_2, kdC_3, kdC_4, kdC_5, kdC_6, kdC_7, kdC_8, kdC_9, kdC_10, kdC_11, kdC_12, kdC_13, kdC_14, kdC_15, kdC_16, kdU_1, kdU_2, kdU_3, kdU_4, kdU_5, kdU_6, kdU_7, kdU_, kdR_1, kdR_2, kdR_3, kdR_4, kdR_5, kdR_, rC_00, rC_01, rC_02, rC_03, rC_04, rC_10, rC_16, rC_18, rC_19, rC_1a, rC_20, rC_22, rC_23, rC_24, rC_25, rC_26, rC_27, rC_28, rC_4, rC_10k, rC_u3, rC_u5, rC_u7, rC_u9, rC_ua, rC_ub, rC_uc, rC_r4, rC_r5, rC_r6, rC_r7, rC_r8, Nat.add_zero, z]
      by_cases e2 : b.length + m ≤ 120
      · have e : oPut b (nI m) = some m := by unfold oPut; rw [e5]; dsimp only; rw [if_pos ⟨by omega, e2⟩]
        rw [e] at hQ
        rw [if_pos e2]
        simp (disch := omega) only [sR_append_23, sR_append_24, sR_append_25, sR_append_26, ax_clr_i, ax_clr_l, ax_clr_r, ax_clr_n, ax_ct_0, ax_ct_i, ax_ct_l, ax_ct_r, va_rf_s, Option.toList_some, Option.toList_none, List.cons_append, List.nil_append, and_true, true_and, and_self, ite_true, ite_false, if_true, if_false, Nat.reduceAdd, Nat.reduceLeDiff, Nat.reduceMul, Nat.reduceLT, nI_s1]
        refine mR_append_l w (nI m) m b h (by omega) e2 ⟨o, s, x, hr⟩ a3 (fun h' f1 f2 b' => ?_)
        simp (disch := omega) only [sP_put_9, ax_clr_i, ax_clr_l, ax_clr_r, ax_clr_n, ax_ct_0, ax_ct_i, ax_ct_l, ax_ct_r, va_rf_s, Option.toList_some, Option.toList_none, List.cons_append, List.nil_append, and_true, true_and, and_self, ite_true, ite_false, if_true, if_false, Nat.reduceAdd, Nat.reduceLeDiff, Nat.reduceMul, Nat.reduceLT, nI_add, pk_mul, nI_lt', nI_le', nI_eq', nI_lt0, nI_ge0, nI_eq0, nI_gt0, nI_le0, nI_ne_m1, m1_ne_nI, m1_lt_nI, m1_le_nI, nI_lt_m1, nI_le_m1, nI_clamp, ax_in_nI, nI_shl, nI_shr, lg_cmp0, nx_and, nI_eq1, bI_0, bI_1, bf_or, eq_self, or_true, true_or]
        exact hQ h' ⟨o, s, x, a1.keep (by rw [f1]) (f2 _ _ (by omega) (by omega)) (fun a k _ _ => f2 _ _ (by omega) (by omega)) (fun a k _ _ => by rw [f1]), a2.keep (fun a k q => f2 _ _ (by omega) (by omega)), b', a4.p ⟨fun a k q => f2 _ _ (by omega) (by omega), fun a k _ => by rw [f1]⟩, a5.p ⟨fun a k q => f2 _ _ (by omega) (by omega), fun a k _ => by rw [f1]⟩⟩
      · have e : oPut b (nI m) = none := by unfold oPut; rw [e5]; dsimp only; rw [if_neg (by omega)]
        rw [if_neg e2]; exact no e _
theorem mP_load_ {h : ax_H} (hs : stC h b us ps ty rs) (hQ : ∀ h', stC h' [] (nUs us b) ps ty rs → Q (some (.int (aLd us b))) h') : ax_wp kC (d + 7) mP_load 0 [some (.ref 0), none, none] [] h Q := by
  obtain ⟨o, s, x, a1, a2, a3, a4, a5⟩ := hs
  have hr := a1.1
  have hp := a1.2.2.2.2
  have h12 := a1.2.2.1
  have ql := ldU_lt a3.2.1
  simp (disch := omega) only [sP_load_0, sP_load_1, sP_load_4, sP_load_5, sP_load_8, sP_load_11, ax_clr_i, ax_clr_l, ax_clr_r, ax_clr_n, ax_ct_0, ax_ct_i, ax_ct_l, ax_ct_r, va_rf_s, Option.toList_some, Option.toList_none, List.cons_append, List.nil_append, and_true, true_and, and_self, ite_true, ite_false, if_true, if_false, Nat.reduceAdd, Nat.reduceLeDiff, Nat.reduceMul, Nat.reduceLT, kdC_0, kdC_1, kdC_2, kdC_3, kdC_4, kdC_5, kdC_6, kdC_7, kdC_8, kdC_9, kdC_10, kdC_11, kdC_12, kdC_13, kdC_14, kdC_15, kdC_16, kdU_1, kdU_2, kdU_3, kdU_4, kdU_5, kdU_6, kdU_7, kdU_, kdR_1, kdR_2, kdR_3, kdR_4, kdR_5, kdR_, rC_00, rC_01, rC_02, rC_03, rC_04, rC_10, rC_16, rC_18, rC_19, rC_1a, rC_20, rC_22, rC_23, rC_24, rC_25, rC_26, rC_27, rC_28, rC_4, rC_10k, rC_u3, rC_u5, rC_u7, rC_u9, rC_ua, rC_ub, rC_uc, rC_r4, rC_r5, rC_r6, rC_r7, rC_r8, Nat.add_zero, hr]
  refine mR_readInto_ s hp.2.1 hr a3 (fun h1 r1 f1 z1 u1 => ?_)
  have c1 : usC o s (some (17 + 8 * s)) h1 us := ⟨r1, by rw [f1.1 _ _ (by omega) (by omega) (by omega)]; exact a1.2.1, h12, fun c hc => ⟨by
    have w1 := hp.2.2.2 c (by omega)
    have w2 := hp.1 c (by omega)
    exact (a1.2.2.2.1 c hc).1.keep (fun a k _ _ => f1.1 _ _ (by omega) (by omega) (by omega)) (fun a k _ _ => f1.2 _ _ (by omega) (by omega)), (a1.2.2.2.1 c hc).2⟩, hp⟩
  have hs13 := hp.2.1
  have l1 : lkC h1 us := a2.keep (fun a k q => f1.1 _ _ (by omega) (by omega) (by omega))
  have fp : frp h h1 := ⟨fun a k q => f1.1 _ _ (by omega) (by omega) (by omega), fun a k q => f1.2 _ _ (by omega) (by omega)⟩
  unfold nUs aLd at hQ
  by_cases eg : (ldU b).1 = true
  · rw [if_pos eg, if_pos eg] at hQ
    rw [if_pos eg]
    simp (disch := omega) only [sP_load_14, sP_load_15, sP_load_16, sP_load_17, sP_load_20, sP_load_21, sP_load_22, sP_load_23, sP_load_24, sP_load_25, sP_load_28, ax_clr_i, ax_clr_l, ax_clr_r, ax_clr_n, ax_ct_0, ax_ct_i, ax_ct_l, ax_ct_r, va_rf_s, Option.toList_some, Option.toList_none, List.cons_append, List.nil_append, and_true, true_and, and_self, ite_true, ite_false, if_true, if_false, Nat.reduceAdd, Nat.reduceLeDiff, Nat.reduceMul, Nat.reduceLT, kdC_0, kdC_1, kdC_2, kdC_3, kdC_4, kdC_5, kdC_6, kdC_7, kdC_8, kdC_9, kdC_10, kdC_11, kdC_12, kdC_13, kdC_14, kdC_15, kdC_16, kdU_1, kdU_2, kdU_3, kdU_4, kdU_5, kdU_6, kdU_7, kdU_, kdR_1, kdR_2, kdR_3, kdR_4, kdR_5, kdR_, rC_00, rC_01, rC_02, rC_03, rC_04, rC_10, rC_16, rC_18, rC_19, rC_1a, rC_20, rC_22, rC_23, rC_24, rC_25, rC_26, rC_27, rC_28, rC_4, rC_10k, rC_u3, rC_u5, rC_u7, rC_u9, rC_ua, rC_ub, rC_uc, rC_r4, rC_r5, rC_r6, rC_r7, rC_r8, Nat.add_zero, r1, eq_self]
    refine mG_adoptSpare_ c1 l1 (u1 eg) (ldU_ok eg) (fun h2 o2 s2 f2 c2 l2 => ?_)
    have fp2 : frp h h2 := ⟨fun a k q => by rw [f2.2 _ _ (by omega) (by omega)]; exact fp.1 a k q, fun a k q => by rw [f2.1]; exact fp.2 a k q⟩
    have b2 : bfC h2 [] := ⟨by rw [f2.2 _ _ (by omega) (by omega)]; exact z1, by simp, fun j hj => by simp at hj, fun c hc => by simp at hc⟩
    have hQ2 := hQ h2
    unfold nAd at c2 l2
    unfold aAd
    cases ei : ixOf us (ownU b) with
    | some c =>
      have cl := (ixOf_some ei).1
      rw [ei] at hQ2 c2 l2
      simp (disch := omega) only [sP_load_31, sP_load_32, sP_load_33, sP_load_34, sP_load_37, sP_load_40, sP_load_43, sP_load_44, ax_clr_i, ax_clr_l, ax_clr_r, ax_clr_n, ax_ct_0, ax_ct_i, ax_ct_l, ax_ct_r, va_rf_s, Option.toList_some, Option.toList_none, List.cons_append, List.nil_append, and_true, true_and, and_self, ite_true, ite_false, if_true, if_false, Nat.reduceAdd, Nat.reduceLeDiff, Nat.reduceMul, Nat.reduceLT, nI_add, pk_mul, nI_lt', nI_le', nI_eq', nI_lt0, nI_ge0, nI_eq0, nI_gt0, nI_le0, nI_ne_m1, m1_ne_nI, m1_lt_nI, m1_le_nI, nI_lt_m1, nI_le_m1, nI_clamp, ax_in_nI, nI_shl, nI_shr, lg_cmp0, nx_and, nI_eq1, bI_0, bI_1, bf_or, eq_self, or_true, true_or, oI_s]
      exact hQ2 ⟨o2, s2, _, c2, l2, b2, a4.p fp2, a5.p fp2⟩
    | none =>
      rw [ei] at hQ2 c2 l2
      dsimp only at hQ2 c2 l2 ⊢
      by_cases e12 : us.length = 12
      · rw [if_pos e12] at hQ2 c2 l2
        rw [if_pos e12] at hQ2 ⊢
        simp (disch := omega) only [sP_load_31, sP_load_32, sP_load_33, sP_load_34, sP_load_37, sP_load_40, sP_load_43, sP_load_44, ax_clr_i, ax_clr_l, ax_clr_r, ax_clr_n, ax_ct_0, ax_ct_i, ax_ct_l, ax_ct_r, va_rf_s, Option.toList_some, Option.toList_none, List.cons_append, List.nil_append, and_true, true_and, and_self, ite_true, ite_false, if_true, if_false, Nat.reduceAdd, Nat.reduceLeDiff, Nat.reduceMul, Nat.reduceLT, nI_add, pk_mul, nI_lt', nI_le', nI_eq', nI_lt0, nI_ge0, nI_eq0, nI_gt0, nI_le0, nI_ne_m1, m1_ne_nI, m1_lt_nI, m1_le_nI, nI_lt_m1, nI_le_m1, nI_clamp, ax_in_nI, nI_shl, nI_shr, lg_cmp0, nx_and, nI_eq1, bI_0, bI_1, bf_or, eq_self, or_true, true_or, oI_n]
        exact hQ2 ⟨o2, s2, _, c2, l2, b2, a4.p fp2, a5.p fp2⟩
      · rw [if_neg e12] at hQ2 c2 l2
        rw [if_neg e12] at hQ2 ⊢
        simp (disch := omega) only [sP_load_31, sP_load_32, sP_load_33, sP_load_34, sP_load_37, sP_load_40, sP_load_43, sP_load_44, ax_clr_i, ax_clr_l, ax_clr_r, ax_clr_n, ax_ct_0, ax_ct_i, ax_ct_l, ax_ct_r, va_rf_s, Option.toList_some, Option.toList_none, List.cons_append, List.nil_append, and_true, true_and, and_self, ite_true, ite_false, if_true, if_false, Nat.reduceAdd, Nat.reduceLeDiff, Nat.reduceMul, Nat.reduceLT, nI_add, pk_mul, nI_lt', nI_le', nI_eq', nI_lt0, nI_ge0, nI_eq0, nI_gt0, nI_le0, nI_ne_m1, m1_ne_nI, m1_lt_nI, m1_le_nI, nI_lt_m1, nI_le_m1, nI_clamp, ax_in_nI, nI_shl, nI_shr, lg_cmp0, nx_and, nI_eq1, bI_0, bI_1, bf_or, eq_self, or_true, true_or, oI_s]
        exact hQ2 ⟨o2, s2, _, c2, l2, b2, a4.p fp2, a5.p fp2⟩
  · rw [if_neg eg, if_neg eg] at hQ
    rw [if_neg eg]
    simp (disch := omega) only [sP_load_14, sP_load_15, sP_load_16, sP_load_17, sP_load_20, sP_load_21, sP_load_22, sP_load_23, ax_clr_i, ax_clr_l, ax_clr_r, ax_clr_n, ax_ct_0, ax_ct_i, ax_ct_l, ax_ct_r, va_rf_s, Option.toList_some, Option.toList_none, List.cons_append, List.nil_append, and_true, true_and, and_self, ite_true, ite_false, if_true, if_false, Nat.reduceAdd, Nat.reduceLeDiff, Nat.reduceMul, Nat.reduceLT, nI_add, pk_mul, nI_lt', nI_le', nI_eq', nI_lt0, nI_ge0, nI_eq0, nI_gt0, nI_le0, nI_ne_m1, m1_ne_nI, m1_lt_nI, m1_le_nI, nI_lt_m1, nI_le_m1, nI_clamp, ax_in_nI, nI_shl, nI_shr, lg_cmp0, nx_and, nI_eq1, bI_0, bI_1, bf_or, eq_self, or_true, true_or]
    exact hQ h1 ⟨o, s, _, c1, l1, ⟨z1, by simp, fun j hj => by simp at hj, fun c hc => by simp at hc⟩, a4.p fp, a5.p fp⟩
end CP
