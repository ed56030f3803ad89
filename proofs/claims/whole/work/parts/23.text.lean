/-! texts: lists of codes; packed with the first code lowest (pL), or highest (pB) -/
def pL : List Nat → Nat
  | [] => 0
  | c :: t => c + 64 * pL t
def pB (t : List Nat) : Nat := t.foldl (fun a c => a * 64 + c) 0
def vT (t : List Nat) : Prop := t.length ≤ 10 ∧ ∀ c ∈ t, 1 ≤ c ∧ c < 64
theorem pL_digit : ∀ (t : List Nat) (j : Nat), (∀ c ∈ t, c < 64) → pL t / 64 ^ j % 64 = t.getD j 0
  | [], j, _ => by simp [pL]
  | c :: t, 0, h => by
    have := h c (by simp)
    simp [pL]; omega
  | c :: t, j + 1, h => by
    have h1 := h c (by simp)
    have e : pL (c :: t) / 64 ^ (j + 1) = pL t / 64 ^ j := by
      rw [Nat.pow_succ, Nat.mul_comm, ← Nat.div_div_eq_div_mul]
      congr 1
      simp only [pL]; omega
    rw [e, pL_digit t j (fun a ha => h a (by simp [ha]))]
    simp
theorem pL_lt : ∀ (t : List Nat), (∀ c ∈ t, c < 64) → pL t < 64 ^ t.length
  | [], _ => by simp [pL]
  | c :: t, h => by
    have h1 := h c (by simp)
    have h2 := pL_lt t (fun a ha => h a (by simp [ha]))
    simp only [pL, List.length_cons, Nat.pow_succ]
    omega
theorem pL_append : ∀ (t : List Nat) (c : Nat), pL (t ++ [c]) = pL t + c * 64 ^ t.length
  | [], c => by simp [pL]
  | a :: t, c => by
    simp only [List.cons_append, pL, pL_append t c, List.length_cons, Nat.pow_succ]
    rw [Nat.mul_add, ← Nat.add_assoc, ← Nat.mul_assoc, Nat.mul_comm 64 c, Nat.mul_assoc, Nat.mul_comm 64 (64 ^ t.length)]
theorem pL_inj : ∀ (t s : List Nat), (∀ c ∈ t, 1 ≤ c ∧ c < 64) → (∀ c ∈ s, 1 ≤ c ∧ c < 64) → pL t = pL s → t = s
  | [], [], _, _, _ => rfl
  | [], b :: s, _, h, e => by have := h b (by simp); simp only [pL] at e; omega
  | a :: t, [], h, _, e => by have := h a (by simp); simp only [pL] at e; omega
  | a :: t, b :: s, h, h', e => by
    have h1 := h a (by simp)
    have h2 := h' b (by simp)
    simp only [pL] at e
    have e1 : a = b := by omega
    have e2 : pL t = pL s := by omega
    rw [e1, pL_inj t s (fun c hc => h c (by simp [hc])) (fun c hc => h' c (by simp [hc])) e2]
theorem pL_take : ∀ (t : List Nat) (j : Nat), (∀ c ∈ t, c < 64) → pL t % 64 ^ j = pL (t.take j)
  | [], j, _ => by simp [pL]
  | c :: t, 0, _ => by simp [pL, Nat.mod_one]
  | c :: t, j + 1, h => by
    have h1 := h c (by simp)
    have h2 := pL_take t j (fun a ha => h a (by simp [ha]))
    simp only [List.take_succ_cons, pL, ← h2, Nat.pow_succ]
    rw [Nat.mul_comm (64 ^ j) 64, Nat.mod_mul]
    have e1 : (c + 64 * pL t) / 64 = pL t := by omega
    have e2 : (c + 64 * pL t) % 64 = c := by omega
    rw [e1, e2]
theorem pL_0 {t : List Nat} (h : ∀ c ∈ t, 1 ≤ c ∧ c < 64) : pL t = 0 ↔ t = [] := by
  cases t with
  | nil => simp [pL]
  | cons a t => have := h a (by simp); simp [pL]; omega
theorem vT_lt {t : List Nat} (h : vT t) : ∀ c ∈ t, c < 64 := fun c hc => (h.2 c hc).2
theorem vT_p {t : List Nat} (h : vT t) : pL t < 2 ^ 60 := by
  have h1 := pL_lt t (vT_lt h)
  have h2 : 64 ^ t.length ≤ 64 ^ 10 := Nat.pow_le_pow_right (by decide) h.1
  omega
theorem vT_get {t : List Nat} (h : vT t) (j : Nat) : t.getD j 0 < 64 := by
  rw [List.getD_eq_getElem?_getD]
  cases hj : t[j]? with
  | none => simp
  | some c => simpa using (h.2 c (List.mem_of_getElem? hj)).2
theorem vT_get0 {t : List Nat} (h : vT t) (j : Nat) : (t.getD j 0 = 0) = (t.length ≤ j) := by
  apply propext
  rw [List.getD_eq_getElem?_getD]
  cases hj : t[j]? with
  | none => simpa using hj
  | some c =>
    have h1 := (h.2 c (List.mem_of_getElem? hj)).1
    have h2 := (List.getElem?_eq_some_iff.mp hj).1
    simp; omega
theorem p64 (j : Nat) : 2 ^ (6 * j) = 64 ^ j := by rw [Nat.pow_mul]
/-- a character's code: letters, then the point, the two stars; 0: none -/
def cod (c : Nat) : Nat := if 97 ≤ c ∧ c ≤ 122 then c - 96 else if 65 ≤ c ∧ c ≤ 90 then c - 38 else if c = 35 then 55 else if c = 42 then 54 else if c = 46 then 53 else 0
def chr (c : Nat) : Nat := if c = 53 then 46 else if c ≤ 26 then c + 96 else c + 38
section TXT
variable {ks : ax_K} {d : Nat} {h : ax_H} {Q : Option Value → ax_H → Prop}
theorem mT_codeOf_ (c : Nat) (hc : c < 2 ^ 16) : ax_wp ks d mT_codeOf 0 [some (.int (nI c))] [] h Q = Q (some (.int (nI (cod c)))) h := by
  simp (disch := omega) only [sT_codeOf_0, sT_codeOf_1, sT_codeOf_3, sT_codeOf_6, sT_codeOf_7, sT_codeOf_9, sT_codeOf_12, sT_codeOf_13, sT_codeOf_15, sT_codeOf_16, sT_codeOf_17, sT_codeOf_18, sT_codeOf_19, sT_codeOf_20, sT_codeOf_22, sT_codeOf_25, sT_codeOf_26, sT_codeOf_28, sT_codeOf_31, sT_codeOf_32, sT_codeOf_34, sT_codeOf_35, sT_codeOf_36, sT_codeOf_37, sT_codeOf_39, sT_codeOf_40, sT_codeOf_41, sT_codeOf_42, sT_codeOf_76, sT_codeOf_78, sT_codeOf_79, sT_codeOf_81, sT_codeOf_82, sT_codeOf_84, sT_codeOf_85, sT_codeOf_86, ax_clr_i, ax_clr_l, ax_clr_r, ax_clr_n, ax_ct_0, ax_ct_i, ax_ct_l, ax_ct_r, va_rf_s, Option.toList_some, Option.toList_none, List.cons_append, List.nil_append, and_true, true_and, and_self, ite_true, ite_false, if_true, if_false, Nat.reduceAdd, Nat.reduceLeDiff, Nat.reduceMul, Nat.reduceLT, nI_add, pk_mul, nI_lt', nI_le', nI_eq', nI_lt0, nI_ge0, nI_eq0, nI_gt0, nI_le0, nI_ne_m1, m1_ne_nI, m1_lt_nI, m1_le_nI, nI_lt_m1, nI_le_m1, nI_clamp, ax_in_nI, nI_shl, nI_shr, lg_cmp0, nx_and, nI_eq1, bI_0, bI_1, bf_or, eq_self, or_true, true_or]
  unfold cod
  (repeat' split) <;> first | omega | (simp (disch := omega) only [pk_sub, nI_add] <;> first | rfl | (congr 4; omega))
theorem mT_characterOf_ (c : Nat) (h1 : 1 ≤ c) (hc : c < 64) : ax_wp ks d mT_characterOf 0 [some (.int (nI c))] [] h Q = Q (some (.int (nI (chr c)))) h := by
  simp (disch := omega) only [sT_characterOf_0, sT_characterOf_1, sT_characterOf_3, sT_characterOf_6, sT_characterOf_8, sT_characterOf_9, sT_characterOf_10, sT_characterOf_12, sT_characterOf_15, sT_characterOf_16, sT_characterOf_17, sT_characterOf_18, sT_characterOf_20, sT_characterOf_21, sT_characterOf_24, sT_characterOf_25, sT_characterOf_26, sT_characterOf_27, sT_characterOf_29, sT_characterOf_30, sT_characterOf_32, sT_characterOf_33, ax_clr_i, ax_clr_l, ax_clr_r, ax_clr_n, ax_ct_0, ax_ct_i, ax_ct_l, ax_ct_r, va_rf_s, Option.toList_some, Option.toList_none, List.cons_append, List.nil_append, and_true, true_and, and_self, ite_true, ite_false, if_true, if_false, Nat.reduceAdd, Nat.reduceLeDiff, Nat.reduceMul, Nat.reduceLT, nI_add, pk_mul, nI_lt', nI_le', nI_eq', nI_lt0, nI_ge0, nI_eq0, nI_gt0, nI_le0, nI_ne_m1, m1_ne_nI, m1_lt_nI, m1_le_nI, nI_lt_m1, nI_le_m1, nI_clamp, ax_in_nI, nI_shl, nI_shr, lg_cmp0, nx_and, nI_eq1, bI_0, bI_1, bf_or, eq_self, or_true, true_or]
  unfold chr
  (repeat' split) <;> first | omega | (simp (disch := omega) only [pk_sub, nI_add] <;> first | rfl | (congr 4; omega))
theorem mT_codeAt_ (t : List Nat) (j : Nat) (ht : vT t) (hj : j < 10) : ax_wp ks d mT_codeAt 0 [some (.long (lN (pL t))), none, some (.int (nI j))] [] h Q = Q (some (.int (nI (t.getD j 0)))) h := by
  have hp := vT_p ht
  simp only [sT_codeAt_0, sT_codeAt_1, sT_codeAt_3, sT_codeAt_4, sT_codeAt_5, sT_codeAt_6, sT_codeAt_7, sT_codeAt_9, sT_codeAt_10, ax_clr_i, ax_clr_l, ax_clr_r, ax_clr_n, ax_ct_0, ax_ct_i, ax_ct_l, ax_ct_r, va_rf_s, Option.toList_some, Option.toList_none, List.cons_append, List.nil_append, and_true, true_and, and_self, ite_true, ite_false, if_true, if_false, Nat.reduceAdd, Nat.reduceLeDiff, Nat.reduceMul, Nat.reduceLT, pk_mul]
  rw [wb_shr (by omega) (by omega), lN_i, nx_and, show 63 = 2 ^ 6 - 1 from rfl, Nat.and_two_pow_sub_one_eq_mod, p64, show 2 ^ 6 = 64 from rfl, pL_digit t j (vT_lt ht)]
theorem mT_withCode_ (t : List Nat) (c : Nat) (ht : vT t) (hl : t.length < 10) (hc : c < 64) : ax_wp ks d mT_withCode 0 [some (.long (lN (pL t))), none, some (.int (nI t.length)), some (.int (nI c))] [] h Q = Q (some (.long (lN (pL (t ++ [c]))))) h := by
  have hp := pL_lt t (vT_lt ht)
  simp only [sT_withCode_0, sT_withCode_1, sT_withCode_2, sT_withCode_3, sT_withCode_5, sT_withCode_6, sT_withCode_7, sT_withCode_8, sT_withCode_9, ax_clr_i, ax_clr_l, ax_clr_r, ax_clr_n, ax_ct_0, ax_ct_i, ax_ct_l, ax_ct_r, va_rf_s, Option.toList_some, Option.toList_none, List.cons_append, List.nil_append, and_true, true_and, and_self, ite_true, ite_false, if_true, if_false, Nat.reduceAdd, Nat.reduceLeDiff, Nat.reduceMul, Nat.reduceLT, pk_mul]
  have h64 : c * 64 ^ t.length < 64 * 64 ^ t.length := Nat.mul_lt_mul_of_pos_right hc (Nat.pow_pos (by decide))
  have h10 : 64 * 64 ^ t.length ≤ 64 ^ 10 := by rw [← Nat.pow_succ']; exact Nat.pow_le_pow_right (by decide) hl
  rw [nI_l (by omega), wb_shl _ (by omega), p64, g_or' (k := 6 * t.length) (p64 t.length) hp (by omega), pL_append]
end TXT
