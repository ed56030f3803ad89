/-! a unit that can be read: what it says -/
theorem sCk_ok (b : List Nat) (n : Nat) (off : Nat → Nat) : ∀ (m k a : Nat), (sCk b n off m k a).1 = true → ∀ j, k ≤ j → j < k + m → (tgv b n off j = 7 → ftN b n off (bg b (off j + 1)) 21 = true) ∧ (9 ≤ tgv b n off j → ftN b n off (bg b (off j + 1)) 7 = true ∧ ftN b n off (bg b (off j + 2)) 20 = true)
  | 0, k, a, _, j, h1, h2 => absurd h2 (by omega)
  | m + 1, k, a, h, j, h1, h2 => by
    rw [sCk] at h
    by_cases e1 : (tgv b n off k = 7 ∧ ftN b n off (bg b (off k + 1)) 21 = false) ∨ (9 ≤ tgv b n off k ∧ ftN b n off (bg b (off k + 1)) 7 = false)
    · rw [if_pos e1] at h; cases h
    · rw [if_neg e1] at h
      by_cases e2 : 9 ≤ tgv b n off k ∧ ftN b n off (bg b (off k + 2)) 20 = false
      · rw [if_pos e2] at h; cases h
      · rw [if_neg e2] at h
        by_cases e3 : j = k
        · subst e3
          refine ⟨fun t => ?_, fun t => ⟨?_, ?_⟩⟩
          · by_cases f : ftN b n off (bg b (off j + 1)) 21 = true
            · exact f
            · exact absurd (Or.inl ⟨t, bI_c f⟩) e1
          · by_cases f : ftN b n off (bg b (off j + 1)) 7 = true
            · exact f
            · exact absurd (Or.inr ⟨t, bI_c f⟩) e1
          · by_cases f : ftN b n off (bg b (off j + 2)) 20 = true
            · exact f
            · exact absurd ⟨t, bI_c f⟩ e2
        · exact sCk_ok b n off m (k + 1) _ h j (by omega) (by omega)
/-- whether a number fits, in a unit -/
def fU (u : List Nat) (k w : Nat) : Bool := ftN u (bg u 1) (offU u (bg u 1)) k w
def hdU (u : List Nat) : Nat := cAt u (bg u 1 + 1)
/-- the unit can be read -/
def okU (u : List Nat) : Prop := cU u ∧ (sCk u (bg u 1) (offU u (bg u 1)) (bg u 1) 1 (hdU u)).1 = true ∧ (tk u 120 (hdU u) (fun k => fU u k 7)).1 = true ∧ (sRs u (bg u 1) (offU u (bg u 1)) (hdU u + 1)).1 = true
theorem fU_7 {u : List Nat} {k w : Nat} (hw : w = 7 ∨ w = 9 ∨ w = 10) (h : fU u k w = true) : tgU u k = w := by
  unfold fU ftN at h
  rw [if_neg (by omega), if_neg (by omega), if_neg (by omega)] at h
  simpa [tgU] using h
theorem fU_20 {u : List Nat} (hu : cU u) {k : Nat} (h : fU u k 20 = true) : tgU u k = 1 ∧ isWd (txt u (cAt u k)) = true := by
  unfold fU ftN at h
  rw [if_pos rfl] at h
  simp only [Bool.and_eq_true, decide_eq_true_eq] at h
  have h1 : tgU u k = 1 := h.1
  have h2 := tgU_at hu (k := k) (by omega)
  rw [h2.2.2.1]
  exact ⟨h1, h.2⟩
theorem fU_21 {u : List Nat} (hu : cU u) {k : Nat} (h : fU u k 21 = true) : tgU u k = 1 ∧ isNm (txt u (cAt u k)) = true := by
  unfold fU ftN at h
  rw [if_neg (by omega), if_pos rfl] at h
  simp only [Bool.and_eq_true, decide_eq_true_eq] at h
  have h1 : tgU u k = 1 := h.1
  have h2 := tgU_at hu (k := k) (by omega)
  rw [h2.2.2.1]
  exact ⟨h1, h.2⟩
theorem okU.cls {u : List Nat} (h : okU u) {k : Nat} (ht : tgU u k = 7) : tgU u (bg u (cAt u k + 1)) = 1 ∧ isNm (nmU u k) = true := by
  have h1 := tgU_at h.1 (k := k) (by omega)
  have h2 := (sCk_ok u _ _ _ 1 _ h.2.1 k h1.1 (by omega)).1 ht
  rw [← h1.2.2.1] at h2
  exact fU_21 h.1 h2
theorem okU.mem {u : List Nat} (h : okU u) {k : Nat} (ht : 9 ≤ tgU u k) : tgU u (bg u (cAt u k + 1)) = 7 ∧ tgU u (bg u (cAt u k + 2)) = 1 ∧ isWd (txt u (cAt u (bg u (cAt u k + 2)))) = true := by
  have h1 := tgU_at h.1 (k := k) (by omega)
  have h2 := (sCk_ok u _ _ _ 1 _ h.2.1 k h1.1 (by omega)).2 ht
  rw [← h1.2.2.1] at h2
  exact ⟨fU_7 (Or.inl rfl) h2.1, fU_20 h.1 h2.2⟩
/-- places in a unit: interfaces, fields, methods -/
def piU (u : List Nat) : Nat := hdU u + 2
def pfU (u : List Nat) : Nat := piU u + 1 + bg u (piU u)
def pmU (u : List Nat) : Nat := pfU u + 1 + bg u (pfU u)
def pmj (u : List Nat) : Nat → Nat
  | 0 => pmU u + 1
  | j + 1 => pmj u j + 3 + bg u (pmj u j + 2)
theorem sMs_at (u : List Nat) (n : Nat) (off : Nat → Nat) : ∀ (m p : Nat), p ≤ u.length → (sMs u n off m p).1 = true → ∀ (f : Nat → Nat), f 0 = p → (∀ j, f (j + 1) = f j + 3 + bg u (f j + 2)) → ∀ j, j < m → (sMt u n off (f j)).1 = true
  | 0, p, _, _, f, _, _, j, hj => absurd hj (by omega)
  | m + 1, p, hp, h, f, h0, hs, j, hj => by
    rw [sMs] at h
    by_cases e : (sMt u n off p).1 = true
    · rw [if_pos e] at h
      have k := sMt_len e
      cases j with
      | zero => rw [h0]; exact e
      | succ j => exact sMs_at u n off m _ (by omega) h (fun i => f (i + 1)) (by show f (0 + 1) = _; rw [hs 0, h0]; exact k.1.symm) (fun i => hs (i + 1)) j (by omega)
    · rw [if_neg e] at h; cases h
/-- all that the rest of a unit says -/
theorem okU.rest {u : List Nat} (h : okU u) : tgU u (bg u (hdU u)) = 7 ∧ (bg u (hdU u + 1) = 0 ∨ tgU u (bg u (hdU u + 1)) = 7) ∧ bg u (piU u) ≤ 3 ∧ (∀ i, i < bg u (piU u) → tgU u (bg u (piU u + 1 + i)) = 7) ∧
    bg u (pfU u) ≤ 4 ∧ (∀ i, i < bg u (pfU u) → fU u (bg u (pfU u + 1 + i)) 20 = true) ∧ bg u (pmU u) ≤ 4 ∧ (∀ j, j < bg u (pmU u) → (sMt u (bg u 1) (offU u (bg u 1)) (pmj u j)).1 = true) ∧ hdU u + 1 < u.length ∧ piU u < u.length ∧ pfU u < u.length ∧ pmU u < u.length := by
  obtain ⟨hc, -, h3, h4⟩ := h
  have k3 := tk_t h3
  have r2 : (sR2 u (bg u 1) (offU u (bg u 1)) (hdU u + 2)).1 = true ∧ (bg u (hdU u + 1) = 0 ∨ tgU u (bg u (hdU u + 1)) = 7) ∧ hdU u + 1 < u.length := by
    unfold sRs at h4
    by_cases e0 : hdU u + 1 < u.length ∧ bg u (hdU u + 1) = 0
    · rw [if_pos e0] at h4; exact ⟨h4, Or.inl e0.2, e0.1⟩
    · rw [if_neg e0] at h4
      by_cases e1 : (tk u 120 (hdU u + 1) (fun k => ftN u (bg u 1) (offU u (bg u 1)) k 7)).1 = true
      · have k := tk_t e1
        rw [if_pos e1] at h4
        exact ⟨h4, Or.inr (fU_7 (Or.inl rfl) k.2.2.1), k.2.1⟩
      · rw [if_neg e1] at h4; cases h4
  obtain ⟨r2, s2, l2⟩ := r2
  unfold sR2 at r2
  by_cases e2 : (sSv u 3 (fun k => ftN u (bg u 1) (offU u (bg u 1)) k 7) (hdU u + 2)).1 = true
  · have k2 := sSv_len e2
    rw [if_pos e2, k2.1] at r2
    have q2 : hdU u + 2 + 1 + bg u (hdU u + 2) = pfU u := rfl
    rw [q2] at r2
    unfold sR3 at r2
    by_cases e5 : (sSv u 4 (fun k => ftN u (bg u 1) (offU u (bg u 1)) k 20) (pfU u)).1 = true
    · have k5 := sSv_len e5
      rw [if_pos e5, k5.1] at r2
      have q5 : pfU u + 1 + bg u (pfU u) = pmU u := rfl
      rw [q5] at r2
      unfold sR4 at r2
      by_cases e6 : (tk u 120 (pmU u) (fun k => decide (k ≤ 4))).1 = true
      · have k6 := tk_t e6
        rw [if_pos e6] at r2
        by_cases e7 : (sMs u (bg u 1) (offU u (bg u 1)) (bg u (pmU u)) (pmU u + 1)).1 = true
        · have k7 := sMs_at u _ _ _ _ (by omega) e7 (pmj u) rfl (fun _ => rfl)
          refine ⟨fU_7 (Or.inl rfl) k3.2.2.1, s2, k2.2.2.1, fun i hi => fU_7 (Or.inl rfl) (k2.2.2.2 i hi), k5.2.2.1, fun i hi => k5.2.2.2 i hi, by simpa using k6.2.2.1, k7, l2, ?_, ?_, k6.2.1⟩
          · have := k2.2.1; show hdU u + 2 < _; omega
          · have := k5.2.1; omega
        · rw [if_neg e7] at r2; cases r2
      · rw [if_neg e6] at r2; cases r2
    · rw [if_neg e5] at r2; cases r2
  · rw [if_neg e2] at r2; cases r2
/-- texts of a unit are texts -/
theorem txt_vT {u : List Nat} (hc : cU u) {k : Nat} (h : tgU u k = 1) : vT (txt u (cAt u k)) ∧ (∀ c ∈ txt u (cAt u k), c ≤ 53) ∧ txt u (cAt u k) ≠ [] := by
  have h1 := tgU_at hc (k := k) (by omega)
  obtain ⟨g1, g2, g3⟩ := h1.2.2.2.2.2.2 h
  have key : ∀ c ∈ txt u (cAt u k), 1 ≤ c ∧ c ≤ 53 := by
    intro c hcm
    unfold txt at hcm
    obtain ⟨i, hi, rfl⟩ := List.mem_map.mp hcm
    have h2 := g3 i (List.mem_range.mp hi)
    simp only [isLt, Bool.or_eq_true, decide_eq_true_eq] at h2
    unfold cod
    (repeat' split) <;> omega
  refine ⟨⟨by simp [txt]; omega, fun c hcm => by have := key c hcm; omega⟩, fun c hcm => (key c hcm).2, ?_⟩
  intro he
  have : (txt u (cAt u k)).length = 0 := by rw [he]; rfl
  simp [txt] at this
  omega
/-- the unit's own name -/
def ownU (u : List Nat) : List Nat := nmU u (bg u (hdU u))
theorem nm_vT {u : List Nat} (h : okU u) {k : Nat} (ht : tgU u k = 7) : vT (nmU u k) ∧ (∀ c ∈ nmU u k, c ≤ 53) ∧ nmU u k ≠ [] := txt_vT h.1 (h.cls ht).1
section MU
variable {d : Nat} {h : ax_H} {u : List Nat} {c : Nat} {Q : Option Value → ax_H → Prop}
theorem mQ_nameOf_c (hu : untM h c u) (hc : c ≤ 12) (hk : okU u) (k : Nat) (ht : tgU u k = 7) : ax_wp kM (d + 2) mQ_nameOf 0 [some (.ref 0), some (.int (nI c)), some (.int (nI k))] [] h Q = Q (some (.long (lN (pB (nmU u k))))) h := mQ_nameOf_ hu hc hk.1 k ht (hk.cls ht).1
theorem mQ_ownName_ (hu : untM h c u) (hc : c ≤ 12) (hk : okU u) : ax_wp kM (d + 3) mQ_ownName 0 [some (.ref 0), some (.int (nI c))] [] h Q = Q (some (.long (lN (pB (ownU u))))) h := by
  have hr := hu.1
  have hz := hu.2.1
  have k := hk.rest
  have b1 := hu.2.2.1 (hdU u) (by omega)
  have hh := fun (Q : Option Value → ax_H → Prop) d => mQ_headOf_ (d := d) (Q := Q) hu hc hk.1
  simp only [show cAt u (bg u 1 + 1) = hdU u from rfl] at hh
  simp (disch := omega) only [sQ_ownName_0, sQ_ownName_1, sQ_ownName_2, sQ_ownName_3, sQ_ownName_6, sQ_ownName_7, sQ_ownName_8, sQ_ownName_11, sQ_ownName_12, sQ_ownName_15, ax_clr_i, ax_clr_l, ax_clr_r, ax_clr_n, ax_ct_0, ax_ct_i, ax_ct_l, ax_ct_r, va_rf_s, Option.toList_some, Option.toList_none, List.cons_append, List.nil_append, and_true, true_and, and_self, ite_true, ite_false, if_true, if_false, Nat.reduceAdd, Nat.reduceLeDiff, Nat.reduceMul, Nat.reduceLT, nI_add, pk_mul, nI_lt', nI_le', nI_eq', nI_lt0, nI_ge0, nI_eq0, nI_gt0, nI_le0, nI_ne_m1, m1_ne_nI, m1_lt_nI, m1_le_nI, nI_lt_m1, nI_le_m1, nI_clamp, ax_in_nI, nI_shl, nI_shr, lg_cmp0, nx_and, nI_eq1, bI_0, bI_1, bf_or, eq_self, or_true, true_or, lt_T, le_T, lt_F, le_F, eq_F, eq_T, kdM_0, kdM_1, kdM_2, kdM_3, kdM_4, kdM_5, kdM_6, kdM_7, kdM_8, kdM_9, kdM_10, kdM_11, kdM_12, kdM_13, kdM_14, kdM_15, kdM_16, kdM_17, kdM_18, kdM_19, kdM_20, kdM_21, kdM_22, kdM_23, kdM_24, rM_0, rM_1, rM_5, rM_6, rM_7, rM_10, rM_11, rM_12, rM_13, rM_14, rM_15, rM_16, rM_18, rM_19, rM_20, rM_21, rM_23, rM_24, rM_25, rM_26, rM_28, rM_29, rM_30, rM_31, hr, b1, hh, mQ_nameOf_c hu hc hk _ k.1]
  rfl
end MU
