/-! what is known of the occurrences of a unit -/
def ocv (x : oc4) : Prop := x.1 ≤ 8 ∧ vT x.2.2.1 ∧ (∀ c ∈ x.2.2.1, c ≤ 53) ∧ vT x.2.2.2
theorem nms_v {u : List Nat} (hk : okU u) {op k line : Nat} (h0 : 0 < opd op) (hf : fU u k (opd op) = true) : ∀ x ∈ nmsU u op k line, ocv x := by
  intro x hx
  unfold nmsU at hx
  by_cases e1 : op = 18 ∧ tgU u k = 1
  · rw [if_pos e1] at hx; cases hx
  · rw [if_neg e1] at hx
    by_cases e2 : 180 ≤ op ∧ op ≤ 182
    · rw [if_pos e2] at hx
      simp only [List.mem_singleton] at hx
      subst hx
      have ht : 9 ≤ tgU u k := by
        by_cases e3 : op = 182
        · have := fU_7 (w := 10) (by omega) (show fU u k 10 = true by rw [← hf]; congr 1; rw [e3]; rfl); omega
        · have : opd op = 9 := by unfold opd; rw [if_neg (by omega), if_pos (by omega)]
          rw [this] at hf
          have := fU_7 (w := 9) (by omega) hf; omega
      obtain ⟨m1, m2, m3⟩ := hk.mem ht
      obtain ⟨v1, v2, v3⟩ := nm_vT hk m1
      exact ⟨by show op - 180 ≤ 8; omega, v1, v2, (txt_vT hk.1 m2).1⟩
    · rw [if_neg e2] at hx
      simp only [List.mem_singleton] at hx
      subst hx
      have ht : tgU u k = 7 := by
        by_cases e3 : op = 18
        · have : opd op = 22 := by unfold opd; rw [if_pos e3]
          rw [this] at hf
          unfold fU ftN at hf
          simp at hf
          rcases hf with q | q
          · exact q
          · exact absurd ⟨e3, q⟩ e1
        · have : opd op = 7 := by
            unfold opd at h0 ⊢
            rw [if_neg e3, if_neg (by omega), if_neg (by omega)] at h0 ⊢
            by_cases e4 : op = 187 ∨ op = 192 ∨ op = 193
            · rw [if_pos e4]
            · rw [if_neg e4] at h0; omega
          rw [this] at hf
          exact fU_7 (by omega) hf
      obtain ⟨v1, v2, v3⟩ := nm_vT hk ht
      refine ⟨?_, v1, v2, vT_nil⟩
      show (if op = 187 then 3 else if op = 192 then 4 else if op = 193 then 5 else 6) ≤ 8
      (repeat' split) <;> omega
theorem ocC_v {u : List Nat} (hk : okU u) (start lim : Nat) : ∀ (m p line : Nat), start ≤ p → p ≤ lim → (sCd u (bg u 1) (offU u (bg u 1)) start lim m p).1 = true → ∀ x ∈ ocC u start lim m p line, ocv x
  | 0, p, line, _, _, _, x, hx => by simp [ocC] at hx
  | m + 1, p, line, hs, hp, hcd, x, hx => by
    rw [ocC] at hx
    rw [sCd] at hcd
    by_cases e : p < lim
    · rw [if_pos e] at hcd hx
      by_cases e1 : (sIn u (bg u 1) (offU u (bg u 1)) start lim p).1 = true
      · rw [if_pos e1] at hcd
        obtain ⟨n1, n2, n3, n4, n5, n6⟩ := sIn_nx hs e e1
        have n7 := (sIn_le (b := u) (n := bg u 1) (off := offU u (bg u 1)) (start := start) e).2 e1
        rw [n1] at hcd n7
        have ih := fun line => ocC_v hk start lim m (nxI u start p) line (by omega) n3 hcd
        by_cases a170 : bg u p = 170
        · rw [if_pos a170] at hx; exact ih line x hx
        · rw [if_neg a170] at hx
          by_cases a196 : bg u p = 196
          · rw [if_pos a196] at hx
            rcases List.mem_append.mp hx with q | q
            · have n8 := n5 a196
              refine nms_v hk ?_ n8.2 x q
              rcases n8.1 with w | w | w | w <;> rw [w] <;> decide
            · exact ih line x q
          · rw [if_neg a196] at hx
            rcases List.mem_append.mp hx with q | q
            · by_cases o0 : 0 < opd (bg u p)
              · rw [if_pos o0] at q
                exact nms_v hk o0 (n6 a170 a196 o0) x q
              · rw [if_neg o0] at q; cases q
            · exact ih _ x q
      · rw [if_neg e1] at hcd; cases hcd
    · rw [if_neg e] at hx; cases hx
theorem ocMs_v {u : List Nat} (hk : okU u) : ∀ (m j : Nat), j + m ≤ bg u (pmU u) → (∀ x ∈ ocMs u m j, ocv x) ∧ (ocMs u m j).length ≤ 12 * m
  | 0, j, _ => ⟨fun x hx => by simp [ocMs] at hx, by simp [ocMs]⟩
  | m + 1, j, hj => by
    have km := sMt_len (hk.rest.2.2.2.2.2.2.2.1 j (by omega))
    have ih := ocMs_v hk m (j + 1) (by omega)
    have hln := ocC_len u (bg u 1) (offU u (bg u 1)) (pmj u j + 3) (pmj u j + 3 + bg u (pmj u j + 2)) (bg u (pmj u j + 2)) (pmj u j + 3) (bg u (pmj u j + 1)) (by omega) (by omega) km.2.2.2.2
    rw [ocMs]
    refine ⟨fun x hx => ?_, by rw [List.length_append]; omega⟩
    rcases List.mem_append.mp hx with q | q
    · exact ocC_v hk _ _ _ _ _ (by omega) (by omega) km.2.2.2.2 x q
    · exact ih.1 x q
theorem ocU_v {u : List Nat} (hk : okU u) : (∀ x ∈ ocU u, ocv x) ∧ (ocU u).length ≤ 52 := by
  obtain ⟨k1, k2, k3, k4, k5, k6, k7, k8, k9⟩ := hk.rest
  have hm := ocMs_v hk (bg u (pmU u)) 0 (by omega)
  unfold ocU
  refine ⟨fun x hx => ?_, ?_⟩
  · rcases List.mem_append.mp hx with q | q
    · rcases List.mem_append.mp q with q | q
      · by_cases e : 0 < bg u (hdU u + 1)
        · rw [if_pos e] at q
          simp only [List.mem_singleton] at q
          subst q
          obtain ⟨v1, v2, v3⟩ := nm_vT hk (k := bg u (hdU u + 1)) (by omega)
          exact ⟨by show 7 ≤ 8; omega, v1, v2, vT_nil⟩
        · rw [if_neg e] at q; cases q
      · unfold ocI at q
        obtain ⟨j, hj, rfl⟩ := List.mem_map.mp q
        rw [List.mem_range] at hj
        obtain ⟨v1, v2, v3⟩ := nm_vT hk (k4 (0 + j) (by omega))
        exact ⟨by show 8 ≤ 8; omega, v1, v2, vT_nil⟩
    · exact hm.1 x q
  · rw [List.length_append, List.length_append]
    have l1 : (ocI u (bg u (piU u)) 0).length = bg u (piU u) := by simp [ocI]
    have l2 : (if 0 < bg u (hdU u + 1) then [(7, 0, nmU u (bg u (hdU u + 1)), [])] else ([] : List oc4)).length ≤ 1 := by split <;> simp
    omega
theorem ocA_v {u : List Nat} (hk : okU u) {i : Nat} (hi : i < (ocU u).length) : ocv (ocA (ocU u) i) := by
  refine (ocU_v hk).1 _ ?_
  unfold ocA
  rw [List.getD_eq_getElem?_getD, List.getElem?_eq_getElem hi]
  exact List.getElem_mem _
