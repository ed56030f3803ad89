/-! what a run comes to: by equations, an instruction each -/
def ax_wp (ks : ax_K) (d : Nat) (M : ax_M) (pc : Nat) (ls : ax_L) (st : List Value) (h : ax_H) (Q : Option Value → ax_H → Prop) : Prop := ∃ n v h', ax_run ks n d M pc ls st h = some (v, h') ∧ Q v h'
def ax_kd (ks : ax_K) (r : Nat) : Nat × Nat := (ks[r]?).getD (9, 0)
section AXWP
variable {ks : ax_K} {d : Nat} {M : ax_M} {pc pc' : Nat} {ls ls' : ax_L} {st st' : List Value} {h h' : ax_H} {Q Q' : Option Value → ax_H → Prop} {i : Instr} {len r : Nat}
theorem wp_stp (hd : decode M.2.2.1 pc = .ok (i, len)) : ax_step ks M pc ls st h = ax_ex ks M pc ls st h i len := by simp [ax_step, hd]
theorem wp_mono (hq : ∀ v h', Q v h' → Q' v h') (hw : ax_wp ks d M pc ls st h Q) : ax_wp ks d M pc ls st h Q' := by
  obtain ⟨n, v, h', h1, h2⟩ := hw
  exact ⟨n, v, h', h1, hq v h' h2⟩
theorem wp_n (hd : decode M.2.2.1 pc = .ok (i, len)) (he : ax_ex ks M pc ls st h i len = some (.inl (pc', ls', st', h'))) : ax_wp ks d M pc ls st h Q = ax_wp ks d M pc' ls' st' h' Q := by
  apply propext
  constructor
  · intro ⟨n, v, h1, hr, hq⟩
    cases n with
    | zero => simp [ax_run] at hr
    | succ n =>
      rw [ax_run, wp_stp hd, he] at hr
      exact ⟨n, v, h1, hr, hq⟩
  · intro ⟨n, v, h1, hr, hq⟩
    refine ⟨n + 1, v, h1, ?_, hq⟩
    rw [ax_run, wp_stp hd, he]
    exact hr
theorem wp_0 (hd : decode M.2.2.1 pc = .ok (i, len)) (he : ax_ex ks M pc ls st h i len = none) : ax_wp ks d M pc ls st h Q = False := by
  apply propext
  constructor
  · intro ⟨n, v, h1, hr, hq⟩
    cases n with
    | zero => simp [ax_run] at hr
    | succ n =>
      rw [ax_run, wp_stp hd, he] at hr
      cases hr
  · exact False.elim
theorem wp_r {v : Option Value} (hd : decode M.2.2.1 pc = .ok (i, len)) (he : ax_ex ks M pc ls st h i len = some (.inr (.inl v))) : ax_wp ks d M pc ls st h Q = Q v h := by
  apply propext
  constructor
  · intro ⟨n, w, h1, hr, hq⟩
    cases n with
    | zero => simp [ax_run] at hr
    | succ n =>
      rw [ax_run, wp_stp hd, he] at hr
      cases hr
      exact hq
  · intro hq
    refine ⟨1, v, h, ?_, hq⟩
    rw [ax_run, wp_stp hd, he]
theorem wp_k {M' : ax_M} {as rest : List Value} (hd : decode M.2.2.1 pc = .ok (i, len)) (he : ax_ex ks M pc ls st h i len = some (.inr (.inr (M', as, rest)))) :
    ax_wp ks (d + 1) M pc ls st h Q = ax_wp ks d M' 0 (ax_en M'.2.2.2.1 as) [] h (fun v h1 => ax_wp ks (d + 1) M (pc + 3) ls (v.toList ++ rest) h1 Q) := by
  apply propext
  constructor
  · intro ⟨n, w, h1, hr, hq⟩
    cases n with
    | zero => simp [ax_run] at hr
    | succ n =>
      rw [ax_run, wp_stp hd, he] at hr
      simp only at hr
      split at hr
      · cases hr
      · rename_i z hz
        exact ⟨n, z.1, z.2, hz, n, w, h1, hr, hq⟩
  · intro ⟨n, v, h2, hr, n2, w, h3, hr2, hq⟩
    refine ⟨n + n2 + 1, w, h3, ?_, hq⟩
    rw [ax_run, wp_stp hd, he]
    simp only
    rw [ax_run_le ks hr (by omega)]
    exact ax_run_le ks hr2 (by omega)
/-- with a condition -/
theorem wp_if {P : Prop} (hd : decode M.2.2.1 pc = .ok (i, len)) (he : P → ax_ex ks M pc ls st h i len = some (.inl (pc', ls', st', h'))) (hn : ¬ P → ax_ex ks M pc ls st h i len = none) : ax_wp ks d M pc ls st h Q = (P ∧ ax_wp ks d M pc' ls' st' h' Q) := by
  by_cases hP : P
  · rw [wp_n hd (he hP)]
    simp [hP]
  · rw [wp_0 hd (hn hP)]
    simp [hP]
theorem kd_some {t n : Nat} (ht : t ≠ 9) : ks[r]? = some (t, n) ↔ ax_kd ks r = (t, n) := by
  unfold ax_kd
  cases ks[r]? with
  | none => simp; intro h1; exact absurd h1.symm ht
  | some z => simp
variable {e : Nat × Nat × Bool × Nat} {j : Nat}
theorem wp_gfI (hd : decode M.2.2.1 pc = .ok (.getfield j, 3)) (hf : ax_flk M.1 j = some e) (ht : ax_ty e.1 e.2.1 = .int) : ax_wp ks d M pc ls (.ref r :: st) h Q = (ax_kd ks r = (0, e.1) ∧ ax_wp ks d M (pc + 3) ls (.int (h.1 r e.2.1) :: st) h Q) := by
  refine wp_if hd (fun hP => ?_) (fun hP => ?_)
  · rw [ex_getfield]
    simp [ax_gf, hf, (kd_some (by decide)).mpr hP, ht, ax_fv]
  · rw [ex_getfield]
    have hQ : ¬ ks[r]? = some (0, e.1) := fun h1 => hP ((kd_some (by decide)).mp h1)
    simp [ax_gf, hf, hQ]
theorem wp_gfL (hd : decode M.2.2.1 pc = .ok (.getfield j, 3)) (hf : ax_flk M.1 j = some e) (ht : ax_ty e.1 e.2.1 = .long) : ax_wp ks d M pc ls (.ref r :: st) h Q = (ax_kd ks r = (0, e.1) ∧ ax_wp ks d M (pc + 3) ls (.long (h.2.1 r e.2.1) :: st) h Q) := by
  refine wp_if hd (fun hP => ?_) (fun hP => ?_)
  · rw [ex_getfield]
    simp [ax_gf, hf, (kd_some (by decide)).mpr hP, ht, ax_fv]
  · rw [ex_getfield]
    have hQ : ¬ ks[r]? = some (0, e.1) := fun h1 => hP ((kd_some (by decide)).mp h1)
    simp [ax_gf, hf, hQ]
theorem wp_gfR (hd : decode M.2.2.1 pc = .ok (.getfield j, 3)) (hf : ax_flk M.1 j = some e) (ht : (∃ n, ax_ty e.1 e.2.1 = .object n) ∨ ∃ n, ax_ty e.1 e.2.1 = .array n) : ax_wp ks d M pc ls (.ref r :: st) h Q = (ax_kd ks r = (0, e.1) ∧ ax_wp ks d M (pc + 3) ls (va_rf (h.2.2 r e.2.1) :: st) h Q) := by
  refine wp_if hd (fun hP => ?_) (fun hP => ?_)
  · rw [ex_getfield]
    rcases ht with ⟨n, ht⟩ | ⟨n, ht⟩ <;> simp [ax_gf, hf, (kd_some (by decide)).mpr hP, ht, ax_fv]
  · rw [ex_getfield]
    have hQ : ¬ ks[r]? = some (0, e.1) := fun h1 => hP ((kd_some (by decide)).mp h1)
    simp [ax_gf, hf, hQ]
theorem wp_pfI {x : Int32} (hd : decode M.2.2.1 pc = .ok (.putfield j, 3)) (hf : ax_flk M.1 j = some e) (ht : ax_ty e.1 e.2.1 = .int) (hF : (ax_Tb e.1 e.2.1).2.2.2 = false) : ax_wp ks d M pc ls (.int x :: .ref r :: st) h Q = (ax_kd ks r = (0, e.1) ∧ ax_wp ks d M (pc + 3) ls st (ax_upI h r e.2.1 x) Q) := by
  refine wp_if hd (fun hP => ?_) (fun hP => ?_)
  · rw [ex_putfield]
    simp [ax_pf, hf, (kd_some (by decide)).mpr hP, ht, ax_sv, hF]
  · rw [ex_putfield]
    have hQ : ¬ ks[r]? = some (0, e.1) := fun h1 => hP ((kd_some (by decide)).mp h1)
    simp [ax_pf, hf, hQ]
theorem wp_pfL {x : Int64} (hd : decode M.2.2.1 pc = .ok (.putfield j, 3)) (hf : ax_flk M.1 j = some e) (ht : ax_ty e.1 e.2.1 = .long) (hF : (ax_Tb e.1 e.2.1).2.2.2 = false) : ax_wp ks d M pc ls (.long x :: .ref r :: st) h Q = (ax_kd ks r = (0, e.1) ∧ ax_wp ks d M (pc + 3) ls st (ax_upL h r e.2.1 x) Q) := by
  refine wp_if hd (fun hP => ?_) (fun hP => ?_)
  · rw [ex_putfield]
    simp [ax_pf, hf, (kd_some (by decide)).mpr hP, ht, ax_sv, hF]
  · rw [ex_putfield]
    have hQ : ¬ ks[r]? = some (0, e.1) := fun h1 => hP ((kd_some (by decide)).mp h1)
    simp [ax_pf, hf, hQ]
theorem wp_pfR {x : Nat} (hd : decode M.2.2.1 pc = .ok (.putfield j, 3)) (hf : ax_flk M.1 j = some e) (ht : ∃ n, ax_ty e.1 e.2.1 = .object n) (hF : (ax_Tb e.1 e.2.1).2.2.2 = false) : ax_wp ks d M pc ls (.ref x :: .ref r :: st) h Q = ((ax_kd ks r = (0, e.1) ∧ x < ks.length) ∧ ax_wp ks d M (pc + 3) ls st (ax_upR h r e.2.1 (some x)) Q) := by
  obtain ⟨n, ht⟩ := ht
  refine wp_if hd (fun hP => ?_) (fun hP => ?_)
  · rw [ex_putfield]
    simp [ax_pf, hf, (kd_some (by decide)).mpr hP.1, ht, ax_sv, hF, hP.2]
  · rw [ex_putfield]
    by_cases h1 : ks[r]? = some (0, e.1)
    · simp [ax_pf, hf, h1, ht, ax_sv, hF]
      exact Nat.not_lt.mp fun h2 => hP ⟨(kd_some (by decide)).mp h1, h2⟩
    · simp [ax_pf, hf, h1]
theorem wp_iald {x : Int32} (hd : decode M.2.2.1 pc = .ok (.iaload, 1)) : ax_wp ks d M pc ls (.int x :: .ref r :: st) h Q = (((ax_kd ks r).1 = 1 ∧ ax_in x (ax_kd ks r).2 = true) ∧ ax_wp ks d M (pc + 1) ls (.int (h.1 r x.toNatClampNeg) :: st) h Q) := by
  refine wp_if hd (fun hP => ?_) (fun hP => ?_) <;> rw [ex_iaload] <;> unfold ax_kd at hP <;> cases hk : ks[r]? with
  | none => simp [hk] at hP <;> simp [ax_al, hk]
  | some z => simp [hk] at hP <;> simp [ax_al, hk] <;> simpa using hP
theorem wp_lald {x : Int32} (hd : decode M.2.2.1 pc = .ok (.laload, 1)) : ax_wp ks d M pc ls (.int x :: .ref r :: st) h Q = (((ax_kd ks r).1 = 2 ∧ ax_in x (ax_kd ks r).2 = true) ∧ ax_wp ks d M (pc + 1) ls (.long (h.2.1 r x.toNatClampNeg) :: st) h Q) := by
  refine wp_if hd (fun hP => ?_) (fun hP => ?_) <;> rw [ex_laload] <;> unfold ax_kd at hP <;> cases hk : ks[r]? with
  | none => simp [hk] at hP <;> simp [ax_al, hk]
  | some z => simp [hk] at hP <;> simp [ax_al, hk] <;> simpa using hP
theorem wp_bald {x : Int32} (hd : decode M.2.2.1 pc = .ok (.baload, 1)) : ax_wp ks d M pc ls (.int x :: .ref r :: st) h Q = (((ax_kd ks r).1 = 3 ∧ ax_in x (ax_kd ks r).2 = true) ∧ ax_wp ks d M (pc + 1) ls (.int (h.1 r x.toNatClampNeg) :: st) h Q) := by
  refine wp_if hd (fun hP => ?_) (fun hP => ?_) <;> rw [ex_baload] <;> unfold ax_kd at hP <;> cases hk : ks[r]? with
  | none => simp [hk] at hP <;> simp [ax_al, hk]
  | some z => simp [hk] at hP <;> simp [ax_al, hk] <;> simpa using hP
theorem wp_aald {x : Int32} (hd : decode M.2.2.1 pc = .ok (.aaload, 1)) : ax_wp ks d M pc ls (.int x :: .ref r :: st) h Q = ((((ax_kd ks r).1 = 4 ∨ (ax_kd ks r).1 = 5) ∧ ax_in x (ax_kd ks r).2 = true) ∧ ax_wp ks d M (pc + 1) ls (va_rf (h.2.2 r x.toNatClampNeg) :: st) h Q) := by
  refine wp_if hd (fun hP => ?_) (fun hP => ?_) <;> rw [ex_aaload] <;> unfold ax_kd at hP <;> cases hk : ks[r]? with
  | none => simp [hk] at hP <;> simp [ax_al, hk]
  | some z => simp [hk] at hP <;> simp [ax_al, hk] <;> simpa using hP
theorem wp_iast {x y : Int32} (hd : decode M.2.2.1 pc = .ok (.iastore, 1)) : ax_wp ks d M pc ls (.int y :: .int x :: .ref r :: st) h Q = (((ax_kd ks r).1 = 1 ∧ ax_in x (ax_kd ks r).2 = true) ∧ ax_wp ks d M (pc + 1) ls st (ax_upI h r x.toNatClampNeg y) Q) := by
  refine wp_if hd (fun hP => ?_) (fun hP => ?_) <;> rw [ex_iastore] <;> unfold ax_kd at hP <;> cases hk : ks[r]? with
  | none => simp [hk] at hP <;> simp [ax_as, hk]
  | some z => simp [hk] at hP <;> simp [ax_as, hk] <;> simpa using hP
theorem wp_last {x : Int32} {y : Int64} (hd : decode M.2.2.1 pc = .ok (.lastore, 1)) : ax_wp ks d M pc ls (.long y :: .int x :: .ref r :: st) h Q = (((ax_kd ks r).1 = 2 ∧ ax_in x (ax_kd ks r).2 = true) ∧ ax_wp ks d M (pc + 1) ls st (ax_upL h r x.toNatClampNeg y) Q) := by
  refine wp_if hd (fun hP => ?_) (fun hP => ?_) <;> rw [ex_lastore] <;> unfold ax_kd at hP <;> cases hk : ks[r]? with
  | none => simp [hk] at hP <;> simp [ax_as, hk]
  | some z => simp [hk] at hP <;> simp [ax_as, hk] <;> simpa using hP
theorem wp_bast {x y : Int32} (hd : decode M.2.2.1 pc = .ok (.bastore, 1)) : ax_wp ks d M pc ls (.int y :: .int x :: .ref r :: st) h Q = (((ax_kd ks r).1 = 3 ∧ ax_in x (ax_kd ks r).2 = true) ∧ ax_wp ks d M (pc + 1) ls st (ax_upI h r x.toNatClampNeg (vp_nar .boolean y)) Q) := by
  refine wp_if hd (fun hP => ?_) (fun hP => ?_) <;> rw [ex_bastore] <;> unfold ax_kd at hP <;> cases hk : ks[r]? with
  | none => simp [hk] at hP <;> simp [ax_as, hk]
  | some z => simp [hk] at hP <;> simp [ax_as, hk] <;> simpa using hP
theorem wp_aast {x : Int32} {y : Nat} (hd : decode M.2.2.1 pc = .ok (.aastore, 1)) : ax_wp ks d M pc ls (.ref y :: .int x :: .ref r :: st) h Q = ((((ax_kd ks r).1 = 4 ∧ ax_in x (ax_kd ks r).2 = true) ∧ ax_kd ks y = (0, 3)) ∧ ax_wp ks d M (pc + 1) ls st (ax_upR h r x.toNatClampNeg (some y)) Q) := by
  rw [show (ax_kd ks y = (0, 3)) = (ks[y]? = some (0, 3)) from propext (kd_some (by decide)).symm]
  refine wp_if hd (fun hP => ?_) (fun hP => ?_) <;> rw [ex_aastore] <;> unfold ax_kd at hP <;> cases hk : ks[r]? with
  | none => simp [hk] at hP <;> simp [ax_as, hk]
  | some z => simp [hk] at hP <;> simp [ax_as, hk] <;> simpa using hP
theorem wp_alen (hd : decode M.2.2.1 pc = .ok (.arraylength, 1)) : ax_wp ks d M pc ls (.ref r :: st) h Q = ((0 < (ax_kd ks r).1 ∧ (ax_kd ks r).1 < 6) ∧ ax_wp ks d M (pc + 1) ls (.int (nI (ax_kd ks r).2) :: st) h Q) := by
  refine wp_if hd (fun hP => ?_) (fun hP => ?_) <;> rw [ex_arraylength] <;> unfold ax_kd at hP <;> cases hk : ks[r]? with
  | none => simp [hk] at hP <;> simp [ax_len, hk]
  | some z => simp [hk] at hP <;> simp [ax_len, hk, nI, ax_kd] <;> simpa using hP
theorem wp_iconst {n : Int} {v : Int32} (hd : decode M.2.2.1 pc = .ok (.iconst n, 1)) (hv : Int32.ofInt n = v) : ax_wp ks d M pc ls (st) h Q = ax_wp ks d M (pc + 1) ls (.int v :: st) h Q := by subst hv; exact wp_n hd rfl
theorem wp_bipush {n : Int} {v : Int32} (hd : decode M.2.2.1 pc = .ok (.bipush n, 2)) (hv : (Int8.ofInt n).toInt32 = v) : ax_wp ks d M pc ls (st) h Q = ax_wp ks d M (pc + 2) ls (.int v :: st) h Q := by subst hv; exact wp_n hd rfl
theorem wp_sipush {n : Int} {v : Int32} (hd : decode M.2.2.1 pc = .ok (.sipush n, 3)) (hv : (Int16.ofInt n).toInt32 = v) : ax_wp ks d M pc ls (st) h Q = ax_wp ks d M (pc + 3) ls (.int v :: st) h Q := by subst hv; exact wp_n hd rfl
theorem wp_lconst {n : Fin 2} {v : Int64} (hd : decode M.2.2.1 pc = .ok (.lconst n, 1)) (hv : Int64.ofNat (n : Nat) = v) : ax_wp ks d M pc ls (st) h Q = ax_wp ks d M (pc + 1) ls (.long v :: st) h Q := by subst hv; exact wp_n hd rfl
theorem wp_ldc2 {M1 : M.1 = 5} (hd : decode M.2.2.1 pc = .ok (.ldc2_w 165, 3)) : ax_wp ks d M pc ls (st) h Q = ax_wp ks d M (pc + 3) ls (.long 64 :: st) h Q := wp_n hd (by rw [ex_ldc2_w, if_pos ⟨M1, rfl⟩]; rfl)
theorem wp_iload_n {k : Fin 4} {x : Int32} (hd : decode M.2.2.1 pc = .ok (.iload_n k, 1)) (hi : ls[(k : Nat)]? = some (some (.int x))) : ax_wp ks d M pc ls (st) h Q = ax_wp ks d M (pc + 1) ls (.int x :: st) h Q := wp_n hd (by rw [ex_iload_n]; simp [ax_ldi, hi, ax_go])
theorem wp_iload {k : Nat} {x : Int32} (hd : decode M.2.2.1 pc = .ok (.iload k, 2)) (hi : ls[k]? = some (some (.int x))) : ax_wp ks d M pc ls (st) h Q = ax_wp ks d M (pc + 2) ls (.int x :: st) h Q := wp_n hd (by rw [ex_iload]; simp [ax_ldi, hi, ax_go])
theorem wp_lload_n {k : Fin 4} {x : Int64} (hd : decode M.2.2.1 pc = .ok (.lload_n k, 1)) (hi : ls[(k : Nat)]? = some (some (.long x))) : ax_wp ks d M pc ls (st) h Q = ax_wp ks d M (pc + 1) ls (.long x :: st) h Q := wp_n hd (by rw [ex_lload_n]; simp [ax_ldl, hi, ax_go])
theorem wp_lload {k : Nat} {x : Int64} (hd : decode M.2.2.1 pc = .ok (.lload k, 2)) (hi : ls[k]? = some (some (.long x))) : ax_wp ks d M pc ls (st) h Q = ax_wp ks d M (pc + 2) ls (.long x :: st) h Q := wp_n hd (by rw [ex_lload]; simp [ax_ldl, hi, ax_go])
theorem wp_aload_n {k : Fin 4} {x : Nat} (hd : decode M.2.2.1 pc = .ok (.aload_n k, 1)) (hi : ls[(k : Nat)]? = some (some (.ref x))) : ax_wp ks d M pc ls (st) h Q = ax_wp ks d M (pc + 1) ls (.ref x :: st) h Q := wp_n hd (by rw [ex_aload_n]; simp [ax_lda, hi, ax_go])
theorem wp_istore_n {k : Fin 4} {x : Int32} (hd : decode M.2.2.1 pc = .ok (.istore_n k, 1)) (hi : (k : Nat) < ls.length) (hl : ax_s1 ls k (.int x) = ls') : ax_wp ks d M pc ls (.int x :: st) h Q = ax_wp ks d M (pc + 1) ls' st h Q := by subst hl; exact wp_n hd (by rw [ex_istore_n]; simp [ax_sti, hi])
theorem wp_istore {k : Nat} {x : Int32} (hd : decode M.2.2.1 pc = .ok (.istore k, 2)) (hi : k < ls.length) (hl : ax_s1 ls k (.int x) = ls') : ax_wp ks d M pc ls (.int x :: st) h Q = ax_wp ks d M (pc + 2) ls' st h Q := by subst hl; exact wp_n hd (by rw [ex_istore]; simp [ax_sti, hi])
theorem wp_lstore_n {k : Fin 4} {x : Int64} (hd : decode M.2.2.1 pc = .ok (.lstore_n k, 1)) (hi : (k : Nat) + 1 < ls.length) (hl : ax_s2 ls k (.long x) = ls') : ax_wp ks d M pc ls (.long x :: st) h Q = ax_wp ks d M (pc + 1) ls' st h Q := by subst hl; exact wp_n hd (by rw [ex_lstore_n]; simp [ax_stl, hi])
theorem wp_lstore {k : Nat} {x : Int64} (hd : decode M.2.2.1 pc = .ok (.lstore k, 2)) (hi : k + 1 < ls.length) (hl : ax_s2 ls k (.long x) = ls') : ax_wp ks d M pc ls (.long x :: st) h Q = ax_wp ks d M (pc + 2) ls' st h Q := by subst hl; exact wp_n hd (by rw [ex_lstore]; simp [ax_stl, hi])
theorem wp_astore_n {k : Fin 4} {x : Nat} (hd : decode M.2.2.1 pc = .ok (.astore_n k, 1)) (hi : (k : Nat) < ls.length) (hl : ax_s1 ls k (.ref x) = ls') : ax_wp ks d M pc ls (.ref x :: st) h Q = ax_wp ks d M (pc + 1) ls' st h Q := by subst hl; exact wp_n hd (by rw [ex_astore_n]; simp [ax_sta, hi])
theorem wp_iinc {k : Nat} {n : Int} {v x : Int32} (hd : decode M.2.2.1 pc = .ok (.iinc k n, 3)) (hv : Int32.ofInt n = v) (hi : ls[k]? = some (some (.int x))) (hl : ax_s1 ls k (.int (x + v)) = ls') : ax_wp ks d M pc ls st h Q = ax_wp ks d M (pc + 3) ls' st h Q := by subst hl; subst hv; exact wp_n hd (by rw [ex_iinc]; simp [ax_inc, hi])
theorem wp_iadd {x y : Int32} (hd : decode M.2.2.1 pc = .ok (.iadd, 1)) : ax_wp ks d M pc ls (.int y :: .int x :: st) h Q = ax_wp ks d M (pc + 1) ls (.int (x + y) :: st) h Q := wp_n hd rfl
theorem wp_isub {x y : Int32} (hd : decode M.2.2.1 pc = .ok (.isub, 1)) : ax_wp ks d M pc ls (.int y :: .int x :: st) h Q = ax_wp ks d M (pc + 1) ls (.int (x - y) :: st) h Q := wp_n hd rfl
theorem wp_imul {x y : Int32} (hd : decode M.2.2.1 pc = .ok (.imul, 1)) : ax_wp ks d M pc ls (.int y :: .int x :: st) h Q = ax_wp ks d M (pc + 1) ls (.int (x * y) :: st) h Q := wp_n hd rfl
theorem wp_iand {x y : Int32} (hd : decode M.2.2.1 pc = .ok (.iand, 1)) : ax_wp ks d M pc ls (.int y :: .int x :: st) h Q = ax_wp ks d M (pc + 1) ls (.int (x &&& y) :: st) h Q := wp_n hd rfl
theorem wp_ior {x y : Int32} (hd : decode M.2.2.1 pc = .ok (.ior, 1)) : ax_wp ks d M pc ls (.int y :: .int x :: st) h Q = ax_wp ks d M (pc + 1) ls (.int (x ||| y) :: st) h Q := wp_n hd rfl
theorem wp_ishl {x y : Int32} (hd : decode M.2.2.1 pc = .ok (.ishl, 1)) : ax_wp ks d M pc ls (.int y :: .int x :: st) h Q = ax_wp ks d M (pc + 1) ls (.int (x <<< (y &&& 31)) :: st) h Q := wp_n hd rfl
theorem wp_ishr {x y : Int32} (hd : decode M.2.2.1 pc = .ok (.ishr, 1)) : ax_wp ks d M pc ls (.int y :: .int x :: st) h Q = ax_wp ks d M (pc + 1) ls (.int (x >>> (y &&& 31)) :: st) h Q := wp_n hd rfl
theorem wp_iushr {x y : Int32} (hd : decode M.2.2.1 pc = .ok (.iushr, 1)) : ax_wp ks d M pc ls (.int y :: .int x :: st) h Q = ax_wp ks d M (pc + 1) ls (.int ((x.toUInt32 >>> (y.toUInt32 &&& Int32.toUInt32 31)).toInt32) :: st) h Q := wp_n hd rfl
theorem wp_ladd {x y : Int64} (hd : decode M.2.2.1 pc = .ok (.ladd, 1)) : ax_wp ks d M pc ls (.long y :: .long x :: st) h Q = ax_wp ks d M (pc + 1) ls (.long (x + y) :: st) h Q := wp_n hd rfl
theorem wp_lsub {x y : Int64} (hd : decode M.2.2.1 pc = .ok (.lsub, 1)) : ax_wp ks d M pc ls (.long y :: .long x :: st) h Q = ax_wp ks d M (pc + 1) ls (.long (x - y) :: st) h Q := wp_n hd rfl
theorem wp_lmul {x y : Int64} (hd : decode M.2.2.1 pc = .ok (.lmul, 1)) : ax_wp ks d M pc ls (.long y :: .long x :: st) h Q = ax_wp ks d M (pc + 1) ls (.long (x * y) :: st) h Q := wp_n hd rfl
theorem wp_land {x y : Int64} (hd : decode M.2.2.1 pc = .ok (.land, 1)) : ax_wp ks d M pc ls (.long y :: .long x :: st) h Q = ax_wp ks d M (pc + 1) ls (.long (x &&& y) :: st) h Q := wp_n hd rfl
theorem wp_lor {x y : Int64} (hd : decode M.2.2.1 pc = .ok (.lor, 1)) : ax_wp ks d M pc ls (.long y :: .long x :: st) h Q = ax_wp ks d M (pc + 1) ls (.long (x ||| y) :: st) h Q := wp_n hd rfl
theorem wp_lcmp {x y : Int64} (hd : decode M.2.2.1 pc = .ok (.lcmp, 1)) : ax_wp ks d M pc ls (.long y :: .long x :: st) h Q = ax_wp ks d M (pc + 1) ls (.int (lg_cmp x y) :: st) h Q := wp_n hd rfl
theorem wp_lshl {x : Int64} {y : Int32} (hd : decode M.2.2.1 pc = .ok (.lshl, 1)) : ax_wp ks d M pc ls (.int y :: .long x :: st) h Q = ax_wp ks d M (pc + 1) ls (.long (x <<< (y.toInt64 &&& 63)) :: st) h Q := wp_n hd rfl
theorem wp_lushr {x : Int64} {y : Int32} (hd : decode M.2.2.1 pc = .ok (.lushr, 1)) : ax_wp ks d M pc ls (.int y :: .long x :: st) h Q = ax_wp ks d M (pc + 1) ls (.long (x.toUInt64 >>> (y.toInt64.toUInt64 &&& Int64.toUInt64 63)).toInt64 :: st) h Q := wp_n hd rfl
theorem wp_i2l {x : Int32} (hd : decode M.2.2.1 pc = .ok (.i2l, 1)) : ax_wp ks d M pc ls (.int x :: st) h Q = ax_wp ks d M (pc + 1) ls (.long x.toInt64 :: st) h Q := wp_n hd rfl
theorem wp_l2i {x : Int64} (hd : decode M.2.2.1 pc = .ok (.l2i, 1)) : ax_wp ks d M pc ls (.long x :: st) h Q = ax_wp ks d M (pc + 1) ls (.int x.toInt32 :: st) h Q := wp_n hd rfl
theorem wp_idiv {x y : Int32} (hd : decode M.2.2.1 pc = .ok (.idiv, 1)) : ax_wp ks d M pc ls (.int y :: .int x :: st) h Q = (¬ y = 0 ∧ ax_wp ks d M (pc + 1) ls (.int (x / y) :: st) h Q) := wp_if hd (fun hP => by rw [ex_idiv]; simp [ax_i2, ax_go, hP]) (fun hP => by rw [ex_idiv]; simp at hP; simp [ax_i2, ax_go, hP])
theorem wp_irem {x y : Int32} (hd : decode M.2.2.1 pc = .ok (.irem, 1)) : ax_wp ks d M pc ls (.int y :: .int x :: st) h Q = (¬ y = 0 ∧ ax_wp ks d M (pc + 1) ls (.int (x - x / y * y) :: st) h Q) := wp_if hd (fun hP => by rw [ex_irem]; simp [ax_i2, ax_go, hP]) (fun hP => by rw [ex_irem]; simp at hP; simp [ax_i2, ax_go, hP])
theorem wp_ldiv {x y : Int64} (hd : decode M.2.2.1 pc = .ok (.ldiv, 1)) : ax_wp ks d M pc ls (.long y :: .long x :: st) h Q = (¬ y = 0 ∧ ax_wp ks d M (pc + 1) ls (.long (x / y) :: st) h Q) := wp_if hd (fun hP => by rw [ex_ldiv]; simp [ax_l2, ax_go, hP]) (fun hP => by rw [ex_ldiv]; simp at hP; simp [ax_l2, ax_go, hP])
theorem wp_lrem {x y : Int64} (hd : decode M.2.2.1 pc = .ok (.lrem, 1)) : ax_wp ks d M pc ls (.long y :: .long x :: st) h Q = (¬ y = 0 ∧ ax_wp ks d M (pc + 1) ls (.long (x - x / y * y) :: st) h Q) := wp_if hd (fun hP => by rw [ex_lrem]; simp [ax_l2, ax_go, hP]) (fun hP => by rw [ex_lrem]; simp at hP; simp [ax_l2, ax_go, hP])
theorem wp_dup_int {x : Int32} (hd : decode M.2.2.1 pc = .ok (.dup, 1)) : ax_wp ks d M pc ls (.int x :: st) h Q = ax_wp ks d M (pc + 1) ls (.int x :: .int x :: st) h Q := wp_n hd rfl
theorem wp_pop_int {x : Int32} (hd : decode M.2.2.1 pc = .ok (.pop, 1)) : ax_wp ks d M pc ls (.int x :: st) h Q = ax_wp ks d M (pc + 1) ls st h Q := wp_n hd rfl
theorem wp_dup_ref {x : Nat} (hd : decode M.2.2.1 pc = .ok (.dup, 1)) : ax_wp ks d M pc ls (.ref x :: st) h Q = ax_wp ks d M (pc + 1) ls (.ref x :: .ref x :: st) h Q := wp_n hd rfl
theorem wp_pop_ref {x : Nat} (hd : decode M.2.2.1 pc = .ok (.pop, 1)) : ax_wp ks d M pc ls (.ref x :: st) h Q = ax_wp ks d M (pc + 1) ls st h Q := wp_n hd rfl
theorem wp_dup2 {x : Int32} {y : Nat} (hd : decode M.2.2.1 pc = .ok (.dup2, 1)) : ax_wp ks d M pc ls (.int x :: .ref y :: st) h Q = ax_wp ks d M (pc + 1) ls (.int x :: .ref y :: .int x :: .ref y :: st) h Q := wp_n hd rfl
theorem wp_if_eq {x : Int32} {off : Int} {tgt : Nat} (hd : decode M.2.2.1 pc = .ok (.ifCond .eq off, 3)) (ht : (pc : Int) + off = (tgt : Int)) : ax_wp ks d M pc ls (.int x :: st) h Q = (if x = 0 then ax_wp ks d M tgt ls st h Q else ax_wp ks d M (pc + 3) ls st h Q) := by
  have ht2 : ax_tg pc off = tgt := by unfold ax_tg; rw [ht]; rfl
  have h0 : 0 ≤ (pc : Int) + off := by rw [ht]; omega
  rw [wp_n (pc' := if ax_cc .eq x 0 = true then tgt else pc + 3) (ls' := ls) (st' := st) (h' := h) hd (by rw [ex_ifCond]; simp [ax_br1, h0, ht2])]
  by_cases hc : x = 0 <;> simp [ax_cc, hc]
theorem wp_ic_eq {x y : Int32} {off : Int} {tgt : Nat} (hd : decode M.2.2.1 pc = .ok (.if_icmp .eq off, 3)) (ht : (pc : Int) + off = (tgt : Int)) : ax_wp ks d M pc ls (.int y :: .int x :: st) h Q = (if x = y then ax_wp ks d M tgt ls st h Q else ax_wp ks d M (pc + 3) ls st h Q) := by
  have ht2 : ax_tg pc off = tgt := by unfold ax_tg; rw [ht]; rfl
  have h0 : 0 ≤ (pc : Int) + off := by rw [ht]; omega
  rw [wp_n (pc' := if ax_cc .eq x y = true then tgt else pc + 3) (ls' := ls) (st' := st) (h' := h) hd (by rw [ex_if_icmp]; simp [ax_br2, h0, ht2])]
  by_cases hc : x = y <;> simp [ax_cc, hc]
theorem wp_if_ne {x : Int32} {off : Int} {tgt : Nat} (hd : decode M.2.2.1 pc = .ok (.ifCond .ne off, 3)) (ht : (pc : Int) + off = (tgt : Int)) : ax_wp ks d M pc ls (.int x :: st) h Q = (if x = 0 then ax_wp ks d M (pc + 3) ls st h Q else ax_wp ks d M tgt ls st h Q) := by
  have ht2 : ax_tg pc off = tgt := by unfold ax_tg; rw [ht]; rfl
  have h0 : 0 ≤ (pc : Int) + off := by rw [ht]; omega
  rw [wp_n (pc' := if ax_cc .ne x 0 = true then tgt else pc + 3) (ls' := ls) (st' := st) (h' := h) hd (by rw [ex_ifCond]; simp [ax_br1, h0, ht2])]
  by_cases hc : x = 0 <;> simp [ax_cc, hc]
theorem wp_ic_ne {x y : Int32} {off : Int} {tgt : Nat} (hd : decode M.2.2.1 pc = .ok (.if_icmp .ne off, 3)) (ht : (pc : Int) + off = (tgt : Int)) : ax_wp ks d M pc ls (.int y :: .int x :: st) h Q = (if x = y then ax_wp ks d M (pc + 3) ls st h Q else ax_wp ks d M tgt ls st h Q) := by
  have ht2 : ax_tg pc off = tgt := by unfold ax_tg; rw [ht]; rfl
  have h0 : 0 ≤ (pc : Int) + off := by rw [ht]; omega
  rw [wp_n (pc' := if ax_cc .ne x y = true then tgt else pc + 3) (ls' := ls) (st' := st) (h' := h) hd (by rw [ex_if_icmp]; simp [ax_br2, h0, ht2])]
  by_cases hc : x = y <;> simp [ax_cc, hc]
theorem wp_if_lt {x : Int32} {off : Int} {tgt : Nat} (hd : decode M.2.2.1 pc = .ok (.ifCond .lt off, 3)) (ht : (pc : Int) + off = (tgt : Int)) : ax_wp ks d M pc ls (.int x :: st) h Q = (if x < 0 then ax_wp ks d M tgt ls st h Q else ax_wp ks d M (pc + 3) ls st h Q) := by
  have ht2 : ax_tg pc off = tgt := by unfold ax_tg; rw [ht]; rfl
  have h0 : 0 ≤ (pc : Int) + off := by rw [ht]; omega
  rw [wp_n (pc' := if ax_cc .lt x 0 = true then tgt else pc + 3) (ls' := ls) (st' := st) (h' := h) hd (by rw [ex_ifCond]; simp [ax_br1, h0, ht2])]
  by_cases hc : x < 0 <;> simp [ax_cc, hc]
theorem wp_ic_lt {x y : Int32} {off : Int} {tgt : Nat} (hd : decode M.2.2.1 pc = .ok (.if_icmp .lt off, 3)) (ht : (pc : Int) + off = (tgt : Int)) : ax_wp ks d M pc ls (.int y :: .int x :: st) h Q = (if x < y then ax_wp ks d M tgt ls st h Q else ax_wp ks d M (pc + 3) ls st h Q) := by
  have ht2 : ax_tg pc off = tgt := by unfold ax_tg; rw [ht]; rfl
  have h0 : 0 ≤ (pc : Int) + off := by rw [ht]; omega
  rw [wp_n (pc' := if ax_cc .lt x y = true then tgt else pc + 3) (ls' := ls) (st' := st) (h' := h) hd (by rw [ex_if_icmp]; simp [ax_br2, h0, ht2])]
  by_cases hc : x < y <;> simp [ax_cc, hc]
theorem wp_if_ge {x : Int32} {off : Int} {tgt : Nat} (hd : decode M.2.2.1 pc = .ok (.ifCond .ge off, 3)) (ht : (pc : Int) + off = (tgt : Int)) : ax_wp ks d M pc ls (.int x :: st) h Q = (if 0 ≤ x then ax_wp ks d M tgt ls st h Q else ax_wp ks d M (pc + 3) ls st h Q) := by
  have ht2 : ax_tg pc off = tgt := by unfold ax_tg; rw [ht]; rfl
  have h0 : 0 ≤ (pc : Int) + off := by rw [ht]; omega
  rw [wp_n (pc' := if ax_cc .ge x 0 = true then tgt else pc + 3) (ls' := ls) (st' := st) (h' := h) hd (by rw [ex_ifCond]; simp [ax_br1, h0, ht2])]
  by_cases hc : 0 ≤ x <;> simp [ax_cc, hc]
theorem wp_ic_ge {x y : Int32} {off : Int} {tgt : Nat} (hd : decode M.2.2.1 pc = .ok (.if_icmp .ge off, 3)) (ht : (pc : Int) + off = (tgt : Int)) : ax_wp ks d M pc ls (.int y :: .int x :: st) h Q = (if y ≤ x then ax_wp ks d M tgt ls st h Q else ax_wp ks d M (pc + 3) ls st h Q) := by
  have ht2 : ax_tg pc off = tgt := by unfold ax_tg; rw [ht]; rfl
  have h0 : 0 ≤ (pc : Int) + off := by rw [ht]; omega
  rw [wp_n (pc' := if ax_cc .ge x y = true then tgt else pc + 3) (ls' := ls) (st' := st) (h' := h) hd (by rw [ex_if_icmp]; simp [ax_br2, h0, ht2])]
  by_cases hc : y ≤ x <;> simp [ax_cc, hc]
theorem wp_if_gt {x : Int32} {off : Int} {tgt : Nat} (hd : decode M.2.2.1 pc = .ok (.ifCond .gt off, 3)) (ht : (pc : Int) + off = (tgt : Int)) : ax_wp ks d M pc ls (.int x :: st) h Q = (if 0 < x then ax_wp ks d M tgt ls st h Q else ax_wp ks d M (pc + 3) ls st h Q) := by
  have ht2 : ax_tg pc off = tgt := by unfold ax_tg; rw [ht]; rfl
  have h0 : 0 ≤ (pc : Int) + off := by rw [ht]; omega
  rw [wp_n (pc' := if ax_cc .gt x 0 = true then tgt else pc + 3) (ls' := ls) (st' := st) (h' := h) hd (by rw [ex_ifCond]; simp [ax_br1, h0, ht2])]
  by_cases hc : 0 < x <;> simp [ax_cc, hc]
theorem wp_ic_gt {x y : Int32} {off : Int} {tgt : Nat} (hd : decode M.2.2.1 pc = .ok (.if_icmp .gt off, 3)) (ht : (pc : Int) + off = (tgt : Int)) : ax_wp ks d M pc ls (.int y :: .int x :: st) h Q = (if y < x then ax_wp ks d M tgt ls st h Q else ax_wp ks d M (pc + 3) ls st h Q) := by
  have ht2 : ax_tg pc off = tgt := by unfold ax_tg; rw [ht]; rfl
  have h0 : 0 ≤ (pc : Int) + off := by rw [ht]; omega
  rw [wp_n (pc' := if ax_cc .gt x y = true then tgt else pc + 3) (ls' := ls) (st' := st) (h' := h) hd (by rw [ex_if_icmp]; simp [ax_br2, h0, ht2])]
  by_cases hc : y < x <;> simp [ax_cc, hc]
theorem wp_if_le {x : Int32} {off : Int} {tgt : Nat} (hd : decode M.2.2.1 pc = .ok (.ifCond .le off, 3)) (ht : (pc : Int) + off = (tgt : Int)) : ax_wp ks d M pc ls (.int x :: st) h Q = (if x ≤ 0 then ax_wp ks d M tgt ls st h Q else ax_wp ks d M (pc + 3) ls st h Q) := by
  have ht2 : ax_tg pc off = tgt := by unfold ax_tg; rw [ht]; rfl
  have h0 : 0 ≤ (pc : Int) + off := by rw [ht]; omega
  rw [wp_n (pc' := if ax_cc .le x 0 = true then tgt else pc + 3) (ls' := ls) (st' := st) (h' := h) hd (by rw [ex_ifCond]; simp [ax_br1, h0, ht2])]
  by_cases hc : x ≤ 0 <;> simp [ax_cc, hc]
theorem wp_ic_le {x y : Int32} {off : Int} {tgt : Nat} (hd : decode M.2.2.1 pc = .ok (.if_icmp .le off, 3)) (ht : (pc : Int) + off = (tgt : Int)) : ax_wp ks d M pc ls (.int y :: .int x :: st) h Q = (if x ≤ y then ax_wp ks d M tgt ls st h Q else ax_wp ks d M (pc + 3) ls st h Q) := by
  have ht2 : ax_tg pc off = tgt := by unfold ax_tg; rw [ht]; rfl
  have h0 : 0 ≤ (pc : Int) + off := by rw [ht]; omega
  rw [wp_n (pc' := if ax_cc .le x y = true then tgt else pc + 3) (ls' := ls) (st' := st) (h' := h) hd (by rw [ex_if_icmp]; simp [ax_br2, h0, ht2])]
  by_cases hc : x ≤ y <;> simp [ax_cc, hc]
theorem wp_goto {off : Int} {tgt : Nat} (hd : decode M.2.2.1 pc = .ok (.goto off, 3)) (ht : (pc : Int) + off = (tgt : Int)) : ax_wp ks d M pc ls st h Q = ax_wp ks d M tgt ls st h Q := by
  have ht2 : ax_tg pc off = tgt := by unfold ax_tg; rw [ht]; rfl
  have h0 : 0 ≤ (pc : Int) + off := by rw [ht]; omega
  exact wp_n hd (by rw [ex_goto]; simp [ax_jm, h0, ht2])
theorem wp_ireti {x : Int32} (hd : decode M.2.2.1 pc = .ok (.ireturn, 1)) (hr : M.2.2.2.2 = some .int) : ax_wp ks d M pc ls [.int x] h Q = Q (some (.int x)) h := wp_r hd (by rw [ex_ireturn]; simp [ax_ri, hr])
theorem wp_iretz {x : Int32} (hd : decode M.2.2.1 pc = .ok (.ireturn, 1)) (hr : M.2.2.2.2 = some .boolean) : ax_wp ks d M pc ls [.int x] h Q = ((x = 0 ∨ x = 1) ∧ Q (some (.int x)) h) := by
  by_cases hx : x = 0 ∨ x = 1
  · rw [wp_r (v := some (.int x)) hd (by rw [ex_ireturn]; simp [ax_ri, hr, hx])]; simp [hx]
  · rw [wp_0 hd (by rw [ex_ireturn]; simp [ax_ri, hr, hx])]; simp [hx]
theorem wp_lret {x : Int64} (hd : decode M.2.2.1 pc = .ok (.lreturn, 1)) (hr : M.2.2.2.2 = some .long) : ax_wp ks d M pc ls [.long x] h Q = Q (some (.long x)) h := wp_r hd (by rw [ex_lreturn]; simp [ax_rl, hr])
theorem wp_vret (hd : decode M.2.2.1 pc = .ok (.return_, 1)) (hr : M.2.2.2.2 = none) : ax_wp ks d M pc ls [] h Q = Q none h := wp_r hd (by rw [ex_return_]; simp [ax_rv, hr])
theorem wp_min {x y : Int32} (hd : decode M.2.2.1 pc = .ok (.invokestatic 153, 3)) (h1 : M.1 = 1) (hc : ax_ct st ≤ 8) : ax_wp ks d M pc ls (.int y :: .int x :: st) h Q = ax_wp ks d M (pc + 3) ls (.int (if y < x then y else x) :: st) h Q := wp_n hd (by rw [ex_invokestatic, if_pos ⟨h1, rfl⟩]; simp [ax_mi, hc])
theorem wp_lsw {dd : Int} {ps : Array (Int × Int)} {n tgt : Nat} {x : Int32} (hd : decode M.2.2.1 pc = .ok (.lookupswitch dd ps, n)) (hp : (ps.toList.zip (ps.toList.drop 1)).all (fun (a, next) => a.1 < next.1) = true) (ht : (pc : Int) + Op.lookupswitch.offset ps.toList dd x.toInt = (tgt : Int)) : ax_wp ks d M pc ls (.int x :: st) h Q = ax_wp ks d M tgt ls st h Q := by
  have ht2 : ax_tg pc (Op.lookupswitch.offset ps.toList dd x.toInt) = tgt := by unfold ax_tg; rw [ht]; rfl
  have h0 : 0 ≤ (pc : Int) + Op.lookupswitch.offset ps.toList dd x.toInt := by rw [ht]; omega
  exact wp_n hd (by rw [ex_lookupswitch]; unfold ax_lsw; simp only [hp, if_true]; simp [ax_jm, h0, ht2])
theorem wp_tswO {dd lo hi : Int} {os : Array Int} {n tgt : Nat} {x : Int32} (hd : decode M.2.2.1 pc = .ok (.tableswitch dd lo hi os, n)) (ho : x.toInt < lo ∨ hi < x.toInt) (ht : (pc : Int) + dd = (tgt : Int)) : ax_wp ks d M pc ls (.int x :: st) h Q = ax_wp ks d M tgt ls st h Q := by
  have ht2 : ax_tg pc dd = tgt := by unfold ax_tg; rw [ht]; rfl
  have h0 : 0 ≤ (pc : Int) + dd := by rw [ht]; omega
  exact wp_n hd (by rw [ex_tableswitch]; simp [ax_tsw, ho, ax_jm, h0, ht2])
theorem wp_tswI {dd lo hi off : Int} {os : Array Int} {n tgt : Nat} {x : Int32} (hd : decode M.2.2.1 pc = .ok (.tableswitch dd lo hi os, n)) (ho : ¬ (x.toInt < lo ∨ hi < x.toInt)) (hi : os[(x.toInt - lo).toNat]? = some off) (ht : (pc : Int) + off = (tgt : Int)) : ax_wp ks d M pc ls (.int x :: st) h Q = ax_wp ks d M tgt ls st h Q := by
  have ht2 : ax_tg pc off = tgt := by unfold ax_tg; rw [ht]; rfl
  have h0 : 0 ≤ (pc : Int) + off := by rw [ht]; omega
  exact wp_n hd (by rw [ex_tableswitch]; unfold ax_tsw; simp only [ho, if_false, hi]; simp [ax_jm, h0, ht2])
theorem wp_ivc {j b : Nat} {as rest : List Value} {e : ax_M × Bool × Nat × Nat × Nat × Nat × Nat × Nat} (hd : decode M.2.2.1 pc = .ok (.invokevirtual j, 3)) (hm : ax_mlk M.1 j = some e) (hs : e.2.1 = false) (hn : as.length = e.2.2.1) (hst : st = as.reverse ++ .ref b :: rest) (hf : (ax_fl (.ref b :: as)).length ≤ e.1.2.2.2.1) (hen : ax_en e.1.2.2.2.1 (.ref b :: as) = ls') : ax_wp ks (d + 1) M pc ls st h Q = ((ax_kd ks b = (0, e.1.1) ∧ ax_ct rest ≤ 8) ∧ ax_wp ks d e.1 0 ls' [] h (fun v h1 => ax_wp ks (d + 1) M (pc + 3) ls (v.toList ++ rest) h1 Q)) := by
  subst hen hst
  have e1 : (as.reverse ++ Value.ref b :: rest).drop e.2.2.1 = .ref b :: rest := by rw [← hn, ← List.length_reverse (as := as), List.drop_left]
  have e2 : (as.reverse ++ Value.ref b :: rest).take e.2.2.1 = as.reverse := by rw [← hn, ← List.length_reverse (as := as), List.take_left]
  have e3 : e.2.2.1 ≤ (as.reverse ++ Value.ref b :: rest).length := by rw [← hn]; simp
  by_cases hP : ax_kd ks b = (0, e.1.1) ∧ ax_ct rest ≤ 8
  · rw [wp_k (M' := e.1) (as := .ref b :: as) (rest := rest) hd (by rw [ex_invokevirtual]; unfold ax_iv; simp only [hm, hs, e1, e2, List.reverse_reverse]; rw [if_pos ⟨trivial, e3⟩, if_pos ⟨(kd_some (by decide)).mpr hP.1, hP.2, hf⟩])]
    simp [hP]
  · rw [wp_0 hd (by rw [ex_invokevirtual]; unfold ax_iv; simp only [hm, hs, e1, e2, List.reverse_reverse]; rw [if_pos ⟨trivial, e3⟩, if_neg (fun hh => hP ⟨(kd_some (by decide)).mp hh.1, hh.2.1⟩)])]
    simp [hP]
theorem wp_isc {j : Nat} {as rest : List Value} {e : ax_M × Bool × Nat × Nat × Nat × Nat × Nat × Nat} (hd : decode M.2.2.1 pc = .ok (.invokestatic j, 3)) (h1 : ¬ (M.1 = 1 ∧ j = 153)) (hm : ax_mlk M.1 j = some e) (hs : e.2.1 = true) (hn : as.length = e.2.2.1) (hst : st = as.reverse ++ rest) (hf : (ax_fl as).length ≤ e.1.2.2.2.1) (hen : ax_en e.1.2.2.2.1 as = ls') : ax_wp ks (d + 1) M pc ls st h Q = (ax_ct rest ≤ 8 ∧ ax_wp ks d e.1 0 ls' [] h (fun v h1 => ax_wp ks (d + 1) M (pc + 3) ls (v.toList ++ rest) h1 Q)) := by
  subst hen hst
  have e1 : (as.reverse ++ rest).drop e.2.2.1 = rest := by rw [← hn, ← List.length_reverse (as := as), List.drop_left]
  have e2 : (as.reverse ++ rest).take e.2.2.1 = as.reverse := by rw [← hn, ← List.length_reverse (as := as), List.take_left]
  have e3 : e.2.2.1 ≤ (as.reverse ++ rest).length := by rw [← hn]; simp
  by_cases hP : ax_ct rest ≤ 8
  · rw [wp_k (M' := e.1) (as := as) (rest := rest) hd (by rw [ex_invokestatic, if_neg h1]; unfold ax_is; simp only [hm, hs, e1, e2, List.reverse_reverse]; rw [if_pos ⟨trivial, e3, hP, hf⟩])]
    simp [hP]
  · rw [wp_0 hd (by rw [ex_invokestatic, if_neg h1]; unfold ax_is; simp only [hm, hs, e1, e2, List.reverse_reverse]; rw [if_neg (fun hh => hP hh.2.2.1)])]
    simp [hP]
end AXWP
