/-! the model: load -/
theorem sCs_f (u : List Nat) (n : Nat) : ∀ (m k p : Nat) (f g : Nat → Int32), (sCs u n m k p f).1 = (sCs u n m k p g).1 ∧ (sCs u n m k p f).2.1 = (sCs u n m k p g).2.1
  | 0, k, p, f, g => ⟨rfl, rfl⟩
  | m + 1, k, p, f, g => by
    rw [sCs, sCs]
    by_cases e : n < k
    · rw [if_pos e, if_pos e]; exact ⟨rfl, rfl⟩
    · rw [if_neg e, if_neg e]
      by_cases e1 : (sCo u (decide (k = n)) p).1 = false
      · rw [if_pos e1, if_pos e1]; exact ⟨rfl, rfl⟩
      · rw [if_neg e1, if_neg e1]; exact sCs_f u n m _ _ _ _
def rdB (b : List Nat) : Bool × Nat := ((rdC b (fun _ => 0)).1, (rdC b (fun _ => 0)).2.1)
theorem rdC_f (b : List Nat) (f : Nat → Int32) : (rdC b f).1 = (rdB b).1 ∧ (rdC b f).2.1 = (rdB b).2 := by
  unfold rdB rdC
  by_cases e0 : 0 < b.length ∧ bg b 0 = 197
  · simp only [if_pos e0]
    by_cases e1 : 1 < b.length ∧ bg b 1 ≤ 24
    · simp only [if_pos e1]; exact sCs_f b _ _ _ _ _ _
    · simp only [if_neg e1]; exact ⟨trivial, trivial⟩
  · simp only [if_neg e0]; exact ⟨trivial, trivial⟩
theorem rdB_ok {b : List Nat} (h : (rdB b).1 = true) : cU b ∧ (rdB b).2 = hdU b ∧ bg b 0 = 197 ∧ hdU b ≤ b.length := by
  unfold rdB rdC at h ⊢
  by_cases e0 : 0 < b.length ∧ bg b 0 = 197
  · simp only [if_pos e0] at h ⊢
    by_cases e1 : 1 < b.length ∧ bg b 1 ≤ 24
    · simp only [if_pos e1] at h ⊢
      have hk := (sCs_ok b (bg b 1) 26 1 2 _).mp h
      have he := sCs_end b (bg b 1) 26 1 2 (fun k => if k < 26 then nI 0 else 0) hk (by omega)
      have hw : wk b 26 1 2 (bg b 1 + 1) = hdU b := wk_fuel b (bg b 1 + 1) 26 (bg b 1 + 1) 1 2 (by omega) (by omega)
      refine ⟨⟨by omega, e1.2, hk⟩, by rw [he, hw], e0.2, ?_⟩
      rw [← hw]
      have key : ∀ (m k p : Nat), cOk b (bg b 1) m k p → p ≤ b.length → bg b 1 < k + m → wk b m k p (bg b 1 + 1) ≤ b.length := by
        intro m
        induction m with
        | zero => intro k p _ hp _; exact hp
        | succ m ih =>
          intro k p hc hp hm
          rw [wk]
          rw [cOk] at hc
          by_cases e : k < bg b 1 + 1
          · rw [if_pos e]
            rcases hc with q | q
            · omega
            · have := sCo_ok q.1
              have c1 := cstp_pos b p
              exact ih _ _ q.2 this.2.2 (by omega)
          · rw [if_neg e]; exact hp
      exact key 26 1 2 hk (by omega) (by omega)
    · simp only [if_neg e1] at h; cases h
  · simp only [if_neg e0] at h; cases h
/-- a unit is read: whether it is good, and where the reading ended -/
def ldU (b : List Nat) : Bool × Nat :=
  if (rdB b).1 = true then
    (if (sCk b (bg b 1) (offU b (bg b 1)) (bg b 1) 1 (hdU b)).1 = true then
      (if (tk b 120 (hdU b) (fun k => fU b k 7)).1 = true then sRs b (bg b 1) (offU b (bg b 1)) (hdU b + 1) else (false, hdU b))
     else (false, (sCk b (bg b 1) (offU b (bg b 1)) (bg b 1) 1 (hdU b)).2))
  else (false, (rdB b).2)
theorem ldU_ok {b : List Nat} (h : (ldU b).1 = true) : okU b := by
  unfold ldU at h
  by_cases e0 : (rdB b).1 = true
  · rw [if_pos e0] at h
    by_cases e1 : (sCk b (bg b 1) (offU b (bg b 1)) (bg b 1) 1 (hdU b)).1 = true
    · rw [if_pos e1] at h
      by_cases e2 : (tk b 120 (hdU b) (fun k => fU b k 7)).1 = true
      · rw [if_pos e2] at h; exact ⟨(rdB_ok e0).1, e1, e2, h⟩
      · rw [if_neg e2] at h; cases h
    · rw [if_neg e1] at h; cases h
  · rw [if_neg e0] at h; cases h
def nUs (us : List (List Nat)) (b : List Nat) : List (List Nat) :=
  if (ldU b).1 = true then (match ixOf us (ownU b) with
    | some c => us.set c b
    | none => if us.length = 12 then us else us ++ [b]) else us
def aLd (us : List (List Nat)) (b : List Nat) : Int32 :=
  if (ldU b).1 = true then (match ixOf us (ownU b) with
    | some c => nI c
    | none => if us.length = 12 then -1000 else nI us.length) else -1 - nI (ldU b).2
theorem uAt_set {us : List (List Nat)} {c j : Nat} {b : List Nat} (hc : c < us.length) : uAt (us.set c b) j = if j = c then b else uAt us j := by
  unfold uAt
  rw [List.getD_eq_getElem?_getD, List.getD_eq_getElem?_getD, List.getElem?_set]
  by_cases e : j = c
  · subst e; simp [hc]
  · rw [if_neg (fun q => e q.symm), if_neg e]
theorem uAt_app {us : List (List Nat)} {j : Nat} {b : List Nat} (hj : j < us.length + 1) : uAt (us ++ [b]) j = if j = us.length then b else uAt us j := by
  unfold uAt
  rw [List.getD_eq_getElem?_getD, List.getD_eq_getElem?_getD]
  by_cases e : j = us.length
  · subst e; simp
  · rw [if_neg e, List.getElem?_append_left (by omega)]
theorem dstU_set {us : List (List Nat)} (hd : dstU us) {c : Nat} (hc : c < us.length) {b : List Nat} (hb : ownU (uAt us c) = ownU b) : dstU (us.set c b) := by
  have key : ∀ i, ownU (uAt (us.set c b) i) = ownU (uAt us i) := fun i => by
    rw [uAt_set hc]
    by_cases e : i = c
    · rw [if_pos e, e, hb]
    · rw [if_neg e]
  intro i j hi hj he
  rw [List.length_set] at hi hj
  rw [key, key] at he
  exact hd i j hi hj he
theorem dstU_app {us : List (List Nat)} (hd : dstU us) {b : List Nat} (hb : ixOf us (ownU b) = none) : dstU (us ++ [b]) := by
  have nn : ∀ r, r < us.length → ownU (uAt us r) ≠ ownU b := fun r hr => ixF_none us (ownU b) us.length 0 r hb (by omega) (by omega)
  intro i j hi hj he
  simp only [List.length_append, List.length_cons, List.length_nil] at hi hj
  rw [uAt_app (by omega), uAt_app (by omega)] at he
  by_cases e1 : i = us.length
  · by_cases e2 : j = us.length
    · omega
    · rw [if_pos e1, if_neg e2] at he; exact absurd he.symm (nn j (by omega))
  · by_cases e2 : j = us.length
    · rw [if_neg e1, if_pos e2] at he; exact absurd he (nn i (by omega))
    · rw [if_neg e1, if_neg e2] at he; exact hd i j (by omega) (by omega) he
theorem stM.clr {h : ax_H} {b : List Nat} {us ps : List (List Nat)} {ty : List Nat} {rs : List rl4} (hs : stM h b us ps ty rs) : stM (ax_upI h 2 12 (nI 0)) [] us ps ty rs := by
  obtain ⟨s1, s2, s3, s4⟩ := hs
  refine ⟨⟨s1.1, up_at _ _ _ _, by simp, fun j hj => by simp at hj, by simp⟩, s2.keep rfl (fun r k q => ?_), s3.keep (fun r k q => ?_), s4.keep (fun r k q => ?_) (fun _ _ _ => rfl)⟩
  · rw [up_I, if_neg (by omega)]
  · rw [up_I, if_neg (by omega)]
  · rw [up_I, if_neg (by omega)]
/-- only the bytes of class c -/
def frB (c : Nat) (h h' : ax_H) : Prop := h'.2 = h.2 ∧ ∀ r k, ¬ (r = 1 ∧ 120 * c ≤ k ∧ k < 120 * c + 120) → h'.1 r k = h.1 r k
theorem frB.rf {c : Nat} {h : ax_H} : frB c h h := ⟨rfl, fun _ _ _ => rfl⟩
theorem frB.tr {c : Nat} {h h' h2 : ax_H} (a : frB c h h') (b : frB c h' h2) : frB c h h2 := ⟨b.1.trans a.1, fun r k h1 => (b.2 r k h1).trans (a.2 r k h1)⟩
section ML
variable {d : Nat} {Q : Option Value → ax_H → Prop} {b : List Nat} {us ps : List (List Nat)} {ty : List Nat} {rs : List rl4}
theorem mQ_load_l (c : Nat) (hc : c < 12) (hl : b.length ≤ 120) (hb256 : ∀ x ∈ b, x < 256) (y1 : Int32) : ∀ (q k : Nat) (h : ax_H), k + q = b.length → h.2.2 = rM → (∀ j, j < b.length → h.1 1 (1440 + j) = nI (bg b j)) → (∀ j, j < k → h.1 1 (120 * c + j) = nI (bg b j)) → (∀ h', frB c h h' → (∀ j, j < b.length → h'.1 1 (120 * c + j) = nI (bg b j)) → ax_wp kM d mQ_load 190 [some (.ref 0), some (.int y1), some (.int (nI b.length)), some (.int (nI c)), some (.int (nI b.length))] [] h' Q) → ax_wp kM d mQ_load 155 [some (.ref 0), some (.int y1), some (.int (nI b.length)), some (.int (nI c)), some (.int (nI k))] [] h Q
  | 0, k, h, hk, hr, hs, hj, hQ => by
    have e : k = b.length := by omega
    subst e
    rw [sQ_load_155]
    simp (disch := omega) only [sQ_load_157, sQ_load_158, ax_clr_i, ax_clr_l, ax_clr_r, ax_clr_n, ax_ct_0, ax_ct_i, ax_ct_l, ax_ct_r, va_rf_s, Option.toList_some, Option.toList_none, List.cons_append, List.nil_append, and_true, true_and, and_self, ite_true, ite_false, if_true, if_false, Nat.reduceAdd, Nat.reduceLeDiff, Nat.reduceMul, Nat.reduceLT, nI_add, pk_mul, nI_lt', nI_le', nI_eq', nI_lt0, nI_ge0, nI_eq0, nI_gt0, nI_le0, nI_ne_m1, m1_ne_nI, m1_lt_nI, m1_le_nI, nI_lt_m1, nI_le_m1, nI_clamp, ax_in_nI, nI_shl, nI_shr, lg_cmp0, nx_and, nI_eq1, bI_0, bI_1, bf_or, eq_self, or_true, true_or, lt_T, le_T, lt_F, le_F, eq_F, eq_T]
    exact hQ h frB.rf hj
  | q + 1, k, h, hk, hr, hs, hj, hQ => by
    have s1 := hs k (by omega)
    rw [sQ_load_155]
    simp (disch := omega) only [sQ_load_157, sQ_load_158, sQ_load_161, sQ_load_162, sQ_load_165, sQ_load_167, sQ_load_168, sQ_load_169, sQ_load_171, sQ_load_172, sQ_load_173, sQ_load_176, sQ_load_179, sQ_load_181, sQ_load_182, sQ_load_183, sQ_load_184, sQ_load_187, ax_clr_i, ax_clr_l, ax_clr_r, ax_clr_n, ax_ct_0, ax_ct_i, ax_ct_l, ax_ct_r, va_rf_s, Option.toList_some, Option.toList_none, List.cons_append, List.nil_append, and_true, true_and, and_self, ite_true, ite_false, if_true, if_false, Nat.reduceAdd, Nat.reduceLeDiff, Nat.reduceMul, Nat.reduceLT, nI_add, pk_mul, nI_lt', nI_le', nI_eq', nI_lt0, nI_ge0, nI_eq0, nI_gt0, nI_le0, nI_ne_m1, m1_ne_nI, m1_lt_nI, m1_le_nI, nI_lt_m1, nI_le_m1, nI_clamp, ax_in_nI, nI_shl, nI_shr, lg_cmp0, nx_and, nI_eq1, bI_0, bI_1, bf_or, eq_self, or_true, true_or, lt_T, le_T, lt_F, le_F, eq_F, eq_T, kdM_0, kdM_1, kdM_2, kdM_3, kdM_4, kdM_5, kdM_6, kdM_7, kdM_8, kdM_9, kdM_10, kdM_11, kdM_12, kdM_13, kdM_14, kdM_15, kdM_16, kdM_17, kdM_18, kdM_19, kdM_20, kdM_21, kdM_22, kdM_23, kdM_24, rM_0, rM_1, rM_5, rM_6, rM_7, rM_10, rM_11, rM_12, rM_13, rM_14, rM_15, rM_16, rM_18, rM_19, rM_20, rM_21, rM_23, rM_24, rM_25, rM_26, rM_28, rM_29, rM_30, rM_31, hr, s1]
    have f : frB c h (ax_upI h 1 (120 * c + k) (nI (bg b k))) := ⟨rfl, fun r j h1 => by rw [up_I, if_neg (by omega)]⟩
    refine mQ_load_l c hc hl hb256 y1 q (k + 1) _ (by omega) hr (fun j h1 => by rw [f.2 _ _ (by omega)]; exact hs j h1) (fun j h1 => ?_) (fun h' f2 o => hQ h' (f.tr f2) o)
    rw [up_I]
    by_cases e : j = k
    · subst e; rw [if_pos ⟨rfl, rfl⟩]
    · rw [if_neg (by omega)]; exact hj j (by omega)
theorem mQ_load_f {h : ax_H} (hs : stM h b us ps ty rs) (a : Nat) (ha : h.1 0 3 = nI a) (y1 : Int32) (x2 : Option Value) (hQ : ∀ h', stM h' [] us ps ty rs → Q (some (.int (-1 - nI a))) h') : ax_wp kM (d + 9) mQ_load 66 [some (.ref 0), some (.int y1), x2, none, none] [] h Q := by
  have hr := hs.1.1
  have s1 := hs.1.2.1
  simp (disch := omega) only [sQ_load_66, sQ_load_67, sQ_load_68, sQ_load_69, sQ_load_72, sQ_load_74, sQ_load_75, sQ_load_76, sQ_load_77, sQ_load_80, sQ_load_82, sQ_load_83, sQ_load_84, sQ_load_85, sQ_load_88, sQ_load_89, sQ_load_90, sQ_load_93, sQ_load_94, ax_clr_i, ax_clr_l, ax_clr_r, ax_clr_n, ax_ct_0, ax_ct_i, ax_ct_l, ax_ct_r, va_rf_s, Option.toList_some, Option.toList_none, List.cons_append, List.nil_append, and_true, true_and, and_self, ite_true, ite_false, if_true, if_false, Nat.reduceAdd, Nat.reduceLeDiff, Nat.reduceMul, Nat.reduceLT, kdM_0, kdM_1, kdM_2, kdM_3, kdM_4, kdM_5, kdM_6, kdM_7, kdM_8, kdM_9, kdM_10, kdM_11, kdM_12, kdM_13, kdM_14, kdM_15, kdM_16, kdM_17, kdM_18, kdM_19, kdM_20, kdM_21, kdM_22, kdM_23, kdM_24, rM_0, rM_1, rM_5, rM_6, rM_7, rM_10, rM_11, rM_12, rM_13, rM_14, rM_15, rM_16, rM_18, rM_19, rM_20, rM_21, rM_23, rM_24, rM_25, rM_26, rM_28, rM_29, rM_30, rM_31, lt_T, le_T, lt_F, le_F, eq_F, eq_T, hr, s1, ha, nI_clamp, ax_in_nI, nI_eq0, eq_self, up_I, up_I2, Nat.reduceEqDiff, and_false, false_and, reduceIte]
  exact hQ _ hs.clr
theorem mQ_load_ {h : ax_H} (hs : stM h b us ps ty rs) (hQ : ∀ h', stM h' [] (nUs us b) ps ty rs → Q (some (.int (aLd us b))) h') : ax_wp kM (d + 9) mQ_load 0 [some (.ref 0), none, none, none, none] [] h Q := by
  have hl := hs.1.2.2.1
  have hb256 := hs.1.2.2.2.2
  unfold nUs aLd at hQ
  simp (disch := omega) only [sQ_load_0, sQ_load_1, sQ_load_2, sQ_load_5, sQ_load_6, ax_clr_i, ax_clr_l, ax_clr_r, ax_clr_n, ax_ct_0, ax_ct_i, ax_ct_l, ax_ct_r, va_rf_s, Option.toList_some, Option.toList_none, List.cons_append, List.nil_append, and_true, true_and, and_self, ite_true, ite_false, if_true, if_false, Nat.reduceAdd, Nat.reduceLeDiff, Nat.reduceMul, Nat.reduceLT, kdM_0, kdM_1, kdM_2, kdM_3, kdM_4, kdM_5, kdM_6, kdM_7, kdM_8, kdM_9, kdM_10, kdM_11, kdM_12, kdM_13, kdM_14, kdM_15, kdM_16, kdM_17, kdM_18, kdM_19, kdM_20, kdM_21, kdM_22, kdM_23, kdM_24, rM_0, rM_1, rM_5, rM_6, rM_7, rM_10, rM_11, rM_12, rM_13, rM_14, rM_15, rM_16, rM_18, rM_19, rM_20, rM_21, rM_23, rM_24, rM_25, rM_26, rM_28, rM_29, rM_30, rM_31]
  have fa0 : frA h (ax_upI h 0 3 (nI 0)) := frA.up (by omega)
  have hs0 := hs.a fa0
  refine mQ_readConstants_ (d := d + 5) hs0.1 (up_at _ _ _ _) (fun h1 f1 p1 sh => ?_)
  obtain ⟨rf1, rf2⟩ := rdC_f b ((ax_upI h 0 3 (nI 0)).1 3)
  rw [rf2] at p1
  rw [rf1] at sh ⊢
  have hs1 := hs0.a f1.a
  by_cases e0 : (rdB b).1 = true
  · have h1e := sh e0
    obtain ⟨cu, hp, h197, hdl⟩ := rdB_ok e0
    rw [rf2, hp] at h1e
    rw [hp] at p1
    -- the table
    have hX : ∀ j, j < 26 → (rdC b ((ax_upI h 0 3 (nI 0)).1 3)).2.2 j = nI (offU b (bg b 1) j) := by
      unfold rdC
      have : 0 < b.length ∧ bg b 0 = 197 := ⟨by have := cu.1; omega, h197⟩
      rw [if_pos this, if_pos ⟨by have := cu.1; omega, cu.2.1⟩]
      exact sCs_of b (bg b 1) 26 1 2 _ (fun _ => 0) cu.2.2 (fun j hj => by rw [if_pos hj])
    generalize (rdC b ((ax_upI h 0 3 (nI 0)).1 3)).2.2 = ff at *
    generalize hh2 : ax_rw (ax_upI (ax_upI h 0 3 (nI 0)) 0 4 (nI (bg b 1))) 3 ff = h2 at *
    have f2 : frM (ax_upI h 0 3 (nI 0)) h2 := by rw [← hh2]; exact frM.cn.tr frM.row
    have hs2 := hs0.a f2.a
    have hct : cT h2 (bg b 1) (offU b (bg b 1)) := by
      refine ⟨?_, fun k hk => ?_⟩
      · rw [← hh2, rw_ne _ _ _ _ _ (by omega), up_at]
      · rw [← hh2, rw_at]; exact hX k hk
    have hcw := cu.w
    have hr2 := hs2.1.1
    rw [e0, h1e]
    simp (disch := omega) only [sQ_load_9, sQ_load_10, sQ_load_11, sQ_load_14, sQ_load_15, sQ_load_18, sQ_load_19, sQ_load_20, ax_clr_i, ax_clr_l, ax_clr_r, ax_clr_n, ax_ct_0, ax_ct_i, ax_ct_l, ax_ct_r, va_rf_s, Option.toList_some, Option.toList_none, List.cons_append, List.nil_append, and_true, true_and, and_self, ite_true, ite_false, if_true, if_false, Nat.reduceAdd, Nat.reduceLeDiff, Nat.reduceMul, Nat.reduceLT, kdM_0, kdM_1, kdM_2, kdM_3, kdM_4, kdM_5, kdM_6, kdM_7, kdM_8, kdM_9, kdM_10, kdM_11, kdM_12, kdM_13, kdM_14, kdM_15, kdM_16, kdM_17, kdM_18, kdM_19, kdM_20, kdM_21, kdM_22, kdM_23, kdM_24, rM_0, rM_1, rM_5, rM_6, rM_7, rM_10, rM_11, rM_12, rM_13, rM_14, rM_15, rM_16, rM_18, rM_19, rM_20, rM_21, rM_23, rM_24, rM_25, rM_26, rM_28, rM_29, rM_30, rM_31, bI_0, up_at, Bool.true_eq_false, mQ_checkConstants_ hs2.1 hcw hct]
    by_cases e1 : (sCk b (bg b 1) (offU b (bg b 1)) (bg b 1) 1 (hdU b)).1 = true
    · rw [e1]
      simp (disch := omega) only [sQ_load_23, sQ_load_24, sQ_load_25, sQ_load_26, sQ_load_29, sQ_load_30, sQ_load_33, sQ_load_34, sQ_load_37, sQ_load_40, sQ_load_41, sQ_load_44, sQ_load_45, sQ_load_47, sQ_load_49, ax_clr_i, ax_clr_l, ax_clr_r, ax_clr_n, ax_ct_0, ax_ct_i, ax_ct_l, ax_ct_r, va_rf_s, Option.toList_some, Option.toList_none, List.cons_append, List.nil_append, and_true, true_and, and_self, ite_true, ite_false, if_true, if_false, Nat.reduceAdd, Nat.reduceLeDiff, Nat.reduceMul, Nat.reduceLT, kdM_0, kdM_1, kdM_2, kdM_3, kdM_4, kdM_5, kdM_6, kdM_7, kdM_8, kdM_9, kdM_10, kdM_11, kdM_12, kdM_13, kdM_14, kdM_15, kdM_16, kdM_17, kdM_18, kdM_19, kdM_20, kdM_21, kdM_22, kdM_23, kdM_24, rM_0, rM_1, rM_5, rM_6, rM_7, rM_10, rM_11, rM_12, rM_13, rM_14, rM_15, rM_16, rM_18, rM_19, rM_20, rM_21, rM_23, rM_24, rM_25, rM_26, rM_28, rM_29, rM_30, rM_31, bI_0, up_at, up_II, Bool.true_eq_false, mQ_number_ hs2.1 hcw hct 7 120 (hdU b)]
      rw [show (fun k => ftN b (bg b 1) (offU b (bg b 1)) k 7) = (fun k => fU b k 7) from rfl]
      by_cases e2 : (tk b 120 (hdU b) (fun k => fU b k 7)).1 = true
      · have t2 := tk_t e2
        rw [e2, t2.2.2.2]
        simp (disch := omega) only [sQ_load_52, sQ_load_55, sQ_load_56, ax_clr_i, ax_clr_l, ax_clr_r, ax_clr_n, ax_ct_0, ax_ct_i, ax_ct_l, ax_ct_r, va_rf_s, Option.toList_some, Option.toList_none, List.cons_append, List.nil_append, and_true, true_and, and_self, ite_true, ite_false, if_true, if_false, Nat.reduceAdd, Nat.reduceLeDiff, Nat.reduceMul, Nat.reduceLT, kdM_0, kdM_1, kdM_2, kdM_3, kdM_4, kdM_5, kdM_6, kdM_7, kdM_8, kdM_9, kdM_10, kdM_11, kdM_12, kdM_13, kdM_14, kdM_15, kdM_16, kdM_17, kdM_18, kdM_19, kdM_20, kdM_21, kdM_22, kdM_23, kdM_24, rM_0, rM_1, rM_5, rM_6, rM_7, rM_10, rM_11, rM_12, rM_13, rM_14, rM_15, rM_16, rM_18, rM_19, rM_20, rM_21, rM_23, rM_24, rM_25, rM_26, rM_28, rM_29, rM_30, rM_31, bI_0, Bool.true_eq_false, mQ_rest_ hs2.1 hcw hct (hdU b + 1)]
        by_cases e3 : (sRs b (bg b 1) (offU b (bg b 1)) (hdU b + 1)).1 = true
        · have e9 : (ldU b).1 = true := by unfold ldU; rw [if_pos e0, if_pos e1, if_pos e2]; exact e3
          have hk := ldU_ok e9
          rw [if_pos e9, if_pos e9] at hQ
          rw [e3]
          generalize (sRs b (bg b 1) (offU b (bg b 1)) (hdU b + 1)).2 = at5
          generalize hh5 : ax_upI h2 0 3 (nI at5) = h5
          have hs5 : stM h5 b us ps ty rs := by rw [← hh5]; exact hs2.a (frA.up (by omega))
          have hr5 := hs5.1.1
          have s5 := hs5.1.2.1
          have hc5 := hs5.2.1
          have h12 := hc5.2.2.1
          have c5 := hc5.2.1
          have us5 : ax_upI h5 2 12 (nI b.length) = h5 := up_self s5
          have hu12 : untM h5 12 b := ⟨hr5, hl, fun j hj => hs5.1.2.2.2.1 j hj, hb256⟩
          have hvo := (nm_vT hk hk.rest.1).1
          simp (disch := omega) only [sQ_load_59, sQ_load_62, sQ_load_63, sQ_load_66, sQ_load_67, sQ_load_68, sQ_load_69, sQ_load_72, sQ_load_74, sQ_load_75, sQ_load_76, sQ_load_77, sQ_load_80, sQ_load_82, sQ_load_83, sQ_load_84, sQ_load_85, sQ_load_88, sQ_load_89, sQ_load_90, sQ_load_93, sQ_load_94, sQ_load_95, sQ_load_96, sQ_load_99, sQ_load_101, sQ_load_102, sQ_load_103, sQ_load_104, sQ_load_105, sQ_load_107, sQ_load_110, ax_clr_i, ax_clr_l, ax_clr_r, ax_clr_n, ax_ct_0, ax_ct_i, ax_ct_l, ax_ct_r, va_rf_s, Option.toList_some, Option.toList_none, List.cons_append, List.nil_append, and_true, true_and, and_self, ite_true, ite_false, if_true, if_false, Nat.reduceAdd, Nat.reduceLeDiff, Nat.reduceMul, Nat.reduceLT, kdM_0, kdM_1, kdM_2, kdM_3, kdM_4, kdM_5, kdM_6, kdM_7, kdM_8, kdM_9, kdM_10, kdM_11, kdM_12, kdM_13, kdM_14, kdM_15, kdM_16, kdM_17, kdM_18, kdM_19, kdM_20, kdM_21, kdM_22, kdM_23, kdM_24, rM_0, rM_1, rM_5, rM_6, rM_7, rM_10, rM_11, rM_12, rM_13, rM_14, rM_15, rM_16, rM_18, rM_19, rM_20, rM_21, rM_23, rM_24, rM_25, rM_26, rM_28, rM_29, rM_30, rM_31, lt_T, le_T, lt_F, le_F, eq_F, eq_T, bI_0, nI_eq0, Bool.true_eq_false, hr5, s5, nI_clamp, ax_in_nI, up_I2, up_II, us5, Nat.reduceEqDiff, mQ_ownName_ hu12 (show 12 ≤ 12 by omega) hk, mQ_indexOf_ hc5 (ownU b) hvo]
          have hs6 := hs5.clr
          have hr6 := hs6.1.1
          have c6 := hs6.2.1.2.1
          -- the copy, and what is left
          have fin : ∀ (c : Nat), c < 12 → c ≤ us.length → (∀ h', stM h' [] (if c = us.length then us ++ [b] else us.set c b) ps ty rs → Q (some (.int (nI c))) h') → dstU (if c = us.length then us ++ [b] else us.set c b) → ∀ y1, ax_wp kM (d + 9) mQ_load 152 [some (.ref 0), some (.int y1), some (.int (nI b.length)), some (.int (nI c)), none] [] (ax_upI h5 2 12 (nI 0)) Q := fun c hc12 hcu hq hds y1 => by
            simp (disch := omega) only [sQ_load_152, sQ_load_153, ax_clr_i, ax_clr_l, ax_clr_r, ax_clr_n, ax_ct_0, ax_ct_i, ax_ct_l, ax_ct_r, va_rf_s, Option.toList_some, Option.toList_none, List.cons_append, List.nil_append, and_true, true_and, and_self, ite_true, ite_false, if_true, if_false, Nat.reduceAdd, Nat.reduceLeDiff, Nat.reduceMul, Nat.reduceLT]
            refine mQ_load_l c hc12 hl hb256 y1 b.length 0 _ (by omega) hr6 (fun j hj => by rw [up_I, if_neg (by omega)]; exact hs5.1.2.2.2.1 j hj) (fun j hj => by omega) (fun h7 f7 o7 => ?_)
            have hr7 : h7.2.2 = rM := by rw [f7.1]; exact hr6
            have c7 : h7.1 0 2 = nI us.length := by rw [f7.2 _ _ (by omega)]; exact c6
            simp (disch := omega) only [sQ_load_190, sQ_load_191, sQ_load_194, sQ_load_195, sQ_load_196, sQ_load_197, sQ_load_198, sQ_load_199, sQ_load_200, sQ_load_203, ax_clr_i, ax_clr_l, ax_clr_r, ax_clr_n, ax_ct_0, ax_ct_i, ax_ct_l, ax_ct_r, va_rf_s, Option.toList_some, Option.toList_none, List.cons_append, List.nil_append, and_true, true_and, and_self, ite_true, ite_false, if_true, if_false, Nat.reduceAdd, Nat.reduceLeDiff, Nat.reduceMul, Nat.reduceLT, kdM_0, kdM_1, kdM_2, kdM_3, kdM_4, kdM_5, kdM_6, kdM_7, kdM_8, kdM_9, kdM_10, kdM_11, kdM_12, kdM_13, kdM_14, kdM_15, kdM_16, kdM_17, kdM_18, kdM_19, kdM_20, kdM_21, kdM_22, kdM_23, kdM_24, rM_0, rM_1, rM_5, rM_6, rM_7, rM_10, rM_11, rM_12, rM_13, rM_14, rM_15, rM_16, rM_18, rM_19, rM_20, rM_21, rM_23, rM_24, rM_25, rM_26, rM_28, rM_29, rM_30, rM_31, lt_T, le_T, lt_F, le_F, eq_F, eq_T, hr7, c7, nI_clamp, ax_in_nI, nI_eq', up_I, up_I2, Nat.reduceEqDiff, and_false, false_and, reduceIte]
            have lo : ∀ (y : Int32) r k, ¬ (r = 1 ∧ 120 * c ≤ k ∧ k < 120 * c + 120) → ¬ (r = 2 ∧ k = c) → ¬ (r = 0 ∧ k = 2) → (ax_upI (ax_upI h7 2 c (nI b.length)) 0 2 y).1 r k = (ax_upI h5 2 12 (nI 0)).1 r k := fun y r k q1 q2 q3 => by rw [up_I, if_neg q3, up_I, if_neg q2, f7.2 _ _ q1]
            have fin2 : ∀ (n : Nat), n = (if c = us.length then us ++ [b] else us.set c b).length → stM (ax_upI (ax_upI h7 2 c (nI b.length)) 0 2 (nI n)) [] (if c = us.length then us ++ [b] else us.set c b) ps ty rs := fun n hn => by
              refine ⟨⟨hr7, ?_, by simp, fun j hj => by simp at hj, by simp⟩, ⟨hr7, by rw [up_at, hn], ?_, hds, fun j hj => ?_⟩, hs6.2.2.1.keep (fun r k q => lo _ r k (by omega) (by omega) (by omega)), hs6.2.2.2.keep (fun r k q => lo _ r k (by omega) (by omega) (by omega)) (fun r k q => by rw [up_I2, up_I2, f7.1])⟩
              · rw [lo _ _ _ (by omega) (by omega) (by omega), up_at]; rfl
              · by_cases e : c = us.length
                · rw [if_pos e]; simp; omega
                · rw [if_neg e, List.length_set]; omega
              · have hjl : j < us.length + 1 := by
                  by_cases e : c = us.length
                  · rw [if_pos e] at hj; simpa using hj
                  · rw [if_neg e, List.length_set] at hj; omega
                have hat : uAt (if c = us.length then us ++ [b] else us.set c b) j = if j = c then b else uAt us j := by
                  by_cases e : c = us.length
                  · rw [if_pos e, uAt_app hjl, e]
                  · rw [if_neg e, uAt_set (by omega)]
                rw [hat]
                by_cases e : j = c
                · rw [if_pos e]
                  subst e
                  exact ⟨⟨hr7, hl, fun i hi => by rw [up_I, if_neg (by omega), up_I, if_neg (by omega)]; exact o7 i hi, hb256⟩, hk⟩
                · rw [if_neg e]
                  have hj2 : j < us.length := by
                    by_cases e4 : c = us.length
                    · omega
                    · rw [if_neg e4, List.length_set] at hj; exact hj
                  obtain ⟨⟨q1, q2, q3, q4⟩, q5⟩ := hc5.2.2.2.2 j hj2
                  exact ⟨⟨hr7, q2, fun i hi => by rw [lo _ _ _ (by omega) (by omega) (by omega), up_I, if_neg (by omega)]; exact q3 i hi, q4⟩, q5⟩
            by_cases e : c = us.length
            · rw [if_pos e]
              simp (disch := omega) only [sQ_load_206, sQ_load_207, sQ_load_210, sQ_load_211, sQ_load_212, sQ_load_215, sQ_load_216, sQ_load_219, sQ_load_222, sQ_load_223, ax_clr_i, ax_clr_l, ax_clr_r, ax_clr_n, ax_ct_0, ax_ct_i, ax_ct_l, ax_ct_r, va_rf_s, Option.toList_some, Option.toList_none, List.cons_append, List.nil_append, and_true, true_and, and_self, ite_true, ite_false, if_true, if_false, Nat.reduceAdd, Nat.reduceLeDiff, Nat.reduceMul, Nat.reduceLT, kdM_0, kdM_1, kdM_2, kdM_3, kdM_4, kdM_5, kdM_6, kdM_7, kdM_8, kdM_9, kdM_10, kdM_11, kdM_12, kdM_13, kdM_14, kdM_15, kdM_16, kdM_17, kdM_18, kdM_19, kdM_20, kdM_21, kdM_22, kdM_23, kdM_24, rM_0, rM_1, rM_5, rM_6, rM_7, rM_10, rM_11, rM_12, rM_13, rM_14, rM_15, rM_16, rM_18, rM_19, rM_20, rM_21, rM_23, rM_24, rM_25, rM_26, rM_28, rM_29, rM_30, rM_31, c7, nI_add, up_I, Nat.reduceEqDiff, and_false, false_and, reduceIte]
              exact hq _ (fin2 _ (by rw [if_pos e]; simp))
            · rw [if_neg e]
              simp (disch := omega) only [sQ_load_206, sQ_load_207, sQ_load_210, sQ_load_211, sQ_load_212, sQ_load_215, sQ_load_216, sQ_load_219, sQ_load_222, sQ_load_223, ax_clr_i, ax_clr_l, ax_clr_r, ax_clr_n, ax_ct_0, ax_ct_i, ax_ct_l, ax_ct_r, va_rf_s, Option.toList_some, Option.toList_none, List.cons_append, List.nil_append, and_true, true_and, and_self, ite_true, ite_false, if_true, if_false, Nat.reduceAdd, Nat.reduceLeDiff, Nat.reduceMul, Nat.reduceLT, kdM_0, kdM_1, kdM_2, kdM_3, kdM_4, kdM_5, kdM_6, kdM_7, kdM_8, kdM_9, kdM_10, kdM_11, kdM_12, kdM_13, kdM_14, kdM_15, kdM_16, kdM_17, kdM_18, kdM_19, kdM_20, kdM_21, kdM_22, kdM_23, kdM_24, rM_0, rM_1, rM_5, rM_6, rM_7, rM_10, rM_11, rM_12, rM_13, rM_14, rM_15, rM_16, rM_18, rM_19, rM_20, rM_21, rM_23, rM_24, rM_25, rM_26, rM_28, rM_29, rM_30, rM_31, c7, nI_add, up_I, Nat.reduceEqDiff, and_false, false_and, reduceIte]
              exact hq _ (fin2 _ (by rw [if_neg e, List.length_set]))
          cases hx : ixOf us (ownU b) with
          | some c =>
            rw [hx] at hQ
            dsimp only at hQ
            obtain ⟨x1, x2⟩ := ixOf_some hx
            rw [oI_s]
            simp (disch := omega) only [sQ_load_113, sQ_load_114, sQ_load_115, sQ_load_118, sQ_load_120, sQ_load_121, sQ_load_122, sQ_load_123, sQ_load_126, sQ_load_127, sQ_load_130, sQ_load_132, sQ_load_135, sQ_load_138, sQ_load_139, sQ_load_140, sQ_load_143, sQ_load_144, sQ_load_147, sQ_load_150, sQ_load_151, ax_clr_i, ax_clr_l, ax_clr_r, ax_clr_n, ax_ct_0, ax_ct_i, ax_ct_l, ax_ct_r, va_rf_s, Option.toList_some, Option.toList_none, List.cons_append, List.nil_append, and_true, true_and, and_self, ite_true, ite_false, if_true, if_false, Nat.reduceAdd, Nat.reduceLeDiff, Nat.reduceMul, Nat.reduceLT, kdM_0, kdM_1, kdM_2, kdM_3, kdM_4, kdM_5, kdM_6, kdM_7, kdM_8, kdM_9, kdM_10, kdM_11, kdM_12, kdM_13, kdM_14, kdM_15, kdM_16, kdM_17, kdM_18, kdM_19, kdM_20, kdM_21, kdM_22, kdM_23, kdM_24, rM_0, rM_1, rM_5, rM_6, rM_7, rM_10, rM_11, rM_12, rM_13, rM_14, rM_15, rM_16, rM_18, rM_19, rM_20, rM_21, rM_23, rM_24, rM_25, rM_26, rM_28, rM_29, rM_30, rM_31, lt_T, le_T, lt_F, le_F, eq_F, eq_T, hr5, nI_clamp, ax_in_nI, nI_ge0, up_I2]
            refine fin c (by omega) (by omega) ?_ ?_ _
            · rw [if_neg (by omega)]; exact hQ
            · rw [if_neg (by omega)]; exact dstU_set hc5.2.2.2.1 x1 x2
          | none =>
            rw [hx] at hQ
            dsimp only at hQ
            rw [oI_n]
            simp (disch := omega) only [sQ_load_113, sQ_load_114, sQ_load_115, sQ_load_118, sQ_load_120, sQ_load_121, sQ_load_122, sQ_load_123, sQ_load_126, sQ_load_127, sQ_load_130, sQ_load_132, ax_clr_i, ax_clr_l, ax_clr_r, ax_clr_n, ax_ct_0, ax_ct_i, ax_ct_l, ax_ct_r, va_rf_s, Option.toList_some, Option.toList_none, List.cons_append, List.nil_append, and_true, true_and, and_self, ite_true, ite_false, if_true, if_false, Nat.reduceAdd, Nat.reduceLeDiff, Nat.reduceMul, Nat.reduceLT, kdM_0, kdM_1, kdM_2, kdM_3, kdM_4, kdM_5, kdM_6, kdM_7, kdM_8, kdM_9, kdM_10, kdM_11, kdM_12, kdM_13, kdM_14, kdM_15, kdM_16, kdM_17, kdM_18, kdM_19, kdM_20, kdM_21, kdM_22, kdM_23, kdM_24, rM_0, rM_1, rM_5, rM_6, rM_7, rM_10, rM_11, rM_12, rM_13, rM_14, rM_15, rM_16, rM_18, rM_19, rM_20, rM_21, rM_23, rM_24, rM_25, rM_26, rM_28, rM_29, rM_30, rM_31, lt_T, le_T, lt_F, le_F, eq_F, eq_T, hr5, c6, nI_clamp, ax_in_nI, nI_eq', up_I2]
            rw [if_neg (by decide)]
            by_cases e6 : us.length = 12
            · rw [if_pos e6] at hQ ⊢
              rw [if_pos e6] at hQ
              simp (disch := omega) only [sQ_load_135, sQ_load_138, ax_clr_i, ax_clr_l, ax_clr_r, ax_clr_n, ax_ct_0, ax_ct_i, ax_ct_l, ax_ct_r, va_rf_s, Option.toList_some, Option.toList_none, List.cons_append, List.nil_append, and_true, true_and, and_self, ite_true, ite_false, if_true, if_false, Nat.reduceAdd, Nat.reduceLeDiff, Nat.reduceMul, Nat.reduceLT]
              exact hQ _ hs6
            · rw [if_neg e6] at hQ ⊢
              rw [if_neg e6] at hQ
              simp (disch := omega) only [sQ_load_139, sQ_load_140, sQ_load_143, sQ_load_144, sQ_load_147, sQ_load_150, sQ_load_151, ax_clr_i, ax_clr_l, ax_clr_r, ax_clr_n, ax_ct_0, ax_ct_i, ax_ct_l, ax_ct_r, va_rf_s, Option.toList_some, Option.toList_none, List.cons_append, List.nil_append, and_true, true_and, and_self, ite_true, ite_false, if_true, if_false, Nat.reduceAdd, Nat.reduceLeDiff, Nat.reduceMul, Nat.reduceLT, kdM_0, kdM_1, kdM_2, kdM_3, kdM_4, kdM_5, kdM_6, kdM_7, kdM_8, kdM_9, kdM_10, kdM_11, kdM_12, kdM_13, kdM_14, kdM_15, kdM_16, kdM_17, kdM_18, kdM_19, kdM_20, kdM_21, kdM_22, kdM_23, kdM_24, rM_0, rM_1, rM_5, rM_6, rM_7, rM_10, rM_11, rM_12, rM_13, rM_14, rM_15, rM_16, rM_18, rM_19, rM_20, rM_21, rM_23, rM_24, rM_25, rM_26, rM_28, rM_29, rM_30, rM_31, c6]
              rw [if_neg (by decide)]
              refine fin us.length (by omega) (by omega) ?_ ?_ _
              · rw [if_pos rfl]; exact hQ
              · rw [if_pos rfl]; exact dstU_app hc5.2.2.2.1 hx
        · have e9 : ldU b = (false, (sRs b (bg b 1) (offU b (bg b 1)) (hdU b + 1)).2) := by
            unfold ldU; rw [if_pos e0, if_pos e1, if_pos e2]; exact Prod.ext (bI_c e3) rfl
          rw [e9] at hQ
          rw [bI_c e3]
          simp (disch := omega) only [sQ_load_59, ax_clr_i, ax_clr_l, ax_clr_r, ax_clr_n, ax_ct_0, ax_ct_i, ax_ct_l, ax_ct_r, va_rf_s, Option.toList_some, Option.toList_none, List.cons_append, List.nil_append, and_true, true_and, and_self, ite_true, ite_false, if_true, if_false, Nat.reduceAdd, Nat.reduceLeDiff, Nat.reduceMul, Nat.reduceLT, bI_0]
          exact mQ_load_f (hs2.a (frA.up (by omega))) _ (up_at _ _ _ _) _ _ hQ
      · have e9 : ldU b = (false, hdU b) := by unfold ldU; rw [if_pos e0, if_pos e1, if_neg e2]
        rw [e9] at hQ
        rw [bI_c e2, tk_f e2]
        simp (disch := omega) only [sQ_load_52, ax_clr_i, ax_clr_l, ax_clr_r, ax_clr_n, ax_ct_0, ax_ct_i, ax_ct_l, ax_ct_r, va_rf_s, Option.toList_some, Option.toList_none, List.cons_append, List.nil_append, and_true, true_and, and_self, ite_true, ite_false, if_true, if_false, Nat.reduceAdd, Nat.reduceLeDiff, Nat.reduceMul, Nat.reduceLT, bI_0]
        exact mQ_load_f (hs2.a (frA.up (by omega))) _ (up_at _ _ _ _) _ _ hQ
    · have e9 : ldU b = (false, (sCk b (bg b 1) (offU b (bg b 1)) (bg b 1) 1 (hdU b)).2) := by unfold ldU; rw [if_pos e0, if_neg e1]
      rw [e9] at hQ
      rw [bI_c e1]
      simp (disch := omega) only [sQ_load_23, sQ_load_24, sQ_load_25, sQ_load_26, sQ_load_29, sQ_load_30, sQ_load_33, sQ_load_34, sQ_load_37, sQ_load_40, sQ_load_41, ax_clr_i, ax_clr_l, ax_clr_r, ax_clr_n, ax_ct_0, ax_ct_i, ax_ct_l, ax_ct_r, va_rf_s, Option.toList_some, Option.toList_none, List.cons_append, List.nil_append, and_true, true_and, and_self, ite_true, ite_false, if_true, if_false, Nat.reduceAdd, Nat.reduceLeDiff, Nat.reduceMul, Nat.reduceLT, kdM_0, kdM_1, kdM_2, kdM_3, kdM_4, kdM_5, kdM_6, kdM_7, kdM_8, kdM_9, kdM_10, kdM_11, kdM_12, kdM_13, kdM_14, kdM_15, kdM_16, kdM_17, kdM_18, kdM_19, kdM_20, kdM_21, kdM_22, kdM_23, kdM_24, rM_0, rM_1, rM_5, rM_6, rM_7, rM_10, rM_11, rM_12, rM_13, rM_14, rM_15, rM_16, rM_18, rM_19, rM_20, rM_21, rM_23, rM_24, rM_25, rM_26, rM_28, rM_29, rM_30, rM_31, bI_0, up_at, up_II]
      exact mQ_load_f (hs2.a (frA.up (by omega))) _ (up_at _ _ _ _) _ _ hQ
  · have e9 : ldU b = (false, (rdB b).2) := by unfold ldU; rw [if_neg e0]
    rw [e9] at hQ
    rw [bI_c e0]
    simp (disch := omega) only [sQ_load_9, sQ_load_10, sQ_load_11, sQ_load_40, sQ_load_41, ax_clr_i, ax_clr_l, ax_clr_r, ax_clr_n, ax_ct_0, ax_ct_i, ax_ct_l, ax_ct_r, va_rf_s, Option.toList_some, Option.toList_none, List.cons_append, List.nil_append, and_true, true_and, and_self, ite_true, ite_false, if_true, if_false, Nat.reduceAdd, Nat.reduceLeDiff, Nat.reduceMul, Nat.reduceLT, bI_0]
    exact mQ_load_f hs1 _ p1 _ _ hQ
end ML
