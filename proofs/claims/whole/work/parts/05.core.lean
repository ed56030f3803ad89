/-! A plain machine over pictures: cells are numbered by their role, their contents are three functions (ints, longs, references) of role and place. -/
abbrev ax_H : Type := (Nat → Nat → Int32) × (Nat → Nat → Int64) × (Nat → Nat → Option Nat)
abbrev ax_L : Type := List (Option Value)
/-- the kinds of the roles: (0, class), (1, n) ints, (2, n) longs, (3, n) booleans, (4, n) units, (5, n) rules -/
abbrev ax_K : Type := List (Nat × Nat)
def ax_cv (q : Nat → Nat) (v : Value) : Value := match v with
  | .ref a => .ref (q a)
  | w => w
def ax_fv (h : ax_H) (ty : FieldType) (r k : Nat) : Value := match ty with
  | .long => .long (h.2.1 r k)
  | .object _ => va_rf (h.2.2 r k)
  | .array _ => va_rf (h.2.2 r k)
  | _ => .int (h.1 r k)
def ax_upI (h : ax_H) (r k : Nat) (x : Int32) : ax_H := (fun a b => if a = r ∧ b = k then x else h.1 a b, h.2.1, h.2.2)
def ax_upL (h : ax_H) (r k : Nat) (x : Int64) : ax_H := (h.1, fun a b => if a = r ∧ b = k then x else h.2.1 a b, h.2.2)
def ax_upR (h : ax_H) (r k : Nat) (x : Option Nat) : ax_H := (h.1, h.2.1, fun a b => if a = r ∧ b = k then x else h.2.2 a b)
def ax_fs (q : Nat → Nat) (h : ax_H) (ci r : Nat) : List Value := (List.range (ax_N ci)).map (fun k => ax_cv q (ax_fv h (ax_ty ci k) r k))
def ax_ce (q : Nat → Nat) (cA : Nat → ClassId) (h : ax_H) (r : Nat) (kd : Nat × Nat) : va_E := match kd.1 with
  | 0 => .inr (kd.2, ax_fs q h kd.2 r)
  | 1 => .inl (cA 1, kd.2, .inl (h.1 r))
  | 2 => .inl (cA 2, kd.2, .inr (.inl (h.2.1 r)))
  | 3 => .inl (cA 3, kd.2, .inl (h.1 r))
  | t + 4 => .inl (cA (t + 4), kd.2, .inr (.inr (.inr (.inr (fun j => (h.2.2 r j).map q)))))
def ax_ws (ks : ax_K) (q : Nat → Nat) (cA : Nat → ClassId) (h : ax_H) : va_W := ks.mapIdx (fun r kd => (q r, ax_ce q cA h r kd))
def ax_tys (cA : Nat → ClassId) : List (ClassId × FieldType) := [(cA 1, .int), (cA 2, .long), (cA 3, .boolean), (cA 4, .object "PackageRules$Unit"), (cA 5, .object "PackageRules$Rule")]
def ax_A (ks : ax_K) (q : Nat → Nat) : Nat → Prop := fun a => ∃ r, r < ks.length ∧ a = q r
def ax_tb : List Jvm.Cond := lw_tbl.filter goodWord
def ax_Ns (U : State) : Prop := ∀ (a : String) (i : Nat) (b n d g : String), Jvm.Cond.fieldLinkNest a i b n d g ∈ lw_tbl → va_Nw (.fieldLinkNest a i b n d g) U
def ax_W (ks : ax_K) (D : va_G) (cA : Nat → ClassId) (q : Nat → Nat) (h : ax_H) (U : State) : Prop :=
  va_P D ax_cl (ax_ws ks q cA h) U.heap ∧ va_K D ax_cl (ax_tys cA) U ∧ va_D (ax_A ks q) (ax_ws ks q cA h) ∧ ax_Ns U
theorem ax_Ns.warm {s U : State} (hW : s.WarmedH U.vm) (h : ax_Ns s) : ax_Ns U := fun a i b n d g hm => va_Nw.warmF hW (h a i b n d g hm)
theorem ax_Ns.same {s U : State} (hW : s.vm = U.vm) (h : ax_Ns s) : ax_Ns U := fun a i b n d g hm => va_Nw.same rfl hW (h a i b n d g hm)
theorem ax_cat (q : Nat → Nat) (v : Value) : (ax_cv q v).category = v.category := by cases v <;> rfl
theorem ax_cats (q : Nat → Nat) (st : List Value) : ((st.map (ax_cv q)).map fun v => v.category).sum = (st.map fun v => v.category).sum := by
  induction st with
  | nil => rfl
  | cons a l ih => simp only [List.map_cons, List.sum_cons, ih, ax_cat]
theorem ax_rf (q : Nat → Nat) (o : Option Nat) : ax_cv q (va_rf o) = va_rf (o.map q) := by cases o <;> rfl
theorem ax_upI_1 (h : ax_H) (r k : Nat) (x : Int32) (a b : Nat) : (ax_upI h r k x).1 a b = if a = r ∧ b = k then x else h.1 a b := rfl
theorem ax_upL_2 (h : ax_H) (r k : Nat) (x : Int64) (a b : Nat) : (ax_upL h r k x).2.1 a b = if a = r ∧ b = k then x else h.2.1 a b := rfl
theorem ax_upR_3 (h : ax_H) (r k : Nat) (x : Option Nat) (a b : Nat) : (ax_upR h r k x).2.2 a b = if a = r ∧ b = k then x else h.2.2 a b := rfl
/-! the world's cells -/
theorem ax_ws_at {ks : ax_K} {q : Nat → Nat} {cA : Nat → ClassId} {h : ax_H} {r : Nat} {kd : Nat × Nat} (hk : ks[r]? = some kd) : (ax_ws ks q cA h)[r]? = some (q r, ax_ce q cA h r kd) := by
  simp [ax_ws, hk]
theorem ax_ws_set {ks : ax_K} {q : Nat → Nat} {cA : Nat → ClassId} {h h' : ax_H} {r : Nat} {kd : Nat × Nat} {ce : va_E} (hk : ks[r]? = some kd) (hc : ce = ax_ce q cA h' r kd) (ho : ∀ a kd', a ≠ r → ax_ce q cA h a kd' = ax_ce q cA h' a kd') :
    (ax_ws ks q cA h).set r (q r, ce) = ax_ws ks q cA h' := by
  have hlt : r < ks.length := (List.getElem?_eq_some_iff.mp hk).1
  apply List.ext_getElem?
  intro i
  by_cases hi : i = r
  · subst hi
    rw [List.getElem?_set_self (by simp [ax_ws]; exact hlt), ax_ws_at hk, hc]
  · rw [List.getElem?_set_ne (Ne.symm hi)]
    simp only [ax_ws, List.getElem?_mapIdx]
    cases hks : ks[i]? with
    | none => rfl
    | some kd' => simp [ho i kd' hi]
theorem ax_ce_I {q : Nat → Nat} {cA : Nat → ClassId} {h : ax_H} {r k : Nat} {x : Int32} (a : Nat) (kd : Nat × Nat) (ha : a ≠ r) : ax_ce q cA h a kd = ax_ce q cA (ax_upI h r k x) a kd := by
  have e1 : (ax_upI h r k x).1 a = h.1 a := by funext b; simp [ax_upI, ha]
  have e2 : (ax_upI h r k x).2 = h.2 := rfl
  unfold ax_ce
  split
  · have : ax_fs q h kd.2 a = ax_fs q (ax_upI h r k x) kd.2 a := by
      unfold ax_fs ax_fv
      rw [e1, e2]
    rw [this]
  · rw [e1]
  · rw [e2]
  · rw [e1]
  · rw [e2]
theorem ax_ce_L {q : Nat → Nat} {cA : Nat → ClassId} {h : ax_H} {r k : Nat} {x : Int64} (a : Nat) (kd : Nat × Nat) (ha : a ≠ r) : ax_ce q cA h a kd = ax_ce q cA (ax_upL h r k x) a kd := by
  have e1 : (ax_upL h r k x).2.1 a = h.2.1 a := by funext b; simp [ax_upL, ha]
  have e2 : (ax_upL h r k x).1 = h.1 := rfl
  have e3 : (ax_upL h r k x).2.2 = h.2.2 := rfl
  unfold ax_ce
  split
  · have : ax_fs q h kd.2 a = ax_fs q (ax_upL h r k x) kd.2 a := by
      unfold ax_fs ax_fv
      rw [e1, e2, e3]
    rw [this]
  · rw [e2]
  · rw [e1]
  · rw [e2]
  · rw [e3]
theorem ax_ce_R {q : Nat → Nat} {cA : Nat → ClassId} {h : ax_H} {r k : Nat} {x : Option Nat} (a : Nat) (kd : Nat × Nat) (ha : a ≠ r) : ax_ce q cA h a kd = ax_ce q cA (ax_upR h r k x) a kd := by
  have e1 : (ax_upR h r k x).2.2 a = h.2.2 a := by funext b; simp [ax_upR, ha]
  have e2 : (ax_upR h r k x).1 = h.1 := rfl
  have e3 : (ax_upR h r k x).2.1 = h.2.1 := rfl
  unfold ax_ce
  split
  · have : ax_fs q h kd.2 a = ax_fs q (ax_upR h r k x) kd.2 a := by
      unfold ax_fs ax_fv
      rw [e1, e2, e3]
    rw [this]
  · rw [e2]
  · rw [e3]
  · rw [e2]
  · rw [e1]
theorem ax_fs_at {q : Nat → Nat} {h : ax_H} {ci r k : Nat} (hk : k < ax_N ci) : (ax_fs q h ci r)[k]? = some (ax_cv q (ax_fv h (ax_ty ci k) r k)) := by
  simp [ax_fs, hk]
theorem ax_fs_len {q : Nat → Nat} {h : ax_H} {ci r : Nat} : (ax_fs q h ci r).length = ax_N ci := by simp [ax_fs]
theorem ax_fs_set {q : Nat → Nat} {h h' : ax_H} {ci r k : Nat} {v : Value} (hk : k < ax_N ci) (hv : v = ax_cv q (ax_fv h' (ax_ty ci k) r k)) (ho : ∀ j, j ≠ k → ax_fv h (ax_ty ci j) r j = ax_fv h' (ax_ty ci j) r j) : (ax_fs q h ci r).set k v = ax_fs q h' ci r := by
  apply List.ext_getElem?
  intro i
  by_cases hi : i = k
  · subst hi
    rw [List.getElem?_set_self (by rw [ax_fs_len]; exact hk), ax_fs_at hk, hv]
  · rw [List.getElem?_set_ne (Ne.symm hi)]
    by_cases hl : i < ax_N ci
    · rw [ax_fs_at hl, ax_fs_at hl, ho i hi]
    · rw [List.getElem?_eq_none (by rw [ax_fs_len]; omega), List.getElem?_eq_none (by rw [ax_fs_len]; omega)]
/-! the locals -/
def ax_clr (x : Option Value) : Option Value := match x with
  | some (.long _) => none
  | some (.double _) => none
  | y => y
def ax_s1 : ax_L → Nat → Value → ax_L
  | [], _, _ => []
  | _ :: l, 0, v => some v :: l
  | [a], _ + 1, _ => [a]
  | a :: _ :: l, 1, v => ax_clr a :: some v :: l
  | a :: b :: l, i + 2, v => a :: ax_s1 (b :: l) (i + 1) v
def ax_s2 : ax_L → Nat → Value → ax_L
  | [], _, _ => []
  | [a], _, _ => [a]
  | _ :: _ :: l, 0, v => some v :: none :: l
  | [a, b], _ + 1, _ => [a, b]
  | a :: _ :: _ :: l, 1, v => ax_clr a :: some v :: none :: l
  | a :: b :: c :: l, i + 2, v => a :: ax_s2 (b :: c :: l) (i + 1) v
theorem ax_s1_len (v : Value) : ∀ (l : ax_L) (i : Nat), (ax_s1 l i v).length = l.length
  | [], _ => by simp [ax_s1]
  | _ :: l, 0 => by simp [ax_s1]
  | [a], _ + 1 => by simp [ax_s1]
  | a :: _ :: l, 1 => by simp [ax_s1]
  | a :: b :: l, i + 2 => by simp [ax_s1, ax_s1_len v (b :: l) (i + 1)]
theorem ax_s2_len (v : Value) : ∀ (l : ax_L) (i : Nat), (ax_s2 l i v).length = l.length
  | [], _ => by simp [ax_s2]
  | [a], _ => by simp [ax_s2]
  | _ :: _ :: l, 0 => by simp [ax_s2]
  | [a, b], _ + 1 => by simp [ax_s2]
  | a :: _ :: _ :: l, 1 => by simp [ax_s2]
  | a :: b :: c :: l, i + 2 => by simp [ax_s2, ax_s2_len v (b :: c :: l) (i + 1)]
theorem ax_clr_some {x : Option Value} {u : Value} (h : ax_clr x = some u) : x = some u ∧ u.category ≠ 2 := by
  unfold ax_clr at h
  split at h
  · cases h
  · cases h
  · subst h
    refine ⟨rfl, ?_⟩
    cases u <;> simp_all [Value.category]
/-- what stands in a place behind a store -/
theorem ax_s1_at (v : Value) : ∀ (l : ax_L) (i j : Nat) (u : Value), i < l.length → (ax_s1 l i v)[j]? = some (some u) → (j = i ∧ u = v) ∨ (j ≠ i ∧ l[j]? = some (some u) ∧ (j + 1 = i → u.category ≠ 2))
  | [], i, j, u, hi, _ => by simp at hi
  | x :: l, 0, j, u, _, h => by
    cases j with
    | zero => simp [ax_s1] at h; exact Or.inl ⟨rfl, h.symm⟩
    | succ j => simp [ax_s1] at h; exact Or.inr ⟨by omega, by simpa using h, by omega⟩
  | [a], i + 1, j, u, hi, _ => by simp at hi
  | a :: b :: l, 1, j, u, _, h => by
    match j, h with
    | 0, h => 
      simp [ax_s1] at h
      obtain ⟨h1, h2⟩ := ax_clr_some h
      exact Or.inr ⟨by omega, by simp [h1], fun _ => h2⟩
    | 1, h => simp [ax_s1] at h; exact Or.inl ⟨rfl, h.symm⟩
    | j + 2, h => simp [ax_s1] at h; exact Or.inr ⟨by omega, by simpa using h, by omega⟩
  | a :: b :: l, i + 2, j, u, hi, h => by
    cases j with
    | zero => simp [ax_s1] at h; exact Or.inr ⟨by omega, by simp [h], by omega⟩
    | succ j =>
      simp only [ax_s1, List.getElem?_cons_succ] at h
      rcases ax_s1_at v (b :: l) (i + 1) j u (by simpa using hi) h with ⟨h1, h2⟩ | ⟨h1, h2, h3⟩
      · exact Or.inl ⟨by omega, h2⟩
      · exact Or.inr ⟨by omega, by simpa using h2, fun e => h3 (by omega)⟩
theorem ax_s2_at (v : Value) : ∀ (l : ax_L) (i j : Nat) (u : Value), i + 1 < l.length → (ax_s2 l i v)[j]? = some (some u) → (j = i ∧ u = v) ∨ (j ≠ i ∧ j ≠ i + 1 ∧ l[j]? = some (some u) ∧ (j + 1 = i → u.category ≠ 2))
  | [], i, j, u, hi, _ => by simp at hi
  | [a], i, j, u, hi, _ => by simp at hi
  | x :: y :: l, 0, j, u, _, h => by
    match j, h with
    | 0, h => simp [ax_s2] at h; exact Or.inl ⟨rfl, h.symm⟩
    | 1, h => simp [ax_s2] at h
    | j + 2, h => simp [ax_s2] at h; exact Or.inr ⟨by omega, by omega, by simpa using h, by omega⟩
  | [a, b], i + 1, j, u, hi, _ => by simp at hi; omega
  | a :: b :: c :: l, 1, j, u, _, h => by
    match j, h with
    | 0, h => 
      simp [ax_s2] at h
      obtain ⟨h1, h2⟩ := ax_clr_some h
      exact Or.inr ⟨by omega, by omega, by simp [h1], fun _ => h2⟩
    | 1, h => simp [ax_s2] at h; exact Or.inl ⟨rfl, h.symm⟩
    | 2, h => simp [ax_s2] at h
    | j + 3, h => simp [ax_s2] at h; exact Or.inr ⟨by omega, by omega, by simpa using h, by omega⟩
  | a :: b :: c :: l, i + 2, j, u, hi, h => by
    cases j with
    | zero => simp [ax_s2] at h; exact Or.inr ⟨by omega, by omega, by simp [h], by omega⟩
    | succ j =>
      simp only [ax_s2, List.getElem?_cons_succ] at h
      rcases ax_s2_at v (b :: c :: l) (i + 1) j u (by simp at hi ⊢; omega) h with ⟨h1, h2⟩ | ⟨h1, h1', h2, h3⟩
      · exact Or.inl ⟨by omega, h2⟩
      · exact Or.inr ⟨by omega, by omega, by simpa using h2, fun e => h3 (by omega)⟩
def ax_pr (q : Nat → Nat) : Nat → ax_L → List (Nat × Value)
  | _, [] => []
  | i, none :: l => ax_pr q (i + 1) l
  | i, some v :: l => (i, ax_cv q v) :: ax_pr q (i + 1) l
theorem ax_pr_mem (q : Nat → Nat) : ∀ (l : ax_L) (i j : Nat) (v : Value), l[j]? = some (some v) → (i + j, ax_cv q v) ∈ ax_pr q i l
  | [], _, _, _, h => by simp at h
  | none :: l, i, j, v, h => by
    cases j with
    | zero => simp at h
    | succ j =>
      have := ax_pr_mem q l (i + 1) j v (by simpa using h)
      rw [show i + (j + 1) = i + 1 + j by omega]
      simpa [ax_pr] using this
  | some w :: l, i, j, v, h => by
    cases j with
    | zero => simp at h; simp [ax_pr, h]
    | succ j =>
      have := ax_pr_mem q l (i + 1) j v (by simpa using h)
      rw [show i + (j + 1) = i + 1 + j by omega]
      exact List.mem_cons_of_mem _ this
theorem ax_pr_of (q : Nat → Nat) : ∀ (l : ax_L) (i a : Nat) (w : Value), (a, w) ∈ ax_pr q i l → ∃ j v, a = i + j ∧ l[j]? = some (some v) ∧ w = ax_cv q v
  | [], _, _, _, h => by simp [ax_pr] at h
  | none :: l, i, a, w, h => by
    obtain ⟨j, v, h1, h2, h3⟩ := ax_pr_of q l (i + 1) a w (by simpa [ax_pr] using h)
    exact ⟨j + 1, v, by omega, by simpa using h2, h3⟩
  | some u :: l, i, a, w, h => by
    simp only [ax_pr, List.mem_cons] at h
    rcases h with h | h
    · cases h
      exact ⟨0, u, rfl, rfl, rfl⟩
    · obtain ⟨j, v, h1, h2, h3⟩ := ax_pr_of q l (i + 1) a w h
      exact ⟨j + 1, v, by omega, by simpa using h2, h3⟩
def ax_lr (q : Nat → Nat) (la : Array Slot) (nL : Nat) (ls : ax_L) : Prop := ls.length = nL ∧ lv_has la nL (ax_pr q 0 ls)
theorem ax_lr.at {q : Nat → Nat} {la : Array Slot} {nL : Nat} {ls : ax_L} (h : ax_lr q la nL ls) {i : Nat} {v : Value} (hi : ls[i]? = some (some v)) : la[i]? = some (.val (ax_cv q v)) := by
  have := h.2.2.2 (0 + i, ax_cv q v) (ax_pr_mem q ls 0 i v hi)
  simpa using this
theorem ax_lr.s1 {q : Nat → Nat} {la : Array Slot} {nL : Nat} {ls : ax_L} {i : Nat} {v : Value} (hn : ls.length = nL) (hi : i < nL) (h : lv_has la nL ((i, ax_cv q v) :: (ax_pr q 0 ls).filter (fun q => !(q.1 == i) && !(q.1 + 1 == i && q.2.category == 2)))) : ax_lr q la nL (ax_s1 ls i v) := by
  refine ⟨by rw [ax_s1_len]; exact hn, h.1, h.2.1, fun p hp => ?_⟩
  obtain ⟨a, w⟩ := p
  obtain ⟨j, u, h1, h2, h3⟩ := ax_pr_of q _ 0 a w hp
  refine h.2.2 (a, w) ?_
  rw [Nat.zero_add] at h1
  subst h1 h3
  rcases ax_s1_at v ls i a u (by rw [hn]; exact hi) h2 with ⟨rfl, rfl⟩ | ⟨g1, g2, g3⟩
  · exact List.mem_cons_self
  · refine List.mem_cons_of_mem _ (List.mem_filter.mpr ⟨by have := ax_pr_mem q ls 0 a u g2; simpa using this, ?_⟩)
    simp only [ax_cat]
    simp [g1]
    exact (Decidable.em (a + 1 = i)).elim (fun e => Or.inr (g3 e)) Or.inl
theorem ax_lr.s2 {q : Nat → Nat} {la : Array Slot} {nL : Nat} {ls : ax_L} {i : Nat} {v : Value} (hn : ls.length = nL) (hi : i + 1 < nL) (h : lv_has la nL ((i, ax_cv q v) :: (ax_pr q 0 ls).filter (fun q => !(q.1 == i) && (!(q.1 == i + 1) && !(q.1 + 1 == i && q.2.category == 2))))) : ax_lr q la nL (ax_s2 ls i v) := by
  refine ⟨by rw [ax_s2_len]; exact hn, h.1, h.2.1, fun p hp => ?_⟩
  obtain ⟨a, w⟩ := p
  obtain ⟨j, u, h1, h2, h3⟩ := ax_pr_of q _ 0 a w hp
  refine h.2.2 (a, w) ?_
  rw [Nat.zero_add] at h1
  subst h1 h3
  rcases ax_s2_at v ls i a u (by rw [hn]; exact hi) h2 with ⟨rfl, rfl⟩ | ⟨g1, g1', g2, g3⟩
  · exact List.mem_cons_self
  · refine List.mem_cons_of_mem _ (List.mem_filter.mpr ⟨by have := ax_pr_mem q ls 0 a u g2; simpa using this, ?_⟩)
    simp only [ax_cat]
    simp [g1, g1']
    exact (Decidable.em (a + 1 = i)).elim (fun e => Or.inr (g3 e)) Or.inl
/-! entry -/
def ax_fl (as : List Value) : ax_L := as.flatMap (fun v => if v.category = 2 then [some v, none] else [some v])
def ax_en (n : Nat) (as : List Value) : ax_L := ax_fl as ++ List.replicate (n - (ax_fl as).length) none
theorem ax_fl_len (q : Nat → Nat) (as : List Value) : (lg_sl (as.map (ax_cv q))).length = (ax_fl as).length := by
  induction as with
  | nil => rfl
  | cons a l ih =>
    simp only [lg_sl, ax_fl, List.map_cons, List.flatMap_cons, List.length_append, ax_cat] at ih ⊢
    rw [ih]
    split <;> rfl
theorem ax_pr_none (q : Nat → Nat) : ∀ (k i : Nat), ax_pr q i (List.replicate k none) = []
  | 0, _ => rfl
  | k + 1, i => by rw [List.replicate_succ]; exact ax_pr_none q k (i + 1)
theorem ax_pr_en (q : Nat → Nat) (k : Nat) : ∀ (as : List Value) (i : Nat), ax_pr q i (ax_fl as ++ List.replicate k none) = lv_args i (as.map (ax_cv q))
  | [], i => ax_pr_none q k i
  | a :: l, i => by
    by_cases hc : a.category = 2
    · have : ax_fl (a :: l) = some a :: none :: ax_fl l := by simp [ax_fl, hc]
      rw [this]
      simp only [List.cons_append, ax_pr, List.map_cons, lv_args, ax_cat, hc, if_true]
      rw [ax_pr_en q k l (i + 1 + 1)]
    · have : ax_fl (a :: l) = some a :: ax_fl l := by simp [ax_fl, hc]
      rw [this]
      simp only [List.cons_append, ax_pr, List.map_cons, lv_args, ax_cat, hc, if_false]
      rw [ax_pr_en q k l (i + 1)]
theorem ax_lr_en (q : Nat → Nat) (as : List Value) {n : Nat} (h : (ax_fl as).length ≤ n) : ax_lr q ((lg_sl (as.map (ax_cv q)) ++ List.replicate (n - (lg_sl (as.map (ax_cv q))).length) Slot.unset).toArray) n (ax_en n as) := by
  refine ⟨by simp [ax_en]; omega, ?_⟩
  have h1 := lv_entry (as.map (ax_cv q)) (n := n) (by rw [ax_fl_len]; exact h)
  unfold ax_en
  rw [ax_pr_en]
  exact h1
