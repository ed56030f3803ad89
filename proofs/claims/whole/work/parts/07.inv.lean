/-! one instruction of the plain machine is one of the machine -/
theorem ax_lookup_mem {α : Type} {k : Nat} {v : α} : ∀ (l : List (Nat × α)), l.lookup k = some v → (k, v) ∈ l
  | [], h => by simp at h
  | (a, b) :: l, h => by
    rw [List.lookup_cons] at h
    by_cases e : k = a
    · subst e
      simp at h
      subst h
      exact List.mem_cons_self
    · have : (k == a) = false := by simpa using e
      rw [this] at h
      exact List.mem_cons_of_mem _ (ax_lookup_mem l h)
theorem ax_cl_at {ci : Nat} (h : ci < 6) : ax_cl[ci]? = some (ax_own ci, ax_Tb ci, ax_N ci) := by
  match ci, h with
  | 0, _ => rfl
  | 1, _ => rfl
  | 2, _ => rfl
  | 3, _ => rfl
  | 4, _ => rfl
  | 5, _ => rfl
  | n + 6, h => exact absurd h (by omega)
theorem ax_nmA {ci : Nat} (h : ci < 6) : ∀ a, a < ax_N ci → ∀ b, b < ax_N ci → a ≠ b → (ax_Tb ci a).2.1 ≠ (ax_Tb ci b).2.1 := by
  match ci, h with
  | 0, _ => exact ax_nm0
  | 1, _ => exact ax_nm1
  | 2, _ => exact ax_nm2
  | 3, _ => exact ax_nm3
  | 4, _ => exact ax_nm4
  | 5, _ => exact ax_nm5
  | n + 6, h => exact absurd h (by omega)
theorem ax_tyA {ci : Nat} (h : ci < 6) : ∀ k, k < ax_N ci → parseFieldDescriptor (ax_Tb ci k).2.2.1 = some (ax_ty ci k) := by
  match ci, h with
  | 0, _ => exact ax_tyok0
  | 1, _ => exact ax_tyok1
  | 2, _ => exact ax_tyok2
  | 3, _ => exact ax_tyok3
  | 4, _ => exact ax_tyok4
  | 5, _ => exact ax_tyok5
  | n + 6, h => exact absurd h (by omega)
theorem ax_inA {ci : Nat} (h : ci < 6) : ∀ w ∈ u_ws (ax_own ci) (ax_Tb ci) (ax_N ci), w ∈ ax_tb := by
  intro w hw
  have h1 := List.all_eq_true.mp ax_usok ci (List.mem_range.mpr h)
  have h2 := List.all_eq_true.mp h1 w hw
  simp only [Bool.and_eq_true, decide_eq_true_eq] at h2
  exact List.mem_filter.mpr h2
theorem ax_key {o i : Nat} (hi : i < 1000) : (o * 1000 + i) / 1000 = o ∧ (o * 1000 + i) % 1000 = i := by omega
/-- what a field's link says -/
theorem ax_flk_spec {o i : Nat} {e : Nat × Nat × Bool × Nat} (h : ax_flk o i = some e) : e.1 < 6 ∧ e.2.1 < ax_N e.1 ∧ (ax_Tb e.1 e.2.1).1 = ax_own e.1 ∧
    ((e.2.2.1 = true ∧ Jvm.Cond.fieldLinkNest (ax_own o) i (ax_own e.1) (ax_Tb e.1 e.2.1).2.1 (ax_Tb e.1 e.2.1).2.2.1 "PackageRules" ∈ lw_tbl) ∨ (e.2.2.1 = false ∧ Jvm.Cond.fieldLink (ax_own o) i (ax_own e.1) (ax_Tb e.1 e.2.1).2.1 (ax_Tb e.1 e.2.1).2.2.1 ∈ ax_tb)) := by
  unfold ax_flk at h
  by_cases hi : i < 1000
  · rw [if_pos hi] at h
    have hk := ax_key (o := o) hi
    have h2 := List.all_eq_true.mp ax_flok _ (ax_lookup_mem _ h)
    simp only [ax_fok, Bool.and_eq_true, decide_eq_true_eq, hk.1, hk.2] at h2
    obtain ⟨⟨⟨a1, a2⟩, a3⟩, a4⟩ := h2
    refine ⟨a1, a2, a3, ?_⟩
    cases hb : e.2.2.1 with
    | true =>
      rw [hb, if_pos rfl] at a4
      exact Or.inl ⟨rfl, List.mem_of_getElem? a4⟩
    | false =>
      rw [hb, if_neg (by decide)] at a4
      exact Or.inr ⟨rfl, List.mem_filter.mpr ⟨List.mem_of_getElem? a4, rfl⟩⟩
  · rw [if_neg hi] at h
    cases h
/-- what a method's link says -/
theorem ax_mlk_spec {o i : Nat} {e : ax_M × Bool × Nat × Nat × Nat × Nat × Nat × Nat} (h : ax_mlk o i = some e) : Jvm.Cond.methodLink (ax_own o) i e.1.2.1 ∈ ax_tb ∧ Jvm.Cond.code e.1.2.1 e.1.2.2.1 e.1.2.2.2.1 e.1.2.2.2.2 ∈ ax_tb ∧ Jvm.Cond.initialized e.1.2.1.cls ∈ ax_tb ∧
    (e.2.1 = true → Jvm.Cond.static e.1.2.1 ∈ ax_tb) ∧ (e.2.1 = false → Jvm.Cond.instanceMethod e.1.2.1 ∈ ax_tb ∧ Jvm.Cond.selects e.1.2.1.cls e.1.2.1 e.1.2.1 ∈ ax_tb ∧ e.1.1 < 6) ∧ e.1.2.1.cls = ax_own e.1.1 ∧ plainName e.1.2.1.cls = true ∧
    (e.1.2.1.cls ≠ "java/lang/invoke/MethodHandle" ∧ e.1.2.1.cls ≠ "java/lang/invoke/VarHandle") ∧ (parseMethodDescriptor e.1.2.1.desc).map (fun d => d.parameters.length) = some e.2.2.1 ∧ e.1.2.2.2.1 ≤ 40 := by
  unfold ax_mlk at h
  by_cases hi : i < 1000
  · rw [if_pos hi] at h
    have hk := ax_key (o := o) hi
    have hm := ax_lookup_mem _ h
    have h2 : ax_mok (o * 1000 + i, e) = true := by
      rcases List.mem_append.mp hm with hm | hm
      · exact List.all_eq_true.mp ax_mloka _ hm
      · exact List.all_eq_true.mp ax_mlokb _ hm
    have h3 : lw_tbl[e.2.2.2.2.1]? = some (Jvm.Cond.code e.1.2.1 e.1.2.2.1 e.1.2.2.2.1 e.1.2.2.2.2) := by
      rcases List.mem_append.mp hm with hm | hm
      · exact ax_mca _ hm
      · exact ax_mcb _ hm
    simp only [ax_mok, Bool.and_eq_true, Bool.or_eq_true, decide_eq_true_eq, hk.1, hk.2] at h2
    obtain ⟨⟨⟨⟨⟨⟨⟨⟨⟨⟨a1, a2⟩, a3⟩, a4⟩, a5⟩, a6⟩, a7⟩, a8⟩, a9⟩, a10⟩, a11⟩ := h2
    refine ⟨List.mem_filter.mpr ⟨List.mem_of_getElem? a1, rfl⟩, List.mem_filter.mpr ⟨List.mem_of_getElem? h3, rfl⟩, List.mem_filter.mpr ⟨List.mem_of_getElem? a2, rfl⟩, fun hs => ?_, fun hs => ?_, a5, a7, ⟨a8, a9⟩, a10, a11⟩
    · rw [if_pos hs] at a3
      exact List.mem_filter.mpr ⟨List.mem_of_getElem? a3, rfl⟩
    · rw [if_neg (by rw [hs]; decide)] at a3
      rw [hs] at a4 a6
      exact ⟨List.mem_filter.mpr ⟨List.mem_of_getElem? a3, rfl⟩, List.mem_filter.mpr ⟨List.mem_of_getElem? (a4.resolve_left (by decide)), rfl⟩, a6.resolve_left (by decide)⟩
  · rw [if_neg hi] at h
    cases h
/-! inversions -/
theorem ax_go_inv {pc : Nat} {ls : ax_L} {h : ax_H} {o : Option (List Value)} {x : Nat × ax_L × List Value × ax_H} (hr : ax_go pc ls h o = some (.inl x)) : ∃ st, o = some st ∧ x = (pc, ls, st, h) := by
  unfold ax_go at hr
  cases o with
  | none => cases hr
  | some st => exact ⟨st, rfl, (Sum.inl.inj (Option.some.inj hr)).symm⟩
theorem ax_i1_inv {st st' : List Value} {f : Int32 → Option Value} (hr : ax_i1 st f = some st') : ∃ x v r, st = .int x :: r ∧ f x = some v ∧ st' = v :: r := by
  unfold ax_i1 at hr
  split at hr
  · rename_i x r
    cases hf : f x with
    | none => rw [hf] at hr; cases hr
    | some v => rw [hf] at hr; exact ⟨x, v, r, rfl, hf, (Option.some.inj hr).symm⟩
  · cases hr
theorem ax_l1_inv {st st' : List Value} {f : Int64 → Option Value} (hr : ax_l1 st f = some st') : ∃ x v r, st = .long x :: r ∧ f x = some v ∧ st' = v :: r := by
  unfold ax_l1 at hr
  split at hr
  · rename_i x r
    cases hf : f x with
    | none => rw [hf] at hr; cases hr
    | some v => rw [hf] at hr; exact ⟨x, v, r, rfl, hf, (Option.some.inj hr).symm⟩
  · cases hr
theorem ax_i2_inv {st st' : List Value} {f : Int32 → Int32 → Option Value} (hr : ax_i2 st f = some st') : ∃ x y v r, st = .int y :: .int x :: r ∧ f x y = some v ∧ st' = v :: r := by
  unfold ax_i2 at hr
  split at hr
  · rename_i y x r
    cases hf : f x y with
    | none => rw [hf] at hr; cases hr
    | some v => rw [hf] at hr; exact ⟨x, y, v, r, rfl, hf, (Option.some.inj hr).symm⟩
  · cases hr
theorem ax_l2_inv {st st' : List Value} {f : Int64 → Int64 → Option Value} (hr : ax_l2 st f = some st') : ∃ x y v r, st = .long y :: .long x :: r ∧ f x y = some v ∧ st' = v :: r := by
  unfold ax_l2 at hr
  split at hr
  · rename_i y x r
    cases hf : f x y with
    | none => rw [hf] at hr; cases hr
    | some v => rw [hf] at hr; exact ⟨x, y, v, r, rfl, hf, (Option.some.inj hr).symm⟩
  · cases hr
theorem ax_li_inv {st st' : List Value} {f : Int64 → Int32 → Option Value} (hr : ax_li st f = some st') : ∃ x y v r, st = .int y :: .long x :: r ∧ f x y = some v ∧ st' = v :: r := by
  unfold ax_li at hr
  split at hr
  · rename_i y x r
    cases hf : f x y with
    | none => rw [hf] at hr; cases hr
    | some v => rw [hf] at hr; exact ⟨x, y, v, r, rfl, hf, (Option.some.inj hr).symm⟩
  · cases hr
theorem ax_ldi_inv {ls : ax_L} {st st' : List Value} {i : Nat} (hr : ax_ldi ls st i = some st') : ∃ x, ls[i]? = some (some (.int x)) ∧ st' = .int x :: st := by
  unfold ax_ldi at hr
  split at hr
  · rename_i x hx; exact ⟨x, hx, (Option.some.inj hr).symm⟩
  · cases hr
theorem ax_ldl_inv {ls : ax_L} {st st' : List Value} {i : Nat} (hr : ax_ldl ls st i = some st') : ∃ x, ls[i]? = some (some (.long x)) ∧ st' = .long x :: st := by
  unfold ax_ldl at hr
  split at hr
  · rename_i x hx; exact ⟨x, hx, (Option.some.inj hr).symm⟩
  · cases hr
theorem ax_lda_inv {ls : ax_L} {st st' : List Value} {i : Nat} (hr : ax_lda ls st i = some st') : ∃ x, ls[i]? = some (some (.ref x)) ∧ st' = .ref x :: st := by
  unfold ax_lda at hr
  split at hr
  · rename_i x hx; exact ⟨x, hx, (Option.some.inj hr).symm⟩
  · cases hr
theorem ax_jm_inv {pc : Nat} {off : Int} {ls : ax_L} {st : List Value} {h : ax_H} {x : Nat × ax_L × List Value × ax_H} (hr : ax_jm pc off ls st h = some (.inl x)) : (pc : Int) + off = ((ax_tg pc off : Nat) : Int) ∧ x = (ax_tg pc off, ls, st, h) := by
  unfold ax_jm at hr
  by_cases h0 : 0 ≤ (pc : Int) + off
  · rw [if_pos h0] at hr
    exact ⟨(Int.toNat_of_nonneg h0).symm, (Sum.inl.inj (Option.some.inj hr)).symm⟩
  · rw [if_neg h0] at hr
    cases hr
theorem ax_in_vp {i : Int32} {n : Nat} (h : ax_in i n = true) : vp_in i n := by
  simp only [ax_in, Bool.and_eq_true, decide_eq_true_eq] at h
  intro hh
  rcases hh with hh | hh
  · exact absurd hh (Int32.not_lt.mpr h.1)
  · omega
theorem ax_iv_no {ks : ax_K} {o i : Nat} {st : List Value} {x : Nat × ax_L × List Value × ax_H} (hr : ax_iv ks o i st = some (.inl x)) : False := by
  unfold ax_iv at hr
  (repeat' split at hr) <;> cases hr
theorem ax_is_no {o i : Nat} {st : List Value} {x : Nat × ax_L × List Value × ax_H} (hr : ax_is o i st = some (.inl x)) : False := by
  unfold ax_is at hr
  (repeat' split at hr) <;> cases hr
theorem ax_ri_no {o : Option FieldType} {st : List Value} {x : Nat × ax_L × List Value × ax_H} (hr : ax_ri o st = some (.inl x)) : False := by
  unfold ax_ri at hr
  (repeat' split at hr) <;> cases hr
theorem ax_rl_no {o : Option FieldType} {st : List Value} {x : Nat × ax_L × List Value × ax_H} (hr : ax_rl o st = some (.inl x)) : False := by
  unfold ax_rl at hr
  (repeat' split at hr) <;> cases hr
theorem ax_rv_no {o : Option FieldType} {st : List Value} {x : Nat × ax_L × List Value × ax_H} (hr : ax_rv o st = some (.inl x)) : False := by
  unfold ax_rv at hr
  (repeat' split at hr) <;> cases hr
def ax_C (p : Program) (s : State) (m : MethodId) (args : Array Value) (meth : Method) (c : Code) (M : ax_M) : Prop :=
  p.tables.exec = Jvm.exec ∧ c.code = M.2.2.1 ∧ c.maxLocals = M.2.2.2.1 ∧ meth.sig.returnType = M.2.2.2.2 ∧ meth.locks = false ∧ s.vm.findClass (ax_own M.1) = some m.cls ∧ (∀ w ∈ ax_tb, w.before args s = true) ∧ ax_Ns s
def ax_V (ks : ax_K) (D : va_G) (cA : Nat → ClassId) (q : Nat → Nat) (h : ax_H) (s : State) (H : Heap) (locs : List Loc) : Prop :=
  va_P D ax_cl (ax_ws ks q cA h) H ∧ va_D (ax_A ks q) (ax_ws ks q cA h) ∧ va_S (ax_A ks q) s.heap H locs
section AXS
variable {p : Program} {l : Launch} {e : Env} {R : Room} {s : State} {m : MethodId} {args : Array Value} {below : List Frame} {meth : Method} {c : Code} {H : Heap} {locs : List Loc} {Q : State → Prop}
variable {ks : ax_K} {D : va_G} {cA : Nat → ClassId} {q : Nat → Nat} {h : ax_H} {M : ax_M} {pc : Nat} {la : Array Slot} {ls : ax_L} {st rest : List Value} {x : Nat × ax_L × List Value × ax_H}
theorem ax_if1 (hx : p.tables.exec = Jvm.exec) {cc : ByteArray} (hb : c.code = cc) {k : Jvm.ClassFile.Cond} {off : Int} {tgt : Nat} {y : Int32} (hd : decode cc pc = .ok (.ifCond k off, 3)) (ht : (pc : Int) + off = (tgt : Int))
    (kk : W p l e R s m args below meth c H locs 0 0 Q (F0 m (if ax_cc k y 0 = true then tgt else pc + 3) la rest)) : W p l e R s m args below meth c H locs 0 0 Q (F0 m pc la (.int y :: rest)) := by
  cases hc : ax_cc k y 0 with
  | true =>
    rw [hc, if_pos rfl] at kk
    cases k <;> simp only [ax_cc, decide_eq_true_eq] at hc
    · exact lv_if_eq hx hb hd ht (fun _ => kk) (fun n => absurd hc n)
    · exact lv_if_ne hx hb hd ht (fun _ => kk) (fun n => absurd n hc)
    · exact lv_if_lt hx hb hd ht (fun _ => kk) (fun n => absurd hc n)
    · exact lv_if_ge hx hb hd ht (fun _ => kk) (fun n => absurd hc n)
    · exact lv_if_gt hx hb hd ht (fun _ => kk) (fun n => absurd hc n)
    · exact lv_if_le hx hb hd ht (fun _ => kk) (fun n => absurd hc n)
  | false =>
    rw [hc, if_neg (by decide)] at kk
    cases k <;> simp only [ax_cc, decide_eq_false_iff_not] at hc
    · exact lv_if_eq hx hb hd ht (fun n => absurd n hc) (fun _ => kk)
    · exact lv_if_ne hx hb hd ht (fun n => absurd n hc) (fun _ => kk)
    · exact lv_if_lt hx hb hd ht (fun n => absurd n hc) (fun _ => kk)
    · exact lv_if_ge hx hb hd ht (fun n => absurd n hc) (fun _ => kk)
    · exact lv_if_gt hx hb hd ht (fun n => absurd n hc) (fun _ => kk)
    · exact lv_if_le hx hb hd ht (fun n => absurd n hc) (fun _ => kk)
theorem ax_if2 (hx : p.tables.exec = Jvm.exec) {cc : ByteArray} (hb : c.code = cc) {k : Jvm.ClassFile.Cond} {off : Int} {tgt : Nat} {y z : Int32} (hd : decode cc pc = .ok (.if_icmp k off, 3)) (ht : (pc : Int) + off = (tgt : Int))
    (kk : W p l e R s m args below meth c H locs 0 0 Q (F0 m (if ax_cc k y z = true then tgt else pc + 3) la rest)) : W p l e R s m args below meth c H locs 0 0 Q (F0 m pc la (.int z :: .int y :: rest)) := by
  cases hc : ax_cc k y z with
  | true =>
    rw [hc, if_pos rfl] at kk
    cases k <;> simp only [ax_cc, decide_eq_true_eq] at hc
    · exact lv_icmp_eq hx hb hd ht (fun _ => kk) (fun n => absurd hc n)
    · exact lv_icmp_ne hx hb hd ht (fun _ => kk) (fun n => absurd n hc)
    · exact lv_icmp_lt hx hb hd ht (fun _ => kk) (fun n => absurd hc n)
    · exact lv_icmp_ge hx hb hd ht (fun _ => kk) (fun n => absurd hc n)
    · exact lv_icmp_gt hx hb hd ht (fun _ => kk) (fun n => absurd hc n)
    · exact lv_icmp_le hx hb hd ht (fun _ => kk) (fun n => absurd hc n)
  | false =>
    rw [hc, if_neg (by decide)] at kk
    cases k <;> simp only [ax_cc, decide_eq_false_iff_not] at hc
    · exact lv_icmp_eq hx hb hd ht (fun n => absurd n hc) (fun _ => kk)
    · exact lv_icmp_ne hx hb hd ht (fun n => absurd n hc) (fun _ => kk)
    · exact lv_icmp_lt hx hb hd ht (fun n => absurd n hc) (fun _ => kk)
    · exact lv_icmp_ge hx hb hd ht (fun n => absurd n hc) (fun _ => kk)
    · exact lv_icmp_gt hx hb hd ht (fun n => absurd n hc) (fun _ => kk)
    · exact lv_icmp_le hx hb hd ht (fun n => absurd n hc) (fun _ => kk)
end AXS
