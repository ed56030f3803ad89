/-! a run of the plain machine is a run of the machine; a method's contract out of a run -/
def ax_room (d : Nat) : Room := { frames := d + 1, cells := 0, slots := 0, locals := 64 * (d + 1) }
def ax_wM (M : ax_M) : List Jvm.Cond := Jvm.Cond.code M.2.1 M.2.2.1 M.2.2.2.1 M.2.2.2.2 :: ax_tb
def ax_okM (M : ax_M) : Prop := Jvm.Cond.code M.2.1 M.2.2.1 M.2.2.2.1 M.2.2.2.2 ∈ ax_tb ∧ M.2.1.cls = ax_own M.1 ∧ plainName M.2.1.cls = true
def ax_Q (ks : ax_K) (D : va_G) (cA : Nat → ClassId) (q : Nat → Nat) (v : Option Value) (h : ax_H) : Array Value → State → Outcome → State → Prop := fun _ st oc t => oc = .returned (v.map (ax_cv q)) ∧ ax_W ks D cA q h t ∧ va_F (ax_A ks q) st t
def ax_Sim (l : Launch) (ks : ax_K) (D : va_G) (cA : Nat → ClassId) (q : Nat → Nat) (n : Nat) : Prop :=
  ∀ (d : Nat) (M : ax_M) (pc : Nat) (ls : ax_L) (st : List Value) (h : ax_H) (v : Option Value) (h' : ax_H), ax_run ks n d M pc ls st h = some (v, h') → ∀ (p : Program) (e : Env) (s : State) (m : MethodId) (args : Array Value) (below : List Frame) (meth : Method) (c : Code) (H : Heap) (locs : List Loc) (la : Array Slot),
    ax_C p s m args meth c M → va_K D ax_cl (ax_tys cA) s → ax_V ks D cA q h s H locs → ax_lr q la M.2.2.2.1 ls →
    W p l e (ax_room d) s m args below meth c H locs 0 0 (MQ below (ax_Q ks D cA q v h') args s 0 0 (ax_A ks q)) (F0 m pc la (st.map (ax_cv q)))
theorem ax_blind {ks : ax_K} {D : va_G} {cA : Nat → ClassId} {q : Nat → Nat} {h : ax_H} {av : List Value} : FrameBlind (va_Pc av (ax_W ks D cA q h)) := by
  intro a U g mk hq
  obtain ⟨q0, qP, qK, qD, qN⟩ := hq
  exact ⟨q0, qP, va_K.moved (u := U) (U := U.calling g mk a) (Vm.Alike.refl U.vm) qK, qD, ax_Ns.same rfl qN⟩
theorem ax_goodT (ws : List Jvm.Cond) (h : ∀ w ∈ ws, w ∈ ax_tb) : GoodIn ax_tb ws := fun w hw => ⟨h w hw, good_of_word (List.mem_filter.mp (h w hw)).2⟩
/-- the contract of a method out of a run of it -/
theorem ax_met_of {l : Launch} {ks : ax_K} {D : va_G} {cA : Nat → ClassId} {q : Nat → Nat} {n : Nat} (IH : ax_Sim l ks D cA q n) {d : Nat} {M : ax_M} (hM : ax_okM M) {as : List Value} (ha : (ax_fl as).length ≤ M.2.2.2.1) {h h' : ax_H} {v : Option Value} (hr : ax_run ks n d M 0 (ax_en M.2.2.2.1 as) [] h = some (v, h')) :
    Met l M.2.1 (ax_wM M) (ax_room d) (va_Pc (as.map (ax_cv q)) (ax_W ks D cA q h)) (ax_Q ks D cA q v h') 0 0 (ax_A ks q) := by
  refine Met.ofW (cc := M.2.2.1) (maxL := M.2.2.2.1) (ret := M.2.2.2.2) hM.2.2 rfl ?_
  intro p e s m args below meth c s₁ B hml hv
  obtain ⟨rfl, hP, hK, hD, hN⟩ := hv
  have hts := atoms_spec (ws := ax_wM M) B.pre
  have hown : s.vm.findClass M.2.1.cls = some m.cls := findClass_of_methodNamed B.named
  rw [hM.2.1] at hown
  rw [lg_entry_eq]
  exact IH d M 0 _ [] h v h' hr p e s m _ below meth c s.heap [] _ ⟨B.exec, B.bytes, hml, B.returns, B.notSynchronized, hown, fun w hw => hts w (List.mem_cons_of_mem _ hw), hN⟩ hK ⟨hP, hD, va_S.rf⟩ (ax_lr_en q as ha)
section AXR
variable {p : Program} {l : Launch} {e : Env} {R : Room} {s : State} {m : MethodId} {args : Array Value} {below : List Frame} {meth : Method} {c : Code} {H : Heap} {locs : List Loc} {Q : State → Prop}
variable {ks : ax_K} {D : va_G} {cA : Nat → ClassId} {q : Nat → Nat} {h h' : ax_H} {pc : Nat} {la : Array Slot} {st0 rest : List Value} {v : Option Value} {a : Array Value}
/-- behind a call -/
theorem ax_call (hr : va_Run p l e R s m args below meth c H locs 0 0 0 0 (F0 m pc la st0) rest (ax_Q ks D cA q v h' a) (ax_A ks q)) (hS : va_S (ax_A ks q) s.heap H locs)
    (kk : ∀ (H1 : Heap) (locs1 : List Loc), ax_V ks D cA q h' s H1 locs1 → W p l e R s m args below meth c H1 locs1 0 0 Q (F0 m (pc + 3) la ((v.map (ax_cv q)).toList ++ rest))) : W p l e R s m args below meth c H locs 0 0 Q (F0 m pc la st0) := by
  intro T hT X
  obtain ⟨v', st₀, t, T', L, h0, X', hL, e1, e2, ⟨hv, hw, hz, hk⟩, stp⟩ := hr T hT X
  cases hv
  rw [h0] at hz hk
  obtain ⟨t2, a1, b1⟩ := kk T'.heap (locs ++ L) ⟨by rw [e1]; exact hw.1, hw.2.2.1, Nat.le_trans hS.1 (by rw [e1]; exact hz), fun q h1 h2 => by rw [e1, hk q (Nat.lt_of_lt_of_le h1 hS.1) h2]; exact hS.2.1 q h1 h2, fun q hq => by
      rcases List.mem_append.mp hq with h | h
      · exact hS.2.2 q h
      · exact hL q h⟩ T' rfl X'
  exact ⟨t2, stp t2 a1, b1⟩
end AXR
theorem ax_iv_inv {ks : ax_K} {o i : Nat} {st : List Value} {y : ax_M × List Value × List Value} (hr : ax_iv ks o i st = some (.inr (.inr y))) : ∃ e b as rest, ax_mlk o i = some e ∧ e.2.1 = false ∧ as.length = e.2.2.1 ∧ st = as.reverse ++ .ref b :: rest ∧ ks[b]? = some (0, e.1.1) ∧ ax_ct rest ≤ 8 ∧ (ax_fl (.ref b :: as)).length ≤ e.1.2.2.2.1 ∧ y = (e.1, .ref b :: as, rest) := by
  unfold ax_iv at hr
  split at hr
  · rename_i e he
    split at hr
    · rename_i hc
      split at hr
      · rename_i b rest hdr
        split at hr
        · rename_i h2
          cases hr
          refine ⟨e, b, (st.take e.2.2.1).reverse, rest, he, hc.1, by simp; omega, ?_, h2.1, h2.2.1, h2.2.2, rfl⟩
          rw [List.reverse_reverse, ← hdr, List.take_append_drop]
        · cases hr
      · cases hr
    · cases hr
  · cases hr
theorem ax_is_inv {o i : Nat} {st : List Value} {y : ax_M × List Value × List Value} (hr : ax_is o i st = some (.inr (.inr y))) : ∃ e as rest, ax_mlk o i = some e ∧ e.2.1 = true ∧ as.length = e.2.2.1 ∧ st = as.reverse ++ rest ∧ ax_ct rest ≤ 8 ∧ (ax_fl as).length ≤ e.1.2.2.2.1 ∧ y = (e.1, as, rest) := by
  unfold ax_is at hr
  split at hr
  · rename_i e he
    split at hr
    · rename_i hc
      cases hr
      refine ⟨e, (st.take e.2.2.1).reverse, st.drop e.2.2.1, he, hc.1, by simp; omega, ?_, hc.2.2.1, hc.2.2.2, rfl⟩
      rw [List.reverse_reverse, List.take_append_drop]
    · cases hr
  · cases hr
theorem ax_go_nl (pc : Nat) (ls : ax_L) (h : ax_H) (o : Option (List Value)) (z : Option Value ⊕ (ax_M × List Value × List Value)) : ax_go pc ls h o ≠ some (.inr z) := by
  cases o <;> simp [ax_go]
theorem ax_sti_nl (pc : Nat) (ls : ax_L) (st : List Value) (h : ax_H) (i : Nat) (z : Option Value ⊕ (ax_M × List Value × List Value)) : ax_sti pc ls st h i ≠ some (.inr z) := by
  unfold ax_sti; (repeat' split) <;> simp
theorem ax_sta_nl (pc : Nat) (ls : ax_L) (st : List Value) (h : ax_H) (i : Nat) (z : Option Value ⊕ (ax_M × List Value × List Value)) : ax_sta pc ls st h i ≠ some (.inr z) := by
  unfold ax_sta; (repeat' split) <;> simp
theorem ax_stl_nl (pc : Nat) (ls : ax_L) (st : List Value) (h : ax_H) (i : Nat) (z : Option Value ⊕ (ax_M × List Value × List Value)) : ax_stl pc ls st h i ≠ some (.inr z) := by
  unfold ax_stl; (repeat' split) <;> simp
theorem ax_inc_nl (pc : Nat) (ls : ax_L) (st : List Value) (h : ax_H) (i : Nat) (n : Int) (z : Option Value ⊕ (ax_M × List Value × List Value)) : ax_inc pc ls st h i n ≠ some (.inr z) := by
  unfold ax_inc; (repeat' split) <;> simp
theorem ax_jm_nl (pc : Nat) (off : Int) (ls : ax_L) (st : List Value) (h : ax_H) (z : Option Value ⊕ (ax_M × List Value × List Value)) : ax_jm pc off ls st h ≠ some (.inr z) := by
  unfold ax_jm; (repeat' split) <;> simp
theorem ax_br1_nl (c : Jvm.ClassFile.Cond) (pc : Nat) (off : Int) (ls : ax_L) (st : List Value) (h : ax_H) (z : Option Value ⊕ (ax_M × List Value × List Value)) : ax_br1 c pc off ls st h ≠ some (.inr z) := by
  unfold ax_br1; (repeat' split) <;> simp
theorem ax_br2_nl (c : Jvm.ClassFile.Cond) (pc : Nat) (off : Int) (ls : ax_L) (st : List Value) (h : ax_H) (z : Option Value ⊕ (ax_M × List Value × List Value)) : ax_br2 c pc off ls st h ≠ some (.inr z) := by
  unfold ax_br2; (repeat' split) <;> simp
theorem ax_lsw_nl (pc : Nat) (d : Int) (ps : Array (Int × Int)) (ls : ax_L) (st : List Value) (h : ax_H) (z : Option Value ⊕ (ax_M × List Value × List Value)) : ax_lsw pc d ps ls st h ≠ some (.inr z) := by
  unfold ax_lsw; (repeat' split) <;> first | exact ax_jm_nl _ _ _ _ _ z | simp
theorem ax_tsw_nl (pc : Nat) (d lo hi : Int) (ps : Array Int) (ls : ax_L) (st : List Value) (h : ax_H) (z : Option Value ⊕ (ax_M × List Value × List Value)) : ax_tsw pc d lo hi ps ls st h ≠ some (.inr z) := by
  unfold ax_tsw; (repeat' split) <;> first | exact ax_jm_nl _ _ _ _ _ z | simp
theorem ax_gf_nl (ks : ax_K) (o i pc : Nat) (ls : ax_L) (st : List Value) (h : ax_H) (z : Option Value ⊕ (ax_M × List Value × List Value)) : ax_gf ks o i pc ls st h ≠ some (.inr z) := by
  unfold ax_gf; (repeat' split) <;> simp
theorem ax_pf_nl (ks : ax_K) (o i pc : Nat) (ls : ax_L) (st : List Value) (h : ax_H) (z : Option Value ⊕ (ax_M × List Value × List Value)) : ax_pf ks o i pc ls st h ≠ some (.inr z) := by
  unfold ax_pf; (repeat' split) <;> simp [Option.map_eq_some_iff]
theorem ax_al_nl (ks : ax_K) (t pc : Nat) (ls : ax_L) (st : List Value) (h : ax_H) (z : Option Value ⊕ (ax_M × List Value × List Value)) : ax_al ks t pc ls st h ≠ some (.inr z) := by
  unfold ax_al; (repeat' split) <;> simp
theorem ax_as_nl (ks : ax_K) (t pc : Nat) (ls : ax_L) (st : List Value) (h : ax_H) (z : Option Value ⊕ (ax_M × List Value × List Value)) : ax_as ks t pc ls st h ≠ some (.inr z) := by
  unfold ax_as; (repeat' split) <;> simp
theorem ax_len_nl (ks : ax_K) (pc : Nat) (ls : ax_L) (st : List Value) (h : ax_H) (z : Option Value ⊕ (ax_M × List Value × List Value)) : ax_len ks pc ls st h ≠ some (.inr z) := by
  unfold ax_len; (repeat' split) <;> simp
theorem ax_mi_nl (pc : Nat) (ls : ax_L) (st : List Value) (h : ax_H) (z : Option Value ⊕ (ax_M × List Value × List Value)) : ax_mi pc ls st h ≠ some (.inr z) := by
  unfold ax_mi; (repeat' split) <;> simp
/-- which instructions end a step in a call, which in a return -/
theorem ax_ex_call {ks : ax_K} {M : ax_M} {pc : Nat} {ls : ax_L} {st : List Value} {h : ax_H} {i : Instr} {len : Nat} {y : ax_M × List Value × List Value} (hr : ax_ex ks M pc ls st h i len = some (.inr (.inr y))) :
    (∃ j, i = .invokevirtual j ∧ len = 3 ∧ ax_iv ks M.1 j st = some (.inr (.inr y))) ∨ (∃ j, i = .invokestatic j ∧ len = 3 ∧ ax_is M.1 j st = some (.inr (.inr y))) := by
  unfold ax_ex at hr
  split at hr
  all_goals first | exact Or.inl ⟨_, rfl, rfl, hr⟩ | exact absurd hr (ax_go_nl _ _ _ _ _) | exact absurd hr (ax_sti_nl _ _ _ _ _ _) | exact absurd hr (ax_sta_nl _ _ _ _ _ _) | exact absurd hr (ax_stl_nl _ _ _ _ _ _) | exact absurd hr (ax_inc_nl _ _ _ _ _ _ _) | exact absurd hr (ax_jm_nl _ _ _ _ _ _) | exact absurd hr (ax_br1_nl _ _ _ _ _ _ _) | exact absurd hr (ax_br2_nl _ _ _ _ _ _ _) | exact absurd hr (ax_lsw_nl _ _ _ _ _ _ _) | exact absurd hr (ax_tsw_nl _ _ _ _ _ _ _ _ _) | exact absurd hr (ax_gf_nl _ _ _ _ _ _ _ _) | exact absurd hr (ax_pf_nl _ _ _ _ _ _ _ _) | exact absurd hr (ax_al_nl _ _ _ _ _ _ _) | exact absurd hr (ax_as_nl _ _ _ _ _ _ _) | exact absurd hr (ax_len_nl _ _ _ _ _ _) | exact absurd hr (ax_mi_nl _ _ _ _ _) | (cases hr; done) | skip
  · split at hr
    · exact absurd hr (ax_go_nl _ _ _ _ _)
    · cases hr
  · split at hr
    · exact absurd hr (ax_mi_nl _ _ _ _ _)
    · exact Or.inr ⟨_, rfl, rfl, hr⟩
  all_goals (exfalso; revert hr; first | unfold ax_ri | unfold ax_rl | unfold ax_rv)
  all_goals ((repeat' split) <;> simp)
theorem ax_ex_ret {ks : ax_K} {M : ax_M} {pc : Nat} {ls : ax_L} {st : List Value} {h : ax_H} {i : Instr} {len : Nat} {v : Option Value} (hr : ax_ex ks M pc ls st h i len = some (.inr (.inl v))) :
    (i = .ireturn ∧ len = 1 ∧ ax_ri M.2.2.2.2 st = some (.inr (.inl v))) ∨ (i = .lreturn ∧ len = 1 ∧ ax_rl M.2.2.2.2 st = some (.inr (.inl v))) ∨ (i = .return_ ∧ len = 1 ∧ ax_rv M.2.2.2.2 st = some (.inr (.inl v))) := by
  unfold ax_ex at hr
  split at hr
  all_goals first | exact Or.inl ⟨rfl, rfl, hr⟩ | exact Or.inr (Or.inl ⟨rfl, rfl, hr⟩) | exact Or.inr (Or.inr ⟨rfl, rfl, hr⟩) | exact absurd hr (ax_go_nl _ _ _ _ _) | exact absurd hr (ax_sti_nl _ _ _ _ _ _) | exact absurd hr (ax_sta_nl _ _ _ _ _ _) | exact absurd hr (ax_stl_nl _ _ _ _ _ _) | exact absurd hr (ax_inc_nl _ _ _ _ _ _ _) | exact absurd hr (ax_jm_nl _ _ _ _ _ _) | exact absurd hr (ax_br1_nl _ _ _ _ _ _ _) | exact absurd hr (ax_br2_nl _ _ _ _ _ _ _) | exact absurd hr (ax_lsw_nl _ _ _ _ _ _ _) | exact absurd hr (ax_tsw_nl _ _ _ _ _ _ _ _ _) | exact absurd hr (ax_gf_nl _ _ _ _ _ _ _ _) | exact absurd hr (ax_pf_nl _ _ _ _ _ _ _ _) | exact absurd hr (ax_al_nl _ _ _ _ _ _ _) | exact absurd hr (ax_as_nl _ _ _ _ _ _ _) | exact absurd hr (ax_len_nl _ _ _ _ _ _) | exact absurd hr (ax_mi_nl _ _ _ _ _) | (cases hr; done) | skip
  · split at hr
    · exact absurd hr (ax_go_nl _ _ _ _ _)
    · cases hr
  · exfalso; revert hr; unfold ax_iv; (repeat' split) <;> simp
  · split at hr
    · exact absurd hr (ax_mi_nl _ _ _ _ _)
    · exfalso; revert hr; unfold ax_is; (repeat' split) <;> simp
theorem ax_sim (l : Launch) (ks : ax_K) (D : va_G) (cA : Nat → ClassId) (q : Nat → Nat) : ∀ n, ax_Sim l ks D cA q n
  | 0 => fun d M pc ls st h v h' hr => by simp [ax_run] at hr
  | n + 1 => by
    have IH := ax_sim l ks D cA q n
    intro d M pc ls st h v h' hr p e s m args below meth c H locs la C hK hV hl
    rw [ax_run] at hr
    have hst : ∃ i len, decode M.2.2.1 pc = .ok (i, len) ∧ ax_step ks M pc ls st h = ax_ex ks M pc ls st h i len := by
      cases hd : decode M.2.2.1 pc with
      | error z => simp [ax_step, hd] at hr
      | ok z => exact ⟨z.1, z.2, rfl, by simp [ax_step, hd]⟩
    obtain ⟨i, len, hd, hse⟩ := hst
    rw [hse] at hr
    split at hr
    · cases hr
    · rename_i x hs
      exact ax_stepW C hK ⟨by show 1 ≤ d + 1; omega, by show 32 ≤ 64 * (d + 1); omega⟩ hV hl hd hs (fun H1 locs1 la1 hV1 hl1 => IH d M x.1 x.2.1 x.2.2.1 x.2.2.2 v h' hr p e s m args below meth c H1 locs1 la1 C hK hV1 hl1)
    · rename_i w hs
      cases hr
      obtain ⟨hx, hb, hml, hret, hlocks, hown, hts, hN⟩ := C
      have hq : ∀ t : State, t.heap = H → s.WarmedH t.vm → ax_Q ks D cA q v h args s (.returned (v.map (ax_cv q))) t := fun t ht hW => ⟨rfl, ⟨by rw [ht]; exact hV.1, va_K.moved hW.alike hK, hV.2.1, ax_Ns.warm hW hN⟩, hV.2.2.F ht⟩
      rcases ax_ex_ret hs with ⟨rfl, rfl, h1⟩ | ⟨rfl, rfl, h1⟩ | ⟨rfl, rfl, h1⟩
      · unfold ax_ri at h1
        split at h1
        · split at h1
          · rename_i x hc
            cases h1
            rcases hc with hc | ⟨hc, hc2⟩
            · exact W.iret hx hb (hret.trans hc) hq hV.2.2.2.2 hd
            · exact W.zret hx hb (hret.trans hc) (by rcases hc2 with rfl | rfl <;> decide) hq hV.2.2.2.2 hd
          · cases h1
        · cases h1
      · unfold ax_rl at h1
        split at h1
        · split at h1
          · rename_i x hc
            cases h1
            exact W.lret hx hb (hret.trans hc) hq hV.2.2.2.2 hd
          · cases h1
        · cases h1
      · unfold ax_rv at h1
        split at h1
        · split at h1
          · rename_i hc
            cases h1
            exact W.vret hx hb (hret.trans hc) hq hV.2.2.2.2 hd
          · cases h1
        · cases h1
    · rename_i y hs
      cases d with
      | zero => cases hr
      | succ d' =>
        simp only at hr
        split at hr
        · cases hr
        · rename_i z hz
          have C0 := C
          obtain ⟨hx, hb, hml, hret, hlocks, hown, hts, hN⟩ := C
          have hpre : ∀ (as : List Value) (U : State), U.heap = H → s.WarmedH U.vm → va_Pc (as.map (ax_cv q)) (ax_W ks D cA q h) (as.map (ax_cv q)).toArray U := fun as U hU hW => ⟨rfl, by rw [hU]; exact hV.1, va_K.moved hW.alike hK, hV.2.1, ax_Ns.warm hW hN⟩
          have hgo : ∀ (H1 : Heap) (locs1 : List Loc), ax_V ks D cA q z.2 s H1 locs1 → W p l e (ax_room (d' + 1)) s m args below meth c H1 locs1 0 0 (MQ below (ax_Q ks D cA q v h') args s 0 0 (ax_A ks q)) (F0 m (pc + 3) la ((z.1.map (ax_cv q)).toList ++ y.2.2.map (ax_cv q))) := fun H1 locs1 hV1 => by
            have h9 := IH (d' + 1) M (pc + 3) ls (z.1.toList ++ y.2.2) z.2 v h' hr p e s m args below meth c H1 locs1 la C0 hK hV1 hl
            rw [List.map_append] at h9
            have e9 : z.1.toList.map (ax_cv q) = (z.1.map (ax_cv q)).toList := by cases z.1 <;> rfl
            rw [e9] at h9
            exact h9
          rcases ax_ex_call hs with ⟨j, rfl, rfl, h1⟩ | ⟨j, rfl, rfl, h1⟩
          · obtain ⟨eE, b, as, rest, he, hf, hlen, rfl, hkb, hct, hfl, rfl⟩ := ax_iv_inv h1
            obtain ⟨w1, w2, w3, -, w4, w5, w6, w7, w8, w9⟩ := ax_mlk_spec he
            obtain ⟨w4, w10, w11⟩ := w4 hf
            have hM := ax_met_of IH (M := eE.1) ⟨w2, w5, w6⟩ hfl hz
            have hrec : ∃ cellB : Cell, H[q b]? = some cellB ∧ cellB.vm.isStatics = false ∧ s.vm.findClass eE.1.2.1.cls = some cellB.cls := by
              rw [w5]
              exact va_recv hK hV.1 (ax_cl_at w11) (ax_ws_at hkb)
            have hcw : CallW (ax_room (d' + 1)) s args (ax_own M.1) eE.1.2.1.cls j eE.1.2.1 eE.1.2.2.1 eE.1.2.2.2.1 eE.1.2.2.2.2 (ax_wM eE.1) (ax_room d') 0 0 eE.2.2.1 :=
              ⟨callB_of eE.2.2.1 hts (ax_goodT _ (List.forall_mem_cons.mpr ⟨w2, fun w hw => hw⟩)) rfl rfl rfl (hts _ w3) (hts _ w1) ⟨w7.1, w7.2, w8⟩ ⟨by show d' + 1 + 1 ≤ d' + 1 + 1; omega, by show 8 + (eE.1.2.2.2.1 + 11) + 64 * (d' + 1) ≤ 64 * (d' + 1 + 1); omega⟩, hts _ w4, hts _ w10⟩
            have hrun := va_runV (e := e) (below := below) (meth := meth) (locs := locs) (g := F0 m pc la ((as.reverse ++ Value.ref b :: rest).map (ax_cv q))) (As := as.map (ax_cv q)) (rest := rest.map (ax_cv q)) ⟨hx, hb, hml, hown, hts⟩ hM hcw ⟨ax_blind, hrec, hpre (.ref b :: as)⟩ rfl (by simp [hlen]) hl.2.1 (by simp [ax_cv]) (lv_room (by rw [ax_cats]; exact hct)) hd ⟨Nat.le_refl _, Nat.le_refl _⟩
            exact ax_call hrun hV.2.2 hgo
          · obtain ⟨eE, as, rest, he, hf, hlen, rfl, hct, hfl, rfl⟩ := ax_is_inv h1
            obtain ⟨w1, w2, w3, w4, -, w5, w6, w7, w8, w9⟩ := ax_mlk_spec he
            have w4 := w4 hf
            have hM := ax_met_of IH (M := eE.1) ⟨w2, w5, w6⟩ hfl hz
            have hcw : CallB (ax_room (d' + 1)) s args (ax_own M.1) j eE.1.2.1 eE.1.2.2.1 eE.1.2.2.2.1 eE.1.2.2.2.2 (ax_wM eE.1) (ax_room d') 0 0 eE.2.2.1 ∧ (Jvm.Cond.static eE.1.2.1).before args s = true :=
              ⟨callB_of eE.2.2.1 hts (ax_goodT _ (List.forall_mem_cons.mpr ⟨w2, fun w hw => hw⟩)) rfl rfl rfl (hts _ w3) (hts _ w1) ⟨w7.1, w7.2, w8⟩ ⟨by show d' + 1 + 1 ≤ d' + 1 + 1; omega, by show 8 + (eE.1.2.2.2.1 + 11) + 64 * (d' + 1) ≤ 64 * (d' + 1 + 1); omega⟩, hts _ w4⟩
            have hrun := va_runS (e := e) (below := below) (meth := meth) (locs := locs) (g := F0 m pc la ((as.reverse ++ rest).map (ax_cv q))) (As := as.map (ax_cv q)) (rest := rest.map (ax_cv q)) ⟨hx, hb, hml, hown, hts⟩ hM hcw ⟨ax_blind, hpre as⟩ rfl (by simp [hlen]) hl.2.1 (by simp) (lv_room (by rw [ax_cats]; exact hct)) hd ⟨Nat.le_refl _, Nat.le_refl _⟩
            exact ax_call hrun hV.2.2 hgo
