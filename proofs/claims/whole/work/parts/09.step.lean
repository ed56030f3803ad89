/-! every instruction -/
section AXT
variable {p : Program} {l : Launch} {e : Env} {R : Room} {s : State} {m : MethodId} {args : Array Value} {below : List Frame} {meth : Method} {c : Code} {H : Heap} {locs : List Loc} {Q : State → Prop}
variable {ks : ax_K} {D : va_G} {cA : Nat → ClassId} {q : Nat → Nat} {h : ax_H} {M : ax_M} {pc : Nat} {la : Array Slot} {ls : ax_L} {st rest : List Value} {x : Nat × ax_L × List Value × ax_H}
theorem ax_const_mem : Jvm.Cond.constantLong "PackageRulesModel" 165 64 ∈ ax_tb := List.mem_filter.mpr ⟨List.mem_of_getElem? (i := 914) (by decide +kernel), rfl⟩
theorem ax_min_mem : Jvm.Cond.methodLink "PackageRules$UnitReader" 153 Lib.Math.min.name ∈ ax_tb ∧ Jvm.Cond.static Lib.Math.min.name ∈ ax_tb ∧ Jvm.Cond.initialized "java/lang/Math" ∈ ax_tb ∧ Jvm.Cond.code Lib.Math.min.name Lib.Math.min.code 2 (some .int) ∈ ax_tb :=
  ⟨List.mem_filter.mpr ⟨List.mem_of_getElem? (i := 448) (by decide +kernel), rfl⟩, List.mem_filter.mpr ⟨List.mem_of_getElem? (i := 449) (by decide +kernel), rfl⟩, List.mem_filter.mpr ⟨List.mem_of_getElem? (i := 92) (by decide +kernel), rfl⟩, List.mem_filter.mpr ⟨List.mem_of_getElem? (i := 450) (by decide +kernel), rfl⟩⟩
set_option maxHeartbeats 4000000 in
theorem ax_stepW (C : ax_C p s m args meth c M) (hK : va_K D ax_cl (ax_tys cA) s) (hR : 1 ≤ R.frames ∧ 32 ≤ R.locals) (hV : ax_V ks D cA q h s H locs) (hl : ax_lr q la M.2.2.2.1 ls) {i : Instr} {len : Nat} (hd : decode M.2.2.1 pc = .ok (i, len)) (hr : ax_ex ks M pc ls st h i len = some (.inl x))
    (kk : ∀ H' locs' la', ax_V ks D cA q x.2.2.2 s H' locs' → ax_lr q la' M.2.2.2.1 x.2.1 → W p l e R s m args below meth c H' locs' 0 0 Q (F0 m x.1 la' (x.2.2.1.map (ax_cv q)))) : W p l e R s m args below meth c H locs 0 0 Q (F0 m pc la (st.map (ax_cv q))) := by
  have C0 := C
  obtain ⟨hx, hb, hml, hret, hlocks, hown, hts, hN⟩ := C
  unfold ax_ex at hr
  split at hr
  · obtain ⟨st1, h1, rfl⟩ := ax_go_inv hr
    cases h1
    refine lv_iconst hx hb hd rfl ?_
    exact kk H locs la hV hl
  · obtain ⟨st1, h1, rfl⟩ := ax_go_inv hr
    cases h1
    refine lv_bipush hx hb hd rfl ?_
    exact kk H locs la hV hl
  · obtain ⟨st1, h1, rfl⟩ := ax_go_inv hr
    cases h1
    refine lv_sipush hx hb hd rfl ?_
    exact kk H locs la hV hl
  · obtain ⟨st1, h1, rfl⟩ := ax_go_inv hr
    cases h1
    refine lv_lconst hx hb hd rfl ?_
    exact kk H locs la hV hl
  · split at hr
    · rename_i hc
      obtain ⟨st1, h1, rfl⟩ := ax_go_inv hr
      cases h1
      obtain ⟨h5, rfl⟩ := hc
      rw [h5] at hown
      refine lv_ldc2 hx hb hown (hts _ ax_const_mem) hd ?_
      exact kk H locs la hV hl
    · cases hr
  · obtain ⟨st1, h1, rfl⟩ := ax_go_inv hr
    obtain ⟨y, h2, rfl⟩ := ax_ldi_inv h1
    refine lv_iload_n hx hb hd rfl (hl.at h2) ?_
    exact kk H locs la hV hl
  · obtain ⟨st1, h1, rfl⟩ := ax_go_inv hr
    obtain ⟨y, h2, rfl⟩ := ax_ldi_inv h1
    refine lv_iload hx hb hd (hl.at h2) ?_
    exact kk H locs la hV hl
  · obtain ⟨st1, h1, rfl⟩ := ax_go_inv hr
    obtain ⟨y, h2, rfl⟩ := ax_ldl_inv h1
    refine lv_lload_n hx hb hd rfl (hl.at h2) ?_
    exact kk H locs la hV hl
  · obtain ⟨st1, h1, rfl⟩ := ax_go_inv hr
    obtain ⟨y, h2, rfl⟩ := ax_ldl_inv h1
    refine lv_lload hx hb hd (hl.at h2) ?_
    exact kk H locs la hV hl
  · obtain ⟨st1, h1, rfl⟩ := ax_go_inv hr
    obtain ⟨y, h2, rfl⟩ := ax_lda_inv h1
    refine lv_aload_n hx hb hd rfl (hl.at h2) ?_
    exact kk H locs la hV hl
  · unfold ax_sti at hr
    split at hr
    · split at hr
      · rename_i hi
        cases hr
        rw [hl.1] at hi
        refine lv_istore_n hx hb hd rfl hl.2 hi rfl (fun la1 h1 => ?_)
        exact kk H locs la1 hV (ax_lr.s1 hl.1 hi h1)
      · cases hr
    · cases hr
  · unfold ax_sti at hr
    split at hr
    · split at hr
      · rename_i hi
        cases hr
        rw [hl.1] at hi
        refine lv_istore hx hb hd hl.2 hi rfl (fun la1 h1 => ?_)
        exact kk H locs la1 hV (ax_lr.s1 hl.1 hi h1)
      · cases hr
    · cases hr
  · unfold ax_stl at hr
    split at hr
    · split at hr
      · rename_i hi
        cases hr
        rw [hl.1] at hi
        refine lv_lstore_n hx hb hd rfl hl.2 hi rfl (fun la1 h1 => ?_)
        exact kk H locs la1 hV (ax_lr.s2 hl.1 hi h1)
      · cases hr
    · cases hr
  · unfold ax_stl at hr
    split at hr
    · split at hr
      · rename_i hi
        cases hr
        rw [hl.1] at hi
        refine lv_lstore hx hb hd hl.2 hi rfl (fun la1 h1 => ?_)
        exact kk H locs la1 hV (ax_lr.s2 hl.1 hi h1)
      · cases hr
    · cases hr
  · unfold ax_sta at hr
    split at hr
    · split at hr
      · rename_i hi
        cases hr
        rw [hl.1] at hi
        refine lv_astore_n hx hb hd rfl hl.2 hi rfl (fun la1 h1 => ?_)
        exact kk H locs la1 hV (ax_lr.s1 hl.1 hi h1)
      · cases hr
    · cases hr
  · unfold ax_inc at hr
    split at hr
    · rename_i y hy
      cases hr
      have hi := (List.getElem?_eq_some_iff.mp hy).1
      rw [hl.1] at hi
      obtain ⟨k, hk⟩ := List.getElem?_of_mem (ax_pr_mem q ls 0 _ _ hy)
      rw [Nat.zero_add] at hk
      refine lv_iinc hx hb hd hl.2 hk rfl hi rfl (fun la1 h1 => ?_)
      exact kk H locs la1 hV (ax_lr.s1 hl.1 hi h1)
    · cases hr
  · obtain ⟨st1, h1, rfl⟩ := ax_go_inv hr
    obtain ⟨y, z, v, r, rfl, h2, rfl⟩ := ax_i2_inv h1
    cases h2
    refine lv_iadd hx hb hd ?_
    exact kk H locs la hV hl
  · obtain ⟨st1, h1, rfl⟩ := ax_go_inv hr
    obtain ⟨y, z, v, r, rfl, h2, rfl⟩ := ax_i2_inv h1
    cases h2
    refine lv_isub hx hb hd ?_
    exact kk H locs la hV hl
  · obtain ⟨st1, h1, rfl⟩ := ax_go_inv hr
    obtain ⟨y, z, v, r, rfl, h2, rfl⟩ := ax_i2_inv h1
    cases h2
    refine lv_imul hx hb hd ?_
    exact kk H locs la hV hl
  · obtain ⟨st1, h1, rfl⟩ := ax_go_inv hr
    obtain ⟨y, z, v, r, rfl, h2, rfl⟩ := ax_i2_inv h1
    cases h2
    refine lv_iand hx hb hd ?_
    exact kk H locs la hV hl
  · obtain ⟨st1, h1, rfl⟩ := ax_go_inv hr
    obtain ⟨y, z, v, r, rfl, h2, rfl⟩ := ax_i2_inv h1
    cases h2
    refine lv_ior hx hb hd ?_
    exact kk H locs la hV hl
  · obtain ⟨st1, h1, rfl⟩ := ax_go_inv hr
    obtain ⟨y, z, v, r, rfl, h2, rfl⟩ := ax_i2_inv h1
    split at h2
    · cases h2
    · rename_i hne
      cases h2
      refine lv_idiv hx hb hd hne ?_
      exact kk H locs la hV hl
  · obtain ⟨st1, h1, rfl⟩ := ax_go_inv hr
    obtain ⟨y, z, v, r, rfl, h2, rfl⟩ := ax_i2_inv h1
    split at h2
    · cases h2
    · rename_i hne
      cases h2
      refine lv_irem hx hb hd hne ?_
      exact kk H locs la hV hl
  · obtain ⟨st1, h1, rfl⟩ := ax_go_inv hr
    obtain ⟨y, z, v, r, rfl, h2, rfl⟩ := ax_i2_inv h1
    cases h2
    refine lv_ishl hx hb hd ?_
    exact kk H locs la hV hl
  · obtain ⟨st1, h1, rfl⟩ := ax_go_inv hr
    obtain ⟨y, z, v, r, rfl, h2, rfl⟩ := ax_i2_inv h1
    cases h2
    refine lv_ishr hx hb hd ?_
    exact kk H locs la hV hl
  · obtain ⟨st1, h1, rfl⟩ := ax_go_inv hr
    obtain ⟨y, z, v, r, rfl, h2, rfl⟩ := ax_i2_inv h1
    cases h2
    refine lv_iushr hx hb hd rfl ?_
    exact kk H locs la hV hl
  · obtain ⟨st1, h1, rfl⟩ := ax_go_inv hr
    obtain ⟨y, z, v, r, rfl, h2, rfl⟩ := ax_l2_inv h1
    cases h2
    refine lv_ladd hx hb hd ?_
    exact kk H locs la hV hl
  · obtain ⟨st1, h1, rfl⟩ := ax_go_inv hr
    obtain ⟨y, z, v, r, rfl, h2, rfl⟩ := ax_l2_inv h1
    cases h2
    refine lv_lsub hx hb hd ?_
    exact kk H locs la hV hl
  · obtain ⟨st1, h1, rfl⟩ := ax_go_inv hr
    obtain ⟨y, z, v, r, rfl, h2, rfl⟩ := ax_l2_inv h1
    cases h2
    refine lv_lmul hx hb hd ?_
    exact kk H locs la hV hl
  · obtain ⟨st1, h1, rfl⟩ := ax_go_inv hr
    obtain ⟨y, z, v, r, rfl, h2, rfl⟩ := ax_l2_inv h1
    cases h2
    refine lv_land hx hb hd ?_
    exact kk H locs la hV hl
  · obtain ⟨st1, h1, rfl⟩ := ax_go_inv hr
    obtain ⟨y, z, v, r, rfl, h2, rfl⟩ := ax_l2_inv h1
    cases h2
    refine lv_lor hx hb hd ?_
    exact kk H locs la hV hl
  · obtain ⟨st1, h1, rfl⟩ := ax_go_inv hr
    obtain ⟨y, z, v, r, rfl, h2, rfl⟩ := ax_l2_inv h1
    split at h2
    · cases h2
    · rename_i hne
      cases h2
      refine lv_ldiv hx hb hd hne ?_
      exact kk H locs la hV hl
  · obtain ⟨st1, h1, rfl⟩ := ax_go_inv hr
    obtain ⟨y, z, v, r, rfl, h2, rfl⟩ := ax_l2_inv h1
    split at h2
    · cases h2
    · rename_i hne
      cases h2
      refine lv_lrem hx hb hd hne ?_
      exact kk H locs la hV hl
  · obtain ⟨st1, h1, rfl⟩ := ax_go_inv hr
    obtain ⟨y, z, v, r, rfl, h2, rfl⟩ := ax_l2_inv h1
    cases h2
    refine W.lcmp hx hb hd ?_
    exact kk H locs la hV hl
  · obtain ⟨st1, h1, rfl⟩ := ax_go_inv hr
    obtain ⟨y, z, v, r, rfl, h2, rfl⟩ := ax_li_inv h1
    cases h2
    refine lv_lshl hx hb hd rfl ?_
    exact kk H locs la hV hl
  · obtain ⟨st1, h1, rfl⟩ := ax_go_inv hr
    obtain ⟨y, z, v, r, rfl, h2, rfl⟩ := ax_li_inv h1
    cases h2
    refine lv_lushr hx hb hd rfl ?_
    exact kk H locs la hV hl
  · obtain ⟨st1, h1, rfl⟩ := ax_go_inv hr
    obtain ⟨y, v, r, rfl, h2, rfl⟩ := ax_i1_inv h1
    cases h2
    refine lv_i2l hx hb hd rfl ?_
    exact kk H locs la hV hl
  · obtain ⟨st1, h1, rfl⟩ := ax_go_inv hr
    obtain ⟨y, v, r, rfl, h2, rfl⟩ := ax_l1_inv h1
    cases h2
    refine lv_l2i hx hb hd rfl ?_
    exact kk H locs la hV hl
  · obtain ⟨st1, h1, rfl⟩ := ax_go_inv hr
    unfold ax_du at h1
    split at h1
    · split at h1
      · rename_i hc
        cases h1
        refine lv_dup hx hb hd (by rw [ax_cat]; exact hc) ?_
        exact kk H locs la hV hl
      · cases h1
    · cases h1
  · obtain ⟨st1, h1, rfl⟩ := ax_go_inv hr
    unfold ax_d2 at h1
    split at h1
    · split at h1
      · rename_i hc
        cases h1
        refine lv_dup2_11 hx hb hd (by rw [ax_cat]; exact hc.1) (by rw [ax_cat]; exact hc.2) ?_
        exact kk H locs la hV hl
      · cases h1
    · cases h1
  · obtain ⟨st1, h1, rfl⟩ := ax_go_inv hr
    unfold ax_po at h1
    split at h1
    · split at h1
      · rename_i hc
        cases h1
        refine lv_pop hx hb hd (by rw [ax_cat]; exact hc) ?_
        exact kk H locs la hV hl
      · cases h1
    · cases h1
  · unfold ax_br1 at hr
    split at hr
    · split at hr
      · rename_i h0
        cases hr
        refine ax_if1 hx hb hd (Int.toNat_of_nonneg h0).symm ?_
        exact kk H locs la hV hl
      · cases hr
    · cases hr
  · unfold ax_br2 at hr
    split at hr
    · split at hr
      · rename_i h0
        cases hr
        refine ax_if2 hx hb hd (Int.toNat_of_nonneg h0).symm ?_
        exact kk H locs la hV hl
      · cases hr
    · cases hr
  · obtain ⟨ht, rfl⟩ := ax_jm_inv hr
    exact lv_goto hx hb hd ht (kk H locs la hV hl)
  · unfold ax_lsw at hr
    split at hr
    · split at hr
      · rename_i hp
        obtain ⟨ht, rfl⟩ := ax_jm_inv hr
        exact lv_lookup hx hb hd hp rfl ht (kk H locs la hV hl)
      · cases hr
    · cases hr
  · unfold ax_tsw at hr
    split at hr
    · split at hr
      · rename_i ho
        obtain ⟨ht, rfl⟩ := ax_jm_inv hr
        exact lv_tableOut hx hb hd ho ht (kk H locs la hV hl)
      · rename_i ho
        split at hr
        · rename_i off hoff
          obtain ⟨ht, rfl⟩ := ax_jm_inv hr
          exact lv_tableIn hx hb hd (fun n => ho (Or.inl n)) (fun n => ho (Or.inr n)) hoff ht (kk H locs la hV hl)
        · cases hr
    · cases hr
  · exact ax_gfW C0 hK hV hd hr (fun e1 e2 => kk H locs la (by rw [e1]; exact hV) (by rw [e2]; exact hl))
  · exact ax_pfW C0 hK hV hd hr (fun H1 locs1 hV1 e2 => kk H1 locs1 la hV1 (by rw [e2]; exact hl))
  · exact ax_alW C0 hK hV (Or.inl ⟨rfl, rfl⟩) hd hr (fun e1 e2 => kk H locs la (by rw [e1]; exact hV) (by rw [e2]; exact hl))
  · exact ax_alW C0 hK hV (Or.inr (Or.inl ⟨rfl, rfl⟩)) hd hr (fun e1 e2 => kk H locs la (by rw [e1]; exact hV) (by rw [e2]; exact hl))
  · exact ax_alW C0 hK hV (Or.inr (Or.inr (Or.inl ⟨rfl, rfl⟩))) hd hr (fun e1 e2 => kk H locs la (by rw [e1]; exact hV) (by rw [e2]; exact hl))
  · exact ax_alW C0 hK hV (Or.inr (Or.inr (Or.inr ⟨rfl, rfl⟩))) hd hr (fun e1 e2 => kk H locs la (by rw [e1]; exact hV) (by rw [e2]; exact hl))
  · exact ax_asW C0 hK hV (Or.inl ⟨rfl, rfl⟩) hd hr (fun H1 locs1 hV1 e2 => kk H1 locs1 la hV1 (by rw [e2]; exact hl))
  · exact ax_asW C0 hK hV (Or.inr (Or.inl ⟨rfl, rfl⟩)) hd hr (fun H1 locs1 hV1 e2 => kk H1 locs1 la hV1 (by rw [e2]; exact hl))
  · exact ax_asW C0 hK hV (Or.inr (Or.inr (Or.inl ⟨rfl, rfl⟩))) hd hr (fun H1 locs1 hV1 e2 => kk H1 locs1 la hV1 (by rw [e2]; exact hl))
  · exact ax_asW C0 hK hV (Or.inr (Or.inr (Or.inr ⟨rfl, rfl⟩))) hd hr (fun H1 locs1 hV1 e2 => kk H1 locs1 la hV1 (by rw [e2]; exact hl))
  · exact ax_lenW C0 hK hV hd hr (fun e1 e2 => kk H locs la (by rw [e1]; exact hV) (by rw [e2]; exact hl))
  · exact (ax_iv_no hr).elim
  · split at hr
    · rename_i hm
      obtain ⟨h5, rfl⟩ := hm
      rw [h5] at hown
      unfold ax_mi at hr
      split at hr
      · split at hr
        · rename_i hc
          cases hr
          exact va_mmin hx hb (hml.trans (hl.2.1.symm)) hown (hts _ ax_min_mem.1) (hts _ ax_min_mem.2.1) (hts _ ax_min_mem.2.2.1) (hts _ ax_min_mem.2.2.2) hR.1 (by rw [ax_cats]; unfold ax_ct at hc; omega) (Nat.zero_le _) (Nat.zero_le _) hd (kk H locs la hV hl)
        · cases hr
      · cases hr
    · exact (ax_is_no hr).elim
  · exact (ax_ri_no hr).elim
  · exact (ax_rl_no hr).elim
  · exact (ax_rv_no hr).elim
  · cases hr
end AXT
