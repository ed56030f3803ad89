/-! making things: each new cell takes the next role -/
def ay_A (base : Nat) : Nat → Prop := fun a => base ≤ a
abbrev ay_R : Type := Nat → Nat → Option Nat
def ay_z (R : ay_R) : ax_H := (fun _ _ => 0, fun _ _ => 0, R)
def ay_up (R : ay_R) (r k x : Nat) : ay_R := fun a b => if a = r ∧ b = k then some x else R a b
def ay_ws (ks : ax_K) (q : Nat → Nat) (cA : Nat → ClassId) (R : ay_R) : va_W := ax_ws ks q cA (ay_z R)
def ay_c (ks : ax_K) (R : ay_R) : Prop := ∀ r k x, R r k = some x → r < ks.length ∧ x < ks.length
def ay_n (q : Nat → Nat) (n a : Nat) : Nat → Nat := fun r => if r = n then a else q r
def ay_N (U : State) : Prop := ax_Ns U ∧ va_AO "PackageRules$Unit" U ∧ va_AO "PackageRules$Rule" U
theorem ay_N.warm {s U : State} (hW : s.WarmedH U.vm) (h : ay_N s) : ay_N U := ⟨h.1.warm hW, h.2.1.moved hW.alike, h.2.2.moved hW.alike⟩
theorem ay_N.same {s U : State} (hW : s.vm = U.vm) (h : ay_N s) : ay_N U := ⟨h.1.same hW, h.2.1.moved (by rw [hW]; exact Vm.Alike.refl _), h.2.2.moved (by rw [hW]; exact Vm.Alike.refl _)⟩
def ay_V (D : va_G) (cA : Nat → ClassId) (base : Nat) (q : Nat → Nat) (ks : ax_K) (R : ay_R) (s : State) (H : Heap) (locs : List Loc) : Prop := va_P D ax_cl (ay_ws ks q cA R) H ∧ va_D (ay_A base) (ay_ws ks q cA R) ∧ va_S (ay_A base) s.heap H locs ∧ ay_c ks R ∧ base ≤ s.heap.size
def ay_W (D : va_G) (cA : Nat → ClassId) (base : Nat) (q : Nat → Nat) (ks : ax_K) (R : ay_R) (U : State) : Prop := va_P D ax_cl (ay_ws ks q cA R) U.heap ∧ va_K D ax_cl (ax_tys cA) U ∧ va_D (ay_A base) (ay_ws ks q cA R) ∧ ay_c ks R ∧ ay_N U ∧ base ≤ U.heap.size
def ay_Q (D : va_G) (cA : Nat → ClassId) (base : Nat) (q : Nat → Nat) (n : Nat) (ks : ax_K) (R : ay_R) : Array Value → State → Outcome → State → Prop := fun _ st oc t => oc = .returned none ∧ (∃ q', (∀ r, r < n → q' r = q r) ∧ ay_W D cA base q' ks R t) ∧ va_F (ay_A base) st t
theorem ax_ce_q {q q' : Nat → Nat} {cA : Nat → ClassId} {h : ax_H} {r : Nat} (hq : ∀ k x, h.2.2 r k = some x → q' x = q x) (kd : Nat × Nat) : ax_ce q' cA h r kd = ax_ce q cA h r kd := by
  have e1 : ∀ k, (h.2.2 r k).map q' = (h.2.2 r k).map q := fun k => by
    cases e : h.2.2 r k with
    | none => rfl
    | some x => exact congrArg some (hq k x e)
  have e2 : ∀ ty k, ax_cv q' (ax_fv h ty r k) = ax_cv q (ax_fv h ty r k) := fun ty k => by
    have e3 : ax_cv q' (va_rf (h.2.2 r k)) = ax_cv q (va_rf (h.2.2 r k)) := by rw [ax_rf, ax_rf, e1]
    cases ty <;> first | rfl | exact e3
  have e4 : ∀ ci, ax_fs q' h ci r = ax_fs q h ci r := fun ci => by unfold ax_fs; simp only [e2]
  obtain ⟨t, n⟩ := kd
  unfold ax_ce
  match t with
  | 0 => simp only [e4]
  | 1 => rfl
  | 2 => rfl
  | 3 => rfl
  | t + 4 => simp only [e1]
theorem ay_ws_push {ks : ax_K} {R : ay_R} (hc : ay_c ks R) (kd : Nat × Nat) (q : Nat → Nat) (a : Nat) (cA : Nat → ClassId) : ay_ws (ks ++ [kd]) (ay_n q ks.length a) cA R = ay_ws ks q cA R ++ [(a, ax_ce (ay_n q ks.length a) cA (ay_z R) ks.length kd)] := by
  unfold ay_ws ax_ws
  rw [List.mapIdx_concat]
  have e0 : ay_n q ks.length a ks.length = a := if_pos rfl
  rw [e0]
  congr 1
  apply List.ext_getElem?
  intro i
  rw [List.getElem?_mapIdx, List.getElem?_mapIdx]
  cases h : ks[i]? with
  | none => rfl
  | some kd2 =>
    have hi : i < ks.length := (List.getElem?_eq_some_iff.mp h).1
    have e1 : ay_n q ks.length a i = q i := if_neg (by omega)
    have e2 : ax_ce (ay_n q ks.length a) cA (ay_z R) i kd2 = ax_ce q cA (ay_z R) i kd2 := ax_ce_q (fun k x hx => if_neg (by have := (hc i k x hx).2; omega)) kd2
    simp only [Option.map_some, e1, e2]
theorem ay_c.push {ks : ax_K} {R : ay_R} (hc : ay_c ks R) (kd : Nat × Nat) : ay_c (ks ++ [kd]) R := fun r k x h => by have := hc r k x h; rw [List.length_append]; simp; omega
theorem ay_c.none {ks : ax_K} {R : ay_R} (hc : ay_c ks R) (k : Nat) : R ks.length k = none := by
  cases h : R ks.length k with
  | none => rfl
  | some x => have := (hc _ _ _ h).1; omega
theorem ay_c.up {ks : ax_K} {R : ay_R} (hc : ay_c ks R) {r x : Nat} (hr : r < ks.length) (hx : x < ks.length) (k : Nat) : ay_c ks (ay_up R r k x) := fun a b y h => by
  unfold ay_up at h
  by_cases e : a = r ∧ b = k
  · rw [if_pos e] at h; cases h; exact ⟨by omega, hx⟩
  · rw [if_neg e] at h; exact hc a b y h
def ayk (ty : FieldType) : Bool := match ty with
  | .int => true
  | .long => true
  | .object _ => true
  | .array _ => true
  | _ => false
theorem ayk_all : ∀ ci, ci < 6 → ∀ j, j < ax_N ci → ayk (ax_ty ci j) = true := by decide +kernel
theorem ay_def {ty : FieldType} (h : ayk ty = true) (q : Nat → Nat) (R : ay_R) (r j : Nat) (hR : R r j = none) : defaultValue ty = ax_cv q (ax_fv (ay_z R) ty r j) := by
  have e : ax_cv q (va_rf (R r j)) = .null := by rw [hR]; rfl
  cases ty <;> first | rfl | exact e.symm | (cases h)
section AY
variable {p : Program} {l : Launch} {e : Env} {Rm : Room} {s : State} {m : MethodId} {args : Array Value} {below : List Frame} {meth : Method} {c : Code} {H : Heap} {locs : List Loc} {cells slots : Nat} {Q : State → Prop}
variable {D : va_G} {cA : Nat → ClassId} {base : Nat} {q : Nat → Nat} {ks : ax_K} {R : ay_R} {cc : ByteArray} {pc : Nat} {la : Array Slot} {rest : List Value} {o : Nat}
theorem ay_newa (hx : p.tables.exec = Jvm.exec) (hb : c.code = cc) {aty : ArrayType} {t N : Nat} (ht : (t = 1 ∧ aty = .int) ∨ (t = 2 ∧ aty = .long) ∨ (t = 3 ∧ aty = .boolean)) (harr : (Cond.arrayClass (newarray.typeOf aty)).before args s = true) (hN : N < 100000) (hK : va_K D ax_cl (ax_tys cA) s) (hV : ay_V D cA base q ks R s H locs) (hcells : cells + 1 ≤ Rm.cells) (hslots : slots + N ≤ Rm.slots) (hdg : decode cc pc = .ok (.newarray aty, 2))
    (kk : ∀ H1 a, ay_V D cA base (ay_n q ks.length a) (ks ++ [(t, N)]) R s H1 locs → W p l e Rm s m args below meth c H1 locs (cells + 1) (slots + N) Q (F0 m (pc + 2) la (.ref a :: rest))) : W p l e Rm s m args below meth c H locs cells slots Q (F0 m pc la (.int (nI N) :: rest)) := by
  obtain ⟨v2, v3, v4, v5, v6⟩ := hV
  have hA : ∀ z, s.heap.size ≤ z → ay_A base z := fun z hz => Nat.le_trans v6 hz
  have fin : ∀ (a : Nat) (H1 : Heap) (ce : va_E), ce = ax_ce (ay_n q ks.length a) cA (ay_z R) ks.length (t, N) → va_P D ax_cl (ay_ws ks q cA R ++ [(a, ce)]) H1 → va_D (ay_A base) (ay_ws ks q cA R ++ [(a, ce)]) → va_S (ay_A base) s.heap H1 locs → ay_V D cA base (ay_n q ks.length a) (ks ++ [(t, N)]) R s H1 locs := fun a H1 ce hce hP hD hS => by
    rw [hce, ← ay_ws_push v5] at hP hD
    exact ⟨hP, hD, hS, v5.push _, v6⟩
  rcases ht with ⟨rfl, rfl⟩ | ⟨rfl, rfl⟩ | ⟨rfl, rfl⟩
  · refine va_newa (ty := .int) (a0 := (N, .inl (fun _ => 0))) hx hb harr rfl hK v2 v3 v4 hA (fun _ => rfl) (nI_pos (by omega)) (nI_clamp (by omega)) (by show N * 4 ≤ _; omega) hcells hslots hdg (fun a cB H1 hK1 hP hD hS => kk H1 a (fin a H1 _ ?_ hP hD hS))
    have h9 : s.vm.findClass ("[" ++ FieldType.int.toString) = some (cA 1) := (hK.2 0 _ rfl).2
    have h7 : s.vm.findClass ("[" ++ FieldType.int.toString) = some cB := (hK1.2 5 _ rfl).2
    rw [Option.some.inj (h7.symm.trans h9)]; rfl
  · refine va_newa (ty := .long) (a0 := (N, .inr (.inl (fun _ => 0)))) hx hb harr rfl hK v2 v3 v4 hA (fun _ => rfl) (nI_pos (by omega)) (nI_clamp (by omega)) (by show N * 8 ≤ _; omega) hcells hslots hdg (fun a cB H1 hK1 hP hD hS => kk H1 a (fin a H1 _ ?_ hP hD hS))
    have h9 : s.vm.findClass ("[" ++ FieldType.long.toString) = some (cA 2) := (hK.2 1 _ rfl).2
    have h7 : s.vm.findClass ("[" ++ FieldType.long.toString) = some cB := (hK1.2 5 _ rfl).2
    rw [Option.some.inj (h7.symm.trans h9)]; rfl
  · refine va_newa (ty := .boolean) (a0 := (N, .inl (fun _ => 0))) hx hb harr rfl hK v2 v3 v4 hA (fun _ => rfl) (nI_pos (by omega)) (nI_clamp (by omega)) (by show N * 1 ≤ _; omega) hcells hslots hdg (fun a cB H1 hK1 hP hD hS => kk H1 a (fin a H1 _ ?_ hP hD hS))
    have h9 : s.vm.findClass ("[" ++ FieldType.boolean.toString) = some (cA 3) := (hK.2 2 _ rfl).2
    have h7 : s.vm.findClass ("[" ++ FieldType.boolean.toString) = some cB := (hK1.2 5 _ rfl).2
    rw [Option.some.inj (h7.symm.trans h9)]; rfl
theorem ay_new (hx : p.tables.exec = Jvm.exec) (hb : c.code = cc) (hts : ∀ w ∈ ax_tb, w.before args s = true) {own : String} (hown : s.vm.findClass own = some m.cls) {ci idx : Nat} (hci : ci < 6) (hcl : (Cond.classLink own idx (ax_own ci)).before args s = true) (hinst : (Cond.instantiable (ax_own ci) (ax_N ci)).before args s = true) (hini : (Cond.initialized (ax_own ci)).before args s = true) (hK : va_K D ax_cl (ax_tys cA) s) (hV : ay_V D cA base q ks R s H locs) (hcells : cells + 1 ≤ Rm.cells) (hslots : slots + ax_N ci ≤ Rm.slots) (hdg : decode cc pc = .ok (.new idx, 3))
    (kk : ∀ H1 a, ay_V D cA base (ay_n q ks.length a) (ks ++ [(0, ci)]) R s H1 locs → W p l e Rm s m args below meth c H1 locs (cells + 1) (slots + ax_N ci) Q (F0 m (pc + 3) la (.ref a :: rest))) : W p l e Rm s m args below meth c H locs cells slots Q (F0 m pc la rest) := by
  obtain ⟨v2, v3, v4, v5, v6⟩ := hV
  have hA : ∀ z, s.heap.size ≤ z → ay_A base z := fun z hz => Nat.le_trans v6 hz
  have fq : ∀ a, ax_fs q (ay_z R) ci ks.length = ax_fs (ay_n q ks.length a) (ay_z R) ci ks.length := fun a => by
    have := ax_ce_q (q := q) (q' := ay_n q ks.length a) (cA := cA) (h := ay_z R) (r := ks.length) (fun k x hx => by have h2 := v5.none k; have h3 : R ks.length k = some x := hx; rw [h2] at h3; cases h3) (0, ci)
    have h4 : (Sum.inr (ci, ax_fs (ay_n q ks.length a) (ay_z R) ci ks.length) : va_E) = .inr (ci, ax_fs q (ay_z R) ci ks.length) := this
    exact (Prod.mk.inj (Sum.inr.inj h4)).2.symm
  refine va_new (T := ax_Tb ci) (fs := ax_fs q (ay_z R) ci ks.length) hx hb hts (ax_inA hci) (ax_ty ci) (ax_tyA hci) hown hcl hinst hini hK v2 v3 v4 hA (ax_cl_at hci) (fun j hj => ?_) hcells hslots hdg (fun a H1 hP hD hS => kk H1 a ?_)
  · unfold vp_V
    rw [List.getD_eq_getElem?_getD, ax_fs_at hj]
    exact ay_def (ayk_all ci hci j hj) _ R _ _ (v5.none j)
  · rw [fq a] at hP hD
    have e := ay_ws_push v5 (0, ci) q a cA
    have e2 : ay_ws ks q cA R ++ [(a, .inr (ci, ax_fs (ay_n q ks.length a) (ay_z R) ci ks.length))] = ay_ws (ks ++ [(0, ci)]) (ay_n q ks.length a) cA R := e.symm
    rw [e2] at hP hD
    exact ⟨hP, hD, hS, v5.push _, v6⟩
theorem ay_newq (hx : p.tables.exec = Jvm.exec) (hb : c.code = cc) {own : String} (hown : s.vm.findClass own = some m.cls) {C : String} {t idx N : Nat} (ht : (t = 4 ∧ C = "PackageRules$Unit") ∨ (t = 5 ∧ C = "PackageRules$Rule")) (hcl : (Cond.classLink own idx C).before args s = true) (hover : va_AO C s) (hN : N < 100000) (hK : va_K D ax_cl (ax_tys cA) s) (hV : ay_V D cA base q ks R s H locs) (hcells : cells + 1 ≤ Rm.cells) (hslots : slots + N ≤ Rm.slots) (hdg : decode cc pc = .ok (.anewarray idx, 3))
    (kk : ∀ H1 a, ay_V D cA base (ay_n q ks.length a) (ks ++ [(t, N)]) R s H1 locs → W p l e Rm s m args below meth c H1 locs (cells + 1) (slots + N) Q (F0 m (pc + 3) la (.ref a :: rest))) : W p l e Rm s m args below meth c H locs cells slots Q (F0 m pc la (.int (nI N) :: rest)) := by
  obtain ⟨v2, v3, v4, v5, v6⟩ := hV
  have hA : ∀ z, s.heap.size ≤ z → ay_A base z := fun z hz => Nat.le_trans v6 hz
  refine va_newq hx hb hown hcl hover hK v2 v3 v4 hA (nI_pos (by omega)) (nI_clamp (by omega)) (by omega) hcells hslots hdg (fun a cB H1 hK1 hP hD hS => kk H1 a ?_)
  have hn : (fun j => (R ks.length j).map (ay_n q ks.length a)) = fun _ => none := by funext j; rw [v5.none]; rfl
  have hce : (.inl (cB, N, .inr (.inr (.inr (.inr (fun _ => none))))) : va_E) = ax_ce (ay_n q ks.length a) cA (ay_z R) ks.length (t, N) := by
    rcases ht with ⟨rfl, rfl⟩ | ⟨rfl, rfl⟩
    · obtain ⟨_, _, _, _, _, h9⟩ := (hK.2 3 _ rfl).2
      obtain ⟨_, _, _, _, _, h7⟩ := (hK1.2 5 _ rfl).2
      have h8 : cB = cA 4 := Option.some.inj (h7.symm.trans h9)
      rw [h8, ← hn]; rfl
    · obtain ⟨_, _, _, _, _, h9⟩ := (hK.2 4 _ rfl).2
      obtain ⟨_, _, _, _, _, h7⟩ := (hK1.2 5 _ rfl).2
      have h8 : cB = cA 5 := Option.some.inj (h7.symm.trans h9)
      rw [h8, ← hn]; rfl
  rw [hce] at hP hD
  have e2 := ay_ws_push v5 (t, N) q a cA
  unfold ay_ws at e2 hP hD
  rw [← e2] at hP hD
  exact ⟨hP, hD, hS, v5.push _, v6⟩
theorem ay_ws_put {r ci k x : Nat} (hr : ks[r]? = some (0, ci)) (hk : k < ax_N ci) (hty : (∃ n, ax_ty ci k = .object n) ∨ ∃ t, ax_ty ci k = .array t) : (ay_ws ks q cA R).set r (q r, .inr (ci, (ax_fs q (ay_z R) ci r).set k (.ref (q x)))) = ay_ws ks q cA (ay_up R r k x) := by
  refine ax_ws_set (h' := ay_z (ay_up R r k x)) hr ?_ (fun a kd ha => ax_ce_R (k := k) (x := some x) a kd ha)
  have hv : Value.ref (q x) = ax_cv q (ax_fv (ay_z (ay_up R r k x)) (ax_ty ci k) r k) := by
    have e0 : ay_up R r k x r k = some x := by unfold ay_up; rw [if_pos ⟨rfl, rfl⟩]
    have e1 : ax_cv q (va_rf (ay_up R r k x r k)) = Value.ref (q x) := by rw [e0]; rfl
    rcases hty with ⟨n, hn⟩ | ⟨t, hn⟩
    · rw [hn]; exact e1.symm
    · rw [hn]; exact e1.symm
  rw [ax_fs_set hk hv (fun j hj => ?_)]
  · rfl
  · have e0 : va_rf (R r j) = va_rf (ay_up R r k x r j) := by unfold ay_up; rw [if_neg (fun w => hj w.2)]
    cases ax_ty ci j <;> first | rfl | exact e0
/-- a final place, in its own constructor -/
theorem ay_put (hx : p.tables.exec = Jvm.exec) (hb : c.code = cc) (hts : ∀ w ∈ ax_tb, w.before args s = true) (hown : s.vm.findClass (ax_own o) = some m.cls) (hin : meth.name = "<init>") (hK : va_K D ax_cl (ax_tys cA) s) (hV : ay_V D cA base q ks R s H locs) {j r x : Nat} {ee : Nat × Nat × Bool × Nat} (he : ax_flk o j = some ee) (hoe : ee.1 = o) (hnn : ee.2.2.1 = false) (hr : ks[r]? = some (0, ee.1)) (hxl : x < ks.length) (hfin : (ax_Tb ee.1 ee.2.1).2.2.2 = true) (hty : (∃ n, ax_ty ee.1 ee.2.1 = .object n) ∨ ∃ t, ax_ty ee.1 ee.2.1 = .array t) (hdg : decode cc pc = .ok (.putfield j, 3))
    (kk : ∀ H1 locs1, ay_V D cA base q ks (ay_up R r ee.2.1 x) s H1 locs1 → W p l e Rm s m args below meth c H1 locs1 cells slots Q (F0 m (pc + 3) la rest)) : W p l e Rm s m args below meth c H locs cells slots Q (F0 m pc la (.ref (q x) :: .ref (q r) :: rest)) := by
  obtain ⟨a1, a2, a3, a4⟩ := ax_flk_spec he
  have hrl : r < ks.length := (List.getElem?_eq_some_iff.mp hr).1
  rcases a4 with ⟨a4, -⟩ | ⟨-, a4⟩
  · rw [hnn] at a4; cases a4
  · refine va_putF (T := ax_Tb ee.1) (ty := ax_ty ee.1 ee.2.1) hx hb hts (ax_inA a1) (ax_ty ee.1) (ax_tyA a1) (ax_nmA a1) hown hK hV.1 hV.2.1 hV.2.2.1 r (ax_ws_at hr) (ax_cl_at a1) ee.2.1 a2 (hts _ a4) (fun x hx => by rw [a3] at hx; exact hx) hfin hin (by rw [a3, hoe]) (ax_tyA a1 _ a2) (by rcases hty with ⟨n, hn⟩ | ⟨t, hn⟩ <;> (rw [hn]; rfl)) (by rcases hty with ⟨n, hn⟩ | ⟨t, hn⟩ <;> (rw [hn]; rfl)) (by rw [ax_fs_len]; exact a2) hdg (fun H1 locs1 hP hD hS => ?_)
    have e1 := ay_ws_put (q := q) (cA := cA) (R := R) (x := x) hr a2 hty
    rw [e1] at hP hD
    exact kk H1 locs1 ⟨hP, hD, hS, hV.2.2.2.1.up hrl hxl _, hV.2.2.2.2⟩
end AY
