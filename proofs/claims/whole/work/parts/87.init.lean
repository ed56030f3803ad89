/-! what the constructors leave, seen by roles -/
def Rn : ay_R := fun _ _ => none
def kA : ax_K := (KP [(0, 0)] ++ [(0, 5)]) ++ gsQ.map ay_kd
def RA : ay_R := ay_Rs (RP Rn 0 1) 157 158 gsQ
def piC (r : Nat) : Nat := if r < 17 then [0, 1, 6, 118, 119, 156, 2, 3, 4, 5, 7, 112, 113, 114, 115, 116, 117].getD r 0 else if r < 121 then r - 9 else r - 1
def piM (r : Nat) : Nat := 157 + r
def hC0 : ax_H := ay_z (rC (fun c => c) 12 none)
def hM0 : ax_H := ay_z rM
theorem kA_len : kA.length = 182 := by decide +kernel
theorem kA_C : ∀ r, r < 157 → kA[piC r]? = kC[r]? := by decide +kernel
theorem kA_M : ∀ r, r < 25 → kA[piM r]? = kM[r]? := by decide +kernel
theorem piC_lt : ∀ r, r < 157 → piC r < 157 := by decide +kernel
theorem piC_inj : ∀ i, i < 157 → ∀ j, j < 157 → piC i = piC j → i = j := by decide +kernel
theorem RA_M32 : ∀ r, r < 25 → ∀ k, k < 32 → (rM r k).map piM = RA (piM r) k := by decide +kernel
def RC : ay_R := RP Rn 0 1
theorem RC_c0 : ∀ r, r < 8 → ∀ k, k < 14 → (rC (fun c => c) 12 none (0 + r) k).map piC = RC (piC (0 + r)) k := by decide +kernel
theorem RC_c1 : ∀ r, r < 8 → ∀ k, k < 14 → (rC (fun c => c) 12 none (8 + r) k).map piC = RC (piC (8 + r)) k := by decide +kernel
theorem RC_c2 : ∀ r, r < 8 → ∀ k, k < 14 → (rC (fun c => c) 12 none (16 + r) k).map piC = RC (piC (16 + r)) k := by decide +kernel
theorem RC_c3 : ∀ r, r < 8 → ∀ k, k < 14 → (rC (fun c => c) 12 none (24 + r) k).map piC = RC (piC (24 + r)) k := by decide +kernel
theorem RC_c4 : ∀ r, r < 8 → ∀ k, k < 14 → (rC (fun c => c) 12 none (32 + r) k).map piC = RC (piC (32 + r)) k := by decide +kernel
theorem RC_c5 : ∀ r, r < 8 → ∀ k, k < 14 → (rC (fun c => c) 12 none (40 + r) k).map piC = RC (piC (40 + r)) k := by decide +kernel
theorem RC_c6 : ∀ r, r < 8 → ∀ k, k < 14 → (rC (fun c => c) 12 none (48 + r) k).map piC = RC (piC (48 + r)) k := by decide +kernel
theorem RC_c7 : ∀ r, r < 8 → ∀ k, k < 14 → (rC (fun c => c) 12 none (56 + r) k).map piC = RC (piC (56 + r)) k := by decide +kernel
theorem RC_c8 : ∀ r, r < 8 → ∀ k, k < 14 → (rC (fun c => c) 12 none (64 + r) k).map piC = RC (piC (64 + r)) k := by decide +kernel
theorem RC_c9 : ∀ r, r < 8 → ∀ k, k < 14 → (rC (fun c => c) 12 none (72 + r) k).map piC = RC (piC (72 + r)) k := by decide +kernel
theorem RC_c10 : ∀ r, r < 8 → ∀ k, k < 14 → (rC (fun c => c) 12 none (80 + r) k).map piC = RC (piC (80 + r)) k := by decide +kernel
theorem RC_c11 : ∀ r, r < 8 → ∀ k, k < 14 → (rC (fun c => c) 12 none (88 + r) k).map piC = RC (piC (88 + r)) k := by decide +kernel
theorem RC_c12 : ∀ r, r < 8 → ∀ k, k < 14 → (rC (fun c => c) 12 none (96 + r) k).map piC = RC (piC (96 + r)) k := by decide +kernel
theorem RC_c13 : ∀ r, r < 8 → ∀ k, k < 14 → (rC (fun c => c) 12 none (104 + r) k).map piC = RC (piC (104 + r)) k := by decide +kernel
theorem RC_c14 : ∀ r, r < 8 → ∀ k, k < 14 → (rC (fun c => c) 12 none (112 + r) k).map piC = RC (piC (112 + r)) k := by decide +kernel
theorem RC_c15 : ∀ r, r < 8 → ∀ k, k < 14 → (rC (fun c => c) 12 none (120 + r) k).map piC = RC (piC (120 + r)) k := by decide +kernel
theorem RC_c16 : ∀ r, r < 8 → ∀ k, k < 14 → (rC (fun c => c) 12 none (128 + r) k).map piC = RC (piC (128 + r)) k := by decide +kernel
theorem RC_c17 : ∀ r, r < 8 → ∀ k, k < 14 → (rC (fun c => c) 12 none (136 + r) k).map piC = RC (piC (136 + r)) k := by decide +kernel
theorem RC_c18 : ∀ r, r < 8 → ∀ k, k < 14 → (rC (fun c => c) 12 none (144 + r) k).map piC = RC (piC (144 + r)) k := by decide +kernel
theorem RC_c19 : ∀ r, r < 5 → ∀ k, k < 14 → (rC (fun c => c) 12 none (152 + r) k).map piC = RC (piC (152 + r)) k := by decide +kernel
theorem RC_C14 (r : Nat) (hr : r < 157) (k : Nat) (hk : k < 14) : (rC (fun c => c) 12 none r k).map piC = RC (piC r) k := by
  by_cases h0 : r < 8
  · have := RC_c0 (r - 0) (by omega) k hk; rw [show 0 + (r - 0) = r by omega] at this; exact this
  by_cases h1 : r < 16
  · have := RC_c1 (r - 8) (by omega) k hk; rw [show 8 + (r - 8) = r by omega] at this; exact this
  by_cases h2 : r < 24
  · have := RC_c2 (r - 16) (by omega) k hk; rw [show 16 + (r - 16) = r by omega] at this; exact this
  by_cases h3 : r < 32
  · have := RC_c3 (r - 24) (by omega) k hk; rw [show 24 + (r - 24) = r by omega] at this; exact this
  by_cases h4 : r < 40
  · have := RC_c4 (r - 32) (by omega) k hk; rw [show 32 + (r - 32) = r by omega] at this; exact this
  by_cases h5 : r < 48
  · have := RC_c5 (r - 40) (by omega) k hk; rw [show 40 + (r - 40) = r by omega] at this; exact this
  by_cases h6 : r < 56
  · have := RC_c6 (r - 48) (by omega) k hk; rw [show 48 + (r - 48) = r by omega] at this; exact this
  by_cases h7 : r < 64
  · have := RC_c7 (r - 56) (by omega) k hk; rw [show 56 + (r - 56) = r by omega] at this; exact this
  by_cases h8 : r < 72
  · have := RC_c8 (r - 64) (by omega) k hk; rw [show 64 + (r - 64) = r by omega] at this; exact this
  by_cases h9 : r < 80
  · have := RC_c9 (r - 72) (by omega) k hk; rw [show 72 + (r - 72) = r by omega] at this; exact this
  by_cases h10 : r < 88
  · have := RC_c10 (r - 80) (by omega) k hk; rw [show 80 + (r - 80) = r by omega] at this; exact this
  by_cases h11 : r < 96
  · have := RC_c11 (r - 88) (by omega) k hk; rw [show 88 + (r - 88) = r by omega] at this; exact this
  by_cases h12 : r < 104
  · have := RC_c12 (r - 96) (by omega) k hk; rw [show 96 + (r - 96) = r by omega] at this; exact this
  by_cases h13 : r < 112
  · have := RC_c13 (r - 104) (by omega) k hk; rw [show 104 + (r - 104) = r by omega] at this; exact this
  by_cases h14 : r < 120
  · have := RC_c14 (r - 112) (by omega) k hk; rw [show 112 + (r - 112) = r by omega] at this; exact this
  by_cases h15 : r < 128
  · have := RC_c15 (r - 120) (by omega) k hk; rw [show 120 + (r - 120) = r by omega] at this; exact this
  by_cases h16 : r < 136
  · have := RC_c16 (r - 128) (by omega) k hk; rw [show 128 + (r - 128) = r by omega] at this; exact this
  by_cases h17 : r < 144
  · have := RC_c17 (r - 136) (by omega) k hk; rw [show 136 + (r - 136) = r by omega] at this; exact this
  by_cases h18 : r < 152
  · have := RC_c18 (r - 144) (by omega) k hk; rw [show 144 + (r - 144) = r by omega] at this; exact this
  by_cases h19 : r < 160
  · have := RC_c19 (r - 152) (by omega) k hk; rw [show 152 + (r - 152) = r by omega] at this; exact this
  omega
def bnR (m : Nat) (R : ay_R) : Prop := ∀ a b, m ≤ b → R a b = none
theorem bnR.up {m : Nat} {R : ay_R} (h : bnR m R) (r x : Nat) {k : Nat} (hk : k < m) : bnR m (ay_up R r k x) := fun a b hb => by unfold ay_up; rw [if_neg (by omega)]; exact h a b hb
theorem bnR.Rs {m : Nat} (r : Nat) : ∀ (gs : List ay_G) (n : Nat) (R : ay_R), (∀ g ∈ gs, g.2.2.2.2.1 < m) → bnR m R → bnR m (ay_Rs R r n gs)
  | [], _, _, _, h => h
  | g :: gs, n, R, hg, h => bnR.Rs r gs (n + 1) _ (fun x hx => hg x (List.mem_cons_of_mem _ hx)) (h.up r n (hg g (List.mem_cons_self ..)))
theorem bnR.L {m : Nat} (a : Nat) (gs : List ay_G) (hg : ∀ g ∈ gs, g.2.2.2.2.1 < m) : ∀ (k i nn : Nat) (R : ay_R), i + k < m → bnR m R → bnR m (RsL gs a k i nn R)
  | 0, _, _, _, _, h => h
  | k + 1, i, nn, R, hi, h => bnR.L a gs hg k (i + 1) _ _ (by omega) ((bnR.Rs nn gs (nn + 1) R hg h).up a nn (by omega))
theorem RC_bn : bnR 14 RC := by
  have h0 : bnR 14 Rn := fun _ _ _ => rfl
  unfold RC RP RP5 RP4 RP3 RP2 RG RP1
  refine bnR.Rs _ _ _ _ (by decide) (bnR.L _ _ (by decide) _ _ _ _ (by decide) (bnR.up (bnR.Rs _ _ _ _ (by decide) (bnR.up (bnR.Rs _ _ _ _ (by decide) (bnR.up (bnR.Rs _ _ _ _ (by decide) (bnR.L _ _ (by decide) _ _ _ _ (by decide) (bnR.up (bnR.up (bnR.Rs _ _ _ _ (by decide) h0) _ _ (by decide)) _ _ (by decide)))) _ _ (by decide))) _ _ (by decide))) _ _ (by decide)))
theorem RA_bn : bnR 32 RA := by
  have h0 : bnR 32 RC := fun a b hb => RC_bn a b (by omega)
  exact bnR.Rs _ _ _ _ (by decide) h0
theorem rC_bn (r : Nat) {k : Nat} (hk : 14 ≤ k) : rC (fun c => c) 12 none r k = none := by
  obtain ⟨j, rfl⟩ : ∃ j, k = j + 14 := ⟨k - 14, by omega⟩
  unfold rC
  (repeat' split) <;> first | rfl | omega | (simp_all; omega)
theorem rM_bn (r : Nat) {k : Nat} (hk : 32 ≤ k) : rM r k = none := by
  obtain ⟨j, rfl⟩ : ∃ j, k = j + 32 := ⟨k - 32, by omega⟩
  unfold rM
  split <;> first | rfl | omega
theorem RA_C {r : Nat} (hr : r < 157) (k : Nat) : (rC (fun c => c) 12 none r k).map piC = RA (piC r) k := by
  have h1 : RA (piC r) k = RC (piC r) k := ay_Rs_ne gsQ (by have := piC_lt r hr; omega) k _ _
  rw [h1]
  by_cases h : k < 14
  · exact RC_C14 r hr k h
  · rw [rC_bn r (by omega), RC_bn _ _ (by omega)]; rfl
theorem RA_M {r : Nat} (hr : r < 25) (k : Nat) : (rM r k).map piM = RA (piM r) k := by
  by_cases h : k < 32
  · exact RA_M32 r hr k h
  · rw [rM_bn r (by omega), RA_bn _ _ (by omega)]; rfl
theorem ax_ce_p {q f : Nat → Nat} {cA : Nat → ClassId} {R1 R2 : ay_R} {r : Nat} (hR : ∀ k, (R1 r k).map f = R2 (f r) k) (kd : Nat × Nat) : ax_ce (fun x => q (f x)) cA (ay_z R1) r kd = ax_ce q cA (ay_z R2) (f r) kd := by
  have e1 : ∀ k, (R1 r k).map (fun x => q (f x)) = (R2 (f r) k).map q := fun k => by
    rw [← hR k]; cases R1 r k <;> rfl
  have e2 : ∀ ty k, ax_cv (fun x => q (f x)) (ax_fv (ay_z R1) ty r k) = ax_cv q (ax_fv (ay_z R2) ty (f r) k) := fun ty k => by
    have e3 : ax_cv (fun x => q (f x)) (va_rf (R1 r k)) = ax_cv q (va_rf (R2 (f r) k)) := by rw [ax_rf, ax_rf, e1]
    cases ty <;> first | rfl | exact e3
  have e4 : ∀ ci, ax_fs (fun x => q (f x)) (ay_z R1) ci r = ax_fs q (ay_z R2) ci (f r) := fun ci => by unfold ax_fs; simp only [e2]
  obtain ⟨t, n⟩ := kd
  unfold ax_ce
  match t with
  | 0 => simp only [e4]
  | 1 => rfl
  | 2 => rfl
  | 3 => rfl
  | t + 4 =>
    have e5 : (fun j => ((ay_z R1).2.2 r j).map (fun x => q (f x))) = fun j => ((ay_z R2).2.2 (f r) j).map q := funext e1
    simp only [e5]
/-- a part of the world, by other roles -/
theorem ay_part {D : va_G} {cA : Nat → ClassId} {base : Nat} {q f : Nat → Nat} {ks ks' : ax_K} {R R' : ay_R} {H : Heap} (hP : va_P D ax_cl (ay_ws ks q cA R) H) (hD : va_D (ay_A base) (ay_ws ks q cA R)) (hk : ∀ r, r < ks'.length → ks[f r]? = ks'[r]?) (hR : ∀ r, r < ks'.length → ∀ k, (R' r k).map f = R (f r) k) (hf : ∀ i, i < ks'.length → ∀ j, j < ks'.length → f i = f j → i = j) :
    va_P D ax_cl (ax_ws ks' (fun x => q (f x)) cA (ay_z R')) H ∧ va_D (ax_A ks' (fun x => q (f x))) (ax_ws ks' (fun x => q (f x)) cA (ay_z R')) ∧ ∀ r, r < ks'.length → base ≤ q (f r) := by
  have at' : ∀ (k : Nat) (x : Nat × va_E), (ax_ws ks' (fun x => q (f x)) cA (ay_z R'))[k]? = some x → k < ks'.length ∧ (ay_ws ks q cA R)[f k]? = some x := fun k x hx => by
    unfold ax_ws at hx
    rw [List.getElem?_mapIdx] at hx
    cases h : ks'[k]? with
    | none => rw [h] at hx; cases hx
    | some kd =>
      rw [h] at hx
      have hl : k < ks'.length := (List.getElem?_eq_some_iff.mp h).1
      refine ⟨hl, ?_⟩
      have h2 := ax_ws_at (q := q) (cA := cA) (h := ay_z R) ((hk k hl).trans h)
      unfold ay_ws
      rw [h2, ← hx, Option.map_some, ax_ce_p (hR k hl)]
  refine ⟨fun k x hx => hP _ x (at' k x hx).2, ⟨fun i j a b ha hb hab => ?_, fun k x hx => ?_⟩, fun r hr => ?_⟩
  · obtain ⟨i1, i2⟩ := at' i a ha
    obtain ⟨j1, j2⟩ := at' j b hb
    exact hf i i1 j j1 (hD.1 _ _ a b i2 j2 hab)
  · obtain ⟨k1, k2⟩ := at' k x hx
    refine ⟨k, k1, ?_⟩
    unfold ax_ws at hx
    rw [List.getElem?_mapIdx] at hx
    cases h : ks'[k]? with
    | none => rw [h] at hx; cases hx
    | some kd => rw [h] at hx; cases hx; rfl
  · obtain ⟨kd, hkd⟩ : ∃ kd, ks'[r]? = some kd := ⟨_, List.getElem?_eq_getElem hr⟩
    exact hD.2 (f r) _ (ax_ws_at ((hk r hr).trans hkd))
theorem stC_0 : stC hC0 [] [] [] [] [] := by
  refine ⟨fun c => c, 12, none, ⟨rfl, rfl, by simp, fun c hc => by simp at hc, ⟨fun c hc => (show c < 13 by omega), by omega, fun i j _ _ h => h, fun i hi => (show i ≠ 12 by omega)⟩⟩, fun c hc => by simp at hc, ⟨rfl, by simp, fun j hj => by simp at hj, fun c hc => by simp at hc⟩, ⟨rfl, by simp, fun p hp => by simp at hp, rfl, vT_nil, fun c hc => by simp at hc⟩, ⟨rfl, by simp, fun r hr => by simp at hr, fun r _ _ => rfl⟩⟩
theorem stM_0 : stM hM0 [] [] [] [] [] := by
  refine ⟨⟨rfl, rfl, by simp, fun j hj => by simp at hj, fun c hc => by simp at hc⟩, ⟨rfl, rfl, by simp, fun i j hi => by simp at hi, fun c hc => by simp at hc⟩, ⟨rfl, by simp, fun p hp => by simp at hp, ⟨rfl, ⟨vT_nil, fun c hc => by simp at hc⟩, fun i hi => by simp at hi⟩⟩, ⟨rfl, by simp, fun r hr => by simp at hr, fun r _ _ => rfl⟩⟩
