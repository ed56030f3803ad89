/-! the state, as the model keeps it -/
abbrev rl4 : Type := Nat × Nat × Nat × List oc4
def rA (rs : List rl4) (r : Nat) : rl4 := rs.getD r (0, 0, 0, [])
def pA (ps : List (List Nat)) (p : Nat) : List Nat := ps.getD p []
/-- what no call but its own changes -/
def frA (h h' : ax_H) : Prop := h'.2.2 = h.2.2 ∧ (∀ r k, (r = 0 ∧ (k = 2 ∨ k = 8 ∨ k = 9)) ∨ r = 1 ∨ r = 2 ∨ (4 ≤ r ∧ r ≤ 10) → h'.1 r k = h.1 r k) ∧ ∀ r k, r = 11 ∨ r = 12 → h'.2.1 r k = h.2.1 r k
theorem frA.rf {h : ax_H} : frA h h := ⟨rfl, fun _ _ _ => rfl, fun _ _ _ => rfl⟩
theorem frA.tr {h h' h2 : ax_H} (a : frA h h') (b : frA h' h2) : frA h h2 := ⟨b.1.trans a.1, fun r k h1 => (b.2.1 r k h1).trans (a.2.1 r k h1), fun r k h1 => (b.2.2 r k h1).trans (a.2.2 r k h1)⟩
theorem frO.a {h h' : ax_H} (f : frO h h') : frA h h' := ⟨f.1, fun r k h1 => f.2.1 r k (by omega) (by omega) (by omega), fun r k h1 => f.2.2 r k (by omega) (by omega)⟩
theorem frX.a {h h' : ax_H} (f : frX h h') : frA h h' := ⟨by rw [f.1], fun r k h1 => f.2 r k (by omega) (by omega), fun r k h1 => by rw [f.1]⟩
theorem frL.a {h h' : ax_H} (f : frL h h') : frA h h' := ⟨by rw [f.1], fun r k h1 => f.2 r k (by omega), fun r k h1 => by rw [f.1]⟩
theorem frM.a {h h' : ax_H} (f : frM h h') : frA h h' := ⟨by rw [f.1], fun r k h1 => f.2 r k (by omega) (by omega), fun r k h1 => by rw [f.1]⟩
theorem frA.up {h : ax_H} {r k : Nat} {x : Int32} (hr : ¬ ((r = 0 ∧ (k = 2 ∨ k = 8 ∨ k = 9)) ∨ r = 1 ∨ r = 2 ∨ (4 ≤ r ∧ r ≤ 10))) : frA h (ax_upI h r k x) := ⟨rfl, fun a b h1 => by rw [up_I, if_neg (fun hh => hr (by rw [← hh.1, ← hh.2]; exact h1))], fun _ _ _ => rfl⟩
theorem frA.upL {h : ax_H} {r k : Nat} {x : Int64} (hr : ¬ (r = 11 ∨ r = 12)) : frA h (ax_upL h r k x) := ⟨rfl, fun a b h1 => rfl, fun a b h1 => by rw [up_L, if_neg (fun hh => hr (by rw [← hh.1]; exact h1))]⟩
theorem bufM.a {h h' : ax_H} {b : List Nat} (hb : bufM h b) (f : frA h h') : bufM h' b := by
  obtain ⟨a1, a2, a3, a4, a5⟩ := hb
  exact ⟨by rw [f.1]; exact a1, by rw [f.2.1 _ _ (by omega)]; exact a2, a3, fun j hj => by rw [f.2.1 _ _ (by omega)]; exact a4 j hj, a5⟩
theorem clsM.a {h h' : ax_H} {us : List (List Nat)} (hc : clsM h us) (f : frA h h') : clsM h' us := by
  obtain ⟨a1, a2, a3, a4, a5⟩ := hc
  refine ⟨by rw [f.1]; exact a1, ?_, a3, a4, fun c hc => ?_⟩
  · rw [f.2.1 _ _ (by omega)]; exact a2
  · obtain ⟨b1, b2, b3, b4⟩ := (a5 c hc).1
    exact ⟨⟨by rw [f.1]; exact b1, b2, fun j hj => by rw [f.2.1 _ _ (by omega)]; exact b3 j hj, b4⟩, (a5 c hc).2⟩
theorem pat1.a {h h' : ax_H} {p : Nat} {t : List Nat} (hp : pat1 h p t) (f : frA h h') : pat1 h' p t := by
  obtain ⟨a1, a2, a3⟩ := hp
  exact ⟨by rw [f.2.1 _ _ (by omega)]; exact a1, a2, fun i hi => by rw [f.2.1 _ _ (by omega)]; exact a3 i hi⟩
def patM (h : ax_H) (ps : List (List Nat)) (ty : List Nat) : Prop := h.1 0 8 = nI ps.length ∧ ps.length ≤ 6 ∧ (∀ p, p < ps.length → pat1 h p (pA ps p)) ∧ pat1 h 6 ty
theorem patM.a {h h' : ax_H} {ps : List (List Nat)} {ty : List Nat} (hp : patM h ps ty) (f : frA h h') : patM h' ps ty :=
  ⟨by rw [f.2.1 _ _ (by omega)]; exact hp.1, hp.2.1, fun p h1 => (hp.2.2.1 p h1).a f, hp.2.2.2.a f⟩
/-- a rule that may be -/
def rlv (n : Nat) (r : rl4) : Prop := ((r.1 ≤ 2 ∧ r.2.1 < n ∧ r.2.2.1 < n) ∨ (r.1 = 3 ∧ (r.2.1 = 1 ∨ r.2.1 = 2) ∧ r.2.2.1 = 0)) ∧ r.2.2.2.length ≤ 8 ∧ ∀ x ∈ r.2.2.2, x.1 < 12 ∧ x.2.1 ≤ 8 ∧ vT x.2.2.1 ∧ vT x.2.2.2
def knM (h : ax_H) (r : Nat) (K : List oc4) : Prop := h.1 9 r = nI K.length ∧ ∀ i, i < K.length → h.1 10 (8 * r + i) = nI (16 * (ocA K i).1 + (ocA K i).2.1) ∧ h.2.1 11 (8 * r + i) = lN (pB (ocA K i).2.2.1) ∧ h.2.1 12 (8 * r + i) = lN (pB (ocA K i).2.2.2)
theorem knM.a {h h' : ax_H} {r : Nat} {K : List oc4} (hk : knM h r K) (f : frA h h') : knM h' r K :=
  ⟨by rw [f.2.1 _ _ (by omega)]; exact hk.1, fun i hi => by rw [f.2.1 _ _ (by omega), f.2.2 _ _ (by omega), f.2.2 _ _ (by omega)]; exact hk.2 i hi⟩
def rul1 (h : ax_H) (n r : Nat) (x : rl4) : Prop := h.1 6 r = nI x.1 ∧ h.1 7 r = nI x.2.1 ∧ h.1 8 r = nI x.2.2.1 ∧ knM h r x.2.2.2 ∧ rlv n x
theorem rul1.a {h h' : ax_H} {n r : Nat} {x : rl4} (hk : rul1 h n r x) (f : frA h h') : rul1 h' n r x :=
  ⟨by rw [f.2.1 _ _ (by omega)]; exact hk.1, by rw [f.2.1 _ _ (by omega)]; exact hk.2.1, by rw [f.2.1 _ _ (by omega)]; exact hk.2.2.1, hk.2.2.2.1.a f, hk.2.2.2.2⟩
def rulM (h : ax_H) (n : Nat) (rs : List rl4) : Prop := h.1 0 9 = nI rs.length ∧ rs.length ≤ 6 ∧ (∀ r, r < rs.length → rul1 h n r (rA rs r)) ∧ ∀ r, rs.length ≤ r → r < 6 → h.1 9 r = nI 0
theorem rulM.a {h h' : ax_H} {n : Nat} {rs : List rl4} (hk : rulM h n rs) (f : frA h h') : rulM h' n rs :=
  ⟨by rw [f.2.1 _ _ (by omega)]; exact hk.1, hk.2.1, fun r hr => (hk.2.2.1 r hr).a f, fun r h1 h2 => by rw [f.2.1 _ _ (by omega)]; exact hk.2.2.2 r h1 h2⟩
def stM (h : ax_H) (b : List Nat) (us ps : List (List Nat)) (ty : List Nat) (rs : List rl4) : Prop := bufM h b ∧ clsM h us ∧ patM h ps ty ∧ rulM h ps.length rs
theorem stM.a {h h' : ax_H} {b : List Nat} {us ps : List (List Nat)} {ty : List Nat} {rs : List rl4} (hs : stM h b us ps ty rs) (f : frA h h') : stM h' b us ps ty rs := ⟨hs.1.a f, hs.2.1.a f, hs.2.2.1.a f, hs.2.2.2.a f⟩
/-- an index, or none -/
def ixN (x : Int32) (n : Nat) : Option Nat := if 0 ≤ x ∧ x < nI n then some x.toNatClampNeg else none
theorem ixN_some {x : Int32} {n c : Nat} (hn : n < 2 ^ 31) (h : ixN x n = some c) : c < n ∧ x = nI c := by
  unfold ixN at h
  by_cases e : 0 ≤ x ∧ x < nI n
  · rw [if_pos e] at h
    have e1 : x.toNatClampNeg = c := by simpa using h
    have e2 : nI x.toNatClampNeg = x := by
      apply Int32.toInt_inj.mp
      have p1 := Int32.le_iff_toInt_le.mp e.1
      have p2 := x.toInt_lt
      have p3 : (0 : Int32).toInt = 0 := by decide
      have p4 : x.toNatClampNeg = x.toInt.toNat := rfl
      rw [nI_toInt (by omega), p4]
      omega
    rw [e1] at e2
    have e3 := e.2
    have hc : c < 2 ^ 31 := by
      have p2 := x.toInt_lt
      have p4 : x.toNatClampNeg = x.toInt.toNat := rfl
      omega
    rw [← e2, nI_ltI hc hn] at e3
    exact ⟨e3, e2.symm⟩
  · rw [if_neg e] at h; cases h
theorem ixN_none {x : Int32} {n : Nat} (h : ixN x n = none) : ¬ (0 ≤ x ∧ x < nI n) := by
  intro e; unfold ixN at h; rw [if_pos e] at h; cases h
theorem ixN_nI {c n : Nat} (hn : n < 2 ^ 31) (hc : c < n) : ixN (nI c) n = some c := by
  unfold ixN; rw [if_pos ⟨nI_pos' (by omega), (nI_ltI (by omega) hn).mpr hc⟩, nI_clamp (by omega)]
