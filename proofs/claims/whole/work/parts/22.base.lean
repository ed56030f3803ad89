/-! the two worlds, and rows for reading what a run comes to -/
/-- the model: its object, then its arrays in the order of its fields -/
def kM : ax_K := [(0, 5), (1, 1560), (1, 13), (1, 26), (1, 70), (1, 7), (1, 6), (1, 6), (1, 6), (1, 6), (1, 48), (2, 48), (2, 48), (1, 64), (1, 64), (2, 64), (2, 64), (1, 640), (1, 640), (2, 640), (2, 640), (1, 640), (1, 10), (1, 64), (3, 144)]
/-- a unit, a rule: the object, then its arrays -/
def kU : ax_K := [(0, 3), (2, 3), (2, 4), (2, 4), (1, 52), (1, 52), (2, 52), (2, 52)]
def kR : ax_K := [(0, 4), (1, 8), (1, 8), (2, 8), (2, 8), (3, 8)]
/-- the class: 0 the object, 1 its reader, 2 its graph, 3 patterns, 4 rules, 5 found; 6 buffer, 7 tags, 8 texts, 9 offsets; 10 units, 11 supers, 12 interfaces, 13 ancestors, 14 sliceNames, 15 heads, 16 ways; 17 + 8 u the units; 121 + 6 k the rules -/
def kC : ax_K := [(0, 0), (0, 1), (0, 2), (2, 6), (5, 6), (1, 624), (1, 120), (1, 25), (2, 25), (1, 25), (4, 12), (1, 12), (1, 36), (1, 12), (2, 12), (1, 12), (1, 12)] ++ ((List.replicate 13 kU).flatten ++ (List.replicate 6 kR).flatten)
theorem kC_len : kC.length = 157 := by decide +kernel
theorem kM_len : kM.length = 25 := by decide +kernel
/-- the references of the model's object never change -/
def rM : Nat → Nat → Option Nat := fun r k => match r, k with
  | 0, 0 => some 1
  | 0, 1 => some 2
  | 0, 5 => some 3
  | 0, 6 => some 4
  | 0, 7 => some 5
  | 0, 10 => some 6
  | 0, 11 => some 7
  | 0, 12 => some 8
  | 0, 13 => some 9
  | 0, 14 => some 10
  | 0, 15 => some 11
  | 0, 16 => some 12
  | 0, 18 => some 13
  | 0, 19 => some 14
  | 0, 20 => some 15
  | 0, 21 => some 16
  | 0, 23 => some 17
  | 0, 24 => some 18
  | 0, 25 => some 19
  | 0, 26 => some 20
  | 0, 28 => some 21
  | 0, 29 => some 22
  | 0, 30 => some 23
  | 0, 31 => some 24
  | _, _ => none
theorem ax_clr_i {x : Int32} : ax_clr (some (.int x)) = some (.int x) := rfl
theorem ax_clr_r {x : Nat} : ax_clr (some (.ref x)) = some (.ref x) := rfl
theorem ax_clr_l {x : Int64} : ax_clr (some (.long x)) = none := rfl
theorem ax_clr_n : ax_clr none = none := rfl
theorem ax_ct_0 : ax_ct [] = 0 := rfl
theorem ax_ct_i {x : Int32} {l : List Value} : ax_ct (.int x :: l) = 1 + ax_ct l := by simp [ax_ct, Value.category]
theorem ax_ct_r {x : Nat} {l : List Value} : ax_ct (.ref x :: l) = 1 + ax_ct l := by simp [ax_ct, Value.category]
theorem ax_ct_l {x : Int64} {l : List Value} : ax_ct (.long x :: l) = 2 + ax_ct l := by simp [ax_ct, Value.category]
theorem va_rf_s {x : Nat} : va_rf (some x) = .ref x := rfl
/-! numbers -/
theorem ax_in_nI {a n : Nat} (ha : a < 2 ^ 31) : (ax_in (nI a) n = true) = (a < n) := by
  simp [ax_in, nI_pos' ha, nI_clamp ha]
theorem nI_lt0 {a : Nat} (ha : a < 2 ^ 31) : (nI a < 0) = False := by simpa using nI_pos ha
theorem nI_ge0 {a : Nat} (ha : a < 2 ^ 31) : (0 ≤ nI a) = True := by simpa using nI_pos' ha
theorem nI_eq0 {a : Nat} (ha : a < 2 ^ 31) : (nI a = 0) = (a = 0) := by
  rw [← nI_0]; exact propext (nI_eq ha (by decide))
theorem nI_gt0 {a : Nat} (ha : a < 2 ^ 31) : (0 < nI a) = (0 < a) := by
  rw [← nI_0]; exact propext (nI_ltI (by decide) ha)
theorem nI_le0 {a : Nat} (ha : a < 2 ^ 31) : (nI a ≤ 0) = (a = 0) := by
  rw [← nI_0, nI_leI ha (by decide)]; exact propext ⟨fun h => by omega, fun h => by omega⟩
theorem nI_lt' {a b : Nat} (ha : a < 2 ^ 31) (hb : b < 2 ^ 31) : (nI a < nI b) = (a < b) := propext (nI_ltI ha hb)
theorem nI_le' {a b : Nat} (ha : a < 2 ^ 31) (hb : b < 2 ^ 31) : (nI a ≤ nI b) = (a ≤ b) := propext (nI_leI ha hb)
theorem nI_eq' {a b : Nat} (ha : a < 2 ^ 31) (hb : b < 2 ^ 31) : (nI a = nI b) = (a = b) := propext (nI_eq ha hb)
theorem nI_m1 : (-1 : Int32) = nI 4294967295 := by decide
theorem nI_mod (n : Nat) : nI n = nI (n % 2 ^ 32) := Int32.toBitVec_inj.mp (by show BitVec.ofNat 32 _ = BitVec.ofNat 32 _; apply BitVec.eq_of_toNat_eq; rw [BitVec.toNat_ofNat, BitVec.toNat_ofNat, Nat.mod_mod])
theorem nI_ne_m1 {a : Nat} (ha : a < 2 ^ 31) : (nI a = -1) = False := by
  apply eq_false
  intro h
  have h1 := congrArg Int32.toInt h
  rw [nI_toInt ha] at h1
  have h2 : (-1 : Int32).toInt = -1 := by decide
  omega
theorem m1_ne_nI {a : Nat} (ha : a < 2 ^ 31) : ((-1 : Int32) = nI a) = False := by
  apply eq_false
  intro h
  exact cast (nI_ne_m1 ha) h.symm
theorem m1_lt_nI {a : Nat} (ha : a < 2 ^ 31) : ((-1 : Int32) < nI a) = True := by
  apply eq_true
  rw [Int32.lt_iff_toInt_lt, nI_toInt ha]
  have h2 : (-1 : Int32).toInt = -1 := by decide
  omega
theorem m1_le_nI {a : Nat} (ha : a < 2 ^ 31) : ((-1 : Int32) ≤ nI a) = True := by
  apply eq_true
  rw [Int32.le_iff_toInt_le, nI_toInt ha]
  have h2 : (-1 : Int32).toInt = -1 := by decide
  omega
theorem nI_lt_m1 {a : Nat} (ha : a < 2 ^ 31) : (nI a < (-1 : Int32)) = False := by
  apply eq_false
  rw [Int32.lt_iff_toInt_lt, nI_toInt ha]
  have h2 : (-1 : Int32).toInt = -1 := by decide
  omega
theorem nI_le_m1 {a : Nat} (ha : a < 2 ^ 31) : (nI a ≤ (-1 : Int32)) = False := by
  apply eq_false
  rw [Int32.le_iff_toInt_le, nI_toInt ha]
  have h2 : (-1 : Int32).toInt = -1 := by decide
  omega
theorem nI_dec {a : Nat} (ha : 1 ≤ a) : nI a + (-1) = nI (a - 1) := by
  obtain ⟨b, rfl⟩ : ∃ b, a = b + 1 := ⟨a - 1, by omega⟩
  exact pk_m1 b
theorem nI_sh : ∀ n, n < 32 → ((nI n &&& 31).toBitVec.smod 32).toNat = n := by decide +kernel
theorem nI_shl (a : Nat) {k : Nat} (hk : k < 32) : nI a <<< (nI k &&& 31) = nI (a * 2 ^ k) := by
  apply Int32.toBitVec_inj.mp
  apply BitVec.eq_of_toNat_eq
  rw [pk_shl _ _ k (nI_sh k hk)]
  show (BitVec.ofNat 32 a).toNat * 2 ^ k % 2 ^ 32 = (BitVec.ofNat 32 (a * 2 ^ k)).toNat
  rw [BitVec.toNat_ofNat, BitVec.toNat_ofNat, Nat.mul_mod, Nat.mod_mod, ← Nat.mul_mod]
theorem nI_shr {a k : Nat} (ha : a < 2 ^ 31) (hk : k < 32) : nI a >>> (nI k &&& 31) = nI (a / 2 ^ k) := pk_shrN ha _ k (nI_sh k hk)
theorem nI_or {a b : Nat} (ha : a < 2 ^ 32) (hb : b < 2 ^ 32) : nI a ||| nI b = nI (a ||| b) := by
  apply Int32.toBitVec_inj.mp
  apply BitVec.eq_of_toNat_eq
  show (BitVec.ofNat 32 a ||| BitVec.ofNat 32 b).toNat = (BitVec.ofNat 32 (a ||| b)).toNat
  rw [BitVec.toNat_or, BitVec.toNat_ofNat, BitVec.toNat_ofNat, BitVec.toNat_ofNat, Nat.mod_eq_of_lt ha, Nat.mod_eq_of_lt hb, Nat.mod_eq_of_lt (Nat.or_lt_two_pow ha hb)]
theorem lg_cmp0 {x y : Int64} : (lg_cmp x y = 0) = (x = y) := by
  unfold lg_cmp
  apply propext
  by_cases h1 : x > y
  · rw [if_pos h1]
    constructor
    · intro h; exact absurd h (by decide)
    · intro h; subst h; exact absurd h1 (Int64.lt_irrefl)
  · rw [if_neg h1]
    by_cases h2 : x = y
    · rw [if_pos h2]; simp [h2]
    · rw [if_neg h2]
      constructor
      · intro h; exact absurd h (by decide)
      · intro h; exact absurd h h2
theorem lN_0 : (0 : Int64) = lN 0 := rfl
theorem lN_eq' {a b : Nat} (ha : a < 2 ^ 63) (hb : b < 2 ^ 63) : (lN a = lN b) = (a = b) := propext (pk_lEQ ha hb)
/-! cells -/
theorem up_I (h : ax_H) (r k : Nat) (x : Int32) (a b : Nat) : (ax_upI h r k x).1 a b = if a = r ∧ b = k then x else h.1 a b := rfl
theorem up_I2 (h : ax_H) (r k : Nat) (x : Int32) : (ax_upI h r k x).2 = h.2 := rfl
theorem up_L (h : ax_H) (r k : Nat) (x : Int64) (a b : Nat) : (ax_upL h r k x).2.1 a b = if a = r ∧ b = k then x else h.2.1 a b := rfl
theorem up_L1 (h : ax_H) (r k : Nat) (x : Int64) : (ax_upL h r k x).1 = h.1 := rfl
theorem up_L3 (h : ax_H) (r k : Nat) (x : Int64) : (ax_upL h r k x).2.2 = h.2.2 := rfl
theorem up_R (h : ax_H) (r k : Nat) (x : Option Nat) (a b : Nat) : (ax_upR h r k x).2.2 a b = if a = r ∧ b = k then x else h.2.2 a b := rfl
theorem up_R1 (h : ax_H) (r k : Nat) (x : Option Nat) : (ax_upR h r k x).1 = h.1 := rfl
theorem up_R2 (h : ax_H) (r k : Nat) (x : Option Nat) : (ax_upR h r k x).2.1 = h.2.1 := rfl
theorem up_II (h : ax_H) (r k : Nat) (x y : Int32) : ax_upI (ax_upI h r k x) r k y = ax_upI h r k y := by
  unfold ax_upI
  refine Prod.ext ?_ rfl
  funext a b
  by_cases e : a = r ∧ b = k <;> simp [e]
theorem kdM (r : Nat) (p : Nat × Nat) (hp : kM[r]? = some p) : ax_kd kM r = p := by simp [ax_kd, hp]
theorem kdC (r : Nat) (p : Nat × Nat) (hp : kC[r]? = some p) : ax_kd kC r = p := by simp [ax_kd, hp]
theorem kdM_0 : ax_kd kM 0 = (0, 5) := rfl
theorem kdM_1 : ax_kd kM 1 = (1, 1560) := rfl
theorem kdM_2 : ax_kd kM 2 = (1, 13) := rfl
theorem kdM_3 : ax_kd kM 3 = (1, 26) := rfl
theorem kdM_4 : ax_kd kM 4 = (1, 70) := rfl
theorem kdM_5 : ax_kd kM 5 = (1, 7) := rfl
theorem kdM_6 : ax_kd kM 6 = (1, 6) := rfl
theorem kdM_7 : ax_kd kM 7 = (1, 6) := rfl
theorem kdM_8 : ax_kd kM 8 = (1, 6) := rfl
theorem kdM_9 : ax_kd kM 9 = (1, 6) := rfl
theorem kdM_10 : ax_kd kM 10 = (1, 48) := rfl
theorem kdM_11 : ax_kd kM 11 = (2, 48) := rfl
theorem kdM_12 : ax_kd kM 12 = (2, 48) := rfl
theorem kdM_13 : ax_kd kM 13 = (1, 64) := rfl
theorem kdM_14 : ax_kd kM 14 = (1, 64) := rfl
theorem kdM_15 : ax_kd kM 15 = (2, 64) := rfl
theorem kdM_16 : ax_kd kM 16 = (2, 64) := rfl
theorem kdM_17 : ax_kd kM 17 = (1, 640) := rfl
theorem kdM_18 : ax_kd kM 18 = (1, 640) := rfl
theorem kdM_19 : ax_kd kM 19 = (2, 640) := rfl
theorem kdM_20 : ax_kd kM 20 = (2, 640) := rfl
theorem kdM_21 : ax_kd kM 21 = (1, 640) := rfl
theorem kdM_22 : ax_kd kM 22 = (1, 10) := rfl
theorem kdM_23 : ax_kd kM 23 = (1, 64) := rfl
theorem kdM_24 : ax_kd kM 24 = (3, 144) := rfl
theorem rM_0 : rM 0 0 = some 1 := rfl
theorem rM_1 : rM 0 1 = some 2 := rfl
theorem rM_5 : rM 0 5 = some 3 := rfl
theorem rM_6 : rM 0 6 = some 4 := rfl
theorem rM_7 : rM 0 7 = some 5 := rfl
theorem rM_10 : rM 0 10 = some 6 := rfl
theorem rM_11 : rM 0 11 = some 7 := rfl
theorem rM_12 : rM 0 12 = some 8 := rfl
theorem rM_13 : rM 0 13 = some 9 := rfl
theorem rM_14 : rM 0 14 = some 10 := rfl
theorem rM_15 : rM 0 15 = some 11 := rfl
theorem rM_16 : rM 0 16 = some 12 := rfl
theorem rM_18 : rM 0 18 = some 13 := rfl
theorem rM_19 : rM 0 19 = some 14 := rfl
theorem rM_20 : rM 0 20 = some 15 := rfl
theorem rM_21 : rM 0 21 = some 16 := rfl
theorem rM_23 : rM 0 23 = some 17 := rfl
theorem rM_24 : rM 0 24 = some 18 := rfl
theorem rM_25 : rM 0 25 = some 19 := rfl
theorem rM_26 : rM 0 26 = some 20 := rfl
theorem rM_28 : rM 0 28 = some 21 := rfl
theorem rM_29 : rM 0 29 = some 22 := rfl
theorem rM_30 : rM 0 30 = some 23 := rfl
theorem rM_31 : rM 0 31 = some 24 := rfl
theorem kdC_0 : ax_kd kC 0 = (0, 0) := rfl
theorem kdC_1 : ax_kd kC 1 = (0, 1) := rfl
theorem kdC_2 : ax_kd kC 2 = (0, 2) := rfl
theorem kdC_3 : ax_kd kC 3 = (2, 6) := rfl
theorem kdC_4 : ax_kd kC 4 = (5, 6) := rfl
theorem kdC_5 : ax_kd kC 5 = (1, 624) := rfl
theorem kdC_6 : ax_kd kC 6 = (1, 120) := rfl
theorem kdC_7 : ax_kd kC 7 = (1, 25) := rfl
theorem kdC_8 : ax_kd kC 8 = (2, 25) := rfl
theorem kdC_9 : ax_kd kC 9 = (1, 25) := rfl
theorem kdC_10 : ax_kd kC 10 = (4, 12) := rfl
theorem kdC_11 : ax_kd kC 11 = (1, 12) := rfl
theorem kdC_12 : ax_kd kC 12 = (1, 36) := rfl
theorem kdC_13 : ax_kd kC 13 = (1, 12) := rfl
theorem kdC_14 : ax_kd kC 14 = (2, 12) := rfl
theorem kdC_15 : ax_kd kC 15 = (1, 12) := rfl
theorem kdC_16 : ax_kd kC 16 = (1, 12) := rfl
theorem kdU_0 : ∀ u, u < 13 → ax_kd kC (17 + 8 * u + 0) = (0, 3) := by decide +kernel
theorem kdU_1 : ∀ u, u < 13 → ax_kd kC (17 + 8 * u + 1) = (2, 3) := by decide +kernel
theorem kdU_2 : ∀ u, u < 13 → ax_kd kC (17 + 8 * u + 2) = (2, 4) := by decide +kernel
theorem kdU_3 : ∀ u, u < 13 → ax_kd kC (17 + 8 * u + 3) = (2, 4) := by decide +kernel
theorem kdU_4 : ∀ u, u < 13 → ax_kd kC (17 + 8 * u + 4) = (1, 52) := by decide +kernel
theorem kdU_5 : ∀ u, u < 13 → ax_kd kC (17 + 8 * u + 5) = (1, 52) := by decide +kernel
theorem kdU_6 : ∀ u, u < 13 → ax_kd kC (17 + 8 * u + 6) = (2, 52) := by decide +kernel
theorem kdU_7 : ∀ u, u < 13 → ax_kd kC (17 + 8 * u + 7) = (2, 52) := by decide +kernel
theorem kdU_ : ∀ u, u < 13 → ax_kd kC (17 + 8 * u) = (0, 3) := by decide +kernel
theorem kdR_0 : ∀ u, u < 6 → ax_kd kC (121 + 6 * u + 0) = (0, 4) := by decide +kernel
theorem kdR_1 : ∀ u, u < 6 → ax_kd kC (121 + 6 * u + 1) = (1, 8) := by decide +kernel
theorem kdR_2 : ∀ u, u < 6 → ax_kd kC (121 + 6 * u + 2) = (1, 8) := by decide +kernel
theorem kdR_3 : ∀ u, u < 6 → ax_kd kC (121 + 6 * u + 3) = (2, 8) := by decide +kernel
theorem kdR_4 : ∀ u, u < 6 → ax_kd kC (121 + 6 * u + 4) = (2, 8) := by decide +kernel
theorem kdR_5 : ∀ u, u < 6 → ax_kd kC (121 + 6 * u + 5) = (3, 8) := by decide +kernel
theorem kdR_ : ∀ u, u < 6 → ax_kd kC (121 + 6 * u) = (0, 4) := by decide +kernel
theorem nI_eq1 {a : Nat} (ha : a < 2 ^ 31) : (nI a = 1) = (a = 1) := propext (nI_eq (b := 1) ha (by decide))
/-- a truth as the machine has it -/
def bI (b : Bool) : Int32 := nI b.toNat
theorem bI_t : bI true = nI 1 := rfl
theorem bI_f : bI false = nI 0 := rfl
theorem bI_0 (b : Bool) : (bI b = 0) = (b = false) := by cases b <;> simp [bI] <;> decide
theorem bI_z (b : Bool) : (bI b = 0 ∨ bI b = 1) = True := by cases b <;> simp [bI] <;> decide
theorem nI_z1 : (nI 1 = 0 ∨ nI 1 = 1) = True := by simp; decide
theorem nI_z0 : (nI 0 = 0 ∨ nI 0 = 1) = True := by simp; decide
theorem bI_if (b : Bool) : (if b = true then nI 1 else nI 0) = bI b := by cases b <;> rfl
theorem drop_lt {t : List Nat} {n : Nat} (h : n < t.length) : t.drop n = t.getD n 0 :: t.drop (n + 1) := by
  rw [List.drop_eq_getElem_cons h]
  simp [List.getD_eq_getElem?_getD, h]
theorem getD_ge {t : List Nat} {n : Nat} (h : t.length ≤ n) : t.getD n 0 = 0 := by
  simp [List.getD_eq_getElem?_getD, List.getElem?_eq_none h]
theorem take_lt {t : List Nat} {n : Nat} (h : n < t.length) : t.take (n + 1) = t.take n ++ [t.getD n 0] := by
  rw [List.take_succ]
  simp [List.getD_eq_getElem?_getD, h]
theorem bI_1 (b : Bool) : (bI b = 1) = (b = true) := by cases b <;> simp [bI] <;> decide
theorem bf_or (b : Bool) : (b = false ∨ b = true) = True := by cases b <;> simp
theorem lt_T {a b : Nat} (h : a < b) : (a < b) = True := eq_true h
theorem le_T {a b : Nat} (h : a ≤ b) : (a ≤ b) = True := eq_true h
theorem lt_F {a b : Nat} (h : ¬ a < b) : (a < b) = False := eq_false h
theorem le_F {a b : Nat} (h : ¬ a ≤ b) : (a ≤ b) = False := eq_false h
theorem eq_F {a b : Nat} (h : ¬ a = b) : (a = b) = False := eq_false h
theorem eq_T {a b : Nat} (h : a = b) : (a = b) = True := eq_true h
