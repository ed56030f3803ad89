/-! the two searches for a member are one: a stack, and calls within calls -/
def dL (F : Option Nat → Nat → Option Nat × Nat) : List (Option Nat) → Nat → Option Nat × Nat
  | [], v => (none, v)
  | o :: l, v => match F o v with
    | (some r, v') => (some r, v')
    | (none, v') => dL F l v'
def kO (us : List (List Nat)) (fl : Bool) (c : Nat) : List (Option Nat) := [parU us c 1, parU us c 2, parU us c 3] ++ (if fl = true then [parU us c 0] else [])
def dF (us : List (List Nat)) (fl : Bool) (t : List Nat) : Nat → Option Nat → Nat → Option Nat × Nat
  | 0, _, v => (none, v)
  | _ + 1, none, v => (none, v)
  | k + 1, some c, v => if v.testBit c = true then (none, v) else if hsU us fl t c = true then (some c, v ||| 2 ^ c) else dL (dF us fl t k) (kO us fl c) (v ||| 2 ^ c)
theorem dL_app (F : Option Nat → Nat → Option Nat × Nat) : ∀ (l m : List (Option Nat)) (v : Nat), dL F (l ++ m) v = match dL F l v with
    | (some r, v') => (some r, v')
    | (none, v') => dL F m v'
  | [], m, v => rfl
  | o :: l, m, v => by
    rw [List.cons_append, dL, dL]
    rcases F o v with ⟨o1, v1⟩
    cases o1 with
    | some r => rfl
    | none => exact dL_app F l m v1
theorem dF_none (us : List (List Nat)) (fl : Bool) (t : List Nat) (k v : Nat) : dF us fl t k none v = (none, v) := by cases k <;> rfl
theorem kids_kO (us : List (List Nat)) (fl : Bool) (c : Nat) : kids us fl c = (kO us fl c).filterMap id := by
  unfold kids kO kd1
  cases fl <;> cases parU us c 0 <;> cases parU us c 1 <;> cases parU us c 2 <;> cases parU us c 3 <;> rfl
theorem kO_lt {us : List (List Nat)} {fl : Bool} {c y : Nat} (h : some y ∈ kO us fl c) : y < us.length := by
  unfold kO at h
  simp only [List.mem_append, List.mem_cons, List.not_mem_nil, or_false] at h
  rcases h with (h | h | h) | h
  · exact parU_lt h.symm
  · exact parU_lt h.symm
  · exact parU_lt h.symm
  · cases fl
    · simp at h
    · simp at h; exact parU_lt h.symm
section DF
variable {us : List (List Nat)} {fl : Bool} {t : List Nat}
theorem srch_dL (h12 : us.length ≤ 12) : ∀ (k : Nat) (l : List (Option Nat)) (f : Nat) (st : List Nat) (v : Nat), (∀ y, some y ∈ l → y < us.length) → uns v 12 < k → (l.filterMap id).length + st.length + 4 * uns v 12 < f →
    (∀ r v', dL (dF us fl t k) l v = (some r, v') → srch us fl t f (l.filterMap id ++ st) v = some r) ∧
    (∀ v', dL (dF us fl t k) l v = (none, v') → ∃ f', st.length + 4 * uns v' 12 < f' ∧ uns v' 12 ≤ uns v 12 ∧ srch us fl t f (l.filterMap id ++ st) v = srch us fl t f' st v')
  | 0, _, _, _, _, _, h, _ => absurd h (by omega)
  | k + 1, l, f, st, v, hl, hk, hf => by
    induction l generalizing f v with
    | nil =>
      refine ⟨fun r v' h => (by rw [dL] at h; cases h), fun v' h => ?_⟩
      rw [dL] at h
      cases h
      refine ⟨f, ?_, Nat.le_refl _, rfl⟩
      simp only [List.filterMap_nil, List.length_nil] at hf
      omega
    | cons o l ih =>
      have hl2 : ∀ y, some y ∈ l → y < us.length := fun y hy => hl y (List.mem_cons_of_mem _ hy)
      cases o with
      | none =>
        have e1 : (none :: l : List (Option Nat)).filterMap id = l.filterMap id := rfl
        have e2 : dL (dF us fl t (k + 1)) (none :: l) v = dL (dF us fl t (k + 1)) l v := by rw [dL, dF_none]
        rw [e1] at hf ⊢
        rw [e2]
        exact ih f v hl2 hk hf
      | some c =>
        have hc : c < us.length := hl c (List.mem_cons_self ..)
        have e1 : (some c :: l : List (Option Nat)).filterMap id = c :: l.filterMap id := rfl
        rw [e1] at hf ⊢
        obtain ⟨f0, rfl⟩ : ∃ f0, f = f0 + 1 := ⟨f - 1, by simp only [List.length_cons] at hf; omega⟩
        simp only [List.length_cons] at hf
        rw [List.cons_append, srch]
        by_cases b1 : v.testBit c = true
        · have e2 : dL (dF us fl t (k + 1)) (some c :: l) v = dL (dF us fl t (k + 1)) l v := by rw [dL, dF, if_pos b1]
          rw [if_pos b1, e2]
          exact ih f0 v hl2 hk (by omega)
        · rw [if_neg b1]
          by_cases b2 : hsU us fl t c = true
          · have e2 : dL (dF us fl t (k + 1)) (some c :: l) v = (some c, v ||| 2 ^ c) := by rw [dL, dF, if_neg b1, if_pos b2]
            rw [if_pos b2, e2]
            exact ⟨fun r v' h => by cases h; rfl, fun v' h => by cases h⟩
          · rw [if_neg b2]
            have hu := uns_hi v c b1 12 (by omega)
            have kl := kids_len us fl c
            rw [kids_kO] at kl ⊢
            have ik := srch_dL h12 k (kO us fl c) f0 (l.filterMap id ++ st) (v ||| 2 ^ c) (fun y hy => kO_lt hy) (by omega) (by rw [List.length_append]; omega)
            have e2 : dL (dF us fl t (k + 1)) (some c :: l) v = match dL (dF us fl t k) (kO us fl c) (v ||| 2 ^ c) with
                | (some r, v') => (some r, v')
                | (none, v') => dL (dF us fl t (k + 1)) l v' := by rw [dL, dF, if_neg b1, if_neg b2]
            rw [e2]
            rcases hd : dL (dF us fl t k) (kO us fl c) (v ||| 2 ^ c) with ⟨o1, v1⟩
            cases o1 with
            | some r1 =>
              have := ik.1 r1 v1 hd
              exact ⟨fun r v' h => by cases h; exact this, fun v' h => by cases h⟩
            | none =>
              obtain ⟨f1, g1, g2, g3⟩ := ik.2 v1 hd
              rw [g3]
              rw [List.length_append] at g1
              have i2 := ih f1 v1 hl2 (by omega) (by omega)
              exact ⟨i2.1, fun v' h => by obtain ⟨f2, w1, w2, w3⟩ := i2.2 v' h; exact ⟨f2, w1, by omega, w3⟩⟩
theorem uns_z : ∀ k, uns 0 k = k
  | 0 => rfl
  | k + 1 => by rw [uns, uns_z k, Nat.zero_testBit, if_neg (by simp)]
theorem srU_dF (h12 : us.length ≤ 12) {c : Nat} (hc : c < us.length) : srU us fl t c = (dF us fl t 13 (some c) 0).1 := by
  have h := srch_dL (us := us) (fl := fl) (t := t) h12 13 [some c] 50 [] 0 (fun y hy => by simp at hy; omega) (by rw [uns_z]; omega) (by rw [uns_z]; simp)
  have e : dL (dF us fl t 13) [some c] 0 = dF us fl t 13 (some c) 0 := by
    rw [dL]
    rcases dF us fl t 13 (some c) 0 with ⟨o1, v1⟩
    cases o1 <;> rfl
  rw [e] at h
  unfold srU
  rcases hd : dF us fl t 13 (some c) 0 with ⟨o1, v1⟩
  cases o1 with
  | some r => exact h.1 r v1 hd
  | none =>
    obtain ⟨f', _, _, g⟩ := h.2 v1 hd
    have g2 : srch us fl t 50 [c] 0 = srch us fl t f' [] v1 := g
    rw [g2]
    cases f' <;> rfl
/-- searched through, and nothing there -/
def clo (us : List (List Nat)) (fl : Bool) (t : List Nat) (V : Nat) : Prop := ∀ x, V.testBit x = true → hsU us fl t x = false ∧ ∀ y, some y ∈ kO us fl x → V.testBit y = true
theorem dL_in {V : Nat} (F : Option Nat → Nat → Option Nat × Nat) (hF : ∀ o a, (∀ y, o = some y → V.testBit y = true) → (F o a).1 = none ∧ (F o a).2 ||| V = a ||| V) : ∀ (l : List (Option Nat)) (a : Nat), (∀ y, some y ∈ l → V.testBit y = true) → (dL F l a).1 = none ∧ (dL F l a).2 ||| V = a ||| V
  | [], a, _ => ⟨rfl, rfl⟩
  | o :: l, a, hl => by
    have h1 := hF o a (fun y hy => hl y (by rw [hy]; exact List.mem_cons_self ..))
    rw [dL]
    rcases hd : F o a with ⟨o1, v1⟩
    rw [hd] at h1
    have e : o1 = none := h1.1
    subst e
    have h2 := dL_in F hF l v1 (fun y hy => hl y (List.mem_cons_of_mem _ hy))
    exact ⟨h2.1, h2.2.trans h1.2⟩
theorem or_tb {V c : Nat} (h : V.testBit c = true) (a : Nat) : a ||| 2 ^ c ||| V = a ||| V := by
  apply Nat.eq_of_testBit_eq
  intro i
  simp only [Nat.testBit_or, Nat.testBit_two_pow]
  by_cases e : c = i
  · subst e; simp [h]
  · simp [e]
theorem dF_in {V : Nat} (hV : clo us fl t V) : ∀ (k : Nat) (o : Option Nat) (a : Nat), (∀ y, o = some y → V.testBit y = true) → (dF us fl t k o a).1 = none ∧ (dF us fl t k o a).2 ||| V = a ||| V
  | 0, _, _, _ => ⟨rfl, rfl⟩
  | k + 1, none, _, _ => ⟨rfl, rfl⟩
  | k + 1, some c, a, ho => by
    have hc := ho c rfl
    have h1 := hV c hc
    rw [dF]
    by_cases b1 : a.testBit c = true
    · rw [if_pos b1]; exact ⟨rfl, rfl⟩
    · rw [if_neg b1, if_neg (by rw [h1.1]; simp)]
      have h2 := dL_in (dF us fl t k) (fun o a w => dF_in hV k o a w) (kO us fl c) (a ||| 2 ^ c) h1.2
      exact ⟨h2.1, h2.2.trans (or_tb hc a)⟩
theorem dL_or {V : Nat} (F : Option Nat → Nat → Option Nat × Nat) (hF : ∀ o a, F o (a ||| V) = ((F o a).1, (F o a).2 ||| V)) : ∀ (l : List (Option Nat)) (a : Nat), dL F l (a ||| V) = ((dL F l a).1, (dL F l a).2 ||| V)
  | [], a => rfl
  | o :: l, a => by
    rw [dL, dL, hF o a]
    rcases hd : F o a with ⟨o1, v1⟩
    cases o1 with
    | some r => rfl
    | none => exact dL_or F hF l v1
theorem or_swap (a V c : Nat) : a ||| V ||| 2 ^ c = a ||| 2 ^ c ||| V := by
  apply Nat.eq_of_testBit_eq
  intro i
  simp only [Nat.testBit_or]
  cases a.testBit i <;> cases V.testBit i <;> cases (2 ^ c).testBit i <;> rfl
theorem dF_or {V : Nat} (hV : clo us fl t V) : ∀ (k : Nat) (o : Option Nat) (a : Nat), dF us fl t k o (a ||| V) = ((dF us fl t k o a).1, (dF us fl t k o a).2 ||| V)
  | 0, _, _ => rfl
  | k + 1, none, _ => rfl
  | k + 1, some c, a => by
    by_cases b0 : V.testBit c = true
    · have h1 := dF_in hV (k + 1) (some c) a (fun y hy => by cases hy; exact b0)
      rw [h1.1, h1.2, dF, if_pos (by rw [Nat.testBit_or, b0, Bool.or_true])]
    · rw [dF, dF]
      have e : (a ||| V).testBit c = a.testBit c := by rw [Nat.testBit_or, Bool.not_eq_true _ |>.mp b0, Bool.or_false]
      rw [e]
      by_cases b1 : a.testBit c = true
      · rw [if_pos b1, if_pos b1]
      · rw [if_neg b1, if_neg b1]
        by_cases b2 : hsU us fl t c = true
        · rw [if_pos b2, if_pos b2, or_swap]
        · rw [if_neg b2, if_neg b2, or_swap]
          exact dL_or (dF us fl t k) (fun o a => dF_or hV k o a) (kO us fl c) (a ||| 2 ^ c)
/-- what a search that found nothing has seen -/
def nwC (us : List (List Nat)) (fl : Bool) (t : List Nat) (a a' : Nat) : Prop := (∀ x, a.testBit x = true → a'.testBit x = true) ∧ ∀ x, a'.testBit x = true → ¬ a.testBit x = true → hsU us fl t x = false ∧ ∀ y, some y ∈ kO us fl x → a'.testBit y = true
theorem uns_mono {a a' : Nat} (h : ∀ x, a.testBit x = true → a'.testBit x = true) : ∀ k, uns a' k ≤ uns a k
  | 0 => Nat.le_refl _
  | k + 1 => by
    rw [uns, uns]
    have := uns_mono h k
    by_cases e : a.testBit k = true
    · rw [if_pos e, if_pos (h k e)]; omega
    · rw [if_neg e]; split <;> omega
theorem dL_nw (k : Nat) (hF : ∀ o a a', (∀ y, o = some y → y < 12) → uns a 12 < k → dF us fl t k o a = (none, a') → nwC us fl t a a' ∧ ∀ y, o = some y → a'.testBit y = true) : ∀ (l : List (Option Nat)) (a a' : Nat), (∀ y, some y ∈ l → y < 12) → uns a 12 < k → dL (dF us fl t k) l a = (none, a') → nwC us fl t a a' ∧ ∀ y, some y ∈ l → a'.testBit y = true
  | [], a, a', _, _, h => by
    rw [dL] at h
    cases h
    exact ⟨⟨fun _ h => h, fun x h1 h2 => absurd h1 h2⟩, fun y hy => by simp at hy⟩
  | o :: l, a, a', hl, hk, h => by
    rw [dL] at h
    rcases hd : dF us fl t k o a with ⟨o1, v1⟩
    rw [hd] at h
    cases o1 with
    | some r => cases h
    | none =>
      have h1 := hF o a v1 (fun y hy => hl y (by rw [hy]; exact List.mem_cons_self ..)) hk hd
      have h2 := dL_nw k hF l v1 a' (fun y hy => hl y (List.mem_cons_of_mem _ hy)) (by have := uns_mono h1.1.1 12; omega) h
      refine ⟨⟨fun x hx => h2.1.1 x (h1.1.1 x hx), fun x hx hn => ?_⟩, fun y hy => ?_⟩
      · by_cases e : v1.testBit x = true
        · have := h1.1.2 x e hn
          exact ⟨this.1, fun y hy => h2.1.1 y (this.2 y hy)⟩
        · exact h2.1.2 x hx e
      · rcases List.mem_cons.mp hy with e | e
        · exact h2.1.1 y (h1.2 y e.symm)
        · exact h2.2 y e
theorem tb_or (v c x : Nat) : (v ||| 2 ^ c).testBit x = (v.testBit x || decide (c = x)) := by rw [Nat.testBit_or, Nat.testBit_two_pow]
theorem dF_nw (h12 : us.length ≤ 12) : ∀ (k : Nat) (o : Option Nat) (a a' : Nat), (∀ y, o = some y → y < 12) → uns a 12 < k → dF us fl t k o a = (none, a') → nwC us fl t a a' ∧ ∀ y, o = some y → a'.testBit y = true
  | 0, _, _, _, _, h, _ => absurd h (by omega)
  | k + 1, none, a, a', _, _, h => by
    rw [dF] at h
    cases h
    exact ⟨⟨fun _ h => h, fun x h1 h2 => absurd h1 h2⟩, fun y hy => by cases hy⟩
  | k + 1, some c, a, a', ho, hk, h => by
    have hc := ho c rfl
    rw [dF] at h
    by_cases b1 : a.testBit c = true
    · rw [if_pos b1] at h
      cases h
      exact ⟨⟨fun _ h => h, fun x h1 h2 => absurd h1 h2⟩, fun y hy => by cases hy; exact b1⟩
    · rw [if_neg b1] at h
      by_cases b2 : hsU us fl t c = true
      · rw [if_pos b2] at h; cases h
      · rw [if_neg b2] at h
        have hu := uns_hi a c b1 12 hc
        have h1 := dL_nw k (fun o a a' => dF_nw h12 k o a a') (kO us fl c) (a ||| 2 ^ c) a' (fun y hy => by have := kO_lt hy; omega) (by omega) h
        have hin : a'.testBit c = true := h1.1.1 c (by rw [tb_or]; simp)
        refine ⟨⟨fun x hx => h1.1.1 x (by rw [tb_or, hx]; rfl), fun x hx hn => ?_⟩, fun y hy => by cases hy; exact hin⟩
        by_cases e : c = x
        · subst e
          exact ⟨by simpa using b2, h1.2⟩
        · exact h1.1.2 x hx (by rw [tb_or]; simp [e, hn])
/-- one search after another, with one memory, finds what searches that forget find -/
theorem dF_cl (h12 : us.length ≤ 12) {V V' : Nat} (hV : clo us fl t V) {o : Option Nat} (ho : ∀ y, o = some y → y < 12) (h : dF us fl t 13 o V = (none, V')) : clo us fl t V' := by
  have h1 := dF_or hV 13 o 0
  rw [Nat.zero_or, h] at h1
  rcases hd : dF us fl t 13 o 0 with ⟨o1, v1⟩
  rw [hd] at h1
  have e1 : o1 = none := (congrArg Prod.fst h1).symm
  have e2 : V' = v1 ||| V := congrArg Prod.snd h1
  subst e1 e2
  have hn := (dF_nw h12 13 o 0 v1 ho (by rw [uns_z]; omega) hd).1
  intro x hx
  rw [Nat.testBit_or, Bool.or_eq_true] at hx
  rcases hx with hx | hx
  · have := hn.2 x hx (by rw [Nat.zero_testBit]; simp)
    exact ⟨this.1, fun y hy => by rw [Nat.testBit_or, this.2 y hy, Bool.true_or]⟩
  · have := hV x hx
    exact ⟨this.1, fun y hy => by rw [Nat.testBit_or, this.2 y hy, Bool.or_true]⟩
theorem dF_fst {V : Nat} (hV : clo us fl t V) (o : Option Nat) : (dF us fl t 13 o V).1 = (dF us fl t 13 o 0).1 := by
  have h1 := dF_or hV 13 o 0
  rw [Nat.zero_or] at h1
  rw [h1]
end DF
theorem fcU_dF {us : List (List Nat)} (h12 : us.length ≤ 12) (t : List Nat) (k i : Nat) : fcU us t k i = (dF us false t 13 (parU us k i) 0).1 := by
  unfold fcU
  cases e : parU us k i with
  | none => rfl
  | some r => exact srU_dF h12 (parU_lt e)
def l3 (us : List (List Nat)) (c : Nat) : List (Option Nat) := [parU us c 1, parU us c 2, parU us c 3]
theorem fc3_dL {us : List (List Nat)} (h12 : us.length ≤ 12) {t : List Nat} {V : Nat} (hV : clo us false t V) (k : Nat) : (dL (dF us false t 13) (l3 us k) V).1 = fc3 us t k ∧ ((dL (dF us false t 13) (l3 us k) V).1 = none → clo us false t (dL (dF us false t 13) (l3 us k) V).2) := by
  have lt : ∀ i y, parU us k i = some y → y < 12 := fun i y hy => by have := parU_lt hy; omega
  unfold l3 fc3
  rw [fcU_dF h12, fcU_dF h12, fcU_dF h12, dL]
  have f1 := dF_fst hV (parU us k 1)
  rcases h1 : dF us false t 13 (parU us k 1) V with ⟨o1, V1⟩
  rw [h1] at f1
  rw [← f1]
  cases o1 with
  | some r => exact ⟨rfl, fun h => by cases h⟩
  | none =>
    have c1 := dF_cl h12 hV (lt 1) h1
    have f2 := dF_fst c1 (parU us k 2)
    dsimp only
    rw [dL]
    rcases h2 : dF us false t 13 (parU us k 2) V1 with ⟨o2, V2⟩
    rw [h2] at f2
    rw [← f2]
    cases o2 with
    | some r => exact ⟨rfl, fun h => by cases h⟩
    | none =>
      have c2 := dF_cl h12 c1 (lt 2) h2
      have f3 := dF_fst c2 (parU us k 3)
      dsimp only
      rw [dL]
      rcases h3 : dF us false t 13 (parU us k 3) V2 with ⟨o3, V3⟩
      rw [h3] at f3
      rw [← f3]
      cases o3 with
      | some r => exact ⟨rfl, fun h => by cases h⟩
      | none => exact ⟨rfl, fun _ => dF_cl h12 c2 (lt 3) h3⟩
theorem clo_0 (us : List (List Nat)) (fl : Bool) (t : List Nat) : clo us fl t 0 := fun x hx => by rw [Nat.zero_testBit] at hx; cases hx
