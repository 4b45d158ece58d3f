/-! lines and defects: the least weight, found by lines and found by defects -/
def jnS (f : Nat → Nat) : Nat → Nat → Nat
  | _, 0 => 0
  | i, k + 1 => f i + jnS f (i + 1) k
theorem jnS_cong {f g : Nat → Nat} : ∀ (k i : Nat), (∀ e, i ≤ e → e < i + k → f e = g e) → jnS f i k = jnS g i k
  | 0, _, _ => rfl
  | k + 1, i, h => by
    rw [jnS, jnS, h i (by omega) (by omega), jnS_cong k (i + 1) (fun e h1 h2 => h e (by omega) (by omega))]
theorem jnS_add {f g h : Nat → Nat} : ∀ (k i : Nat), (∀ e, i ≤ e → e < i + k → h e = f e + g e) → jnS h i k = jnS f i k + jnS g i k
  | 0, _, _ => rfl
  | k + 1, i, q => by
    rw [jnS, jnS, jnS, q i (by omega) (by omega), jnS_add k (i + 1) (fun e h1 h2 => q e (by omega) (by omega))]; omega
theorem jnS_one {f g : Nat → Nat} {x : Nat} : ∀ (k i : Nat), i ≤ x → x < i + k → (∀ e, i ≤ e → e < i + k → e ≠ x → f e = g e) → jnS f i k + g x = jnS g i k + f x
  | 0, i, h1, h2, _ => absurd h2 (by omega)
  | k + 1, i, h1, h2, h => by
    rw [jnS, jnS]
    by_cases c : x = i
    · subst c
      rw [jnS_cong k (x + 1) (fun e a b => h e (by omega) (by omega) (by omega))]; omega
    · have := jnS_one (f := f) (g := g) (x := x) k (i + 1) (by omega) (by omega) (fun e a b d => h e (by omega) (by omega) d)
      rw [h i (by omega) (by omega) (by omega)]; omega
theorem jnS_lt {f : Nat → Nat} {b : Nat} : ∀ (k i : Nat), (∀ e, i ≤ e → e < i + k → f e ≤ b) → jnS f i k ≤ k * b
  | 0, _, _ => Nat.zero_le _
  | k + 1, i, h => by
    rw [jnS, Nat.succ_mul]
    have := jnS_lt k (i + 1) (fun e h1 h2 => h e (by omega) (by omega))
    have := h i (by omega) (by omega)
    omega
def jnW (w : Nat → Nat → Nat) (z : Nat → Nat) (i : Nat) : Option Nat → Nat
  | none => z i
  | some d => w i d
/-- a share of the defects among the lines i .. i + k - 1, away from those of U -/
def jnM (m : Nat) (vd : Nat → Nat → Bool) (i k U : Nat) (A : Nat → Option Nat) : Prop := (∀ e d, i ≤ e → e < i + k → A e = some d → d < m ∧ vd e d = true ∧ U.testBit d = false) ∧ ∀ e e' d, i ≤ e → e < i + k → i ≤ e' → e' < i + k → A e = some d → A e' = some d → e = e'
def jnO (vd : Nat → Nat → Bool) (w : Nat → Nat → Nat) (F : Nat → Nat) (i U : Nat) : Nat → Nat → Nat → Nat
  | _, 0, a => a
  | d, k + 1, a => jnO vd w F i U (d + 1) k (if !U.testBit d && vd i d then min a (w i d + F (U ||| 2 ^ d)) else a)
theorem jnO_acc (vd : Nat → Nat → Bool) (w : Nat → Nat → Nat) (F : Nat → Nat) (i U : Nat) : ∀ (k d a : Nat), jnO vd w F i U d k a ≤ a
  | 0, _, _ => Nat.le_refl _
  | k + 1, d, a => by
    rw [jnO]
    refine Nat.le_trans (jnO_acc vd w F i U k (d + 1) _) ?_
    split <;> omega
theorem jnO_le (vd : Nat → Nat → Bool) (w : Nat → Nat → Nat) (F : Nat → Nat) (i U : Nat) {x : Nat} (h1 : U.testBit x = false) (h2 : vd i x = true) : ∀ (k d a : Nat), d ≤ x → x < d + k → jnO vd w F i U d k a ≤ w i x + F (U ||| 2 ^ x)
  | 0, d, a, q1, q2 => absurd q2 (by omega)
  | k + 1, d, a, q1, q2 => by
    rw [jnO]
    by_cases c : x = d
    · subst c
      refine Nat.le_trans (jnO_acc vd w F i U k (x + 1) _) ?_
      rw [if_pos (by rw [h1, h2]; rfl)]; omega
    · exact jnO_le vd w F i U h1 h2 k (d + 1) _ (by omega) (by omega)
theorem jnO_at (vd : Nat → Nat → Bool) (w : Nat → Nat → Nat) (F : Nat → Nat) (i U : Nat) : ∀ (k d a : Nat), jnO vd w F i U d k a = a ∨ ∃ x, d ≤ x ∧ x < d + k ∧ U.testBit x = false ∧ vd i x = true ∧ jnO vd w F i U d k a = w i x + F (U ||| 2 ^ x)
  | 0, _, _ => Or.inl rfl
  | k + 1, d, a => by
    rw [jnO]
    cases hc : (!U.testBit d && vd i d) with
    | false =>
      rw [if_neg (by decide)]
      rcases jnO_at vd w F i U k (d + 1) a with h | ⟨x, h1, h2, h3⟩
      · exact Or.inl h
      · exact Or.inr ⟨x, by omega, by omega, h3⟩
    | true =>
      rw [if_pos rfl]
      simp only [Bool.and_eq_true, Bool.not_eq_true'] at hc
      rcases jnO_at vd w F i U k (d + 1) (min a (w i d + F (U ||| 2 ^ d))) with h | ⟨x, h1, h2, h3⟩
      · rcases Nat.le_total a (w i d + F (U ||| 2 ^ d)) with g | g
        · left; rw [h]; omega
        · right; exact ⟨d, by omega, by omega, hc.1, hc.2, by rw [h]; omega⟩
      · exact Or.inr ⟨x, by omega, by omega, h3⟩
def jnB (m : Nat) (vd : Nat → Nat → Bool) (w : Nat → Nat → Nat) (z : Nat → Nat) : Nat → Nat → Nat → Nat
  | 0, _, _ => 0
  | k + 1, i, U => jnO vd w (jnB m vd w z k (i + 1)) i U 0 m (z i + jnB m vd w z k (i + 1) U)
theorem jn_or {U d e : Nat} : (U ||| 2 ^ d).testBit e = (U.testBit e || decide (d = e)) := by
  rw [Nat.testBit_or, Nat.testBit_two_pow]
theorem jnB_le (m : Nat) (vd : Nat → Nat → Bool) (w : Nat → Nat → Nat) (z : Nat → Nat) : ∀ (k i U : Nat) (A : Nat → Option Nat), jnM m vd i k U A → jnB m vd w z k i U ≤ jnS (fun e => jnW w z e (A e)) i k
  | 0, _, _, _, _ => Nat.le_refl _
  | k + 1, i, U, A, h => by
    rw [jnB, jnS]
    cases ha : A i with
    | none =>
      have := jnB_le m vd w z k (i + 1) U A ⟨fun e d h1 h2 => h.1 e d (by omega) (by omega), fun e e' d h1 h2 h3 h4 => h.2 e e' d (by omega) (by omega) (by omega) (by omega)⟩
      refine Nat.le_trans (jnO_acc _ _ _ _ _ _ _ _) ?_
      show z i + _ ≤ z i + _
      omega
    | some d =>
      obtain ⟨p1, p2, p3⟩ := h.1 i d (by omega) (by omega) ha
      have := jnB_le m vd w z k (i + 1) (U ||| 2 ^ d) A ⟨fun e x h1 h2 hx => by
        obtain ⟨q1, q2, q3⟩ := h.1 e x (by omega) (by omega) hx
        refine ⟨q1, q2, ?_⟩
        rw [jn_or, q3, Bool.false_or]
        refine decide_eq_false (fun z => ?_)
        subst z
        have := h.2 i e d (by omega) (by omega) (by omega) (by omega) ha hx
        omega, fun e e' d h1 h2 h3 h4 => h.2 e e' d (by omega) (by omega) (by omega) (by omega)⟩
      refine Nat.le_trans (jnO_le _ _ _ _ _ p3 p2 m 0 _ (by omega) (by omega)) ?_
      show w i d + _ ≤ w i d + _
      omega
theorem jnB_at (m : Nat) (vd : Nat → Nat → Bool) (w : Nat → Nat → Nat) (z : Nat → Nat) : ∀ (k i U : Nat), ∃ A, jnM m vd i k U A ∧ jnB m vd w z k i U = jnS (fun e => jnW w z e (A e)) i k
  | 0, i, U => ⟨fun _ => none, ⟨(fun e d h1 h2 => absurd h2 (by omega)), (fun e e' d h1 h2 => absurd h2 (by omega))⟩, rfl⟩
  | k + 1, i, U => by
    rw [jnB]
    rcases jnO_at vd w (jnB m vd w z k (i + 1)) i U m 0 (z i + jnB m vd w z k (i + 1) U) with h | ⟨x, h1, h2, h3, h4, h5⟩
    · obtain ⟨A, a1, a2⟩ := jnB_at m vd w z k (i + 1) U
      refine ⟨fun e => if e = i then none else A e, ⟨fun e d q1 q2 q3 => ?_, fun e e' d q1 q2 q3 q4 q5 q6 => ?_⟩, ?_⟩
      · have q3 : (if e = i then none else A e) = some d := q3
        by_cases c : e = i
        · rw [if_pos c] at q3; cases q3
        · rw [if_neg c] at q3; exact a1.1 e d (by omega) (by omega) q3
      · have q5 : (if e = i then none else A e) = some d := q5
        have q6 : (if e' = i then none else A e') = some d := q6
        by_cases c : e = i
        · rw [if_pos c] at q5; cases q5
        · by_cases c' : e' = i
          · rw [if_pos c'] at q6; cases q6
          · rw [if_neg c] at q5; rw [if_neg c'] at q6
            exact a1.2 e e' d (by omega) (by omega) (by omega) (by omega) q5 q6
      · rw [h, a2, jnS]
        show _ = jnW w z i (if i = i then none else A i) + _
        rw [if_pos rfl, jnS_cong k (i + 1) (fun e q1 q2 => by show jnW w z e (A e) = jnW w z e (if e = i then none else A e); rw [if_neg (by omega)])]
        rfl
    · obtain ⟨A, a1, a2⟩ := jnB_at m vd w z k (i + 1) (U ||| 2 ^ x)
      have away : ∀ e d, i + 1 ≤ e → e < i + 1 + k → A e = some d → d < m ∧ vd e d = true ∧ U.testBit d = false ∧ ¬ x = d := fun e d q1 q2 q3 => by
        obtain ⟨r1, r2, r3⟩ := a1.1 e d q1 q2 q3
        rw [jn_or, Bool.or_eq_false_iff] at r3
        exact ⟨r1, r2, r3.1, of_decide_eq_false r3.2⟩
      refine ⟨fun e => if e = i then some x else A e, ⟨fun e d q1 q2 q3 => ?_, fun e e' d q1 q2 q3 q4 q5 q6 => ?_⟩, ?_⟩
      · have q3 : (if e = i then some x else A e) = some d := q3
        by_cases c : e = i
        · rw [if_pos c] at q3
          injection q3 with q3
          subst q3; subst c
          exact ⟨by omega, h4, h3⟩
        · rw [if_neg c] at q3
          obtain ⟨r1, r2, r3, r4⟩ := away e d (by omega) (by omega) q3
          exact ⟨r1, r2, r3⟩
      · have q5 : (if e = i then some x else A e) = some d := q5
        have q6 : (if e' = i then some x else A e') = some d := q6
        by_cases c : e = i
        · by_cases c' : e' = i
          · omega
          · rw [if_pos c] at q5; rw [if_neg c'] at q6
            injection q5 with q5
            exact absurd q5 (away e' d (by omega) (by omega) q6).2.2.2
        · by_cases c' : e' = i
          · rw [if_neg c] at q5; rw [if_pos c'] at q6
            injection q6 with q6
            exact absurd q6 (away e d (by omega) (by omega) q5).2.2.2
          · rw [if_neg c] at q5; rw [if_neg c'] at q6
            exact a1.2 e e' d (by omega) (by omega) (by omega) (by omega) q5 q6
      · rw [h5, a2, jnS]
        show _ = jnW w z i (if i = i then some x else A i) + _
        rw [if_pos rfl, jnS_cong k (i + 1) (fun e q1 q2 => by show jnW w z e (A e) = jnW w z e (if e = i then some x else A e); rw [if_neg (by omega)])]
        rfl
/-! found by defects: c S the least weight with which the lines of S take defects below k -/
def jnP (l k : Nat) (vd : Nat → Nat → Bool) (S : Nat) (A : Nat → Option Nat) : Prop := (∀ e, e < l → S.testBit e = true → ∃ d, d < k ∧ A e = some d ∧ vd e d = true) ∧ ∀ e e' d, e < l → e' < l → S.testBit e = true → S.testBit e' = true → A e = some d → A e' = some d → e = e'
def jnT (l : Nat) (w : Nat → Nat → Nat) (S : Nat) (A : Nat → Option Nat) : Nat := jnS (fun e => if S.testBit e then jnW w (fun _ => 0) e (A e) else 0) 0 l
def jnC (l k NV : Nat) (vd : Nat → Nat → Bool) (w : Nat → Nat → Nat) (c : Nat → Nat) : Prop := ∀ S, S < 2 ^ l → (∀ A, jnP l k vd S A → c S ≤ jnT l w S A) ∧ (c S = NV ∨ c S < NV ∧ ∃ A, jnP l k vd S A ∧ c S = jnT l w S A)
/-- one defect more -/
def jnN (NV : Nat) (vd : Nat → Bool) (w : Nat → Nat) (c : Nat → Nat) (S : Nat) : Nat → Nat → Nat → Nat
  | _, 0, a => a
  | i, k + 1, a => jnN NV vd w c S (i + 1) k (if S.testBit i then (if vd i then (if c (S ^^^ 2 ^ i) = NV then a else min a (c (S ^^^ 2 ^ i) + w i)) else a) else a)
theorem jnN_acc (NV : Nat) (vd : Nat → Bool) (w : Nat → Nat) (c : Nat → Nat) (S : Nat) : ∀ (k i a : Nat), jnN NV vd w c S i k a ≤ a
  | 0, _, _ => Nat.le_refl _
  | k + 1, i, a => by
    rw [jnN]
    refine Nat.le_trans (jnN_acc NV vd w c S k (i + 1) _) ?_
    repeat' split
    all_goals omega
theorem jnN_le (NV : Nat) (vd : Nat → Bool) (w : Nat → Nat) (c : Nat → Nat) (S : Nat) {x : Nat} (h1 : S.testBit x = true) (h2 : vd x = true) (h3 : ¬ c (S ^^^ 2 ^ x) = NV) : ∀ (k i a : Nat), i ≤ x → x < i + k → jnN NV vd w c S i k a ≤ c (S ^^^ 2 ^ x) + w x
  | 0, i, a, q1, q2 => absurd q2 (by omega)
  | k + 1, i, a, q1, q2 => by
    rw [jnN]
    by_cases g : x = i
    · subst g
      refine Nat.le_trans (jnN_acc NV vd w c S k (x + 1) _) ?_
      rw [if_pos h1, if_pos h2, if_neg h3]; omega
    · exact jnN_le NV vd w c S h1 h2 h3 k (i + 1) _ (by omega) (by omega)
theorem jnN_at (NV : Nat) (vd : Nat → Bool) (w : Nat → Nat) (c : Nat → Nat) (S : Nat) : ∀ (k i a : Nat), jnN NV vd w c S i k a = a ∨ ∃ x, i ≤ x ∧ x < i + k ∧ S.testBit x = true ∧ vd x = true ∧ (¬ c (S ^^^ 2 ^ x) = NV) ∧ jnN NV vd w c S i k a = c (S ^^^ 2 ^ x) + w x
  | 0, _, _ => Or.inl rfl
  | k + 1, i, a => by
    rw [jnN]
    have key : ∀ b, jnN NV vd w c S (i + 1) k b = b ∨ ∃ x, i ≤ x ∧ x < i + (k + 1) ∧ S.testBit x = true ∧ vd x = true ∧ (¬ c (S ^^^ 2 ^ x) = NV) ∧ jnN NV vd w c S (i + 1) k b = c (S ^^^ 2 ^ x) + w x := fun b => by
      rcases jnN_at NV vd w c S k (i + 1) b with h | ⟨x, h1, h2, h3⟩
      · exact Or.inl h
      · exact Or.inr ⟨x, by omega, by omega, h3⟩
    by_cases c1 : S.testBit i = true
    · by_cases c2 : vd i = true
      · by_cases c3 : c (S ^^^ 2 ^ i) = NV
        · rw [if_pos c1, if_pos c2, if_pos c3]; exact key a
        · rw [if_pos c1, if_pos c2, if_neg c3]
          rcases key (min a (c (S ^^^ 2 ^ i) + w i)) with h | h
          · rcases Nat.le_total a (c (S ^^^ 2 ^ i) + w i) with g | g
            · left; rw [h]; omega
            · right; exact ⟨i, by omega, by omega, c1, c2, c3, by rw [h]; omega⟩
          · exact Or.inr h
      · rw [if_pos c1, if_neg c2]; exact key a
    · rw [if_neg c1]; exact key a
theorem jn_xor {S i e : Nat} (h : S.testBit i = true) : (S ^^^ 2 ^ i).testBit e = (S.testBit e && !decide (i = e)) := by
  rw [Nat.testBit_xor, Nat.testBit_two_pow]
  by_cases c : i = e
  · subst c; rw [h, decide_eq_true rfl]; rfl
  · rw [decide_eq_false c]; simp
theorem jnT_x {l : Nat} {w : Nat → Nat → Nat} {S i : Nat} {A A' : Nat → Option Nat} {d : Nat} (hi : i < l) (h : S.testBit i = true) (ha : A i = some d) (hA : ∀ e, e < l → e ≠ i → A e = A' e) : jnT l w S A = jnT l w (S ^^^ 2 ^ i) A' + w i d := by
  have := jnS_one (f := fun e => if S.testBit e then jnW w (fun _ => 0) e (A e) else 0) (g := fun e => if (S ^^^ 2 ^ i).testBit e then jnW w (fun _ => 0) e (A' e) else 0) (x := i) l 0 (by omega) (by omega) (fun e h1 h2 h3 => by
    show (if S.testBit e then jnW w (fun _ => 0) e (A e) else 0) = if (S ^^^ 2 ^ i).testBit e then jnW w (fun _ => 0) e (A' e) else 0
    rw [jn_xor h, decide_eq_false (fun z => h3 z.symm), hA e (by omega) h3]; simp)
  unfold jnT
  have e1 : (if (S ^^^ 2 ^ i).testBit i then jnW w (fun _ => 0) i (A' i) else 0) = 0 := by
    rw [jn_xor h, decide_eq_true rfl]; simp
  have e2 : (if S.testBit i then jnW w (fun _ => 0) i (A i) else 0) = w i d := by
    rw [if_pos h, ha]; rfl
  simp only [e1, e2] at this
  omega
theorem jnT_lt {l k : Nat} {w : Nat → Nat → Nat} {vd : Nat → Nat → Bool} {S : Nat} {A : Nat → Option Nat} {b : Nat} (hw : ∀ i d, i < l → d < k → vd i d = true → w i d ≤ b) (h : jnP l k vd S A) : jnT l w S A ≤ l * b := by
  refine jnS_lt l 0 (fun e h1 h2 => ?_)
  by_cases c : S.testBit e = true
  · obtain ⟨d, hd, ha, hv⟩ := h.1 e (by omega) c
    simp only [if_pos c, ha]
    exact hw e d (by omega) hd hv
  · simp only [if_neg c]; omega
theorem jnC_step {l k NV b : Nat} {vd : Nat → Nat → Bool} {w : Nat → Nat → Nat} {c c' : Nat → Nat} (hw : ∀ i d, i < l → d < k + 1 → vd i d = true → w i d ≤ b) (hb : l * b < NV) (h : jnC l k NV vd w c) (hc : ∀ S, S < 2 ^ l → c' S = jnN NV (fun i => vd i k) (fun i => w i k) c S 0 l (c S)) : jnC l (k + 1) NV vd w c' := by
  intro S hS
  have hx : ∀ i, i < l → S ^^^ 2 ^ i < 2 ^ l := fun i hi => Nat.xor_lt_two_pow hS (Nat.pow_lt_pow_right (by decide) hi)
  rw [hc S hS]
  refine ⟨fun A hA => ?_, ?_⟩
  · by_cases g : ∃ i, i < l ∧ S.testBit i = true ∧ A i = some k
    · obtain ⟨i, hi, hs, ha⟩ := g
      have hP : jnP l k vd (S ^^^ 2 ^ i) A := by
        refine ⟨fun e he hb => ?_, fun e e' d h1 h2 h3 h4 => ?_⟩
        · rw [jn_xor hs, Bool.and_eq_true, Bool.not_eq_true'] at hb
          obtain ⟨d, hd, hae, hv⟩ := hA.1 e he hb.1
          refine ⟨d, ?_, hae, hv⟩
          have : ¬ d = k := fun z => by
            subst z
            exact absurd (hA.2 i e d hi he hs hb.1 ha hae) (of_decide_eq_false hb.2)
          omega
        · rw [jn_xor hs, Bool.and_eq_true] at h3 h4
          exact hA.2 e e' d h1 h2 h3.1 h4.1
      have h1 := (h _ (hx i hi)).1 A hP
      have h2 := jnT_lt (b := b) (fun i d q1 q2 => hw i d q1 (by omega)) hP
      obtain ⟨d, hd, hae, hv⟩ := hA.1 i hi hs
      rw [ha] at hae
      injection hae with hae
      subst hae
      have h3 := jnN_le NV (fun i => vd i k) (fun i => w i k) c S (x := i) hs hv (by omega) l 0 (c S) (by omega) (by omega)
      rw [jnT_x hi hs ha (A' := A) (fun _ _ _ => rfl)]
      exact Nat.le_trans h3 (by omega)
    · refine Nat.le_trans (jnN_acc _ _ _ _ _ _ _ _) ((h S hS).1 A ⟨fun e he hb => ?_, hA.2⟩)
      obtain ⟨d, hd, hae, hv⟩ := hA.1 e he hb
      refine ⟨d, ?_, hae, hv⟩
      have : ¬ d = k := fun z => g ⟨e, he, hb, by rw [hae, z]⟩
      omega
  · rcases jnN_at NV (fun i => vd i k) (fun i => w i k) c S l 0 (c S) with q | ⟨x, q1, q2, q3, q4, q5, q6⟩
    · rw [q]
      rcases (h S hS).2 with r | ⟨r1, A, r2, r3⟩
      · exact Or.inl r
      · refine Or.inr ⟨r1, A, ⟨fun e he hb => ?_, r2.2⟩, r3⟩
        obtain ⟨d, hd, hae, hv⟩ := r2.1 e he hb
        exact ⟨d, by omega, hae, hv⟩
    · rw [q6]
      rcases (h _ (hx x (by omega))).2 with r | ⟨r1, A, r2, r3⟩
      · exact absurd r q5
      · have hP : jnP l (k + 1) vd S (fun e => if e = x then some k else A e) := by
          have get : ∀ e, e < l → S.testBit e = true → ¬ e = x → ∃ d, d < k ∧ A e = some d ∧ vd e d = true := fun e he hb hne => r2.1 e he (by rw [jn_xor q3, hb, decide_eq_false (fun z => hne z.symm)]; rfl)
          refine ⟨fun e he hb => ?_, fun e e' d h1 h2 h3 h4 h5 h6 => ?_⟩
          · by_cases g : e = x
            · subst g
              exact ⟨k, by omega, if_pos rfl, q4⟩
            · obtain ⟨d, hd, hae, hv⟩ := get e he hb g
              exact ⟨d, by omega, (if_neg g).trans hae, hv⟩
          · have h5 : (if e = x then some k else A e) = some d := h5
            have h6 : (if e' = x then some k else A e') = some d := h6
            by_cases g : e = x
            · by_cases g' : e' = x
              · omega
              · obtain ⟨d', hd, hae, hv⟩ := get e' h2 h4 g'
                rw [if_pos g] at h5; rw [if_neg g', hae] at h6
                injection h5 with h5; injection h6 with h6
                omega
            · obtain ⟨d', hd, hae, hv⟩ := get e h1 h3 g
              rw [if_neg g, hae] at h5
              injection h5 with h5
              by_cases g' : e' = x
              · rw [if_pos g'] at h6
                injection h6 with h6
                omega
              · rw [if_neg g'] at h6
                exact r2.2 e e' d h1 h2 (by rw [jn_xor q3, h3, decide_eq_false (fun z => g z.symm)]; rfl) (by rw [jn_xor q3, h4, decide_eq_false (fun z => g' z.symm)]; rfl) (by rw [hae, h5]) h6
        have hT : jnT l w S (fun e => if e = x then some k else A e) = jnT l w (S ^^^ 2 ^ x) A + w x k := jnT_x (by omega) q3 (if_pos rfl) (fun e _ g => if_neg g)
        have := jnT_lt (b := b) hw hP
        exact Or.inr ⟨by show c (S ^^^ 2 ^ x) + w x k < NV; omega, _, hP, by rw [hT, r3]⟩
/-- what the lines outside S weigh -/
def jnR (l : Nat) (z : Nat → Nat) (S : Nat) : Nat := jnS (fun e => if S.testBit e then 0 else z e) 0 l
theorem jn_mask (A : Nat → Option Nat) : ∀ l : Nat, ∃ S, S < 2 ^ l ∧ ∀ e, e < l → S.testBit e = (A e).isSome
  | 0 => ⟨0, by decide, fun e h => absurd h (Nat.not_lt_zero _)⟩
  | l + 1 => by
    obtain ⟨S, h1, h2⟩ := jn_mask A l
    cases ha : A l with
    | none =>
      refine ⟨S, Nat.lt_trans h1 (Nat.pow_lt_pow_right (by decide) (by omega)), fun e he => ?_⟩
      by_cases c : e = l
      · subst c; rw [ha, Nat.testBit_lt_two_pow h1]; rfl
      · exact h2 e (by omega)
    | some d =>
      refine ⟨S ||| 2 ^ l, Nat.or_lt_two_pow (Nat.lt_trans h1 (Nat.pow_lt_pow_right (by decide) (by omega))) (Nat.pow_lt_pow_right (by decide) (by omega)), fun e he => ?_⟩
      rw [jn_or]
      by_cases c : e = l
      · subst c; rw [ha, decide_eq_true rfl, Bool.or_true]; rfl
      · rw [h2 e (by omega), decide_eq_false (fun z => c z.symm), Bool.or_false]
theorem jn_whole {l m NV : Nat} {vd : Nat → Nat → Bool} {w : Nat → Nat → Nat} {z : Nat → Nat} {c : Nat → Nat} (h : jnC l m NV vd w c) {R : Nat} (hle : ∀ S, S < 2 ^ l → R ≤ c S + jnR l z S) (hat : ∃ S, S < 2 ^ l ∧ c S < NV ∧ R = c S + jnR l z S) : R = jnB m vd w z l 0 0 := by
  have eq : ∀ (S : Nat) (A A' : Nat → Option Nat), (∀ e, e < l → S.testBit e = true → A e = A' e ∧ (A e).isSome = true) → (∀ e, e < l → S.testBit e = false → A' e = none) → jnT l w S A + jnR l z S = jnS (fun e => jnW w z e (A' e)) 0 l := fun S A A' h1 h2 => by
    unfold jnT jnR
    refine (jnS_add l 0 (fun e q1 q2 => ?_)).symm
    cases hb : S.testBit e with
    | false => rw [if_neg (by decide), if_neg (by decide), h2 e (by omega) hb]; exact (Nat.zero_add _).symm
    | true =>
      rw [if_pos rfl, if_pos rfl]
      obtain ⟨r1, r2⟩ := h1 e (by omega) hb
      rw [← r1]
      cases ha : A e with
      | none => rw [ha] at r2; cases r2
      | some d => rfl
  apply Nat.le_antisymm
  · obtain ⟨A, a1, a2⟩ := jnB_at m vd w z l 0 0
    obtain ⟨S, s1, s2⟩ := jn_mask A l
    rw [a2, ← eq S A A (fun e he hb => ⟨rfl, by rw [← s2 e he]; exact hb⟩) (fun e he hb => by
      rw [s2 e he] at hb
      cases ha : A e with
      | none => rfl
      | some d => rw [ha] at hb; cases hb)]
    refine Nat.le_trans (hle S s1) (Nat.add_le_add_right ((h S s1).1 A ⟨fun e he hb => ?_, fun e e' d h1 h2 _ _ => a1.2 e e' d (by omega) (by omega) (by omega) (by omega)⟩) _)
    rw [s2 e he] at hb
    cases ha : A e with
    | none => rw [ha] at hb; cases hb
    | some d =>
      obtain ⟨q1, q2, q3⟩ := a1.1 e d (by omega) (by omega) ha
      exact ⟨d, q1, rfl, q2⟩
  · obtain ⟨S, s1, s2, s3⟩ := hat
    rcases (h S s1).2 with r | ⟨_, A, r2, r3⟩
    · omega
    · rw [s3, r3, eq S A (fun e => if S.testBit e then A e else none) (fun e he hb => ⟨by rw [if_pos hb], by
        obtain ⟨d, _, ha, _⟩ := r2.1 e he hb
        rw [ha]; rfl⟩) (fun e he hb => by show (if S.testBit e then A e else none) = none; rw [hb]; rfl)]
      refine jnB_le m vd w z l 0 0 _ ⟨fun e d h1 h2 h3 => ?_, fun e e' d h1 h2 h3 h4 h5 h6 => ?_⟩
      · have h3 : (if S.testBit e then A e else none) = some d := h3
        cases hb : S.testBit e with
        | false => rw [hb] at h3; cases h3
        | true =>
          rw [if_pos hb] at h3
          obtain ⟨d', q1, q2, q3⟩ := r2.1 e (by omega) hb
          rw [h3] at q2
          injection q2 with q2
          subst q2
          exact ⟨q1, q3, Nat.zero_testBit _⟩
      · have h5 : (if S.testBit e then A e else none) = some d := h5
        have h6 : (if S.testBit e' then A e' else none) = some d := h6
        cases hb : S.testBit e with
        | false => rw [hb] at h5; cases h5
        | true =>
          cases hb' : S.testBit e' with
          | false => rw [hb'] at h6; cases h6
          | true =>
            rw [if_pos hb] at h5; rw [if_pos hb'] at h6
            exact r2.2 e e' d (by omega) (by omega) hb hb' h5 h6
