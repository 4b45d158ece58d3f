/-! the model's way: the most that lines can be worth, and the first choices that reach it -/
def jnX (vd : Nat → Nat → Bool) (ap : Nat → Nat → Nat) (F : Nat → Nat) (i U : Nat) : Nat → Nat → Nat → Nat
  | _, 0, a => a
  | d, k + 1, a => jnX vd ap F i U (d + 1) k (if !U.testBit d && vd i d then max a (10000 - ap i d + F (U ||| 2 ^ d)) else a)
theorem jnX_acc (vd : Nat → Nat → Bool) (ap : Nat → Nat → Nat) (F : Nat → Nat) (i U : Nat) : ∀ (k d a : Nat), a ≤ jnX vd ap F i U d k a
  | 0, _, _ => Nat.le_refl _
  | k + 1, d, a => by
    rw [jnX]
    refine Nat.le_trans ?_ (jnX_acc vd ap F i U k (d + 1) _)
    split <;> omega
theorem jnX_le (vd : Nat → Nat → Bool) (ap : Nat → Nat → Nat) (F : Nat → Nat) (i U : Nat) {x : Nat} (h1 : U.testBit x = false) (h2 : vd i x = true) : ∀ (k d a : Nat), d ≤ x → x < d + k → 10000 - ap i x + F (U ||| 2 ^ x) ≤ jnX vd ap F i U d k a
  | 0, d, a, q1, q2 => absurd q2 (by omega)
  | k + 1, d, a, q1, q2 => by
    rw [jnX]
    by_cases c : x = d
    · subst c
      refine Nat.le_trans ?_ (jnX_acc vd ap F i U k (x + 1) _)
      rw [if_pos (by rw [h1, h2]; rfl)]; omega
    · exact jnX_le vd ap F i U h1 h2 k (d + 1) _ (by omega) (by omega)
theorem jnX_at (vd : Nat → Nat → Bool) (ap : Nat → Nat → Nat) (F : Nat → Nat) (i U : Nat) : ∀ (k d a : Nat), jnX vd ap F i U d k a = a ∨ ∃ x, d ≤ x ∧ x < d + k ∧ U.testBit x = false ∧ vd i x = true ∧ jnX vd ap F i U d k a = 10000 - ap i x + F (U ||| 2 ^ x)
  | 0, _, _ => Or.inl rfl
  | k + 1, d, a => by
    rw [jnX]
    cases hc : (!U.testBit d && vd i d) with
    | false =>
      rw [if_neg (by decide)]
      rcases jnX_at vd ap F i U k (d + 1) a with h | ⟨x, h1, h2, h3⟩
      · exact Or.inl h
      · exact Or.inr ⟨x, by omega, by omega, h3⟩
    | true =>
      rw [if_pos rfl]
      simp only [Bool.and_eq_true, Bool.not_eq_true'] at hc
      rcases jnX_at vd ap F i U k (d + 1) (max a (10000 - ap i d + F (U ||| 2 ^ d))) with h | ⟨x, h1, h2, h3⟩
      · rcases Nat.le_total a (10000 - ap i d + F (U ||| 2 ^ d)) with g | g
        · right; exact ⟨d, by omega, by omega, hc.1, hc.2, by rw [h]; omega⟩
        · left; rw [h]; omega
      · exact Or.inr ⟨x, by omega, by omega, h3⟩
def jnD (m : Nat) (vd : Nat → Nat → Bool) (ap : Nat → Nat → Nat) : Nat → Nat → Nat → Nat
  | 0, _, _ => 0
  | k + 1, i, U => jnX vd ap (jnD m vd ap k (i + 1)) i U 0 m (jnD m vd ap k (i + 1) U)
def jnG (vd : Nat → Nat → Bool) (ap : Nat → Nat → Nat) (F : Nat → Nat) (v i U : Nat) : Nat → Nat → Option Nat
  | _, 0 => none
  | d, k + 1 => if (!U.testBit d && vd i d) && decide (10000 - ap i d + F (U ||| 2 ^ d) = v) then some d else jnG vd ap F v i U (d + 1) k
theorem jnG_some (vd : Nat → Nat → Bool) (ap : Nat → Nat → Nat) (F : Nat → Nat) (v i U : Nat) : ∀ (k d x : Nat), jnG vd ap F v i U d k = some x → d ≤ x ∧ x < d + k ∧ U.testBit x = false ∧ vd i x = true ∧ 10000 - ap i x + F (U ||| 2 ^ x) = v ∧ ∀ x', d ≤ x' → x' < x → U.testBit x' = false → vd i x' = true → ¬ 10000 - ap i x' + F (U ||| 2 ^ x') = v
  | 0, _, _, h => by cases h
  | k + 1, d, x, h => by
    rw [jnG] at h
    by_cases c : ((!U.testBit d && vd i d) && decide (10000 - ap i d + F (U ||| 2 ^ d) = v)) = true
    · rw [if_pos c] at h
      injection h with h
      subst h
      simp only [Bool.and_eq_true, Bool.not_eq_true', decide_eq_true_eq] at c
      exact ⟨by omega, by omega, c.1.1, c.1.2, c.2, fun x' h1 h2 => absurd h2 (by omega)⟩
    · rw [if_neg c] at h
      obtain ⟨q1, q2, q3, q4, q5, q6⟩ := jnG_some vd ap F v i U k (d + 1) x h
      refine ⟨by omega, by omega, q3, q4, q5, fun x' h1 h2 h3 h4 h5 => ?_⟩
      by_cases e : x' = d
      · subst e
        exact c (by rw [h3, h4, decide_eq_true h5]; rfl)
      · exact q6 x' (by omega) h2 h3 h4 h5
theorem jnG_none (vd : Nat → Nat → Bool) (ap : Nat → Nat → Nat) (F : Nat → Nat) (v i U : Nat) : ∀ (k d : Nat), jnG vd ap F v i U d k = none → ∀ x', d ≤ x' → x' < d + k → U.testBit x' = false → vd i x' = true → ¬ 10000 - ap i x' + F (U ||| 2 ^ x') = v
  | 0, d, h, x', h1, h2 => absurd h2 (by omega)
  | k + 1, d, h, x', h1, h2 => by
    intro h3 h4 h5
    rw [jnG] at h
    by_cases c : ((!U.testBit d && vd i d) && decide (10000 - ap i d + F (U ||| 2 ^ d) = v)) = true
    · rw [if_pos c] at h; cases h
    · rw [if_neg c] at h
      by_cases e : x' = d
      · subst e
        exact c (by rw [h3, h4, decide_eq_true h5]; rfl)
      · exact jnG_none vd ap F v i U k (d + 1) h x' (by omega) (by omega) h3 h4 h5
def jnH (m : Nat) (vd : Nat → Nat → Bool) (ap : Nat → Nat → Nat) (k i U : Nat) : Option Nat := jnG vd ap (jnD m vd ap k (i + 1)) (jnD m vd ap (k + 1) i U) i U 0 m
def jnU (U : Nat) : Option Nat → Nat
  | none => U
  | some d => U ||| 2 ^ d
def jnK : Option Nat → Nat
  | none => 12
  | some d => d
def jnTn (i : Nat) : Nat := 13 ^ (7 - i)
def jnDg (m : Nat) (vd : Nat → Nat → Bool) (ap : Nat → Nat → Nat) : Nat → Nat → Nat → Nat
  | 0, _, _ => 0
  | k + 1, i, U => jnK (jnH m vd ap k i U) * jnTn i + jnDg m vd ap k (i + 1) (jnU U (jnH m vd ap k i U))
def jnw (ap : Nat → Nat → Nat) (i d : Nat) : Nat := ap i d * 815730721 + d * jnTn i
def jnz (i : Nat) : Nat := 2000 * 815730721 + 12 * jnTn i
def jnV (m : Nat) (vd : Nat → Nat → Bool) (ap : Nat → Nat → Nat) (k i U : Nat) : Option Nat → Nat
  | none => jnD m vd ap k (i + 1) U
  | some d => 10000 - ap i d + jnD m vd ap k (i + 1) (U ||| 2 ^ d)
def jnY (m : Nat) (vd : Nat → Nat → Bool) (ap : Nat → Nat → Nat) (k i U : Nat) : Option Nat → Nat
  | none => jnz i + jnB m vd (jnw ap) jnz k (i + 1) U
  | some d => jnw ap i d + jnB m vd (jnw ap) jnz k (i + 1) (U ||| 2 ^ d)
def jnOk (m : Nat) (vd : Nat → Nat → Bool) (i U : Nat) (o : Option Nat) : Prop := ∀ d, o = some d → d < m ∧ U.testBit d = false ∧ vd i d = true
theorem jnT_pos (i : Nat) : 0 < jnTn i := Nat.pow_pos (by decide)
theorem jnT_13 {i : Nat} (h : i < 8) : 13 ^ (8 - i) = 13 * jnTn i := by
  unfold jnTn
  rw [show 8 - i = (7 - i) + 1 by omega, Nat.pow_succ, Nat.mul_comm]
theorem jnT_le {i : Nat} (h : i < 8) : 13 * jnTn i ≤ 815730721 := by
  rw [← jnT_13 h]
  exact Nat.le_trans (Nat.pow_le_pow_right (by decide) (show 8 - i ≤ 8 by omega)) (by decide)
theorem jn_keyR {l m : Nat} {vd : Nat → Nat → Bool} {ap : Nat → Nat → Nat} (hm : m ≤ 12) (hap : ∀ i d, i < l → d < m → vd i d = true → ap i d ≤ 200) : ∀ (k i U : Nat), i + k ≤ 8 → i + k ≤ l → ∃ j y, j ≤ k ∧ y ≤ 200 * j ∧ jnD m vd ap k i U + y = 10000 * j ∧ jnB m vd (jnw ap) jnz k i U = (2000 * (k - j) + y) * 815730721 + jnDg m vd ap k i U ∧ jnDg m vd ap k i U < 13 ^ (8 - i)
  | 0, i, U, hk, hkl => ⟨0, 0, by omega, by omega, rfl, rfl, Nat.pow_pos (by decide)⟩
  | k + 1, i, U, hk, hkl => by
    have hT := jnT_le (show i < 8 by omega)
    have hT0 := jnT_pos i
    have cand : ∀ o, jnOk m vd i U o → ∃ j y r, j ≤ k + 1 ∧ y ≤ 200 * j ∧ jnV m vd ap k i U o + y = 10000 * j ∧ jnY m vd ap k i U o = (2000 * (k + 1 - j) + y) * 815730721 + jnK o * jnTn i + r ∧ r < jnTn i ∧ r = jnDg m vd ap k (i + 1) (jnU U o) ∧ jnK o ≤ 12 := by
      intro o ho
      have e13 : 13 ^ (8 - (i + 1)) = jnTn i := by unfold jnTn; rw [show 8 - (i + 1) = 7 - i by omega]
      cases o with
      | none =>
        obtain ⟨j, y, h1, h2, h3, h4, h5⟩ := jn_keyR hm hap k (i + 1) U (by omega) (by omega)
        rw [e13] at h5
        refine ⟨j, y, _, by omega, h2, h3, ?_, h5, rfl, by show 12 ≤ 12; omega⟩
        show jnz i + _ = _
        rw [h4]
        show 2000 * 815730721 + 12 * jnTn i + _ = _ + 12 * jnTn i + _
        omega
      | some d =>
        obtain ⟨j, y, h1, h2, h3, h4, h5⟩ := jn_keyR hm hap k (i + 1) (U ||| 2 ^ d) (by omega) (by omega)
        rw [e13] at h5
        obtain ⟨o1, o2, o3⟩ := ho d rfl
        have := hap i d (by omega) o1 o3
        refine ⟨j + 1, y + ap i d, _, by omega, by omega, ?_, ?_, h5, rfl, by show d ≤ 12; omega⟩
        · show 10000 - ap i d + _ + _ = _
          omega
        · show jnw ap i d + _ = _
          rw [h4]
          show ap i d * 815730721 + d * jnTn i + _ = _ + d * jnTn i + _
          rw [show k + 1 - (j + 1) = k - j by omega]
          omega
    have hD : jnD m vd ap (k + 1) i U = jnV m vd ap k i U (jnH m vd ap k i U) ∧ jnOk m vd i U (jnH m vd ap k i U) ∧ ∀ o, jnOk m vd i U o → jnV m vd ap k i U o ≤ jnD m vd ap (k + 1) i U ∧ (jnV m vd ap k i U o = jnD m vd ap (k + 1) i U → o = jnH m vd ap k i U ∨ jnK (jnH m vd ap k i U) < jnK o) := by
      have le : ∀ o, jnOk m vd i U o → jnV m vd ap k i U o ≤ jnD m vd ap (k + 1) i U := fun o ho => by
        rw [jnD]
        cases o with
        | none => exact jnX_acc _ _ _ _ _ _ _ _
        | some d =>
          obtain ⟨o1, o2, o3⟩ := ho d rfl
          exact jnX_le _ _ _ _ _ o2 o3 m 0 _ (by omega) (by omega)
      cases hh : jnH m vd ap k i U with
      | none =>
        have hn := jnG_none _ _ _ _ _ _ m 0 hh
        have e : jnD m vd ap (k + 1) i U = jnV m vd ap k i U none := by
          rcases jnX_at vd ap (jnD m vd ap k (i + 1)) i U m 0 (jnD m vd ap k (i + 1) U) with q | ⟨x, q1, q2, q3, q4, q5⟩
          · rw [jnD]; exact q
          · exact absurd (by rw [jnD]; exact q5.symm) (hn x (by omega) q2 q3 q4)
        refine ⟨e, (fun d z => by cases z), fun o ho => ⟨le o ho, fun q => ?_⟩⟩
        cases o with
        | none => exact Or.inl rfl
        | some d =>
          obtain ⟨o1, o2, o3⟩ := ho d rfl
          exact absurd q (hn d (by omega) (by omega) o2 o3)
      | some x =>
        obtain ⟨q1, q2, q3, q4, q5, q6⟩ := jnG_some _ _ _ _ _ _ m 0 x hh
        refine ⟨q5.symm, (fun d z => by injection z with z; subst z; exact ⟨by omega, q3, q4⟩), fun o ho => ⟨le o ho, fun q => ?_⟩⟩
        cases o with
        | none => right; show x < 12; omega
        | some d =>
          obtain ⟨o1, o2, o3⟩ := ho d rfl
          by_cases c : d < x
          · exact absurd q (q6 d (by omega) c o2 o3)
          · by_cases c2 : d = x
            · left; rw [c2]
            · right; show x < d; omega
    obtain ⟨d1, d2, d3⟩ := hD
    obtain ⟨j, y, r, c1, c2, c3, c4, c5, c6, c7⟩ := cand _ d2
    have hKT : jnK (jnH m vd ap k i U) * jnTn i ≤ 12 * jnTn i := Nat.mul_le_mul_right _ c7
    have hB : jnB m vd (jnw ap) jnz (k + 1) i U = jnY m vd ap k i U (jnH m vd ap k i U) := by
      have small : ∀ o, jnOk m vd i U o → jnY m vd ap k i U (jnH m vd ap k i U) ≤ jnY m vd ap k i U o := fun o ho => by
        obtain ⟨j', y', r', e1, e2, e3, e4, e5, e6, e7⟩ := cand o ho
        obtain ⟨f1, f2⟩ := d3 o ho
        rw [c4, e4]
        by_cases q : jnV m vd ap k i U o = jnD m vd ap (k + 1) i U
        · have ej : j = j' := by omega
          have ey : y = y' := by omega
          subst ej; subst ey
          rcases f2 q with g | g
          · subst g; omega
          · have : (jnK (jnH m vd ap k i U) + 1) * jnTn i ≤ jnK o * jnTn i := Nat.mul_le_mul_right _ g
            rw [Nat.succ_mul] at this
            omega
        · have : 2000 * (k + 1 - j) + y + 1 ≤ 2000 * (k + 1 - j') + y' := by omega
          have := Nat.mul_le_mul_right 815730721 this
          omega
      apply Nat.le_antisymm
      · rw [jnB]
        cases hh : jnH m vd ap k i U with
        | none => exact jnO_acc _ _ _ _ _ _ _ _
        | some x =>
          obtain ⟨o1, o2, o3⟩ := d2 x hh
          exact jnO_le _ _ _ _ _ o2 o3 m 0 _ (by omega) (by omega)
      · rw [jnB]
        rcases jnO_at vd (jnw ap) (jnB m vd (jnw ap) jnz k (i + 1)) i U m 0 (jnz i + jnB m vd (jnw ap) jnz k (i + 1) U) with q | ⟨x, q1, q2, q3, q4, q5⟩
        · rw [q]; exact small none (fun d z => by cases z)
        · rw [q5]; exact small (some x) (fun d z => by injection z with z; subst z; exact ⟨by omega, q3, q4⟩)
    refine ⟨j, y, c1, c2, by rw [d1]; exact c3, ?_, ?_⟩
    · rw [hB, c4, c6, jnDg]; omega
    · rw [jnDg, jnT_13 (by omega), ← c6]; omega
/-! the digits are the choices -/
def jnHs (m : Nat) (vd : Nat → Nat → Bool) (ap : Nat → Nat → Nat) : Nat → Nat → Nat → Nat → Option Nat
  | 0, _, _, _ => none
  | k + 1, i, U, 0 => jnH m vd ap k i U
  | k + 1, i, U, t + 1 => jnHs m vd ap k (i + 1) (jnU U (jnH m vd ap k i U)) t
theorem jnH_lt {m : Nat} {vd : Nat → Nat → Bool} {ap : Nat → Nat → Nat} (hm : m ≤ 12) (k i U : Nat) : jnK (jnH m vd ap k i U) ≤ 12 ∧ ∀ d, jnH m vd ap k i U = some d → d < m := by
  cases hh : jnH m vd ap k i U with
  | none => exact ⟨Nat.le_refl _, fun d z => by cases z⟩
  | some x =>
    obtain ⟨q1, q2, _⟩ := jnG_some _ _ _ _ _ _ m 0 x hh
    exact ⟨by show x ≤ 12; omega, fun d z => by injection z with z; omega⟩
theorem jnDg_lt {m : Nat} {vd : Nat → Nat → Bool} {ap : Nat → Nat → Nat} (hm : m ≤ 12) : ∀ (k i U : Nat), i + k ≤ 8 → jnDg m vd ap k i U < 13 ^ (8 - i)
  | 0, i, U, hk => Nat.pow_pos (by decide)
  | k + 1, i, U, hk => by
    rw [jnDg, jnT_13 (by omega)]
    have := jnDg_lt (vd := vd) (ap := ap) hm k (i + 1) (jnU U (jnH m vd ap k i U)) (by omega)
    rw [show 13 ^ (8 - (i + 1)) = jnTn i from by unfold jnTn; rw [show 8 - (i + 1) = 7 - i by omega]] at this
    have h2 := Nat.mul_le_mul_right (jnTn i) (jnH_lt (vd := vd) (ap := ap) hm k i U).1
    omega
theorem jn_dig {m : Nat} {vd : Nat → Nat → Bool} {ap : Nat → Nat → Nat} (hm : m ≤ 12) : ∀ (k i U t : Nat), i + k ≤ 8 → t < k → jnDg m vd ap k i U / jnTn (i + t) % 13 = jnK (jnHs m vd ap k i U t)
  | 0, i, U, t, hk, ht => absurd ht (Nat.not_lt_zero _)
  | k + 1, i, U, 0, hk, ht => by
    have h := jnDg_lt (vd := vd) (ap := ap) hm k (i + 1) (jnU U (jnH m vd ap k i U)) (by omega)
    rw [show 13 ^ (8 - (i + 1)) = jnTn i from by unfold jnTn; rw [show 8 - (i + 1) = 7 - i by omega]] at h
    have h2 := (jnH_lt (vd := vd) (ap := ap) hm k i U).1
    rw [jnDg, show i + 0 = i from rfl, Nat.mul_comm, Nat.mul_add_div (jnT_pos i), Nat.div_eq_of_lt h, Nat.add_zero, Nat.mod_eq_of_lt (by omega)]
    rfl
  | k + 1, i, U, t + 1, hk, ht => by
    have ih := jn_dig (vd := vd) (ap := ap) hm k (i + 1) (jnU U (jnH m vd ap k i U)) t (by omega) (by omega)
    have hT : jnTn i = jnTn (i + (t + 1)) * (13 * 13 ^ t) := by
      unfold jnTn
      rw [show 7 - i = (7 - (i + (t + 1))) + (t + 1) by omega, Nat.pow_add, Nat.pow_succ, Nat.mul_comm (13 ^ t) 13]
    rw [jnDg, hT, show i + (t + 1) = i + 1 + t by omega]
    rw [show jnK (jnH m vd ap k i U) * (jnTn (i + 1 + t) * (13 * 13 ^ t)) = jnTn (i + 1 + t) * (13 * (13 ^ t * jnK (jnH m vd ap k i U))) from by
      rw [Nat.mul_comm, Nat.mul_assoc, Nat.mul_assoc]]
    rw [Nat.mul_add_div (jnT_pos _), Nat.mul_add_mod]
    exact ih
