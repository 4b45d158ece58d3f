/-! safe walks, in plain numbers: P the minute a train passes, s the step, a the first mile, t the walk's minute -/
def Pn (M : Mem) (i m : Nat) : Nat := ix (M.1 79 i) + ix (M.1 80 i) * m
def bk (M : Mem) (a s t m i : Nat) : Bool := decide (t + (m - a) * s ≤ Pn M i m + 5) && decide (Pn M i m ≤ t + (m - a) * s + s + 4)
def cIn (M : Mem) (a s t m : Nat) : Nat → Nat → Nat → Nat
  | _, 0, c => c
  | i, k + 1, c => cIn M a s t m (i + 1) k (if bk M a s t m i then max c (Pn M i m + 6 - (m - a) * s) else c)
def cOut (M : Mem) (a s t T : Nat) : Nat → Nat → Nat → Nat
  | _, 0, c => c
  | m, k + 1, c => cOut M a s t T (m + 1) k (cIn M a s t m 0 T c)
def sIn (M : Mem) (a s t m : Nat) : Nat → Nat → Bool
  | _, 0 => true
  | i, k + 1 => if bk M a s t m i then false else sIn M a s t m (i + 1) k
def sOut (M : Mem) (a s t T : Nat) : Nat → Nat → Bool
  | _, 0 => true
  | m, k + 1 => if sIn M a s t m 0 T then sOut M a s t T (m + 1) k else false
theorem pn_eq {M : Mem} {T : Nat} (g : Gtra M T) {i m : Nat} (hi : i < T) (hm : m < 20) : M.1 79 i + M.1 80 i * nI m = nI (Pn M i m) ∧ Pn M i m ≤ 1610 := by
  obtain ⟨a, ha, ea⟩ := rg_of (b := 1439) (g.2.2 i hi).1
  obtain ⟨b, hb, eb⟩ := rg_of (x := M.1 80 i) (b := 9) ⟨by have := (g.2.2 i hi).2.1; omega, (g.2.2 i hi).2.2⟩
  unfold Pn
  rw [ea, eb, ixN (by omega), ixN (by omega), pk_mul, nI_add]
  have : b * m ≤ 9 * 19 := Nat.mul_le_mul (by omega) (by omega)
  exact ⟨rfl, by omega⟩
theorem lt_sub5 {p x : Nat} (hp : p < 2 ^ 30) (hx : x < 2 ^ 30) : (nI p < nI x - 5) ↔ p + 5 < x := by
  rw [lt_i, nI_toInt (by omega), show (5 : Int32) = nI 5 from rfl, pk_sub_toInt (by omega) (by omega)]
  omega
theorem mxN {a b : Nat} (ha : a < 2 ^ 31) (hb : b < 2 ^ 31) : mxI (nI a) (nI b) = nI (max a b) := by
  rw [eq_i, mx_i, nI_toInt ha, nI_toInt hb, nI_toInt (by omega)]; omega
theorem cin9 {M : Mem} {T : Nat} (g : Gtra M T) (F : Mem → Int32 → Int32 → Int32 → Int32 → Int32 → Int32 → Option Int32) (v2 v3 v4 : Int32) {a s t m : Nat} (ham : a ≤ m) (hm : m < 20) (hs : s ≤ 60) (ht : t ≤ 3000) : ∀ (f i c : Nat), i ≤ T → T - i < f → c ≤ 5000 → lX8_clearFrom_45 F f M (nI a) v2 v3 v4 (nI c) (nI m) (nI ((m - a) * s)) (nI (t + (m - a) * s) - 5) (nI (t + (m - a) * s + s + 4)) (nI i) = F M (nI a) v2 v3 v4 (nI (cIn M a s t m i (T - i) c)) (nI (m + 1))
  | 0, i, c, h1, h2, h3 => absurd h2 (Nat.not_lt_zero _)
  | f + 1, i, c, h1, h2, h3 => by
    have hT := g.1.2.2
    have hw : (m - a) * s ≤ 19 * 60 := Nat.mul_le_mul (by omega) hs
    rw [lX8_clearFrom_45, g.1.1]
    by_cases h : i < T
    · obtain ⟨e1, e2⟩ := pn_eq g h hm
      rw [if_pos (nI_lt h (by omega)), ck_t (inN (show i < 24 by omega) (by omega)), ixN (by omega), g.2.1.1, g.2.1.2, e1, nI_1, show T - i = (T - (i + 1)) + 1 by omega]
      show _ = F M (nI a) v2 v3 v4 (nI (cIn M a s t m (i + 1) (T - (i + 1)) (if bk M a s t m i then max c (Pn M i m + 6 - (m - a) * s) else c))) (nI (m + 1))
      by_cases c1 : nI (Pn M i m) < nI (t + (m - a) * s) - 5
      · have hb : bk M a s t m i = false := by
          rw [lt_sub5 (by omega) (by omega)] at c1
          unfold bk; rw [decide_eq_false (by omega)]; rfl
        rw [if_pos c1, hb, cin9 g F v2 v3 v4 ham hm hs ht f (i + 1) c (by omega) (by omega) h3]; rfl
      · rw [if_neg c1]
        rw [lt_sub5 (by omega) (by omega)] at c1
        by_cases c2 : t + (m - a) * s + s + 4 < Pn M i m
        · have hb : bk M a s t m i = false := by
            unfold bk; rw [decide_eq_false (p := Pn M i m ≤ t + (m - a) * s + s + 4) (by omega), Bool.and_false]
          rw [if_pos (nI_lt c2 (by omega)), hb, cin9 g F v2 v3 v4 ham hm hs ht f (i + 1) c (by omega) (by omega) h3]; rfl
        · have hb : bk M a s t m i = true := by
            unfold bk; rw [decide_eq_true (by omega), decide_eq_true (by omega)]; rfl
          rw [if_neg (nI_nlt (by omega) (by omega)), hb, if_pos rfl, show (5 : Int32) = nI 5 from rfl, show (1 : Int32) = nI 1 from rfl, nI_add, nI_add, pk_sub (by omega), mxN (by omega) (by omega)]
          rw [show (nI 5 : Int32) = 5 from rfl, cin9 g F v2 v3 v4 ham hm hs ht f (i + 1) _ (by omega) (by omega) (by omega)]
    · rw [if_neg (nI_nlt (by omega) (by omega)), show T - i = 0 by omega, nI_1]; rfl
theorem cIn_le {M : Mem} {T : Nat} (g : Gtra M T) {a s t m : Nat} (hm : m < 20) : ∀ (k i c : Nat), i + k ≤ T → c ≤ 5000 → cIn M a s t m i k c ≤ 5000
  | 0, i, c, _, h => h
  | k + 1, i, c, hk, h => by
    refine cIn_le g hm k (i + 1) _ (by omega) ?_
    have := (pn_eq g (show i < T by omega) hm).2
    split <;> omega
theorem cout9 {M : Mem} {T : Nat} (g : Gtra M T) {a b s t : Nat} (hb : b < 20) (hs : s ≤ 60) (ht : t ≤ 3000) : ∀ (f m c : Nat), a ≤ m → m ≤ b + 1 → b + 1 - m < f → c ≤ 5000 → lX8_clearFrom_6 f M (nI a) (nI b) (nI t) (nI s) (nI c) (nI m) = some (nI (cOut M a s t T m (b + 1 - m) c))
  | 0, m, c, _, h1, h2, h3 => absurd h2 (Nat.not_lt_zero _)
  | f + 1, m, c, h0, h1, h2, h3 => by
    rw [lX8_clearFrom_6]
    by_cases h : m ≤ b
    · have hw : (m - a) * s ≤ 19 * 60 := Nat.mul_le_mul (by omega) hs
      rw [if_neg (nI_nlt (by omega) (by omega)), pk_sub h0, pk_mul, nI_add, nI_add, show (1 : Int32) = nI 1 from rfl, show nI (t + (m - a) * s + s) - nI 1 + 5 = nI (t + (m - a) * s + s + 4) from by
        rw [show (5 : Int32) = nI 1 + nI 4 from rfl]
        generalize nI 1 = u
        rw [← nI_add (t + (m - a) * s + s) 4]
        grind]
      have := cin9 g (lX8_clearFrom_6 f) (nI b) (nI t) (nI s) h0 (show m < 20 by omega) hs ht fu 0 c (by omega) (by rw [fu_v]; have := g.1.2.2; omega) h3
      rw [Nat.sub_zero] at this
      rw [show lX8_clearFrom_45 (lX8_clearFrom_6 f) fu M (nI a) (nI b) (nI t) (nI s) (nI c) (nI m) (nI ((m - a) * s)) (nI (t + (m - a) * s) - 5) (nI (t + (m - a) * s + s + 4)) 0 = _ from this]
      rw [cout9 g hb hs ht f (m + 1) _ (by omega) (by omega) (by omega) (cIn_le g (by omega) T 0 c (by omega) h3), show b + 1 - m = (b + 1 - (m + 1)) + 1 by omega]; rfl
    · rw [if_pos (nI_lt (by omega) (by omega)), show b + 1 - m = 0 by omega]; rfl
def Cl (M : Mem) (a b s T t : Nat) : Nat := cOut M a s t T a (b + 1 - a) t
theorem clear_eq {M : Mem} {T : Nat} (g : Gtra M T) {a b s t : Nat} (hab : a ≤ b) (hb : b < 20) (hs : s ≤ 60) (ht : t ≤ 3000) : xX8_clearFrom M (nI a) (nI b) (nI t) (nI s) = some (nI (Cl M a b s T t)) := by
  unfold xX8_clearFrom
  exact cout9 g hb hs ht fu a t (by omega) (by omega) (by rw [fu_v]; omega) (by omega)
theorem sin10 {M : Mem} {T : Nat} (g : Gtra M T) (F : Mem → Int32 → Int32 → Int32 → Int32 → Option Int32) (v2 v3 : Int32) {a s t m : Nat} (ham : a ≤ m) (hm : m < 20) (hs : s ≤ 60) (hs5 : M.1 51 14 = nI s) (ht : t ≤ 3000) : ∀ (f i : Nat), i ≤ T → T - i < f → lX10_isSafe_25 F f M (nI a) v2 v3 (nI m) (nI (t + (m - a) * s)) (nI i) = if sIn M a s t m i (T - i) then F M (nI a) v2 v3 (nI (m + 1)) else some 0
  | 0, i, h1, h2 => absurd h2 (Nat.not_lt_zero _)
  | f + 1, i, h1, h2 => by
    have hT := g.1.2.2
    have hw : (m - a) * s ≤ 19 * 60 := Nat.mul_le_mul (by omega) hs
    rw [lX10_isSafe_25, g.1.2.1]
    by_cases h : i < T
    · obtain ⟨e1, e2⟩ := pn_eq g h hm
      rw [if_pos (nI_lt h (by omega)), ck_t (inN (show i < 24 by omega) (by omega)), ixN (by omega), e1, nI_1, hs5, nI_add, show (4 : Int32) = nI 4 from rfl, nI_add, show T - i = (T - (i + 1)) + 1 by omega]
      show _ = if (if bk M a s t m i then false else sIn M a s t m (i + 1) (T - (i + 1))) = true then _ else _
      by_cases c1 : nI (Pn M i m) < nI (t + (m - a) * s) - 5
      · have hb : bk M a s t m i = false := by
          rw [lt_sub5 (by omega) (by omega)] at c1
          unfold bk; rw [decide_eq_false (by omega)]; rfl
        rw [if_pos c1, hb, sin10 g F v2 v3 ham hm hs hs5 ht f (i + 1) (by omega) (by omega)]; rfl
      · rw [if_neg c1]
        rw [lt_sub5 (by omega) (by omega)] at c1
        by_cases c2 : t + (m - a) * s + s + 4 < Pn M i m
        · have hb : bk M a s t m i = false := by
            unfold bk; rw [decide_eq_false (p := Pn M i m ≤ t + (m - a) * s + s + 4) (by omega), Bool.and_false]
          rw [if_pos (nI_lt c2 (by omega)), hb, sin10 g F v2 v3 ham hm hs hs5 ht f (i + 1) (by omega) (by omega)]; rfl
        · have hb : bk M a s t m i = true := by
            unfold bk; rw [decide_eq_true (by omega), decide_eq_true (by omega)]; rfl
          rw [if_neg (nI_nlt (by omega) (by omega)), hb]; rfl
    · rw [if_neg (nI_nlt (by omega) (by omega)), show T - i = 0 by omega, nI_1]; rfl
theorem sout10 {M : Mem} {T : Nat} (g : Gtra M T) {a b s t : Nat} (hb : b < 20) (hs : s ≤ 60) (hs5 : M.1 51 14 = nI s) (ht : t ≤ 3000) : ∀ (f m : Nat), a ≤ m → m ≤ b + 1 → b + 1 - m < f → lX10_isSafe_3 f M (nI a) (nI b) (nI t) (nI m) = some (if sOut M a s t T m (b + 1 - m) then 1 else 0)
  | 0, m, _, h1, h2 => absurd h2 (Nat.not_lt_zero _)
  | f + 1, m, h0, h1, h2 => by
    rw [lX10_isSafe_3]
    by_cases h : m ≤ b
    · rw [if_neg (nI_nlt (by omega) (by omega)), pk_sub h0, hs5, pk_mul, nI_add]
      have := sin10 g (lX10_isSafe_3 f) (nI b) (nI t) h0 (show m < 20 by omega) hs hs5 ht fu 0 (by omega) (by rw [fu_v]; have := g.1.2.2; omega)
      rw [Nat.sub_zero] at this
      rw [show lX10_isSafe_25 (lX10_isSafe_3 f) fu M (nI a) (nI b) (nI t) (nI m) (nI (t + (m - a) * s)) 0 = _ from this]
      rw [sout10 g hb hs hs5 ht f (m + 1) (by omega) (by omega) (by omega), show b + 1 - m = (b + 1 - (m + 1)) + 1 by omega]
      show _ = some (if (if sIn M a s t m 0 T then _ else false) = true then 1 else 0)
      cases sIn M a s t m 0 T <;> rfl
    · rw [if_pos (nI_lt (by omega) (by omega)), show b + 1 - m = 0 by omega]; rfl
def Sf (M : Mem) (a b s T t : Nat) : Bool := sOut M a s t T a (b + 1 - a)
theorem safe10 {M : Mem} {T : Nat} (g : Gtra M T) {a b s t : Nat} (hab : a ≤ b) (hb : b < 20) (hs : s ≤ 60) (hs5 : M.1 51 14 = nI s) (ht : t ≤ 3000) : xX10_isSafe M (nI a) (nI b) (nI t) = some (if Sf M a b s T t then 1 else 0) := by
  unfold xX10_isSafe
  exact sout10 g hb hs hs5 ht fu a (by omega) (by omega) (by rw [fu_v]; omega)
/-! what clear and safe have to do with each other -/
theorem cIn_spec (M : Mem) (a s t m : Nat) : ∀ (k i c : Nat), c ≤ cIn M a s t m i k c ∧ (sIn M a s t m i k = true → cIn M a s t m i k c = c) ∧ (sIn M a s t m i k = false → t < cIn M a s t m i k c) ∧ (∀ t', t ≤ t' → t' < cIn M a s t m i k c → c ≤ t' → sIn M a s t' m i k = false)
  | 0, i, c => ⟨Nat.le_refl _, fun _ => rfl, (fun h => by cases h), fun t' h1 h2 h3 => absurd h2 (by show ¬ t' < c; omega)⟩
  | k + 1, i, c => by
    have ih := cIn_spec M a s t m k (i + 1) (if bk M a s t m i then max c (Pn M i m + 6 - (m - a) * s) else c)
    show c ≤ cIn M a s t m (i + 1) k (if bk M a s t m i then max c (Pn M i m + 6 - (m - a) * s) else c) ∧ ((if bk M a s t m i then false else sIn M a s t m (i + 1) k) = true → cIn M a s t m (i + 1) k (if bk M a s t m i then max c (Pn M i m + 6 - (m - a) * s) else c) = c) ∧ ((if bk M a s t m i then false else sIn M a s t m (i + 1) k) = false → t < cIn M a s t m (i + 1) k (if bk M a s t m i then max c (Pn M i m + 6 - (m - a) * s) else c)) ∧ (∀ t', t ≤ t' → t' < cIn M a s t m (i + 1) k (if bk M a s t m i then max c (Pn M i m + 6 - (m - a) * s) else c) → c ≤ t' → (if bk M a s t' m i then false else sIn M a s t' m (i + 1) k) = false)
    cases hb : bk M a s t m i with
    | false =>
      rw [hb] at ih
      simp only [Bool.false_eq_true, if_false] at ih ⊢
      refine ⟨ih.1, ih.2.1, ih.2.2.1, fun t' h1 h2 h3 => ?_⟩
      rw [ih.2.2.2 t' h1 h2 h3]
      split <;> rfl
    | true =>
      rw [hb] at ih
      simp only [if_true] at ih ⊢
      unfold bk at hb
      simp only [Bool.and_eq_true, decide_eq_true_eq] at hb
      refine ⟨by omega, (fun h => by cases h), (fun _ => by omega), fun t' h1 h2 h3 => ?_⟩
      by_cases hc : max c (Pn M i m + 6 - (m - a) * s) ≤ t'
      · rw [ih.2.2.2 t' h1 h2 hc]; split <;> rfl
      · have hb' : bk M a s t' m i = true := by
          unfold bk
          rw [decide_eq_true (by omega), decide_eq_true (by omega)]; rfl
        rw [hb']; rfl
theorem cOut_spec (M : Mem) (a s t T : Nat) : ∀ (k m c : Nat), c ≤ cOut M a s t T m k c ∧ (sOut M a s t T m k = true → cOut M a s t T m k c = c) ∧ (sOut M a s t T m k = false → t < cOut M a s t T m k c) ∧ (∀ t', t ≤ t' → t' < cOut M a s t T m k c → c ≤ t' → sOut M a s t' T m k = false)
  | 0, m, c => ⟨Nat.le_refl _, fun _ => rfl, (fun h => by cases h), fun t' h1 h2 h3 => absurd h2 (by show ¬ t' < c; omega)⟩
  | k + 1, m, c => by
    have hi := cIn_spec M a s t m T 0 c
    have ih := cOut_spec M a s t T k (m + 1) (cIn M a s t m 0 T c)
    show c ≤ cOut M a s t T (m + 1) k (cIn M a s t m 0 T c) ∧ ((if sIn M a s t m 0 T then sOut M a s t T (m + 1) k else false) = true → cOut M a s t T (m + 1) k (cIn M a s t m 0 T c) = c) ∧ ((if sIn M a s t m 0 T then sOut M a s t T (m + 1) k else false) = false → t < cOut M a s t T (m + 1) k (cIn M a s t m 0 T c)) ∧ (∀ t', t ≤ t' → t' < cOut M a s t T (m + 1) k (cIn M a s t m 0 T c) → c ≤ t' → (if sIn M a s t' m 0 T then sOut M a s t' T (m + 1) k else false) = false)
    refine ⟨Nat.le_trans hi.1 ih.1, ?_, ?_, fun t' h1 h2 h3 => ?_⟩
    · cases hs : sIn M a s t m 0 T with
      | false => intro h; cases h
      | true =>
        intro h
        rw [if_pos rfl] at h
        rw [ih.2.1 h, hi.2.1 hs]
    · cases hs : sIn M a s t m 0 T with
      | false => intro _; exact Nat.lt_of_lt_of_le (hi.2.2.1 hs) ih.1
      | true =>
        intro h
        rw [if_pos rfl] at h
        exact ih.2.2.1 h
    · by_cases hc : cIn M a s t m 0 T c ≤ t'
      · rw [ih.2.2.2 t' h1 h2 hc]; split <;> rfl
      · rw [hi.2.2.2 t' h1 (by omega) h3]; rfl
theorem cOut_le {M : Mem} {T : Nat} (g : Gtra M T) {a s t : Nat} : ∀ (k m c : Nat), m + k ≤ 20 → c ≤ 5000 → (c ≤ 1616 ∨ c = t) → cOut M a s t T m k c ≤ 5000 ∧ (cOut M a s t T m k c ≤ 1616 ∨ cOut M a s t T m k c = t)
  | 0, m, c, _, h, h2 => ⟨h, h2⟩
  | k + 1, m, c, hk, h, h2 => by
    have key : ∀ (k i c : Nat), i + k ≤ T → (c ≤ 1616 ∨ c = t) → (cIn M a s t m i k c ≤ 1616 ∨ cIn M a s t m i k c = t) := by
      intro k
      induction k with
      | zero => intro i c _ h; exact h
      | succ k ih =>
        intro i c hk h
        refine ih (i + 1) _ (by omega) ?_
        have := (pn_eq g (show i < T by omega) (show m < 20 by omega)).2
        split
        · rcases h with h | h
          · left; omega
          · rcases Nat.le_total c (Pn M i m + 6 - (m - a) * s) with z | z
            · left; omega
            · right; omega
        · exact h
    exact cOut_le g k (m + 1) _ (by omega) (cIn_le g (by omega) T 0 c (by omega) h) (key T 0 c (by omega) h2)
/-- the first safe minute, one by one -/
def mF (sf : Nat → Bool) (W : Nat) : Nat → Nat → Int32
  | 0, _ => -9
  | k + 1, t => if 1440 < t + W then -9 else if sf t then nI t else mF sf W k (t + 1)
theorem mF_end (sf : Nat → Bool) (W : Nat) : ∀ (k t : Nat), 1440 < t + W → mF sf W k t = -9
  | 0, t, _ => rfl
  | k + 1, t, h => by show (if 1440 < t + W then _ else _) = _; rw [if_pos h]
theorem mF_skip (sf : Nat → Bool) (W : Nat) : ∀ (e t k : Nat), 1441 - t < k → (∀ t', t ≤ t' → t' < t + e → sf t' = false) → ∃ k', 1441 - (t + e) < k' ∧ mF sf W k t = mF sf W k' (t + e)
  | 0, t, k, hk, _ => ⟨k, hk, rfl⟩
  | e + 1, t, 0, hk, _ => absurd hk (Nat.not_lt_zero _)
  | e + 1, t, k + 1, hk, h => by
    by_cases hw : 1440 < t + W
    · refine ⟨1441 - (t + (e + 1)) + 1, by omega, ?_⟩
      rw [mF_end sf W _ t hw, mF_end sf W _ _ (by omega)]
    · by_cases ht : t ≤ 1440
      · obtain ⟨k', h1, h2⟩ := mF_skip sf W e (t + 1) k (by omega) (fun t' a b => h t' (by omega) (by omega))
        refine ⟨k', by omega, ?_⟩
        show (if 1440 < t + W then _ else if sf t then nI t else mF sf W k (t + 1)) = _
        rw [if_neg hw, h t (by omega) (by omega), show t + (e + 1) = t + 1 + e by omega]
        exact h2
      · omega
theorem mF_fuel (sf : Nat → Bool) (W : Nat) : ∀ (k k' t : Nat), 1441 - t < k → 1441 - t < k' → mF sf W k t = mF sf W k' t
  | 0, k', t, h, _ => absurd h (Nat.not_lt_zero _)
  | k + 1, 0, t, _, h => absurd h (Nat.not_lt_zero _)
  | k + 1, k' + 1, t, h1, h2 => by
    show (if 1440 < t + W then _ else if sf t then nI t else mF sf W k (t + 1)) = (if 1440 < t + W then _ else if sf t then nI t else mF sf W k' (t + 1))
    by_cases hw : 1440 < t + W
    · rw [if_pos hw, if_pos hw]
    · rw [if_neg hw, if_neg hw, mF_fuel sf W k k' (t + 1) (by omega) (by omega)]
theorem first10 {M : Mem} {T : Nat} (g : Gtra M T) {a b s : Nat} (hab : a ≤ b) (hb : b < 20) (hs : s ≤ 60) (hs5 : M.1 51 14 = nI s) : ∀ (f t : Nat), t ≤ 1441 → 1442 - t < f → lX10_first_23 f M (nI a) (nI b) (nI t) = some (mF (Sf M a b s T) ((b - a + 1) * s) (1442 - t) t, M)
  | 0, t, _, h => absurd h (Nat.not_lt_zero _)
  | f + 1, t, h1, h2 => by
    have hw : (b - a + 1) * s ≤ 20 * 60 := Nat.mul_le_mul (by omega) hs
    rw [lX10_first_23, pk_sub hab, nI_1, hs5, pk_mul, nI_add, show 1442 - t = (1441 - t) + 1 by omega]
    show _ = some ((if 1440 < t + (b - a + 1) * s then -9 else if Sf M a b s T t then nI t else mF (Sf M a b s T) ((b - a + 1) * s) (1441 - t) (t + 1)), M)
    by_cases c : 1440 < t + (b - a + 1) * s
    · rw [if_pos (show (1440 : Int32) < nI _ from nI_lt (a := 1440) c (by omega)), if_pos c]
    · rw [if_neg (show ¬ (1440 : Int32) < nI _ from nI_nlt (a := 1440) (by omega) (by omega)), if_neg c, safe10 g hab hb hs hs5 (by omega), some_b, nI_1]
      cases hS : Sf M a b s T t with
      | true => rw [if_pos rfl, if_neg (by decide), if_pos rfl]
      | false =>
        rw [show (if false = true then (1 : Int32) else 0) = 0 from rfl, if_pos rfl, if_neg (by decide)]
        by_cases ht : t ≤ 1440
        · rw [first10 g hab hb hs hs5 f (t + 1) (by omega) (by omega), show 1442 - (t + 1) = 1441 - t by omega]
        · exact absurd c (by omega)
theorem first9 {M : Mem} {T : Nat} (g : Gtra M T) {a b s : Nat} (hab : a ≤ b) (hb : b < 20) (hs : s ≤ 60) (hs1 : 1 ≤ s) : ∀ (f t n : Nat), t ≤ 1616 → n ≤ t → 1442 - t < f → lX8_firstSafe_20 f M (nI a) (nI b) (nI s) (nI (1440 - (b - a + 1) * s)) (nI t) (nI n) = some (mF (Sf M a b s T) ((b - a + 1) * s) (1442 - t) t)
  | 0, t, n, _, _, h => absurd h (Nat.not_lt_zero _)
  | f + 1, t, n, h1, hn, h2 => by
    have hw : (b - a + 1) * s ≤ 20 * 60 := Nat.mul_le_mul (by omega) hs
    have hw1 : 1 ≤ (b - a + 1) * s := Nat.mul_pos (by omega) hs1
    rw [lX8_firstSafe_20]
    by_cases c : 1440 < t + (b - a + 1) * s
    · rw [mF_end _ _ _ _ c]
      by_cases hn2 : n < 1440
      · rw [if_pos (show nI n < (1440 : Int32) from nI_lt (b := 1440) hn2 (by omega)), if_pos (nI_lt (by omega) (by omega))]
      · rw [if_neg (show ¬ nI n < (1440 : Int32) from nI_nlt (b := 1440) (by omega) (by omega))]
    · rw [if_pos (show nI n < (1440 : Int32) from nI_lt (b := 1440) (by omega) (by omega)), if_neg (nI_nlt (by omega) (by omega)), clear_eq g hab hb hs (by omega), some_b, nI_1]
      have sp := cOut_spec M a s t T (b + 1 - a) a t
      have hle := cOut_le g (a := a) (s := s) (t := t) (b + 1 - a) a t (by omega) (by omega) (Or.inr rfl)
      cases hS : Sf M a b s T t with
      | true =>
        rw [show Cl M a b s T t = t from sp.2.1 hS, if_pos rfl, show 1442 - t = (1441 - t) + 1 by omega]
        show _ = some (if 1440 < t + (b - a + 1) * s then -9 else if Sf M a b s T t then nI t else _)
        rw [if_neg c, hS, if_pos rfl]
      | false =>
        have hlt : t < Cl M a b s T t := sp.2.2.1 hS
        have h16 : Cl M a b s T t ≤ 1616 := by
          rcases hle.2 with z | z
          · exact z
          · exact absurd hlt (by unfold Cl; omega)
        rw [if_neg (nI_inj (by omega) (by omega) (by omega)), first9 g hab hb hs hs1 f _ (n + 1) h16 (by omega) (by omega)]
        obtain ⟨k', hk1, hk2⟩ := mF_skip (Sf M a b s T) ((b - a + 1) * s) (Cl M a b s T t - t) t (1442 - t) (by omega) (fun t' z1 z2 => sp.2.2.2 t' z1 (by unfold Cl at z2; omega) z1)
        rw [hk2, show t + (Cl M a b s T t - t) = Cl M a b s T t by omega] at *
        by_cases hz : Cl M a b s T t ≤ 1441
        · rw [mF_fuel _ _ (1442 - Cl M a b s T t) k' _ (by omega) (by omega)]
        · rw [mF_end _ _ _ _ (by omega), mF_end _ _ _ _ (by omega)]
set_option maxHeartbeats 4000000 in
theorem op_safe {M : Mem} (hI : Inv M) (a b c : Int32) : Eqv (xX9_safe M a b c) (fun M1 => xX10_safe M1 a b c) := by
  obtain ⟨d, n, k, q, t, l, j, g1, g2, g3, g4, g5, g6, g7, g8, g9, g10, g11, g12, g13, g14, g15⟩ := id hI
  unfold xX9_safe xX10_safe
  simp only [b_isDay, b_isKind, b_isMile, b_isDefect, b_isIn, b_wrong, b_isMile10, b_isDefect10, r9_1, r9_2, r9_3, r9_4, r9_6, r10_1, r10_2, r10_3, r10_4, r10_6, t9_1, t9_2, t9_3, t9_4, t9_6, t10_1, t10_2, t10_3, t10_4, t10_6, some_b, i10, i00, im1, im2, im3, im4, im6, if_true, if_false, b_refWalk, b_wrongWalk]
  refine Eqv_ite (fun h1 => ?_) (fun h1 => ?_)
  · refine Eqv_some ?_
    simp +decide only [h1, if_true, if_false, ite_not, not_true_eq_false, not_false_eq_true, upI_get, upd_get, b_refWalk, b_wrongWalk]
    exact Fin_some (Inv_ref hI 1)
  refine Eqv_itn (fun h2 => ?_) (fun h2 => ?_)
  · refine Eqv_some ?_
    simp +decide only [h1, h2, if_true, if_false, ite_not, not_true_eq_false, not_false_eq_true, upI_get, upd_get, b_refWalk, b_wrongWalk]
    exact Fin_some (Inv_ref hI 1)
  refine Eqv_ite (fun h3 => ?_) (fun h3 => ?_)
  · refine Eqv_some ?_
    simp +decide only [h1, h2, h3, if_true, if_false, ite_not, not_true_eq_false, not_false_eq_true, upI_get, upd_get, b_refWalk, b_wrongWalk]
    exact Fin_some (Inv_ref hI 1)
  refine Eqv_itn (fun h4 => ?_) (fun h4 => ?_)
  · refine Eqv_some ?_
    simp +decide only [h1, h2, h3, h4, if_true, if_false, ite_not, not_true_eq_false, not_false_eq_true, upI_get, upd_get, b_refWalk, b_wrongWalk]
    exact Fin_some (Inv_ref hI 1)
  refine Eqv_ite (fun h5 => ?_) (fun h5 => ?_)
  · refine Eqv_some ?_
    simp +decide only [h1, h2, h3, h4, h5, if_true, if_false, ite_not, not_true_eq_false, not_false_eq_true, upI_get, upd_get, b_refWalk, b_wrongWalk]
    exact Fin_some (Inv_ref hI 1)
  refine Eqv_ite (fun h6 => ?_) (fun h6 => ?_)
  · refine Eqv_some ?_
    simp +decide only [h1, h2, h3, h4, h5, h6, if_true, if_false, ite_not, not_true_eq_false, not_false_eq_true, upI_get, upd_get, b_refWalk, b_wrongWalk]
    exact Fin_some (Inv_ref hI 4)
  refine Eqv_ite (fun h7 => ?_) (fun h7 => ?_)
  · refine Eqv_some ?_
    simp +decide only [h1, h2, h3, h4, h5, h6, h7, if_true, if_false, ite_not, not_true_eq_false, not_false_eq_true, upI_get, upd_get, b_refWalk, b_wrongWalk]
    exact Fin_some (Inv_ref hI 6)
  obtain ⟨x, hx, rfl⟩ := ix_of (N := 20) (b := 20) rfl h1 h2
  obtain ⟨y, hy, rfl⟩ := ix_of (N := 20) (b := 20) rfl h3 h4
  have hxy : x ≤ y := by
    rcases Nat.lt_or_ge y x with z | z
    · exact absurd (nI_lt z (by omega)) h5
    · exact z
  obtain ⟨s, hs, es⟩ := rg_of (x := M.1 51 14) (b := 60) ⟨by have := g2.2.1.1; omega, g2.2.1.2⟩
  have hs1 : 1 ≤ s := by have := g2.2.1.1; rw [es, nI_toInt (by omega)] at this; omega
  obtain ⟨u, hu, rfl⟩ := ix_le (N := 1439) (b := 1439) rfl h6 h7
  rw [g2.1.2.1, es, clear_eq g11 hxy hy hs (by omega), some_b]
  have sp := cOut_spec M x s u t (y + 1 - x) x u
  cases hS : Sf M x y s t u with
  | true =>
    rw [show Cl M x y s t u = u from sp.2.1 hS, if_pos rfl]
    refine Eqv_some ?_
    simp +decide only [h1, h2, h3, h4, h5, h6, h7, if_true, if_false, ite_not, not_true_eq_false, not_false_eq_true, upI_get, upd_get, b_refWalk, b_wrongWalk]
    rw [safe10 g11 hxy hy hs es (by omega), hS]
    exact Fin_some hI
  | false =>
    have hlt : u < Cl M x y s t u := sp.2.2.1 hS
    have hle := cOut_le g11 (a := x) (s := s) (t := u) (y + 1 - x) x u (by omega) (by omega) (Or.inr rfl)
    rw [if_neg (nI_inj (by unfold Cl; omega) (by omega) (by omega))]
    refine Eqv_some ?_
    simp +decide only [h1, h2, h3, h4, h5, h6, h7, if_true, if_false, ite_not, not_true_eq_false, not_false_eq_true, upI_get, upd_get, b_refWalk, b_wrongWalk]
    rw [safe10 g11 hxy hy hs es (by omega), hS]
    exact Fin_some hI
set_option maxHeartbeats 4000000 in
theorem op_first {M : Mem} (hI : Inv M) (a b c : Int32) : Eqv (xX9_first M a b c) (fun M1 => xX10_first M1 a b c) := by
  obtain ⟨d, n, k, q, t, l, j, g1, g2, g3, g4, g5, g6, g7, g8, g9, g10, g11, g12, g13, g14, g15⟩ := id hI
  unfold xX9_first xX10_first xX8_firstSafe
  simp only [b_isDay, b_isKind, b_isMile, b_isDefect, b_isIn, b_wrong, b_isMile10, b_isDefect10, r9_1, r9_2, r9_3, r9_4, r9_6, r10_1, r10_2, r10_3, r10_4, r10_6, t9_1, t9_2, t9_3, t9_4, t9_6, t10_1, t10_2, t10_3, t10_4, t10_6, some_b, i10, i00, im1, im2, im3, im4, im6, if_true, if_false, b_refWalk, b_wrongWalk]
  refine Eqv_ite (fun h1 => ?_) (fun h1 => ?_)
  · refine Eqv_some ?_
    simp +decide only [h1, if_true, if_false, ite_not, not_true_eq_false, not_false_eq_true, upI_get, upd_get, b_refWalk, b_wrongWalk]
    exact Fin_some (Inv_ref hI 1)
  refine Eqv_itn (fun h2 => ?_) (fun h2 => ?_)
  · refine Eqv_some ?_
    simp +decide only [h1, h2, if_true, if_false, ite_not, not_true_eq_false, not_false_eq_true, upI_get, upd_get, b_refWalk, b_wrongWalk]
    exact Fin_some (Inv_ref hI 1)
  refine Eqv_ite (fun h3 => ?_) (fun h3 => ?_)
  · refine Eqv_some ?_
    simp +decide only [h1, h2, h3, if_true, if_false, ite_not, not_true_eq_false, not_false_eq_true, upI_get, upd_get, b_refWalk, b_wrongWalk]
    exact Fin_some (Inv_ref hI 1)
  refine Eqv_itn (fun h4 => ?_) (fun h4 => ?_)
  · refine Eqv_some ?_
    simp +decide only [h1, h2, h3, h4, if_true, if_false, ite_not, not_true_eq_false, not_false_eq_true, upI_get, upd_get, b_refWalk, b_wrongWalk]
    exact Fin_some (Inv_ref hI 1)
  refine Eqv_ite (fun h5 => ?_) (fun h5 => ?_)
  · refine Eqv_some ?_
    simp +decide only [h1, h2, h3, h4, h5, if_true, if_false, ite_not, not_true_eq_false, not_false_eq_true, upI_get, upd_get, b_refWalk, b_wrongWalk]
    exact Fin_some (Inv_ref hI 1)
  refine Eqv_ite (fun h6 => ?_) (fun h6 => ?_)
  · refine Eqv_some ?_
    simp +decide only [h1, h2, h3, h4, h5, h6, if_true, if_false, ite_not, not_true_eq_false, not_false_eq_true, upI_get, upd_get, b_refWalk, b_wrongWalk]
    exact Fin_some (Inv_ref hI 4)
  refine Eqv_ite (fun h7 => ?_) (fun h7 => ?_)
  · refine Eqv_some ?_
    simp +decide only [h1, h2, h3, h4, h5, h6, h7, if_true, if_false, ite_not, not_true_eq_false, not_false_eq_true, upI_get, upd_get, b_refWalk, b_wrongWalk]
    exact Fin_some (Inv_ref hI 6)
  obtain ⟨x, hx, rfl⟩ := ix_of (N := 20) (b := 20) rfl h1 h2
  obtain ⟨y, hy, rfl⟩ := ix_of (N := 20) (b := 20) rfl h3 h4
  have hxy : x ≤ y := by
    rcases Nat.lt_or_ge y x with z | z
    · exact absurd (nI_lt z (by omega)) h5
    · exact z
  obtain ⟨s, hs, es⟩ := rg_of (x := M.1 51 14) (b := 60) ⟨by have := g2.2.1.1; omega, g2.2.1.2⟩
  have hs1 : 1 ≤ s := by have := g2.2.1.1; rw [es, nI_toInt (by omega)] at this; omega
  obtain ⟨u, hu, rfl⟩ := ix_le (N := 1439) (b := 1439) rfl h6 h7
  have hw : (y - x + 1) * s ≤ 20 * 60 := Nat.mul_le_mul (by omega) hs
  rw [g2.1.2.1, es, pk_sub hxy, nI_1, pk_mul, show (1440 : Int32) - nI ((y - x + 1) * s) = nI (1440 - (y - x + 1) * s) from pk_sub (a := 1440) (by omega)]
  rw [show lX8_firstSafe_20 fu M (nI x) (nI y) (nI s) (nI (1440 - (y - x + 1) * s)) (nI u) 0 = _ from first9 g11 hxy hy hs hs1 fu u 0 (by omega) (by omega) (by rw [fu_v]; omega), some_b]
  refine Eqv_some ?_
  simp +decide only [h1, h2, h3, h4, h5, h6, h7, if_true, if_false, ite_not, not_true_eq_false, not_false_eq_true, upI_get, upd_get, b_refWalk, b_wrongWalk]
  rw [first10 g11 hxy hy hs es fu u (by omega) (by rw [fu_v]; omega)]
  exact Fin_some hI
