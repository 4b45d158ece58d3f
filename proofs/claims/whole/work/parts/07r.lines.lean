/-! the class joins lines to defects -/
def SL (M : Mem) (p c : Nat → Int64) : Mem := (M.1, fun q => cond (Nat.beq q 39) p (cond (Nat.beq q 40) c (M.2 q)))
theorem SL_inv {M : Mem} {p c : Nat → Int64} (h : Inv M) : Inv (SL M p c) := h
theorem SL_39 (M : Mem) (p c : Nat → Int64) (i : Nat) (v : Int64) : upL (SL M p c) 39 i v = SL M (vp_updL p i v) c := by
  unfold upL SL
  refine Prod.ext rfl (funext fun q => ?_)
  show cond (Nat.beq q 39) (vp_updL p i v) (cond (Nat.beq q 39) p (cond (Nat.beq q 40) c (M.2 q))) = cond (Nat.beq q 39) (vp_updL p i v) (cond (Nat.beq q 40) c (M.2 q))
  cases Nat.beq q 39 <;> rfl
theorem SL_40 (M : Mem) (p c : Nat → Int64) (i : Nat) (v : Int64) : upL (SL M p c) 40 i v = SL M p (vp_updL c i v) := by
  unfold upL SL
  refine Prod.ext rfl (funext fun q => ?_)
  show cond (Nat.beq q 40) (vp_updL c i v) (cond (Nat.beq q 39) p (cond (Nat.beq q 40) c (M.2 q))) = cond (Nat.beq q 39) p (cond (Nat.beq q 40) (vp_updL c i v) (M.2 q))
  by_cases h1 : q = 40
  · subst h1; rfl
  · have : Nat.beq q 40 = false := by
      cases hb : Nat.beq q 40 with
      | false => rfl
      | true => exact absurd (Nat.eq_of_beq_eq_true hb) h1
    rw [this]; rfl
theorem SL_self (M : Mem) : SL M (M.2 39) (M.2 40) = M := by
  refine Prod.ext rfl (funext fun q => ?_)
  show cond (Nat.beq q 39) (M.2 39) (cond (Nat.beq q 40) (M.2 40) (M.2 q)) = M.2 q
  cases h1 : Nat.beq q 39 with
  | true => rw [Nat.eq_of_beq_eq_true h1]; rfl
  | false =>
    cases h2 : Nat.beq q 40 with
    | true => rw [Nat.eq_of_beq_eq_true h2]; rfl
    | false => rfl
theorem i2l {a : Nat} (h : a < 2 ^ 31) : (nI a).toInt64 = lN a := by
  rw [← lN_i, lg_i2l_l2i (by rw [lN_toInt h]; omega) (by rw [lN_toInt h]; omega)]
theorem tabC_eq {i : Nat} (h : i < 8) : tabC i = lN (jnTn i) := by
  match i, h with
  | 0, _ => rfl
  | 1, _ => rfl
  | 2, _ => rfl
  | 3, _ => rfl
  | 4, _ => rfl
  | 5, _ => rfl
  | 6, _ => rfl
  | 7, _ => rfl
theorem bits8 : ∀ S : _root_.Fin 256, ∀ i : _root_.Fin 8, (nI S.1 &&& ((1 <<< (nI i.1 &&& 31)) ^^^ (-1)) = nI (if S.1.testBit i.1 then S.1 ^^^ 2 ^ i.1 else S.1)) ∧ (S.1.testBit i.1 = true → S.1 ^^^ 2 ^ i.1 < S.1) ∧ ((nI S.1 &&& (1 <<< (nI i.1 &&& 31)) = 0) ↔ S.1.testBit i.1 = false) := by decide +kernel
def NV : Nat := 1152921504606846976
/-- the class's data of a pair -/
def pV (M : Mem) (o : Nat) (D : Nat → Nat) (i d : Nat) : Bool := (decide (M.1 36 i = M.1 9 (D d)) && decide (M.1 38 i = M.1 11 (D d))) && !decide (nI o < abI (M.1 37 i - M.1 10 (D d)))
def pA (M : Mem) (D : Nat → Nat) (i d : Nat) : Nat := ix (abI (M.1 37 i - M.1 10 (D d)))
def L9 (M : Mem) (l n o : Nat) : Prop := M.1 35 0 = nI l ∧ l ≤ 8 ∧ M.1 8 0 = nI n ∧ n ≤ 40 ∧ M.1 2 2 = nI o ∧ o ≤ 200 ∧ (∀ i, i < l → rg (M.1 37 i) 0 1759) ∧ ∀ e, e < n → rg (M.1 10 e) 0 1759
theorem ab_eq {x y : Int32} (hx : rg x 0 1759) (hy : rg y 0 1759) : abI (x - y) = nI (ix (abI (x - y))) ∧ ix (abI (x - y)) ≤ 1759 := by
  obtain ⟨a, ha, rfl⟩ := rg_of (b := 1759) hx
  obtain ⟨b, hb, rfl⟩ := rg_of (b := 1759) hy
  have key : abI (nI a - nI b) = nI (if b ≤ a then a - b else b - a) := by
    unfold abI
    by_cases c : b ≤ a
    · rw [if_pos c, pk_sub c, if_pos (by rw [le_i, nI_toInt (by omega)]; exact Int.natCast_nonneg _)]
    · have q : ¬ (0 : Int32) ≤ nI a - nI b := by
        rw [le_i, pk_sub_toInt (by omega) (by omega), show (0 : Int32).toInt = 0 from rfl]; omega
      rw [if_neg c, if_neg q, ← pk_sub (show a ≤ b by omega)]
      grind
  rw [key]
  by_cases c : b ≤ a
  · rw [if_pos c, ixN (by omega)]; exact ⟨rfl, by omega⟩
  · rw [if_neg c, ixN (by omega)]; exact ⟨rfl, by omega⟩
theorem pA_le {M : Mem} {l n o : Nat} (g : L9 M l n o) {D : Nat → Nat} {i d : Nat} (hi : i < l) (hd : D d < n) (hv : pV M o D i d = true) : pA M D i d ≤ 200 := by
  obtain ⟨e1, e2⟩ := ab_eq (g.2.2.2.2.2.2.1 i hi) (g.2.2.2.2.2.2.2 (D d) hd)
  unfold pV at hv
  simp only [Bool.and_eq_true, Bool.not_eq_true', decide_eq_false_iff_not] at hv
  have h := hv.2
  rw [e1, nI_ltI (by have := g.2.2.2.2.2.1; omega) (by omega)] at h
  have := g.2.2.2.2.2.1
  unfold pA
  omega
def anyV (v : Nat → Bool) : Nat → Bool
  | 0 => false
  | n + 1 => anyV v n || v n
def pW (M : Mem) (o : Nat) (D : Nat → Nat) (i d : Nat) : Int64 := if pV M o D i d then lN (jnw (pA M D) i d) else lN NV
theorem weighP {M : Mem} {l n o : Nat} (g : L9 M l n o) {D : Nat → Nat} {d : Nat} (hd : D d < n) (hd12 : d < 12) {c : Nat → Int64} : ∀ (f i : Nat) (p : Nat → Int64), i ≤ l → l - i < f → (∀ x, x < i → p x = pW M o D x d) → ∃ p', lX0_weighPairs_6 f (SL M p c) (nI (D d)) (nI d) (nI o) (if anyV (fun x => pV M o D x d) i then 1 else 0) (nI i) = some (if anyV (fun x => pV M o D x d) l then 1 else 0, SL M p' c) ∧ ∀ x, x < l → p' x = pW M o D x d
  | 0, i, p, h1, h2, h3 => absurd h2 (Nat.not_lt_zero _)
  | f + 1, i, p, h1, h2, h3 => by
    have hl := g.2.1
    have hn := g.2.2.2.1
    rw [lX0_weighPairs_6, show (SL M p c).1 = M.1 from rfl, g.1]
    by_cases hi : i < l
    · obtain ⟨e1, e2⟩ := ab_eq (g.2.2.2.2.2.2.1 i hi) (g.2.2.2.2.2.2.2 (D d) hd)
      have e1' : abI (M.1 37 i - M.1 10 (D d)) = nI (pA M D i d) := e1
      have hp : pA M D i d ≤ 1759 := e2
      rw [if_pos (nI_lt hi (by omega)), ck_t (inN (show i < 8 by omega) (by omega)), ck_t (inN (show D d < 40 by omega) (by omega)), ixN (show i < 2 ^ 31 by omega), ixN (show D d < 2 ^ 31 by omega)]
      unfold jX0_weighPairs_77 jX0_weighPairs_78 jX0_weighPairs_114
      rw [ck_t (inN (show i < 8 by omega) (by omega)), ck_t (inN (show i < 8 by omega) (by omega)), ixN (show i < 2 ^ 31 by omega), if_pos rfl, if_neg (show ¬ (1 : Int32) = 0 by decide), SL_39, SL_39, tabC_eq (show i < 8 by omega), e1', i2l (by omega), i2l (by omega), show (815730721 : Int64) = lN 815730721 from rfl, lN_mul, lN_mul, lN_add, show (1152921504606846976 : Int64) = lN NV from rfl, nI_1, if_pos rfl, if_neg (show ¬ (1 : Int32) = 0 by decide)]
      have ih := fun (v : Int64) (hv : v = pW M o D i d) => weighP g hd hd12 (c := c) f (i + 1) (vp_updL p i v) (by omega) (by omega) (fun x hx => by
        show (if x = i then v else p x) = _
        by_cases e : x = i
        · rw [if_pos e, e]; exact hv
        · rw [if_neg e]; exact h3 x (by omega))
      have flag : anyV (fun x => pV M o D x d) (i + 1) = (anyV (fun x => pV M o D x d) i || pV M o D i d) := rfl
      rw [flag] at ih
      cases hv : pV M o D i d with
      | true =>
        have q : pW M o D i d = lN (pA M D i d * 815730721 + d * jnTn i) := by unfold pW; rw [hv]; rfl
        rw [hv, Bool.or_true, if_pos rfl] at ih
        unfold pV at hv
        simp only [Bool.and_eq_true, Bool.not_eq_true', decide_eq_false_iff_not, decide_eq_true_eq, e1'] at hv
        rw [if_pos hv.1.1, if_pos hv.1.2, if_neg hv.2]
        have hib : inB (nI i) 8 = true := inN (show i < 8 by omega) (by omega)
        simp only [ck_t hib]
        cases anyV (fun x => pV M o D x d) i with
        | true => rw [if_neg (show ¬ (if true = true then (1 : Int32) else 0) = 0 by decide)]; exact ih _ q.symm
        | false => rw [if_pos (show (if false = true then (1 : Int32) else 0) = 0 by decide)]; exact ih _ q.symm
      | false =>
        have q : pW M o D i d = lN NV := by unfold pW; rw [hv]; rfl
        rw [hv, Bool.or_false] at ih
        have key : ∃ p', (if (if anyV (fun x => pV M o D x d) i = true then (1 : Int32) else 0) = 0 then lX0_weighPairs_6 f (SL M (vp_updL p i (lN NV)) c) (nI (D d)) (nI d) (nI o) 0 (nI (i + 1)) else lX0_weighPairs_6 f (SL M (vp_updL p i (lN NV)) c) (nI (D d)) (nI d) (nI o) 1 (nI (i + 1))) = some (if anyV (fun x => pV M o D x d) l then 1 else 0, SL M p' c) ∧ ∀ x, x < l → p' x = pW M o D x d := by
          have := ih _ q.symm
          cases ha : anyV (fun x => pV M o D x d) i with
          | true => rw [ha] at this; exact this
          | false => rw [ha] at this; exact this
        unfold pV at hv
        rw [e1'] at hv
        by_cases c1 : M.1 36 i = M.1 9 (D d)
        · by_cases c2 : M.1 38 i = M.1 11 (D d)
          · by_cases c3 : nI o < nI (pA M D i d)
            · rw [if_pos c1, if_pos c2, if_pos c3]; exact key
            · rw [decide_eq_true c1, decide_eq_true c2, decide_eq_false c3] at hv; cases hv
          · rw [if_pos c1, if_neg c2]; exact key
        · rw [if_neg c1]; exact key
    · have e : i = l := by omega
      subst e
      rw [if_neg (nI_nlt (by omega) (by omega)), ck_t (by cases anyV (fun x => pV M o D x d) i <;> rfl)]
      exact ⟨p, rfl, h3⟩
theorem updL_self (c : Nat → Int64) (S : Nat) {v : Int64} (h : c S = v) : vp_updL c S v = c := by
  funext x
  show (if x = S then v else c x) = c x
  by_cases e : x = S
  · rw [if_pos e, e, h]
  · rw [if_neg e]
theorem updL_updL (c : Nat → Int64) (S : Nat) (u v : Int64) : vp_updL (vp_updL c S u) S v = vp_updL c S v := by
  funext x
  show (if x = S then v else if x = S then u else c x) = if x = S then v else c x
  by_cases e : x = S
  · rw [if_pos e, if_pos e]
  · rw [if_neg e, if_neg e, if_neg e]
theorem mnL_N {a b : Nat} (ha : a < 2 ^ 63) (hb : b < 2 ^ 63) : mnL (lN a) (lN b) = lN (min a b) := by
  unfold mnL
  by_cases c : b < a
  · rw [if_pos ((pk_lLT hb ha).mpr c), Nat.min_eq_right (by omega)]
  · rw [if_neg (fun z => c ((pk_lLT hb ha).mp z)), Nat.min_eq_left (by omega)]
theorem offIn {M : Mem} {l n o : Nat} (g : L9 M l n o) {D : Nat → Nat} {d : Nat} (hdn : D d < n) (hd12 : d < 12) {p : Nat → Int64} (hp : ∀ x, x < l → p x = pW M o D x d) {cn : Nat → Nat} (hcn : ∀ x, cn x ≤ NV) (F : Mem → Int32 → Option Mem) {S : Nat} (hS : S < 2 ^ l) : ∀ (f i : Nat) (c : Nat → Int64) (a : Nat), i ≤ l → l - i < f → (∀ x, x < S → c x = lN (cn x)) → c S = lN a → a ≤ NV → lX0_offerDefect_10 F f (SL M p c) (nI S) (nI i) = F (SL M p (vp_updL c S (lN (jnN NV (fun x => pV M o D x d) (fun x => jnw (pA M D) x d) cn S i (l - i) a)))) (nI S + (-1))
  | 0, i, c, a, h1, h2, h3, h4, h5 => absurd h2 (Nat.not_lt_zero _)
  | f + 1, i, c, a, h1, h2, h3, h4, h5 => by
    have hl := g.2.1
    have hS8 : S < 256 := Nat.lt_of_lt_of_le hS (Nat.pow_le_pow_right (by decide) hl)
    rw [lX0_offerDefect_10, show (SL M p c).1 = M.1 from rfl, g.1]
    by_cases hi : i < l
    · obtain ⟨b1, b2, b3⟩ := bits8 ⟨S, hS8⟩ ⟨i, by omega⟩
      simp only at b1 b2 b3
      have hw : jnw (pA M D) i d ≤ 1759 * 815730721 + 12 * 62748517 := by
        unfold jnw
        have := (ab_eq (g.2.2.2.2.2.2.1 i hi) (g.2.2.2.2.2.2.2 (D d) hdn)).2
        have h7 : pA M D i d ≤ 1759 := this
        have h8 : jnTn i ≤ 62748517 := by unfold jnTn; exact Nat.le_trans (Nat.pow_le_pow_right (by decide) (show 7 - i ≤ 7 by omega)) (by decide)
        have := Nat.mul_le_mul (show d ≤ 12 by omega) h8
        omega
      rw [if_pos (nI_lt hi (by omega)), b1, nI_1, show l - i = (l - (i + 1)) + 1 by omega, jnN]
      cases hb : S.testBit i with
      | false =>
        rw [if_pos (show nI (if false = true then S ^^^ 2 ^ i else S) = nI S from rfl), if_neg (show ¬ false = true by decide)]
        exact offIn g hdn hd12 hp hcn F hS f (i + 1) c a (by omega) (by omega) h3 h4 h5
      | true =>
        have hx := b2 hb
        rw [if_pos (show true = true from rfl), if_pos (show true = true from rfl), if_neg (nI_inj (by omega) (by omega) (by omega)), ck_t (inN (show i < 8 by omega) (by omega)), ck_t (inN (show S ^^^ 2 ^ i < 256 by omega) (by omega)), ck_t (inN hS8 (by omega)), ixN (show i < 2 ^ 31 by omega), ixN (show S ^^^ 2 ^ i < 2 ^ 31 by omega), ixN (show S < 2 ^ 31 by omega)]
        rw [show (SL M p c).2 39 i = pW M o D i d from hp i hi, show (SL M p c).2 40 (S ^^^ 2 ^ i) = lN (cn (S ^^^ 2 ^ i)) from h3 _ hx, show (SL M p c).2 40 S = lN a from h4, show (1152921504606846976 : Int64) = lN NV from rfl]
        have hc := hcn (S ^^^ 2 ^ i)
        have hNV : NV = 1152921504606846976 := rfl
        cases hv : pV M o D i d with
        | false =>
          rw [show pW M o D i d = lN NV from by unfold pW; rw [hv]; rfl, if_pos ((lg_cmp_eq _ _).mpr rfl), if_neg (show ¬ false = true by decide)]
          exact offIn g hdn hd12 hp hcn F hS f (i + 1) c a (by omega) (by omega) h3 h4 h5
        | true =>
          rw [show pW M o D i d = lN (jnw (pA M D) i d) from by unfold pW; rw [hv]; rfl, if_neg (fun z => by
            have := (pk_lEQ (by omega) (by omega)).mp ((lg_cmp_eq _ _).mp z)
            omega), if_pos (show true = true from rfl)]
          by_cases c1 : cn (S ^^^ 2 ^ i) = NV
          · rw [if_pos c1, c1, if_pos ((lg_cmp_eq _ _).mpr rfl)]
            exact offIn g hdn hd12 hp hcn F hS f (i + 1) c a (by omega) (by omega) h3 h4 h5
          · rw [if_neg c1, if_neg (fun z => c1 ((pk_lEQ (by omega) (by omega)).mp ((lg_cmp_eq _ _).mp z))), lN_add, mnL_N (by omega) (by omega), SL_40]
            rw [offIn g hdn hd12 hp hcn F hS f (i + 1) _ (min a (cn (S ^^^ 2 ^ i) + jnw (pA M D) i d)) (by omega) (by omega) (fun x hx => by
              show (if x = S then _ else c x) = _
              rw [if_neg (by omega)]; exact h3 x hx) (if_pos rfl) (by omega), updL_updL]
    · rw [if_neg (nI_nlt (by omega) (by omega)), show l - i = 0 by omega]
      show F (SL M p c) _ = F (SL M p (vp_updL c S (lN a))) _
      rw [updL_self c S h4]
def cN' (M : Mem) (l o : Nat) (D : Nat → Nat) (d : Nat) (cn : Nat → Nat) (S : Nat) : Nat := jnN NV (fun x => pV M o D x d) (fun x => jnw (pA M D) x d) cn S 0 l (cn S)
theorem cN'_le (M : Mem) (l o : Nat) (D : Nat → Nat) (d : Nat) {cn : Nat → Nat} (hcn : ∀ x, cn x ≤ NV) (S : Nat) : cN' M l o D d cn S ≤ NV := Nat.le_trans (jnN_acc _ _ _ _ _ _ _ _) (hcn S)
theorem cN'_0 (M : Mem) (l o : Nat) (D : Nat → Nat) (d : Nat) (cn : Nat → Nat) : cN' M l o D d cn 0 = cn 0 := by
  unfold cN'
  have : ∀ (k i a : Nat), jnN NV (fun x => pV M o D x d) (fun x => jnw (pA M D) x d) cn 0 i k a = a := by
    intro k
    induction k with
    | zero => intro i a; rfl
    | succ k ih => intro i a; rw [jnN, Nat.zero_testBit, if_neg (by decide), ih]
  exact this l 0 _
theorem offOut {M : Mem} {l n o : Nat} (g : L9 M l n o) {D : Nat → Nat} {d : Nat} (hdn : D d < n) (hd12 : d < 12) {p : Nat → Int64} (hp : ∀ x, x < l → p x = pW M o D x d) {cn : Nat → Nat} (hcn : ∀ x, cn x ≤ NV) : ∀ (f S : Nat) (c : Nat → Int64), S < 2 ^ l → S < f → (∀ x, x ≤ S → c x = lN (cn x)) → (∀ x, S < x → x < 2 ^ l → c x = lN (cN' M l o D d cn x)) → ∃ c', lX0_offerDefect_4 f (SL M p c) (nI S) = some (SL M p c') ∧ ∀ x, x < 2 ^ l → c' x = lN (cN' M l o D d cn x)
  | 0, S, c, h1, h2, h3, h4 => absurd h2 (Nat.not_lt_zero _)
  | f + 1, 0, c, h1, h2, h3, h4 => by
    rw [lX0_offerDefect_4, if_neg (by decide)]
    refine ⟨c, rfl, fun x hx => ?_⟩
    by_cases e : x = 0
    · subst e; rw [h3 0 (by omega), cN'_0]
    · exact h4 x (by omega) hx
  | f + 1, S + 1, c, h1, h2, h3, h4 => by
    have hl := g.2.1
    have hS8 : S + 1 < 256 := Nat.lt_of_lt_of_le h1 (Nat.pow_le_pow_right (by decide) hl)
    rw [lX0_offerDefect_4, if_pos (ps (by omega) (by omega)), show lX0_offerDefect_10 (lX0_offerDefect_4 f) fu (SL M p c) (nI (S + 1)) 0 = _ from offIn g hdn hd12 hp hcn (lX0_offerDefect_4 f) h1 fu 0 c (cn (S + 1)) (by omega) (by rw [fu_v]; omega) (fun x hx => h3 x (by omega)) (h3 _ (by omega)) (hcn _), pk_m1]
    refine offOut g hdn hd12 hp hcn f S _ (by omega) (by omega) (fun x hx => ?_) (fun x hx hx2 => ?_)
    · show (if x = S + 1 then _ else c x) = _
      rw [if_neg (by omega)]; exact h3 x (by omega)
    · show (if x = S + 1 then _ else c x) = _
      by_cases e : x = S + 1
      · rw [if_pos e, e]; rfl
      · rw [if_neg e]; exact h4 x (by omega) hx2
