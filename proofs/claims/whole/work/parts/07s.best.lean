/-! the first twelve open defects -/
def opl (o : Nat → Bool) : Nat → Nat → Nat → List Nat
  | _, 0, _ => []
  | e, k + 1, r => if r = 0 then [] else if o e then e :: opl o (e + 1) k (r - 1) else opl o (e + 1) k r
theorem opl_lt (o : Nat → Bool) : ∀ (k e r x : Nat), x ∈ opl o e k r → x < e + k
  | 0, e, r, x, h => by cases h
  | k + 1, e, r, x, h => by
    rw [opl] at h
    split at h
    · cases h
    · split at h
      · rcases List.mem_cons.mp h with h | h
        · omega
        · have := opl_lt o k (e + 1) (r - 1) x h
          omega
      · have := opl_lt o k (e + 1) r x h
        omega
theorem opl_len (o : Nat → Bool) : ∀ (k e r : Nat), (opl o e k r).length ≤ r
  | 0, e, r => Nat.zero_le _
  | k + 1, e, r => by
    rw [opl]
    split
    · exact Nat.zero_le _
    · split
      · have := opl_len o k (e + 1) (r - 1)
        rw [List.length_cons]; omega
      · exact opl_len o k (e + 1) r
def jL (M : Mem) (n : Nat) : List Nat := opl (fun e => !decide (M.1 13 e = 0)) 0 n 12
def jD (L : List Nat) (d : Nat) : Nat := (L[d]?).getD 0
theorem jD_lt {M : Mem} {n d : Nat} (h : d < (jL M n).length) : jD (jL M n) d < n := by
  unfold jD
  rw [List.getElem?_eq_getElem h]
  have := opl_lt _ _ _ _ _ (List.getElem_mem h)
  show (jL M n)[d] < n
  unfold jL at this ⊢
  omega
theorem drop_cons {L rest : List Nat} {p e : Nat} (h : L.drop p = e :: rest) : L.drop (p + 1) = rest ∧ jD L p = e ∧ p < L.length := by
  have hp : p < L.length := by
    rcases Nat.lt_or_ge p L.length with q | q
    · exact q
    · rw [List.drop_eq_nil_of_le q] at h; cases h
  refine ⟨?_, ?_, hp⟩
  · rw [← List.tail_drop, h]; rfl
  · unfold jD
    have := List.getElem?_drop (xs := L) (i := p) (j := 0)
    rw [h, Nat.add_zero] at this
    rw [← this]; rfl
theorem jnN_none (c : Nat → Nat) (v : Nat → Bool) (w : Nat → Nat) (S : Nat) : ∀ (k i a : Nat), (∀ x, i ≤ x → x < i + k → v x = false) → jnN NV v w c S i k a = a
  | 0, i, a, h => rfl
  | k + 1, i, a, h => by
    rw [jnN, h i (by omega) (by omega), if_neg (show ¬ false = true by decide), ite_self]
    exact jnN_none c v w S k (i + 1) a (fun x h1 h2 => h x (by omega) (by omega))
theorem anyV_false {v : Nat → Bool} : ∀ (l : Nat), anyV v l = false → ∀ x, x < l → v x = false
  | 0, h, x, hx => absurd hx (Nat.not_lt_zero _)
  | l + 1, h, x, hx => by
    rw [anyV, Bool.or_eq_false_iff] at h
    by_cases e : x = l
    · rw [e]; exact h.2
    · exact anyV_false l h.1 x (by omega)
theorem jnw_le {M : Mem} {l n o : Nat} (g : L9 M l n o) {D : Nat → Nat} {i d : Nat} (hi : i < l) (hd : D d < n) (hd12 : d < 12) (hv : pV M o D i d = true) : jnw (pA M D) i d ≤ 200 * 815730721 + 12 * 62748517 := by
  unfold jnw
  have := pA_le g hi hd hv
  have hl := g.2.1
  have h8 : jnTn i ≤ 62748517 := by unfold jnTn; exact Nat.le_trans (Nat.pow_le_pow_right (by decide) (show 7 - i ≤ 7 by omega)) (by decide)
  have := Nat.mul_le_mul (show d ≤ 12 by omega) h8
  omega
theorem best45 {M : Mem} {l n o : Nat} (g : L9 M l n o) : ∀ (f e pos : Nat) (p c : Nat → Int64) (cn : Nat → Nat), e ≤ n → n - e < f → pos ≤ 12 → pos ≤ (jL M n).length → (jL M n).drop pos = opl (fun e => !decide (M.1 13 e = 0)) e (n - e) (12 - pos) → (∀ x, cn x ≤ NV) → (∀ x, x < 2 ^ l → c x = lN (cn x)) → jnC l pos NV (pV M o (jD (jL M n))) (jnw (pA M (jD (jL M n)))) cn → ∃ p' c' cn', lX0_bestJoining_45 f (SL M p c) (nI o) (nI (2 ^ l)) (nI pos) (nI e) = lX0_bestJoining_106 fu (SL M p' c') (nI (2 ^ l)) (lN NV) 0 ∧ (∀ x, cn' x ≤ NV) ∧ (∀ x, x < 2 ^ l → c' x = lN (cn' x)) ∧ jnC l (jL M n).length NV (pV M o (jD (jL M n))) (jnw (pA M (jD (jL M n)))) cn'
  | 0, e, pos, p, c, cn, h1, h2, h3, h4, h5, h6, h7, h8 => absurd h2 (Nat.not_lt_zero _)
  | f + 1, e, pos, p, c, cn, h1, h2, h3, h4, h5, h6, h7, h8 => by
    have hl := g.2.1
    have hn := g.2.2.2.1
    rw [lX0_bestJoining_45, show (SL M p c).1 = M.1 from rfl, g.2.2.1]
    by_cases he : e < n
    · rw [if_pos (nI_lt he (by omega))]
      rw [show n - e = (n - (e + 1)) + 1 by omega, opl] at h5
      by_cases hp : pos < 12
      · rw [if_pos (show nI pos < (12 : Int32) from nI_lt (b := 12) hp (by omega)), ck_t (inN (show e < 40 by omega) (by omega)), ixN (show e < 2 ^ 31 by omega), nI_1, nI_1]
        rw [if_neg (by omega)] at h5
        by_cases ho : M.1 13 e = 0
        · rw [if_pos ho]
          rw [decide_eq_true ho, if_neg (by decide)] at h5
          exact best45 g f (e + 1) pos p c cn (by omega) (by omega) h3 h4 h5 h6 h7 h8
        · rw [if_neg ho]
          rw [decide_eq_false ho, if_pos (by decide), show 12 - pos - 1 = 12 - (pos + 1) by omega] at h5
          obtain ⟨d1, d2, d3⟩ := drop_cons h5
          have hD : jD (jL M n) pos < n := by rw [d2]; exact he
          have hw := fun i d (q1 : i < l) (q2 : d < pos + 1) (q3 : pV M o (jD (jL M n)) i d = true) => jnw_le g q1 (jD_lt (show d < (jL M n).length by omega)) (show d < 12 by omega) q3
          have hb : l * (200 * 815730721 + 12 * 62748517) < NV := Nat.lt_of_le_of_lt (Nat.mul_le_mul_right _ hl) (by decide)
          obtain ⟨p', w1, w2⟩ := weighP g hD hp (c := c) fu 0 p (by omega) (by rw [fu_v]; omega) (fun x hx => absurd hx (Nat.not_lt_zero _))
          rw [d2] at w1
          unfold xX0_weighPairs
          rw [show lX0_weighPairs_6 fu (SL M p c) (nI e) (nI pos) (nI o) 0 0 = _ from w1, some_b]
          cases ha : anyV (fun x => pV M o (jD (jL M n)) x pos) l with
          | false =>
            rw [if_pos (show (if false = true then (1 : Int32) else 0) = 0 from rfl)]
            refine best45 g f (e + 1) (pos + 1) p' c cn (by omega) (by omega) (by omega) (by omega) d1 h6 h7 (jnC_step hw hb h8 (fun S hS => ?_))
            rw [jnN_none _ _ _ _ _ _ _ (fun x _ hx => anyV_false l ha x (by omega))]
          | true =>
            rw [if_neg (show ¬ (if true = true then (1 : Int32) else 0) = 0 by decide)]
            have h2l : 0 < 2 ^ l := Nat.pow_pos (by decide)
            have h2m : 2 ^ l ≤ 2 ^ 8 := Nat.pow_le_pow_right (by decide) hl
            obtain ⟨c', o1, o2⟩ := offOut g hD hp w2 h6 fu (2 ^ l - 1) c (by omega) (by rw [fu_v]; omega) (fun x hx => h7 x (by omega)) (fun x q1 q2 => absurd q2 (by omega))
            unfold xX0_offerDefect
            rw [show nI (2 ^ l) - 1 = nI (2 ^ l - 1) from pk_sub (b := 1) (by omega), o1, some_b]
            exact best45 g f (e + 1) (pos + 1) p' c' _ (by omega) (by omega) (by omega) (by omega) d1 (cN'_le M l o (jD (jL M n)) pos h6) o2 (jnC_step hw hb h8 (fun S hS => rfl))
      · have e12 : pos = 12 := by omega
        subst e12
        rw [if_neg (show ¬ nI 12 < (12 : Int32) by decide)]
        rw [if_pos rfl] at h5
        have := List.drop_eq_nil_iff.mp h5
        have hq : 12 = (jL M n).length := by omega
        exact ⟨p, c, cn, rfl, h6, h7, by rw [← hq]; exact h8⟩
    · rw [if_neg (nI_nlt (by omega) (by omega))]
      rw [show n - e = 0 by omega, opl] at h5
      have := List.drop_eq_nil_iff.mp h5
      have hq : pos = (jL M n).length := by omega
      exact ⟨p, c, cn, rfl, h6, h7, by rw [← hq]; exact h8⟩
theorem rest9 {M : Mem} {l n o : Nat} (g : L9 M l n o) {p c : Nat → Int64} {S : Nat} (hS : S < 256) : ∀ (f i a : Nat), i ≤ l → l - i < f → lX0_weightOfRest_5 f (SL M p c) (nI S) (lN a) (nI i) = some (lN (a + jnS (fun e => if S.testBit e then 0 else jnz e) i (l - i)))
  | 0, i, a, h1, h2 => absurd h2 (Nat.not_lt_zero _)
  | f + 1, i, a, h1, h2 => by
    have hl := g.2.1
    rw [lX0_weightOfRest_5, show (SL M p c).1 = M.1 from rfl, g.1]
    by_cases hi : i < l
    · obtain ⟨b1, b2, b3⟩ := bits8 ⟨S, hS⟩ ⟨i, by omega⟩
      simp only at b1 b2 b3
      rw [if_pos (nI_lt hi (by omega)), ck_t (inN (show i < 8 by omega) (by omega)), ixN (show i < 2 ^ 31 by omega), tabC_eq (show i < 8 by omega), show (1631461442000 : Int64) = lN (2000 * 815730721) from rfl, show (12 : Int64) = lN 12 from rfl, lN_mul, lN_add, lN_add, nI_1, show l - i = (l - (i + 1)) + 1 by omega, jnS]
      cases hb : S.testBit i with
      | false =>
        rw [if_pos (b3.mpr hb), if_neg (show ¬ false = true by decide), rest9 g hS f (i + 1) _ (by omega) (by omega), Nat.add_assoc]; rfl
      | true =>
        rw [if_neg (fun z => by rw [b3.mp z] at hb; cases hb), if_pos (show true = true from rfl), rest9 g hS f (i + 1) _ (by omega) (by omega), Nat.zero_add]
    · rw [if_neg (nI_nlt (by omega) (by omega)), show l - i = 0 by omega]; rfl
theorem jnz_le (i : Nat) : jnz i ≤ 2000 * 815730721 + 12 * 62748517 := by
  unfold jnz
  have h8 : jnTn i ≤ 62748517 := by unfold jnTn; exact Nat.le_trans (Nat.pow_le_pow_right (by decide) (show 7 - i ≤ 7 by omega)) (by decide)
  omega
theorem jnR_le {l : Nat} (hl : l ≤ 8) (S : Nat) : jnR l jnz S ≤ 8 * (2000 * 815730721 + 12 * 62748517) := by
  unfold jnR
  refine Nat.le_trans (jnS_lt l 0 (b := 2000 * 815730721 + 12 * 62748517) (fun e _ _ => ?_)) (Nat.mul_le_mul_right _ hl)
  have := jnz_le e
  split <;> omega
theorem best106 {M : Mem} {l n o : Nat} (g : L9 M l n o) {p c : Nat → Int64} {cn : Nat → Nat} (hcn : ∀ x, cn x ≤ NV) (hc : ∀ x, x < 2 ^ l → c x = lN (cn x)) : ∀ (f s a : Nat), s ≤ 2 ^ l → 2 ^ l - s < f → a ≤ NV → ∃ R, lX0_bestJoining_106 f (SL M p c) (nI (2 ^ l)) (lN a) (nI s) = some (lN R, SL M p c) ∧ R ≤ a ∧ (∀ S, s ≤ S → S < 2 ^ l → R ≤ cn S + jnR l jnz S) ∧ (R = a ∨ ∃ S, s ≤ S ∧ S < 2 ^ l ∧ R = cn S + jnR l jnz S)
  | 0, s, a, h1, h2, h3 => absurd h2 (Nat.not_lt_zero _)
  | f + 1, s, a, h1, h2, h3 => by
    have hl := g.2.1
    have h2m : 2 ^ l ≤ 2 ^ 8 := Nat.pow_le_pow_right (by decide) hl
    have hNV : NV = 1152921504606846976 := rfl
    rw [lX0_bestJoining_106]
    by_cases hs : s < 2 ^ l
    · have hr := jnR_le hl s
      have hcs := hcn s
      rw [if_pos (nI_lt hs (by omega)), ck_t (inN (show s < 256 by omega) (by omega)), ixN (show s < 2 ^ 31 by omega)]
      unfold xX0_weightOfRest
      rw [show lX0_weightOfRest_5 fu (SL M p c) (nI s) 0 0 = _ from rest9 g (show s < 256 by omega) fu 0 0 (by omega) (by rw [fu_v]; omega), some_b, show (SL M p c).2 40 s = lN (cn s) from hc s hs, lN_add, Nat.zero_add, show cn s + jnS (fun e => if s.testBit e then 0 else jnz e) 0 (l - 0) = cn s + jnR l jnz s from rfl, mnL_N (by omega) (by omega), nI_1]
      obtain ⟨R, r1, r2, r3, r4⟩ := best106 g (p := p) hcn hc f (s + 1) (min a (cn s + jnR l jnz s)) (by omega) (by omega) (by omega)
      refine ⟨R, r1, by omega, fun S q1 q2 => ?_, ?_⟩
      · by_cases e : S = s
        · subst e; omega
        · exact r3 S (by omega) q2
      · rcases r4 with r4 | ⟨S, q1, q2, q3⟩
        · rcases Nat.le_total a (cn s + jnR l jnz s) with z | z
          · left; omega
          · right; exact ⟨s, Nat.le_refl _, hs, by omega⟩
        · right; exact ⟨S, by omega, q2, q3⟩
    · rw [if_neg (nI_nlt (by omega) (by omega))]
      exact ⟨a, rfl, Nat.le_refl _, fun S q1 q2 => absurd q2 (by omega), Or.inl rfl⟩
theorem best17 {M : Mem} {l n o : Nat} (g : L9 M l n o) {p : Nat → Int64} : ∀ (f s : Nat) (c : Nat → Int64), 1 ≤ s → s ≤ 2 ^ l → 2 ^ l - s < f → c 0 = lN 0 → (∀ x, 1 ≤ x → x < s → c x = lN NV) → ∃ c', lX0_bestJoining_17 f (SL M p c) (nI o) (nI (2 ^ l)) (nI s) = lX0_bestJoining_45 fu (SL M p c') (nI o) (nI (2 ^ l)) 0 0 ∧ ∀ x, x < 2 ^ l → c' x = lN (if x = 0 then 0 else NV)
  | 0, s, c, h0, h1, h2, h3, h4 => absurd h2 (Nat.not_lt_zero _)
  | f + 1, s, c, h0, h1, h2, h3, h4 => by
    have hl := g.2.1
    have h2m : 2 ^ l ≤ 2 ^ 8 := Nat.pow_le_pow_right (by decide) hl
    rw [lX0_bestJoining_17]
    by_cases hs : s < 2 ^ l
    · rw [if_pos (nI_lt hs (by omega)), ck_t (inN (show s < 256 by omega) (by omega)), ixN (show s < 2 ^ 31 by omega), SL_40, nI_1]
      refine best17 g f (s + 1) _ (by omega) (by omega) (by omega) ?_ (fun x q1 q2 => ?_)
      · show (if 0 = s then _ else c 0) = _
        rw [if_neg (by omega), h3]
      · show (if x = s then _ else c x) = _
        by_cases e : x = s
        · rw [if_pos e]; rfl
        · rw [if_neg e]; exact h4 x q1 (by omega)
    · rw [if_neg (nI_nlt (by omega) (by omega))]
      refine ⟨c, rfl, fun x hx => ?_⟩
      by_cases e : x = 0
      · rw [if_pos e, e, h3]
      · rw [if_neg e]; exact h4 x (by omega) (by omega)
theorem jnP_0 (l k : Nat) (vd : Nat → Nat → Bool) (A : Nat → Option Nat) : jnP l k vd 0 A := by
  refine ⟨fun e _ h => ?_, fun e e' d _ _ h => ?_⟩
  · rw [Nat.zero_testBit] at h; cases h
  · rw [Nat.zero_testBit] at h; cases h
theorem jnT_0 (l : Nat) (w : Nat → Nat → Nat) (A : Nat → Option Nat) : jnT l w 0 A = 0 := by
  unfold jnT
  have := jnS_lt (f := fun e => if (0 : Nat).testBit e then jnW w (fun _ => 0) e (A e) else 0) (b := 0) l 0 (fun e _ _ => by simp only [Nat.zero_testBit]; exact Nat.le_refl _)
  omega
theorem jnC_0 (l : Nat) (vd : Nat → Nat → Bool) (w : Nat → Nat → Nat) : jnC l 0 NV vd w (fun x => if x = 0 then 0 else NV) := by
  intro S hS
  by_cases e : S = 0
  · subst e
    refine ⟨fun A _ => Nat.zero_le _, Or.inr ⟨(show 0 < NV by decide), fun _ => none, jnP_0 l 0 vd _, by rw [jnT_0]; rfl⟩⟩
  · refine ⟨fun A hA => ?_, Or.inl (if_neg e)⟩
    have hex : ∃ i, S.testBit i = true := by
      by_cases h : ∃ i, S.testBit i = true
      · exact h
      · refine absurd (Nat.eq_of_testBit_eq (fun i => ?_)) e
        rw [Nat.zero_testBit]
        cases hb : S.testBit i with
        | false => rfl
        | true => exact absurd ⟨i, hb⟩ h
    obtain ⟨i, hi⟩ := hex
    have hil : i < l := by
      rcases Nat.lt_or_ge i l with q | q
      · exact q
      · rw [Nat.testBit_lt_two_pow (Nat.lt_of_lt_of_le hS (Nat.pow_le_pow_right (by decide) q))] at hi; cases hi
    obtain ⟨d, hd, _⟩ := hA.1 i hil hi
    exact absurd hd (Nat.not_lt_zero _)
theorem best9j {M : Mem} {l n o : Nat} (g : L9 M l n o) : ∃ p c, xX0_bestJoining M (nI o) = some (lN (jnB (jL M n).length (pV M o (jD (jL M n))) (jnw (pA M (jD (jL M n)))) jnz l 0 0), SL M p c) := by
  have hl := g.2.1
  have h2l : 0 < 2 ^ l := Nat.pow_pos (by decide)
  have h2m : 2 ^ l ≤ 2 ^ 8 := Nat.pow_le_pow_right (by decide) hl
  unfold xX0_bestJoining
  rw [g.1, shl1 hl, show upL M 40 0 0 = SL M (M.2 39) (vp_updL (M.2 40) 0 0) from by rw [← SL_40, SL_self]]
  obtain ⟨c1, q1, q2⟩ := best17 g (p := M.2 39) fu 1 (vp_updL (M.2 40) 0 0) (by omega) (by omega) (by rw [fu_v]; omega) rfl (fun x h1 h2 => absurd h2 (by omega))
  rw [show lX0_bestJoining_17 fu (SL M (M.2 39) (vp_updL (M.2 40) 0 0)) (nI o) (nI (2 ^ l)) 1 = _ from q1]
  obtain ⟨p2, c2, cn, r1, r2, r3, r4⟩ := best45 g fu 0 0 (M.2 39) c1 (fun x => if x = 0 then 0 else NV) (by omega) (by rw [fu_v]; have := g.2.2.2.1; omega) (by omega) (by omega) rfl (fun x => by split <;> decide) q2 (jnC_0 l _ _)
  rw [show lX0_bestJoining_45 fu (SL M (M.2 39) c1) (nI o) (nI (2 ^ l)) 0 0 = _ from r1]
  obtain ⟨R, s1, s2, s3, s4⟩ := best106 g (p := p2) r2 r3 fu 0 NV (by omega) (by rw [fu_v]; omega) (Nat.le_refl _)
  refine ⟨p2, c2, ?_⟩
  rw [show lX0_bestJoining_106 fu (SL M p2 c2) (nI (2 ^ l)) (lN NV) 0 = _ from s1]
  have hNV : NV = 1152921504606846976 := rfl
  have h0 := s3 0 (by omega) h2l
  have hr0 := jnR_le hl 0
  have hc0 : cn 0 ≤ 0 := by
    have := (r4 0 h2l).1 (fun _ => none) (jnP_0 l _ _ _)
    rw [jnT_0] at this
    omega
  rw [jn_whole r4 (R := R) (z := jnz) (fun S hS => s3 S (by omega) hS) (by
    rcases s4 with s4 | ⟨S, t1, t2, t3⟩
    · omega
    · exact ⟨S, t2, by omega, t3⟩)]
