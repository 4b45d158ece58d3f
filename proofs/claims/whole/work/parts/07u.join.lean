/-! the model's choices -/
def cI : Option Nat → Int32
  | none => -1
  | some d => nI d
def tI (D : Nat → Nat) : Option Nat → Int32
  | none => -9
  | some d => nI (D d)
theorem pick251s {F : Mem → Int32 → Int32 → Option (Int32 × Mem)} {M1 : Mem} {v2 v3 : Int32} {x : Nat} (hx : x < 2 ^ 31) (v5 : Int32) : ∀ f : Nat, 0 < f → lX10_joins_251 F f M1 v2 v3 (nI x) v5 = jX10_joins_334 F M1 v2 v3 (nI x)
  | 0, h => absurd h (Nat.not_lt_zero _)
  | f + 1, _ => by
    rw [lX10_joins_251, if_neg (nng hx), ite_self]
theorem pick251 {M : Mem} {l n o : Nat} (g : L9 M l n o) (h : L10 M l n o) {s y t : Nat → Int32} (hs : ∀ x, x < (jL M n).length → s x = nI (jD (jL M n) x)) (hy : Rows M l n o 0 y) {i U : Nat} (hi : i < l) (hU : U < 2 ^ (jL M n).length) (F : Mem → Int32 → Int32 → Option (Int32 × Mem)) : ∀ (f d : Nat), d ≤ (jL M n).length → (jL M n).length - d + 1 < f → lX10_joins_251 F f (JS M s y t (jL M n).length) (nI U) (nI i) (-1) (nI d) = jX10_joins_334 F (JS M s y t (jL M n).length) (nI U) (nI i) (cI (jnG (pV M o (jD (jL M n))) (pA M (jD (jL M n))) (jnD (jL M n).length (pV M o (jD (jL M n))) (pA M (jD (jL M n))) (l - (i + 1)) (i + 1)) (jnD (jL M n).length (pV M o (jD (jL M n))) (pA M (jD (jL M n))) (l - i) i U) i U d ((jL M n).length - d)))
  | 0, d, h1, h2 => absurd h2 (Nat.not_lt_zero _)
  | f + 1, d, h1, h2 => by
    have hl := g.2.1
    have hm : (jL M n).length ≤ 12 := opl_len _ _ _ _
    have h2m : 2 ^ (jL M n).length ≤ 2 ^ 12 := Nat.pow_le_pow_right (by decide) hm
    rw [lX10_joins_251, show (JS M s y t (jL M n).length).1 51 52 = nI (jL M n).length from rfl]
    by_cases hd : d < (jL M n).length
    · have h2d : 2 ^ d < 2 ^ (jL M n).length := Nat.pow_lt_pow_right (by decide) hd
      have hor : U ||| 2 ^ d < 2 ^ (jL M n).length := Nat.or_lt_two_pow hU h2d
      have hs' : ∀ x, x < (jL M n).length → s x = nI (jD (jL M n) x) ∧ jD (jL M n) x < n := fun x hx => ⟨hs x hx, jD_lt hx⟩
      have hD := jnD_le (m := (jL M n).length) (vd := pV M o (jD (jL M n))) (ap := pA M (jD (jL M n))) (l - (i + 1)) (i + 1) (U ||| 2 ^ d)
      have hD2 := jnD_le (m := (jL M n).length) (vd := pV M o (jD (jL M n))) (ap := pA M (jD (jL M n))) (l - i) i U
      rw [if_pos (nI_lt hd (by omega)), if_pos (show (-1 : Int32) < 0 by decide), worth10 g h hm hs' hi hd, some_b, some_b, (shl12 (show d ≤ 12 by omega)).1, nI_or (by omega) (by omega), nI_1, nI_1, row12 (show i + 1 ≤ 8 by omega) (by omega), row12 (show i ≤ 8 by omega) (by omega), ck_t (inN (show (i + 1) * 4096 + (U ||| 2 ^ d) < 36864 by omega) (by omega)), ck_t (inN (show i * 4096 + U < 36864 by omega) (by omega)), ixN (show (i + 1) * 4096 + (U ||| 2 ^ d) < 2 ^ 31 by omega), ixN (show i * 4096 + U < 2 ^ 31 by omega), show (JS M s y t (jL M n).length).1 89 = y from rfl, hy (i + 1) (by omega) (by omega) _ hor, hy i (by omega) (by omega) U hU, show (jL M n).length - d = ((jL M n).length - (d + 1)) + 1 by omega, jnG]
      cases hb : U.testBit d with
      | true =>
        rw [if_neg (fun z => by rw [(bit12 (by omega) (by omega)).mp z] at hb; cases hb), Bool.not_true, Bool.false_and, Bool.false_and, if_neg (show ¬ false = true by decide)]
        exact pick251 g h hs hy hi hU F f (d + 1) (by omega) (by omega)
      | false =>
        rw [if_pos ((bit12 (by omega) (by omega)).mpr hb), Bool.not_false, Bool.true_and]
        cases hv : pV M o (jD (jL M n)) i d with
        | false =>
          rw [if_neg (show ¬ false = true by decide), if_neg (show ¬ (0 : Int32) < nI 0 by decide), Bool.false_and, if_neg (show ¬ false = true by decide)]
          exact pick251 g h hs hy hi hU F f (d + 1) (by omega) (by omega)
        | true =>
          have hap := pA_le g hi (jD_lt hd) hv
          rw [if_pos (show true = true from rfl), if_pos (ps (by omega) (by omega)), nI_add, Bool.true_and]
          by_cases c : 10000 - pA M (jD (jL M n)) i d + jnD (jL M n).length (pV M o (jD (jL M n))) (pA M (jD (jL M n))) (l - (i + 1)) (i + 1) (U ||| 2 ^ d) = jnD (jL M n).length (pV M o (jD (jL M n))) (pA M (jD (jL M n))) (l - i) i U
          · rw [if_pos (by rw [c]), if_pos (decide_eq_true c)]
            exact pick251s (by omega) _ f (by omega)
          · rw [if_neg (nI_inj (by omega) (by omega) c), if_neg (fun z => c (of_decide_eq_true z))]
            exact pick251 g h hs hy hi hU F f (d + 1) (by omega) (by omega)
    · rw [if_neg (nI_nlt (by omega) (by omega)), show (jL M n).length - d = 0 by omega]; rfl
theorem walk229 {M : Mem} {l n o : Nat} (g : L9 M l n o) (h : L10 M l n o) {s y : Nat → Int32} (hs : ∀ x, x < (jL M n).length → s x = nI (jD (jL M n) x)) (hy : Rows M l n o 0 y) : ∀ (k f i U : Nat) (t : Nat → Int32), i + k = l → k < f → U < 2 ^ (jL M n).length → ∃ t', lX10_joins_229 f (JS M s y t (jL M n).length) (nI U) (nI i) = some (y 0, JS M s y t' (jL M n).length) ∧ (∀ e, e < i → t' e = t e) ∧ ∀ e, e < k → t' (i + e) = tI (jD (jL M n)) (jnHs (jL M n).length (pV M o (jD (jL M n))) (pA M (jD (jL M n))) k i U e)
  | k, 0, i, U, t, h1, h2, h3 => absurd h2 (Nat.not_lt_zero _)
  | 0, f + 1, i, U, t, h1, h2, h3 => by
    have hl := g.2.1
    rw [lX10_joins_229, show (JS M s y t (jL M n).length).1 51 11 = nI l from h.1, if_neg (nI_nlt (by omega) (by omega))]
    exact ⟨t, rfl, fun e _ => rfl, fun e he => absurd he (Nat.not_lt_zero _)⟩
  | k + 1, f + 1, i, U, t, h1, h2, h3 => by
    have hl := g.2.1
    have hm : (jL M n).length ≤ 12 := opl_len _ _ _ _
    have h2m : 2 ^ (jL M n).length ≤ 2 ^ 12 := Nat.pow_le_pow_right (by decide) hm
    rw [lX10_joins_229, show (JS M s y t (jL M n).length).1 51 11 = nI l from h.1, if_pos (nI_lt (show i < l by omega) (by omega)), ck_t (inN (show i < 8 by omega) (by omega)), ixN (show i < 2 ^ 31 by omega), JS_90]
    rw [show lX10_joins_251 (lX10_joins_229 f) fu (JS M s y (upd t i (-9)) (jL M n).length) (nI U) (nI i) (-1) 0 = _ from pick251 g h hs hy (show i < l by omega) h3 (lX10_joins_229 f) fu 0 (by omega) (by rw [fu_v]; omega)]
    rw [show l - (i + 1) = k by omega, show l - i = k + 1 by omega, Nat.sub_zero]
    show ∃ t', jX10_joins_334 (lX10_joins_229 f) (JS M s y (upd t i (-9)) (jL M n).length) (nI U) (nI i) (cI (jnH (jL M n).length (pV M o (jD (jL M n))) (pA M (jD (jL M n))) k i U)) = _ ∧ _
    have hlt := (jnH_lt (vd := pV M o (jD (jL M n))) (ap := pA M (jD (jL M n))) hm k i U).2
    unfold jX10_joins_334
    cases hh : jnH (jL M n).length (pV M o (jD (jL M n))) (pA M (jD (jL M n))) k i U with
    | none =>
      rw [if_pos (show cI none < 0 by decide), nI_1]
      obtain ⟨t', q1, q2, q3⟩ := walk229 g h hs hy k f (i + 1) U (upd t i (-9)) (by omega) (by omega) h3
      refine ⟨t', q1, fun e he => ?_, fun e he => ?_⟩
      · rw [q2 e (by omega), upd_get, if_neg (by omega)]
      · cases e with
        | zero => rw [Nat.add_zero, q2 i (by omega), upd_get, if_pos rfl, jnHs, hh]; rfl
        | succ e =>
          rw [show i + (e + 1) = i + 1 + e by omega, q3 e (by omega), jnHs, hh]; rfl
    | some x =>
      have hx := hlt x hh
      have h2d : 2 ^ x < 2 ^ (jL M n).length := Nat.pow_lt_pow_right (by decide) hx
      have hor : U ||| 2 ^ x < 2 ^ (jL M n).length := Nat.or_lt_two_pow h3 h2d
      show ∃ t', (if nI x < 0 then _ else ck (inB (nI x) 12) (ck (inB (nI i) 8) (lX10_joins_229 f (upI (JS M s y (upd t i (-9)) (jL M n).length) 90 (ix (nI i)) ((JS M s y (upd t i (-9)) (jL M n).length).1 88 (ix (nI x)))) (nI U ||| 1 <<< (nI x &&& 31)) (nI i + 1)))) = _ ∧ _
      rw [if_neg (nng (by omega)), ck_t (inN (show x < 12 by omega) (by omega)), ck_t (inN (show i < 8 by omega) (by omega)), ixN (show i < 2 ^ 31 by omega), ixN (show x < 2 ^ 31 by omega), JS_90, show (JS M s y (upd t i (-9)) (jL M n).length).1 88 x = nI (jD (jL M n) x) from hs x hx, (shl12 (show x ≤ 12 by omega)).1, nI_or (by omega) (by omega), nI_1]
      obtain ⟨t', q1, q2, q3⟩ := walk229 g h hs hy k f (i + 1) (U ||| 2 ^ x) (upd (upd t i (-9)) i (nI (jD (jL M n) x))) (by omega) (by omega) hor
      refine ⟨t', q1, fun e he => ?_, fun e he => ?_⟩
      · rw [q2 e (by omega), upd_get, if_neg (by omega), upd_get, if_neg (by omega)]
      · cases e with
        | zero => rw [Nat.add_zero, q2 i (by omega), upd_get, if_pos rfl, jnHs, hh]; rfl
        | succ e =>
          rw [show i + (e + 1) = i + 1 + e by omega, q3 e (by omega), jnHs, hh]; rfl
theorem joins10 {M : Mem} {l n o : Nat} (g : L9 M l n o) (h : L10 M l n o) : ∃ s y t, xX10_joins M = some (nI (jnD (jL M n).length (pV M o (jD (jL M n))) (pA M (jD (jL M n))) l 0 0), JS M s y t (jL M n).length) ∧ ∀ e, e < l → t e = tI (jD (jL M n)) (jnHs (jL M n).length (pV M o (jD (jL M n))) (pA M (jD (jL M n))) l 0 0 e) := by
  have hl := g.2.1
  have hn := g.2.2.2.1
  have hm : (jL M n).length ≤ 12 := opl_len _ _ _ _
  have h2m : 2 ^ (jL M n).length ≤ 2 ^ 12 := Nat.pow_le_pow_right (by decide) hm
  unfold xX10_joins
  rw [JS_new]
  obtain ⟨s, q1, q2⟩ := coll10 g h (y := M.1 89) (t := M.1 90) fu 0 0 (M.1 88) (by omega) (by rw [fu_v]; omega) (by omega) (by omega) rfl (fun x hx => absurd hx (Nat.not_lt_zero _))
  rw [show lX10_joins_7 fu (JS M (M.1 88) (M.1 89) (M.1 90) 0) 0 = _ from q1]
  obtain ⟨y1, r1, r2⟩ := zero10 g h (s := s) (t := M.1 90) hm fu 0 (M.1 89) (Nat.zero_le _) (by rw [fu_v]; omega) (fun x hx => absurd hx (Nat.not_lt_zero _))
  rw [show lX10_joins_71 fu (JS M s (M.1 89) (M.1 90) (jL M n).length) (nI (2 ^ (jL M n).length)) 0 = _ from r1]
  obtain ⟨y2, u1, u2⟩ := fill104 g h q2 (t := M.1 90) fu l y1 (Nat.le_refl _) (by rw [fu_v]; omega) (fun e e1 e2 U hU => by
    have : e = l := by omega
    subst this
    rw [r2 U hU, Nat.sub_self]; rfl)
  rw [u1]
  obtain ⟨t, w1, w2, w3⟩ := walk229 g h q2 u2 l fu 0 0 (M.1 90) (by omega) (by rw [fu_v]; omega) (Nat.pow_pos (by decide))
  refine ⟨s, y2, t, ?_, fun e he => ?_⟩
  · rw [show lX10_joins_229 fu (JS M s y2 (M.1 90) (jL M n).length) 0 0 = _ from w1]
    have := u2 0 (Nat.le_refl _) (Nat.zero_le _) 0 (Nat.pow_pos (by decide))
    rw [show 0 * 4096 + 0 = 0 from rfl, Nat.sub_zero] at this
    rw [this]
  · have := w3 e he
    rw [Nat.zero_add] at this
    exact this
/-! the open one of a number -/
theorem open_some {M : Mem} {n : Nat} (h0 : M.1 8 0 = nI n) (hn : n ≤ 40) {d : Nat} (hd : d < (jL M n).length) (M1 : Mem) (hM : M1.1 = M.1) : ∀ (f e pos : Nat), e ≤ n → n - e < f → pos ≤ d → (jL M n).drop pos = opl (fun e => !decide (M.1 13 e = 0)) e (n - e) (12 - pos) → lX1_openOne_4 f M1 (nI d) (nI pos) (nI e) = some (nI (jD (jL M n) d))
  | 0, e, pos, h1, h2, h3, h5 => absurd h2 (Nat.not_lt_zero _)
  | f + 1, e, pos, h1, h2, h3, h5 => by
    have hm : (jL M n).length ≤ 12 := opl_len _ _ _ _
    rw [lX1_openOne_4, hM, h0]
    by_cases he : e < n
    · rw [if_pos (nI_lt he (by omega)), ck_t (inN (show e < 40 by omega) (by omega)), ixN (show e < 2 ^ 31 by omega), nI_1, nI_1]
      rw [show n - e = (n - (e + 1)) + 1 by omega, opl, if_neg (by omega)] at h5
      by_cases ho : M.1 13 e = 0
      · rw [if_pos ho]
        rw [decide_eq_true ho, if_neg (by decide)] at h5
        exact open_some h0 hn hd M1 hM f (e + 1) pos (by omega) (by omega) h3 h5
      · rw [if_neg ho]
        rw [decide_eq_false ho, if_pos (by decide), show 12 - pos - 1 = 12 - (pos + 1) by omega] at h5
        obtain ⟨d1, d2, d3⟩ := drop_cons h5
        by_cases q : pos = d
        · subst q
          rw [if_pos rfl, d2]
        · rw [if_neg (nI_inj (by omega) (by omega) q)]
          exact open_some h0 hn hd M1 hM f (e + 1) (pos + 1) (by omega) (by omega) (by omega) d1
    · rw [show n - e = 0 by omega, opl] at h5
      have := List.drop_eq_nil_iff.mp h5
      omega
theorem open_none {M1 : Mem} {n : Nat} (h0 : M1.1 8 0 = nI n) (hn : n ≤ 40) : ∀ (f e c : Nat), e ≤ n → n - e < f → c ≤ e → lX1_openOne_4 f M1 (-9) (nI c) (nI e) = some (-9)
  | 0, e, c, h1, h2, h3 => absurd h2 (Nat.not_lt_zero _)
  | f + 1, e, c, h1, h2, h3 => by
    rw [lX1_openOne_4, h0]
    by_cases he : e < n
    · rw [if_pos (nI_lt he (by omega)), ck_t (inN (show e < 40 by omega) (by omega)), nI_1, nI_1, if_neg (nI_ne9 (show c < 2 ^ 31 by omega)), open_none h0 hn f (e + 1) c (by omega) (by omega) (by omega), open_none h0 hn f (e + 1) (c + 1) (by omega) (by omega) (by omega), ite_self]
    · rw [if_neg (nI_nlt (by omega) (by omega))]
/-! both together -/
theorem join_of {M : Mem} (hI : Inv M) : ∃ l n o j y : Nat, L9 M l n o ∧ L10 M l n o ∧ j ≤ l ∧ y ≤ 200 * j ∧ ∃ p c s yy t, xX0_bestJoining M (nI o) = some (lN ((2000 * (l - j) + y) * 815730721 + jnDg (jL M n).length (pV M o (jD (jL M n))) (pA M (jD (jL M n))) l 0 0), SL M p c) ∧ xX10_joins (SL M p c) = some (nI (10000 * j - y), JS (SL M p c) s yy t (jL M n).length) ∧ ∀ e, e < l → t e = tI (jD (jL M n)) (jnHs (jL M n).length (pV M o (jD (jL M n))) (pA M (jD (jL M n))) l 0 0 e) := by
  obtain ⟨d, n, k, q, t, l, j, g1, g2, g3, g4, g5, g6, g7, g8, g9, g10, g11, g12, g13, g14, g15⟩ := hI
  obtain ⟨o, ho, eo⟩ := rg_of (x := M.1 51 15) (b := 200) g2.2.2
  have hl := g14.1.2.2
  have k9 : L9 M l n o := ⟨g14.1.1, g14.1.2.2, g5.1.1, g5.1.2.2, by rw [g2.1.2.2.1, eo], ho, fun i hi => by rw [g14.2.1.2.1]; exact g14.2.2 i hi, fun e he => by rw [g5.2.2.2.1.2.1]; exact (g5.2.2.2.2 e he).2.1⟩
  have k10 : L10 M l n o := ⟨g14.1.2.1, g5.1.2.1, eo, ⟨g14.2.1.1.symm, g14.2.1.2.1.symm, g14.2.1.2.2.symm⟩, ⟨g5.2.2.2.1.1.symm, g5.2.2.2.1.2.1.symm, g5.2.2.2.1.2.2.1.symm⟩, g5.2.2.2.1.2.2.2.2.1.symm⟩
  have hm : (jL M n).length ≤ 12 := opl_len _ _ _ _
  obtain ⟨p, c, b⟩ := best9j k9
  have w := joins10 (M := SL M p c) (l := l) (n := n) (o := o) k9 k10
  rw [show jL (SL M p c) n = jL M n from rfl, show pV (SL M p c) o = pV M o from rfl, show pA (SL M p c) = pA M from rfl] at w
  obtain ⟨s, yy, tt, w1, w2⟩ := w
  obtain ⟨jj, y, r1, r2, r3, r4, r5⟩ := jn_keyR (l := l) (m := (jL M n).length) (vd := pV M o (jD (jL M n))) (ap := pA M (jD (jL M n))) hm (fun i x hi hx hv => pA_le k9 hi (jD_lt hx) hv) l 0 0 (by omega) (by omega)
  refine ⟨l, n, o, jj, y, k9, k10, r1, r2, p, c, s, yy, tt, by rw [b, r4], ?_, w2⟩
  rw [w1, show jnD (jL M n).length (pV M o (jD (jL M n))) (pA M (jD (jL M n))) l 0 0 = 10000 * jj - y by omega]
theorem jnHs_lt {m : Nat} {vd : Nat → Nat → Bool} {ap : Nat → Nat → Nat} (hm : m ≤ 12) : ∀ (k i U t d : Nat), jnHs m vd ap k i U t = some d → d < m
  | 0, i, U, t, d, h => by cases h
  | k + 1, i, U, 0, d, h => (jnH_lt hm k i U).2 d h
  | k + 1, i, U, t + 1, d, h => jnHs_lt hm k (i + 1) _ t d h
set_option maxHeartbeats 4000000 in
theorem op_join {M : Mem} (hI : Inv M) (a : Int32) : Eqv (xX9_join M a) (fun M1 => xX10_join M1 a) := by
  obtain ⟨d, n, k, q, t, l, j, g1, g2, g3, g4, g5, g6, g7, g8, g9, g10, g11, g12, g13, g14, g15⟩ := id hI
  unfold xX9_join xX10_join
  simp only [b_isDay, b_isKind, b_isMile, b_isDefect, b_isIn, b_wrong, b_isMile10, b_isDefect10, r9_1, r9_2, r9_3, r9_4, r9_6, r10_1, r10_2, r10_3, r10_4, r10_6, t9_1, t9_2, t9_3, t9_4, t9_6, t10_1, t10_2, t10_3, t10_4, t10_6, some_b, i10, i00, im1, im2, im3, im4, im6, if_true, if_false, n_lt2 a, ite_not]
  refine Eqv_ite (fun h1 => ?_) (fun h1 => ?_)
  · refine Eqv_some ?_
    simp +decide only [h1, if_true, if_false, ite_not, not_true_eq_false, not_false_eq_true, upI_get, upd_get, n_lt2 a, ite_not]
    exact Fin_some (Inv_ref hI 2)
  refine Eqv_ite (fun h2 => ?_) (fun h2 => ?_)
  · refine Eqv_some ?_
    simp +decide only [h1, h2, if_true, if_false, ite_not, not_true_eq_false, not_false_eq_true, upI_get, upd_get, n_lt2 a, ite_not]
    exact Fin_some (Inv_ref hI 2)
  obtain ⟨l', n', o, jj, y, k9, k10, hj, hy, p, c, s, yy, t', b1, b2, b3⟩ := join_of hI
  have hl' := k9.2.1
  have hm : (jL M n').length ≤ 12 := opl_len _ _ _ _
  have hdg := jnDg_lt (m := (jL M n').length) (vd := pV M o (jD (jL M n'))) (ap := pA M (jD (jL M n'))) hm l' 0 0 (by omega)
  rw [show 13 ^ (8 - 0) = 815730721 from rfl] at hdg
  rw [k9.2.2.2.2.1, b1, some_b]
  unfold xX0_joinedIn xX0_yardsIn
  rcases bit_of h1 h2 with rfl | rfl
  · rw [if_pos rfl, some_b, show (SL M p c).1 35 0 = nI l' from k9.1, show (1631461442000 : Int64) = lN 1631461442000 from rfl, pk_lDiv (by omega) (by decide) (by decide), lN_i, show ((2000 * (l' - jj) + y) * 815730721 + jnDg (jL M n').length (pV M o (jD (jL M n'))) (pA M (jD (jL M n'))) l' 0 0) / 1631461442000 = l' - jj by omega, pk_sub (by omega), show l' - (l' - jj) = jj by omega]
    refine Eqv_some ?_
    simp +decide only [h1, h2, if_true, if_false, ite_not, not_true_eq_false, not_false_eq_true, upI_get, upd_get]
    rw [b2, some_b]
    refine Fin_eq ?_ (JS_inv (SL_inv hI))
    rw [show (9999 : Int32) = nI 9999 from rfl, show (10000 : Int32) = nI 10000 from rfl, nI_add, pk_div (by omega) (by decide) (by decide), show (10000 * jj - y + 9999) / 10000 = jj by omega]
  · rw [if_neg (by decide), some_b, show (1631461442000 : Int64) = lN 1631461442000 from rfl, pk_lRem (by omega) (by decide) (by decide), show (815730721 : Int64) = lN 815730721 from rfl, pk_lDiv (by omega) (by decide) (by decide), lN_i, show ((2000 * (l' - jj) + y) * 815730721 + jnDg (jL M n').length (pV M o (jD (jL M n'))) (pA M (jD (jL M n'))) l' 0 0) % 1631461442000 / 815730721 = y by omega]
    refine Eqv_some ?_
    simp +decide only [h1, h2, if_true, if_false, ite_not, not_true_eq_false, not_false_eq_true, upI_get, upd_get]
    rw [b2, some_b]
    refine Fin_eq ?_ (JS_inv (SL_inv hI))
    rw [show (9999 : Int32) = nI 9999 from rfl, show (10000 : Int32) = nI 10000 from rfl, nI_add, pk_div (by omega) (by decide) (by decide), show (10000 * jj - y + 9999) / 10000 = jj by omega, pk_mul, pk_sub (by omega), show 10000 * jj - (10000 * jj - y) = y by omega]
set_option maxHeartbeats 4000000 in
theorem op_joined {M : Mem} (hI : Inv M) (a : Int32) : Eqv (xX9_joined M a) (fun M1 => xX10_joined M1 a) := by
  obtain ⟨d, n, k, q, t, l, j, g1, g2, g3, g4, g5, g6, g7, g8, g9, g10, g11, g12, g13, g14, g15⟩ := id hI
  unfold xX9_joined xX10_joined
  simp only [b_isDay, b_isKind, b_isMile, b_isDefect, b_isIn, b_wrong, b_isMile10, b_isDefect10, r9_1, r9_2, r9_3, r9_4, r9_6, r10_1, r10_2, r10_3, r10_4, r10_6, t9_1, t9_2, t9_3, t9_4, t9_6, t10_1, t10_2, t10_3, t10_4, t10_6, some_b, i10, i00, im1, im2, im3, im4, im6, if_true, if_false, g14.1.1, g14.1.2.1]
  refine Eqv_ite (fun h1 => ?_) (fun h1 => ?_)
  · refine Eqv_some ?_
    simp +decide only [h1, if_true, if_false, ite_not, not_true_eq_false, not_false_eq_true, upI_get, upd_get, g14.1.1, g14.1.2.1]
    exact Fin_some (Inv_ref hI 1)
  refine Eqv_itn (fun h2 => ?_) (fun h2 => ?_)
  · refine Eqv_some ?_
    simp +decide only [h1, h2, if_true, if_false, ite_not, not_true_eq_false, not_false_eq_true, upI_get, upd_get, g14.1.1, g14.1.2.1]
    exact Fin_some (Inv_ref hI 1)
  obtain ⟨l', n', o, jj, y, k9, k10, hj, hy, p, c, s, yy, t', b1, b2, b3⟩ := join_of hI
  have hl' := k9.2.1
  have hm : (jL M n').length ≤ 12 := opl_len _ _ _ _
  have hdg := jnDg_lt (m := (jL M n').length) (vd := pV M o (jD (jL M n'))) (ap := pA M (jD (jL M n'))) hm l' 0 0 (by omega)
  rw [show 13 ^ (8 - 0) = 815730721 from rfl] at hdg
  rw [k9.2.2.2.2.1, b1, some_b]
  have hll : l = l' := (nI_eq (by have := g14.1.2.2; omega) (by omega)).mp (g14.1.1.symm.trans k9.1)
  subst hll
  obtain ⟨i, hi, rfl⟩ := lt_nI (by omega) h1 h2
  have hib : inB (nI i) 8 = true := inN (by omega) (by omega)
  have hix : ix (nI i) = i := ixN (by omega)
  have hT := jnT_pos i
  have hTl : jnTn i ≤ 62748517 := by unfold jnTn; exact Nat.le_trans (Nat.pow_le_pow_right (by decide) (show 7 - i ≤ 7 by omega)) (by decide)
  have hdig := jn_dig (m := (jL M n').length) (vd := pV M o (jD (jL M n'))) (ap := pA M (jD (jL M n'))) hm l 0 0 i (by omega) hi
  rw [Nat.zero_add] at hdig
  have hbt := b3 i hi
  unfold xX0_choiceIn
  rw [ck_t hib, hix, tabC_eq (show i < 8 by omega), ck_t (by rw [Bool.not_eq_true']; exact decide_eq_false (fun z => by have := (pk_lEQ (b := 0) (by omega) (by decide)).mp z; omega)), show (815730721 : Int64) = lN 815730721 from rfl, pk_lRem (by omega) (by decide) (by decide), show ((2000 * (l - jj) + y) * 815730721 + jnDg (jL M n').length (pV M o (jD (jL M n'))) (pA M (jD (jL M n'))) l 0 0) % 815730721 = jnDg (jL M n').length (pV M o (jD (jL M n'))) (pA M (jD (jL M n'))) l 0 0 by omega, pk_lDiv (by omega) hT (by omega), show (13 : Int64) = lN 13 from rfl, pk_lRem (Nat.lt_of_le_of_lt (Nat.div_le_self _ _) (by omega)) (by decide) (by decide), hdig, lN_i]
  unfold xX1_openOne
  cases hh : jnHs (jL M n').length (pV M o (jD (jL M n'))) (pA M (jD (jL M n'))) l 0 0 i with
  | none =>
    rw [if_neg (show ¬ nI (jnK none) < 12 by decide), some_b, show lX1_openOne_4 fu (SL M p c) (-9) 0 0 = _ from open_none (M1 := SL M p c) k9.2.2.1 k9.2.2.2.1 fu 0 0 (by omega) (by rw [fu_v]; have := k9.2.2.2.1; omega) (by omega), some_b]
    refine Eqv_some ?_
    simp +decide only [h1, h2, if_true, if_false, ite_not, not_true_eq_false, not_false_eq_true, upI_get, upd_get, g14.1.1, g14.1.2.1]
    rw [b2, some_b, ck_t hib, show (SL M p c).1 51 11 = nI l from k10.1, if_pos h2]
    refine Fin_eq ?_ (JS_inv (SL_inv hI))
    show t' i = -9
    rw [hbt, hh]; rfl
  | some d =>
    have hd := jnHs_lt hm l 0 0 i d hh
    rw [if_pos (show nI (jnK (some d)) < 12 from nI_lt (b := 12) (show d < 12 by omega) (by omega)), some_b, show lX1_openOne_4 fu (SL M p c) (nI (jnK (some d))) 0 0 = _ from open_some (M := M) k9.2.2.1 k9.2.2.2.1 hd (SL M p c) rfl fu 0 0 (by omega) (by rw [fu_v]; have := k9.2.2.2.1; omega) (by omega) rfl, some_b]
    refine Eqv_some ?_
    simp +decide only [h1, h2, if_true, if_false, ite_not, not_true_eq_false, not_false_eq_true, upI_get, upd_get, g14.1.1, g14.1.2.1]
    rw [b2, some_b, ck_t hib, show (SL M p c).1 51 11 = nI l from k10.1, if_pos h2]
    refine Fin_eq ?_ (JS_inv (SL_inv hI))
    show t' i = nI (jD (jL M n') d)
    rw [hbt, hh]; rfl
