/-! the model joins lines to defects -/
def JS (M : Mem) (s y t : Nat → Int32) (m : Nat) : Mem := sR (sR (sR (sR M 51 (upd (M.1 51) 52 (nI m))) 88 s) 89 y) 90 t
theorem JS_inv {M : Mem} {s y t : Nat → Int32} {m : Nat} (h : Inv M) : Inv (JS M s y t m) := h
theorem JS_90 (M : Mem) (s y t : Nat → Int32) (m i : Nat) (v : Int32) : upI (JS M s y t m) 90 i v = JS M s y (upd t i v) m := by
  rw [upI_sR]
  show sR (JS M s y t m) 90 (upd t i v) = _
  unfold JS
  rw [sR_sR]
theorem JS_89 (M : Mem) (s y t : Nat → Int32) (m i : Nat) (v : Int32) : upI (JS M s y t m) 89 i v = JS M s (upd y i v) t m := by
  rw [upI_sR]
  show sR (JS M s y t m) 89 (upd y i v) = _
  unfold JS
  rw [sR_comm _ _ _ (show (90 : Nat) ≠ 89 by decide), sR_sR]
theorem JS_88 (M : Mem) (s y t : Nat → Int32) (m i : Nat) (v : Int32) : upI (JS M s y t m) 88 i v = JS M (upd s i v) y t m := by
  rw [upI_sR]
  show sR (JS M s y t m) 88 (upd s i v) = _
  unfold JS
  rw [sR_comm _ _ _ (show (90 : Nat) ≠ 88 by decide), sR_comm _ _ _ (show (89 : Nat) ≠ 88 by decide), sR_sR]
theorem JS_51 (M : Mem) (s y t : Nat → Int32) (m m' : Nat) : upI (JS M s y t m) 51 52 (nI m') = JS M s y t m' := by
  rw [upI_sR]
  show sR (JS M s y t m) 51 (upd (upd (M.1 51) 52 (nI m)) 52 (nI m')) = _
  unfold JS
  rw [sR_comm _ _ _ (show (90 : Nat) ≠ 51 by decide), sR_comm _ _ _ (show (89 : Nat) ≠ 51 by decide), sR_comm _ _ _ (show (88 : Nat) ≠ 51 by decide), sR_sR, upd_upd]
theorem JS_new (M : Mem) : upI M 51 52 0 = JS M (M.1 88) (M.1 89) (M.1 90) 0 := by
  unfold JS
  rw [upI_sR]
  rw [show sR (sR M 51 (upd (M.1 51) 52 (nI 0))) 88 (M.1 88) = sR M 51 (upd (M.1 51) 52 (nI 0)) from sR_self (sR M 51 (upd (M.1 51) 52 (nI 0))) 88]
  rw [show sR (sR M 51 (upd (M.1 51) 52 (nI 0))) 89 (M.1 89) = sR M 51 (upd (M.1 51) 52 (nI 0)) from sR_self (sR M 51 (upd (M.1 51) 52 (nI 0))) 89]
  rw [show sR (sR M 51 (upd (M.1 51) 52 (nI 0))) 90 (M.1 90) = sR M 51 (upd (M.1 51) 52 (nI 0)) from sR_self (sR M 51 (upd (M.1 51) 52 (nI 0))) 90]
  rfl
theorem shl12 {j : Nat} (hj : j ≤ 12) : (1 : Int32) <<< (nI j &&& 31) = nI (2 ^ j) ∧ ((nI j &&& 31).toBitVec.smod 32).toNat = j := by
  match j, hj with
  | 0, _ => exact ⟨rfl, rfl⟩
  | 1, _ => exact ⟨rfl, rfl⟩
  | 2, _ => exact ⟨rfl, rfl⟩
  | 3, _ => exact ⟨rfl, rfl⟩
  | 4, _ => exact ⟨rfl, rfl⟩
  | 5, _ => exact ⟨rfl, rfl⟩
  | 6, _ => exact ⟨rfl, rfl⟩
  | 7, _ => exact ⟨rfl, rfl⟩
  | 8, _ => exact ⟨rfl, rfl⟩
  | 9, _ => exact ⟨rfl, rfl⟩
  | 10, _ => exact ⟨rfl, rfl⟩
  | 11, _ => exact ⟨rfl, rfl⟩
  | 12, _ => exact ⟨rfl, rfl⟩
theorem bit12 {U d : Nat} (hU : U < 4096) (hd : d < 12) : ((nI U >>> (nI d &&& 31)) &&& 1 = 0) ↔ U.testBit d = false := by
  rw [pk_shrN (by omega) _ d (shl12 (by omega)).2, pk_andN (Nat.lt_of_le_of_lt (Nat.div_le_self _ _) (by omega)) 1 rfl]
  have h2 : U / 2 ^ d % 2 ^ 1 < 2 := Nat.mod_lt _ (by decide)
  have e : U.testBit d = decide (U / 2 ^ d % 2 = 1) := Nat.testBit_eq_decide_div_mod_eq
  rw [e, decide_eq_false_iff_not]
  constructor
  · intro h h1
    rw [show (2 : Nat) ^ 1 = 2 from rfl, h1] at h
    exact absurd h (by decide)
  · intro h
    rw [show (2 : Nat) ^ 1 = 2 from rfl] at h2 ⊢
    rw [show U / 2 ^ d % 2 = 0 by omega]; rfl
theorem row12 {i U : Nat} (hi : i ≤ 8) (hU : U < 4096) : (nI i <<< (12 &&& 31)) + nI U = nI (i * 4096 + U) := by
  rw [show nI i <<< (12 &&& 31) = nI (i * 2 ^ 12) from pk_shlN _ 12 rfl (by omega), nI_add]
def L10 (M : Mem) (l n o : Nat) : Prop := M.1 51 11 = nI l ∧ M.1 51 5 = nI n ∧ M.1 51 15 = nI o ∧ (M.1 81 = M.1 36 ∧ M.1 82 = M.1 37 ∧ M.1 83 = M.1 38) ∧ (M.1 56 = M.1 9 ∧ M.1 57 = M.1 10 ∧ M.1 58 = M.1 11) ∧ M.1 63 = M.1 13
theorem worth10 {M : Mem} {l n o : Nat} (g : L9 M l n o) (h : L10 M l n o) {s y t : Nat → Int32} {m : Nat} (hm : m ≤ 12) {D : Nat → Nat} (hs : ∀ x, x < m → s x = nI (D x) ∧ D x < n) {i d : Nat} (hi : i < l) (hd : d < m) : xX10_worth (JS M s y t m) (nI i) (nI d) = some (nI (if pV M o D i d then 10000 - pA M D i d else 0)) := by
  obtain ⟨e1, e2⟩ := hs d hd
  obtain ⟨a1, a2⟩ := ab_eq (g.2.2.2.2.2.2.1 i hi) (g.2.2.2.2.2.2.2 (D d) e2)
  have hl := g.2.1
  have hn := g.2.2.2.1
  unfold xX10_worth
  rw [ck_t (inN (show d < 12 by omega) (by omega)), ck_t (inN (show i < 8 by omega) (by omega)), ixN (show d < 2 ^ 31 by omega), ixN (show i < 2 ^ 31 by omega), show (JS M s y t m).1 88 d = nI (D d) from e1, ck_t (inN (show D d < 40 by omega) (by omega)), ixN (show D d < 2 ^ 31 by omega), show (JS M s y t m).1 81 = M.1 36 from h.2.2.2.1.1, show (JS M s y t m).1 82 = M.1 37 from h.2.2.2.1.2.1, show (JS M s y t m).1 83 = M.1 38 from h.2.2.2.1.2.2, show (JS M s y t m).1 56 = M.1 9 from h.2.2.2.2.1.1, show (JS M s y t m).1 57 = M.1 10 from h.2.2.2.2.1.2.1, show (JS M s y t m).1 58 = M.1 11 from h.2.2.2.2.1.2.2, show (JS M s y t m).1 51 15 = nI o from h.2.2.1]
  have a1' : abI (M.1 37 i - M.1 10 (D d)) = nI (pA M D i d) := a1
  have a2' : pA M D i d ≤ 1759 := a2
  unfold pV
  rw [a1']
  by_cases c1 : M.1 36 i = M.1 9 (D d)
  · by_cases c2 : M.1 38 i = M.1 11 (D d)
    · by_cases c3 : nI o < nI (pA M D i d)
      · rw [if_pos c1, if_pos c2, if_pos c3, decide_eq_true c3, Bool.not_true, Bool.and_false]; rfl
      · rw [if_pos c1, if_pos c2, if_neg c3, decide_eq_false c3, decide_eq_true c1, decide_eq_true c2, show (10000 : Int32) - nI (pA M D i d) = nI (10000 - pA M D i d) from pk_sub (a := 10000) (by omega)]; rfl
    · rw [if_pos c1, if_neg c2, decide_eq_false c2, Bool.and_false, Bool.false_and]; rfl
  · rw [if_neg c1, decide_eq_false c1, Bool.false_and, Bool.false_and]; rfl
theorem coll10 {M : Mem} {l n o : Nat} (g : L9 M l n o) (h : L10 M l n o) {y t : Nat → Int32} : ∀ (f e pos : Nat) (s : Nat → Int32), e ≤ n → n - e < f → pos ≤ 12 → pos ≤ (jL M n).length → (jL M n).drop pos = opl (fun e => !decide (M.1 13 e = 0)) e (n - e) (12 - pos) → (∀ x, x < pos → s x = nI (jD (jL M n) x)) → ∃ s', lX10_joins_7 f (JS M s y t pos) (nI e) = lX10_joins_71 fu (JS M s' y t (jL M n).length) (nI (2 ^ (jL M n).length)) 0 ∧ ∀ x, x < (jL M n).length → s' x = nI (jD (jL M n) x)
  | 0, e, pos, s, h1, h2, h3, h4, h5, h6 => absurd h2 (Nat.not_lt_zero _)
  | f + 1, e, pos, s, h1, h2, h3, h4, h5, h6 => by
    have hn := g.2.2.2.1
    rw [lX10_joins_7, show (JS M s y t pos).1 51 5 = nI n from h.2.1, show (JS M s y t pos).1 51 52 = nI pos from rfl, (shl12 h3).1]
    by_cases he : e < n
    · rw [if_pos (nI_lt he (by omega))]
      rw [show n - e = (n - (e + 1)) + 1 by omega, opl] at h5
      by_cases hp : pos < 12
      · rw [if_pos (show nI pos < (12 : Int32) from nI_lt (b := 12) hp (by omega)), ck_t (inN (show e < 40 by omega) (by omega)), ck_t (inN hp (by omega)), ixN (show e < 2 ^ 31 by omega), ixN (show pos < 2 ^ 31 by omega), show (JS M s y t pos).1 63 = M.1 13 from h.2.2.2.2.2, nI_1, nI_1, JS_88, JS_51]
        rw [if_neg (by omega)] at h5
        by_cases ho : M.1 13 e = 0
        · rw [if_pos ho]
          rw [decide_eq_true ho, if_neg (by decide)] at h5
          exact coll10 g h f (e + 1) pos s (by omega) (by omega) h3 h4 h5 h6
        · rw [if_neg ho]
          rw [decide_eq_false ho, if_pos (by decide), show 12 - pos - 1 = 12 - (pos + 1) by omega] at h5
          obtain ⟨d1, d2, d3⟩ := drop_cons h5
          refine coll10 g h f (e + 1) (pos + 1) _ (by omega) (by omega) (by omega) (by omega) d1 (fun x hx => ?_)
          rw [upd_get]
          by_cases q : x = pos
          · rw [if_pos q, q, d2]
          · rw [if_neg q]; exact h6 x (by omega)
      · have e12 : pos = 12 := by omega
        subst e12
        rw [if_neg (show ¬ nI 12 < (12 : Int32) by decide)]
        rw [if_pos rfl] at h5
        have := List.drop_eq_nil_iff.mp h5
        have hq : (jL M n).length = 12 := by omega
        rw [hq]
        exact ⟨s, rfl, h6⟩
    · rw [if_neg (nI_nlt (by omega) (by omega))]
      rw [show n - e = 0 by omega, opl] at h5
      have := List.drop_eq_nil_iff.mp h5
      have hq : (jL M n).length = pos := by omega
      rw [hq]
      exact ⟨s, rfl, h6⟩
theorem zero10 {M : Mem} {l n o : Nat} (g : L9 M l n o) (h : L10 M l n o) {s t : Nat → Int32} {m : Nat} (hm : m ≤ 12) : ∀ (f U : Nat) (y : Nat → Int32), U ≤ 2 ^ m → 2 ^ m - U < f → (∀ x, x < U → y (l * 4096 + x) = 0) → ∃ y', lX10_joins_71 f (JS M s y t m) (nI (2 ^ m)) (nI U) = lX10_joins_104 fu (JS M s y' t m) (nI (2 ^ m)) (nI l + (-1)) ∧ ∀ x, x < 2 ^ m → y' (l * 4096 + x) = 0
  | 0, U, y, h1, h2, h3 => absurd h2 (Nat.not_lt_zero _)
  | f + 1, U, y, h1, h2, h3 => by
    have hl := g.2.1
    have h2m : 2 ^ m ≤ 2 ^ 12 := Nat.pow_le_pow_right (by decide) hm
    rw [lX10_joins_71, show (JS M s y t m).1 51 11 = nI l from h.1]
    by_cases hU : U < 2 ^ m
    · rw [if_pos (nI_lt hU (by omega)), row12 hl (by omega), ck_t (inN (show l * 4096 + U < 36864 by omega) (by omega)), ixN (by omega), JS_89, nI_1]
      refine zero10 g h hm f (U + 1) _ (by omega) (by omega) (fun x hx => ?_)
      rw [upd_get]
      by_cases q : x = U
      · rw [if_pos (by rw [q])]
      · rw [if_neg (by omega)]; exact h3 x (by omega)
    · rw [if_neg (nI_nlt (by omega) (by omega)), show nI l - 1 = nI l + (-1) from by grind]
      exact ⟨y, rfl, fun x hx => h3 x (by omega)⟩
theorem jnD_le {m : Nat} {vd : Nat → Nat → Bool} {ap : Nat → Nat → Nat} : ∀ (k i U : Nat), jnD m vd ap k i U ≤ 10000 * k
  | 0, i, U => Nat.zero_le _
  | k + 1, i, U => by
    rw [jnD]
    rcases jnX_at vd ap (jnD m vd ap k (i + 1)) i U m 0 (jnD m vd ap k (i + 1) U) with q | ⟨x, _, _, _, _, q⟩
    · rw [q]
      have := jnD_le (m := m) (vd := vd) (ap := ap) k (i + 1) U
      omega
    · rw [q]
      have := jnD_le (m := m) (vd := vd) (ap := ap) k (i + 1) (U ||| 2 ^ x)
      omega
/-- the rows from i on are filled -/
def Rows (M : Mem) (l n o i : Nat) (y : Nat → Int32) : Prop := ∀ e, i ≤ e → e ≤ l → ∀ U, U < 2 ^ (jL M n).length → y (e * 4096 + U) = nI (jnD (jL M n).length (pV M o (jD (jL M n))) (pA M (jD (jL M n))) (l - e) e U)
theorem fill133 {M : Mem} {l n o : Nat} (g : L9 M l n o) (h : L10 M l n o) {s y t : Nat → Int32} (hs : ∀ x, x < (jL M n).length → s x = nI (jD (jL M n) x)) {i U : Nat} (hi : i < l) (hU : U < 2 ^ (jL M n).length) (hy : Rows M l n o (i + 1) y) (F104 : Mem → Int32 → Int32 → Option (Int32 × Mem)) (F110 : Mem → Int32 → Int32 → Int32 → Option (Int32 × Mem)) (v1 : Int32) : ∀ (f d a : Nat), d ≤ (jL M n).length → (jL M n).length - d < f → a ≤ 90000 → lX10_joins_133 F104 F110 f (JS M s y t (jL M n).length) v1 (nI i) (nI U) (nI a) (nI d) = F110 (JS M s (upd y (i * 4096 + U) (nI (jnX (pV M o (jD (jL M n))) (pA M (jD (jL M n))) (jnD (jL M n).length (pV M o (jD (jL M n))) (pA M (jD (jL M n))) (l - (i + 1)) (i + 1)) i U d ((jL M n).length - d) a))) t (jL M n).length) v1 (nI i) (nI (U + 1))
  | 0, d, a, h1, h2, h3 => absurd h2 (Nat.not_lt_zero _)
  | f + 1, d, a, h1, h2, h3 => by
    have hl := g.2.1
    have hm : (jL M n).length ≤ 12 := opl_len _ _ _ _
    have h2m : 2 ^ (jL M n).length ≤ 2 ^ 12 := Nat.pow_le_pow_right (by decide) hm
    rw [lX10_joins_133, show (JS M s y t (jL M n).length).1 51 52 = nI (jL M n).length from rfl]
    by_cases hd : d < (jL M n).length
    · have h2d : 2 ^ d < 2 ^ (jL M n).length := Nat.pow_lt_pow_right (by decide) hd
      have hor : U ||| 2 ^ d < 2 ^ (jL M n).length := Nat.or_lt_two_pow hU (Nat.pow_lt_pow_right (by decide) hd)
      have hs' : ∀ x, x < (jL M n).length → s x = nI (jD (jL M n) x) ∧ jD (jL M n) x < n := fun x hx => ⟨hs x hx, jD_lt hx⟩
      rw [if_pos (nI_lt hd (by omega)), worth10 g h hm hs' hi hd, some_b, some_b, (shl12 (show d ≤ 12 by omega)).1, nI_or (by omega) (by omega), nI_1, nI_1, row12 (show i + 1 ≤ 8 by omega) (by omega), ck_t (inN (show (i + 1) * 4096 + (U ||| 2 ^ d) < 36864 by omega) (by omega)), ixN (by omega), show (JS M s y t (jL M n).length).1 89 = y from rfl, hy (i + 1) (by omega) (by omega) _ hor, show (jL M n).length - d = ((jL M n).length - (d + 1)) + 1 by omega, jnX]
      cases hb : U.testBit d with
      | true =>
        rw [if_neg (fun z => by rw [(bit12 (by omega) (by omega)).mp z] at hb; cases hb), Bool.not_true, Bool.false_and, if_neg (show ¬ false = true by decide)]
        exact fill133 g h hs hi hU hy F104 F110 v1 f (d + 1) a (by omega) (by omega) h3
      | false =>
        rw [if_pos ((bit12 (by omega) (by omega)).mpr hb), Bool.not_false, Bool.true_and]
        cases hv : pV M o (jD (jL M n)) i d with
        | false =>
          rw [if_neg (show ¬ false = true by decide), if_neg (show ¬ false = true by decide), if_neg (show ¬ (0 : Int32) < nI 0 by decide)]
          exact fill133 g h hs hi hU hy F104 F110 v1 f (d + 1) a (by omega) (by omega) h3
        | true =>
          have hap := pA_le g hi (jD_lt hd) hv
          have hD := jnD_le (m := (jL M n).length) (vd := pV M o (jD (jL M n))) (ap := pA M (jD (jL M n))) (l - (i + 1)) (i + 1) (U ||| 2 ^ d)
          rw [if_pos (show true = true from rfl), if_pos (show true = true from rfl), if_pos (ps (by omega) (by omega)), nI_add, mxN (by omega) (by omega)]
          exact fill133 g h hs hi hU hy F104 F110 v1 f (d + 1) _ (by omega) (by omega) (by omega)
    · rw [if_neg (nI_nlt (by omega) (by omega)), row12 (show i ≤ 8 by omega) (by omega), ck_t (inN (show i * 4096 + U < 36864 by omega) (by omega)), ixN (by omega), JS_89, nI_1, show (jL M n).length - d = 0 by omega]; rfl
theorem fill110 {M : Mem} {l n o : Nat} (g : L9 M l n o) (h : L10 M l n o) {s t : Nat → Int32} (hs : ∀ x, x < (jL M n).length → s x = nI (jD (jL M n) x)) {i : Nat} (hi : i < l) (F104 : Mem → Int32 → Int32 → Option (Int32 × Mem)) : ∀ (f U : Nat) (y : Nat → Int32), U ≤ 2 ^ (jL M n).length → 2 ^ (jL M n).length - U < f → Rows M l n o (i + 1) y → (∀ x, x < U → y (i * 4096 + x) = nI (jnD (jL M n).length (pV M o (jD (jL M n))) (pA M (jD (jL M n))) (l - i) i x)) → ∃ y', lX10_joins_110 F104 f (JS M s y t (jL M n).length) (nI (2 ^ (jL M n).length)) (nI i) (nI U) = F104 (JS M s y' t (jL M n).length) (nI (2 ^ (jL M n).length)) (nI i + (-1)) ∧ Rows M l n o i y'
  | 0, U, y, h1, h2, h3, h4 => absurd h2 (Nat.not_lt_zero _)
  | f + 1, U, y, h1, h2, h3, h4 => by
    have hl := g.2.1
    have hm : (jL M n).length ≤ 12 := opl_len _ _ _ _
    have h2m : 2 ^ (jL M n).length ≤ 2 ^ 12 := Nat.pow_le_pow_right (by decide) hm
    rw [lX10_joins_110]
    by_cases hU : U < 2 ^ (jL M n).length
    · have hD := jnD_le (m := (jL M n).length) (vd := pV M o (jD (jL M n))) (ap := pA M (jD (jL M n))) (l - (i + 1)) (i + 1) U
      rw [if_pos (nI_lt hU (by omega)), nI_1, row12 (show i + 1 ≤ 8 by omega) (by omega), ck_t (inN (show (i + 1) * 4096 + U < 36864 by omega) (by omega)), ixN (by omega), show (JS M s y t (jL M n).length).1 89 = y from rfl, h3 (i + 1) (by omega) (by omega) U hU]
      rw [show lX10_joins_133 F104 (lX10_joins_110 F104 f) fu (JS M s y t (jL M n).length) (nI (2 ^ (jL M n).length)) (nI i) (nI U) (nI (jnD (jL M n).length (pV M o (jD (jL M n))) (pA M (jD (jL M n))) (l - (i + 1)) (i + 1) U)) 0 = _ from fill133 g h hs hi hU h3 F104 (lX10_joins_110 F104 f) (nI (2 ^ (jL M n).length)) fu 0 _ (by omega) (by rw [fu_v]; omega) (by omega)]
      refine fill110 g h hs hi F104 f (U + 1) _ (by omega) (by omega) (fun e q1 q2 x hx => ?_) (fun x hx => ?_)
      · rw [upd_get, if_neg (by omega)]; exact h3 e q1 q2 x hx
      · rw [upd_get]
        by_cases q : x = U
        · rw [if_pos (by rw [q]), q, show l - i = (l - (i + 1)) + 1 by omega]; rfl
        · rw [if_neg (by omega)]; exact h4 x (by omega)
    · rw [if_neg (nI_nlt (by omega) (by omega))]
      refine ⟨y, rfl, fun e q1 q2 x hx => ?_⟩
      by_cases q : e = i
      · subst q; exact h4 x (by omega)
      · exact h3 e (by omega) q2 x hx
theorem fill104 {M : Mem} {l n o : Nat} (g : L9 M l n o) (h : L10 M l n o) {s t : Nat → Int32} (hs : ∀ x, x < (jL M n).length → s x = nI (jD (jL M n) x)) : ∀ (f i : Nat) (y : Nat → Int32), i ≤ l → i < f → Rows M l n o i y → ∃ y', lX10_joins_104 f (JS M s y t (jL M n).length) (nI (2 ^ (jL M n).length)) (nI i + (-1)) = lX10_joins_229 fu (JS M s y' t (jL M n).length) 0 0 ∧ Rows M l n o 0 y'
  | 0, i, y, h1, h2, h3 => absurd h2 (Nat.not_lt_zero _)
  | f + 1, 0, y, h1, h2, h3 => by
    rw [lX10_joins_104, if_pos (by decide)]
    exact ⟨y, rfl, h3⟩
  | f + 1, i + 1, y, h1, h2, h3 => by
    have hl := g.2.1
    have hm : (jL M n).length ≤ 12 := opl_len _ _ _ _
    have h2m : 2 ^ (jL M n).length ≤ 2 ^ 12 := Nat.pow_le_pow_right (by decide) hm
    rw [lX10_joins_104, pk_m1, if_neg (nng (by omega))]
    obtain ⟨y', q1, q2⟩ := fill110 g h hs (t := t) (show i < l by omega) (lX10_joins_104 f) fu 0 y (Nat.zero_le _) (by rw [fu_v]; omega) h3 (fun x hx => absurd hx (Nat.not_lt_zero _))
    rw [show lX10_joins_110 (lX10_joins_104 f) fu (JS M s y t (jL M n).length) (nI (2 ^ (jL M n).length)) (nI i) 0 = _ from q1]
    exact fill104 g h hs f i y' (by omega) (by omega) q2
