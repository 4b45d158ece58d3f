section HW
variable {α : Type} (f : Int32 → Option α)
theorem b_isRange (a b : Int32) : (xX9_isRange a b).bind f = if a < 0 then f 0 else if a < 20 then (if b < 0 then f 0 else if b < 20 then (if b < a then f 0 else f 1) else f 0) else f 0 := by
  unfold xX9_isRange
  simp only [b_isMile, i10, i00, if_true, if_false]
  repeat' split
  all_goals rfl
theorem b_refWalk (a b t : Int32) : (xX9_refusalOfWalk a b t).bind f = if a < 0 then f (-1) else if a < 20 then (if b < 0 then f (-1) else if b < 20 then (if b < a then f (-1) else if t < 0 then f (-4) else if 1439 < t then f (-6) else f 0) else f (-1)) else f (-1) := by
  unfold xX9_refusalOfWalk
  simp only [b_isRange, i10, i00, if_true, if_false, n_lt1440 t, ite_not]
  repeat' split
  all_goals rfl
theorem b_wrongWalk (a b t : Int32) : (xX10_wrongWalk a b t).bind f = if a < 0 then f (-1) else if a < 20 then (if b < 0 then f (-1) else if b < 20 then (if b < a then f (-1) else if t < 0 then f (-4) else if 1439 < t then f (-6) else f 0) else f (-1)) else f (-1) := by
  unfold xX10_wrongWalk
  simp only [b_isMile10, b_wrong, i10, i00, if_true, if_false]
  repeat' split
  all_goals rfl
end HW
/-! walked -/
def wf (x : Int32) : Nat → Nat → (Nat → Int32) → (Nat → Int32)
  | _, 0, f => f
  | i, k + 1, f => wf x (i + 1) k (upd f i x)
theorem wkX (M0 : Mem) (x : Int32) (hx : M0.1 0 0 = x) (v1 : Int32) {b : Nat} (hb : b < 20) : ∀ (m i : Nat) (f : Nat → Int32), i ≤ b + 1 → b + 1 - i < m → lX9_walked_16 m (sR M0 29 f) v1 (nI b) (nI i) = some (nI b - v1 + 1, sR M0 29 (wf x i (b + 1 - i) f))
  | 0, i, f, h1, h2 => absurd h2 (Nat.not_lt_zero _)
  | m + 1, i, f, h1, h2 => by
    rw [lX9_walked_16]
    by_cases h : i ≤ b
    · rw [if_neg (nI_nlt (by omega) (by omega)), ck_t (inN (show i < 20 by omega) (by omega)), ixN (by omega), nI_1, show (sR M0 29 f).1 0 0 = x from hx, upI_sR, sR_sR, show (sR M0 29 f).1 29 = f from rfl, wkX M0 x hx v1 hb m (i + 1) _ (by omega) (by omega), show b + 1 - i = (b + 1 - (i + 1)) + 1 by omega]; rfl
    · rw [if_pos (nI_lt (by omega) (by omega)), show b + 1 - i = 0 by omega]; rfl
theorem wkM (M0 : Mem) (x : Int32) (hx : M0.1 51 4 = x) (v1 : Int32) {b : Nat} (hb : b < 20) : ∀ (m i : Nat) (f : Nat → Int32), i ≤ b + 1 → b + 1 - i < m → lX10_walked_20 m (sR M0 73 f) v1 (nI b) (nI i) = some (nI b - v1 + 1, sR M0 73 (wf x i (b + 1 - i) f))
  | 0, i, f, h1, h2 => absurd h2 (Nat.not_lt_zero _)
  | m + 1, i, f, h1, h2 => by
    rw [lX10_walked_20]
    by_cases h : i ≤ b
    · rw [if_neg (nI_nlt (by omega) (by omega)), ck_t (inN (show i < 20 by omega) (by omega)), ixN (by omega), nI_1, show (sR M0 73 f).1 51 4 = x from hx, upI_sR, sR_sR, show (sR M0 73 f).1 73 = f from rfl, wkM M0 x hx v1 hb m (i + 1) _ (by omega) (by omega), show b + 1 - i = (b + 1 - (i + 1)) + 1 by omega]; rfl
    · rw [if_pos (nI_lt (by omega) (by omega)), show b + 1 - i = 0 by omega]; rfl
/-! walks: sums ahead, and sums anew -/
def aF (r : Nat → Int32) : Nat → Nat → (Nat → Int32) → (Nat → Int32)
  | _, 0, f => f
  | i, k + 1, f => aF r (i + 1) k (upd f (i + 1) (f i + r i))
theorem aF_lo (r : Nat → Int32) : ∀ (k i : Nat) (f : Nat → Int32) (e : Nat), e ≤ i → aF r i k f e = f e
  | 0, i, f, e, h => rfl
  | k + 1, i, f, e, h => by
    show aF r (i + 1) k (upd f (i + 1) (f i + r i)) e = f e
    rw [aF_lo r k (i + 1) _ e (by omega), pk_un (by omega)]
theorem aF_up (r : Nat → Int32) : ∀ (k i : Nat) (f : Nat → Int32) (e : Nat), i ≤ e → e < i + k → aF r i k f (e + 1) = aF r i k f e + r e
  | 0, i, f, e, h1, h2 => absurd h2 (by omega)
  | k + 1, i, f, e, h1, h2 => by
    show aF r (i + 1) k (upd f (i + 1) (f i + r i)) (e + 1) = aF r (i + 1) k (upd f (i + 1) (f i + r i)) e + r e
    by_cases c : e = i
    · subst c
      rw [aF_lo r k (e + 1) _ (e + 1) (by omega), aF_lo r k (e + 1) _ e (by omega), pk_us, pk_un (by omega)]
    · exact aF_up r k (i + 1) _ e (by omega) (by omega)
def sm (r : Nat → Int32) : Nat → Nat → Int32 → Int32
  | _, 0, a => a
  | i, k + 1, a => sm r (i + 1) k (a + r i)
theorem i_self (a x : Int32) : a + (x - x) = a := by grind
theorem i_shift (a x y r : Int32) : a + r + (y - (x + r)) = a + (y - x) := by grind
theorem i_zero (y : Int32) : 0 + y = y := by grind
theorem sm_F {r F : Nat → Int32} {N : Nat} (hF : ∀ e, e < N → F (e + 1) = F e + r e) : ∀ (k a : Nat) (acc : Int32), a + k ≤ N → sm r a k acc = acc + (F (a + k) - F a)
  | 0, a, acc, _ => (i_self acc (F a)).symm
  | k + 1, a, acc, h => by
    show sm r (a + 1) k (acc + r a) = _
    rw [sm_F hF k (a + 1) (acc + r a) (by omega), hF a (by omega), show a + 1 + k = a + (k + 1) by omega, i_shift]
def rk (M : Mem) (n : Nat) : Nat → Int32 := fun m => (M.1 51 4 - M.1 73 m) * (1 + cl (fun e => !decide (M.1 63 e = 0) && decide (M.1 56 e = nI m)) 0 n 0)
theorem rX {M : Mem} {d n k : Nat} (g3 : Gday M d) (g5 : Gdef M d n k) (g12 : Gwal M) (f : Nat → Int32) {m : Nat} (hm : m < 20) : xX9_riskOf (sR M 30 f) (nI m) = some (rk M n m) := by
  unfold xX9_riskOf
  rw [ck_t (inN hm (by omega)), cIn9 (sR M 30 f) (nI m) (n := n) g5.1.1 g5.1.2.2, some_b, ixN (by omega)]
  show some ((M.1 0 0 - M.1 29 m) * (1 + cl (fun e => !decide (M.1 13 e = 0) && decide (M.1 9 e = nI m)) 0 n 0)) = _
  rw [g3.1.1, show M.1 29 = M.1 73 from g12, g5.2.2.2.1.1, g5.2.2.2.1.2.2.2.2.1, ← g3.1.2.1]; rfl
theorem addUp {M : Mem} {d n k : Nat} (g3 : Gday M d) (g5 : Gdef M d n k) (g12 : Gwal M) : ∀ (m i : Nat) (f : Nat → Int32), i ≤ 20 → 20 - i < m → lX9_addUpRisks_2 m (sR M 30 f) (nI i) = some (sR M 30 (aF (rk M n) i (20 - i) f))
  | 0, i, f, h1, h2 => absurd h2 (Nat.not_lt_zero _)
  | m + 1, i, f, h1, h2 => by
    rw [lX9_addUpRisks_2]
    by_cases h : i < 20
    · rw [if_pos (lt20 h), ck_t (inN (show i < 21 by omega) (by omega)), rX g3 g5 g12 f h, some_b, nI_1, ck_t (inN (show i + 1 < 21 by omega) (by omega)), ixN (by omega), ixN (by omega), show (sR M 30 f).1 30 i = f i from rfl, upI_sR, sR_sR, show (sR M 30 f).1 30 = f from rfl, addUp g3 g5 g12 m (i + 1) _ (by omega) (by omega), show 20 - i = (20 - (i + 1)) + 1 by omega]; rfl
    · rw [if_neg (show ¬ nI i < (20 : Int32) from nI_nlt (b := 20) (by omega) (by omega)), show 20 - i = 0 by omega]; rfl
theorem rFrom (M : Mem) {n0 : Nat} (h0 : M.1 51 5 = nI n0) (hn : n0 ≤ 40) {a n : Nat} (han : a + n ≤ 20) : ∀ (m i : Nat) (acc : Int32), i ≤ a + n → a + n - i < m → lX10_riskFrom_5 m M (nI a) (nI n) acc (nI i) = some (sm (rk M n0) i (a + n - i) acc)
  | 0, i, acc, h1, h2 => absurd h2 (Nat.not_lt_zero _)
  | m + 1, i, acc, h1, h2 => by
    rw [lX10_riskFrom_5, nI_add]
    by_cases h : i < a + n
    · rw [if_pos (nI_lt h (by omega)), cIn10 M (show i < 20 by omega) h0 hn, some_b, nI_1, rFrom M h0 hn han m (i + 1) _ (by omega) (by omega), show a + n - i = (a + n - (i + 1)) + 1 by omega]; rfl
    · rw [if_neg (nI_nlt (by omega) (by omega)), show a + n - i = 0 by omega]; rfl
def wIn (R : Nat → Nat → Int32) (i : Nat) : Nat → Nat → Int32 × Int32 × Int32 → Int32 × Int32 × Int32
  | _, 0, s => s
  | j, k + 1, s => wIn R i (j + 1) k (if s.1 < R i j then (R i j, nI i, nI j) else s)
def wOut (R : Nat → Nat → Int32) (n : Nat) : Nat → Nat → Int32 × Int32 × Int32 → Int32 × Int32 × Int32
  | _, 0, s => s
  | i, k + 1, s => wOut R n (i + 1) k (wIn R i (i + n) (21 - n - (i + n)) s)
def wSel (w : Int32) (s : Int32 × Int32 × Int32) : Int32 := if w = 0 then s.1 else if w = 1 then s.2.1 else s.2.2
theorem gt20 {x : Nat} (h : 20 < x) (hx : x < 2 ^ 31) : (20 : Int32) < nI x := nI_lt (a := 20) h hx
theorem ngt20 {x : Nat} (h : x ≤ 20) : ¬ (20 : Int32) < nI x := nI_nlt (a := 20) h (by omega)
theorem inX {M1 : Mem} {R : Nat → Nat → Int32} {n : Nat} (hn1 : 1 ≤ n) (hn : n ≤ 10) (hR : ∀ i j, i + n ≤ 20 → j + n ≤ 20 → (M1.1 30 (i + n) - M1.1 30 i) + (M1.1 30 (j + n) - M1.1 30 j) = R i j) (F : Mem → Int32 → Int32 → Int32 → Int32 → Int32 → Int32 → Option (Int32 × Mem)) (w : Int32) {i : Nat} (hi : i + n ≤ 20) : ∀ (m j : Nat) (s : Int32 × Int32 × Int32), j ≤ 21 - n → 21 - n - j < m → lX9_walks_73 F m M1 (nI n) w s.1 s.2.1 s.2.2 (nI i) (nI j) = F M1 (nI n) w (wIn R i j (21 - n - j) s).1 (wIn R i j (21 - n - j) s).2.1 (wIn R i j (21 - n - j) s).2.2 (nI (i + 1))
  | 0, j, s, h1, h2 => absurd h2 (Nat.not_lt_zero _)
  | m + 1, j, s, h1, h2 => by
    rw [lX9_walks_73, nI_add, nI_1]
    by_cases h : j + n ≤ 20
    · have e1 : xX9_riskOfRange M1 (nI i) (nI n) = some (M1.1 30 (i + n) - M1.1 30 i) := by
        unfold xX9_riskOfRange
        rw [nI_add, ck_t (inN (show i + n < 21 by omega) (by omega)), ck_t (inN (show i < 21 by omega) (by omega)), ixN (by omega), ixN (by omega)]
      have e2 : xX9_riskOfRange M1 (nI j) (nI n) = some (M1.1 30 (j + n) - M1.1 30 j) := by
        unfold xX9_riskOfRange
        rw [nI_add, ck_t (inN (show j + n < 21 by omega) (by omega)), ck_t (inN (show j < 21 by omega) (by omega)), ixN (by omega), ixN (by omega)]
      rw [if_neg (ngt20 h), e1, some_b, e2, some_b, hR i j hi h, nI_1, show 21 - n - j = (21 - n - (j + 1)) + 1 by omega]
      show _ = F M1 (nI n) w (wIn R i (j + 1) (21 - n - (j + 1)) (if s.1 < R i j then (R i j, nI i, nI j) else s)).1 (wIn R i (j + 1) (21 - n - (j + 1)) (if s.1 < R i j then (R i j, nI i, nI j) else s)).2.1 (wIn R i (j + 1) (21 - n - (j + 1)) (if s.1 < R i j then (R i j, nI i, nI j) else s)).2.2 (nI (i + 1))
      rw [← inX hn1 hn hR F w hi m (j + 1) _ (by omega) (by omega)]
      by_cases c : s.1 < R i j
      · rw [if_pos c, if_pos c]
      · rw [if_neg c, if_neg c]
    · rw [if_pos (gt20 (by omega) (by omega)), show 21 - n - j = 0 by omega]; rfl
theorem inM {M1 : Mem} {R : Nat → Nat → Int32} {n : Nat} (hn1 : 1 ≤ n) (hn : n ≤ 10) {S : Nat → Int32} (hS : ∀ i, i + n ≤ 20 → xX10_riskFrom M1 (nI i) (nI n) = some (S i)) (hR : ∀ i j, i + n ≤ 20 → j + n ≤ 20 → S i + S j = R i j) (F : Mem → Int32 → Int32 → Int32 → Int32 → Int32 → Int32 → Option (Int32 × Mem)) (w : Int32) {i : Nat} (hi : i + n ≤ 20) : ∀ (m j : Nat) (s : Int32 × Int32 × Int32), j ≤ 21 - n → 21 - n - j < m → lX10_walks_60 F m M1 (nI n) w s.1 s.2.1 s.2.2 (nI i) (nI j) = F M1 (nI n) w (wIn R i j (21 - n - j) s).1 (wIn R i j (21 - n - j) s).2.1 (wIn R i j (21 - n - j) s).2.2 (nI (i + 1))
  | 0, j, s, h1, h2 => absurd h2 (Nat.not_lt_zero _)
  | m + 1, j, s, h1, h2 => by
    rw [lX10_walks_60, nI_add, nI_1]
    by_cases h : j + n ≤ 20
    · rw [if_neg (ngt20 h), hS i hi, some_b, hS j h, some_b, hR i j hi h, nI_1, show 21 - n - j = (21 - n - (j + 1)) + 1 by omega]
      show _ = F M1 (nI n) w (wIn R i (j + 1) (21 - n - (j + 1)) (if s.1 < R i j then (R i j, nI i, nI j) else s)).1 (wIn R i (j + 1) (21 - n - (j + 1)) (if s.1 < R i j then (R i j, nI i, nI j) else s)).2.1 (wIn R i (j + 1) (21 - n - (j + 1)) (if s.1 < R i j then (R i j, nI i, nI j) else s)).2.2 (nI (i + 1))
      rw [← inM hn1 hn hS hR F w hi m (j + 1) _ (by omega) (by omega)]
      by_cases c : s.1 < R i j
      · rw [if_pos c, if_pos c]
      · rw [if_neg c, if_neg c]
    · rw [if_pos (gt20 (by omega) (by omega)), show 21 - n - j = 0 by omega]; rfl
theorem outX {M1 : Mem} {R : Nat → Nat → Int32} {n : Nat} (hn1 : 1 ≤ n) (hn : n ≤ 10) (hR : ∀ i j, i + n ≤ 20 → j + n ≤ 20 → (M1.1 30 (i + n) - M1.1 30 i) + (M1.1 30 (j + n) - M1.1 30 j) = R i j) (w : Int32) : ∀ (m i : Nat) (s : Int32 × Int32 × Int32), i ≤ 21 - 2 * n → 21 - 2 * n - i < m → lX9_walks_56 m M1 (nI n) w s.1 s.2.1 s.2.2 (nI i) = some (wSel w (wOut R n i (21 - 2 * n - i) s), M1)
  | 0, i, s, h1, h2 => absurd h2 (Nat.not_lt_zero _)
  | m + 1, i, s, h1, h2 => by
    rw [lX9_walks_56, show (2 : Int32) = nI 2 from rfl, pk_mul, nI_add]
    by_cases h : i + 2 * n ≤ 20
    · rw [if_neg (ngt20 h), nI_add, inX hn1 hn hR (lX9_walks_56 m) w (show i + n ≤ 20 by omega) fu (i + n) s (by omega) (by rw [fu_v]; omega), outX hn1 hn hR w m (i + 1) _ (by omega) (by omega), show 21 - 2 * n - i = (21 - 2 * n - (i + 1)) + 1 by omega]; rfl
    · rw [if_pos (gt20 (by omega) (by omega)), show 21 - 2 * n - i = 0 by omega]
      show (if w = 0 then _ else if w = 1 then _ else _) = some (if w = 0 then _ else if w = 1 then _ else _, M1)
      repeat' split
      all_goals rfl
theorem outM {M1 : Mem} {R : Nat → Nat → Int32} {n : Nat} (hn1 : 1 ≤ n) (hn : n ≤ 10) {S : Nat → Int32} (hS : ∀ i, i + n ≤ 20 → xX10_riskFrom M1 (nI i) (nI n) = some (S i)) (hR : ∀ i j, i + n ≤ 20 → j + n ≤ 20 → S i + S j = R i j) (w : Int32) : ∀ (m i : Nat) (s : Int32 × Int32 × Int32), i ≤ 21 - 2 * n → 21 - 2 * n - i < m → lX10_walks_43 m M1 (nI n) w s.1 s.2.1 s.2.2 (nI i) = some (wSel w (wOut R n i (21 - 2 * n - i) s), M1)
  | 0, i, s, h1, h2 => absurd h2 (Nat.not_lt_zero _)
  | m + 1, i, s, h1, h2 => by
    rw [lX10_walks_43, show (2 : Int32) = nI 2 from rfl, pk_mul, nI_add]
    by_cases h : i + 2 * n ≤ 20
    · rw [if_neg (ngt20 h), nI_add, inM hn1 hn hS hR (lX10_walks_43 m) w (show i + n ≤ 20 by omega) fu (i + n) s (by omega) (by rw [fu_v]; omega), outM hn1 hn hS hR w m (i + 1) _ (by omega) (by omega), show 21 - 2 * n - i = (21 - 2 * n - (i + 1)) + 1 by omega]; rfl
    · rw [if_pos (gt20 (by omega) (by omega)), show 21 - 2 * n - i = 0 by omega]
      show (if w = 0 then _ else if w = 1 then _ else _) = some (if w = 0 then _ else if w = 1 then _ else _, M1)
      repeat' split
      all_goals rfl
set_option maxHeartbeats 4000000 in
theorem op_walked {M : Mem} (hI : Inv M) (a b : Int32) : Eqv (xX9_walked M a b) (fun M1 => xX10_walked M1 a b) := by
  obtain ⟨d, n, k, q, t, l, j, g1, g2, g3, g4, g5, g6, g7, g8, g9, g10, g11, g12, g13, g14, g15⟩ := id hI
  unfold xX9_walked xX10_walked
  simp only [b_isDay, b_isKind, b_isMile, b_isDefect, b_isIn, b_wrong, b_isMile10, b_isDefect10, r9_1, r9_2, r9_3, r9_4, r9_6, r10_1, r10_2, r10_3, r10_4, r10_6, t9_1, t9_2, t9_3, t9_4, t9_6, t10_1, t10_2, t10_3, t10_4, t10_6, some_b, i10, i00, im1, im2, im3, im4, im6, if_true, if_false, b_isRange, b_wrongWalk]
  refine Eqv_ite (fun h1 => ?_) (fun h1 => ?_)
  · refine Eqv_some ?_
    simp +decide only [h1, if_true, if_false, ite_not, not_true_eq_false, not_false_eq_true, upI_get, upd_get, b_isRange, b_wrongWalk]
    exact Fin_some (Inv_ref hI 1)
  refine Eqv_itn (fun h2 => ?_) (fun h2 => ?_)
  · refine Eqv_some ?_
    simp +decide only [h1, h2, if_true, if_false, ite_not, not_true_eq_false, not_false_eq_true, upI_get, upd_get, b_isRange, b_wrongWalk]
    exact Fin_some (Inv_ref hI 1)
  refine Eqv_ite (fun h3 => ?_) (fun h3 => ?_)
  · refine Eqv_some ?_
    simp +decide only [h1, h2, h3, if_true, if_false, ite_not, not_true_eq_false, not_false_eq_true, upI_get, upd_get, b_isRange, b_wrongWalk]
    exact Fin_some (Inv_ref hI 1)
  refine Eqv_itn (fun h4 => ?_) (fun h4 => ?_)
  · refine Eqv_some ?_
    simp +decide only [h1, h2, h3, h4, if_true, if_false, ite_not, not_true_eq_false, not_false_eq_true, upI_get, upd_get, b_isRange, b_wrongWalk]
    exact Fin_some (Inv_ref hI 1)
  refine Eqv_ite (fun h5 => ?_) (fun h5 => ?_)
  · refine Eqv_some ?_
    simp +decide only [h1, h2, h3, h4, h5, if_true, if_false, ite_not, not_true_eq_false, not_false_eq_true, upI_get, upd_get, b_isRange, b_wrongWalk]
    exact Fin_some (Inv_ref hI 1)
  obtain ⟨x, hx, rfl⟩ := ix_of (N := 20) (b := 20) rfl h1 h2
  obtain ⟨y, hy, rfl⟩ := ix_of (N := 20) (b := 20) rfl h3 h4
  have hxy : x ≤ y := by
    rcases Nat.lt_or_ge y x with z | z
    · exact absurd (nI_lt z (by omega)) h5
    · exact z
  have kX := wkX M (M.1 0 0) rfl (nI x) hy fu x (M.1 29) (by omega) (by rw [fu_v]; omega)
  rw [sR_self] at kX
  rw [kX]
  refine Eqv_some ?_
  simp +decide only [h1, h2, h3, h4, h5, if_true, if_false, ite_not, not_true_eq_false, not_false_eq_true, upI_get, upd_get, b_isRange, b_wrongWalk]
  have kM := wkM (sR M 29 (wf (M.1 0 0) x (y + 1 - x) (M.1 29))) (M.1 51 4) rfl (nI x) hy fu x (M.1 73) (by omega) (by rw [fu_v]; omega)
  rw [show sR (sR M 29 (wf (M.1 0 0) x (y + 1 - x) (M.1 29))) 73 (M.1 73) = sR M 29 (wf (M.1 0 0) x (y + 1 - x) (M.1 29)) from sR_self (sR M 29 (wf (M.1 0 0) x (y + 1 - x) (M.1 29))) 73] at kM
  rw [kM]
  refine Fin_some ⟨d, n, k, q, t, l, j, g1, g2, g3, g4, g5, g6, g7, g8, g9, g10, g11, ?_, g13, g14, g15⟩
  show wf (M.1 0 0) x (y + 1 - x) (M.1 29) = wf (M.1 51 4) x (y + 1 - x) (M.1 73)
  rw [g3.1.1, g3.1.2.1, show M.1 29 = M.1 73 from g12]
set_option maxHeartbeats 4000000 in
theorem op_walks {M : Mem} (hI : Inv M) (a b : Int32) : Eqv (xX9_walks M a b) (fun M1 => xX10_walks M1 a b) := by
  obtain ⟨d, n, k, q, t, l, j, g1, g2, g3, g4, g5, g6, g7, g8, g9, g10, g11, g12, g13, g14, g15⟩ := id hI
  unfold xX9_walks xX10_walks jX10_walks_20 xX9_addUpRisks
  simp only [b_isDay, b_isKind, b_isMile, b_isDefect, b_isIn, b_wrong, b_isMile10, b_isDefect10, r9_1, r9_2, r9_3, r9_4, r9_6, r10_1, r10_2, r10_3, r10_4, r10_6, t9_1, t9_2, t9_3, t9_4, t9_6, t10_1, t10_2, t10_3, t10_4, t10_6, some_b, i10, i00, im1, im2, im3, im4, im6, if_true, if_false, n_lt3 b, ite_not]
  refine Eqv_ite (fun h1 => ?_) (fun h1 => ?_)
  · refine Eqv_some ?_
    simp +decide only [h1, if_true, if_false, ite_not, not_true_eq_false, not_false_eq_true, upI_get, upd_get, n_lt3 b, ite_not]
    exact Fin_some (Inv_ref hI 2)
  refine Eqv_ite (fun h2 => ?_) (fun h2 => ?_)
  · refine Eqv_some ?_
    simp +decide only [h1, h2, if_true, if_false, ite_not, not_true_eq_false, not_false_eq_true, upI_get, upd_get, n_lt3 b, ite_not]
    exact Fin_some (Inv_ref hI 2)
  refine Eqv_ite (fun h3 => ?_) (fun h3 => ?_)
  · refine Eqv_some ?_
    simp +decide only [h1, h2, h3, if_true, if_false, ite_not, not_true_eq_false, not_false_eq_true, upI_get, upd_get, n_lt3 b, ite_not]
    exact Fin_some (Inv_ref hI 4)
  refine Eqv_ite (fun h4 => ?_) (fun h4 => ?_)
  · refine Eqv_some ?_
    simp +decide only [h1, h2, h3, h4, if_true, if_false, ite_not, not_true_eq_false, not_false_eq_true, upI_get, upd_get, n_lt3 b, ite_not]
    exact Fin_some (Inv_ref hI 6)
  obtain ⟨m, hm, rfl⟩ := ix_le (N := 10) (b := 10) rfl (by rw [lt_i, show (1 : Int32).toInt = 1 from rfl] at h3; rw [lt_i, show (0 : Int32).toInt = 0 from rfl]; omega) h4
  have hm1 : 1 ≤ m := by
    rw [lt_i, show (1 : Int32).toInt = 1 from rfl, nI_toInt (by omega)] at h3
    omega
  have kA := addUp g3 g5 g12 fu 0 (M.1 30) (by omega) (by rw [fu_v]; omega)
  rw [sR_self, Nat.sub_zero] at kA
  rw [show lX9_addUpRisks_2 fu M 0 = _ from kA, some_b]
  generalize hF : aF (rk M n) 0 20 (M.1 30) = F
  have hFu : ∀ e, e < 20 → F (e + 1) = F e + rk M n e := fun e he => by rw [← hF]; exact aF_up (rk M n) 20 0 (M.1 30) e (by omega) (by omega)
  have hR : ∀ i j, i + m ≤ 20 → j + m ≤ 20 → (F (i + m) - F i) + (F (j + m) - F j) = sm (rk M n) i m 0 + sm (rk M n) j m 0 := fun i j hi hj => by
    rw [sm_F hFu m i 0 (by omega), sm_F hFu m j 0 (by omega), i_zero, i_zero]
  have kX := outX (M1 := sR M 30 F) (R := fun i j => sm (rk M n) i m 0 + sm (rk M n) j m 0) hm1 hm hR b fu 0 (-1, 0, 0) (by omega) (by rw [fu_v]; omega)
  rw [show lX9_walks_56 fu (sR M 30 F) (nI m) b (-1) 0 0 0 = _ from kX]
  refine Eqv_some ?_
  simp +decide only [h1, h2, h3, h4, if_true, if_false, ite_not, not_true_eq_false, not_false_eq_true, upI_get, upd_get, n_lt3 b]
  have hS : ∀ i, i + m ≤ 20 → xX10_riskFrom (sR M 30 F) (nI i) (nI m) = some (sm (rk M n) i m 0) := fun i hi => by
    unfold xX10_riskFrom
    have := rFrom (sR M 30 F) (n0 := n) g5.1.2.1 g5.1.2.2 hi fu i 0 (by omega) (by rw [fu_v]; omega)
    rw [Nat.add_sub_cancel_left] at this
    exact this
  have kM := outM (M1 := sR M 30 F) (R := fun i j => sm (rk M n) i m 0 + sm (rk M n) j m 0) hm1 hm hS (fun i j _ _ => rfl) b fu 0 (-1, 0, 0) (by omega) (by rw [fu_v]; omega)
  rw [show lX10_walks_43 fu (sR M 30 F) (nI m) b (-1) 0 0 0 = _ from kM]
  exact Fin_some ⟨d, n, k, q, t, l, j, g1, g2, g3, g4, g5, g6, g7, g8, g9, g10, g11, g12, g13, g14, g15⟩
