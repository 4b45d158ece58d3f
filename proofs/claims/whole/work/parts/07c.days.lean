/-! a whole row put anew -/
def sR (M : Mem) (k : Nat) (f : Nat → Int32) : Mem := (fun q => cond (Nat.beq q k) f (M.1 q), M.2)
theorem sR_row (M : Mem) (k : Nat) (f : Nat → Int32) : (sR M k f).1 k = f := by
  show cond (Nat.beq k k) _ _ = _
  rw [Nat.beq_refl]; rfl
theorem sR_ne (M : Mem) {k q : Nat} (f : Nat → Int32) (h : q ≠ k) : (sR M k f).1 q = M.1 q := by
  show cond (Nat.beq q k) _ _ = _
  cases hb : Nat.beq q k with
  | false => rfl
  | true => exact absurd (Nat.eq_of_beq_eq_true hb) h
theorem upI_sR (M : Mem) (k i : Nat) (v : Int32) : upI M k i v = sR M k (upd (M.1 k) i v) := rfl
theorem sR_sR (M : Mem) (k : Nat) (f g : Nat → Int32) : sR (sR M k f) k g = sR M k g := by
  unfold sR
  refine Prod.ext (funext fun q => ?_) rfl
  show cond (Nat.beq q k) g (cond (Nat.beq q k) f (M.1 q)) = cond (Nat.beq q k) g (M.1 q)
  cases Nat.beq q k <;> rfl
theorem sR_self (M : Mem) (k : Nat) : sR M k (M.1 k) = M := by
  unfold sR
  refine Prod.ext (funext fun q => ?_) rfl
  show cond (Nat.beq q k) (M.1 k) (M.1 q) = M.1 q
  cases hb : Nat.beq q k with
  | false => rfl
  | true => rw [Nat.eq_of_beq_eq_true hb]; rfl
theorem sR_comm (M : Mem) {a b : Nat} (f g : Nat → Int32) (h : a ≠ b) : sR (sR M a f) b g = sR (sR M b g) a f := by
  unfold sR
  refine Prod.ext (funext fun q => ?_) rfl
  show cond (Nat.beq q b) g (cond (Nat.beq q a) f (M.1 q)) = cond (Nat.beq q a) f (cond (Nat.beq q b) g (M.1 q))
  cases ha : Nat.beq q a with
  | false => rfl
  | true =>
    cases hb : Nat.beq q b with
    | false => rfl
    | true => exact absurd ((Nat.eq_of_beq_eq_true ha).symm.trans (Nat.eq_of_beq_eq_true hb)) h
theorem fu_pos : fu = 4999 + 1 := rfl
theorem fu_v : fu = 5000 := rfl
/-! the greatest of a stretch of days -/
def mxr (f : Nat → Int32) : Nat → Nat → Int32 → Int32
  | _, 0, b => b
  | i, k + 1, b => mxr f (i + 1) k (mxI b (f i))
theorem mxr_ge (f : Nat → Int32) : ∀ (k i : Nat) (b : Int32), -1 ≤ b.toInt → (∀ e, i ≤ e → e < i + k → -1 ≤ (f e).toInt) → -1 ≤ (mxr f i k b).toInt
  | 0, _, b, h, _ => h
  | k + 1, i, b, h, hf => by
    refine mxr_ge f k (i + 1) (mxI b (f i)) ?_ (fun e h1 h2 => hf e (by omega) (by omega))
    unfold mxI; split
    · exact hf i (by omega) (by omega)
    · exact h
theorem nI_lt_iff {a b : Nat} (ha : a < 2 ^ 31) (hb : b < 2 ^ 31) : (nI a < nI b) = (a < b) := propext (nI_ltI ha hb)
theorem cX_loop (M : Mem) (k0 d : Nat) (hd : d ≤ 1000) : ∀ (n i : Nat) (b : Int32), i ≤ d → d - i < n → lX5_counted_28 n M k0 (nI d) b (nI i) = some (if mxr (M.1 (k0 + 1)) i (d - i) b = -1 then M.1 k0 1 else mxr (M.1 (k0 + 1)) i (d - i) b)
  | 0, i, b, h1, h2 => absurd h2 (Nat.not_lt_zero _)
  | n + 1, i, b, h1, h2 => by
    rw [lX5_counted_28]
    by_cases h : i < d
    · rw [if_pos (nI_lt h (by omega)), ck_t (inN (show i < 1001 by omega) (by omega)), ixN (by omega), nI_1, cX_loop M k0 d hd n (i + 1) _ (by omega) (by omega)]
      rw [show d - i = (d - (i + 1)) + 1 by omega]
      rfl
    · rw [if_neg (nI_nlt (by omega) (by omega)), show d - i = 0 by omega]
      show (if b = -1 then some _ else some b) = some (if b = -1 then _ else b)
      split <;> rfl
theorem cM_loop (M : Mem) (w : Int32) (f : Nat → Int32) (hf : f = if w = 0 then M.1 53 else M.1 54) (d : Nat) (hd : d ≤ 1000) : ∀ (n i : Nat) (b : Int32), i ≤ d → d - i < n → lX10_counts_39 n M (nI d) w b (nI i) = some (if mxr f i (d - i) b < 0 then (if w = 0 then 30 else 10) else mxr f i (d - i) b)
  | 0, i, b, h1, h2 => absurd h2 (Nat.not_lt_zero _)
  | n + 1, i, b, h1, h2 => by
    rw [lX10_counts_39]
    by_cases h : i < d
    · rw [if_pos (nI_lt h (by omega)), ck_t (inN (show i < 1001 by omega) (by omega)), ixN (by omega), nI_1, ck_t (inN (show i < 1001 by omega) (by omega)), cM_loop M w f hf d hd n (i + 1) _ (by omega) (by omega), cM_loop M w f hf d hd n (i + 1) _ (by omega) (by omega)]
      rw [show d - i = (d - (i + 1)) + 1 by omega]
      by_cases hw : w = 0
      · rw [if_pos hw]; rw [if_pos hw] at hf; rw [hf]; rfl
      · rw [if_neg hw]; rw [if_neg hw] at hf; rw [hf]; rfl
    · rw [if_neg (nI_nlt (by omega) (by omega)), show d - i = 0 by omega]
      show (if b < 0 then (if w = 0 then some 30 else some 10) else some b) = some (if b < 0 then (if w = 0 then 30 else 10) else b)
      split
      · split <;> rfl
      · rfl
theorem mx7 (d : Nat) (hd : d ≤ 1000) : mxI 0 (nI d - 7) = nI (d - 7) := by
  unfold mxI
  rw [show (7 : Int32) = nI 7 from rfl]
  by_cases h : 7 ≤ d
  · rw [pk_sub h, show (0 : Int32) = nI 0 from rfl]
    split
    · rfl
    · rename_i hz
      have : ¬ 0 < d - 7 := fun z => hz (nI_lt z (by omega))
      rw [show d - 7 = 0 by omega]
  · have := pk_sneg (a := d) (b := 7) (by omega) (by omega)
    rw [if_neg (by rw [lt_i] at this ⊢; omega), show d - 7 = 0 by omega]; rfl
/-- what counts of a day -/
def cv (f : Nat → Int32) (o : Int32) (d : Nat) : Int32 := if f d = -1 then (if mxr f (d - 7) (d - (d - 7)) (-1) = -1 then o else mxr f (d - 7) (d - (d - 7)) (-1)) else f d
theorem cX_eq (M : Mem) (k0 d : Nat) (hd : d ≤ 1000) : xX5_counted M k0 (nI d) = some (cv (M.1 (k0 + 1)) (M.1 k0 1) d) := by
  unfold xX5_counted cv
  rw [ck_t (inN (show d < 1001 by omega) (by omega)), ixN (by omega), mx7 d hd, cX_loop M k0 d hd fu (d - 7) (-1) (by omega) (by rw [fu_v]; omega)]
  split <;> rfl
theorem m1_lt {x : Int32} (h : -1 ≤ x.toInt) : (x < 0) = (x = -1) := by
  rw [lt_i, eq_i, show (0 : Int32).toInt = 0 from rfl, show (-1 : Int32).toInt = -1 from rfl]
  exact propext (by omega)
theorem cM_eq (M : Mem) (w : Int32) (f : Nat → Int32) (hf : f = if w = 0 then M.1 53 else M.1 54) (hr : ∀ i, i ≤ 1000 → -1 ≤ (f i).toInt) (d : Nat) (hd : d ≤ 1000) : xX10_counts M (nI d) w = some (cv f (if w = 0 then 30 else 10) d) := by
  unfold xX10_counts jX10_counts_19 cv
  have key := cM_loop M w f hf d hd fu (d - 7) (-1) (by omega) (by rw [fu_v]; omega)
  simp only [m1_lt (mxr_ge f (d - (d - 7)) (d - 7) (-1) (by decide) (fun e h1 h2 => hr e (by omega)))] at key
  rw [ck_t (inN (show d < 1001 by omega) (by omega)), ck_t (inN (show d < 1001 by omega) (by omega)), ixN (by omega), mx7 d hd, key]
  have hfd := m1_lt (hr d hd)
  by_cases hw : w = 0
  · rw [if_pos hw]; rw [if_pos hw] at hf; rw [hf] at hfd ⊢
    simp only [hfd]
    split <;> rfl
  · rw [if_neg hw]; rw [if_neg hw] at hf; rw [hf] at hfd ⊢
    simp only [hfd]
    split <;> rfl
set_option maxHeartbeats 4000000 in
theorem op_dayOf {M : Mem} (hI : Inv M) (a b : Int32) : Eqv (xX9_dayOf M a b) (fun M1 => xX10_dayOf M1 a b) := by
  obtain ⟨d, n, k, q, t, l, j, g1, g2, g3, g4, g5, g6, g7, g8, g9, g10, g11, g12, g13, g14, g15⟩ := id hI
  unfold xX9_dayOf xX10_dayOf
  simp only [b_isDay, b_isKind, b_isMile, b_isDefect, b_isIn, b_wrong, b_isMile10, b_isDefect10, r9_1, r9_2, r9_3, r9_4, r9_6, r10_1, r10_2, r10_3, r10_4, r10_6, t9_1, t9_2, t9_3, t9_4, t9_6, t10_1, t10_2, t10_3, t10_4, t10_6, some_b, i10, i00, im1, im2, im3, im4, im6, if_true, if_false, n_lt1001 a, n_lt2 b, ite_not, b_rd]
  refine Eqv_ite (fun h1 => ?_) (fun h1 => ?_)
  · refine Eqv_some ?_
    simp +decide only [h1, if_true, if_false, ite_not, not_true_eq_false, not_false_eq_true, upI_get, upd_get, n_lt1001 a, n_lt2 b, ite_not, b_rd]
    exact Fin_some (Inv_ref hI 1)
  refine Eqv_ite (fun h2 => ?_) (fun h2 => ?_)
  · refine Eqv_some ?_
    simp +decide only [h1, h2, if_true, if_false, ite_not, not_true_eq_false, not_false_eq_true, upI_get, upd_get, n_lt1001 a, n_lt2 b, ite_not, b_rd]
    exact Fin_some (Inv_ref hI 1)
  refine Eqv_ite (fun h3 => ?_) (fun h3 => ?_)
  · refine Eqv_some ?_
    simp +decide only [h1, h2, h3, if_true, if_false, ite_not, not_true_eq_false, not_false_eq_true, upI_get, upd_get, n_lt1001 a, n_lt2 b, ite_not, b_rd]
    exact Fin_some (Inv_ref hI 2)
  refine Eqv_ite (fun h4 => ?_) (fun h4 => ?_)
  · refine Eqv_some ?_
    simp +decide only [h1, h2, h3, h4, if_true, if_false, ite_not, not_true_eq_false, not_false_eq_true, upI_get, upd_get, n_lt1001 a, n_lt2 b, ite_not, b_rd]
    exact Fin_some (Inv_ref hI 2)
  obtain ⟨i, hi, rfl⟩ := ix_le (N := 1000) (b := 1000) rfl h1 h2
  have hr0 : ∀ e, e ≤ 1000 → -1 ≤ (M.1 53 e).toInt := fun e he => (g3.2.2.2 e he).1.1
  have hr1 : ∀ e, e ≤ 1000 → -1 ≤ (M.1 54 e).toInt := fun e he => (g3.2.2.2 e he).2.1
  rcases bit_of h3 h4 with rfl | rfl
  · rw [show rdk 0 = 4 from rfl, cX_eq M 4 i hi, some_b]
    refine Eqv_some ?_
    simp +decide only [h1, h2, h3, h4, if_true, if_false, ite_not, not_true_eq_false, not_false_eq_true, upI_get, upd_get, b_rd, n_lt1001 (nI i)]
    rw [cM_eq M 0 (M.1 53) rfl hr0 i hi, some_b]
    exact Fin_eq (by rw [if_pos rfl, show M.1 (4 + 1) = M.1 53 from g3.2.1.1, g3.2.2.1.2.1]) hI
  · rw [show rdk 1 = 6 from rfl, cX_eq M 6 i hi, some_b]
    refine Eqv_some ?_
    simp +decide only [h1, h2, h3, h4, if_true, if_false, ite_not, not_true_eq_false, not_false_eq_true, upI_get, upd_get, b_rd, n_lt1001 (nI i)]
    rw [cM_eq M 1 (M.1 54) rfl hr1 i hi, some_b]
    exact Fin_eq (by rw [if_neg (by decide), show M.1 (6 + 1) = M.1 54 from g3.2.1.2, g3.2.2.1.2.2.2]) hI
