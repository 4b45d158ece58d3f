/-! loops that count -/
theorem lt20 {i : Nat} (h : i < 20) : nI i < (20 : Int32) := nI_lt (b := 20) h (by omega)
theorem n20 : ¬ nI 20 < (20 : Int32) := by decide
def cl (p : Nat → Bool) : Nat → Nat → Int32 → Int32
  | _, 0, a => a
  | i, k + 1, a => cl p (i + 1) k (if p i then a + 1 else a)
theorem cl_snoc (p : Nat → Bool) : ∀ (k i : Nat) (a : Int32), cl p i (k + 1) a = if p (i + k) then cl p i k a + 1 else cl p i k a
  | 0, i, a => rfl
  | k + 1, i, a => by
    show cl p (i + 1) (k + 1) (if p i then a + 1 else a) = _
    rw [cl_snoc p k (i + 1), show i + 1 + k = i + (k + 1) by omega]
    rfl
theorem cl_cnt (p : Nat → Bool) : ∀ n : Nat, cl p 0 n 0 = nI (cnt p n)
  | 0 => rfl
  | n + 1 => by
    rw [cl_snoc, cl_cnt p n, Nat.zero_add]
    show (if p n then nI (cnt p n) + 1 else nI (cnt p n)) = nI (cnt p n + if p n = true then 1 else 0)
    split
    · rw [nI_1]
    · rw [Nat.add_zero]
theorem cl_cong {p q : Nat → Bool} : ∀ (k i : Nat) (a : Int32), (∀ e, i ≤ e → e < i + k → p e = q e) → cl p i k a = cl q i k a
  | 0, _, _, _ => rfl
  | k + 1, i, a, h => by
    show cl p (i + 1) k _ = cl q (i + 1) k _
    rw [h i (by omega) (by omega), cl_cong k (i + 1) _ (fun e h1 h2 => h e (by omega) (by omega))]
theorem cl_loop {ρ : Type} {L : Nat → Int32 → Int32 → Option ρ} {N : Nat} {p : Nat → Bool} {g : Int32 → Option ρ} (hs : ∀ n a i, i < N → L (n + 1) a (nI i) = L n (if p i then a + 1 else a) (nI (i + 1))) (he : ∀ n a, L (n + 1) a (nI N) = g a) : ∀ (n i : Nat) (a : Int32), i ≤ N → N - i < n → L n a (nI i) = g (cl p i (N - i) a)
  | 0, i, a, h1, h2 => absurd h2 (Nat.not_lt_zero _)
  | n + 1, i, a, h1, h2 => by
    by_cases h : i < N
    · rw [hs n a i h, cl_loop hs he n (i + 1) _ (by omega) (by omega), show N - i = (N - (i + 1)) + 1 by omega]; rfl
    · have e : i = N := by omega
      subst e
      rw [he, Nat.sub_self]; rfl
theorem cOpen9 (M : Mem) {n : Nat} (h0 : M.1 8 0 = nI n) (hn : n ≤ 40) : xX1_countOpen M = some (cl (fun e => !decide (M.1 13 e = 0)) 0 n 0) := by
  have := cl_loop (L := fun m a i => lX1_countOpen_4 m M a i) (N := n) (p := fun e => !decide (M.1 13 e = 0)) (g := some)
    (fun m a i hi => by
      show lX1_countOpen_4 (m + 1) M a (nI i) = _
      rw [lX1_countOpen_4, h0, if_pos (nI_lt hi (by omega)), ck_t (inN (show i < 40 by omega) (by omega)), ixN (by omega), nI_1]
      by_cases c : M.1 13 i = 0 <;> simp [c])
    (fun m a => by
      show lX1_countOpen_4 (m + 1) M a (nI n) = _
      rw [lX1_countOpen_4, h0, if_neg (nI_nlt (by omega) (by omega))]) fu 0 0 (by omega) (by rw [fu_v]; omega)
  exact this
theorem cOpen10 (M : Mem) {n : Nat} (h0 : M.1 51 5 = nI n) (hn : n ≤ 40) : lX10_count_92 fu M 0 0 = some (cl (fun e => !decide (M.1 63 e = 0)) 0 n 0) := by
  have := cl_loop (L := fun m a i => lX10_count_92 m M a i) (N := n) (p := fun e => !decide (M.1 63 e = 0)) (g := some)
    (fun m a i hi => by
      show lX10_count_92 (m + 1) M a (nI i) = _
      rw [lX10_count_92, h0, if_pos (nI_lt hi (by omega)), ck_t (inN (show i < 40 by omega) (by omega)), ixN (by omega), nI_1]
      by_cases c : M.1 63 i = 0 <;> simp [c])
    (fun m a => by
      show lX10_count_92 (m + 1) M a (nI n) = _
      rw [lX10_count_92, h0, if_neg (nI_nlt (by omega) (by omega))]) fu 0 0 (by omega) (by rw [fu_v]; omega)
  exact this
theorem cStand9 (M : Mem) : xX7_countStanding M = some (cl (fun e => decide (0 < M.1 25 e)) 0 20 0) := by
  have := cl_loop (L := fun m a i => lX7_countStanding_4 m M a i) (N := 20) (p := fun e => decide (0 < M.1 25 e)) (g := some)
    (fun m a i hi => by
      show lX7_countStanding_4 (m + 1) M a (nI i) = _
      rw [lX7_countStanding_4]
      unfold xX7_standsOn
      rw [if_pos (lt20 hi), ck_t (inN (show i < 20 by omega) (by omega)), ixN (by omega), nI_1]
      by_cases c : 0 < M.1 25 i <;> simp [c])
    (fun m a => by
      show lX7_countStanding_4 (m + 1) M a (nI 20) = _
      rw [lX7_countStanding_4, if_neg n20]) fu 0 0 (by omega) (by rw [fu_v]; omega)
  exact this
theorem cStand10 (M : Mem) : lX10_count_142 fu M 0 0 = some (cl (fun e => decide (0 < M.1 72 e)) 0 20 0) := by
  have := cl_loop (L := fun m a i => lX10_count_142 m M a i) (N := 20) (p := fun e => decide (0 < M.1 72 e)) (g := some)
    (fun m a i hi => by
      show lX10_count_142 (m + 1) M a (nI i) = _
      rw [lX10_count_142, if_pos (lt20 hi), ck_t (inN (show i < 20 by omega) (by omega)), ixN (by omega), nI_1]
      by_cases c : 0 < M.1 72 i <;> simp [c])
    (fun m a => by
      show lX10_count_142 (m + 1) M a (nI 20) = _
      rw [lX10_count_142, if_neg n20]) fu 0 0 (by omega) (by rw [fu_v]; omega)
  exact this
theorem cIn9 (M : Mem) (v : Int32) {n : Nat} (h0 : M.1 8 0 = nI n) (hn : n ≤ 40) : xX1_countOpenIn M v = some (cl (fun e => !decide (M.1 13 e = 0) && decide (M.1 9 e = v)) 0 n 0) := by
  have := cl_loop (L := fun m a i => lX1_countOpenIn_4 m M v a i) (N := n) (p := fun e => !decide (M.1 13 e = 0) && decide (M.1 9 e = v)) (g := some)
    (fun m a i hi => by
      show lX1_countOpenIn_4 (m + 1) M v a (nI i) = _
      rw [lX1_countOpenIn_4, h0, if_pos (nI_lt hi (by omega)), ck_t (inN (show i < 40 by omega) (by omega)), ixN (by omega), nI_1]
      by_cases c : M.1 13 i = 0 <;> by_cases c2 : M.1 9 i = v <;> simp [c, c2])
    (fun m a => by
      show lX1_countOpenIn_4 (m + 1) M v a (nI n) = _
      rw [lX1_countOpenIn_4, h0, if_neg (nI_nlt (by omega) (by omega))]) fu 0 0 (by omega) (by rw [fu_v]; omega)
  exact this
theorem cIn10 (M : Mem) {m0 n : Nat} (hm : m0 < 20) (h0 : M.1 51 5 = nI n) (hn : n ≤ 40) : xX10_riskOf M (nI m0) = some ((M.1 51 4 - M.1 73 m0) * (1 + cl (fun e => !decide (M.1 63 e = 0) && decide (M.1 56 e = nI m0)) 0 n 0)) := by
  have := cl_loop (L := fun m a i => lX10_riskOf_4 m M (nI m0) a i) (N := n) (p := fun e => !decide (M.1 63 e = 0) && decide (M.1 56 e = nI m0)) (g := fun v2 => some ((M.1 51 4 - M.1 73 m0) * (1 + v2)))
    (fun m a i hi => by
      show lX10_riskOf_4 (m + 1) M (nI m0) a (nI i) = _
      rw [lX10_riskOf_4, h0, if_pos (nI_lt hi (by omega)), ck_t (inN (show i < 40 by omega) (by omega)), ixN (show i < 2 ^ 31 by omega), nI_1]
      by_cases c : M.1 63 i = 0 <;> by_cases c2 : M.1 56 i = nI m0 <;> simp [c, c2])
    (fun m a => by
      show lX10_riskOf_4 (m + 1) M (nI m0) a (nI n) = _
      rw [lX10_riskOf_4, h0, if_neg (nI_nlt (by omega) (by omega)), ck_t (inN hm (by omega)), ixN (show m0 < 2 ^ 31 by omega)]) fu 0 0 (by omega) (by rw [fu_v]; omega)
  exact this
theorem mls9 (M : Mem) (v : Int32) : xX4_milesWith M v = some (cl (fun e => decide (M.1 50 e = v)) 0 20 0) := by
  have := cl_loop (L := fun m a i => lX4_milesWith_4 m M v a i) (N := 20) (p := fun e => decide (M.1 50 e = v)) (g := some)
    (fun m a i hi => by
      show lX4_milesWith_4 (m + 1) M v a (nI i) = _
      rw [lX4_milesWith_4, if_pos (lt20 hi), ck_t (inN (show i < 20 by omega) (by omega)), ixN (by omega), nI_1]
      by_cases c : M.1 50 i = v <;> simp [c])
    (fun m a => by
      show lX4_milesWith_4 (m + 1) M v a (nI 20) = _
      rw [lX4_milesWith_4, if_neg n20]) fu 0 0 (by omega) (by rw [fu_v]; omega)
  exact this
theorem mls10 (M : Mem) (v : Int32) : xX10_milesOf M v = some (cl (fun e => decide (M.1 78 e = v)) 0 20 0) := by
  have := cl_loop (L := fun m a i => lX10_milesOf_4 m M v a i) (N := 20) (p := fun e => decide (M.1 78 e = v)) (g := some)
    (fun m a i hi => by
      show lX10_milesOf_4 (m + 1) M v a (nI i) = _
      rw [lX10_milesOf_4, if_pos (lt20 hi), ck_t (inN (show i < 20 by omega) (by omega)), ixN (by omega), nI_1]
      by_cases c : M.1 78 i = v <;> simp [c])
    (fun m a => by
      show lX10_milesOf_4 (m + 1) M v a (nI 20) = _
      rw [lX10_milesOf_4, if_neg n20]) fu 0 0 (by omega) (by rw [fu_v]; omega)
  exact this
theorem crk10 (M : Mem) (v : Int32) {n : Nat} (h0 : M.1 51 5 = nI n) (hn : n ≤ 40) : xX10_cracks M v = some (cl (fun e => decide (M.1 59 e = 3) && decide (M.1 60 e = v)) 0 n 0) := by
  have := cl_loop (L := fun m a i => lX10_cracks_4 m M v a i) (N := n) (p := fun e => decide (M.1 59 e = 3) && decide (M.1 60 e = v)) (g := some)
    (fun m a i hi => by
      show lX10_cracks_4 (m + 1) M v a (nI i) = _
      rw [lX10_cracks_4, h0, if_pos (nI_lt hi (by omega)), ck_t (inN (show i < 40 by omega) (by omega)), ixN (by omega), nI_1]
      by_cases c : M.1 59 i = 3 <;> by_cases c2 : M.1 60 i = v <;> simp [c, c2])
    (fun m a => by
      show lX10_cracks_4 (m + 1) M v a (nI n) = _
      rw [lX10_cracks_4, h0, if_neg (nI_nlt (by omega) (by omega))]) fu 0 0 (by omega) (by rw [fu_v]; omega)
  exact this
/-! answers that change nothing -/
def Eqp (o1 o2 : Option Int32) : Prop := ∃ r, o1 = some r ∧ o2 = some r
theorem Eqp_ite {c : Prop} [Decidable c] {A B A' B' : Option Int32} (h1 : Eqp A A') (h2 : Eqp B B') : Eqp (if c then A else B) (if c then A' else B') := by
  by_cases h : c
  · rw [if_pos h, if_pos h]; exact h1
  · rw [if_neg h, if_neg h]; exact h2
theorem op_lost {M : Mem} (hI : Inv M) : Eqp (xX9_lost M) (xX10_lost M) := by
  obtain ⟨d, n, k, q, t, l, j, g1, g2, g3, g4, g5, g6, g7, g8, g9, g10, g11, g12, g13, g14, g15⟩ := hI
  exact ⟨M.1 24 0, rfl, by unfold xX10_lost; rw [g10.2.1]⟩
theorem count_j {M : Mem} (hI : Inv M) (a : Int32) : Eqp (jX9_count_22 M a) (jX10_count_22 M a) := by
  obtain ⟨d, n, k, q, t, l, j, g1, g2, g3, g4, g5, g6, g7, g8, g9, g10, g11, g12, g13, g14, g15⟩ := hI
  unfold jX9_count_22 jX10_count_22
  rw [cOpen9 M g5.1.1 g5.1.2.2, cStand9 M, cOpen10 M g5.1.2.1 g5.1.2.2, cStand10 M, some_b, some_b, g3.1.1, g3.1.2.1, g5.1.1, g5.1.2.1, g5.2.1.1, g5.2.1.2.1, g5.2.2.1, g9.1.1, g9.1.2.1, g11.1.1, g11.1.2.1, g14.1.1, g14.1.2.1, g15.1.1, g15.1.2.1, g5.2.2.2.1.2.2.2.2.1, g10.1]
  repeat' (first | exact ⟨_, rfl, rfl⟩ | refine Eqp_ite ?_ ?_)
theorem op_count {M : Mem} (hI : Inv M) (a : Int32) : Eqp (xX9_count M a) (xX10_count M a) := by
  have hj := count_j hI a
  obtain ⟨d, n, k, q, t, l, j, g1, g2, g3, g4, g5, g6, g7, g8, g9, g10, g11, g12, g13, g14, g15⟩ := hI
  unfold xX9_count xX10_count
  by_cases c1 : a < 11
  · rw [if_pos c1, if_neg (by rw [lt_i, show (11 : Int32).toInt = 11 from rfl] at c1; rw [lt_i, show (10 : Int32).toInt = 10 from rfl]; omega)]
    exact hj
  · have c2 : 10 < a := by rw [lt_i, show (11 : Int32).toInt = 11 from rfl] at c1; rw [lt_i, show (10 : Int32).toInt = 10 from rfl]; omega
    rw [if_neg c1, if_pos c2]
    by_cases c3 : 16 < a
    · rw [if_pos c3, if_neg (by rw [lt_i, show (16 : Int32).toInt = 16 from rfl] at c3; rw [lt_i, show (17 : Int32).toInt = 17 from rfl]; omega)]
      exact hj
    · rw [if_neg c3, if_pos (by rw [lt_i, show (16 : Int32).toInt = 16 from rfl] at c3; rw [lt_i, show (17 : Int32).toInt = 17 from rfl]; omega)]
      have e : (a - 10).toInt = a.toInt - 10 := by
        rw [Int32.toInt_sub, show (10 : Int32).toInt = 10 from rfl]
        rw [lt_i, show (16 : Int32).toInt = 16 from rfl] at c3
        rw [lt_i, show (10 : Int32).toInt = 10 from rfl] at c2
        exact Int.bmod_eq_of_le (by omega) (by omega)
      have hin : inB (a - 10) 7 = true := inB_of (vp_in_iff.mpr (by
        rw [e]
        rw [lt_i, show (16 : Int32).toInt = 16 from rfl] at c3
        rw [lt_i, show (10 : Int32).toInt = 10 from rfl] at c2
        omega))
      rw [ck_t hin, ck_t hin, show M.1 1 = M.1 52 from g1]
      exact ⟨_, rfl, rfl⟩
set_option maxHeartbeats 4000000 in
theorem op_risk {M : Mem} (hI : Inv M) (a : Int32) : Eqv (xX9_risk M a) (fun M1 => xX10_risk M1 a) := by
  obtain ⟨d, n, k, q, t, l, j, g1, g2, g3, g4, g5, g6, g7, g8, g9, g10, g11, g12, g13, g14, g15⟩ := id hI
  unfold xX9_risk xX10_risk xX9_riskOf
  simp only [b_isDay, b_isKind, b_isMile, b_isDefect, b_isIn, b_wrong, b_isMile10, b_isDefect10, r9_1, r9_2, r9_3, r9_4, r9_6, r10_1, r10_2, r10_3, r10_4, r10_6, t9_1, t9_2, t9_3, t9_4, t9_6, t10_1, t10_2, t10_3, t10_4, t10_6, some_b, i10, i00, im1, im2, im3, im4, im6, if_true, if_false]
  refine Eqv_ite (fun h1 => ?_) (fun h1 => ?_)
  · refine Eqv_some ?_
    simp +decide only [h1, if_true, if_false, ite_not, not_true_eq_false, not_false_eq_true, upI_get, upd_get]
    exact Fin_some (Inv_ref hI 1)
  refine Eqv_itn (fun h2 => ?_) (fun h2 => ?_)
  · refine Eqv_some ?_
    simp +decide only [h1, h2, if_true, if_false, ite_not, not_true_eq_false, not_false_eq_true, upI_get, upd_get]
    exact Fin_some (Inv_ref hI 1)
  obtain ⟨i, hi, rfl⟩ := ix_of (N := 20) (b := 20) rfl h1 h2
  rw [ck_t (inN hi (by omega)), cIn9 M (nI i) g5.1.1 g5.1.2.2, some_b, some_b, ixN (show i < 2 ^ 31 by omega)]
  refine Eqv_some ?_
  simp +decide only [h1, h2, if_true, if_false, ite_not, not_true_eq_false, not_false_eq_true, upI_get, upd_get]
  rw [cIn10 M hi g5.1.2.1 g5.1.2.2, some_b]
  exact Fin_eq (by rw [g3.1.1, g3.1.2.1, g5.2.2.2.1.1, g5.2.2.2.1.2.2.2.2.1, show M.1 29 = M.1 73 from g12]) hI
set_option maxHeartbeats 4000000 in
theorem op_lot {M : Mem} (hI : Inv M) (a b : Int32) : Eqv (xX9_lot M a b) (fun M1 => xX10_lot M1 a b) := by
  obtain ⟨d, n, k, q, t, l, j, g1, g2, g3, g4, g5, g6, g7, g8, g9, g10, g11, g12, g13, g14, g15⟩ := id hI
  unfold xX9_lot xX10_lot
  simp only [b_isDay, b_isKind, b_isMile, b_isDefect, b_isIn, b_wrong, b_isMile10, b_isDefect10, r9_1, r9_2, r9_3, r9_4, r9_6, r10_1, r10_2, r10_3, r10_4, r10_6, t9_1, t9_2, t9_3, t9_4, t9_6, t10_1, t10_2, t10_3, t10_4, t10_6, some_b, i10, i00, im1, im2, im3, im4, im6, if_true, if_false, n_lt6 a, ite_not]
  refine Eqv_ite (fun h1 => ?_) (fun h1 => ?_)
  · refine Eqv_some ?_
    simp +decide only [h1, if_true, if_false, ite_not, not_true_eq_false, not_false_eq_true, upI_get, upd_get, n_lt6 a, ite_not]
    exact Fin_some (Inv_ref hI 1)
  refine Eqv_ite (fun h2 => ?_) (fun h2 => ?_)
  · refine Eqv_some ?_
    simp +decide only [h1, h2, if_true, if_false, ite_not, not_true_eq_false, not_false_eq_true, upI_get, upd_get, n_lt6 a, ite_not]
    exact Fin_some (Inv_ref hI 1)
  obtain ⟨i, hi, rfl⟩ := ix_le (N := 5) (b := 5) rfl h1 h2
  by_cases h3 : b < 0
  · rw [if_pos h3]
    refine Eqv_some ?_
    have b1 : ¬ b = 0 := fun z => by rw [z] at h3; exact absurd h3 (by decide)
    have b2 : ¬ b = 1 := fun z => by rw [z] at h3; exact absurd h3 (by decide)
    simp +decide only [h1, h2, if_true, if_false, ite_not, not_true_eq_false, not_false_eq_true, upI_get, upd_get, n_lt6 (nI i), b1, b2]
    exact Fin_some (Inv_ref hI 2)
  rw [if_neg h3]
  by_cases h4 : 1 < b
  · rw [if_pos h4]
    refine Eqv_some ?_
    have b1 : ¬ b = 0 := fun z => by rw [z] at h4; exact absurd h4 (by decide)
    have b2 : ¬ b = 1 := fun z => by rw [z] at h4; exact absurd h4 (by decide)
    simp +decide only [h1, h2, if_true, if_false, ite_not, not_true_eq_false, not_false_eq_true, upI_get, upd_get, n_lt6 (nI i), b1, b2]
    exact Fin_some (Inv_ref hI 2)
  rw [if_neg h4]
  rcases bit_of h3 h4 with rfl | rfl
  · rw [if_pos rfl, ck_t (inN (show i < 6 by omega) (by omega)), ixN (by omega)]
    refine Eqv_some ?_
    simp +decide only [h1, h2, if_true, if_false, ite_not, not_true_eq_false, not_false_eq_true, upI_get, upd_get, n_lt6 (nI i)]
    rw [crk10 M (nI i) g5.1.2.1 g5.1.2.2, some_b, cl_cnt]
    exact Fin_eq (g7.2 i (by omega)).symm hI
  · rw [if_neg (by decide), mls9, some_b]
    refine Eqv_some ?_
    simp +decide only [h1, h2, if_true, if_false, ite_not, not_true_eq_false, not_false_eq_true, upI_get, upd_get, n_lt6 (nI i)]
    rw [mls10, some_b]
    exact Fin_eq (by rw [g7.1.1]) hI
