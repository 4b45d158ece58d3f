theorem i10 : ((1 : Int32) = 0) = False := by decide
theorem im1 : ((-1 : Int32) = 0) = False := by decide
theorem im2 : ((-2 : Int32) = 0) = False := by decide
theorem im3 : ((-3 : Int32) = 0) = False := by decide
theorem im4 : ((-4 : Int32) = 0) = False := by decide
theorem im6 : ((-6 : Int32) = 0) = False := by decide
theorem i00 : ((0 : Int32) = 0) = True := by decide
theorem ix_of {a : Int32} {N : Nat} {b : Int32} (hb : b.toInt = N) (h1 : ¬ a < 0) (h2 : a < b) : ∃ j : Nat, j < N ∧ a = nI j := by
  rw [lt_i] at h1 h2
  rw [hb] at h2
  have h3 : (0 : Int32).toInt = 0 := rfl
  rw [h3] at h1
  obtain ⟨m, hm, rfl⟩ := rg_of (x := a) (b := N - 1) ⟨by omega, by omega⟩
  exact ⟨m, by have := hb; have := Int32.toInt_lt b; have := nI_toInt (n := m) (by omega); omega, rfl⟩
theorem rg_le {a : Int32} {lo hi : Int} {x y : Int32} (hx : x.toInt = lo) (hy : y.toInt = hi) (h1 : ¬ a < x) (h2 : ¬ y < a) : rg a lo hi := by
  rw [lt_i] at h1 h2
  exact ⟨by omega, by omega⟩
theorem Eqv_itn {c : Prop} [Decidable c] {A B : Option (Int32 × Mem)} {f : Mem → Option (Int32 × Mem)} (h2 : ¬ c → Eqv B f) (h1 : c → Eqv A f) : Eqv (if c then A else B) f := Eqv_ite h1 h2
theorem t9_1 (M : Mem) : xX9_refuseAsTold M (-1) = some (1000000000 - (-1), upI M 1 1 (M.1 1 1 + 1)) := by unfold xX9_refuseAsTold; rw [r9_1, some_b]
theorem t9_2 (M : Mem) : xX9_refuseAsTold M (-2) = some (1000000000 - (-2), upI M 1 2 (M.1 1 2 + 1)) := by unfold xX9_refuseAsTold; rw [r9_2, some_b]
theorem t9_3 (M : Mem) : xX9_refuseAsTold M (-3) = some (1000000000 - (-3), upI M 1 3 (M.1 1 3 + 1)) := by unfold xX9_refuseAsTold; rw [r9_3, some_b]
theorem t9_4 (M : Mem) : xX9_refuseAsTold M (-4) = some (1000000000 - (-4), upI M 1 4 (M.1 1 4 + 1)) := by unfold xX9_refuseAsTold; rw [r9_4, some_b]
theorem t9_6 (M : Mem) : xX9_refuseAsTold M (-6) = some (1000000000 - (-6), upI M 1 6 (M.1 1 6 + 1)) := by unfold xX9_refuseAsTold; rw [r9_6, some_b]
theorem t10_1 (M : Mem) : xX10_refuseFar M (-1) = some (1000000000 - (-1), upI M 52 1 (M.1 52 1 + 1)) := by unfold xX10_refuseFar; rw [r10_1, some_b]
theorem t10_2 (M : Mem) : xX10_refuseFar M (-2) = some (1000000000 - (-2), upI M 52 2 (M.1 52 2 + 1)) := by unfold xX10_refuseFar; rw [r10_2, some_b]
theorem t10_3 (M : Mem) : xX10_refuseFar M (-3) = some (1000000000 - (-3), upI M 52 3 (M.1 52 3 + 1)) := by unfold xX10_refuseFar; rw [r10_3, some_b]
theorem t10_4 (M : Mem) : xX10_refuseFar M (-4) = some (1000000000 - (-4), upI M 52 4 (M.1 52 4 + 1)) := by unfold xX10_refuseFar; rw [r10_4, some_b]
theorem t10_6 (M : Mem) : xX10_refuseFar M (-6) = some (1000000000 - (-6), upI M 52 6 (M.1 52 6 + 1)) := by unfold xX10_refuseFar; rw [r10_6, some_b]
theorem rg_upd {f : Nat → Int32} {i e : Nat} {v : Int32} {a b : Int} (h : rg v a b) (hf : rg (f e) a b) : rg (upd f i v e) a b := by
  rw [upd_get]; split
  · exact h
  · exact hf
theorem add_sub1 (a : Int32) : a + 1 - 1 = a := by
  rw [Int32.add_sub_cancel]
theorem nlt40 {n : Nat} {c : Nat} (hc : c < 2 ^ 31) (hn : n ≤ c) : (nI n = nI c) = ¬ (nI n < nI c) := by
  rw [nI_eq (by omega) hc, nI_ltI (by omega) hc]
  exact propext (by omega)
theorem ix_le {a : Int32} {N : Nat} {b : Int32} (hb : b.toInt = N) (h1 : ¬ a < 0) (h2 : ¬ b < a) : ∃ j : Nat, j ≤ N ∧ a = nI j := by
  rw [lt_i] at h1 h2
  rw [hb] at h2
  have h3 : (0 : Int32).toInt = 0 := rfl
  rw [h3] at h1
  exact rg_of (x := a) (b := N) ⟨by omega, by omega⟩
theorem bit_of {a : Int32} (h1 : ¬ a < 0) (h2 : ¬ 1 < a) : a = 0 ∨ a = 1 := by
  obtain ⟨m, hm, rfl⟩ := ix_le (N := 1) (b := 1) rfl h1 h2
  rcases (show m = 0 ∨ m = 1 by omega) with rfl | rfl
  · exact Or.inl rfl
  · exact Or.inr rfl
theorem b_rd {α : Type} (M : Mem) (v : Int32) (o : Option α) : ((xX9_readingsOf M v).bind fun _ => o) = o := by
  unfold xX9_readingsOf; split <;> rfl
theorem lt_nI {a : Int32} {n : Nat} (hn : n < 2 ^ 31) (h1 : ¬ a < 0) (h2 : a < nI n) : ∃ j : Nat, j < n ∧ a = nI j := ix_of (N := n) (b := nI n) (nI_toInt hn) h1 h2
set_option maxHeartbeats 4000000 in
theorem op_growth {M : Mem} (hI : Inv M) (a b : Int32) : Eqv (xX9_growth M a b) (fun M1 => xX10_growth M1 a b) := by
  obtain ⟨d, n, k, q, t, l, j, g1, g2, g3, g4, g5, g6, g7, g8, g9, g10, g11, g12, g13, g14, g15⟩ := id hI
  unfold xX9_growth xX10_growth jX10_growth_19
  simp only [b_isDay, b_isKind, b_isMile, b_isDefect, b_isIn, b_wrong, b_isMile10, b_isDefect10, r9_1, r9_2, r9_3, r9_4, r9_6, r10_1, r10_2, r10_3, r10_4, r10_6, t9_1, t9_2, t9_3, t9_4, t9_6, t10_1, t10_2, t10_3, t10_4, t10_6, some_b, i10, i00, im1, im2, im3, im4, im6, if_true, if_false]
  refine Eqv_ite (fun h1 => ?_) (fun h1 => ?_)
  · refine Eqv_some ?_
    simp +decide only [h1, if_true, if_false, ite_not, not_true_eq_false, not_false_eq_true, reduceIte]
    exact Fin_some (Inv_ref hI 1)
  refine Eqv_itn (fun h2 => ?_) (fun h2 => ?_)
  · refine Eqv_some ?_
    simp +decide only [h1, h2, if_true, if_false, ite_not, not_true_eq_false, not_false_eq_true, reduceIte]
    exact Fin_some (Inv_ref hI 1)
  refine Eqv_ite (fun h3 => ?_) (fun h3 => ?_)
  · refine Eqv_some ?_
    simp +decide only [h1, h2, h3, if_true, if_false, ite_not, not_true_eq_false, not_false_eq_true, reduceIte]
    exact Fin_some (Inv_ref hI 4)
  refine Eqv_ite (fun h4 => ?_) (fun h4 => ?_)
  · refine Eqv_some ?_
    simp +decide only [h1, h2, h3, h4, if_true, if_false, ite_not, not_true_eq_false, not_false_eq_true, reduceIte]
    exact Fin_some (Inv_ref hI 6)
  have hr : rg b 0 50 := rg_le (x := 0) (y := 50) rfl rfl h3 h4
  obtain ⟨i, hi, rfl⟩ := ix_of (N := 4) (b := 4) rfl h1 h2
  rw [ck_t (inN hi (by omega))]
  refine Eqv_some ?_
  simp +decide only [h1, h2, h3, h4, if_true, if_false, ite_not, not_true_eq_false, not_false_eq_true, reduceIte, inN hi (show 4 < 2 ^ 31 by omega), ck_t, ixN (show i < 2 ^ 31 by omega)]
  refine Fin_eq (by show M.1 55 i = M.1 3 i; rw [g4.1]) ⟨d, n, k, q, t, l, j, g1, g2, g3, ?_, g5, g6, g7, g8, g9, g10, g11, g12, g13, g14, g15⟩
  refine ⟨?_, fun e he => rg_upd hr (g4.2 e he)⟩
  show upd (M.1 3) i b = upd (M.1 55) i b
  rw [g4.1]
set_option maxHeartbeats 4000000 in
theorem op_line {M : Mem} (hI : Inv M) (a b c : Int32) : Eqv (xX9_line M a b c) (fun M1 => xX10_line M1 a b c) := by
  obtain ⟨d, n, k, q, t, l, j, g1, g2, g3, g4, g5, g6, g7, g8, g9, g10, g11, g12, g13, g14, g15⟩ := id hI
  unfold xX9_line xX10_line xX0_add
  simp only [b_isDay, b_isKind, b_isMile, b_isDefect, b_isIn, b_wrong, b_isMile10, b_isDefect10, r9_1, r9_2, r9_3, r9_4, r9_6, r10_1, r10_2, r10_3, r10_4, r10_6, t9_1, t9_2, t9_3, t9_4, t9_6, t10_1, t10_2, t10_3, t10_4, t10_6, some_b, i10, i00, im1, im2, im3, im4, im6, if_true, if_false, g14.1.1, g14.1.2.1]
  refine Eqv_ite (fun h1 => ?_) (fun h1 => ?_)
  · refine Eqv_some ?_
    simp +decide only [h1, if_true, if_false, ite_not, not_true_eq_false, not_false_eq_true, upI_get, upd_get, g14.1.1, g14.1.2.1]
    exact Fin_some (Inv_ref hI 1)
  refine Eqv_itn (fun h2 => ?_) (fun h2 => ?_)
  · refine Eqv_some ?_
    simp +decide only [h1, h2, if_true, if_false, ite_not, not_true_eq_false, not_false_eq_true, upI_get, upd_get, g14.1.1, g14.1.2.1]
    exact Fin_some (Inv_ref hI 1)
  refine Eqv_ite (fun h3 => ?_) (fun h3 => ?_)
  · refine Eqv_some ?_
    simp +decide only [h1, h2, h3, if_true, if_false, ite_not, not_true_eq_false, not_false_eq_true, upI_get, upd_get, g14.1.1, g14.1.2.1]
    exact Fin_some (Inv_ref hI 4)
  refine Eqv_ite (fun h4 => ?_) (fun h4 => ?_)
  · refine Eqv_some ?_
    simp +decide only [h1, h2, h3, h4, if_true, if_false, ite_not, not_true_eq_false, not_false_eq_true, upI_get, upd_get, g14.1.1, g14.1.2.1]
    exact Fin_some (Inv_ref hI 4)
  refine Eqv_ite (fun h5 => ?_) (fun h5 => ?_)
  · refine Eqv_some ?_
    simp +decide only [h1, h2, h3, h4, h5, if_true, if_false, ite_not, not_true_eq_false, not_false_eq_true, upI_get, upd_get, g14.1.1, g14.1.2.1]
    exact Fin_some (Inv_ref hI 6)
  refine Eqv_ite (fun h6 => ?_) (fun h6 => ?_)
  · refine Eqv_some ?_
    simp +decide only [h1, h2, h3, h4, h5, h6, if_true, if_false, ite_not, not_true_eq_false, not_false_eq_true, upI_get, upd_get, g14.1.1, g14.1.2.1]
    exact Fin_some (Inv_ref hI 6)
  have hl8 : (nI l = 8) = ¬ (nI l < 8) := nlt40 (c := 8) (by omega) g14.1.2.2
  refine Eqv_itn (fun h7 => ?_) (fun h7 => ?_)
  · refine Eqv_some ?_
    simp +decide only [h1, h2, h3, h4, h5, h6, if_true, if_false, ite_not, not_true_eq_false, not_false_eq_true, upI_get, upd_get, g14.1.1, g14.1.2.1, h7, hl8]
    exact Fin_some (Inv_ref hI 6)
  have hl9 := g14.1.2.2
  have hl : l < 8 := (nI_ltI (b := 8) (by omega) (by omega)).mp h7
  rw [ck_t (inN hl (by omega)), some_b]
  refine Eqv_some ?_
  simp +decide only [h1, h2, h3, h4, h5, h6, if_true, if_false, ite_not, not_true_eq_false, not_false_eq_true, upI_get, upd_get, g14.1.1, g14.1.2.1, h7, hl8, inN hl (show 8 < 2 ^ 31 by omega), ck_t, ixN (show l < 2 ^ 31 by omega)]
  refine Fin_eq (add_sub1 _) ⟨d, n, k, q, t, l + 1, j, g1, g2, g3, g4, g5, g6, g7, g8, g9, g10, g11, g12, g13, ?_, g15⟩
  refine ⟨⟨nI_1 l, nI_1 l, by omega⟩, ⟨?_, ?_, ?_⟩, fun e he => ?_⟩
  · show upd (M.1 36) l a = upd (M.1 81) l a
    rw [g14.2.1.1]
  · show upd (M.1 37) l b = upd (M.1 82) l b
    rw [g14.2.1.2.1]
  · show upd (M.1 38) l c = upd (M.1 83) l c
    rw [g14.2.1.2.2]
  · show rg (upd (M.1 82) l b e) 0 1759
    rw [upd_get]; split
    · exact rg_le (x := 0) (y := 1759) rfl rfl h3 h5
    · exact g14.2.2 e (by omega)
set_option maxHeartbeats 4000000 in
theorem op_day {M : Mem} (hI : Inv M) (a b c : Int32) : Eqv (xX9_day M a b c) (fun M1 => xX10_day M1 a b c) := by
  obtain ⟨d, n, k, q, t, l, j, g1, g2, g3, g4, g5, g6, g7, g8, g9, g10, g11, g12, g13, g14, g15⟩ := id hI
  unfold xX9_day xX10_day jX10_day_53 jX10_day_56 jX10_day_89 xX5_tell
  simp only [b_isDay, b_isKind, b_isMile, b_isDefect, b_isIn, b_wrong, b_isMile10, b_isDefect10, r9_1, r9_2, r9_3, r9_4, r9_6, r10_1, r10_2, r10_3, r10_4, r10_6, t9_1, t9_2, t9_3, t9_4, t9_6, t10_1, t10_2, t10_3, t10_4, t10_6, some_b, i10, i00, im1, im2, im3, im4, im6, if_true, if_false, n_lt1001 a, n_lt2 b, ite_not, g3.1.1, g3.1.2.1, b_rd]
  refine Eqv_ite (fun h1 => ?_) (fun h1 => ?_)
  · refine Eqv_some ?_
    simp +decide only [h1, if_true, if_false, ite_not, not_true_eq_false, not_false_eq_true, upI_get, upd_get, n_lt1001 a, n_lt2 b, ite_not, g3.1.1, g3.1.2.1, b_rd]
    exact Fin_some (Inv_ref hI 1)
  refine Eqv_ite (fun h2 => ?_) (fun h2 => ?_)
  · refine Eqv_some ?_
    simp +decide only [h1, h2, if_true, if_false, ite_not, not_true_eq_false, not_false_eq_true, upI_get, upd_get, n_lt1001 a, n_lt2 b, ite_not, g3.1.1, g3.1.2.1, b_rd]
    exact Fin_some (Inv_ref hI 1)
  refine Eqv_ite (fun h3 => ?_) (fun h3 => ?_)
  · refine Eqv_some ?_
    simp +decide only [h1, h2, h3, if_true, if_false, ite_not, not_true_eq_false, not_false_eq_true, upI_get, upd_get, n_lt1001 a, n_lt2 b, ite_not, g3.1.1, g3.1.2.1, b_rd]
    exact Fin_some (Inv_ref hI 2)
  refine Eqv_ite (fun h4 => ?_) (fun h4 => ?_)
  · refine Eqv_some ?_
    simp +decide only [h1, h2, h3, h4, if_true, if_false, ite_not, not_true_eq_false, not_false_eq_true, upI_get, upd_get, n_lt1001 a, n_lt2 b, ite_not, g3.1.1, g3.1.2.1, b_rd]
    exact Fin_some (Inv_ref hI 2)
  refine Eqv_ite (fun h5 => ?_) (fun h5 => ?_)
  · refine Eqv_some ?_
    simp +decide only [h1, h2, h3, h4, h5, if_true, if_false, ite_not, not_true_eq_false, not_false_eq_true, upI_get, upd_get, n_lt1001 a, n_lt2 b, ite_not, g3.1.1, g3.1.2.1, b_rd]
    exact Fin_some (Inv_ref hI 3)
  have dd := g3.1
  rcases bit_of h3 h4 with rfl | rfl
  · refine Eqv_ite (fun h6 => ?_) (fun h6 => ?_)
    · refine Eqv_some ?_
      simp +decide only [h1, h2, h5, h6, if_true, if_false, ite_not, not_true_eq_false, not_false_eq_true, upI_get, upd_get, dd.1, dd.2.1]
      exact Fin_some (Inv_ref hI 4)
    refine Eqv_ite (fun h7 => ?_) (fun h7 => ?_)
    · refine Eqv_some ?_
      have h7 : 99 < c := by rw [← g3.2.2.1.1]; exact h7
      simp +decide only [h1, h2, h5, h6, h7, if_true, if_false, ite_not, not_true_eq_false, not_false_eq_true, upI_get, upd_get, dd.1, dd.2.1]
      exact Fin_some (Inv_ref hI 6)
    have h7 : ¬ 99 < c := by rw [← g3.2.2.1.1]; exact h7
    obtain ⟨i, hi, rfl⟩ := ix_le (N := 1000) (b := 1000) rfl h1 h2
    rw [ck_t (inN (show i < 1001 by omega) (by omega)), some_b]
    refine Eqv_some ?_
    have hc : rg c (-1) 99 := rg_le (x := -1) (y := 99) rfl rfl h6 h7
    simp +decide only [h1, h2, h5, h6, h7, if_true, if_false, ite_not, not_true_eq_false, not_false_eq_true, upI_get, upd_get, dd.1, dd.2.1, inN (show i < 1001 by omega) (show 1001 < 2 ^ 31 by omega), ck_t, ixN (show i < 2 ^ 31 by omega)]
    refine Fin_eq (by show M.1 53 i = M.1 5 i; rw [g3.2.1.1]) ⟨d, n, k, q, t, l, j, g1, g2, ?_, g4, g5, g6, g7, g8, g9, g10, g11, g12, g13, g14, g15⟩
    refine ⟨dd, ⟨?_, ?_⟩, g3.2.2.1, fun e he => ⟨?_, ?_⟩⟩
    · show upd (M.1 5) i c = upd (M.1 53) i c
      rw [g3.2.1.1]
    · exact g3.2.1.2
    · exact rg_upd hc (g3.2.2.2 e he).1
    · exact (g3.2.2.2 e he).2
  · refine Eqv_ite (fun h6 => ?_) (fun h6 => ?_)
    · refine Eqv_some ?_
      simp +decide only [h1, h2, h5, h6, if_true, if_false, ite_not, not_true_eq_false, not_false_eq_true, upI_get, upd_get, dd.1, dd.2.1]
      exact Fin_some (Inv_ref hI 4)
    refine Eqv_ite (fun h7 => ?_) (fun h7 => ?_)
    · refine Eqv_some ?_
      have h7 : 40 < c := by rw [← g3.2.2.1.2.2.1]; exact h7
      simp +decide only [h1, h2, h5, h6, h7, if_true, if_false, ite_not, not_true_eq_false, not_false_eq_true, upI_get, upd_get, dd.1, dd.2.1]
      exact Fin_some (Inv_ref hI 6)
    have h7 : ¬ 40 < c := by rw [← g3.2.2.1.2.2.1]; exact h7
    obtain ⟨i, hi, rfl⟩ := ix_le (N := 1000) (b := 1000) rfl h1 h2
    rw [ck_t (inN (show i < 1001 by omega) (by omega)), some_b]
    refine Eqv_some ?_
    have hc : rg c (-1) 40 := rg_le (x := -1) (y := 40) rfl rfl h6 h7
    simp +decide only [h1, h2, h5, h6, h7, if_true, if_false, ite_not, not_true_eq_false, not_false_eq_true, upI_get, upd_get, dd.1, dd.2.1, inN (show i < 1001 by omega) (show 1001 < 2 ^ 31 by omega), ck_t, ixN (show i < 2 ^ 31 by omega)]
    refine Fin_eq (by show M.1 54 i = M.1 7 i; rw [g3.2.1.2]) ⟨d, n, k, q, t, l, j, g1, g2, ?_, g4, g5, g6, g7, g8, g9, g10, g11, g12, g13, g14, g15⟩
    refine ⟨dd, ⟨?_, ?_⟩, g3.2.2.1, fun e he => ⟨?_, ?_⟩⟩
    · exact g3.2.1.1
    · show upd (M.1 7) i c = upd (M.1 54) i c
      rw [g3.2.1.2]
    · exact (g3.2.2.2 e he).1
    · exact rg_upd hc (g3.2.2.2 e he).2
set_option maxHeartbeats 4000000 in
theorem op_span {M : Mem} (hI : Inv M) (a b : Int32) : Eqv (xX9_span M a b) (fun M1 => xX10_span M1 a b) := by
  obtain ⟨d, n, k, q, t, l, j, g1, g2, g3, g4, g5, g6, g7, g8, g9, g10, g11, g12, g13, g14, g15⟩ := id hI
  unfold xX9_span xX10_span jX10_span_40
  simp only [b_isDay, b_isKind, b_isMile, b_isDefect, b_isIn, b_wrong, b_isMile10, b_isDefect10, r9_1, r9_2, r9_3, r9_4, r9_6, r10_1, r10_2, r10_3, r10_4, r10_6, t9_1, t9_2, t9_3, t9_4, t9_6, t10_1, t10_2, t10_3, t10_4, t10_6, some_b, i10, i00, im1, im2, im3, im4, im6, if_true, if_false, n_lt2 b, ite_not, g5.1.1, g5.1.2.1]
  refine Eqv_ite (fun h1 => ?_) (fun h1 => ?_)
  · refine Eqv_some ?_
    simp +decide only [h1, if_true, if_false, ite_not, not_true_eq_false, not_false_eq_true, upI_get, upd_get, n_lt2 b, ite_not, g5.1.1, g5.1.2.1]
    exact Fin_some (Inv_ref hI 1)
  refine Eqv_itn (fun h2 => ?_) (fun h2 => ?_)
  · refine Eqv_some ?_
    simp +decide only [h1, h2, if_true, if_false, ite_not, not_true_eq_false, not_false_eq_true, upI_get, upd_get, n_lt2 b, ite_not, g5.1.1, g5.1.2.1]
    exact Fin_some (Inv_ref hI 1)
  refine Eqv_ite (fun h3 => ?_) (fun h3 => ?_)
  · refine Eqv_some ?_
    simp +decide only [h1, h2, h3, if_true, if_false, ite_not, not_true_eq_false, not_false_eq_true, upI_get, upd_get, n_lt2 b, ite_not, g5.1.1, g5.1.2.1]
    exact Fin_some (Inv_ref hI 2)
  refine Eqv_ite (fun h4 => ?_) (fun h4 => ?_)
  · refine Eqv_some ?_
    simp +decide only [h1, h2, h3, h4, if_true, if_false, ite_not, not_true_eq_false, not_false_eq_true, upI_get, upd_get, n_lt2 b, ite_not, g5.1.1, g5.1.2.1]
    exact Fin_some (Inv_ref hI 2)
  obtain ⟨⟨n1, n2, n3⟩, ⟨k1, k2, k3⟩, q1, ⟨e9, e10, e11, e12, e13, e14, e15⟩, hdr⟩ := id g5
  obtain ⟨i, hi, rfl⟩ := lt_nI (by omega) h1 h2
  have hib : inB (nI i) 40 = true := inN (by omega) (by omega)
  have hix : ix (nI i) = i := ixN (by omega)
  rw [ck_t hib]
  refine Eqv_ite (fun h5 => ?_) (fun h5 => ?_)
  · refine Eqv_some ?_
    rw [hix, e13] at h5
    simp +decide only [h1, h2, h3, h4, if_true, if_false, ite_not, not_true_eq_false, not_false_eq_true, upI_get, upd_get, g5.1.1, g5.1.2.1, n_lt2 b, ite_not, hib, hix, ck_t, h5]
    exact Fin_some (Inv_ref hI 3)
  rw [hix, e13] at h5
  refine Eqv_ite (fun h6 => ?_) (fun h6 => ?_)
  · refine Eqv_some ?_
    simp +decide only [h1, h2, h3, h4, if_true, if_false, ite_not, not_true_eq_false, not_false_eq_true, upI_get, upd_get, g5.1.1, g5.1.2.1, n_lt2 b, ite_not, hib, hix, ck_t, h5, h6]
    exact Fin_eq (by rw [e14]) hI
  · refine Eqv_some ?_
    simp +decide only [h1, h2, h3, h4, if_true, if_false, ite_not, not_true_eq_false, not_false_eq_true, upI_get, upd_get, g5.1.1, g5.1.2.1, n_lt2 b, ite_not, hib, hix, ck_t, h5, h6]
    exact Fin_eq (by rw [e15]) hI
set_option maxHeartbeats 4000000 in
theorem op_rule {M : Mem} (hI : Inv M) (a b c e f : Int32) : Eqv (xX9_rule M a b c e f) (fun M1 => xX10_rule M1 a b c e f) := by
  obtain ⟨d, n, k, q, t, l, j, g1, g2, g3, g4, g5, g6, g7, g8, g9, g10, g11, g12, g13, g14, g15⟩ := id hI
  unfold xX9_rule xX10_rule xX6_add
  simp only [b_isDay, b_isKind, b_isMile, b_isDefect, b_isIn, b_wrong, b_isMile10, b_isDefect10, r9_1, r9_2, r9_3, r9_4, r9_6, r10_1, r10_2, r10_3, r10_4, r10_6, t9_1, t9_2, t9_3, t9_4, t9_6, t10_1, t10_2, t10_3, t10_4, t10_6, some_b, i10, i00, im1, im2, im3, im4, im6, if_true, if_false, n_lt4 e, ite_not, g9.1.1, g9.1.2.1, g3.1.1, g3.1.2.1]
  refine Eqv_ite (fun h1 => ?_) (fun h1 => ?_)
  · refine Eqv_some ?_
    simp +decide only [h1, if_true, if_false, ite_not, not_true_eq_false, not_false_eq_true, upI_get, upd_get, n_lt4 e, ite_not, g9.1.1, g9.1.2.1, g3.1.1, g3.1.2.1]
    exact Fin_some (Inv_ref hI 1)
  refine Eqv_itn (fun h2 => ?_) (fun h2 => ?_)
  · refine Eqv_some ?_
    simp +decide only [h1, h2, if_true, if_false, ite_not, not_true_eq_false, not_false_eq_true, upI_get, upd_get, n_lt4 e, ite_not, g9.1.1, g9.1.2.1, g3.1.1, g3.1.2.1]
    exact Fin_some (Inv_ref hI 1)
  refine Eqv_ite (fun h3 => ?_) (fun h3 => ?_)
  · refine Eqv_some ?_
    simp +decide only [h1, h2, h3, if_true, if_false, ite_not, not_true_eq_false, not_false_eq_true, upI_get, upd_get, n_lt4 e, ite_not, g9.1.1, g9.1.2.1, g3.1.1, g3.1.2.1]
    exact Fin_some (Inv_ref hI 2)
  refine Eqv_ite (fun h4 => ?_) (fun h4 => ?_)
  · refine Eqv_some ?_
    simp +decide only [h1, h2, h3, h4, if_true, if_false, ite_not, not_true_eq_false, not_false_eq_true, upI_get, upd_get, n_lt4 e, ite_not, g9.1.1, g9.1.2.1, g3.1.1, g3.1.2.1]
    exact Fin_some (Inv_ref hI 2)
  refine Eqv_ite (fun h5 => ?_) (fun h5 => ?_)
  · refine Eqv_some ?_
    simp +decide only [h1, h2, h3, h4, h5, if_true, if_false, ite_not, not_true_eq_false, not_false_eq_true, upI_get, upd_get, n_lt4 e, ite_not, g9.1.1, g9.1.2.1, g3.1.1, g3.1.2.1]
    exact Fin_some (Inv_ref hI 4)
  refine Eqv_ite (fun h6 => ?_) (fun h6 => ?_)
  · refine Eqv_some ?_
    simp +decide only [h1, h2, h3, h4, h5, h6, if_true, if_false, ite_not, not_true_eq_false, not_false_eq_true, upI_get, upd_get, n_lt4 e, ite_not, g9.1.1, g9.1.2.1, g3.1.1, g3.1.2.1]
    exact Fin_some (Inv_ref hI 4)
  refine Eqv_ite (fun h7 => ?_) (fun h7 => ?_)
  · refine Eqv_some ?_
    simp +decide only [h1, h2, h3, h4, h5, h6, h7, if_true, if_false, ite_not, not_true_eq_false, not_false_eq_true, upI_get, upd_get, n_lt4 e, ite_not, g9.1.1, g9.1.2.1, g3.1.1, g3.1.2.1]
    exact Fin_some (Inv_ref hI 4)
  refine Eqv_ite (fun h8 => ?_) (fun h8 => ?_)
  · refine Eqv_some ?_
    simp +decide only [h1, h2, h3, h4, h5, h6, h7, h8, if_true, if_false, ite_not, not_true_eq_false, not_false_eq_true, upI_get, upd_get, n_lt4 e, ite_not, g9.1.1, g9.1.2.1, g3.1.1, g3.1.2.1]
    exact Fin_some (Inv_ref hI 6)
  refine Eqv_ite (fun h9 => ?_) (fun h9 => ?_)
  · refine Eqv_some ?_
    simp +decide only [h1, h2, h3, h4, h5, h6, h7, h8, h9, if_true, if_false, ite_not, not_true_eq_false, not_false_eq_true, upI_get, upd_get, n_lt4 e, ite_not, g9.1.1, g9.1.2.1, g3.1.1, g3.1.2.1]
    exact Fin_some (Inv_ref hI 6)
  refine Eqv_ite (fun h10 => ?_) (fun h10 => ?_)
  · refine Eqv_some ?_
    simp +decide only [h1, h2, h3, h4, h5, h6, h7, h8, h9, h10, if_true, if_false, ite_not, not_true_eq_false, not_false_eq_true, upI_get, upd_get, n_lt4 e, ite_not, g9.1.1, g9.1.2.1, g3.1.1, g3.1.2.1]
    exact Fin_some (Inv_ref hI 6)
  have hq9 := g9.1.2.2
  have hq8 : (nI q = 30) = ¬ (nI q < 30) := nlt40 (c := 30) (by omega) g9.1.2.2
  refine Eqv_itn (fun h11 => ?_) (fun h11 => ?_)
  · refine Eqv_some ?_
    simp +decide only [h1, h2, h3, h4, h5, h6, h7, h8, h9, h10, if_true, if_false, ite_not, not_true_eq_false, not_false_eq_true, upI_get, upd_get, g9.1.1, g9.1.2.1, g3.1.1, g3.1.2.1, n_lt4 e, ite_not, h11, hq8]
    exact Fin_some (Inv_ref hI 6)
  have hq : q < 30 := (nI_ltI (b := 30) (by omega) (by omega)).mp h11
  rw [ck_t (inN hq (by omega)), some_b]
  refine Eqv_some ?_
  simp +decide only [h1, h2, h3, h4, h5, h6, h7, h8, h9, h10, if_true, if_false, ite_not, not_true_eq_false, not_false_eq_true, upI_get, upd_get, g9.1.1, g9.1.2.1, g3.1.1, g3.1.2.1, n_lt4 e, ite_not, h11, hq8, inN hq (show 30 < 2 ^ 31 by omega), ck_t, ixN (show q < 2 ^ 31 by omega)]
  refine Fin_eq (add_sub1 _) ⟨d, n, k, q + 1, t, l, j, g1, g2, g3, g4, g5, g6, g7, g8, ?_, g10, g11, g12, g13, g14, g15⟩
  obtain ⟨r1, r2, r3, r4, r5⟩ := g9.2.1
  refine ⟨⟨nI_1 q, nI_1 q, by omega⟩, ⟨?_, ?_, ?_, ?_, ?_⟩, fun i hi => ⟨?_, ?_⟩⟩
  · show upd (M.1 19) q e = upd (M.1 70) q e
    rw [r1]
  · show upd (M.1 20) q f = upd (M.1 71) q f
    rw [r2]
  · show upd (M.1 21) q a = upd (M.1 67) q a
    rw [r3]
  · show upd (M.1 22) q b = upd (M.1 68) q b
    rw [r4]
  · show upd (M.1 23) q c = upd (M.1 69) q c
    rw [r5]
  · show rg (upd (M.1 70) q e i) 0 3
    rw [upd_get]; split
    · exact rg_le (x := 0) (y := 3) rfl rfl h3 h4
    · exact (g9.2.2 i (by omega)).1
  · show rg (upd (M.1 71) q f i) 0 60
    rw [upd_get]; split
    · exact rg_le (x := 0) (y := 60) rfl rfl h7 h10
    · exact (g9.2.2 i (by omega)).2
set_option maxHeartbeats 4000000 in
theorem op_slow {M : Mem} (hI : Inv M) (a b : Int32) : Eqv (xX9_slow M a b) (fun M1 => xX10_slow M1 a b) := by
  obtain ⟨d, n, k, q, t, l, j, g1, g2, g3, g4, g5, g6, g7, g8, g9, g10, g11, g12, g13, g14, g15⟩ := id hI
  unfold xX9_slow xX10_slow jX10_slow_32 xX7_standsOn
  simp only [b_isDay, b_isKind, b_isMile, b_isDefect, b_isIn, b_wrong, b_isMile10, b_isDefect10, r9_1, r9_2, r9_3, r9_4, r9_6, r10_1, r10_2, r10_3, r10_4, r10_6, t9_1, t9_2, t9_3, t9_4, t9_6, t10_1, t10_2, t10_3, t10_4, t10_6, some_b, i10, i00, im1, im2, im3, im4, im6, if_true, if_false]
  refine Eqv_ite (fun h1 => ?_) (fun h1 => ?_)
  · refine Eqv_some ?_
    simp +decide only [h1, if_true, if_false, ite_not, not_true_eq_false, not_false_eq_true, upI_get, upd_get]
    exact Fin_some (Inv_ref hI 1)
  refine Eqv_itn (fun h2 => ?_) (fun h2 => ?_)
  · refine Eqv_some ?_
    simp +decide only [h1, h2, if_true, if_false, ite_not, not_true_eq_false, not_false_eq_true, upI_get, upd_get]
    exact Fin_some (Inv_ref hI 1)
  obtain ⟨i, hi, rfl⟩ := ix_of (N := 20) (b := 20) rfl h1 h2
  have hib : inB (nI i) 20 = true := inN (by omega) (by omega)
  have hix : ix (nI i) = i := ixN (by omega)
  rw [ck_t hib, hix, g10.1]
  by_cases h3 : 0 < M.1 72 i
  · rw [if_pos h3]
    refine Eqv_some ?_
    simp +decide only [h1, h2, if_true, if_false, ite_not, not_true_eq_false, not_false_eq_true, upI_get, upd_get, hib, hix, ck_t, h3]
    exact Fin_some (Inv_ref hI 3)
  rw [if_neg h3]
  show Eqv (if b < 1 then _ else _) _
  refine Eqv_ite (fun h4 => ?_) (fun h4 => ?_)
  · refine Eqv_some ?_
    simp +decide only [h1, h2, if_true, if_false, ite_not, not_true_eq_false, not_false_eq_true, upI_get, upd_get, hib, hix, ck_t, h3, h4]
    exact Fin_some (Inv_ref hI 4)
  refine Eqv_ite (fun h5 => ?_) (fun h5 => ?_)
  · refine Eqv_some ?_
    simp +decide only [h1, h2, if_true, if_false, ite_not, not_true_eq_false, not_false_eq_true, upI_get, upd_get, hib, hix, ck_t, h3, h4, h5]
    exact Fin_some (Inv_ref hI 6)
  rw [ck_t hib]
  refine Eqv_some ?_
  simp +decide only [h1, h2, if_true, if_false, ite_not, not_true_eq_false, not_false_eq_true, upI_get, upd_get, hib, hix, ck_t, h3, h4, h5]
  refine Fin_some ⟨d, n, k, q, t, l, j, g1, g2, g3, g4, g5, g6, g7, g8, g9, ?_, g11, g12, g13, g14, g15⟩
  have hr0 : rg b 1 30 := rg_le (x := 1) (y := 30) rfl rfl h4 h5
  have hr : rg b 0 30 := ⟨by have := hr0.1; omega, hr0.2⟩
  refine ⟨?_, g10.2.1, fun e he => rg_upd hr (g10.2.2 e he)⟩
  show upd (M.1 25) i b = upd (M.1 72) i b
  rw [g10.1]
set_option maxHeartbeats 4000000 in
theorem op_train {M : Mem} (hI : Inv M) (a b : Int32) : Eqv (xX9_train M a b) (fun M1 => xX10_train M1 a b) := by
  obtain ⟨d, n, k, q, t, l, j, g1, g2, g3, g4, g5, g6, g7, g8, g9, g10, g11, g12, g13, g14, g15⟩ := id hI
  unfold xX9_train xX10_train xX8_add
  simp only [b_isDay, b_isKind, b_isMile, b_isDefect, b_isIn, b_wrong, b_isMile10, b_isDefect10, r9_1, r9_2, r9_3, r9_4, r9_6, r10_1, r10_2, r10_3, r10_4, r10_6, t9_1, t9_2, t9_3, t9_4, t9_6, t10_1, t10_2, t10_3, t10_4, t10_6, some_b, i10, i00, im1, im2, im3, im4, im6, if_true, if_false, n_lt1440 a, ite_not, g11.1.1, g11.1.2.1]
  refine Eqv_ite (fun h1 => ?_) (fun h1 => ?_)
  · refine Eqv_some ?_
    simp +decide only [h1, if_true, if_false, ite_not, not_true_eq_false, not_false_eq_true, upI_get, upd_get, n_lt1440 a, ite_not, g11.1.1, g11.1.2.1]
    exact Fin_some (Inv_ref hI 4)
  refine Eqv_ite (fun h2 => ?_) (fun h2 => ?_)
  · refine Eqv_some ?_
    simp +decide only [h1, h2, if_true, if_false, ite_not, not_true_eq_false, not_false_eq_true, upI_get, upd_get, n_lt1440 a, ite_not, g11.1.1, g11.1.2.1]
    exact Fin_some (Inv_ref hI 4)
  refine Eqv_ite (fun h3 => ?_) (fun h3 => ?_)
  · refine Eqv_some ?_
    simp +decide only [h1, h2, h3, if_true, if_false, ite_not, not_true_eq_false, not_false_eq_true, upI_get, upd_get, n_lt1440 a, ite_not, g11.1.1, g11.1.2.1]
    exact Fin_some (Inv_ref hI 6)
  refine Eqv_ite (fun h4 => ?_) (fun h4 => ?_)
  · refine Eqv_some ?_
    simp +decide only [h1, h2, h3, h4, if_true, if_false, ite_not, not_true_eq_false, not_false_eq_true, upI_get, upd_get, n_lt1440 a, ite_not, g11.1.1, g11.1.2.1]
    exact Fin_some (Inv_ref hI 6)
  have ht9 := g11.1.2.2
  have ht8 : (nI t = 24) = ¬ (nI t < 24) := nlt40 (c := 24) (by omega) g11.1.2.2
  refine Eqv_itn (fun h5 => ?_) (fun h5 => ?_)
  · refine Eqv_some ?_
    simp +decide only [h1, h2, h3, h4, if_true, if_false, ite_not, not_true_eq_false, not_false_eq_true, upI_get, upd_get, g11.1.1, g11.1.2.1, n_lt1440 a, ite_not, h5, ht8]
    exact Fin_some (Inv_ref hI 6)
  have ht : t < 24 := (nI_ltI (b := 24) (by omega) (by omega)).mp h5
  rw [ck_t (inN ht (by omega)), some_b]
  refine Eqv_some ?_
  simp +decide only [h1, h2, h3, h4, if_true, if_false, ite_not, not_true_eq_false, not_false_eq_true, upI_get, upd_get, g11.1.1, g11.1.2.1, n_lt1440 a, ite_not, h5, ht8, inN ht (show 24 < 2 ^ 31 by omega), ck_t, ixN (show t < 2 ^ 31 by omega)]
  refine Fin_eq (add_sub1 _) ⟨d, n, k, q, t + 1, l, j, g1, g2, g3, g4, g5, g6, g7, g8, g9, g10, ?_, g12, g13, g14, g15⟩
  obtain ⟨r1, r2⟩ := g11.2.1
  refine ⟨⟨nI_1 t, nI_1 t, by omega⟩, ⟨?_, ?_⟩, fun i hi => ⟨?_, ?_⟩⟩
  · show upd (M.1 27) t a = upd (M.1 79) t a
    rw [r1]
  · show upd (M.1 28) t b = upd (M.1 80) t b
    rw [r2]
  · show rg (upd (M.1 79) t a i) 0 1439
    rw [upd_get]; split
    · exact rg_le (x := 0) (y := 1439) rfl rfl h1 h3
    · exact (g11.2.2 i (by omega)).1
  · show rg (upd (M.1 80) t b i) 1 9
    rw [upd_get]; split
    · exact rg_le (x := 1) (y := 9) rfl rfl h2 h4
    · exact (g11.2.2 i (by omega)).2
set_option maxHeartbeats 4000000 in
theorem op_gang {M : Mem} (hI : Inv M) (a b : Int32) : Eqv (xX9_gang M a b) (fun M1 => xX10_gang M1 a b) := by
  obtain ⟨d, n, k, q, t, l, j, g1, g2, g3, g4, g5, g6, g7, g8, g9, g10, g11, g12, g13, g14, g15⟩ := id hI
  unfold xX9_gang xX10_gang jX10_gang_19
  simp only [b_isDay, b_isKind, b_isMile, b_isDefect, b_isIn, b_wrong, b_isMile10, b_isDefect10, r9_1, r9_2, r9_3, r9_4, r9_6, r10_1, r10_2, r10_3, r10_4, r10_6, t9_1, t9_2, t9_3, t9_4, t9_6, t10_1, t10_2, t10_3, t10_4, t10_6, some_b, i10, i00, im1, im2, im3, im4, im6, if_true, if_false, n_lt2 a, ite_not]
  refine Eqv_ite (fun h1 => ?_) (fun h1 => ?_)
  · refine Eqv_some ?_
    simp +decide only [h1, if_true, if_false, ite_not, not_true_eq_false, not_false_eq_true, upI_get, upd_get, n_lt2 a, ite_not]
    exact Fin_some (Inv_ref hI 1)
  refine Eqv_ite (fun h2 => ?_) (fun h2 => ?_)
  · refine Eqv_some ?_
    simp +decide only [h1, h2, if_true, if_false, ite_not, not_true_eq_false, not_false_eq_true, upI_get, upd_get, n_lt2 a, ite_not]
    exact Fin_some (Inv_ref hI 1)
  refine Eqv_ite (fun h3 => ?_) (fun h3 => ?_)
  · refine Eqv_some ?_
    simp +decide only [h1, h2, h3, if_true, if_false, ite_not, not_true_eq_false, not_false_eq_true, upI_get, upd_get, n_lt2 a, ite_not]
    exact Fin_some (Inv_ref hI 4)
  refine Eqv_ite (fun h4 => ?_) (fun h4 => ?_)
  · refine Eqv_some ?_
    simp +decide only [h1, h2, h3, h4, if_true, if_false, ite_not, not_true_eq_false, not_false_eq_true, upI_get, upd_get, n_lt2 a, ite_not]
    exact Fin_some (Inv_ref hI 6)
  obtain ⟨i, hi, rfl⟩ := ix_le (N := 1) (b := 1) rfl h1 h2
  have hib : inB (nI i) 2 = true := inN (by omega) (by omega)
  have hix : ix (nI i) = i := ixN (by omega)
  rw [ck_t hib]
  refine Eqv_some ?_
  simp +decide only [h1, h2, h3, h4, if_true, if_false, ite_not, not_true_eq_false, not_false_eq_true, upI_get, upd_get, hib, hix, ck_t, n_lt2 (nI i)]
  obtain ⟨r0, ⟨r1, r2, r3, r4⟩, r5, r6⟩ := id g15
  refine Fin_eq (by show M.1 87 i = M.1 42 i; rw [r1]) ⟨d, n, k, q, t, l, j, g1, g2, g3, g4, g5, g6, g7, g8, g9, g10, g11, g12, g13, g14, ?_⟩
  refine ⟨r0, ⟨?_, r2, r3, r4⟩, r5, r6⟩
  show upd (M.1 42) i b = upd (M.1 87) i b
  rw [r1]
set_option maxHeartbeats 4000000 in
theorem op_heat {M : Mem} (hI : Inv M) (a : Int32) : Eqv (xX9_heat M a) (fun M1 => xX10_heat M1 a) := by
  obtain ⟨d, n, k, q, t, l, j, g1, g2, g3, g4, g5, g6, g7, g8, g9, g10, g11, g12, g13, g14, g15⟩ := id hI
  unfold xX9_heat xX10_heat xX9_heatOf xX10_heatOf
  simp only [b_isDay, b_isKind, b_isMile, b_isDefect, b_isIn, b_wrong, b_isMile10, b_isDefect10, r9_1, r9_2, r9_3, r9_4, r9_6, r10_1, r10_2, r10_3, r10_4, r10_6, t9_1, t9_2, t9_3, t9_4, t9_6, t10_1, t10_2, t10_3, t10_4, t10_6, some_b, i10, i00, im1, im2, im3, im4, im6, if_true, if_false]
  refine Eqv_ite (fun h1 => ?_) (fun h1 => ?_)
  · refine Eqv_some ?_
    simp +decide only [h1, if_true, if_false, ite_not, not_true_eq_false, not_false_eq_true, upI_get, upd_get]
    exact Fin_some (Inv_ref hI 1)
  refine Eqv_itn (fun h2 => ?_) (fun h2 => ?_)
  · refine Eqv_some ?_
    simp +decide only [h1, h2, if_true, if_false, ite_not, not_true_eq_false, not_false_eq_true, upI_get, upd_get]
    exact Fin_some (Inv_ref hI 1)
  obtain ⟨i, hi, rfl⟩ := ix_of (N := 20) (b := 20) rfl h1 h2
  have hib : inB (nI i) 20 = true := inN (by omega) (by omega)
  rw [ck_t hib, some_b]
  refine Eqv_some ?_
  simp +decide only [h1, h2, if_true, if_false, ite_not, not_true_eq_false, not_false_eq_true, upI_get, upd_get, hib, ck_t, some_b]
  exact Fin_eq (by rw [g2.1.2.2.2, g8]) hI
set_option maxHeartbeats 4000000 in
theorem op_doubles {M : Mem} (hI : Inv M) (a b c e : Int32) : Eqv (xX9_doubles M a b c e) (fun M1 => xX10_doubles M1 a b c e) := by
  obtain ⟨d, n, k, q, t, l, j, g1, g2, g3, g4, g5, g6, g7, g8, g9, g10, g11, g12, g13, g14, g15⟩ := id hI
  unfold xX9_doubles xX10_doubles xX2_hasRoom xX2_add
  simp only [b_isDay, b_isKind, b_isMile, b_isDefect, b_isIn, b_wrong, b_isMile10, b_isDefect10, r9_1, r9_2, r9_3, r9_4, r9_6, r10_1, r10_2, r10_3, r10_4, r10_6, t9_1, t9_2, t9_3, t9_4, t9_6, t10_1, t10_2, t10_3, t10_4, t10_6, some_b, i10, i00, im1, im2, im3, im4, im6, if_true, if_false]
  refine Eqv_ite (fun h1 => ?_) (fun h1 => ?_)
  · refine Eqv_some ?_
    simp +decide only [h1, if_true, if_false, ite_not, not_true_eq_false, not_false_eq_true, upI_get]
    exact Fin_some (Inv_ref hI 1)
  refine Eqv_itn (fun h2 => ?_) (fun h2 => ?_)
  · refine Eqv_some ?_
    simp +decide only [h1, h2, if_true, if_false, ite_not, not_true_eq_false, not_false_eq_true, upI_get]
    exact Fin_some (Inv_ref hI 1)
  refine Eqv_ite (fun h3 => ?_) (fun h3 => ?_)
  · refine Eqv_some ?_
    simp +decide only [h1, h2, h3, if_true, if_false, ite_not, not_true_eq_false, not_false_eq_true, upI_get]
    exact Fin_some (Inv_ref hI 4)
  refine Eqv_ite (fun h4 => ?_) (fun h4 => ?_)
  · refine Eqv_some ?_
    simp +decide only [h1, h2, h3, h4, if_true, if_false, ite_not, not_true_eq_false, not_false_eq_true, upI_get]
    exact Fin_some (Inv_ref hI 4)
  refine Eqv_ite (fun h5 => ?_) (fun h5 => ?_)
  · refine Eqv_some ?_
    simp +decide only [h1, h2, h3, h4, h5, if_true, if_false, ite_not, not_true_eq_false, not_false_eq_true, upI_get]
    exact Fin_some (Inv_ref hI 4)
  obtain ⟨i, hi, rfl⟩ := ix_of (N := 20) (b := 20) rfl h1 h2
  have hib : inB (nI i) 20 = true := inN (by omega) (by omega)
  have hix : ix (nI i) = i := ixN (by omega)
  obtain ⟨⟨r1, r2, r3⟩, r4⟩ := id g13
  obtain ⟨s1, s2, s3⟩ := r4 i hi
  have key : ∀ v x : Int32, ¬ v < 0 → rg x 0 99 → ((99 - x < v) ↔ (99 < v ∨ 99 < x + v)) := by
    intro v x hv hx
    have e1 : (99 - x).toInt = 99 - x.toInt := by
      rw [Int32.toInt_sub, show (99 : Int32).toInt = 99 from rfl]
      have := hx.1; have := hx.2
      exact Int.bmod_eq_of_le (by omega) (by omega)
    rw [lt_i] at hv
    rw [lt_i, lt_i, lt_i, e1, show (99 : Int32).toInt = 99 from rfl]
    rw [show (0 : Int32).toInt = 0 from rfl] at hv
    have a1 := hx.1; have a2 := hx.2
    by_cases hb : 99 < v.toInt
    · exact ⟨fun _ => Or.inl hb, fun _ => by omega⟩
    · have e2 : (x + v).toInt = x.toInt + v.toInt := by
        rw [Int32.toInt_add]
        exact Int.bmod_eq_of_le (by omega) (by omega)
      rw [e2]
      omega
  have kb := key b _ h3 s1
  have kc := key c _ h4 s2
  have ke := key e _ h5 s3
  rw [ck_t hib, hix, r1, r2, r3]
  by_cases x1 : 99 < b
  · rw [if_pos x1]
    refine Eqv_some ?_
    simp +decide only [h1, h2, h3, h4, h5, if_true, if_false, ite_not, not_true_eq_false, not_false_eq_true, upI_get, hib, hix, ck_t, kb.mpr (Or.inl x1)]
    exact Fin_some (Inv_ref hI 6)
  rw [if_neg x1]
  by_cases x2 : 99 < c
  · rw [if_pos x2]
    refine Eqv_some ?_
    simp +decide only [h1, h2, h3, h4, h5, if_true, if_false, ite_not, not_true_eq_false, not_false_eq_true, upI_get, hib, hix, ck_t, kc.mpr (Or.inl x2), ite_self]
    exact Fin_some (Inv_ref hI 6)
  rw [if_neg x2]
  by_cases x3 : 99 < e
  · rw [if_pos x3]
    refine Eqv_some ?_
    simp +decide only [h1, h2, h3, h4, h5, if_true, if_false, ite_not, not_true_eq_false, not_false_eq_true, upI_get, hib, hix, ck_t, ke.mpr (Or.inl x3), ite_self]
    exact Fin_some (Inv_ref hI 6)
  rw [if_neg x3]
  by_cases y1 : 99 < M.1 74 i + b
  · rw [if_pos y1, some_b, if_pos rfl]
    refine Eqv_some ?_
    simp +decide only [h1, h2, h3, h4, h5, if_true, if_false, ite_not, not_true_eq_false, not_false_eq_true, upI_get, hib, hix, ck_t, kb.mpr (Or.inr y1)]
    exact Fin_some (Inv_ref hI 6)
  rw [if_neg y1]
  by_cases y2 : 99 < M.1 75 i + c
  · rw [if_pos y2, some_b, if_pos rfl]
    refine Eqv_some ?_
    simp +decide only [h1, h2, h3, h4, h5, if_true, if_false, ite_not, not_true_eq_false, not_false_eq_true, upI_get, hib, hix, ck_t, kc.mpr (Or.inr y2), ite_self]
    exact Fin_some (Inv_ref hI 6)
  rw [if_neg y2]
  by_cases y3 : 99 < M.1 76 i + e
  · rw [if_pos y3, some_b, if_pos rfl]
    refine Eqv_some ?_
    simp +decide only [h1, h2, h3, h4, h5, if_true, if_false, ite_not, not_true_eq_false, not_false_eq_true, upI_get, hib, hix, ck_t, ke.mpr (Or.inr y3), ite_self]
    exact Fin_some (Inv_ref hI 6)
  rw [if_neg y3, some_b, if_neg (by decide), ck_t hib, some_b]
  have zb : ¬ (99 - M.1 74 i < b) := fun z => (kb.mp z).elim x1 y1
  have zc : ¬ (99 - M.1 75 i < c) := fun z => (kc.mp z).elim x2 y2
  have ze : ¬ (99 - M.1 76 i < e) := fun z => (ke.mp z).elim x3 y3
  refine Eqv_some ?_
  simp +decide only [h1, h2, h3, h4, h5, if_true, if_false, ite_not, not_true_eq_false, not_false_eq_true, upI_get, hib, hix, ck_t, zb, zc, ze]
  refine Fin_some ⟨d, n, k, q, t, l, j, g1, g2, g3, g4, g5, g6, g7, g8, g9, g10, g11, g12, ?_, g14, g15⟩
  have fin : ∀ v x : Int32, ¬ v < 0 → ¬ 99 < v → ¬ 99 < x + v → rg x 0 99 → rg (x + v) 0 99 := by
    intro v x h1 h2 h3 hx
    rw [lt_i] at h1 h2 h3
    rw [show (99 : Int32).toInt = 99 from rfl] at h2 h3
    rw [show (0 : Int32).toInt = 0 from rfl] at h1
    have a1 := hx.1; have a2 := hx.2
    have e2 : (x + v).toInt = x.toInt + v.toInt := by
      rw [Int32.toInt_add]
      exact Int.bmod_eq_of_le (by omega) (by omega)
    unfold rg
    rw [e2] at h3 ⊢
    omega
  refine ⟨⟨?_, ?_, ?_⟩, fun u hu => ⟨rg_upd (fin b _ h3 x1 y1 s1) (r4 u hu).1, rg_upd (fin c _ h4 x2 y2 s2) (r4 u hu).2.1, rg_upd (fin e _ h5 x3 y3 s3) (r4 u hu).2.2⟩⟩
  · show upd (M.1 32) i _ = upd (M.1 74) i _
    rw [r1]
  · show upd (M.1 33) i _ = upd (M.1 75) i _
    rw [r2]
  · show upd (M.1 34) i _ = upd (M.1 76) i _
    rw [r3]
set_option maxHeartbeats 4000000 in
theorem op_set {M : Mem} (hI : Inv M) (a b : Int32) : Eqv (xX9_set M a b) (fun M1 => xX10_set M1 a b) := by
  obtain ⟨d, n, k, q, t, l, j, g1, g2, g3, g4, g5, g6, g7, g8, g9, g10, g11, g12, g13, g14, g15⟩ := id hI
  unfold xX9_set xX10_set jX10_set_35 jX10_set_67 jX10_set_70 jX10_set_120
  simp only [b_isDay, b_isKind, b_isMile, b_isDefect, b_isIn, b_wrong, b_isMile10, b_isDefect10, r9_1, r9_2, r9_3, r9_4, r9_6, r10_1, r10_2, r10_3, r10_4, r10_6, t9_1, t9_2, t9_3, t9_4, t9_6, t10_1, t10_2, t10_3, t10_4, t10_6, some_b, i10, i00, im1, im2, im3, im4, im6, if_true, if_false, n_lt4 a, ite_not]
  refine Eqv_ite (fun h1 => ?_) (fun h1 => ?_)
  · refine Eqv_some ?_
    simp +decide only [h1, if_true, if_false, ite_not, not_true_eq_false, not_false_eq_true, upI_get, upd_get, n_lt4 a, ite_not]
    exact Fin_some (Inv_ref hI 2)
  refine Eqv_ite (fun h2 => ?_) (fun h2 => ?_)
  · refine Eqv_some ?_
    simp +decide only [h1, h2, if_true, if_false, ite_not, not_true_eq_false, not_false_eq_true, upI_get, upd_get, n_lt4 a, ite_not]
    exact Fin_some (Inv_ref hI 2)
  obtain ⟨i, hi, rfl⟩ := ix_le (N := 3) (b := 3) rfl h1 h2
  rcases (show i = 0 ∨ i = 1 ∨ i = 2 ∨ i = 3 by omega) with rfl | rfl | rfl | rfl
  · rw [ck_t (by decide)]
    refine Eqv_ite (fun h3 => ?_) (fun h3 => ?_)
    · refine Eqv_some ?_
      have h3 : b < 0 := h3
      simp +decide only [h1, h2, if_true, if_false, ite_not, not_true_eq_false, not_false_eq_true, upI_get, upd_get, h3]
      exact Fin_some (Inv_ref hI 4)
    refine Eqv_ite (fun h4 => ?_) (fun h4 => ?_)
    · refine Eqv_some ?_
      have h3 : ¬ b < 0 := h3
      have h4 : 99 < b := h4
      simp +decide only [h1, h2, if_true, if_false, ite_not, not_true_eq_false, not_false_eq_true, upI_get, upd_get, h3, h4]
      exact Fin_some (Inv_ref hI 6)
    refine Eqv_some ?_
    have h3 : ¬ b < 0 := h3
    have h4 : ¬ 99 < b := h4
    have hr : rg b 0 99 := rg_le (x := 0) (y := 99) rfl rfl h3 h4
    simp +decide only [h1, h2, if_true, if_false, ite_not, not_true_eq_false, not_false_eq_true, upI_get, upd_get, h3, h4]
    exact Fin_eq g2.1.1.symm ⟨d, n, k, q, t, l, j, g1, ⟨⟨rfl, g2.1.2.1, g2.1.2.2.1, g2.1.2.2.2⟩, g2.2.1, g2.2.2⟩, g3, g4, g5, g6, g7, g8, g9, g10, g11, g12, g13, g14, g15⟩
  · rw [ck_t (by decide)]
    refine Eqv_ite (fun h3 => ?_) (fun h3 => ?_)
    · refine Eqv_some ?_
      have h3 : b < 10 := h3
      simp +decide only [h1, h2, if_true, if_false, ite_not, not_true_eq_false, not_false_eq_true, upI_get, upd_get, h3]
      exact Fin_some (Inv_ref hI 4)
    refine Eqv_ite (fun h4 => ?_) (fun h4 => ?_)
    · refine Eqv_some ?_
      have h3 : ¬ b < 10 := h3
      have h4 : 60 < b := h4
      simp +decide only [h1, h2, if_true, if_false, ite_not, not_true_eq_false, not_false_eq_true, upI_get, upd_get, h3, h4]
      exact Fin_some (Inv_ref hI 6)
    refine Eqv_some ?_
    have h3 : ¬ b < 10 := h3
    have h4 : ¬ 60 < b := h4
    have hr : rg b 10 60 := rg_le (x := 10) (y := 60) rfl rfl h3 h4
    simp +decide only [h1, h2, if_true, if_false, ite_not, not_true_eq_false, not_false_eq_true, upI_get, upd_get, h3, h4]
    exact Fin_eq g2.1.2.1.symm ⟨d, n, k, q, t, l, j, g1, ⟨⟨g2.1.1, rfl, g2.1.2.2.1, g2.1.2.2.2⟩, hr, g2.2.2⟩, g3, g4, g5, g6, g7, g8, g9, g10, g11, g12, g13, g14, g15⟩
  · rw [ck_t (by decide)]
    refine Eqv_ite (fun h3 => ?_) (fun h3 => ?_)
    · refine Eqv_some ?_
      have h3 : b < 0 := h3
      simp +decide only [h1, h2, if_true, if_false, ite_not, not_true_eq_false, not_false_eq_true, upI_get, upd_get, h3]
      exact Fin_some (Inv_ref hI 4)
    refine Eqv_ite (fun h4 => ?_) (fun h4 => ?_)
    · refine Eqv_some ?_
      have h3 : ¬ b < 0 := h3
      have h4 : 200 < b := h4
      simp +decide only [h1, h2, if_true, if_false, ite_not, not_true_eq_false, not_false_eq_true, upI_get, upd_get, h3, h4]
      exact Fin_some (Inv_ref hI 6)
    refine Eqv_some ?_
    have h3 : ¬ b < 0 := h3
    have h4 : ¬ 200 < b := h4
    have hr : rg b 0 200 := rg_le (x := 0) (y := 200) rfl rfl h3 h4
    simp +decide only [h1, h2, if_true, if_false, ite_not, not_true_eq_false, not_false_eq_true, upI_get, upd_get, h3, h4]
    exact Fin_eq g2.1.2.2.1.symm ⟨d, n, k, q, t, l, j, g1, ⟨⟨g2.1.1, g2.1.2.1, rfl, g2.1.2.2.2⟩, g2.2.1, hr⟩, g3, g4, g5, g6, g7, g8, g9, g10, g11, g12, g13, g14, g15⟩
  · rw [ck_t (by decide)]
    refine Eqv_ite (fun h3 => ?_) (fun h3 => ?_)
    · refine Eqv_some ?_
      have h3 : b < (-30) := h3
      simp +decide only [h1, h2, if_true, if_false, ite_not, not_true_eq_false, not_false_eq_true, upI_get, upd_get, h3]
      exact Fin_some (Inv_ref hI 4)
    refine Eqv_ite (fun h4 => ?_) (fun h4 => ?_)
    · refine Eqv_some ?_
      have h3 : ¬ b < (-30) := h3
      have h4 : 50 < b := h4
      simp +decide only [h1, h2, if_true, if_false, ite_not, not_true_eq_false, not_false_eq_true, upI_get, upd_get, h3, h4]
      exact Fin_some (Inv_ref hI 6)
    refine Eqv_some ?_
    have h3 : ¬ b < (-30) := h3
    have h4 : ¬ 50 < b := h4
    have hr : rg b (-30) 50 := rg_le (x := (-30)) (y := 50) rfl rfl h3 h4
    simp +decide only [h1, h2, if_true, if_false, ite_not, not_true_eq_false, not_false_eq_true, upI_get, upd_get, h3, h4]
    exact Fin_eq g2.1.2.2.2.symm ⟨d, n, k, q, t, l, j, g1, ⟨⟨g2.1.1, g2.1.2.1, g2.1.2.2.1, rfl⟩, g2.2.1, g2.2.2⟩, g3, g4, g5, g6, g7, g8, g9, g10, g11, g12, g13, g14, g15⟩
set_option maxHeartbeats 4000000 in
theorem op_rail {M : Mem} (hI : Inv M) (a b c : Int32) : Eqv (xX9_rail M a b c) (fun M1 => xX10_rail M1 a b c) := by
  obtain ⟨d, n, k, q, t, l, j, g1, g2, g3, g4, g5, g6, g7, g8, g9, g10, g11, g12, g13, g14, g15⟩ := id hI
  unfold xX9_rail xX10_rail jX9_rail_40 jX9_rail_61 jX10_rail_35 jX10_rail_45 jX10_rail_48 jX10_rail_81 xX4_lay xX4_giveLot
  simp only [b_isDay, b_isKind, b_isMile, b_isDefect, b_isIn, b_wrong, b_isMile10, b_isDefect10, r9_1, r9_2, r9_3, r9_4, r9_6, r10_1, r10_2, r10_3, r10_4, r10_6, t9_1, t9_2, t9_3, t9_4, t9_6, t10_1, t10_2, t10_3, t10_4, t10_6, some_b, i10, i00, im1, im2, im3, im4, im6, if_true, if_false, n_lt2 b, ite_not]
  refine Eqv_ite (fun h1 => ?_) (fun h1 => ?_)
  · refine Eqv_some ?_
    simp +decide only [h1, if_true, if_false, ite_not, not_true_eq_false, not_false_eq_true, upI_get, upd_get, n_lt2 b, ite_not]
    exact Fin_some (Inv_ref hI 1)
  refine Eqv_itn (fun h2 => ?_) (fun h2 => ?_)
  · refine Eqv_some ?_
    simp +decide only [h1, h2, if_true, if_false, ite_not, not_true_eq_false, not_false_eq_true, upI_get, upd_get, n_lt2 b, ite_not]
    exact Fin_some (Inv_ref hI 1)
  refine Eqv_ite (fun h3 => ?_) (fun h3 => ?_)
  · refine Eqv_some ?_
    simp +decide only [h1, h2, h3, if_true, if_false, ite_not, not_true_eq_false, not_false_eq_true, upI_get, upd_get, n_lt2 b, ite_not]
    exact Fin_some (Inv_ref hI 2)
  refine Eqv_ite (fun h4 => ?_) (fun h4 => ?_)
  · refine Eqv_some ?_
    simp +decide only [h1, h2, h3, h4, if_true, if_false, ite_not, not_true_eq_false, not_false_eq_true, upI_get, upd_get, n_lt2 b, ite_not]
    exact Fin_some (Inv_ref hI 2)
  rcases bit_of h3 h4 with rfl | rfl
  · rw [if_pos rfl]
    refine Eqv_ite (fun h5 => ?_) (fun h5 => ?_)
    · refine Eqv_some ?_
      simp +decide only [h1, h2, h3, h4, if_true, if_false, ite_not, not_true_eq_false, not_false_eq_true, upI_get, upd_get, h5]
      exact Fin_some (Inv_ref hI 4)
    rw [if_pos rfl]
    refine Eqv_ite (fun h6 => ?_) (fun h6 => ?_)
    · refine Eqv_some ?_
      simp +decide only [h1, h2, h3, h4, if_true, if_false, ite_not, not_true_eq_false, not_false_eq_true, upI_get, upd_get, h5, h6]
      exact Fin_some (Inv_ref hI 6)
    have hr : rg c (-30) 50 := rg_le (x := (-30)) (y := 50) rfl rfl h5 h6
    obtain ⟨i, hi, rfl⟩ := ix_of (N := 20) (b := 20) rfl h1 h2
    have hib : inB (nI i) 20 = true := inN (by omega) (by omega)
    have hix : ix (nI i) = i := ixN (by omega)
    rw [if_pos rfl]
    rw [ck_t hib, some_b]
    refine Eqv_some ?_
    simp +decide only [h1, h2, h3, h4, if_true, if_false, ite_not, not_true_eq_false, not_false_eq_true, upI_get, upd_get, h5, h6, hib, hix, ck_t]
    refine Fin_eq (by show M.1 77 i = M.1 48 i; rw [g8]) ⟨d, n, k, q, t, l, j, g1, g2, g3, g4, g5, g6, g7, ?_, g9, g10, g11, g12, g13, g14, g15⟩
    show upd (M.1 48) i c = upd (M.1 77) i c
    rw [g8]
  · rw [if_neg (by decide)]
    refine Eqv_ite (fun h5 => ?_) (fun h5 => ?_)
    · refine Eqv_some ?_
      simp +decide only [h1, h2, h3, h4, if_true, if_false, ite_not, not_true_eq_false, not_false_eq_true, upI_get, upd_get, h5]
      exact Fin_some (Inv_ref hI 4)
    rw [if_neg (by decide)]
    refine Eqv_ite (fun h6 => ?_) (fun h6 => ?_)
    · refine Eqv_some ?_
      simp +decide only [h1, h2, h3, h4, if_true, if_false, ite_not, not_true_eq_false, not_false_eq_true, upI_get, upd_get, h5, h6]
      exact Fin_some (Inv_ref hI 6)
    have hr : rg c 0 5 := rg_le (x := 0) (y := 5) rfl rfl h5 h6
    obtain ⟨i, hi, rfl⟩ := ix_of (N := 20) (b := 20) rfl h1 h2
    have hib : inB (nI i) 20 = true := inN (by omega) (by omega)
    have hix : ix (nI i) = i := ixN (by omega)
    rw [if_neg (by decide)]
    rw [ck_t hib, some_b]
    refine Eqv_some ?_
    simp +decide only [h1, h2, h3, h4, if_true, if_false, ite_not, not_true_eq_false, not_false_eq_true, upI_get, upd_get, h5, h6, hib, hix, ck_t]
    refine Fin_eq (by show M.1 78 i = M.1 50 i; rw [g7.1.1]) ⟨d, n, k, q, t, l, j, g1, g2, g3, g4, g5, g6, ?_, g8, g9, g10, g11, g12, g13, g14, g15⟩
    refine ⟨⟨?_, fun e he => rg_upd hr (g7.1.2 e he)⟩, g7.2⟩
    show upd (M.1 50) i c = upd (M.1 78) i c
    rw [g7.1.1]
set_option maxHeartbeats 4000000 in
theorem op_close {M : Mem} (hI : Inv M) (a b : Int32) : Eqv (xX9_close M a b) (fun M1 => xX10_close M1 a b) := by
  obtain ⟨d, n, k, q, t, l, j, g1, g2, g3, g4, g5, g6, g7, g8, g9, g10, g11, g12, g13, g14, g15⟩ := id hI
  unfold xX9_close xX10_close jX9_close_31 jX10_close_27 jX10_close_42
  simp only [b_isDay, b_isKind, b_isMile, b_isDefect, b_isIn, b_wrong, b_isMile10, b_isDefect10, r9_1, r9_2, r9_3, r9_4, r9_6, r10_1, r10_2, r10_3, r10_4, r10_6, t9_1, t9_2, t9_3, t9_4, t9_6, t10_1, t10_2, t10_3, t10_4, t10_6, some_b, i10, i00, im1, im2, im3, im4, im6, if_true, if_false, g5.1.1, g5.1.2.1]
  refine Eqv_ite (fun h1 => ?_) (fun h1 => ?_)
  · refine Eqv_some ?_
    simp +decide only [h1, if_true, if_false, ite_not, not_true_eq_false, not_false_eq_true, upI_get, upd_get, g5.1.1, g5.1.2.1]
    exact Fin_some (Inv_ref hI 1)
  refine Eqv_itn (fun h2 => ?_) (fun h2 => ?_)
  · refine Eqv_some ?_
    simp +decide only [h1, h2, if_true, if_false, ite_not, not_true_eq_false, not_false_eq_true, upI_get, upd_get, g5.1.1, g5.1.2.1]
    exact Fin_some (Inv_ref hI 1)
  obtain ⟨⟨n1, n2, n3⟩, ⟨k1, k2, k3⟩, q1, ⟨e9, e10, e11, e12, e13, e14, e15⟩, hdr⟩ := id g5
  obtain ⟨i, hi, rfl⟩ := lt_nI (by omega) h1 h2
  have hib : inB (nI i) 40 = true := inN (by omega) (by omega)
  have hix : ix (nI i) = i := ixN (by omega)
  by_cases hb2 : b = 2
  · subst hb2
    rw [if_pos rfl]
    rw [ck_t hib, hix, e13]
    by_cases h3 : M.1 63 i = 0
    · rw [if_pos h3]
      refine Eqv_some ?_
      simp +decide only [h1, h2, if_true, if_false, ite_not, not_true_eq_false, not_false_eq_true, upI_get, upd_get, g5.1.1, g5.1.2.1, hib, hix, ck_t, h3]
      exact Fin_some (Inv_ref hI 3)
    rw [if_neg h3, if_neg (by decide)]
    refine Eqv_some ?_
    simp +decide only [h1, h2, if_true, if_false, ite_not, not_true_eq_false, not_false_eq_true, upI_get, upd_get, g5.1.1, g5.1.2.1, hib, hix, ck_t, h3]
    refine Fin_some ⟨d, n, k, q, t, l, j, g1, g2, g3, g4, ?_, g6, g7, g8, g9, g10, g11, g12, g13, g14, g15⟩
    refine ⟨⟨n1, n2, n3⟩, ⟨k1, k2, k3⟩, q1, ⟨e9, e10, e11, e12, ?_, e14, e15⟩, hdr⟩
    show upd (M.1 13) i 0 = upd (M.1 63) i 0
    rw [e13]
  by_cases hb3 : b = 3
  · subst hb3
    rw [if_neg (by decide), if_pos rfl]
    rw [ck_t hib, hix, e13]
    by_cases h3 : M.1 63 i = 0
    · rw [if_pos h3]
      refine Eqv_some ?_
      simp +decide only [h1, h2, if_true, if_false, ite_not, not_true_eq_false, not_false_eq_true, upI_get, upd_get, g5.1.1, g5.1.2.1, hib, hix, ck_t, h3]
      exact Fin_some (Inv_ref hI 3)
    rw [if_neg h3, if_pos rfl]
    obtain ⟨m, hm, em⟩ := rg_of (b := 19) (hdr i hi).1
    have hmb : inB (nI m) 20 = true := inN (by omega) (by omega)
    have hmx : ix (nI m) = m := ixN (by omega)
    rw [show xX4_lay (upI M 13 i 0) (M.1 9 i) (M.1 2 3) = some (M.1 48 m, upI (upI M 13 i 0) 48 m (M.1 2 3)) from by unfold xX4_lay; rw [e9, em, ck_t hmb, hmx]; rfl, some_b]
    refine Eqv_some ?_
    simp +decide only [h1, h2, if_true, if_false, ite_not, not_true_eq_false, not_false_eq_true, upI_get, upd_get, g5.1.1, g5.1.2.1, hib, hix, ck_t, h3, e9, em, hmb, hmx]
    refine Fin_some ⟨d, n, k, q, t, l, j, g1, g2, g3, g4, ?_, g6, g7, ?_, g9, g10, g11, g12, g13, g14, g15⟩
    · refine ⟨⟨n1, n2, n3⟩, ⟨k1, k2, k3⟩, q1, ⟨e9, e10, e11, e12, ?_, e14, e15⟩, hdr⟩
      show upd (M.1 13) i 0 = upd (M.1 63) i 0
      rw [e13]
    · show upd (M.1 48) m (M.1 2 3) = upd (M.1 77) m (M.1 51 16)
      rw [g8, g2.1.2.2.2]
  rw [if_neg hb2, if_neg hb3]
  refine Eqv_some ?_
  simp +decide only [h1, h2, if_true, if_false, ite_not, not_true_eq_false, not_false_eq_true, upI_get, upd_get, g5.1.1, g5.1.2.1, hb2, hb3]
  exact Fin_some (Inv_ref hI 2)
theorem est_nn {a b c : Nat} (ha : a ≤ 99) (hb : b ≤ 99) (hc : c ≤ 99) (h0 : 0 < c) : (((((nI a + nI c) * (nI b + nI c)) + nI c) - 1) / nI c) = nI (((a + c) * (b + c) + c - 1) / c) := by
  have h1 : (a + c) * (b + c) ≤ 198 * 198 := Nat.mul_le_mul (by omega) (by omega)
  rw [nI_add, nI_add, pk_mul, nI_add, show (1 : Int32) = nI 1 from rfl, pk_sub (by omega), pk_div (by omega) h0 (by omega)]
theorem nI_ne9 {n : Nat} (h : n < 2 ^ 31) : ¬ nI n = -9 := by
  rw [eq_i, nI_toInt h, show (-9 : Int32).toInt = -9 from rfl]; omega
set_option maxHeartbeats 4000000 in
theorem op_eyes {M : Mem} (hI : Inv M) (a b : Int32) : Eqv (xX9_eyes M a b) (fun M1 => xX10_eyes M1 a b) := by
  obtain ⟨d, n, k, q, t, l, j, g1, g2, g3, g4, g5, g6, g7, g8, g9, g10, g11, g12, g13, g14, g15⟩ := id hI
  unfold xX9_eyes xX10_eyes xX2_estimate xX2_missed
  simp only [b_isDay, b_isKind, b_isMile, b_isDefect, b_isIn, b_wrong, b_isMile10, b_isDefect10, r9_1, r9_2, r9_3, r9_4, r9_6, r10_1, r10_2, r10_3, r10_4, r10_6, t9_1, t9_2, t9_3, t9_4, t9_6, t10_1, t10_2, t10_3, t10_4, t10_6, some_b, i10, i00, im1, im2, im3, im4, im6, if_true, if_false, n_lt2 b, ite_not]
  refine Eqv_ite (fun h1 => ?_) (fun h1 => ?_)
  · refine Eqv_some ?_
    simp +decide only [h1, if_true, if_false, ite_not, not_true_eq_false, not_false_eq_true, upI_get, upd_get, n_lt2 b, ite_not]
    exact Fin_some (Inv_ref hI 1)
  refine Eqv_itn (fun h2 => ?_) (fun h2 => ?_)
  · refine Eqv_some ?_
    simp +decide only [h1, h2, if_true, if_false, ite_not, not_true_eq_false, not_false_eq_true, upI_get, upd_get, n_lt2 b, ite_not]
    exact Fin_some (Inv_ref hI 1)
  refine Eqv_ite (fun h3 => ?_) (fun h3 => ?_)
  · refine Eqv_some ?_
    simp +decide only [h1, h2, h3, if_true, if_false, ite_not, not_true_eq_false, not_false_eq_true, upI_get, upd_get, n_lt2 b, ite_not]
    exact Fin_some (Inv_ref hI 2)
  refine Eqv_ite (fun h4 => ?_) (fun h4 => ?_)
  · refine Eqv_some ?_
    simp +decide only [h1, h2, h3, h4, if_true, if_false, ite_not, not_true_eq_false, not_false_eq_true, upI_get, upd_get, n_lt2 b, ite_not]
    exact Fin_some (Inv_ref hI 2)
  obtain ⟨i, hi, rfl⟩ := ix_of (N := 20) (b := 20) rfl h1 h2
  have hib : inB (nI i) 20 = true := inN (by omega) (by omega)
  have hix : ix (nI i) = i := ixN (by omega)
  obtain ⟨⟨r1, r2, r3⟩, r4⟩ := id g13
  obtain ⟨s1, s2, s3⟩ := r4 i hi
  obtain ⟨x, hx, ex⟩ := rg_of (b := 99) s1
  obtain ⟨y, hy, ey⟩ := rg_of (b := 99) s2
  obtain ⟨w, hw, ew⟩ := rg_of (b := 99) s3
  rw [ck_t hib, hix, r1, r2, r3, ex, ey, ew]
  unfold xX2_estimate
  rw [ck_t hib, hix, r1, r2, r3, ex, ey, ew]
  by_cases h0 : w = 0
  · subst h0
    rw [if_neg (show ¬ (0 : Int32) < nI 0 by decide), some_b, some_b, if_pos rfl, some_b]
    rcases bit_of h3 h4 with rfl | rfl
    · rw [if_pos rfl]
      refine Eqv_some ?_
      simp +decide only [h1, h2, h3, h4, if_true, if_false, ite_not, not_true_eq_false, not_false_eq_true, upI_get, upd_get, hib, hix, ck_t, ew]
      exact Fin_some hI
    · rw [if_neg (by decide)]
      refine Eqv_some ?_
      simp +decide only [h1, h2, h3, h4, if_true, if_false, ite_not, not_true_eq_false, not_false_eq_true, upI_get, upd_get, hib, hix, ck_t, ew]
      exact Fin_some hI
  have p1 : (0 : Int32) < nI w := nI_lt (a := 0) (by omega) (by omega)
  have p2 : ¬ nI w = 0 := nI_ne0 (by omega) (by omega)
  have p3 : (!decide (nI w = 0)) = true := by simp [p2]
  have hv := est_nn hx hy hw (show 0 < w by omega)
  have hbnd : ((x + w) * (y + w) + w - 1) / w < 2 ^ 31 := by
    have h1 : (x + w) * (y + w) ≤ 198 * 198 := Nat.mul_le_mul (by omega) (by omega)
    have h2 : ((x + w) * (y + w) + w - 1) / w ≤ (x + w) * (y + w) + w - 1 := Nat.div_le_self _ _
    omega
  rw [if_pos p1, ck_t p3, some_b, some_b]
  have nn : ¬ (((((nI x + nI w) * (nI y + nI w)) + nI w) - 1) / nI w) = -9 := by rw [hv]; exact nI_ne9 hbnd
  rw [if_neg nn, ck_t hib, some_b]
  rcases bit_of h3 h4 with rfl | rfl
  · rw [if_pos rfl]
    refine Eqv_some ?_
    simp +decide only [h1, h2, h3, h4, if_true, if_false, ite_not, not_true_eq_false, not_false_eq_true, upI_get, upd_get, hib, hix, ck_t, ex, ey, ew, p2, p3]
    exact Fin_some hI
  · rw [if_neg (by decide)]
    refine Eqv_some ?_
    simp +decide only [h1, h2, h3, h4, if_true, if_false, ite_not, not_true_eq_false, not_false_eq_true, upI_get, upd_get, hib, hix, ck_t, ex, ey, ew, p2, p3]
    exact Fin_some hI
