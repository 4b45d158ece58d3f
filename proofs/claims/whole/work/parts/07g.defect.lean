theorem upd_upd (f : Nat → Int32) (i : Nat) (a b : Int32) : upd (upd f i a) i b = upd f i b := by
  funext j
  simp only [upd_get]
  split <;> rfl
theorem cnt_new (f g : Nat → Int32) (n : Nat) (a b x : Int32) : cnt (fun e => decide (upd f n a e = 3) && decide (upd g n b e = x)) (n + 1) = cnt (fun e => decide (f e = 3) && decide (g e = x)) n + (if (decide (a = 3) && decide (b = x)) = true then 1 else 0) := by
  show cnt _ n + (if (decide (upd f n a n = 3) && decide (upd g n b n = x)) = true then 1 else 0) = _
  rw [pk_us, pk_us, cnt_cong (q := fun e => decide (f e = 3) && decide (g e = x)) (fun i hi => by rw [pk_un (by omega), pk_un (by omega)])]
theorem mx0 {x : Int32} (h : 0 ≤ x.toInt) : mxI 0 x = x := by
  unfold mxI; split
  · rfl
  · rename_i hz; rw [lt_i, show (0 : Int32).toInt = 0 from rfl] at hz
    rw [eq_i, show (0 : Int32).toInt = 0 from rfl]; omega
theorem mn0 {c x : Int32} (h : x.toInt ≤ c.toInt) : mnI c x = x := by
  unfold mnI; split
  · rfl
  · rename_i hz; rw [lt_i] at hz
    rw [eq_i]; omega
set_option maxHeartbeats 4000000 in
theorem op_defect {M : Mem} (hI : Inv M) (a b c e f g : Int32) : Eqv (xX9_defect M a b c e f g) (fun M1 => xX10_defect M1 a b c e f g) := by
  obtain ⟨d, n, k, q, t, l, j, g1, g2, g3, g4, g5, g6, g7, g8, g9, g10, g11, g12, g13, g14, g15⟩ := id hI
  unfold xX9_defect xX10_defect
  simp only [b_isDay, b_isKind, b_isMile, b_isDefect, b_isIn, b_wrong, b_isMile10, b_isDefect10, r9_1, r9_2, r9_3, r9_4, r9_6, r10_1, r10_2, r10_3, r10_4, r10_6, t9_1, t9_2, t9_3, t9_4, t9_6, t10_1, t10_2, t10_3, t10_4, t10_6, some_b, i10, i00, im1, im2, im3, im4, im6, if_true, if_false, g5.1.1, g5.1.2.1, g5.2.1.1, g5.2.1.2.1]
  refine Eqv_ite (fun h1 => ?_) (fun h1 => ?_)
  · refine Eqv_some ?_
    simp +decide only [h1, if_true, if_false, ite_not, not_true_eq_false, not_false_eq_true, upI_get, upd_get, g5.1.1, g5.1.2.1, g5.2.1.1, g5.2.1.2.1]
    exact Fin_some (Inv_ref hI 1)
  refine Eqv_itn (fun h2 => ?_) (fun h2 => ?_)
  · refine Eqv_some ?_
    simp +decide only [h1, h2, if_true, if_false, ite_not, not_true_eq_false, not_false_eq_true, upI_get, upd_get, g5.1.1, g5.1.2.1, g5.2.1.1, g5.2.1.2.1]
    exact Fin_some (Inv_ref hI 1)
  refine Eqv_ite (fun h3 => ?_) (fun h3 => ?_)
  · refine Eqv_some ?_
    simp +decide only [h1, h2, h3, if_true, if_false, ite_not, not_true_eq_false, not_false_eq_true, upI_get, upd_get, g5.1.1, g5.1.2.1, g5.2.1.1, g5.2.1.2.1]
    exact Fin_some (Inv_ref hI 1)
  refine Eqv_itn (fun h4 => ?_) (fun h4 => ?_)
  · refine Eqv_some ?_
    simp +decide only [h1, h2, h3, h4, if_true, if_false, ite_not, not_true_eq_false, not_false_eq_true, upI_get, upd_get, g5.1.1, g5.1.2.1, g5.2.1.1, g5.2.1.2.1]
    exact Fin_some (Inv_ref hI 1)
  refine Eqv_ite (fun h5 => ?_) (fun h5 => ?_)
  · refine Eqv_some ?_
    simp +decide only [h1, h2, h3, h4, h5, if_true, if_false, ite_not, not_true_eq_false, not_false_eq_true, upI_get, upd_get, g5.1.1, g5.1.2.1, g5.2.1.1, g5.2.1.2.1]
    exact Fin_some (Inv_ref hI 4)
  refine Eqv_ite (fun h6 => ?_) (fun h6 => ?_)
  · refine Eqv_some ?_
    simp +decide only [h1, h2, h3, h4, h5, h6, if_true, if_false, ite_not, not_true_eq_false, not_false_eq_true, upI_get, upd_get, g5.1.1, g5.1.2.1, g5.2.1.1, g5.2.1.2.1]
    exact Fin_some (Inv_ref hI 4)
  refine Eqv_ite (fun h7 => ?_) (fun h7 => ?_)
  · refine Eqv_some ?_
    simp +decide only [h1, h2, h3, h4, h5, h6, h7, if_true, if_false, ite_not, not_true_eq_false, not_false_eq_true, upI_get, upd_get, g5.1.1, g5.1.2.1, g5.2.1.1, g5.2.1.2.1]
    exact Fin_some (Inv_ref hI 4)
  refine Eqv_ite (fun h8 => ?_) (fun h8 => ?_)
  · refine Eqv_some ?_
    simp +decide only [h1, h2, h3, h4, h5, h6, h7, h8, if_true, if_false, ite_not, not_true_eq_false, not_false_eq_true, upI_get, upd_get, g5.1.1, g5.1.2.1, g5.2.1.1, g5.2.1.2.1]
    exact Fin_some (Inv_ref hI 4)
  refine Eqv_ite (fun h9 => ?_) (fun h9 => ?_)
  · refine Eqv_some ?_
    simp +decide only [h1, h2, h3, h4, h5, h6, h7, h8, h9, if_true, if_false, ite_not, not_true_eq_false, not_false_eq_true, upI_get, upd_get, g5.1.1, g5.1.2.1, g5.2.1.1, g5.2.1.2.1]
    exact Fin_some (Inv_ref hI 6)
  refine Eqv_ite (fun h10 => ?_) (fun h10 => ?_)
  · refine Eqv_some ?_
    simp +decide only [h1, h2, h3, h4, h5, h6, h7, h8, h9, h10, if_true, if_false, ite_not, not_true_eq_false, not_false_eq_true, upI_get, upd_get, g5.1.1, g5.1.2.1, g5.2.1.1, g5.2.1.2.1]
    exact Fin_some (Inv_ref hI 6)
  refine Eqv_ite (fun h11 => ?_) (fun h11 => ?_)
  · refine Eqv_some ?_
    simp +decide only [h1, h2, h3, h4, h5, h6, h7, h8, h9, h10, h11, if_true, if_false, ite_not, not_true_eq_false, not_false_eq_true, upI_get, upd_get, g5.1.1, g5.1.2.1, g5.2.1.1, g5.2.1.2.1]
    exact Fin_some (Inv_ref hI 6)
  refine Eqv_ite (fun h12 => ?_) (fun h12 => ?_)
  · refine Eqv_some ?_
    simp +decide only [h1, h2, h3, h4, h5, h6, h7, h8, h9, h10, h11, h12, if_true, if_false, ite_not, not_true_eq_false, not_false_eq_true, upI_get, upd_get, g5.1.1, g5.1.2.1, g5.2.1.1, g5.2.1.2.1]
    exact Fin_some (Inv_ref hI 6)
  obtain ⟨⟨n1, n2, n3⟩, ⟨k1, k2, k3⟩, q1, ⟨e9, e10, e11, e12, e13, e14, e15⟩, hdr⟩ := id g5
  have hn8 : (nI n = 40) = ¬ (nI n < 40) := nlt40 (c := 40) (by omega) n3
  have hk8 : (nI k = 120) = ¬ (nI k < 120) := nlt40 (c := 120) (by omega) k3
  refine Eqv_itn (fun h15 => ?_) (fun h15 => ?_)
  · refine Eqv_some ?_
    simp +decide only [h1, h2, h3, h4, h5, h6, h7, h8, h9, h10, h11, h12, if_true, if_false, ite_not, not_true_eq_false, not_false_eq_true, upI_get, upd_get, g5.1.1, g5.1.2.1, g5.2.1.1, g5.2.1.2.1, hn8, h15]
    exact Fin_some (Inv_ref hI 6)
  refine Eqv_itn (fun h16 => ?_) (fun h16 => ?_)
  · refine Eqv_some ?_
    simp +decide only [h1, h2, h3, h4, h5, h6, h7, h8, h9, h10, h11, h12, if_true, if_false, ite_not, not_true_eq_false, not_false_eq_true, upI_get, upd_get, g5.1.1, g5.1.2.1, g5.2.1.1, g5.2.1.2.1, hn8, hk8, h15, h16]
    exact Fin_some (Inv_ref hI 6)
  have hn : n < 40 := (nI_ltI (b := 40) (by omega) (by omega)).mp h15
  have hk : k < 120 := (nI_ltI (b := 120) (by omega) (by omega)).mp h16
  have hsz : rg f 0 999 := rg_le (x := 0) (y := 999) rfl rfl h7 h11
  have hdo : rg g 0 50 := rg_le (x := 0) (y := 50) rfl rfl h8 h12
  have hyd : rg b 0 1759 := rg_le (x := 0) (y := 1759) rfl rfl h5 h9
  have hkd : rg e 0 3 := rg_le (x := 0) (y := 3) rfl rfl h3 (by rw [lt_i] at h4 ⊢; rw [show (4 : Int32).toInt = 4 from rfl] at h4; rw [show (3 : Int32).toInt = 3 from rfl]; omega)
  have hnum := lk_num hsz hdo
  obtain ⟨m, hm, rfl⟩ := ix_of (N := 20) (b := 20) rfl h1 h2
  obtain ⟨w, hw, ew⟩ := rg_of (b := 5) (g7.1.2 m hm)
  obtain ⟨R0, hR0⟩ : ∃ x, frun (M.1 67) (M.1 68) (M.1 69) e (f + g) (nI d) 0 q (-9) = x := ⟨_, rfl⟩
  by_cases h17 : e = 3
  · have hadd : xX1_add M (nI m) b c e = some (nI n, (upI (upI (upI (upI (upI (upI (upI (upI (upI M 9 n (nI m)) 10 n b) 11 n c) 12 n e) 13 n 1) 14 n 0) 15 n 1049) 16 n (-9)) 8 0 (nI n + 1))) := by
      unfold xX1_add
      rw [n1, ck_t (inN hn (by omega)), ixN (show n < 2 ^ 31 by omega)]
    have hcs : xX1_cutSpan (upI (upI (upI (upI (upI (upI (upI (upI (upI M 9 n (nI m)) 10 n b) 11 n c) 12 n e) 13 n 1) 14 n 0) 15 n 1049) 16 n (-9)) 8 0 (nI n + 1)) (nI n) f g = some (1, (upI (upI (upI (upI (upI (upI (upI (upI (upI (upI (upI (upI M 9 n (nI m)) 10 n b) 11 n c) 12 n e) 13 n 1) 14 n 0) 15 n 1049) 16 n (-9)) 8 0 (nI n + 1)) 14 n (mxI 0 (f - g))) 15 n (f + g)) 8 1 (nI k + 1))) := by
      rw [cs_fit (upI (upI (upI (upI (upI (upI (upI (upI (upI M 9 n (nI m)) 10 n b) 11 n c) 12 n e) 13 n 1) 14 n 0) 15 n 1049) 16 n (-9)) 8 0 (nI n + 1)) hn f g (by show ¬ upd (M.1 15) n 1049 n < _; rw [pk_us, lt_i, show (1049 : Int32).toInt = 1049 from rfl]; omega) (by show ¬ _ < upd (M.1 14) n 0 n; rw [pk_us, lt_i, show (0 : Int32).toInt = 0 from rfl]; omega)]
      rw [show (upI (upI (upI (upI (upI (upI (upI (upI (upI M 9 n (nI m)) 10 n b) 11 n c) 12 n e) 13 n 1) 14 n 0) 15 n 1049) 16 n (-9)) 8 0 (nI n + 1)).1 14 n = 0 from pk_us, show (upI (upI (upI (upI (upI (upI (upI (upI (upI M 9 n (nI m)) 10 n b) 11 n c) 12 n e) 13 n 1) 14 n 0) 15 n 1049) 16 n (-9)) 8 0 (nI n + 1)).1 15 n = 1049 from pk_us, mx0 hnum.1, mn0 (c := 1049) (by rw [show (1049 : Int32).toInt = 1049 from rfl]; omega), show (upI (upI (upI (upI (upI (upI (upI (upI (upI M 9 n (nI m)) 10 n b) 11 n c) 12 n e) 13 n 1) 14 n 0) 15 n 1049) 16 n (-9)) 8 0 (nI n + 1)).1 8 1 = nI k from k1]
    have hru : xX9_ruleFor (upI (upI (upI (upI (upI (upI (upI (upI (upI (upI (upI (upI M 9 n (nI m)) 10 n b) 11 n c) 12 n e) 13 n 1) 14 n 0) 15 n 1049) 16 n (-9)) 8 0 (nI n + 1)) 14 n (mxI 0 (f - g))) 15 n (f + g)) 8 1 (nI k + 1)) (nI n) = some R0 := by
      rw [fX_eq _ q n (by exact g9.1.1) g9.1.2.2 hn]
      show some (frun (M.1 21) (M.1 22) (M.1 23) (upd (M.1 12) n e n) (upd (upd (M.1 15) n 1049) n (f + g) n) (M.1 0 0) 0 q (-9)) = _
      rw [pk_us, pk_us, g9.2.1.2.2.1, g9.2.1.2.2.2.1, g9.2.1.2.2.2.2, g3.1.1, hR0]
    have hno : xX1_note (upI (upI (upI (upI (upI (upI (upI (upI (upI (upI (upI (upI M 9 n (nI m)) 10 n b) 11 n c) 12 n e) 13 n 1) 14 n 0) 15 n 1049) 16 n (-9)) 8 0 (nI n + 1)) 14 n (mxI 0 (f - g))) 15 n (f + g)) 8 1 (nI k + 1)) (nI n) R0 ((upI (upI (upI (upI (upI (upI (upI (upI (upI (upI (upI (upI M 9 n (nI m)) 10 n b) 11 n c) 12 n e) 13 n 1) 14 n 0) 15 n 1049) 16 n (-9)) 8 0 (nI n + 1)) 14 n (mxI 0 (f - g))) 15 n (f + g)) 8 1 (nI k + 1)).1 0 0) = some (sR (sR (upI (upI (upI (upI (upI (upI (upI (upI (upI (upI (upI (upI M 9 n (nI m)) 10 n b) 11 n c) 12 n e) 13 n 1) 14 n 0) 15 n 1049) 16 n (-9)) 8 0 (nI n + 1)) 14 n (mxI 0 (f - g))) 15 n (f + g)) 8 1 (nI k + 1)) 16 (nd1 (upd (M.1 16) n (-9)) n R0)) 17 (ns1 (upd (M.1 16) n (-9)) (M.1 17) n R0 (nI d))) := by
      rw [note_eq _ hn, note_sR]
      rw [show (upI (upI (upI (upI (upI (upI (upI (upI (upI (upI (upI (upI M 9 n (nI m)) 10 n b) 11 n c) 12 n e) 13 n 1) 14 n 0) 15 n 1049) 16 n (-9)) 8 0 (nI n + 1)) 14 n (mxI 0 (f - g))) 15 n (f + g)) 8 1 (nI k + 1)).1 0 0 = nI d from g3.1.1]
      rfl
    rw [hadd, some_b]
    dsimp only
    rw [hcs, some_b, hru, some_b, hno, some_b, if_pos h17]
    rw [show xX4_addCrack (sR (sR (upI (upI (upI (upI (upI (upI (upI (upI (upI (upI (upI (upI M 9 n (nI m)) 10 n b) 11 n c) 12 n e) 13 n 1) 14 n 0) 15 n 1049) 16 n (-9)) 8 0 (nI n + 1)) 14 n (mxI 0 (f - g))) 15 n (f + g)) 8 1 (nI k + 1)) 16 (nd1 (upd (M.1 16) n (-9)) n R0)) 17 (ns1 (upd (M.1 16) n (-9)) (M.1 17) n R0 (nI d))) (nI m) = some (upI (sR (sR (upI (upI (upI (upI (upI (upI (upI (upI (upI (upI (upI (upI M 9 n (nI m)) 10 n b) 11 n c) 12 n e) 13 n 1) 14 n 0) 15 n 1049) 16 n (-9)) 8 0 (nI n + 1)) 14 n (mxI 0 (f - g))) 15 n (f + g)) 8 1 (nI k + 1)) 16 (nd1 (upd (M.1 16) n (-9)) n R0)) 17 (ns1 (upd (M.1 16) n (-9)) (M.1 17) n R0 (nI d))) 49 w (M.1 49 w + 1)) from by
      unfold xX4_addCrack
      rw [ck_t (inN hm (by omega)), ixN (show m < 2 ^ 31 by omega), show (sR (sR (upI (upI (upI (upI (upI (upI (upI (upI (upI (upI (upI (upI M 9 n (nI m)) 10 n b) 11 n c) 12 n e) 13 n 1) 14 n 0) 15 n 1049) 16 n (-9)) 8 0 (nI n + 1)) 14 n (mxI 0 (f - g))) 15 n (f + g)) 8 1 (nI k + 1)) 16 (nd1 (upd (M.1 16) n (-9)) n R0)) 17 (ns1 (upd (M.1 16) n (-9)) (M.1 17) n R0 (nI d))).1 50 m = nI w from by show M.1 50 m = nI w; rw [g7.1.1, ew], ck_t (inN (show w < 6 by omega) (by omega)), ixN (show w < 2 ^ 31 by omega)]
      rfl, some_b]
    refine Eqv_some ?_
    simp +decide only [h1, h2, h3, h4, h5, h6, h7, h8, h9, h10, h11, h12, if_true, if_false, ite_not, not_true_eq_false, not_false_eq_true, upI_get, upd_get, g5.1.1, g5.1.2.1, g5.2.1.1, g5.2.1.2.1, hn8, hk8, h15, h16, inN hn (show 40 < 2 ^ 31 by omega), inN hm (show 20 < 2 ^ 31 by omega), ixN (show n < 2 ^ 31 by omega), ixN (show m < 2 ^ 31 by omega), ck_t, sR_get, add_sub1]
    have hR1 : RF (upI (upI (upI (upI (upI (upI (upI (upI (upI (upI (sR (sR (upI (upI (upI (upI (upI (upI (upI (upI (upI (upI (upI (upI M 9 n (nI m)) 10 n b) 11 n c) 12 n e) 13 n 1) 14 n 0) 15 n 1049) 16 n (-9)) 8 0 (nI n + 1)) 14 n (mxI 0 (f - g))) 15 n (f + g)) 8 1 (nI k + 1)) 16 (nd1 (upd (M.1 16) n (-9)) n R0)) 17 (ns1 (upd (M.1 16) n (-9)) (M.1 17) n R0 (nI d))) 49 w (M.1 49 w + 1)) 56 n (nI m)) 57 n b) 58 n c) 59 n e) 60 n (M.1 78 m)) 63 n 1) 61 n 0) 62 n 10000000) 51 5 (nI n + 1)) q n (f + g) = R0 := by
      show frun (M.1 67) (M.1 68) (M.1 69) (upd (M.1 59) n e n) (f + g) (M.1 51 4) 0 q (-9) = R0
      rw [pk_us, g3.1.2.1, hR0]
    have hla : xX10_looksAt (upI (upI (upI (upI (upI (upI (upI (upI (upI (upI (sR (sR (upI (upI (upI (upI (upI (upI (upI (upI (upI (upI (upI (upI M 9 n (nI m)) 10 n b) 11 n c) 12 n e) 13 n 1) 14 n 0) 15 n 1049) 16 n (-9)) 8 0 (nI n + 1)) 14 n (mxI 0 (f - g))) 15 n (f + g)) 8 1 (nI k + 1)) 16 (nd1 (upd (M.1 16) n (-9)) n R0)) 17 (ns1 (upd (M.1 16) n (-9)) (M.1 17) n R0 (nI d))) 49 w (M.1 49 w + 1)) 56 n (nI m)) 57 n b) 58 n c) 59 n e) 60 n (M.1 78 m)) 63 n 1) 61 n 0) 62 n 10000000) 51 5 (nI n + 1)) (nI n) f g = some (1, LA (upI (upI (upI (upI (upI (upI (upI (upI (upI (upI (sR (sR (upI (upI (upI (upI (upI (upI (upI (upI (upI (upI (upI (upI M 9 n (nI m)) 10 n b) 11 n c) 12 n e) 13 n 1) 14 n 0) 15 n 1049) 16 n (-9)) 8 0 (nI n + 1)) 14 n (mxI 0 (f - g))) 15 n (f + g)) 8 1 (nI k + 1)) 16 (nd1 (upd (M.1 16) n (-9)) n R0)) 17 (ns1 (upd (M.1 16) n (-9)) (M.1 17) n R0 (nI d))) 49 w (M.1 49 w + 1)) 56 n (nI m)) 57 n b) 58 n c) 59 n e) 60 n (M.1 78 m)) 63 n 1) 61 n 0) 62 n 10000000) 51 5 (nI n + 1)) n k (mxI 0 (f - g)) (f + g) R0 0) := by
      have z1 : (upI (upI (upI (upI (upI (upI (upI (upI (upI (upI (sR (sR (upI (upI (upI (upI (upI (upI (upI (upI (upI (upI (upI (upI M 9 n (nI m)) 10 n b) 11 n c) 12 n e) 13 n 1) 14 n 0) 15 n 1049) 16 n (-9)) 8 0 (nI n + 1)) 14 n (mxI 0 (f - g))) 15 n (f + g)) 8 1 (nI k + 1)) 16 (nd1 (upd (M.1 16) n (-9)) n R0)) 17 (ns1 (upd (M.1 16) n (-9)) (M.1 17) n R0 (nI d))) 49 w (M.1 49 w + 1)) 56 n (nI m)) 57 n b) 58 n c) 59 n e) 60 n (M.1 78 m)) 63 n 1) 61 n 0) 62 n 10000000) 51 5 (nI n + 1)).1 61 n = 0 := pk_us
      have z2 : (upI (upI (upI (upI (upI (upI (upI (upI (upI (upI (sR (sR (upI (upI (upI (upI (upI (upI (upI (upI (upI (upI (upI (upI M 9 n (nI m)) 10 n b) 11 n c) 12 n e) 13 n 1) 14 n 0) 15 n 1049) 16 n (-9)) 8 0 (nI n + 1)) 14 n (mxI 0 (f - g))) 15 n (f + g)) 8 1 (nI k + 1)) 16 (nd1 (upd (M.1 16) n (-9)) n R0)) 17 (ns1 (upd (M.1 16) n (-9)) (M.1 17) n R0 (nI d))) 49 w (M.1 49 w + 1)) 56 n (nI m)) 57 n b) 58 n c) 59 n e) 60 n (M.1 78 m)) 63 n 1) 61 n 0) 62 n 10000000) 51 5 (nI n + 1)).1 62 n = 10000000 := pk_us
      have z3 : mxI 0 (mxI 0 (f - g)) = mxI 0 (f - g) := mx0 hnum.1
      have z4 : mnI 10000000 (f + g) = f + g := mn0 (c := 10000000) (by rw [show (10000000 : Int32).toInt = 10000000 from rfl]; omega)
      rw [la_fit (upI (upI (upI (upI (upI (upI (upI (upI (upI (upI (sR (sR (upI (upI (upI (upI (upI (upI (upI (upI (upI (upI (upI (upI M 9 n (nI m)) 10 n b) 11 n c) 12 n e) 13 n 1) 14 n 0) 15 n 1049) 16 n (-9)) 8 0 (nI n + 1)) 14 n (mxI 0 (f - g))) 15 n (f + g)) 8 1 (nI k + 1)) 16 (nd1 (upd (M.1 16) n (-9)) n R0)) 17 (ns1 (upd (M.1 16) n (-9)) (M.1 17) n R0 (nI d))) 49 w (M.1 49 w + 1)) 56 n (nI m)) 57 n b) 58 n c) 59 n e) 60 n (M.1 78 m)) 63 n 1) 61 n 0) 62 n 10000000) 51 5 (nI n + 1)) hn (show (upI (upI (upI (upI (upI (upI (upI (upI (upI (upI (sR (sR (upI (upI (upI (upI (upI (upI (upI (upI (upI (upI (upI (upI M 9 n (nI m)) 10 n b) 11 n c) 12 n e) 13 n 1) 14 n 0) 15 n 1049) 16 n (-9)) 8 0 (nI n + 1)) 14 n (mxI 0 (f - g))) 15 n (f + g)) 8 1 (nI k + 1)) 16 (nd1 (upd (M.1 16) n (-9)) n R0)) 17 (ns1 (upd (M.1 16) n (-9)) (M.1 17) n R0 (nI d))) 49 w (M.1 49 w + 1)) 56 n (nI m)) 57 n b) 58 n c) 59 n e) 60 n (M.1 78 m)) 63 n 1) 61 n 0) 62 n 10000000) 51 5 (nI n + 1)).1 51 6 = nI k from k2) hk (show (upI (upI (upI (upI (upI (upI (upI (upI (upI (upI (sR (sR (upI (upI (upI (upI (upI (upI (upI (upI (upI (upI (upI (upI M 9 n (nI m)) 10 n b) 11 n c) 12 n e) 13 n 1) 14 n 0) 15 n 1049) 16 n (-9)) 8 0 (nI n + 1)) 14 n (mxI 0 (f - g))) 15 n (f + g)) 8 1 (nI k + 1)) 16 (nd1 (upd (M.1 16) n (-9)) n R0)) 17 (ns1 (upd (M.1 16) n (-9)) (M.1 17) n R0 (nI d))) 49 w (M.1 49 w + 1)) 56 n (nI m)) 57 n b) 58 n c) 59 n e) 60 n (M.1 78 m)) 63 n 1) 61 n 0) 62 n 10000000) 51 5 (nI n + 1)).1 51 8 = nI q from g9.1.2.1) g9.1.2.2 f g (by rw [z1, z2, z3, z4, lt_i]; omega), z1, z2, z3, z4, hR1]
    rw [hla, some_b]
    refine Fin_eq (show nI n + 1 - 1 = nI n from add_sub1 _) ⟨d, n + 1, k + 1, q, t, l, j, g1, g2, g3, g4, ?_, ?_, ?_, g8, g9, g10, g11, g12, g13, g14, g15⟩
    · refine ⟨⟨nI_1 n, nI_1 n, by omega⟩, ⟨nI_1 k, nI_1 k, by omega⟩, ?_, ⟨?_, ?_, ?_, ?_, ?_, ?_, ?_⟩, fun u hu => ?_⟩
      · show M.1 8 2 = M.1 51 7 + 0
        rw [q1, Int32.add_zero]
      · show upd (M.1 9) n (nI m) = upd (M.1 56) n (nI m)
        rw [e9]
      · show upd (M.1 10) n b = upd (M.1 57) n b
        rw [e10]
      · show upd (M.1 11) n c = upd (M.1 58) n c
        rw [e11]
      · show upd (M.1 12) n e = upd (M.1 59) n e
        rw [e12]
      · show upd (M.1 13) n 1 = upd (M.1 63) n 1
        rw [e13]
      · show upd (upd (M.1 14) n 0) n (mxI 0 (f - g)) = upd (upd (M.1 61) n 0) n (mxI 0 (f - g))
        rw [e14]
      · show upd (upd (M.1 15) n 1049) n (f + g) = upd (upd (M.1 62) n 10000000) n (f + g)
        rw [upd_upd, upd_upd, e15]
      · show rg (upd (M.1 56) n (nI m) u) 0 19 ∧ rg (upd (M.1 57) n b u) 0 1759 ∧ rg (upd (M.1 59) n e u) 0 3 ∧ 0 ≤ (upd (upd (M.1 61) n 0) n (mxI 0 (f - g)) u).toInt ∧ (upd (upd (M.1 61) n 0) n (mxI 0 (f - g)) u).toInt ≤ (upd (upd (M.1 62) n 10000000) n (f + g) u).toInt ∧ (upd (upd (M.1 62) n 10000000) n (f + g) u).toInt ≤ 1049 + 75 * d
        by_cases cu : u = n
        · subst cu
          rw [pk_us, pk_us, pk_us, pk_us, pk_us]
          exact ⟨rg_nI (by omega) (by omega) (by omega), hyd, hkd, by omega, by omega, by omega⟩
        · rw [pk_un cu, pk_un cu, pk_un cu, pk_un cu, pk_un cu, pk_un cu, pk_un cu]
          exact hdr u (by omega)
    · refine ⟨fun u hu => ?_, rg_ns1 g3.1.2.2 g6.2.1, ?_⟩
      · show rg (upd (M.1 64) k (nI n) u) 0 ((n + 1 : Nat) - 1)
        by_cases cu : u = k
        · subst cu
          rw [pk_us]
          exact rg_nI (by omega) (by omega) (by omega)
        · rw [pk_un cu]
          have := g6.1 u (by omega)
          exact ⟨this.1, by have := this.2; omega⟩
      · have hs := due_step (la := M.1 64) (ld := M.1 65) (nt := M.1 66) (nd := upd (M.1 16) n (-9)) (ns := M.1 17) (n := n + 1) (k := k) (e0 := n) (t0 := nI d) (r0 := R0) (by omega) (by omega) (by
          intro u hu r hr z
          by_cases cu : u = n
          · subst cu
            rw [pk_us, if_neg (fun z => hr z.symm)]
            refine since_none (fun v hv z => ?_)
            have := g6.1 v hv
            rw [z] at this
            have h2 := this.2
            rw [nI_toInt (by omega)] at h2
            omega
          · rw [pk_un cu]
            exact g6.2.2 u (by omega) r hr z)
        intro u hu r hr z
        have hz := hs u hu r hr z
        show since (upd (M.1 64) k (nI n)) (upd (M.1 65) k (M.1 51 4)) (upd (M.1 66) k R0) (nI u) r (k + 1) z = if nd1 (upd (M.1 16) n (-9)) n R0 u = r then ns1 (upd (M.1 16) n (-9)) (M.1 17) n R0 (nI d) u else z
        rw [g3.1.2.1]
        exact hz
    · refine ⟨g7.1, fun u hu => ?_⟩
      show upd (M.1 49) w (M.1 49 w + 1) u = nI (cnt (fun v => decide (upd (M.1 59) n e v = 3) && decide (upd (M.1 60) n (M.1 78 m) v = nI u)) (n + 1))
      rw [cnt_new]
      by_cases cu : u = w
      · subst cu
        rw [pk_us, g7.2 u hu, if_pos (by rw [ew, h17]; simp), nI_1]
      · rw [pk_un cu, g7.2 u hu, if_neg (by rw [ew]; simp only [Bool.and_eq_true, decide_eq_true_eq, not_and]; exact fun _ => nI_inj (by omega) (by omega) (fun z => cu z.symm)), Nat.add_zero]
  
  · have hadd : xX1_add M (nI m) b c e = some (nI n, (upI (upI (upI (upI (upI (upI (upI (upI (upI M 9 n (nI m)) 10 n b) 11 n c) 12 n e) 13 n 1) 14 n 0) 15 n 1049) 16 n (-9)) 8 0 (nI n + 1))) := by
      unfold xX1_add
      rw [n1, ck_t (inN hn (by omega)), ixN (show n < 2 ^ 31 by omega)]
    have hcs : xX1_cutSpan (upI (upI (upI (upI (upI (upI (upI (upI (upI M 9 n (nI m)) 10 n b) 11 n c) 12 n e) 13 n 1) 14 n 0) 15 n 1049) 16 n (-9)) 8 0 (nI n + 1)) (nI n) f g = some (1, (upI (upI (upI (upI (upI (upI (upI (upI (upI (upI (upI (upI M 9 n (nI m)) 10 n b) 11 n c) 12 n e) 13 n 1) 14 n 0) 15 n 1049) 16 n (-9)) 8 0 (nI n + 1)) 14 n (mxI 0 (f - g))) 15 n (f + g)) 8 1 (nI k + 1))) := by
      rw [cs_fit (upI (upI (upI (upI (upI (upI (upI (upI (upI M 9 n (nI m)) 10 n b) 11 n c) 12 n e) 13 n 1) 14 n 0) 15 n 1049) 16 n (-9)) 8 0 (nI n + 1)) hn f g (by show ¬ upd (M.1 15) n 1049 n < _; rw [pk_us, lt_i, show (1049 : Int32).toInt = 1049 from rfl]; omega) (by show ¬ _ < upd (M.1 14) n 0 n; rw [pk_us, lt_i, show (0 : Int32).toInt = 0 from rfl]; omega)]
      rw [show (upI (upI (upI (upI (upI (upI (upI (upI (upI M 9 n (nI m)) 10 n b) 11 n c) 12 n e) 13 n 1) 14 n 0) 15 n 1049) 16 n (-9)) 8 0 (nI n + 1)).1 14 n = 0 from pk_us, show (upI (upI (upI (upI (upI (upI (upI (upI (upI M 9 n (nI m)) 10 n b) 11 n c) 12 n e) 13 n 1) 14 n 0) 15 n 1049) 16 n (-9)) 8 0 (nI n + 1)).1 15 n = 1049 from pk_us, mx0 hnum.1, mn0 (c := 1049) (by rw [show (1049 : Int32).toInt = 1049 from rfl]; omega), show (upI (upI (upI (upI (upI (upI (upI (upI (upI M 9 n (nI m)) 10 n b) 11 n c) 12 n e) 13 n 1) 14 n 0) 15 n 1049) 16 n (-9)) 8 0 (nI n + 1)).1 8 1 = nI k from k1]
    have hru : xX9_ruleFor (upI (upI (upI (upI (upI (upI (upI (upI (upI (upI (upI (upI M 9 n (nI m)) 10 n b) 11 n c) 12 n e) 13 n 1) 14 n 0) 15 n 1049) 16 n (-9)) 8 0 (nI n + 1)) 14 n (mxI 0 (f - g))) 15 n (f + g)) 8 1 (nI k + 1)) (nI n) = some R0 := by
      rw [fX_eq _ q n (by exact g9.1.1) g9.1.2.2 hn]
      show some (frun (M.1 21) (M.1 22) (M.1 23) (upd (M.1 12) n e n) (upd (upd (M.1 15) n 1049) n (f + g) n) (M.1 0 0) 0 q (-9)) = _
      rw [pk_us, pk_us, g9.2.1.2.2.1, g9.2.1.2.2.2.1, g9.2.1.2.2.2.2, g3.1.1, hR0]
    have hno : xX1_note (upI (upI (upI (upI (upI (upI (upI (upI (upI (upI (upI (upI M 9 n (nI m)) 10 n b) 11 n c) 12 n e) 13 n 1) 14 n 0) 15 n 1049) 16 n (-9)) 8 0 (nI n + 1)) 14 n (mxI 0 (f - g))) 15 n (f + g)) 8 1 (nI k + 1)) (nI n) R0 ((upI (upI (upI (upI (upI (upI (upI (upI (upI (upI (upI (upI M 9 n (nI m)) 10 n b) 11 n c) 12 n e) 13 n 1) 14 n 0) 15 n 1049) 16 n (-9)) 8 0 (nI n + 1)) 14 n (mxI 0 (f - g))) 15 n (f + g)) 8 1 (nI k + 1)).1 0 0) = some (sR (sR (upI (upI (upI (upI (upI (upI (upI (upI (upI (upI (upI (upI M 9 n (nI m)) 10 n b) 11 n c) 12 n e) 13 n 1) 14 n 0) 15 n 1049) 16 n (-9)) 8 0 (nI n + 1)) 14 n (mxI 0 (f - g))) 15 n (f + g)) 8 1 (nI k + 1)) 16 (nd1 (upd (M.1 16) n (-9)) n R0)) 17 (ns1 (upd (M.1 16) n (-9)) (M.1 17) n R0 (nI d))) := by
      rw [note_eq _ hn, note_sR]
      rw [show (upI (upI (upI (upI (upI (upI (upI (upI (upI (upI (upI (upI M 9 n (nI m)) 10 n b) 11 n c) 12 n e) 13 n 1) 14 n 0) 15 n 1049) 16 n (-9)) 8 0 (nI n + 1)) 14 n (mxI 0 (f - g))) 15 n (f + g)) 8 1 (nI k + 1)).1 0 0 = nI d from g3.1.1]
      rfl
    rw [hadd, some_b]
    dsimp only
    rw [hcs, some_b, hru, some_b, hno, some_b, if_neg h17]
    refine Eqv_some ?_
    simp +decide only [h1, h2, h3, h4, h5, h6, h7, h8, h9, h10, h11, h12, if_true, if_false, ite_not, not_true_eq_false, not_false_eq_true, upI_get, upd_get, g5.1.1, g5.1.2.1, g5.2.1.1, g5.2.1.2.1, hn8, hk8, h15, h16, inN hn (show 40 < 2 ^ 31 by omega), inN hm (show 20 < 2 ^ 31 by omega), ixN (show n < 2 ^ 31 by omega), ixN (show m < 2 ^ 31 by omega), ck_t, sR_get, add_sub1]
    have hR1 : RF (upI (upI (upI (upI (upI (upI (upI (upI (upI (sR (sR (upI (upI (upI (upI (upI (upI (upI (upI (upI (upI (upI (upI M 9 n (nI m)) 10 n b) 11 n c) 12 n e) 13 n 1) 14 n 0) 15 n 1049) 16 n (-9)) 8 0 (nI n + 1)) 14 n (mxI 0 (f - g))) 15 n (f + g)) 8 1 (nI k + 1)) 16 (nd1 (upd (M.1 16) n (-9)) n R0)) 17 (ns1 (upd (M.1 16) n (-9)) (M.1 17) n R0 (nI d))) 56 n (nI m)) 57 n b) 58 n c) 59 n e) 60 n (M.1 78 m)) 63 n 1) 61 n 0) 62 n 10000000) 51 5 (nI n + 1)) q n (f + g) = R0 := by
      show frun (M.1 67) (M.1 68) (M.1 69) (upd (M.1 59) n e n) (f + g) (M.1 51 4) 0 q (-9) = R0
      rw [pk_us, g3.1.2.1, hR0]
    have hla : xX10_looksAt (upI (upI (upI (upI (upI (upI (upI (upI (upI (sR (sR (upI (upI (upI (upI (upI (upI (upI (upI (upI (upI (upI (upI M 9 n (nI m)) 10 n b) 11 n c) 12 n e) 13 n 1) 14 n 0) 15 n 1049) 16 n (-9)) 8 0 (nI n + 1)) 14 n (mxI 0 (f - g))) 15 n (f + g)) 8 1 (nI k + 1)) 16 (nd1 (upd (M.1 16) n (-9)) n R0)) 17 (ns1 (upd (M.1 16) n (-9)) (M.1 17) n R0 (nI d))) 56 n (nI m)) 57 n b) 58 n c) 59 n e) 60 n (M.1 78 m)) 63 n 1) 61 n 0) 62 n 10000000) 51 5 (nI n + 1)) (nI n) f g = some (1, LA (upI (upI (upI (upI (upI (upI (upI (upI (upI (sR (sR (upI (upI (upI (upI (upI (upI (upI (upI (upI (upI (upI (upI M 9 n (nI m)) 10 n b) 11 n c) 12 n e) 13 n 1) 14 n 0) 15 n 1049) 16 n (-9)) 8 0 (nI n + 1)) 14 n (mxI 0 (f - g))) 15 n (f + g)) 8 1 (nI k + 1)) 16 (nd1 (upd (M.1 16) n (-9)) n R0)) 17 (ns1 (upd (M.1 16) n (-9)) (M.1 17) n R0 (nI d))) 56 n (nI m)) 57 n b) 58 n c) 59 n e) 60 n (M.1 78 m)) 63 n 1) 61 n 0) 62 n 10000000) 51 5 (nI n + 1)) n k (mxI 0 (f - g)) (f + g) R0 0) := by
      have z1 : (upI (upI (upI (upI (upI (upI (upI (upI (upI (sR (sR (upI (upI (upI (upI (upI (upI (upI (upI (upI (upI (upI (upI M 9 n (nI m)) 10 n b) 11 n c) 12 n e) 13 n 1) 14 n 0) 15 n 1049) 16 n (-9)) 8 0 (nI n + 1)) 14 n (mxI 0 (f - g))) 15 n (f + g)) 8 1 (nI k + 1)) 16 (nd1 (upd (M.1 16) n (-9)) n R0)) 17 (ns1 (upd (M.1 16) n (-9)) (M.1 17) n R0 (nI d))) 56 n (nI m)) 57 n b) 58 n c) 59 n e) 60 n (M.1 78 m)) 63 n 1) 61 n 0) 62 n 10000000) 51 5 (nI n + 1)).1 61 n = 0 := pk_us
      have z2 : (upI (upI (upI (upI (upI (upI (upI (upI (upI (sR (sR (upI (upI (upI (upI (upI (upI (upI (upI (upI (upI (upI (upI M 9 n (nI m)) 10 n b) 11 n c) 12 n e) 13 n 1) 14 n 0) 15 n 1049) 16 n (-9)) 8 0 (nI n + 1)) 14 n (mxI 0 (f - g))) 15 n (f + g)) 8 1 (nI k + 1)) 16 (nd1 (upd (M.1 16) n (-9)) n R0)) 17 (ns1 (upd (M.1 16) n (-9)) (M.1 17) n R0 (nI d))) 56 n (nI m)) 57 n b) 58 n c) 59 n e) 60 n (M.1 78 m)) 63 n 1) 61 n 0) 62 n 10000000) 51 5 (nI n + 1)).1 62 n = 10000000 := pk_us
      have z3 : mxI 0 (mxI 0 (f - g)) = mxI 0 (f - g) := mx0 hnum.1
      have z4 : mnI 10000000 (f + g) = f + g := mn0 (c := 10000000) (by rw [show (10000000 : Int32).toInt = 10000000 from rfl]; omega)
      rw [la_fit (upI (upI (upI (upI (upI (upI (upI (upI (upI (sR (sR (upI (upI (upI (upI (upI (upI (upI (upI (upI (upI (upI (upI M 9 n (nI m)) 10 n b) 11 n c) 12 n e) 13 n 1) 14 n 0) 15 n 1049) 16 n (-9)) 8 0 (nI n + 1)) 14 n (mxI 0 (f - g))) 15 n (f + g)) 8 1 (nI k + 1)) 16 (nd1 (upd (M.1 16) n (-9)) n R0)) 17 (ns1 (upd (M.1 16) n (-9)) (M.1 17) n R0 (nI d))) 56 n (nI m)) 57 n b) 58 n c) 59 n e) 60 n (M.1 78 m)) 63 n 1) 61 n 0) 62 n 10000000) 51 5 (nI n + 1)) hn (show (upI (upI (upI (upI (upI (upI (upI (upI (upI (sR (sR (upI (upI (upI (upI (upI (upI (upI (upI (upI (upI (upI (upI M 9 n (nI m)) 10 n b) 11 n c) 12 n e) 13 n 1) 14 n 0) 15 n 1049) 16 n (-9)) 8 0 (nI n + 1)) 14 n (mxI 0 (f - g))) 15 n (f + g)) 8 1 (nI k + 1)) 16 (nd1 (upd (M.1 16) n (-9)) n R0)) 17 (ns1 (upd (M.1 16) n (-9)) (M.1 17) n R0 (nI d))) 56 n (nI m)) 57 n b) 58 n c) 59 n e) 60 n (M.1 78 m)) 63 n 1) 61 n 0) 62 n 10000000) 51 5 (nI n + 1)).1 51 6 = nI k from k2) hk (show (upI (upI (upI (upI (upI (upI (upI (upI (upI (sR (sR (upI (upI (upI (upI (upI (upI (upI (upI (upI (upI (upI (upI M 9 n (nI m)) 10 n b) 11 n c) 12 n e) 13 n 1) 14 n 0) 15 n 1049) 16 n (-9)) 8 0 (nI n + 1)) 14 n (mxI 0 (f - g))) 15 n (f + g)) 8 1 (nI k + 1)) 16 (nd1 (upd (M.1 16) n (-9)) n R0)) 17 (ns1 (upd (M.1 16) n (-9)) (M.1 17) n R0 (nI d))) 56 n (nI m)) 57 n b) 58 n c) 59 n e) 60 n (M.1 78 m)) 63 n 1) 61 n 0) 62 n 10000000) 51 5 (nI n + 1)).1 51 8 = nI q from g9.1.2.1) g9.1.2.2 f g (by rw [z1, z2, z3, z4, lt_i]; omega), z1, z2, z3, z4, hR1]
    rw [hla, some_b]
    refine Fin_eq (show nI n + 1 - 1 = nI n from add_sub1 _) ⟨d, n + 1, k + 1, q, t, l, j, g1, g2, g3, g4, ?_, ?_, ?_, g8, g9, g10, g11, g12, g13, g14, g15⟩
    · refine ⟨⟨nI_1 n, nI_1 n, by omega⟩, ⟨nI_1 k, nI_1 k, by omega⟩, ?_, ⟨?_, ?_, ?_, ?_, ?_, ?_, ?_⟩, fun u hu => ?_⟩
      · show M.1 8 2 = M.1 51 7 + 0
        rw [q1, Int32.add_zero]
      · show upd (M.1 9) n (nI m) = upd (M.1 56) n (nI m)
        rw [e9]
      · show upd (M.1 10) n b = upd (M.1 57) n b
        rw [e10]
      · show upd (M.1 11) n c = upd (M.1 58) n c
        rw [e11]
      · show upd (M.1 12) n e = upd (M.1 59) n e
        rw [e12]
      · show upd (M.1 13) n 1 = upd (M.1 63) n 1
        rw [e13]
      · show upd (upd (M.1 14) n 0) n (mxI 0 (f - g)) = upd (upd (M.1 61) n 0) n (mxI 0 (f - g))
        rw [e14]
      · show upd (upd (M.1 15) n 1049) n (f + g) = upd (upd (M.1 62) n 10000000) n (f + g)
        rw [upd_upd, upd_upd, e15]
      · show rg (upd (M.1 56) n (nI m) u) 0 19 ∧ rg (upd (M.1 57) n b u) 0 1759 ∧ rg (upd (M.1 59) n e u) 0 3 ∧ 0 ≤ (upd (upd (M.1 61) n 0) n (mxI 0 (f - g)) u).toInt ∧ (upd (upd (M.1 61) n 0) n (mxI 0 (f - g)) u).toInt ≤ (upd (upd (M.1 62) n 10000000) n (f + g) u).toInt ∧ (upd (upd (M.1 62) n 10000000) n (f + g) u).toInt ≤ 1049 + 75 * d
        by_cases cu : u = n
        · subst cu
          rw [pk_us, pk_us, pk_us, pk_us, pk_us]
          exact ⟨rg_nI (by omega) (by omega) (by omega), hyd, hkd, by omega, by omega, by omega⟩
        · rw [pk_un cu, pk_un cu, pk_un cu, pk_un cu, pk_un cu, pk_un cu, pk_un cu]
          exact hdr u (by omega)
    · refine ⟨fun u hu => ?_, rg_ns1 g3.1.2.2 g6.2.1, ?_⟩
      · show rg (upd (M.1 64) k (nI n) u) 0 ((n + 1 : Nat) - 1)
        by_cases cu : u = k
        · subst cu
          rw [pk_us]
          exact rg_nI (by omega) (by omega) (by omega)
        · rw [pk_un cu]
          have := g6.1 u (by omega)
          exact ⟨this.1, by have := this.2; omega⟩
      · have hs := due_step (la := M.1 64) (ld := M.1 65) (nt := M.1 66) (nd := upd (M.1 16) n (-9)) (ns := M.1 17) (n := n + 1) (k := k) (e0 := n) (t0 := nI d) (r0 := R0) (by omega) (by omega) (by
          intro u hu r hr z
          by_cases cu : u = n
          · subst cu
            rw [pk_us, if_neg (fun z => hr z.symm)]
            refine since_none (fun v hv z => ?_)
            have := g6.1 v hv
            rw [z] at this
            have h2 := this.2
            rw [nI_toInt (by omega)] at h2
            omega
          · rw [pk_un cu]
            exact g6.2.2 u (by omega) r hr z)
        intro u hu r hr z
        have hz := hs u hu r hr z
        show since (upd (M.1 64) k (nI n)) (upd (M.1 65) k (M.1 51 4)) (upd (M.1 66) k R0) (nI u) r (k + 1) z = if nd1 (upd (M.1 16) n (-9)) n R0 u = r then ns1 (upd (M.1 16) n (-9)) (M.1 17) n R0 (nI d) u else z
        rw [g3.1.2.1]
        exact hz
    · refine ⟨g7.1, fun u hu => ?_⟩
      show M.1 49 u = nI (cnt (fun v => decide (upd (M.1 59) n e v = 3) && decide (upd (M.1 60) n (M.1 78 m) v = nI u)) (n + 1))
      rw [cnt_new]
      rw [g7.2 u hu, if_neg (by simp only [Bool.and_eq_true, decide_eq_true_eq, not_and]; exact fun z => absurd z h17), Nat.add_zero]
