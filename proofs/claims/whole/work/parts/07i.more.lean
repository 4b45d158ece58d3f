/-! overdue -/
theorem DX_num {M : Mem} {d n k q : Nat} (hd : M.1 51 4 = nI d) (h1000 : d ≤ 1000) (g6 : Gdue M n k) (g9 : Grul M q) {e : Nat} (he : e < 40) : DX M q e = -9 ∨ 0 ≤ (DX M q e).toInt := by
  unfold DX
  by_cases c : FF M q e = -9
  · rw [if_pos c]; exact Or.inl rfl
  · rw [if_neg c]
    right
    rcases FF_ok M q e with z | ⟨b, hb, eb⟩
    · exact absurd z c
    rw [eb, ixN (by have := g9.1.2.2; omega)]
    have hw := (g9.2.2 b hb).2
    have hs : rg (if M.1 16 e = nI b then M.1 17 e else M.1 51 4) 0 1000 := by
      split
      · exact g6.2.1 e he
      · rw [hd]; exact rg_nI (by omega) (by omega) (by omega)
    rw [Int32.toInt_add]
    have := hs.1; have := hs.2; have := hw.1; have := hw.2
    rw [Int.bmod_eq_of_le (by omega) (by omega)]
    omega
theorem op_overdue {M : Mem} (hI : Inv M) : Eqp (xX9_overdue M) (xX10_overdue M) := by
  obtain ⟨d, n, k, q, t, l, j, g1, g2, g3, g4, g5, g6, g7, g8, g9, g10, g11, g12, g13, g14, g15⟩ := hI
  have hI' := (show Rel M d q from ⟨g3.1.1, g3.1.2.1, g9.1.1, g9.1.2.1, g9.1.2.2, g9.2.1.2.2.1, g9.2.1.2.2.2.1, g9.2.1.2.2.2.2, g5.2.2.2.1.2.2.2.1, g5.2.2.2.1.2.2.2.2.2.2⟩)
  have e13 := g5.2.2.2.1.2.2.2.2.1
  have hn := g5.1.2.2
  have key9 := cl_loop (L := fun m a i => lX9_overdue_4 m M a i) (N := n) (p := fun e => !decide (M.1 63 e = 0) && (!decide (DX M q e = -9) && decide (DX M q e < nI d))) (g := some)
    (fun m a i hi => by
      show lX9_overdue_4 (m + 1) M a (nI i) = _
      rw [lX9_overdue_4, g5.1.1, if_pos (nI_lt hi (by omega)), ck_t (inN (show i < 40 by omega) (by omega)), ixN (by omega), nI_1, e13]
      unfold xX9_isOverdue
      rw [dX_eq hI' g6 i hi (by omega) g9.2.1.2.1, some_b, g3.1.1]
      by_cases c : M.1 63 i = 0 <;> by_cases c2 : DX M q i = -9 <;> by_cases c3 : DX M q i < nI d <;> simp [c, c2, c3])
    (fun m a => by
      show lX9_overdue_4 (m + 1) M a (nI n) = _
      rw [lX9_overdue_4, g5.1.1, if_neg (nI_nlt (by omega) (by omega))]) fu 0 0 (by omega) (by rw [fu_v]; omega)
  have key10 := cl_loop (L := fun m a i => lX10_overdue_4 m M a i) (N := n) (p := fun e => !decide (M.1 63 e = 0) && (!decide (DX M q e = -9) && decide (DX M q e < nI d))) (g := some)
    (fun m a i hi => by
      show lX10_overdue_4 (m + 1) M a (nI i) = _
      rw [lX10_overdue_4, g5.1.2.1, if_pos (nI_lt hi (by omega)), ck_t (inN (show i < 40 by omega) (by omega)), ixN (by omega), nI_1]
      rw [dM_eq hI' g5.2.1.2.1 g5.2.1.2.2 i (by omega), due_same hI' g6 hi, some_b, some_b, g3.1.2.1]
      have hneg : (DX M q i < 0) = (DX M q i = -9) := by
        rcases DX_num g3.1.2.1 g3.1.2.2 g6 g9 (show i < 40 by omega) with z | z
        · rw [z]; decide
        · rw [lt_i, eq_i, show (0 : Int32).toInt = 0 from rfl, show (-9 : Int32).toInt = -9 from rfl]
          exact propext (by omega)
      simp only [hneg]
      by_cases c : M.1 63 i = 0 <;> by_cases c2 : DX M q i = -9 <;> by_cases c3 : DX M q i < nI d <;> simp [c, c2, c3])
    (fun m a => by
      show lX10_overdue_4 (m + 1) M a (nI n) = _
      rw [lX10_overdue_4, g5.1.2.1, if_neg (nI_nlt (by omega) (by omega))]) fu 0 0 (by omega) (by rw [fu_v]; omega)
  exact ⟨_, key9, key10⟩
/-! lift -/
def anyR (p : Nat → Bool) : Nat → Nat → Bool
  | _, 0 => false
  | i, k + 1 => p i || anyR p (i + 1) k
theorem nA9 {M : Mem} {d n k q : Nat} (g5 : Gdef M d n k) (g9 : Grul M q) (hI' : Rel M d q) (v : Int32) : ∀ (m i : Nat), i ≤ n → n - i < m → lX9_needsAct_2 m M v (nI i) = some (if anyR (fun e => !decide (M.1 63 e = 0) && (decide (M.1 56 e = v) && (!decide (FF M q e = -9) && !decide (M.1 70 (ix (FF M q e)) = 0)))) i (n - i) then 1 else 0)
  | 0, i, h1, h2 => absurd h2 (Nat.not_lt_zero _)
  | m + 1, i, h1, h2 => by
    have hn := g5.1.2.2
    rw [lX9_needsAct_2, g5.1.1]
    by_cases h : i < n
    · have ih := nA9 g5 g9 hI' v m (i + 1) (by omega) (by omega)
      rw [if_pos (nI_lt h (by omega)), ck_t (inN (show i < 40 by omega) (by omega)), ixN (by omega), nI_1, ih, g5.2.2.2.1.2.2.2.2.1, g5.2.2.2.1.1, FX hI' i (by omega), some_b, show n - i = (n - (i + 1)) + 1 by omega]
      show _ = some (if ((_ : Bool) || _) = true then 1 else 0)
      by_cases c : M.1 63 i = 0
      · simp [c]
      by_cases c2 : M.1 56 i = v
      · by_cases c3 : FF M q i = -9
        · simp [c, c2, c3]
        · rcases FF_ok M q i with z | ⟨b, hb, eb⟩
          · exact absurd z c3
          have hq := g9.1.2.2
          rw [if_neg c, if_pos c2, if_neg c3, eb, ck_t (inN (show b < 30 by omega) (by omega)), ixN (by omega), g9.2.1.1]
          have hact := (g9.2.2 b hb).1
          have e0 : (0 < M.1 70 b) = ¬ (M.1 70 b = 0) := by
            rw [lt_i, eq_i, show (0 : Int32).toInt = 0 from rfl]
            have := hact.1
            exact propext (by omega)
          simp only [e0]
          have nb : ¬ nI b = -9 := nI_ne9 (by omega)
          have hbx : ix (nI b) = b := ixN (by omega)
          by_cases c4 : M.1 70 b = 0 <;> simp [c, c2, c4, nb, eb, hbx]
      · simp [c, c2]
    · rw [if_neg (nI_nlt (by omega) (by omega)), show n - i = 0 by omega]; rfl
theorem lift10 {M : Mem} {d n k q : Nat} (g5 : Gdef M d n k) (g9 : Grul M q) (hI' : Rel M d q) {u : Nat} (hu : u < 20) : ∀ (m i : Nat) (b : Bool), i ≤ n → n - i < m → lX10_lift_56 m M (nI u) (if b then 1 else 0) (nI i) = some (if b && !(anyR (fun e => !decide (M.1 63 e = 0) && (decide (M.1 56 e = nI u) && (!decide (FF M q e = -9) && !decide (M.1 70 (ix (FF M q e)) = 0)))) i (n - i)) then (1, upI M 72 u 0) else (0, M))
  | 0, i, b, h1, h2 => absurd h2 (Nat.not_lt_zero _)
  | m + 1, i, b, h1, h2 => by
    have hn := g5.1.2.2
    rw [lX10_lift_56, g5.1.2.1]
    by_cases h : i < n
    · have iht := lift10 g5 g9 hI' hu m (i + 1) true (by omega) (by omega)
      have ihf := lift10 g5 g9 hI' hu m (i + 1) false (by omega) (by omega)
      rw [if_pos rfl] at iht
      rw [if_neg (by decide)] at ihf
      rw [if_pos (nI_lt h (by omega)), nI_1, show n - i = (n - (i + 1)) + 1 by omega]
      cases b with
      | false => rw [show (if false = true then (1 : Int32) else 0) = 0 from rfl, if_pos rfl, ihf]; rfl
      | true =>
        rw [show (if true = true then (1 : Int32) else 0) = 1 from rfl, if_neg (show ¬ (1 : Int32) = 0 by decide), ck_t (inN (show i < 40 by omega) (by omega)), ixN (show i < 2 ^ 31 by omega), iht, ihf, fM_eq M q i g9.1.2.1 g9.1.2.2 (by omega), some_b, some_b]
        show (if _ then _ else if _ then (if FF M q i < 0 then _ else ck (inB (FF M q i) 30) (if M.1 70 (ix (FF M q i)) = 0 then _ else _)) else _) = some (if (true && !((_ : Bool) || _)) = true then _ else _)
        have hq := g9.1.2.2
        simp only [okb_neg (show q < 2 ^ 31 by omega) (FF_ok M q i)]
        by_cases c : M.1 63 i = 0
        · simp [c]
        by_cases c2 : M.1 56 i = nI u
        · by_cases c3 : FF M q i = -9
          · simp [c, c2, c3]
          · rcases FF_ok M q i with z | ⟨b, hb, eb⟩
            · exact absurd z c3
            have nb : ¬ nI b = -9 := nI_ne9 (by omega)
            have hbx : ix (nI b) = b := ixN (by omega)
            have hbi : inB (nI b) 30 = true := inN (by omega) (by omega)
            by_cases c4 : M.1 70 b = 0 <;> simp [c, c2, c4, nb, eb, hbx, hbi, ck_t]
        · simp [c, c2]
    · rw [if_neg (nI_nlt (by omega) (by omega)), show n - i = 0 by omega, ck_t (inN hu (by omega)), ixN (show u < 2 ^ 31 by omega)]
      cases b <;> rfl
set_option maxHeartbeats 4000000 in
theorem op_lift {M : Mem} (hI : Inv M) (a : Int32) : Eqv (xX9_lift M a) (fun M1 => xX10_lift M1 a) := by
  obtain ⟨d, n, k, q, t, l, j, g1, g2, g3, g4, g5, g6, g7, g8, g9, g10, g11, g12, g13, g14, g15⟩ := id hI
  unfold xX9_lift xX10_lift jX10_lift_26 xX7_standsOn xX9_heatOf xX10_heatOf
  simp only [b_isDay, b_isKind, b_isMile, b_isDefect, b_isIn, b_wrong, b_isMile10, b_isDefect10, r9_1, r9_2, r9_3, r9_4, r9_6, r10_1, r10_2, r10_3, r10_4, r10_6, t9_1, t9_2, t9_3, t9_4, t9_6, t10_1, t10_2, t10_3, t10_4, t10_6, some_b, i10, i00, im1, im2, im3, im4, im6, if_true, if_false]
  have hI' := (show Rel M d q from ⟨g3.1.1, g3.1.2.1, g9.1.1, g9.1.2.1, g9.1.2.2, g9.2.1.2.2.1, g9.2.1.2.2.2.1, g9.2.1.2.2.2.2, g5.2.2.2.1.2.2.2.1, g5.2.2.2.1.2.2.2.2.2.2⟩)
  refine Eqv_ite (fun h1 => ?_) (fun h1 => ?_)
  · refine Eqv_some ?_
    simp +decide only [h1, if_true, if_false, ite_not, not_true_eq_false, not_false_eq_true, upI_get, upd_get]
    exact Fin_some (Inv_ref hI 1)
  refine Eqv_itn (fun h2 => ?_) (fun h2 => ?_)
  · refine Eqv_some ?_
    simp +decide only [h1, h2, if_true, if_false, ite_not, not_true_eq_false, not_false_eq_true, upI_get, upd_get]
    exact Fin_some (Inv_ref hI 1)
  obtain ⟨i, hi, rfl⟩ := ix_of (N := 20) (b := 20) rfl h1 h2
  have hib : inB (nI i) 20 = true := inN (by omega) (by omega)
  have hix : ix (nI i) = i := ixN (by omega)
  rw [ck_t hib, hix, g10.1]
  have e0 : (0 < M.1 72 i) = ¬ (M.1 72 i = 0) := by
    rw [lt_i, eq_i, show (0 : Int32).toInt = 0 from rfl]
    have := (g10.2.2 i hi).1
    exact propext (by omega)
  by_cases h3 : M.1 72 i = 0
  · rw [if_neg (by rw [e0]; exact fun z => z h3), some_b, if_pos rfl]
    refine Eqv_some ?_
    simp +decide only [h1, h2, if_true, if_false, ite_not, not_true_eq_false, not_false_eq_true, upI_get, upd_get, hib, hix, ck_t, h3]
    exact Fin_some (Inv_ref hI 3)
  rw [if_pos (by rw [e0]; exact h3), some_b, if_neg (by decide)]
  unfold xX9_needsAct
  have hna : lX9_needsAct_2 fu M (nI i) 0 = _ := nA9 g5 g9 hI' (nI i) fu 0 (by omega) (by rw [fu_v]; have := g5.1.2.2; omega)
  rw [hna, some_b, ck_t hib, some_b, Nat.sub_zero]
  have hheat : abI (M.1 2 3 - M.1 48 i) = abI (M.1 51 16 - M.1 77 i) := by rw [g2.1.2.2.2, g8]
  have l10 := fun (X : Mem) (b : Bool) (x5 : Gdef X d n k) (x9 : Grul X q) (xR : Rel X d q) => lift10 x5 x9 xR hi fu 0 b (by omega) (by rw [fu_v]; have := g5.1.2.2; omega)
  generalize hany : anyR (fun e => !decide (M.1 63 e = 0) && (decide (M.1 56 e = nI i) && (!decide (FF M q e = -9) && !decide (M.1 70 (ix (FF M q e)) = 0)))) 0 n = A at *
  rw [hheat]
  cases A with
  | true =>
    rw [show (if true = true then (1 : Int32) else 0) = 1 from rfl, if_neg (show ¬ (1 : Int32) = 0 by decide)]
    refine Eqv_some ?_
    simp +decide only [h1, h2, if_true, if_false, ite_not, not_true_eq_false, not_false_eq_true, upI_get, upd_get, hib, hix, ck_t, h3, some_b]
    have z1 := l10 M true g5 g9 hI'
    have z0 := l10 M false g5 g9 hI'
    rw [Nat.sub_zero, hany] at z1 z0
    rw [if_pos rfl] at z1
    rw [if_neg (by decide)] at z0
    rw [show (nI 0 : Int32) = 0 from rfl] at z1 z0
    rw [z1, z0]
    split <;> exact Fin_some hI
  | false =>
    rw [show (if false = true then (1 : Int32) else 0) = 0 from rfl, if_pos rfl]
    by_cases h4 : 20 < abI (M.1 51 16 - M.1 77 i)
    · rw [if_pos h4]
      refine Eqv_some ?_
      simp +decide only [h1, h2, if_true, if_false, ite_not, not_true_eq_false, not_false_eq_true, upI_get, upd_get, hib, hix, ck_t, h3, h4, some_b]
      have z0 := l10 M false g5 g9 hI'
      rw [if_neg (by decide)] at z0
      rw [show (nI 0 : Int32) = 0 from rfl] at z0
      rw [z0]
      exact Fin_some hI
    · rw [if_neg h4, ck_t hib]
      refine Eqv_some ?_
      simp +decide only [h1, h2, if_true, if_false, ite_not, not_true_eq_false, not_false_eq_true, upI_get, upd_get, hib, hix, ck_t, h3, h4, some_b]
      have z1 := l10 (upI M 25 i 0) true g5 g9 hI'
      rw [if_pos rfl, Nat.sub_zero] at z1
      rw [show (nI 0 : Int32) = 0 from rfl] at z1
      rw [z1]
      rw [show anyR (fun e => !decide ((upI M 25 i 0).1 63 e = 0) && (decide ((upI M 25 i 0).1 56 e = nI i) && (!decide (FF (upI M 25 i 0) q e = -9) && !decide ((upI M 25 i 0).1 70 (ix (FF (upI M 25 i 0) q e)) = 0)))) 0 n = false from hany]
      refine Fin_some ⟨d, n, k, q, t, l, j, g1, g2, g3, g4, g5, g6, g7, g8, g9, ?_, g11, g12, g13, g14, g15⟩
      refine ⟨?_, g10.2.1, fun e he => rg_upd (rg_nI (n := 0) (by omega) (by omega) (by omega)) (g10.2.2 e he)⟩
      show upd (M.1 25) i 0 = upd (M.1 72) i 0
      rw [g10.1]
