/-! the order of the jobs -/
theorem ins_cong {du du' : Nat → Int32} {j : Nat} (hj : du j = du' j) : ∀ (p : Nat) (f f' : Nat → Int32), p ≤ j → (∀ i, i ≤ j → i ≠ p → f i = f' i) → (∀ i, i < p → du (ix (f i)) = du' (ix (f i))) → ∀ i, i ≤ j → insF du j p f i = insF du' j p f' i
  | 0, f, f', hp, h, hd, i, hi => by
    show upd f 0 (nI j) i = upd f' 0 (nI j) i
    rw [upd_get, upd_get]
    by_cases h0 : i = 0
    · rw [if_pos h0, if_pos h0]
    · rw [if_neg h0, if_neg h0]; exact h i hi h0
  | p + 1, f, f', hp, h, hd, i, hi => by
    show (if du j < du (ix (f p)) then insF du j p (upd f (p + 1) (f p)) else upd f (p + 1) (nI j)) i = (if du' j < du' (ix (f' p)) then insF du' j p (upd f' (p + 1) (f' p)) else upd f' (p + 1) (nI j)) i
    have e := h p (by omega) (by omega)
    rw [← e, ← hj, ← hd p (by omega)]
    by_cases c : du j < du (ix (f p))
    · rw [if_pos c, if_pos c]
      refine ins_cong hj p _ _ (by omega) (fun a ha hp2 => ?_) (fun a ha => ?_) i hi
      · rw [upd_get, upd_get]
        by_cases h0 : a = p + 1
        · rw [if_pos h0, if_pos h0]
        · rw [if_neg h0, if_neg h0]; exact h a ha h0
      · rw [upd_get, if_neg (by omega)]; exact hd a (by omega)
    · rw [if_neg c, if_neg c, upd_get, upd_get]
      by_cases h0 : i = p + 1
      · rw [if_pos h0, if_pos h0]
      · rw [if_neg h0, if_neg h0]; exact h i hi h0
theorem ins_perm {du : Nat → Int32} {j : Nat} : ∀ (p : Nat) (f : Nat → Int32), p ≤ j → (∀ i, i ≤ j → i ≠ p → ∃ e, e < j ∧ f i = nI e) → (∀ e, e < j → ∃ i, i ≤ j ∧ i ≠ p ∧ f i = nI e) → (∀ i, i ≤ j → ∃ e, e ≤ j ∧ insF du j p f i = nI e) ∧ (∀ e, e ≤ j → ∃ i, i ≤ j ∧ insF du j p f i = nI e)
  | p, f, hp, h1, h2 => by
    have base : (∀ i, i ≤ j → ∃ e, e ≤ j ∧ upd f p (nI j) i = nI e) ∧ (∀ e, e ≤ j → ∃ i, i ≤ j ∧ upd f p (nI j) i = nI e) := by
      refine ⟨fun i hi => ?_, fun e he => ?_⟩
      · by_cases h0 : i = p
        · exact ⟨j, by omega, by rw [upd_get, if_pos h0]⟩
        · obtain ⟨e, he, q⟩ := h1 i hi h0
          exact ⟨e, by omega, by rw [upd_get, if_neg h0, q]⟩
      · by_cases h0 : e = j
        · exact ⟨p, hp, by rw [upd_get, if_pos rfl, h0]⟩
        · obtain ⟨i, hi, hn, q⟩ := h2 e (by omega)
          exact ⟨i, hi, by rw [upd_get, if_neg hn, q]⟩
    match p, hp, h1, h2, base with
    | 0, _, _, _, base => exact base
    | p + 1, hp, h1, h2, base =>
      by_cases c : du j < du (ix (f p))
      · show (∀ i, i ≤ j → ∃ e, e ≤ j ∧ (if du j < du (ix (f p)) then insF du j p (upd f (p + 1) (f p)) else upd f (p + 1) (nI j)) i = nI e) ∧ (∀ e, e ≤ j → ∃ i, i ≤ j ∧ (if du j < du (ix (f p)) then insF du j p (upd f (p + 1) (f p)) else upd f (p + 1) (nI j)) i = nI e)
        rw [if_pos c]
        refine ins_perm p _ (by omega) (fun i hi hn => ?_) (fun e he => ?_)
        · rw [upd_get]
          by_cases h0 : i = p + 1
          · rw [if_pos h0]; exact h1 p (by omega) (by omega)
          · rw [if_neg h0]; exact h1 i hi h0
        · obtain ⟨i, hi, hn, q⟩ := h2 e he
          by_cases h0 : i = p
          · exact ⟨p + 1, hp, by omega, by rw [upd_get, if_pos rfl, ← h0, q]⟩
          · exact ⟨i, hi, h0, by rw [upd_get, if_neg hn, q]⟩
      · show (∀ i, i ≤ j → ∃ e, e ≤ j ∧ (if du j < du (ix (f p)) then insF du j p (upd f (p + 1) (f p)) else upd f (p + 1) (nI j)) i = nI e) ∧ (∀ e, e ≤ j → ∃ i, i ≤ j ∧ (if du j < du (ix (f p)) then insF du j p (upd f (p + 1) (f p)) else upd f (p + 1) (nI j)) i = nI e)
        rw [if_neg c]; exact base
theorem ord_perm {du : Nat → Int32} {f : Nat → Int32} : ∀ (n : Nat), (∀ i, i < n → ∃ e, e < n ∧ ordF du n f i = nI e) ∧ (∀ e, e < n → ∃ i, i < n ∧ ordF du n f i = nI e)
  | 0 => ⟨fun i h => absurd h (Nat.not_lt_zero _), fun i h => absurd h (Nat.not_lt_zero _)⟩
  | n + 1 => by
    obtain ⟨a, b⟩ := ord_perm (du := du) (f := f) n
    obtain ⟨c, d⟩ := ins_perm (du := du) (j := n) n (ordF du n f) (Nat.le_refl n) (fun i h1 h2 => a i (by omega)) (fun e he => by obtain ⟨i, h1, h2⟩ := b e he; exact ⟨i, by omega, by omega, h2⟩)
    refine ⟨fun i hi => ?_, fun e he => ?_⟩
    · obtain ⟨e, h1, h2⟩ := c i (by omega)
      exact ⟨e, by omega, h2⟩
    · obtain ⟨i, h1, h2⟩ := d e (by omega)
      exact ⟨i, by omega, h2⟩
theorem ord_cong {du du' : Nat → Int32} {f f' : Nat → Int32} : ∀ (n : Nat), n ≤ 8 → (∀ e, e < n → du e = du' e) → ∀ i, i < n → ordF du n f i = ordF du' n f' i
  | 0, _, _, i, h => absurd h (Nat.not_lt_zero _)
  | n + 1, hn, h, i, hi => by
    refine ins_cong (h n (by omega)) n _ _ (Nat.le_refl n) (fun a ha hp => ord_cong n (by omega) (fun e he => h e (by omega)) a (by omega)) (fun a ha => ?_) i (by omega)
    obtain ⟨e, he, q⟩ := (ord_perm (du := du) (f := f) n).1 a ha
    rw [q, ixN (by omega)]
    exact h e (by omega)
/-- the class puts a job into its place -/
theorem add9 {M0 : Mem} {j : Nat} {v : Int32} (hj : j < 8) (hv : M0.1 44 j = v) : ∀ (m p : Nat) (f : Nat → Int32), p ≤ j → p < m → (∀ i, i < p → ∃ e, e < 8 ∧ f i = nI e) → lX3_add_34 m (sR M0 46 f) v (nI j) (nI p) = some (nI j, upI (sR M0 46 (insF (M0.1 44) j p f)) 41 0 (M0.1 41 0 + 1))
  | 0, p, f, h1, h2, h3 => absurd h2 (Nat.not_lt_zero _)
  | m + 1, 0, f, h1, h2, h3 => by
    rw [lX3_add_34, if_neg (by decide), ck_t (inN (show 0 < 8 by omega) (by omega)), ixN (by omega), upI_sR (sR M0 46 f), sR_sR, sR_row]
    rfl
  | m + 1, p + 1, f, h1, h2, h3 => by
    obtain ⟨e, he, q⟩ := h3 p (by omega)
    rw [lX3_add_34, if_pos (ps (by omega) (by omega)), show nI (p + 1) - 1 = nI p from pk_sub (b := 1) (by omega), ck_t (inN (show p < 8 by omega) (by omega)), ck_t (inN (show p + 1 < 8 by omega) (by omega)), ixN (show p < 2 ^ 31 by omega), ixN (show p + 1 < 2 ^ 31 by omega), sR_row, show (sR M0 46 f).1 44 = M0.1 44 from rfl, show (sR M0 46 f).1 41 = M0.1 41 from rfl, upI_sR (sR M0 46 f), upI_sR (sR M0 46 f), sR_sR, sR_sR, sR_row, pk_m1]
    show ck (inB (f p) 8) (if v < M0.1 44 (ix (f p)) then _ else _) = some (nI j, upI (sR M0 46 (if M0.1 44 j < M0.1 44 (ix (f p)) then insF (M0.1 44) j p (upd f (p + 1) (f p)) else upd f (p + 1) (nI j))) 41 0 (M0.1 41 0 + 1))
    rw [q, ck_t (inN he (by omega)), hv]
    by_cases c : v < M0.1 44 (ix (nI e))
    · rw [if_pos c, if_pos c, ← q, add9 hj hv m p _ (by omega) (by omega) (fun i hi => by rw [upd_get, if_neg (by omega)]; exact h3 i (by omega))]
    · rw [if_neg c, if_neg c, ck_t (inN (show p + 1 < 8 by omega) (by omega))]
set_option maxHeartbeats 4000000 in
theorem op_job {M : Mem} (hI : Inv M) (a b c : Int32) : Eqv (xX9_job M a b c) (fun M1 => xX10_job M1 a b c) := by
  obtain ⟨d, n, k, q, t, l, j, g1, g2, g3, g4, g5, g6, g7, g8, g9, g10, g11, g12, g13, g14, g15⟩ := id hI
  unfold xX9_job xX10_job xX3_add
  simp only [b_isDay, b_isKind, b_isMile, b_isDefect, b_isIn, b_wrong, b_isMile10, b_isDefect10, r9_1, r9_2, r9_3, r9_4, r9_6, r10_1, r10_2, r10_3, r10_4, r10_6, t9_1, t9_2, t9_3, t9_4, t9_6, t10_1, t10_2, t10_3, t10_4, t10_6, some_b, i10, i00, im1, im2, im3, im4, im6, if_true, if_false, g15.1.1, g15.1.2.1]
  refine Eqv_ite (fun h1 => ?_) (fun h1 => ?_)
  · refine Eqv_some ?_
    simp +decide only [h1, if_true, if_false, ite_not, not_true_eq_false, not_false_eq_true, upI_get, upd_get, g15.1.1, g15.1.2.1]
    exact Fin_some (Inv_ref hI 4)
  refine Eqv_ite (fun h2 => ?_) (fun h2 => ?_)
  · refine Eqv_some ?_
    simp +decide only [h1, h2, if_true, if_false, ite_not, not_true_eq_false, not_false_eq_true, upI_get, upd_get, g15.1.1, g15.1.2.1]
    exact Fin_some (Inv_ref hI 4)
  refine Eqv_ite (fun h3 => ?_) (fun h3 => ?_)
  · refine Eqv_some ?_
    simp +decide only [h1, h2, h3, if_true, if_false, ite_not, not_true_eq_false, not_false_eq_true, upI_get, upd_get, g15.1.1, g15.1.2.1]
    exact Fin_some (Inv_ref hI 4)
  refine Eqv_ite (fun h4 => ?_) (fun h4 => ?_)
  · refine Eqv_some ?_
    simp +decide only [h1, h2, h3, h4, if_true, if_false, ite_not, not_true_eq_false, not_false_eq_true, upI_get, upd_get, g15.1.1, g15.1.2.1]
    exact Fin_some (Inv_ref hI 6)
  refine Eqv_ite (fun h5 => ?_) (fun h5 => ?_)
  · refine Eqv_some ?_
    simp +decide only [h1, h2, h3, h4, h5, if_true, if_false, ite_not, not_true_eq_false, not_false_eq_true, upI_get, upd_get, g15.1.1, g15.1.2.1]
    exact Fin_some (Inv_ref hI 6)
  refine Eqv_ite (fun h6 => ?_) (fun h6 => ?_)
  · refine Eqv_some ?_
    simp +decide only [h1, h2, h3, h4, h5, h6, if_true, if_false, ite_not, not_true_eq_false, not_false_eq_true, upI_get, upd_get, g15.1.1, g15.1.2.1]
    exact Fin_some (Inv_ref hI 6)
  obtain ⟨r0, ⟨r1, r2, r3, r4⟩, r5, r6⟩ := id g15
  have hj8 : (nI j = 8) = ¬ (nI j < 8) := nlt40 (c := 8) (by omega) r0.2.2
  refine Eqv_itn (fun h7 => ?_) (fun h7 => ?_)
  · refine Eqv_some ?_
    simp +decide only [h1, h2, h3, h4, h5, h6, if_true, if_false, ite_not, not_true_eq_false, not_false_eq_true, upI_get, upd_get, g15.1.1, g15.1.2.1, h7, hj8]
    exact Fin_some (Inv_ref hI 6)
  have hj9 := r0.2.2
  have hj : j < 8 := (nI_ltI (b := 8) (by omega) (by omega)).mp h7
  rw [ck_t (inN hj (by omega)), ixN (show j < 2 ^ 31 by omega)]
  have ha := add9 (M0 := upI (upI (upI M 43 j a) 44 j b) 45 j c) (v := b) hj (by show upd (M.1 44) j b j = b; rw [upd_get, if_pos rfl]) fu j (M.1 46) (Nat.le_refl j) (by rw [fu_v]; omega) (fun i hi => by
    rw [r6 i hi]
    obtain ⟨e, he, q⟩ := (ord_perm (du := M.1 85) (f := fun _ => 0) j).1 i hi
    exact ⟨e, by omega, q⟩)
  rw [show sR (upI (upI (upI M 43 j a) 44 j b) 45 j c) 46 (M.1 46) = upI (upI (upI M 43 j a) 44 j b) 45 j c from sR_self (upI (upI (upI M 43 j a) 44 j b) 45 j c) 46] at ha
  rw [ha, some_b]
  refine Eqv_some ?_
  simp +decide only [h1, h2, h3, h4, h5, h6, if_true, if_false, ite_not, not_true_eq_false, not_false_eq_true, upI_get, upd_get, g15.1.1, g15.1.2.1, h7, hj8, sR_get, inN hj (show 8 < 2 ^ 31 by omega), ck_t, ixN (show j < 2 ^ 31 by omega)]
  refine Fin_eq (add_sub1 _) ⟨d, n, k, q, t, l, j + 1, g1, g2, g3, g4, g5, g6, g7, g8, g9, g10, g11, g12, g13, g14, ?_⟩
  refine ⟨⟨?_, nI_1 j, by omega⟩, ⟨r1, ?_, ?_, ?_⟩, fun e he => ⟨?_, ?_⟩, fun e he => ?_⟩
  · exact nI_1 j
  · show upd (M.1 43) j a = upd (M.1 84) j a
    rw [r2]
  · show upd (M.1 44) j b = upd (M.1 85) j b
    rw [r3]
  · show upd (M.1 45) j c = upd (M.1 86) j c
    rw [r4]
  · show rg (upd (M.1 84) j a e) 1 40
    rw [upd_get]; split
    · exact rg_le (x := 1) (y := 40) rfl rfl h1 h4
    · exact (r5 e (by omega)).1
  · show rg (upd (M.1 85) j b e) 0 400
    rw [upd_get]; split
    · exact rg_le (x := 0) (y := 400) rfl rfl h2 h5
    · exact (r5 e (by omega)).2
  · show insF (upd (M.1 44) j b) j j (M.1 46) e = insF (upd (M.1 85) j b) j j (ordF (upd (M.1 85) j b) j (fun _ => 0)) e
    rw [r3]
    refine ins_cong rfl j _ _ (Nat.le_refl j) (fun i h1 h2 => ?_) (fun i _ => rfl) e (by omega)
    rw [r6 i (by omega)]
    exact ord_cong j (by omega) (fun e he => by rw [upd_get, if_neg (by omega)]) i (by omega)
