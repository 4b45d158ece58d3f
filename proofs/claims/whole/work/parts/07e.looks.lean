section HO
variable {α : Type} (f : Int32 → Option α)
theorem b_roo (M : Mem) (v : Int32) : (xX9_refusalOfOpenDefect M v).bind f = if v < 0 then f (-1) else if v < M.1 8 0 then ck (inB v 40) (if M.1 13 (ix v) = 0 then f (-3) else f 0) else f (-1) := by
  unfold xX9_refusalOfOpenDefect; rw [b_isDefect]
  split
  · rfl
  · split
    · rw [if_neg (by decide)]
      cases inB v 40 with
      | false => rfl
      | true => show Option.bind (if _ then _ else _) f = (if _ then _ else _); split <;> rfl
    · rfl
theorem b_wo (M : Mem) (v : Int32) : (xX10_wrongOpen M v).bind f = if v < 0 then f (-1) else if v < M.1 51 5 then ck (inB v 40) (if M.1 63 (ix v) = 0 then f (-3) else f 0) else f (-1) := by
  unfold xX10_wrongOpen; rw [b_isDefect10]
  split
  · rfl
  · split
    · rw [if_neg (by decide)]
      cases inB v 40 with
      | false => rfl
      | true => show Option.bind (if _ then _ else _) f = (if _ then _ else _); split <;> rfl
    · rfl
end HO
/-- what the rule in force rests on: alike on both sides -/
def Rel (M : Mem) (d q : Nat) : Prop := M.1 0 0 = nI d ∧ M.1 51 4 = nI d ∧ M.1 18 0 = nI q ∧ M.1 51 8 = nI q ∧ q ≤ 30 ∧ M.1 21 = M.1 67 ∧ M.1 22 = M.1 68 ∧ M.1 23 = M.1 69 ∧ M.1 12 = M.1 59 ∧ M.1 15 = M.1 62
theorem FX {M : Mem} {d q : Nat} (h : Rel M d q) (e : Nat) (he : e < 40) : xX9_ruleFor M (nI e) = some (FF M q e) := by
  obtain ⟨h1, h2, h3, h4, h5, h6, h7, h8, h9, h10⟩ := h
  rw [fX_eq M q e h3 h5 he, h6, h7, h8, h9, h10, h1, ← h2]; rfl
/-! due: the class's note, the reference's looks -/
theorem dM_loop (M : Mem) (e : Int32) (r : Nat) (hr : r < 30) : ∀ (n k : Nat) (t : Int32), k ≤ 120 → k + 1 < n → lX10_dueOf_29 n M e (nI r) t 1 (nI k - 1) = some (since (M.1 64) (M.1 65) (M.1 66) e (nI r) k t + M.1 71 r)
  | 0, k, t, _, h => absurd h (by omega)
  | n + 1, 0, t, _, h => by
    rw [lX10_dueOf_29, if_pos (by decide), ck_t (inN hr (by omega)), ixN (by omega)]; rfl
  | n + 1, k + 1, t, hk, h => by
    rw [lX10_dueOf_29, nI_pred, if_neg (nI_pos (by omega)), if_neg (by decide), ck_t (inN (show k < 120 by omega) (by omega)), ixN (by omega)]
    unfold jX10_dueOf_69
    rw [if_neg (show ¬ (1 : Int32) = 0 by decide), if_pos rfl, ck_t (inN (show k < 120 by omega) (by omega)), ixN (by omega), ← Int32.sub_eq_add_neg]
    show _ = some ((if M.1 64 k = e then (if M.1 66 k = nI r then since (M.1 64) (M.1 65) (M.1 66) e (nI r) k (M.1 65 k) else t) else since (M.1 64) (M.1 65) (M.1 66) e (nI r) k t) + M.1 71 r)
    by_cases c1 : M.1 64 k = e
    · rw [if_pos c1, if_pos c1]
      by_cases c2 : M.1 66 k = nI r
      · rw [if_pos c2, if_pos c2, dM_loop M e r hr n k (M.1 65 k) (by omega) (by omega)]
      · rw [if_neg c2, if_neg c2]
        obtain ⟨n, rfl⟩ : ∃ x, n = x + 1 := ⟨n - 1, by omega⟩
        rw [lX10_dueOf_29, if_pos rfl, ck_t (inN hr (by omega)), ixN (by omega), ite_self]
    · rw [if_neg c1, if_neg c1, dM_loop M e r hr n k t (by omega) (by omega)]
def DX (M : Mem) (q e : Nat) : Int32 := if FF M q e = -9 then -9 else (if M.1 16 e = FF M q e then M.1 17 e else M.1 51 4) + M.1 71 (ix (FF M q e))
theorem dX_eq {M : Mem} {d q n k : Nat} (h : Rel M d q) (_ : Gdue M n k) (e : Nat) (_ : e < n) (he : e < 40) (hw : M.1 20 = M.1 71) : xX9_dueDay M (nI e) = some (DX M q e) := by
  unfold xX9_dueDay DX
  rw [FX h e he, some_b]
  by_cases c : FF M q e = -9
  · rw [if_pos c, if_pos c]
  · rw [if_neg c, if_neg c, ck_t (inN he (by omega)), ixN (show e < 2 ^ 31 by omega)]
    obtain ⟨h1, h2, h3, h4, h5, -⟩ := h
    rcases FF_ok M q e with z | ⟨b, hb, eb⟩
    · exact absurd z c
    rw [eb, ck_t (inN (show b < 30 by omega) (by omega)), ixN (show b < 2 ^ 31 by omega), hw, h1, h2]
    split
    · rfl
    · rw [ck_t (inN (show b < 30 by omega) (by omega))]
theorem dM_eq {M : Mem} {d q k : Nat} (h : Rel M d q) (hk : M.1 51 6 = nI k) (hk3 : k ≤ 120) (e : Nat) (he : e < 40) : xX10_dueOf M (nI e) = some (if FF M q e = -9 then -9 else since (M.1 64) (M.1 65) (M.1 66) (nI e) (FF M q e) k (M.1 51 4) + M.1 71 (ix (FF M q e))) := by
  obtain ⟨h1, h2, h3, h4, h5, -⟩ := h
  unfold xX10_dueOf
  rw [fM_eq M q e h4 h5 he, some_b]
  show (if FF M q e < 0 then _ else _) = _
  simp only [okb_neg (show q < 2 ^ 31 by omega) (FF_ok M q e)]
  by_cases c : FF M q e = -9
  · rw [if_pos c, if_pos c]
  · rw [if_neg c, if_neg c]
    rcases FF_ok M q e with z | ⟨b, hb, eb⟩
    · exact absurd z c
    show lX10_dueOf_29 fu M (nI e) (FF M q e) (M.1 51 4) 1 (M.1 51 6 - 1) = _
    rw [eb, hk, dM_loop M (nI e) b (by omega) fu k _ hk3 (by rw [fu_v]; omega), ixN (by omega)]
theorem due_same {M : Mem} {d q n k : Nat} (h : Rel M d q) (g : Gdue M n k) {e : Nat} (he : e < n) : (if FF M q e = -9 then -9 else since (M.1 64) (M.1 65) (M.1 66) (nI e) (FF M q e) k (M.1 51 4) + M.1 71 (ix (FF M q e))) = DX M q e := by
  unfold DX
  by_cases c : FF M q e = -9
  · rw [if_pos c, if_pos c]
  · rw [if_neg c, if_neg c, g.2.2 e he _ c]
set_option maxHeartbeats 4000000 in
theorem op_force {M : Mem} (hI : Inv M) (a : Int32) : Eqv (xX9_force M a) (fun M1 => xX10_force M1 a) := by
  obtain ⟨d, n, k, q, t, l, j, g1, g2, g3, g4, g5, g6, g7, g8, g9, g10, g11, g12, g13, g14, g15⟩ := id hI
  unfold xX9_force xX10_force
  simp only [b_isDay, b_isKind, b_isMile, b_isDefect, b_isIn, b_wrong, b_isMile10, b_isDefect10, r9_1, r9_2, r9_3, r9_4, r9_6, r10_1, r10_2, r10_3, r10_4, r10_6, t9_1, t9_2, t9_3, t9_4, t9_6, t10_1, t10_2, t10_3, t10_4, t10_6, some_b, i10, i00, im1, im2, im3, im4, im6, if_true, if_false, g5.1.1, g5.1.2.1, b_roo, b_wo]
  have hI' := (show Rel M d q from ⟨g3.1.1, g3.1.2.1, g9.1.1, g9.1.2.1, g9.1.2.2, g9.2.1.2.2.1, g9.2.1.2.2.2.1, g9.2.1.2.2.2.2, g5.2.2.2.1.2.2.2.1, g5.2.2.2.1.2.2.2.2.2.2⟩)
  refine Eqv_ite (fun h1 => ?_) (fun h1 => ?_)
  · refine Eqv_some ?_
    simp +decide only [h1, if_true, if_false, ite_not, not_true_eq_false, not_false_eq_true, upI_get, upd_get, g5.1.1, g5.1.2.1, b_roo, b_wo]
    exact Fin_some (Inv_ref hI 1)
  refine Eqv_itn (fun h2 => ?_) (fun h2 => ?_)
  · refine Eqv_some ?_
    simp +decide only [h1, h2, if_true, if_false, ite_not, not_true_eq_false, not_false_eq_true, upI_get, upd_get, g5.1.1, g5.1.2.1, b_roo, b_wo]
    exact Fin_some (Inv_ref hI 1)
  obtain ⟨⟨n1, n2, n3⟩, ⟨k1, k2, k3⟩, q1, ⟨e9, e10, e11, e12, e13, e14, e15⟩, hdr⟩ := id g5
  obtain ⟨i, hi, rfl⟩ := lt_nI (by omega) h1 h2
  have hib : inB (nI i) 40 = true := inN (by omega) (by omega)
  have hix : ix (nI i) = i := ixN (by omega)
  rw [ck_t hib, hix, e13]
  by_cases h3 : M.1 63 i = 0
  · rw [if_pos h3]
    refine Eqv_some ?_
    simp +decide only [h1, h2, if_true, if_false, ite_not, not_true_eq_false, not_false_eq_true, upI_get, upd_get, g5.1.1, g5.1.2.1, b_roo, b_wo, hib, hix, ck_t, h3]
    exact Fin_some (Inv_ref hI 3)
  rw [if_neg h3]
  rw [FX hI' i (by omega), some_b]
  refine Eqv_some ?_
  simp +decide only [h1, h2, if_true, if_false, ite_not, not_true_eq_false, not_false_eq_true, upI_get, upd_get, g5.1.1, g5.1.2.1, b_roo, b_wo, hib, hix, ck_t, h3]
  rw [fM_eq M q i g9.1.2.1 g9.1.2.2 (by omega), some_b]
  exact Fin_some hI
set_option maxHeartbeats 4000000 in
theorem op_due {M : Mem} (hI : Inv M) (a : Int32) : Eqv (xX9_due M a) (fun M1 => xX10_due M1 a) := by
  obtain ⟨d, n, k, q, t, l, j, g1, g2, g3, g4, g5, g6, g7, g8, g9, g10, g11, g12, g13, g14, g15⟩ := id hI
  unfold xX9_due xX10_due
  simp only [b_isDay, b_isKind, b_isMile, b_isDefect, b_isIn, b_wrong, b_isMile10, b_isDefect10, r9_1, r9_2, r9_3, r9_4, r9_6, r10_1, r10_2, r10_3, r10_4, r10_6, t9_1, t9_2, t9_3, t9_4, t9_6, t10_1, t10_2, t10_3, t10_4, t10_6, some_b, i10, i00, im1, im2, im3, im4, im6, if_true, if_false, g5.1.1, g5.1.2.1, b_roo, b_wo]
  have hI' := (show Rel M d q from ⟨g3.1.1, g3.1.2.1, g9.1.1, g9.1.2.1, g9.1.2.2, g9.2.1.2.2.1, g9.2.1.2.2.2.1, g9.2.1.2.2.2.2, g5.2.2.2.1.2.2.2.1, g5.2.2.2.1.2.2.2.2.2.2⟩)
  have k1' := g5.2.1.2.1
  have k3' := g5.2.1.2.2
  refine Eqv_ite (fun h1 => ?_) (fun h1 => ?_)
  · refine Eqv_some ?_
    simp +decide only [h1, if_true, if_false, ite_not, not_true_eq_false, not_false_eq_true, upI_get, upd_get, g5.1.1, g5.1.2.1, b_roo, b_wo]
    exact Fin_some (Inv_ref hI 1)
  refine Eqv_itn (fun h2 => ?_) (fun h2 => ?_)
  · refine Eqv_some ?_
    simp +decide only [h1, h2, if_true, if_false, ite_not, not_true_eq_false, not_false_eq_true, upI_get, upd_get, g5.1.1, g5.1.2.1, b_roo, b_wo]
    exact Fin_some (Inv_ref hI 1)
  obtain ⟨⟨n1, n2, n3⟩, ⟨k1, k2, k3⟩, q1, ⟨e9, e10, e11, e12, e13, e14, e15⟩, hdr⟩ := id g5
  obtain ⟨i, hi, rfl⟩ := lt_nI (by omega) h1 h2
  have hib : inB (nI i) 40 = true := inN (by omega) (by omega)
  have hix : ix (nI i) = i := ixN (by omega)
  rw [ck_t hib, hix, e13]
  by_cases h3 : M.1 63 i = 0
  · rw [if_pos h3]
    refine Eqv_some ?_
    simp +decide only [h1, h2, if_true, if_false, ite_not, not_true_eq_false, not_false_eq_true, upI_get, upd_get, g5.1.1, g5.1.2.1, b_roo, b_wo, hib, hix, ck_t, h3]
    exact Fin_some (Inv_ref hI 3)
  rw [if_neg h3]
  rw [dX_eq hI' g6 i hi (by omega) g9.2.1.2.1, some_b]
  refine Eqv_some ?_
  simp +decide only [h1, h2, if_true, if_false, ite_not, not_true_eq_false, not_false_eq_true, upI_get, upd_get, g5.1.1, g5.1.2.1, b_roo, b_wo, hib, hix, ck_t, h3]
  rw [dM_eq hI' k1' k3' i (by omega), some_b]
  exact Fin_eq (due_same hI' g6 hi) hI
