/-! a look: the span is cut on both sides alike -/
theorem mx_i (a b : Int32) : (mxI a b).toInt = max a.toInt b.toInt := by
  unfold mxI; split
  · rename_i h; rw [lt_i] at h; omega
  · rename_i h; rw [lt_i] at h; omega
theorem mn_i (a b : Int32) : (mnI a b).toInt = min a.toInt b.toInt := by
  unfold mnI; split
  · rename_i h; rw [lt_i] at h; omega
  · rename_i h; rw [lt_i] at h; omega
theorem cs_fit (M : Mem) {i : Nat} (hi : i < 40) (s u : Int32) (c1 : ¬ M.1 15 i < mxI 0 (s - u)) (c2 : ¬ s + u < M.1 14 i) : xX1_cutSpan M (nI i) s u = some (1, upI (upI (upI M 14 i (mxI (M.1 14 i) (mxI 0 (s - u)))) 15 i (mnI (M.1 15 i) (s + u))) 8 1 (M.1 8 1 + 1)) := by
  have hib : inB (nI i) 40 = true := inN (by omega) (by omega)
  have hix : ix (nI i) = i := ixN (by omega)
  unfold xX1_cutSpan jX1_cutSpan_41 jX1_cutSpan_69 jX1_cutSpan_96
  simp +decide only [hib, hix, ck_t, c1, c2, if_true, if_false]
  rfl
theorem cs_not (M : Mem) {i : Nat} (hi : i < 40) (s u : Int32) (c : M.1 15 i < mxI 0 (s - u) ∨ s + u < M.1 14 i) : xX1_cutSpan M (nI i) s u = some (0, upI (upI (upI (upI M 14 i (mxI 0 (s - u))) 15 i (s + u)) 8 1 (M.1 8 1 + 1)) 8 2 (M.1 8 2 + 1)) := by
  have hib : inB (nI i) 40 = true := inN (by omega) (by omega)
  have hix : ix (nI i) = i := ixN (by omega)
  unfold xX1_cutSpan jX1_cutSpan_40 jX1_cutSpan_41 jX1_cutSpan_69 jX1_cutSpan_96
  by_cases c1 : M.1 15 i < mxI 0 (s - u)
  · simp +decide only [hib, hix, ck_t, c1, if_true, if_false]
    rfl
  · have c2 : s + u < M.1 14 i := c.resolve_left c1
    simp +decide only [hib, hix, ck_t, c1, c2, if_true, if_false]
    rfl
/-- the reference's memory behind a look -/
def LA (M : Mem) (i k : Nat) (a b r z : Int32) : Mem := upI (upI (upI (upI (upI (upI (upI M 61 i a) 62 i b) 64 k (nI i)) 65 k (M.1 51 4)) 66 k r) 51 6 (nI k + 1)) 51 7 (M.1 51 7 + z)
def RF (M : Mem) (q i : Nat) (b : Int32) : Int32 := frun (M.1 67) (M.1 68) (M.1 69) (M.1 59 i) b (M.1 51 4) 0 q (-9)
theorem la_force (M : Mem) {i k q : Nat} (hi : i < 40) (hq : M.1 51 8 = nI q) (h30 : q ≤ 30) (a b : Int32) : xX10_forceOf (upI (upI (upI (upI M 61 i a) 62 i b) 64 k (nI i)) 65 k (M.1 51 4)) (nI i) = some (RF M q i b) := by
  rw [fM_eq _ q i (by exact hq) h30 hi]
  show some (frun (M.1 67) (M.1 68) (M.1 69) (M.1 59 i) (upd (M.1 62) i b i) (M.1 51 4) 0 q (-9)) = _
  rw [pk_us]; rfl
theorem la_99 (M : Mem) {i k q : Nat} (hi : i < 40) (hk : M.1 51 6 = nI k) (k3 : k < 120) (hq : M.1 51 8 = nI q) (h30 : q ≤ 30) (a b v : Int32) (hv : v = 0 ∨ v = 1) : jX10_looksAt_99 (upI M 61 i a) (nI i) v (nI i) b = some (v, LA M i k a b (RF M q i b) (if v = 0 then 1 else 0)) := by
  have hib : inB (nI i) 40 = true := inN (by omega) (by omega)
  have hix : ix (nI i) = i := ixN (by omega)
  unfold jX10_looksAt_99
  rw [ck_t hib, hix, show (upI M 61 i a).1 51 6 = nI k from hk, ck_t (inN k3 (by omega)), ixN (show k < 2 ^ 31 by omega), show (upI M 61 i a).1 51 4 = M.1 51 4 from rfl, la_force M hi hq h30 a b, some_b]
  rcases hv with rfl | rfl
  · rw [if_pos rfl, ck_t (by decide), if_pos rfl]; rfl
  · rw [if_neg (by decide), ck_t (by decide), if_neg (by decide)]; rfl
theorem la_fit (M : Mem) {i k q : Nat} (hi : i < 40) (hk : M.1 51 6 = nI k) (k3 : k < 120) (hq : M.1 51 8 = nI q) (h30 : q ≤ 30) (s u : Int32) (c : ¬ mnI (M.1 62 i) (s + u) < mxI (M.1 61 i) (mxI 0 (s - u))) : xX10_looksAt M (nI i) s u = some (1, LA M i k (mxI (M.1 61 i) (mxI 0 (s - u))) (mnI (M.1 62 i) (s + u)) (RF M q i (mnI (M.1 62 i) (s + u))) 0) := by
  have hib : inB (nI i) 40 = true := inN (by omega) (by omega)
  have hix : ix (nI i) = i := ixN (by omega)
  unfold xX10_looksAt jX10_looksAt_44 jX10_looksAt_72
  rw [ck_t hib, hix, if_neg c, if_neg (by decide), ck_t hib, ck_t hib, if_neg (by decide), ck_t hib, la_99 M hi hk k3 hq h30 _ _ 1 (Or.inr rfl), if_neg (by decide)]
theorem la_not (M : Mem) {i k q : Nat} (hi : i < 40) (hk : M.1 51 6 = nI k) (k3 : k < 120) (hq : M.1 51 8 = nI q) (h30 : q ≤ 30) (s u : Int32) (c : mnI (M.1 62 i) (s + u) < mxI (M.1 61 i) (mxI 0 (s - u))) : xX10_looksAt M (nI i) s u = some (0, LA M i k (mxI 0 (s - u)) (s + u) (RF M q i (s + u)) 1) := by
  have hib : inB (nI i) 40 = true := inN (by omega) (by omega)
  have hix : ix (nI i) = i := ixN (by omega)
  unfold xX10_looksAt jX10_looksAt_44 jX10_looksAt_72
  rw [ck_t hib, hix, if_pos c, if_pos rfl, ck_t hib, if_pos rfl, la_99 M hi hk k3 hq h30 _ _ 0 (Or.inl rfl), if_pos rfl]
theorem sR_get (M : Mem) (k : Nat) (f : Nat → Int32) (q : Nat) : (sR M k f).1 q = if q = k then f else M.1 q := by
  by_cases h : q = k
  · rw [if_pos h, h, sR_row]
  · rw [if_neg h, sR_ne M f h]
/-! the note and the looks -/
theorem since_cong {la ld nt la' ld' nt' : Nat → Int32} {e r : Int32} : ∀ {k : Nat} {t : Int32}, (∀ j, j < k → la' j = la j ∧ ld' j = ld j ∧ nt' j = nt j) → since la' ld' nt' e r k t = since la ld nt e r k t
  | 0, _, _ => rfl
  | k + 1, t, h => by
    obtain ⟨h1, h2, h3⟩ := h k (by omega)
    unfold since
    rw [h1, h2, h3, since_cong (fun j hj => h j (by omega)), since_cong (fun j hj => h j (by omega))]
theorem since_none {la ld nt : Nat → Int32} {e r : Int32} : ∀ {k : Nat} {t : Int32}, (∀ j, j < k → ¬ la j = e) → since la ld nt e r k t = t
  | 0, _, _ => rfl
  | k + 1, t, h => by
    unfold since
    rw [if_neg (h k (by omega)), since_none (fun j hj => h j (by omega))]
theorem nI_inj {a b : Nat} (ha : a < 2 ^ 31) (hb : b < 2 ^ 31) (h : ¬ a = b) : ¬ nI a = nI b := fun z => h ((nI_eq ha hb).mp z)
/-- the rows of the note behind a look at e0 that noted r0 on the day t0 -/
def nd1 (nd : Nat → Int32) (e0 : Nat) (r0 : Int32) : Nat → Int32 := if nd e0 = r0 then nd else upd nd e0 r0
def ns1 (nd ns : Nat → Int32) (e0 : Nat) (r0 t0 : Int32) : Nat → Int32 := if nd e0 = r0 then ns else upd ns e0 t0
theorem due_step {la ld nt nd ns : Nat → Int32} {n k e0 : Nat} {r0 t0 : Int32} (hn : n ≤ 40) (he : e0 < n)
    (h : ∀ e, e < n → ∀ r : Int32, ¬ r = -9 → ∀ t : Int32, since la ld nt (nI e) r k t = if nd e = r then ns e else t) :
    ∀ e, e < n → ∀ r : Int32, ¬ r = -9 → ∀ t : Int32, since (upd la k (nI e0)) (upd ld k t0) (upd nt k r0) (nI e) r (k + 1) t = if nd1 nd e0 r0 e = r then ns1 nd ns e0 r0 t0 e else t := by
  intro e hen r hr t
  have cg : ∀ t, since (upd la k (nI e0)) (upd ld k t0) (upd nt k r0) (nI e) r k t = since la ld nt (nI e) r k t := fun t => since_cong (fun j hj => ⟨pk_un (by omega), pk_un (by omega), pk_un (by omega)⟩)
  unfold since
  rw [pk_us, pk_us, pk_us, cg, cg, h e hen r hr, h e hen r hr]
  unfold nd1 ns1
  by_cases c : e0 = e
  · subst c
    rw [if_pos rfl]
    by_cases c2 : r0 = r
    · subst c2
      rw [if_pos rfl]
      by_cases c3 : nd e0 = r0
      · rw [if_pos c3, if_pos c3, if_pos c3, if_pos c3]
      · rw [if_neg c3, if_neg c3, if_neg c3, pk_us, pk_us, if_pos rfl]
    · rw [if_neg c2]
      by_cases c3 : nd e0 = r0
      · rw [if_pos c3, if_neg (fun z => c2 (c3.symm.trans z))]
      · rw [if_neg c3, pk_us, if_neg c2]
  · rw [if_neg (nI_inj (by omega) (by omega) c)]
    by_cases c3 : nd e0 = r0
    · rw [if_pos c3, if_pos c3]
    · rw [if_neg c3, if_neg c3, pk_un (fun z => c z.symm), pk_un (fun z => c z.symm)]
theorem note_eq (M : Mem) {i : Nat} (hi : i < 40) (r t : Int32) : xX1_note M (nI i) r t = some (if M.1 16 i = r then M else upI (upI M 16 i r) 17 i t) := by
  unfold xX1_note
  rw [ck_t (inN hi (by omega)), ixN (by omega)]
  split <;> rfl
/-- the class's memory behind the note, as rows -/
theorem note_sR (M : Mem) (i : Nat) (r t : Int32) : (if M.1 16 i = r then M else upI (upI M 16 i r) 17 i t) = sR (sR M 16 (nd1 (M.1 16) i r)) 17 (ns1 (M.1 16) (M.1 17) i r t) := by
  unfold nd1 ns1
  by_cases c : M.1 16 i = r
  · rw [if_pos c, if_pos c, if_pos c, sR_self]
    have := sR_self M 17
    exact this.symm
  · rw [if_neg c, if_neg c, if_neg c]; rfl
theorem rg_ns1 {nd ns : Nat → Int32} {e0 : Nat} {r0 : Int32} {d : Nat} (hd : d ≤ 1000) (h : ∀ e, e < 40 → rg (ns e) 0 1000) : ∀ e, e < 40 → rg (ns1 nd ns e0 r0 (nI d) e) 0 1000 := by
  intro e he
  unfold ns1; split
  · exact h e he
  · exact rg_upd (rg_nI (by omega) (by omega) (by omega)) (h e he)
/-- numbers of a look -/
theorem lk_num {s u : Int32} (hs : rg s 0 999) (hu : rg u 0 50) : 0 ≤ (mxI 0 (s - u)).toInt ∧ (mxI 0 (s - u)).toInt ≤ (s + u).toInt ∧ (s + u).toInt ≤ 1049 := by
  have e1 : (s - u).toInt = s.toInt - u.toInt := by
    rw [Int32.toInt_sub]; have := hs.1; have := hs.2; have := hu.1; have := hu.2
    exact Int.bmod_eq_of_le (by omega) (by omega)
  have e2 : (s + u).toInt = s.toInt + u.toInt := by
    rw [Int32.toInt_add]; have := hs.1; have := hs.2; have := hu.1; have := hu.2
    exact Int.bmod_eq_of_le (by omega) (by omega)
  rw [mx_i, e1, e2, show (0 : Int32).toInt = 0 from rfl]
  have := hs.1; have := hs.2; have := hu.1; have := hu.2
  omega
set_option maxHeartbeats 4000000 in
theorem op_look {M : Mem} (hI : Inv M) (a b c : Int32) : Eqv (xX9_look M a b c) (fun M1 => xX10_look M1 a b c) := by
  obtain ⟨d, n, k, q, t, l, j, g1, g2, g3, g4, g5, g6, g7, g8, g9, g10, g11, g12, g13, g14, g15⟩ := id hI
  unfold xX9_look xX10_look
  simp only [b_isDay, b_isKind, b_isMile, b_isDefect, b_isIn, b_wrong, b_isMile10, b_isDefect10, r9_1, r9_2, r9_3, r9_4, r9_6, r10_1, r10_2, r10_3, r10_4, r10_6, t9_1, t9_2, t9_3, t9_4, t9_6, t10_1, t10_2, t10_3, t10_4, t10_6, some_b, i10, i00, im1, im2, im3, im4, im6, if_true, if_false, g5.1.1, g5.1.2.1, b_roo, g5.2.1.1, g5.2.1.2.1]
  have hI' := (show Rel M d q from ⟨g3.1.1, g3.1.2.1, g9.1.1, g9.1.2.1, g9.1.2.2, g9.2.1.2.2.1, g9.2.1.2.2.2.1, g9.2.1.2.2.2.2, g5.2.2.2.1.2.2.2.1, g5.2.2.2.1.2.2.2.2.2.2⟩)
  refine Eqv_ite (fun h1 => ?_) (fun h1 => ?_)
  · refine Eqv_some ?_
    simp +decide only [h1, if_true, if_false, ite_not, not_true_eq_false, not_false_eq_true, upI_get, upd_get, g5.1.1, g5.1.2.1, b_roo, g5.2.1.1, g5.2.1.2.1]
    exact Fin_some (Inv_ref hI 1)
  refine Eqv_itn (fun h2 => ?_) (fun h2 => ?_)
  · refine Eqv_some ?_
    simp +decide only [h1, h2, if_true, if_false, ite_not, not_true_eq_false, not_false_eq_true, upI_get, upd_get, g5.1.1, g5.1.2.1, b_roo, g5.2.1.1, g5.2.1.2.1]
    exact Fin_some (Inv_ref hI 1)
  obtain ⟨⟨n1, n2, n3⟩, ⟨k1, k2, k3⟩, q1, ⟨e9, e10, e11, e12, e13, e14, e15⟩, hdr⟩ := id g5
  obtain ⟨i, hi, rfl⟩ := lt_nI (by omega) h1 h2
  have hib : inB (nI i) 40 = true := inN (by omega) (by omega)
  have hix : ix (nI i) = i := ixN (by omega)
  rw [ck_t hib, hix, e13]
  by_cases h3 : M.1 63 i = 0
  · rw [if_pos h3]
    refine Eqv_some ?_
    simp +decide only [h1, h2, if_true, if_false, ite_not, not_true_eq_false, not_false_eq_true, upI_get, upd_get, g5.1.1, g5.1.2.1, b_roo, g5.2.1.1, g5.2.1.2.1, hib, hix, ck_t, h3]
    exact Fin_some (Inv_ref hI 3)
  rw [if_neg h3]
  refine Eqv_ite (fun h4 => ?_) (fun h4 => ?_)
  · refine Eqv_some ?_
    simp +decide only [h1, h2, if_true, if_false, ite_not, not_true_eq_false, not_false_eq_true, upI_get, upd_get, g5.1.1, g5.1.2.1, b_roo, g5.2.1.1, g5.2.1.2.1, hib, hix, ck_t, h3, h4]
    exact Fin_some (Inv_ref hI 4)
  refine Eqv_ite (fun h5 => ?_) (fun h5 => ?_)
  · refine Eqv_some ?_
    simp +decide only [h1, h2, if_true, if_false, ite_not, not_true_eq_false, not_false_eq_true, upI_get, upd_get, g5.1.1, g5.1.2.1, b_roo, g5.2.1.1, g5.2.1.2.1, hib, hix, ck_t, h3, h4, h5]
    exact Fin_some (Inv_ref hI 4)
  refine Eqv_ite (fun h6 => ?_) (fun h6 => ?_)
  · refine Eqv_some ?_
    simp +decide only [h1, h2, if_true, if_false, ite_not, not_true_eq_false, not_false_eq_true, upI_get, upd_get, g5.1.1, g5.1.2.1, b_roo, g5.2.1.1, g5.2.1.2.1, hib, hix, ck_t, h3, h4, h5, h6]
    exact Fin_some (Inv_ref hI 6)
  refine Eqv_ite (fun h7 => ?_) (fun h7 => ?_)
  · refine Eqv_some ?_
    simp +decide only [h1, h2, if_true, if_false, ite_not, not_true_eq_false, not_false_eq_true, upI_get, upd_get, g5.1.1, g5.1.2.1, b_roo, g5.2.1.1, g5.2.1.2.1, hib, hix, ck_t, h3, h4, h5, h6, h7]
    exact Fin_some (Inv_ref hI 6)
  have hk8 : (nI k = 120) = ¬ (nI k < 120) := nlt40 (c := 120) (by omega) k3
  refine Eqv_itn (fun h8 => ?_) (fun h8 => ?_)
  · refine Eqv_some ?_
    simp +decide only [h1, h2, if_true, if_false, ite_not, not_true_eq_false, not_false_eq_true, upI_get, upd_get, g5.1.1, g5.1.2.1, b_roo, g5.2.1.1, g5.2.1.2.1, hib, hix, ck_t, h3, h4, h5, h6, h7, h8, hk8]
    exact Fin_some (Inv_ref hI 6)
  have hk : k < 120 := (nI_ltI (b := 120) (by omega) (by omega)).mp h8
  have hsz : rg b 0 999 := rg_le (x := 0) (y := 999) rfl rfl h4 h6
  have hdo : rg c 0 50 := rg_le (x := 0) (y := 50) rfl rfl h5 h7
  have hnum := lk_num hsz hdo
  have hspan := (hdr i hi).2.2.2
  by_cases cm : mnI (M.1 62 i) (b + c) < mxI (M.1 61 i) (mxI 0 (b - c))
  · have cc : M.1 62 i < mxI 0 (b - c) ∨ b + c < M.1 61 i := by
      rw [lt_i, mn_i, mx_i] at cm
      rw [lt_i, lt_i]
      omega
    have hcs : xX1_cutSpan M (nI i) b c = some (0, (upI (upI (upI (upI M 14 i (mxI 0 (b - c))) 15 i (b + c)) 8 1 (nI k + 1)) 8 2 (M.1 8 2 + 1))) := by
      rw [cs_not M (show i < 40 by omega) b c (by rw [e14, e15]; exact cc), k1]
    have hru : xX9_ruleFor (upI (upI (upI (upI M 14 i (mxI 0 (b - c))) 15 i (b + c)) 8 1 (nI k + 1)) 8 2 (M.1 8 2 + 1)) (nI i) = some (RF M q i (b + c)) := by
      rw [fX_eq _ q i (by exact g9.1.1) g9.1.2.2 (by omega)]
      show some (frun (M.1 21) (M.1 22) (M.1 23) (M.1 12 i) (upd (M.1 15) i (b + c) i) (M.1 0 0) 0 q (-9)) = _
      rw [pk_us, g9.2.1.2.2.1, g9.2.1.2.2.2.1, g9.2.1.2.2.2.2, e12, g3.1.1, ← g3.1.2.1]; rfl
    have hno : xX1_note (upI (upI (upI (upI M 14 i (mxI 0 (b - c))) 15 i (b + c)) 8 1 (nI k + 1)) 8 2 (M.1 8 2 + 1)) (nI i) (RF M q i (b + c)) ((upI (upI (upI (upI M 14 i (mxI 0 (b - c))) 15 i (b + c)) 8 1 (nI k + 1)) 8 2 (M.1 8 2 + 1)).1 0 0) = some (sR (sR (upI (upI (upI (upI M 14 i (mxI 0 (b - c))) 15 i (b + c)) 8 1 (nI k + 1)) 8 2 (M.1 8 2 + 1)) 16 (nd1 (M.1 16) i (RF M q i (b + c)))) 17 (ns1 (M.1 16) (M.1 17) i (RF M q i (b + c)) (nI d))) := by
      rw [note_eq _ (by omega), note_sR]
      rw [show (upI (upI (upI (upI M 14 i (mxI 0 (b - c))) 15 i (b + c)) 8 1 (nI k + 1)) 8 2 (M.1 8 2 + 1)).1 0 0 = nI d from g3.1.1]
      rfl
    rw [hcs, some_b, hru, some_b, hno, some_b, if_pos rfl]
    refine Eqv_some ?_
    simp +decide only [h1, h2, if_true, if_false, ite_not, not_true_eq_false, not_false_eq_true, upI_get, upd_get, g5.1.1, g5.1.2.1, b_roo, g5.2.1.1, g5.2.1.2.1, hib, hix, ck_t, h3, h4, h5, h6, h7, h8, hk8, sR_get]
    have hla : xX10_looksAt (sR (sR (upI (upI (upI (upI M 14 i (mxI 0 (b - c))) 15 i (b + c)) 8 1 (nI k + 1)) 8 2 (M.1 8 2 + 1)) 16 (nd1 (M.1 16) i (RF M q i (b + c)))) 17 (ns1 (M.1 16) (M.1 17) i (RF M q i (b + c)) (nI d))) (nI i) b c = some (0, LA (sR (sR (upI (upI (upI (upI M 14 i (mxI 0 (b - c))) 15 i (b + c)) 8 1 (nI k + 1)) 8 2 (M.1 8 2 + 1)) 16 (nd1 (M.1 16) i (RF M q i (b + c)))) 17 (ns1 (M.1 16) (M.1 17) i (RF M q i (b + c)) (nI d))) i k (mxI 0 (b - c)) (b + c) (RF (sR (sR (upI (upI (upI (upI M 14 i (mxI 0 (b - c))) 15 i (b + c)) 8 1 (nI k + 1)) 8 2 (M.1 8 2 + 1)) 16 (nd1 (M.1 16) i (RF M q i (b + c)))) 17 (ns1 (M.1 16) (M.1 17) i (RF M q i (b + c)) (nI d))) q i (b + c)) 1) := la_not (sR (sR (upI (upI (upI (upI M 14 i (mxI 0 (b - c))) 15 i (b + c)) 8 1 (nI k + 1)) 8 2 (M.1 8 2 + 1)) 16 (nd1 (M.1 16) i (RF M q i (b + c)))) 17 (ns1 (M.1 16) (M.1 17) i (RF M q i (b + c)) (nI d))) (show i < 40 by omega) (show (sR (sR (upI (upI (upI (upI M 14 i (mxI 0 (b - c))) 15 i (b + c)) 8 1 (nI k + 1)) 8 2 (M.1 8 2 + 1)) 16 (nd1 (M.1 16) i (RF M q i (b + c)))) 17 (ns1 (M.1 16) (M.1 17) i (RF M q i (b + c)) (nI d))).1 51 6 = nI k from k2) hk (show (sR (sR (upI (upI (upI (upI M 14 i (mxI 0 (b - c))) 15 i (b + c)) 8 1 (nI k + 1)) 8 2 (M.1 8 2 + 1)) 16 (nd1 (M.1 16) i (RF M q i (b + c)))) 17 (ns1 (M.1 16) (M.1 17) i (RF M q i (b + c)) (nI d))).1 51 8 = nI q from g9.1.2.1) g9.1.2.2 b c cm
    rw [hla, some_b, if_pos rfl]
    refine Fin_some ⟨d, n, k + 1, q, t, l, j, g1, g2, g3, g4, ?_, ?_, g7, g8, g9, g10, g11, g12, g13, g14, g15⟩
    · refine ⟨⟨n1, n2, n3⟩, ⟨nI_1 k, nI_1 k, by omega⟩, ?_, ⟨e9, e10, e11, e12, e13, ?_, ?_⟩, fun e he => ⟨(hdr e he).1, (hdr e he).2.1, (hdr e he).2.2.1, ?_⟩⟩
      · show M.1 8 2 + 1 = M.1 51 7 + 1
        rw [q1]
      · show upd (M.1 14) i (mxI 0 (b - c)) = upd (M.1 61) i (mxI 0 (b - c))
        rw [e14]
      · show upd (M.1 15) i (b + c) = upd (M.1 62) i (b + c)
        rw [e15]
      · show 0 ≤ (upd (M.1 61) i (mxI 0 (b - c)) e).toInt ∧ (upd (M.1 61) i (mxI 0 (b - c)) e).toInt ≤ (upd (M.1 62) i (b + c) e).toInt ∧ (upd (M.1 62) i (b + c) e).toInt ≤ 1049 + 75 * d
        by_cases ce : e = i
        · subst ce
          rw [pk_us, pk_us]
          rw [lt_i, mn_i, mx_i] at cm
          omega
        · rw [pk_un ce, pk_un ce]
          exact (hdr e he).2.2.2
    · refine ⟨fun e he => ?_, rg_ns1 g3.1.2.2 g6.2.1, ?_⟩
      · show rg (upd (M.1 64) k (nI i) e) 0 (n - 1)
        by_cases ce : e = k
        · subst ce
          rw [pk_us]
          exact rg_nI (by omega) (by omega) (by omega)
        · rw [pk_un ce]
          exact g6.1 e (by omega)
      · have hs := due_step (t0 := nI d) (r0 := RF M q i (b + c)) n3 hi g6.2.2
        intro e he r hr z
        have hz := hs e he r hr z
        show since (upd (M.1 64) k (nI i)) (upd (M.1 65) k (M.1 51 4)) (upd (M.1 66) k (RF M q i (b + c))) (nI e) r (k + 1) z = if nd1 (M.1 16) i (RF M q i (b + c)) e = r then ns1 (M.1 16) (M.1 17) i (RF M q i (b + c)) (nI d) e else z
        rw [g3.1.2.1]
        exact hz
  · have c1 : ¬ M.1 62 i < mxI 0 (b - c) := by
      rw [lt_i, mn_i, mx_i] at cm
      rw [lt_i]
      omega
    have c2 : ¬ b + c < M.1 61 i := by
      rw [lt_i, mn_i, mx_i] at cm
      rw [lt_i]
      omega
    have hcs : xX1_cutSpan M (nI i) b c = some (1, (upI (upI (upI M 14 i (mxI (M.1 61 i) (mxI 0 (b - c)))) 15 i (mnI (M.1 62 i) (b + c))) 8 1 (nI k + 1))) := by
      rw [cs_fit M (show i < 40 by omega) b c (by rw [e15]; exact c1) (by rw [e14]; exact c2), e14, e15, k1]
    have hru : xX9_ruleFor (upI (upI (upI M 14 i (mxI (M.1 61 i) (mxI 0 (b - c)))) 15 i (mnI (M.1 62 i) (b + c))) 8 1 (nI k + 1)) (nI i) = some (RF M q i (mnI (M.1 62 i) (b + c))) := by
      rw [fX_eq _ q i (by exact g9.1.1) g9.1.2.2 (by omega)]
      show some (frun (M.1 21) (M.1 22) (M.1 23) (M.1 12 i) (upd (M.1 15) i (mnI (M.1 62 i) (b + c)) i) (M.1 0 0) 0 q (-9)) = _
      rw [pk_us, g9.2.1.2.2.1, g9.2.1.2.2.2.1, g9.2.1.2.2.2.2, e12, g3.1.1, ← g3.1.2.1]; rfl
    have hno : xX1_note (upI (upI (upI M 14 i (mxI (M.1 61 i) (mxI 0 (b - c)))) 15 i (mnI (M.1 62 i) (b + c))) 8 1 (nI k + 1)) (nI i) (RF M q i (mnI (M.1 62 i) (b + c))) ((upI (upI (upI M 14 i (mxI (M.1 61 i) (mxI 0 (b - c)))) 15 i (mnI (M.1 62 i) (b + c))) 8 1 (nI k + 1)).1 0 0) = some (sR (sR (upI (upI (upI M 14 i (mxI (M.1 61 i) (mxI 0 (b - c)))) 15 i (mnI (M.1 62 i) (b + c))) 8 1 (nI k + 1)) 16 (nd1 (M.1 16) i (RF M q i (mnI (M.1 62 i) (b + c))))) 17 (ns1 (M.1 16) (M.1 17) i (RF M q i (mnI (M.1 62 i) (b + c))) (nI d))) := by
      rw [note_eq _ (by omega), note_sR]
      rw [show (upI (upI (upI M 14 i (mxI (M.1 61 i) (mxI 0 (b - c)))) 15 i (mnI (M.1 62 i) (b + c))) 8 1 (nI k + 1)).1 0 0 = nI d from g3.1.1]
      rfl
    rw [hcs, some_b, hru, some_b, hno, some_b, if_neg (show ¬ (1 : Int32) = 0 by decide)]
    refine Eqv_some ?_
    simp +decide only [h1, h2, if_true, if_false, ite_not, not_true_eq_false, not_false_eq_true, upI_get, upd_get, g5.1.1, g5.1.2.1, b_roo, g5.2.1.1, g5.2.1.2.1, hib, hix, ck_t, h3, h4, h5, h6, h7, h8, hk8, sR_get]
    have hla : xX10_looksAt (sR (sR (upI (upI (upI M 14 i (mxI (M.1 61 i) (mxI 0 (b - c)))) 15 i (mnI (M.1 62 i) (b + c))) 8 1 (nI k + 1)) 16 (nd1 (M.1 16) i (RF M q i (mnI (M.1 62 i) (b + c))))) 17 (ns1 (M.1 16) (M.1 17) i (RF M q i (mnI (M.1 62 i) (b + c))) (nI d))) (nI i) b c = some (1, LA (sR (sR (upI (upI (upI M 14 i (mxI (M.1 61 i) (mxI 0 (b - c)))) 15 i (mnI (M.1 62 i) (b + c))) 8 1 (nI k + 1)) 16 (nd1 (M.1 16) i (RF M q i (mnI (M.1 62 i) (b + c))))) 17 (ns1 (M.1 16) (M.1 17) i (RF M q i (mnI (M.1 62 i) (b + c))) (nI d))) i k (mxI (M.1 61 i) (mxI 0 (b - c))) (mnI (M.1 62 i) (b + c)) (RF (sR (sR (upI (upI (upI M 14 i (mxI (M.1 61 i) (mxI 0 (b - c)))) 15 i (mnI (M.1 62 i) (b + c))) 8 1 (nI k + 1)) 16 (nd1 (M.1 16) i (RF M q i (mnI (M.1 62 i) (b + c))))) 17 (ns1 (M.1 16) (M.1 17) i (RF M q i (mnI (M.1 62 i) (b + c))) (nI d))) q i (mnI (M.1 62 i) (b + c))) 0) := la_fit (sR (sR (upI (upI (upI M 14 i (mxI (M.1 61 i) (mxI 0 (b - c)))) 15 i (mnI (M.1 62 i) (b + c))) 8 1 (nI k + 1)) 16 (nd1 (M.1 16) i (RF M q i (mnI (M.1 62 i) (b + c))))) 17 (ns1 (M.1 16) (M.1 17) i (RF M q i (mnI (M.1 62 i) (b + c))) (nI d))) (show i < 40 by omega) (show (sR (sR (upI (upI (upI M 14 i (mxI (M.1 61 i) (mxI 0 (b - c)))) 15 i (mnI (M.1 62 i) (b + c))) 8 1 (nI k + 1)) 16 (nd1 (M.1 16) i (RF M q i (mnI (M.1 62 i) (b + c))))) 17 (ns1 (M.1 16) (M.1 17) i (RF M q i (mnI (M.1 62 i) (b + c))) (nI d))).1 51 6 = nI k from k2) hk (show (sR (sR (upI (upI (upI M 14 i (mxI (M.1 61 i) (mxI 0 (b - c)))) 15 i (mnI (M.1 62 i) (b + c))) 8 1 (nI k + 1)) 16 (nd1 (M.1 16) i (RF M q i (mnI (M.1 62 i) (b + c))))) 17 (ns1 (M.1 16) (M.1 17) i (RF M q i (mnI (M.1 62 i) (b + c))) (nI d))).1 51 8 = nI q from g9.1.2.1) g9.1.2.2 b c cm
    rw [hla, some_b, if_neg (show ¬ (1 : Int32) = 0 by decide)]
    refine Fin_some ⟨d, n, k + 1, q, t, l, j, g1, g2, g3, g4, ?_, ?_, g7, g8, g9, g10, g11, g12, g13, g14, g15⟩
    · refine ⟨⟨n1, n2, n3⟩, ⟨nI_1 k, nI_1 k, by omega⟩, ?_, ⟨e9, e10, e11, e12, e13, ?_, ?_⟩, fun e he => ⟨(hdr e he).1, (hdr e he).2.1, (hdr e he).2.2.1, ?_⟩⟩
      · show M.1 8 2 = M.1 51 7 + 0
        rw [q1, Int32.add_zero]
      · show upd (M.1 14) i (mxI (M.1 61 i) (mxI 0 (b - c))) = upd (M.1 61) i (mxI (M.1 61 i) (mxI 0 (b - c)))
        rw [e14]
      · show upd (M.1 15) i (mnI (M.1 62 i) (b + c)) = upd (M.1 62) i (mnI (M.1 62 i) (b + c))
        rw [e15]
      · show 0 ≤ (upd (M.1 61) i (mxI (M.1 61 i) (mxI 0 (b - c))) e).toInt ∧ (upd (M.1 61) i (mxI (M.1 61 i) (mxI 0 (b - c))) e).toInt ≤ (upd (M.1 62) i (mnI (M.1 62 i) (b + c)) e).toInt ∧ (upd (M.1 62) i (mnI (M.1 62 i) (b + c)) e).toInt ≤ 1049 + 75 * d
        by_cases ce : e = i
        · subst ce
          rw [pk_us, pk_us, mx_i, mn_i]
          rw [lt_i, mn_i, mx_i] at cm
          omega
        · rw [pk_un ce, pk_un ce]
          exact (hdr e he).2.2.2
    · refine ⟨fun e he => ?_, rg_ns1 g3.1.2.2 g6.2.1, ?_⟩
      · show rg (upd (M.1 64) k (nI i) e) 0 (n - 1)
        by_cases ce : e = k
        · subst ce
          rw [pk_us]
          exact rg_nI (by omega) (by omega) (by omega)
        · rw [pk_un ce]
          exact g6.1 e (by omega)
      · have hs := due_step (t0 := nI d) (r0 := RF M q i (mnI (M.1 62 i) (b + c))) n3 hi g6.2.2
        intro e he r hr z
        have hz := hs e he r hr z
        show since (upd (M.1 64) k (nI i)) (upd (M.1 65) k (M.1 51 4)) (upd (M.1 66) k (RF M q i (mnI (M.1 62 i) (b + c)))) (nI e) r (k + 1) z = if nd1 (M.1 16) i (RF M q i (mnI (M.1 62 i) (b + c))) e = r then ns1 (M.1 16) (M.1 17) i (RF M q i (mnI (M.1 62 i) (b + c))) (nI d) e else z
        rw [g3.1.2.1]
        exact hz
