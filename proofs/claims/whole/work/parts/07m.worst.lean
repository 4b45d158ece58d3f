/-! the worst lot -/
def wM (C m : Nat → Nat) (i : Nat) : Option Nat → Option Nat
  | none => if 0 < C i then some i else none
  | some b => if C b * m i < C i * m b then some i else some b
def wN (C m : Nat → Nat) (i : Nat) (o : Option Nat) : Option Nat := if m i = 0 then o else wM C m i o
def wS (C m : Nat → Nat) : Nat → Nat → Option Nat → Option Nat
  | _, 0, o => o
  | i, k + 1, o => wS C m (i + 1) k (wN C m i o)
def wa : Option Nat → Int32
  | none => -9
  | some b => nI b
def wb (C : Nat → Nat) : Option Nat → Int32
  | none => 0
  | some b => nI (C b)
def wc (m : Nat → Nat) : Option Nat → Int32
  | none => 1
  | some b => nI (m b)
def wk (m : Nat → Nat) (o : Option Nat) : Prop := ∀ b, o = some b → b < 6 ∧ 0 < m b
def Lot (M : Mem) (C m : Nat → Nat) : Prop := ∀ i, i < 6 → xX4_milesWith M (nI i) = some (nI (m i)) ∧ M.1 49 i = nI (C i) ∧ xX10_milesOf M (nI i) = some (nI (m i)) ∧ xX10_cracks M (nI i) = some (nI (C i)) ∧ m i ≤ 20 ∧ C i ≤ 40
theorem wk_step {C m : Nat → Nat} {i : Nat} (hi : i < 6) {o : Option Nat} (h : wk m o) : wk m (wN C m i o) := by
  intro b hb
  unfold wN at hb
  by_cases h0 : m i = 0
  · rw [if_pos h0] at hb; exact h b hb
  · rw [if_neg h0] at hb
    cases o with
    | none =>
      simp only [wM] at hb
      split at hb
      · injection hb with hb; subst hb; exact ⟨hi, by omega⟩
      · cases hb
    | some c =>
      simp only [wM] at hb
      split at hb
      · injection hb with hb; subst hb; exact ⟨hi, by omega⟩
      · exact h b hb
theorem lt5 {i : Nat} (h : i < 6) : ¬ (5 : Int32) < nI i := nI_nlt (a := 5) (by omega) (by omega)
theorem lt6 {i : Nat} (h : i < 6) : nI i < (6 : Int32) := nI_lt (b := 6) h (by omega)
theorem ml40 {a b : Nat} (ha : a ≤ 40) (hb : b ≤ 20) : a * b < 2 ^ 31 := Nat.lt_of_le_of_lt (Nat.mul_le_mul ha hb) (by decide)
theorem nz {a : Nat} (ha : a < 2 ^ 31) (h : ¬ a = 0) : ¬ nI a = 0 := nI_inj (b := 0) ha (by omega) h
theorem ps {a : Nat} (h : 0 < a) (ha : a < 2 ^ 31) : (0 : Int32) < nI a := nI_lt (a := 0) h ha
theorem nps {a : Nat} (h : a = 0) : ¬ (0 : Int32) < nI a := by subst h; decide
theorem nng {a : Nat} (h : a < 2 ^ 31) : ¬ nI a < 0 := nI_nlt (b := 0) (by omega) h
theorem w9 {M : Mem} {C m : Nat → Nat} (g : Lot M C m) : ∀ (f i : Nat) (o : Option Nat), i ≤ 6 → 6 - i < f → wk m o → lX4_worstLot_10 f M (wa o) (wb C o) (wc m o) (nI i) = some (wa (wS C m i (6 - i) o))
  | 0, i, o, h1, h2, h3 => absurd h2 (Nat.not_lt_zero _)
  | f + 1, i, o, h1, h2, h3 => by
    rw [lX4_worstLot_10]
    by_cases h : i < 6
    · obtain ⟨e1, e2, e3, e4, b1, b2⟩ := g i h
      have ih := w9 g f (i + 1) _ (by omega) (by omega) (wk_step (C := C) h h3)
      rw [if_neg (lt5 h), e1, some_b, ck_t (inN h (by omega)), ixN (by omega), e2, nI_1, show 6 - i = (6 - (i + 1)) + 1 by omega]
      show _ = some (wa (wS C m (i + 1) (6 - (i + 1)) (wN C m i o)))
      rw [← ih]
      unfold wN
      by_cases h0 : m i = 0
      · rw [h0, if_neg (by decide), if_pos rfl]
      · rw [if_pos (ps (by omega) (by omega)), if_neg h0]
        cases o with
        | none =>
          show (if (0 : Int32) * nI (m i) < nI (C i) * 1 then _ else _) = _
          rw [Int32.zero_mul, Int32.mul_one]
          by_cases h4 : 0 < C i
          · rw [if_pos (ps h4 (by omega))]
            simp only [wM, if_pos h4]; rfl
          · rw [if_neg (nps (by omega))]
            simp only [wM, if_neg h4]
        | some b =>
          obtain ⟨hb, hb2⟩ := h3 b rfl
          obtain ⟨p1, p2, p3, p4, p5, p6⟩ := g b hb
          show (if nI (C b) * nI (m i) < nI (C i) * nI (m b) then _ else _) = _
          rw [pk_mul, pk_mul]
          have hq : (nI (C b * m i) < nI (C i * m b)) ↔ C b * m i < C i * m b := nI_ltI (ml40 p6 b1) (ml40 b2 p5)
          by_cases h4 : C b * m i < C i * m b
          · rw [if_pos (hq.mpr h4)]; simp only [wM, if_pos h4]; rfl
          · rw [if_neg (fun z => h4 (hq.mp z))]; simp only [wM, if_neg h4]
    · have e : i = 6 := by omega
      subst e
      rw [if_pos (by decide)]; rfl
theorem w10 {M : Mem} {C m : Nat → Nat} (g : Lot M C m) : ∀ (f i : Nat) (o : Option Nat), i ≤ 6 → 6 - i < f → wk m o → lX10_worstOf_5 f M (wa o) (nI i) = some (wa (wS C m i (6 - i) o))
  | 0, i, o, h1, h2, h3 => absurd h2 (Nat.not_lt_zero _)
  | f + 1, i, o, h1, h2, h3 => by
    rw [lX10_worstOf_5]
    by_cases h : i < 6
    · obtain ⟨e1, e2, e3, e4, b1, b2⟩ := g i h
      have ih := w10 g f (i + 1) _ (by omega) (by omega) (wk_step (C := C) h h3)
      rw [if_pos (lt6 h), e3, e4, some_b, some_b, nI_1, show 6 - i = (6 - (i + 1)) + 1 by omega]
      show _ = some (wa (wS C m (i + 1) (6 - (i + 1)) (wN C m i o)))
      rw [← ih]
      unfold wN
      by_cases h0 : m i = 0
      · rw [h0, if_pos (by decide), if_pos rfl]
      · rw [if_neg (nz (by omega) h0), if_neg h0]
        cases o with
        | none =>
          by_cases h4 : 0 < C i
          · rw [if_neg (nz (by omega) (by omega)), if_pos (by decide)]
            simp only [wM, if_pos h4]; rfl
          · rw [if_pos (show nI (C i) = 0 from by rw [show C i = 0 by omega]; rfl)]
            simp only [wM, if_neg h4]
        | some b =>
          obtain ⟨hb, hb2⟩ := h3 b rfl
          obtain ⟨p1, p2, p3, p4, p5, p6⟩ := g b hb
          show (if nI (C i) = 0 then lX10_worstOf_5 f M (nI b) (nI (i + 1)) else if nI b < 0 then _ else _) = _
          by_cases h4 : C i = 0
          · rw [if_pos (show nI (C i) = 0 from by rw [h4]; rfl)]
            simp only [wM, h4, Nat.zero_mul, Nat.not_lt_zero, if_false]; rfl
          · rw [if_neg (nz (by omega) h4), if_neg (nng (by omega))]
            simp only [some_b]
            show ((xX10_milesOf M (nI b)).bind fun r4 => (xX10_cracks M (nI b)).bind fun r5 => (some (nI (m i))).bind fun r6 => if r5 * r6 < nI (C i) * r4 then lX10_worstOf_5 f M (nI i) (nI (i + 1)) else lX10_worstOf_5 f M (nI b) (nI (i + 1))) = _
            rw [p3, p4, some_b, some_b, some_b, pk_mul, pk_mul]
            have hq : (nI (C b * m i) < nI (C i * m b)) ↔ C b * m i < C i * m b := nI_ltI (ml40 p6 b1) (ml40 b2 p5)
            by_cases h5 : C b * m i < C i * m b
            · rw [if_pos (hq.mpr h5)]; simp only [wM, if_pos h5]; rfl
            · rw [if_neg (fun z => h5 (hq.mp z))]; simp only [wM, if_neg h5]; rfl
    · have e : i = 6 := by omega
      subst e
      rw [if_neg (by decide)]; rfl
theorem wS_ok {C m : Nat → Nat} : ∀ (k i : Nat) (o : Option Nat), i + k ≤ 6 → wk m o → wk m (wS C m i k o)
  | 0, _, _, _, h => h
  | k + 1, i, o, hk, h => wS_ok k (i + 1) _ (by omega) (wk_step (i := i) (by omega) h)
def sS (C m : Nat → Nat) (b : Nat) : Nat → Nat → Bool
  | _, 0 => true
  | i, k + 1 => if i = b then sS C m b (i + 1) k else if m i = 0 then sS C m b (i + 1) k else if 2 * C i * m b < C b * m i then sS C m b (i + 1) k else false
theorem s9 {M : Mem} {C m : Nat → Nat} (g : Lot M C m) {b : Nat} (hb : b < 6) : ∀ (f i : Nat), i ≤ 6 → 6 - i < f → lX4_isWorstBeyondDoubt_21 f M (nI b) (nI (m b)) (nI i) = some (if sS C m b i (6 - i) then 1 else 0)
  | 0, i, h1, h2 => absurd h2 (Nat.not_lt_zero _)
  | f + 1, i, h1, h2 => by
    rw [lX4_isWorstBeyondDoubt_21]
    by_cases h : i < 6
    · obtain ⟨e1, e2, e3, e4, b1, b2⟩ := g i h
      obtain ⟨p1, p2, p3, p4, p5, p6⟩ := g b hb
      have ih := s9 g hb f (i + 1) (by omega) (by omega)
      rw [if_neg (lt5 h), e1, some_b, ck_t (inN h (by omega)), ck_t (inN hb (by omega)), ixN (by omega), ixN (by omega), e2, p2, nI_1, show 6 - i = (6 - (i + 1)) + 1 by omega, ih]
      show _ = some (if (if i = b then sS C m b (i + 1) (6 - (i + 1)) else if m i = 0 then sS C m b (i + 1) (6 - (i + 1)) else if 2 * C i * m b < C b * m i then sS C m b (i + 1) (6 - (i + 1)) else false) = true then 1 else 0)
      by_cases hib : i = b
      · rw [if_pos hib, if_pos (by rw [hib])]
      · rw [if_neg hib, if_neg (nI_inj (by omega) (by omega) hib)]
        by_cases h0 : m i = 0
        · rw [if_pos h0, h0, if_neg (by decide)]
        · rw [if_neg h0, if_pos (ps (by omega) (by omega)), show (2 : Int32) = nI 2 from rfl, pk_mul, pk_mul, pk_mul]
          have hq : (nI (2 * C i * m b) < nI (C b * m i)) ↔ 2 * C i * m b < C b * m i := nI_ltI (Nat.lt_of_le_of_lt (Nat.mul_le_mul (show 2 * C i ≤ 80 by omega) p5) (by decide)) (ml40 p6 b1)
          by_cases h5 : 2 * C i * m b < C b * m i
          · rw [if_pos (hq.mpr h5), if_pos h5]
          · rw [if_neg (fun z => h5 (hq.mp z)), if_neg h5]; rfl
    · have e : i = 6 := by omega
      subst e
      rw [if_pos (by decide)]; rfl
theorem s10f {M : Mem} {b : Nat} : ∀ (f i : Nat), i ≤ 6 → 0 < f → lX10_sure_17 f M (nI b) 0 (nI i) = some 0
  | 0, i, h1, h2 => absurd h2 (Nat.not_lt_zero _)
  | f + 1, i, h1, h2 => by
    rw [lX10_sure_17]
    unfold jX10_sure_79
    by_cases h : i < 6
    · rw [if_pos (lt6 h), if_pos rfl, if_pos rfl]
    · have e : i = 6 := by omega
      subst e
      rw [if_neg (by decide), if_pos rfl]
theorem s10 {M : Mem} {C m : Nat → Nat} (g : Lot M C m) {b : Nat} (hb : b < 6) : ∀ (f i : Nat), i ≤ 6 → 6 - i < f → lX10_sure_17 f M (nI b) 1 (nI i) = some (if sS C m b i (6 - i) then 1 else 0)
  | 0, i, h1, h2 => absurd h2 (Nat.not_lt_zero _)
  | f + 1, i, h1, h2 => by
    rw [lX10_sure_17]
    by_cases h : i < 6
    · obtain ⟨e1, e2, e3, e4, b1, b2⟩ := g i h
      obtain ⟨p1, p2, p3, p4, p5, p6⟩ := g b hb
      have ih := s10 g hb f (i + 1) (by omega) (by omega)
      rw [if_pos (lt6 h), if_neg (by decide), e3, e4, p3, p4, some_b, some_b, some_b, some_b, some_b, nI_1, show 6 - i = (6 - (i + 1)) + 1 by omega, ih]
      show _ = some (if (if i = b then sS C m b (i + 1) (6 - (i + 1)) else if m i = 0 then sS C m b (i + 1) (6 - (i + 1)) else if 2 * C i * m b < C b * m i then sS C m b (i + 1) (6 - (i + 1)) else false) = true then 1 else 0)
      by_cases hib : i = b
      · rw [if_pos hib, if_pos (by rw [hib])]
      · rw [if_neg hib, if_neg (nI_inj (by omega) (by omega) hib)]
        by_cases h0 : m i = 0
        · rw [if_pos h0, h0, if_pos (by decide)]
        · rw [if_neg h0, if_neg (nz (by omega) h0), show (2 : Int32) = nI 2 from rfl, pk_mul, pk_mul, pk_mul]
          have hq : (nI (2 * C i * m b) < nI (C b * m i)) ↔ 2 * C i * m b < C b * m i := nI_ltI (Nat.lt_of_le_of_lt (Nat.mul_le_mul (show 2 * C i ≤ 80 by omega) p5) (by decide)) (ml40 p6 b1)
          by_cases h5 : 2 * C i * m b < C b * m i
          · rw [if_pos (hq.mpr h5), if_pos h5]
          · rw [if_neg (fun z => h5 (hq.mp z)), if_neg h5, s10f f (i + 1) (by omega) (by omega)]; rfl
    · have e : i = 6 := by omega
      subst e
      rw [if_neg (by decide)]; rfl
theorem lot_of {M : Mem} (hI : Inv M) : ∃ C m : Nat → Nat, Lot M C m := by
  obtain ⟨d, n, k, q, t, l, j, g1, g2, g3, g4, g5, g6, g7, g8, g9, g10, g11, g12, g13, g14, g15⟩ := hI
  refine ⟨fun i => cnt (fun e => decide (M.1 59 e = 3) && decide (M.1 60 e = nI i)) n, fun i => cnt (fun e => decide (M.1 78 e = nI i)) 20, fun i hi => ⟨?_, g7.2 i hi, ?_, ?_, cnt_le _ _, Nat.le_trans (cnt_le _ _) g5.1.2.2⟩⟩
  · rw [mls9, g7.1.1, cl_cnt]
  · rw [mls10, cl_cnt]
  · rw [crk10 M _ g5.1.2.1 g5.1.2.2, cl_cnt]
theorem wrs {M : Mem} {C m : Nat → Nat} (g : Lot M C m) : xX4_worstLot M = some (wa (wS C m 0 6 none)) ∧ xX10_worstOf M = some (wa (wS C m 0 6 none)) :=
  ⟨w9 g fu 0 none (by omega) (by rw [fu_v]; omega) (fun b h => by cases h), w10 g fu 0 none (by omega) (by rw [fu_v]; omega) (fun b h => by cases h)⟩
theorem op_worst {M : Mem} (hI : Inv M) : Eqp (xX9_worst M) (xX10_worst M) := by
  obtain ⟨C, m, g⟩ := lot_of hI
  unfold xX9_worst xX10_worst
  rw [(wrs g).1, (wrs g).2]
  exact ⟨_, rfl, rfl⟩
theorem op_sure {M : Mem} (hI : Inv M) : Eqp (xX9_sure M) (xX10_sure M) := by
  obtain ⟨C, m, g⟩ := lot_of hI
  unfold xX9_sure xX10_sure xX4_isWorstBeyondDoubt
  rw [(wrs g).1, (wrs g).2, some_b, some_b]
  have ok := wS_ok (C := C) (m := m) 6 0 none (by omega) (fun b h => by cases h)
  cases hw : wS C m 0 6 none with
  | none =>
    show Eqp (Option.bind (if (-9 : Int32) = -9 then _ else _) _) (if (-9 : Int32) < 0 then _ else _)
    rw [if_pos rfl, if_pos (by decide), some_b, if_pos rfl]
    refine ⟨0, rfl, ?_⟩
    show lX10_sure_17 fu M (-9) 0 0 = _
    rw [fu_v]
    rfl
  | some b =>
    obtain ⟨hb, hb2⟩ := ok b hw
    show Eqp (Option.bind (if nI b = -9 then _ else (xX4_milesWith M (nI b)).bind _) _) (if nI b < 0 then _ else _)
    rw [if_neg (nI_ne9 (by omega)), (g b hb).1, some_b, if_neg (nng (by omega))]
    rw [show lX4_isWorstBeyondDoubt_21 fu M (wa (some b)) (nI (m b)) 0 = _ from s9 g hb fu 0 (by omega) (by rw [fu_v]; omega)]
    rw [show lX10_sure_17 fu M (wa (some b)) 1 0 = _ from s10 g hb fu 0 (by omega) (by rw [fu_v]; omega), some_b]
    cases sS C m b 0 (6 - 0)
    · exact ⟨0, rfl, rfl⟩
    · exact ⟨1, rfl, rfl⟩
