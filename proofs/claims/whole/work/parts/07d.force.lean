/-! the rule in force: one step, a run of steps -/
def fstep (kd sz fm : Nat → Int32) (k0 m0 d0 : Int32) (i : Nat) (b : Int32) : Int32 :=
  if kd i = k0 then (if d0 < fm i then b else if m0 < sz i then b else if b = -9 then nI i else if sz (ix b) = sz i then (if fm i < fm (ix b) then b else nI i) else if sz i < sz (ix b) then b else nI i) else b
def frun (kd sz fm : Nat → Int32) (k0 m0 d0 : Int32) : Nat → Nat → Int32 → Int32
  | _, 0, b => b
  | i, k + 1, b => frun kd sz fm k0 m0 d0 (i + 1) k (fstep kd sz fm k0 m0 d0 i b)
def okb (i : Nat) (b : Int32) : Prop := b = -9 ∨ ∃ c, c < i ∧ b = nI c
theorem okb_step {kd sz fm : Nat → Int32} {k0 m0 d0 : Int32} {i : Nat} {b : Int32} (h : okb i b) : okb (i + 1) (fstep kd sz fm k0 m0 d0 i b) := by
  have h1 : okb (i + 1) b := by
    rcases h with h | ⟨c, hc, h⟩
    · exact Or.inl h
    · exact Or.inr ⟨c, by omega, h⟩
  have h2 : okb (i + 1) (nI i) := Or.inr ⟨i, by omega, rfl⟩
  unfold fstep
  repeat' split
  all_goals first | exact h1 | exact h2
theorem okb_run {kd sz fm : Nat → Int32} {k0 m0 d0 : Int32} : ∀ (k i : Nat) (b : Int32), okb i b → okb (i + k) (frun kd sz fm k0 m0 d0 i k b)
  | 0, i, b, h => h
  | k + 1, i, b, h => by
    have := okb_run (kd := kd) (sz := sz) (fm := fm) (k0 := k0) (m0 := m0) (d0 := d0) k (i + 1) (fstep kd sz fm k0 m0 d0 i b) (okb_step h)
    rw [show i + (k + 1) = i + 1 + k by omega]
    exact this
theorem fX_loop (M : Mem) (k0 m0 d0 : Int32) (q : Nat) (hq : M.1 18 0 = nI q) (h30 : q ≤ 30) : ∀ (n i : Nat) (b : Int32), i ≤ q → q - i < n → okb i b → lX6_inForce_7 n M k0 m0 d0 b (nI i) = some (frun (M.1 21) (M.1 22) (M.1 23) k0 m0 d0 i (q - i) b)
  | 0, i, b, h1, h2, _ => absurd h2 (Nat.not_lt_zero _)
  | n + 1, i, b, h1, h2, hb => by
    rw [lX6_inForce_7, hq]
    by_cases h : i < q
    · have ih := fX_loop M k0 m0 d0 q hq h30 n (i + 1) (fstep (M.1 21) (M.1 22) (M.1 23) k0 m0 d0 i b) (by omega) (by omega) (okb_step hb)
      rw [show q - i = (q - (i + 1)) + 1 by omega]
      show _ = some (frun (M.1 21) (M.1 22) (M.1 23) k0 m0 d0 (i + 1) (q - (i + 1)) (fstep (M.1 21) (M.1 22) (M.1 23) k0 m0 d0 i b))
      rw [← ih]
      unfold jX6_inForce_53 jX6_inForce_54 xX6_goesBefore fstep
      rw [if_pos (nI_lt h (by omega)), ck_t (inN (show i < 30 by omega) (by omega)), ixN (by omega), nI_1]
      by_cases c1 : M.1 21 i = k0
      · rw [if_pos c1, if_pos c1]
        by_cases c2 : d0 < M.1 23 i
        · rw [if_pos c2, if_pos rfl, if_pos c2]
        · rw [if_neg c2, if_neg c2]
          by_cases c3 : m0 < M.1 22 i
          · rw [if_pos c3, if_pos rfl, if_pos c3]
          · rw [if_neg c3, if_neg (by decide), if_neg c3]
            by_cases c4 : b = -9
            · rw [if_pos c4, if_pos c4]
            · rw [if_neg c4, if_neg c4]
              rcases hb with hb | ⟨c, hc, rfl⟩
              · exact absurd hb c4
              rw [ck_t (inN (show c < 30 by omega) (by omega)), ck_t (inN (show i < 30 by omega) (by omega)), ixN (show c < 2 ^ 31 by omega)]
              by_cases c5 : M.1 22 c = M.1 22 i
              · rw [if_pos c5, if_pos c5]
                by_cases c6 : M.1 23 i < M.1 23 c
                · rw [if_pos c6, if_pos c6, some_b, if_neg (by decide)]
                · rw [if_neg c6, if_neg c6, some_b, if_pos rfl]
              · rw [if_neg c5, if_neg c5]
                by_cases c6 : M.1 22 i < M.1 22 c
                · rw [if_pos c6, if_pos c6, some_b, if_neg (by decide)]
                · rw [if_neg c6, if_neg c6, some_b, if_pos rfl]
      · rw [if_neg c1, if_neg c1, if_pos rfl]
    · rw [if_neg (nI_nlt (by omega) (by omega)), show q - i = 0 by omega]; rfl
theorem okb_neg {i : Nat} {b : Int32} (hi : i < 2 ^ 31) (h : okb i b) : (b < 0) = (b = -9) := by
  rcases h with rfl | ⟨c, hc, rfl⟩
  · decide
  · have h1 : ¬ nI c < 0 := nI_pos (by omega)
    have h2 : ¬ nI c = -9 := nI_ne9 (by omega)
    exact propext ⟨fun x => absurd x h1, fun x => absurd x h2⟩
theorem fM_loop (M : Mem) (e : Nat) (he : e < 40) (q : Nat) (hq : M.1 51 8 = nI q) (h30 : q ≤ 30) : ∀ (n i : Nat) (b : Int32), i ≤ q → q - i < n → okb i b → lX10_forceOf_5 n M (nI e) b (nI i) = some (frun (M.1 67) (M.1 68) (M.1 69) (M.1 59 e) (M.1 62 e) (M.1 51 4) i (q - i) b)
  | 0, i, b, h1, h2, _ => absurd h2 (Nat.not_lt_zero _)
  | n + 1, i, b, h1, h2, hb => by
    rw [lX10_forceOf_5, hq]
    by_cases h : i < q
    · have ih := fM_loop M e he q hq h30 n (i + 1) (fstep (M.1 67) (M.1 68) (M.1 69) (M.1 59 e) (M.1 62 e) (M.1 51 4) i b) (by omega) (by omega) (okb_step hb)
      rw [show q - i = (q - (i + 1)) + 1 by omega]
      show _ = some (frun (M.1 67) (M.1 68) (M.1 69) (M.1 59 e) (M.1 62 e) (M.1 51 4) (i + 1) (q - (i + 1)) (fstep (M.1 67) (M.1 68) (M.1 69) (M.1 59 e) (M.1 62 e) (M.1 51 4) i b))
      rw [← ih]
      unfold fstep
      rw [if_pos (nI_lt h (by omega)), ck_t (inN (show i < 30 by omega) (by omega)), ck_t (inN he (by omega)), ixN (show i < 2 ^ 31 by omega), ixN (show e < 2 ^ 31 by omega), nI_1]
      simp only [okb_neg (show i < 2 ^ 31 by omega) hb]
      by_cases c1 : M.1 67 i = M.1 59 e
      · rw [if_pos c1, if_pos c1]
        by_cases c2 : M.1 51 4 < M.1 69 i
        · rw [if_pos c2, if_pos c2]
        · rw [if_neg c2, if_neg c2]
          by_cases c3 : M.1 62 e < M.1 68 i
          · rw [if_pos c3, if_pos c3]
          · rw [if_neg c3, if_neg c3]
            by_cases c4 : b = -9
            · rw [if_pos c4, if_pos c4]
            · rw [if_neg c4, if_neg c4]
              rcases hb with hb | ⟨c, hc, rfl⟩
              · exact absurd hb c4
              rw [ck_t (inN (show c < 30 by omega) (by omega)), ixN (show c < 2 ^ 31 by omega)]
              by_cases c5 : M.1 68 c = M.1 68 i
              · rw [if_pos c5, if_neg (by rw [c5, lt_i]; omega), if_pos c5.symm]
                by_cases c6 : M.1 69 i < M.1 69 c
                · rw [if_pos c6, if_pos c6]
                · rw [if_neg c6, if_neg c6]
              · rw [if_neg c5]
                by_cases c6 : M.1 68 i < M.1 68 c
                · rw [if_pos c6, if_neg (by rw [lt_i] at c6 ⊢; omega), if_neg (fun z => c5 z.symm)]
                · rw [if_neg c6, if_pos (by rw [lt_i] at c6 ⊢; rw [eq_i] at c5; omega)]
      · rw [if_neg c1, if_neg c1]
    · rw [if_neg (nI_nlt (by omega) (by omega)), show q - i = 0 by omega]; rfl
theorem fX_eq (M : Mem) (q e : Nat) (hq : M.1 18 0 = nI q) (h30 : q ≤ 30) (he : e < 40) : xX9_ruleFor M (nI e) = some (frun (M.1 21) (M.1 22) (M.1 23) (M.1 12 e) (M.1 15 e) (M.1 0 0) 0 q (-9)) := by
  unfold xX9_ruleFor xX6_inForce
  rw [ck_t (inN he (by omega)), ixN (by omega), show (0 : Int32) = nI 0 from rfl, fX_loop M _ _ _ q hq h30 fu 0 (-9) (by omega) (by rw [fu_v]; omega) (Or.inl rfl)]
  rfl
theorem fM_eq (M : Mem) (q e : Nat) (hq : M.1 51 8 = nI q) (h30 : q ≤ 30) (he : e < 40) : xX10_forceOf M (nI e) = some (frun (M.1 67) (M.1 68) (M.1 69) (M.1 59 e) (M.1 62 e) (M.1 51 4) 0 q (-9)) := by
  unfold xX10_forceOf
  rw [show (0 : Int32) = nI 0 from rfl, fM_loop M e he q hq h30 fu 0 (-9) (by omega) (by rw [fu_v]; omega) (Or.inl rfl)]
  rfl
/-- the rule in force, in the reference's rows -/
def FF (M : Mem) (q e : Nat) : Int32 := frun (M.1 67) (M.1 68) (M.1 69) (M.1 59 e) (M.1 62 e) (M.1 51 4) 0 q (-9)
theorem FF_ok (M : Mem) (q e : Nat) : okb q (FF M q e) := by
  have := okb_run (kd := M.1 67) (sz := M.1 68) (fm := M.1 69) (k0 := M.1 59 e) (m0 := M.1 62 e) (d0 := M.1 51 4) q 0 (-9) (Or.inl rfl)
  rwa [Nat.zero_add] at this
