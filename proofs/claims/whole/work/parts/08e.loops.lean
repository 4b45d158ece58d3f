def wld10 (h0 : Nat) (u : Uc) (f g k m : Nat → Int32) : va_W := [(h0, .inr (10, [.ref (u.1 0), .ref (u.1 1), .ref (u.1 2), .ref (u.1 3), .int 0, .int 0, .int 0, .int 0, .int 0, .int 0, .int 0, .int 0, .int 0, .int 10, .int 30, .int 40, .int 10, .ref (u.1 4), .ref (u.1 5), .ref (u.1 6), .ref (u.1 7), .ref (u.1 8), .ref (u.1 9), .ref (u.1 10), .ref (u.1 11), .ref (u.1 12), .ref (u.1 13), .ref (u.1 14), .ref (u.1 15), .ref (u.1 16), .ref (u.1 17), .ref (u.1 18), .ref (u.1 19), .ref (u.1 20), .ref (u.1 21), .ref (u.1 22), .ref (u.1 23), .ref (u.1 24), .ref (u.1 25), .ref (u.1 26), .ref (u.1 27), .ref (u.1 28), .ref (u.1 29), .ref (u.1 30), .ref (u.1 31), .ref (u.1 32), .ref (u.1 33), .ref (u.1 34), .ref (u.1 35), .ref (u.1 36), .ref (u.1 37), .ref (u.1 38), .int 0, .ref (u.1 39), .ref (u.1 40), .int 0, .int 0, .int 0])), (u.1 0, .inl (u.2 0, 7, .inl (fun _ => 0))), (u.1 1, .inl (u.2 1, 1001, .inl f)), (u.1 2, .inl (u.2 2, 1001, .inl g)), (u.1 3, .inl (u.2 3, 4, .inl k)), (u.1 4, .inl (u.2 4, 40, .inl (fun _ => 0))), (u.1 5, .inl (u.2 5, 40, .inl (fun _ => 0))), (u.1 6, .inl (u.2 6, 40, .inl (fun _ => 0))), (u.1 7, .inl (u.2 7, 40, .inl (fun _ => 0))), (u.1 8, .inl (u.2 8, 40, .inl (fun _ => 0))), (u.1 9, .inl (u.2 9, 40, .inl (fun _ => 0))), (u.1 10, .inl (u.2 10, 40, .inl (fun _ => 0))), (u.1 11, .inl (u.2 11, 40, .inl (fun _ => 0))), (u.1 12, .inl (u.2 12, 120, .inl (fun _ => 0))), (u.1 13, .inl (u.2 13, 120, .inl (fun _ => 0))), (u.1 14, .inl (u.2 14, 120, .inl (fun _ => 0))), (u.1 15, .inl (u.2 15, 30, .inl (fun _ => 0))), (u.1 16, .inl (u.2 16, 30, .inl (fun _ => 0))), (u.1 17, .inl (u.2 17, 30, .inl (fun _ => 0))), (u.1 18, .inl (u.2 18, 30, .inl (fun _ => 0))), (u.1 19, .inl (u.2 19, 30, .inl (fun _ => 0))), (u.1 20, .inl (u.2 20, 20, .inl (fun _ => 0))), (u.1 21, .inl (u.2 21, 20, .inl (fun _ => 0))), (u.1 22, .inl (u.2 22, 20, .inl (fun _ => 0))), (u.1 23, .inl (u.2 23, 20, .inl (fun _ => 0))), (u.1 24, .inl (u.2 24, 20, .inl (fun _ => 0))), (u.1 25, .inl (u.2 25, 20, .inl m)), (u.1 26, .inl (u.2 26, 20, .inl (fun _ => 0))), (u.1 27, .inl (u.2 27, 24, .inl (fun _ => 0))), (u.1 28, .inl (u.2 28, 24, .inl (fun _ => 0))), (u.1 29, .inl (u.2 29, 8, .inl (fun _ => 0))), (u.1 30, .inl (u.2 30, 8, .inl (fun _ => 0))), (u.1 31, .inl (u.2 31, 8, .inl (fun _ => 0))), (u.1 32, .inl (u.2 32, 8, .inl (fun _ => 0))), (u.1 33, .inl (u.2 33, 8, .inl (fun _ => 0))), (u.1 34, .inl (u.2 34, 8, .inl (fun _ => 0))), (u.1 35, .inl (u.2 35, 2, .inl (upd (upd (fun _ => 0) 0 15) 1 15))), (u.1 36, .inl (u.2 36, 12, .inl (fun _ => 0))), (u.1 37, .inl (u.2 37, 36864, .inl (fun _ => 0))), (u.1 38, .inl (u.2 38, 8, .inl (fun _ => 0))), (u.1 39, .inl (u.2 39, 8, .inl (fun _ => 0))), (u.1 40, .inl (u.2 40, 2, .inl (fun _ => 0)))]
def tyl10 (u : Uc) : List (ClassId × FieldType) := [(u.2 0, .int), (u.2 1, .int), (u.2 2, .int), (u.2 3, .int), (u.2 4, .int), (u.2 5, .int), (u.2 6, .int), (u.2 7, .int), (u.2 8, .int), (u.2 9, .int), (u.2 10, .int), (u.2 11, .boolean), (u.2 12, .int), (u.2 13, .int), (u.2 14, .int), (u.2 15, .int), (u.2 16, .int), (u.2 17, .int), (u.2 18, .int), (u.2 19, .int), (u.2 20, .int), (u.2 21, .int), (u.2 22, .int), (u.2 23, .int), (u.2 24, .int), (u.2 25, .int), (u.2 26, .int), (u.2 27, .int), (u.2 28, .int), (u.2 29, .int), (u.2 30, .int), (u.2 31, .int), (u.2 32, .int), (u.2 33, .int), (u.2 34, .int), (u.2 35, .int), (u.2 36, .int), (u.2 37, .int), (u.2 38, .int), (u.2 39, .int), (u.2 40, .int)]
set_option maxHeartbeats 4000000 in
theorem lpA {x : Cx} {D : va_G} {A : Nat → Prop} {h0 : Nat} {u : Uc} (h : okBd x A cX10_init RX10 2 41 39975) (K : KB x D A 2 394 [(1, .int (nI 1001)), (0, .ref h0)] [] (wld10 h0 u (fillF (-1) 1001) (fillF (-1) 1001) (fun _ => 0) (fun _ => 0)) (tyl10 u) 41 39975) : ∀ (n i : Nat), i ≤ 1001 → 1001 - i < n → KB x D A 2 367 [(1, .int (nI i)), (0, .ref h0)] [] (wld10 h0 u (fillF (-1) i) (fillF (-1) i) (fun _ => 0) (fun _ => 0)) (tyl10 u) 41 39975
  | 0, i, a1, a2 => absurd a2 (Nat.not_lt_zero _)
  | n + 1, i, a1, a2 => by
    refine kb_iload_n h 0 dX10_init_367 rfl ?_
    refine kb_sipush h 1000 dX10_init_368 (by decide) ?_
    refine kb_gt h dX10_init_371 (tgt := 394) (by decide) (fun q => ?_) (fun q => ?_)
    · have e : i = 1001 := by
        have := (nI_ltI (a := 1000) (b := i) (by omega) (by omega)).mp q
        omega
      subst e
      exact K
    · have e : i < 1001 := by
        rcases Nat.lt_or_ge i 1001 with w | w
        · exact w
        · exact absurd (nI_lt (a := 1000) w (by omega)) q
      refine kb_aload_n h 1 dX10_init_374 rfl ?_
      refine kb_get h iX10 0 rfl rfl 1 (by decide) lkX10_13 (.ref (u.1 1)) rfl dX10_init_375 ?_
      refine kb_iload_n h 0 dX10_init_378 rfl ?_
      refine kb_iconst h (-1) dX10_init_379 (by decide) ?_
      refine kb_iast h 2 1 rfl rfl (inN e (by decide)) dX10_init_380 (wld10 h0 u (fillF (-1) (i + 1)) (fillF (-1) i) (fun _ => 0) (fun _ => 0)) (by rw [ixN (show i < 2 ^ 31 by omega), fillF_s]; rfl) ?_
      refine kb_aload_n h 1 dX10_init_381 rfl ?_
      refine kb_get h iX10 0 rfl rfl 2 (by decide) lkX10_16 (.ref (u.1 2)) rfl dX10_init_382 ?_
      refine kb_iload_n h 0 dX10_init_385 rfl ?_
      refine kb_iconst h (-1) dX10_init_386 (by decide) ?_
      refine kb_iast h 3 2 rfl rfl (inN e (by decide)) dX10_init_387 (wld10 h0 u (fillF (-1) (i + 1)) (fillF (-1) (i + 1)) (fun _ => 0) (fun _ => 0)) (by rw [ixN (show i < 2 ^ 31 by omega), fillF_s]; rfl) ?_
      refine kb_iinc h [(1, .int (nI (i + 1))), (0, .ref h0)] dX10_init_388 (k := 0) rfl (nI_add i 1) (by decide) rfl ?_
      refine kb_goto h dX10_init_391 (tgt := 367) (by decide) ?_
      exact lpA h K n (i + 1) (by omega) (by omega)
set_option maxHeartbeats 4000000 in
theorem lpB {x : Cx} {D : va_G} {A : Nat → Prop} {h0 : Nat} {u : Uc} (h : okBd x A cX10_init RX10 2 41 39975) (K : KB x D A 2 415 [(1, .int (nI 4)), (0, .ref h0)] [] (wld10 h0 u (fillF (-1) 1001) (fillF (-1) 1001) (fillF 10 4) (fun _ => 0)) (tyl10 u) 41 39975) : ∀ (n i : Nat), i ≤ 4 → 4 - i < n → KB x D A 2 396 [(1, .int (nI i)), (0, .ref h0)] [] (wld10 h0 u (fillF (-1) 1001) (fillF (-1) 1001) (fillF 10 i) (fun _ => 0)) (tyl10 u) 41 39975
  | 0, i, a1, a2 => absurd a2 (Nat.not_lt_zero _)
  | n + 1, i, a1, a2 => by
    refine kb_iload_n h 0 dX10_init_396 rfl ?_
    refine kb_iconst h 4 dX10_init_397 (by decide) ?_
    refine kb_ge h dX10_init_398 (tgt := 415) (by decide) (fun q => ?_) (fun q => ?_)
    · have e : i = 4 := by
        have := (nI_leI (a := 4) (b := i) (by omega) (by omega)).mp q
        omega
      subst e
      exact K
    · have e : i < 4 := by
        rcases Nat.lt_or_ge i 4 with w | w
        · exact w
        · exact absurd (nI_le (a := 4) w (by omega)) q
      refine kb_aload_n h 1 dX10_init_401 rfl ?_
      refine kb_get h iX10 0 rfl rfl 3 (by decide) lkX10_19 (.ref (u.1 3)) rfl dX10_init_402 ?_
      refine kb_iload_n h 0 dX10_init_405 rfl ?_
      refine kb_bipush h (10) dX10_init_406 (by decide) ?_
      refine kb_iast h 4 3 rfl rfl (inN e (by decide)) dX10_init_408 (wld10 h0 u (fillF (-1) 1001) (fillF (-1) 1001) (fillF 10 (i + 1)) (fun _ => 0)) (by rw [ixN (show i < 2 ^ 31 by omega), fillF_s]; rfl) ?_
      refine kb_iinc h [(1, .int (nI (i + 1))), (0, .ref h0)] dX10_init_409 (k := 0) rfl (nI_add i 1) (by decide) rfl ?_
      refine kb_goto h dX10_init_412 (tgt := 396) (by decide) ?_
      exact lpB h K n (i + 1) (by omega) (by omega)
set_option maxHeartbeats 4000000 in
theorem lpC {x : Cx} {D : va_G} {A : Nat → Prop} {h0 : Nat} {u : Uc} (h : okBd x A cX10_init RX10 2 41 39975) (K : KB x D A 2 437 [(1, .int (nI 20)), (0, .ref h0)] [] (wld10 h0 u (fillF (-1) 1001) (fillF (-1) 1001) (fillF 10 4) (fillF 10 20)) (tyl10 u) 41 39975) : ∀ (n i : Nat), i ≤ 20 → 20 - i < n → KB x D A 2 417 [(1, .int (nI i)), (0, .ref h0)] [] (wld10 h0 u (fillF (-1) 1001) (fillF (-1) 1001) (fillF 10 4) (fillF 10 i)) (tyl10 u) 41 39975
  | 0, i, a1, a2 => absurd a2 (Nat.not_lt_zero _)
  | n + 1, i, a1, a2 => by
    refine kb_iload_n h 0 dX10_init_417 rfl ?_
    refine kb_bipush h 20 dX10_init_418 (by decide) ?_
    refine kb_ge h dX10_init_420 (tgt := 437) (by decide) (fun q => ?_) (fun q => ?_)
    · have e : i = 20 := by
        have := (nI_leI (a := 20) (b := i) (by omega) (by omega)).mp q
        omega
      subst e
      exact K
    · have e : i < 20 := by
        rcases Nat.lt_or_ge i 20 with w | w
        · exact w
        · exact absurd (nI_le (a := 20) w (by omega)) q
      refine kb_aload_n h 1 dX10_init_423 rfl ?_
      refine kb_get h iX10 0 rfl rfl 38 (by decide) lkX10_99 (.ref (u.1 25)) rfl dX10_init_424 ?_
      refine kb_iload_n h 0 dX10_init_427 rfl ?_
      refine kb_bipush h (10) dX10_init_428 (by decide) ?_
      refine kb_iast h 26 25 rfl rfl (inN e (by decide)) dX10_init_430 (wld10 h0 u (fillF (-1) 1001) (fillF (-1) 1001) (fillF 10 4) (fillF 10 (i + 1))) (by rw [ixN (show i < 2 ^ 31 by omega), fillF_s]; rfl) ?_
      refine kb_iinc h [(1, .int (nI (i + 1))), (0, .ref h0)] dX10_init_431 (k := 0) rfl (nI_add i 1) (by decide) rfl ?_
      refine kb_goto h dX10_init_434 (tgt := 417) (by decide) ?_
      exact lpC h K n (i + 1) (by omega) (by omega)
set_option maxHeartbeats 4000000 in
theorem kcX10 (l : Launch) (D : va_G) (h0 : Nat) : KCon l D yX10_init cX10_init 2 { frames := 1, cells := 41, slots := 39975, locals := 33 } h0 [] (.inr (10, [.null, .null, .null, .null, .int 0, .int 0, .int 0, .int 0, .int 0, .int 0, .int 0, .int 0, .int 0, .int 0, .int 0, .int 0, .int 0, .null, .null, .null, .null, .null, .null, .null, .null, .null, .null, .null, .null, .null, .null, .null, .null, .null, .null, .null, .null, .null, .null, .null, .null, .null, .null, .null, .null, .null, .null, .null, .null, .null, .null, .null, .int 0, .null, .null, .int 0, .int 0, .int 0])) (fun u => wld10 h0 u (fillF (-1) 1001) (fillF (-1) 1001) (fillF 10 4) (fillF 10 20)) (fun u => tyl10 u) 41 39975 := by
  refine KCon.of (by decide) rfl (Nat.le_of_ble_eq_true rfl) ⟨by decide, by decide, by decide, by decide⟩ ?_
  intro x A hxl h he
  refine kbX10 h (fun u => ?_)
  have K3 : KB x D A 2 437 [(1, .int (nI 20)), (0, .ref h0)] [] (wld10 h0 u (fillF (-1) 1001) (fillF (-1) 1001) (fillF 10 4) (fillF 10 20)) (tyl10 u) 41 39975 := kb_ret h he u rfl rfl rfl rfl dX10_init_437
  have K2 : KB x D A 2 415 [(1, .int (nI 4)), (0, .ref h0)] [] (wld10 h0 u (fillF (-1) 1001) (fillF (-1) 1001) (fillF 10 4) (fun _ => 0)) (tyl10 u) 41 39975 := by
    refine kb_iconst h 0 dX10_init_415 (by decide) ?_
    refine kb_istore_n h [(1, .int (nI 0)), (0, .ref h0)] dX10_init_416 rfl (by decide) rfl ?_
    have := lpC h K3 21 0 (by omega) (by omega)
    rw [← fillF_0 10] at this
    exact this
  have K1 : KB x D A 2 394 [(1, .int (nI 1001)), (0, .ref h0)] [] (wld10 h0 u (fillF (-1) 1001) (fillF (-1) 1001) (fun _ => 0) (fun _ => 0)) (tyl10 u) 41 39975 := by
    refine kb_iconst h 0 dX10_init_394 (by decide) ?_
    refine kb_istore_n h [(1, .int (nI 0)), (0, .ref h0)] dX10_init_395 rfl (by decide) rfl ?_
    have := lpB h K2 5 0 (by omega) (by omega)
    rw [← fillF_0 10] at this
    exact this
  show KB x D A 2 365 [(0, .ref h0)] [] (wld10 h0 u (fun _ => 0) (fun _ => 0) (fun _ => 0) (fun _ => 0)) (tyl10 u) 41 39975
  refine kb_iconst h 0 dX10_init_365 (by decide) ?_
  refine kb_istore_n h [(1, .int (nI 0)), (0, .ref h0)] dX10_init_366 rfl (by decide) rfl ?_
  have := lpA h K1 1002 0 (by omega) (by omega)
  rw [← fillF_0 (-1)] at this
  exact this
