theorem kcX7 (l : Launch) (D : va_G) (h0 : Nat) : KCon l D yX7_init cX7_init 1 { frames := 1, cells := 1, slots := 20, locals := 33 } h0 [] (.inr (7, [.int 0, .null])) (fun u => [(h0, .inr (7, [.int 0, .ref (u.1 0)])), (u.1 0, .inl (u.2 0, 20, .inl (fun _ => 0)))]) (fun u => [(u.2 0, .int)]) 1 20 := by
  refine KCon.of (by decide) rfl (Nat.le_of_ble_eq_true rfl) ⟨by decide, by decide, by decide, by decide⟩ ?_
  intro x A hxl h he
  refine kb_aload_n h 0 dX7_init_0 rfl ?_
  refine kb_oinit h mlX7_3 (by decide) dX7_init_1 ?_
  refine kb_aload_n h 0 dX7_init_4 rfl ?_
  refine kb_iconst h 0 dX7_init_5 (by decide) ?_
  refine kb_put h iX7 tyX7 tyX7_ok nmX7 0 rfl rfl 0 (by decide) lkX7_9 rfl rfl rfl rfl (Nat.le_of_ble_eq_true rfl) dX7_init_6 [(h0, .inr (7, [.int 0, .null]))] rfl ?_
  refine kb_aload_n h 0 dX7_init_9 rfl ?_
  refine kb_bipush h 20 dX7_init_10 (by decide) ?_
  refine kb_newa h acI rfl 20 (20, .inl (fun _ => 0)) (a0I 20) (by decide) (by decide) (by decide) (by decide) (by decide) dX7_init_12 (fun q0 c0 => [(h0, .inr (7, [.int 0, .null])), (q0, .inl (c0, 20, .inl (fun _ => 0)))]) (fun _ _ => rfl) (fun c0 => [(c0, .int)]) (fun _ => rfl) 1 20 rfl rfl (fun q0 c0 => ?_)
  refine kb_putF h iX7 tyX7 tyX7_ok nmX7 0 rfl rfl 1 (by decide) lkX7_15 rfl rfl rfl rfl rfl (Nat.le_of_ble_eq_true rfl) dX7_init_14 [(h0, .inr (7, [.int 0, .ref q0])), (q0, .inl (c0, 20, .inl (fun _ => 0)))] rfl ?_
  exact kb_ret h he (fun k => [q0].getD k 0, fun k => [c0].getD k 0) rfl rfl rfl rfl dX7_init_17
theorem kcX8 (l : Launch) (D : va_G) (h0 : Nat) : KCon l D yX8_init cX8_init 1 { frames := 1, cells := 2, slots := 48, locals := 33 } h0 [] (.inr (8, [.int 0, .null, .null])) (fun u => [(h0, .inr (8, [.int 0, .ref (u.1 0), .ref (u.1 1)])), (u.1 0, .inl (u.2 0, 24, .inl (fun _ => 0))), (u.1 1, .inl (u.2 1, 24, .inl (fun _ => 0)))]) (fun u => [(u.2 0, .int), (u.2 1, .int)]) 2 48 := by
  refine KCon.of (by decide) rfl (Nat.le_of_ble_eq_true rfl) ⟨by decide, by decide, by decide, by decide⟩ ?_
  intro x A hxl h he
  refine kb_aload_n h 0 dX8_init_0 rfl ?_
  refine kb_oinit h mlX8_3 (by decide) dX8_init_1 ?_
  refine kb_aload_n h 0 dX8_init_4 rfl ?_
  refine kb_iconst h 0 dX8_init_5 (by decide) ?_
  refine kb_put h iX8 tyX8 tyX8_ok nmX8 0 rfl rfl 0 (by decide) lkX8_9 rfl rfl rfl rfl (Nat.le_of_ble_eq_true rfl) dX8_init_6 [(h0, .inr (8, [.int 0, .null, .null]))] rfl ?_
  refine kb_aload_n h 0 dX8_init_9 rfl ?_
  refine kb_bipush h 24 dX8_init_10 (by decide) ?_
  refine kb_newa h acI rfl 24 (24, .inl (fun _ => 0)) (a0I 24) (by decide) (by decide) (by decide) (by decide) (by decide) dX8_init_12 (fun q0 c0 => [(h0, .inr (8, [.int 0, .null, .null])), (q0, .inl (c0, 24, .inl (fun _ => 0)))]) (fun _ _ => rfl) (fun c0 => [(c0, .int)]) (fun _ => rfl) 1 24 rfl rfl (fun q0 c0 => ?_)
  refine kb_putF h iX8 tyX8 tyX8_ok nmX8 0 rfl rfl 1 (by decide) lkX8_15 rfl rfl rfl rfl rfl (Nat.le_of_ble_eq_true rfl) dX8_init_14 [(h0, .inr (8, [.int 0, .ref q0, .null])), (q0, .inl (c0, 24, .inl (fun _ => 0)))] rfl ?_
  refine kb_aload_n h 0 dX8_init_17 rfl ?_
  refine kb_bipush h 24 dX8_init_18 (by decide) ?_
  refine kb_newa h acI rfl 24 (24, .inl (fun _ => 0)) (a0I 24) (by decide) (by decide) (by decide) (by decide) (by decide) dX8_init_20 (fun q1 c1 => [(h0, .inr (8, [.int 0, .ref q0, .null])), (q0, .inl (c0, 24, .inl (fun _ => 0))), (q1, .inl (c1, 24, .inl (fun _ => 0)))]) (fun _ _ => rfl) (fun c1 => [(c0, .int), (c1, .int)]) (fun _ => rfl) 2 48 rfl rfl (fun q1 c1 => ?_)
  refine kb_putF h iX8 tyX8 tyX8_ok nmX8 0 rfl rfl 2 (by decide) lkX8_19 rfl rfl rfl rfl rfl (Nat.le_of_ble_eq_true rfl) dX8_init_22 [(h0, .inr (8, [.int 0, .ref q0, .ref q1])), (q0, .inl (c0, 24, .inl (fun _ => 0))), (q1, .inl (c1, 24, .inl (fun _ => 0)))] rfl ?_
  exact kb_ret h he (fun k => [q0, q1].getD k 0, fun k => [c0, c1].getD k 0) rfl rfl rfl rfl dX8_init_25
theorem kcX2 (l : Launch) (D : va_G) (h0 : Nat) : KCon l D yX2_init cX2_init 1 { frames := 1, cells := 3, slots := 60, locals := 33 } h0 [] (.inr (2, [.null, .null, .null])) (fun u => [(h0, .inr (2, [.ref (u.1 0), .ref (u.1 1), .ref (u.1 2)])), (u.1 0, .inl (u.2 0, 20, .inl (fun _ => 0))), (u.1 1, .inl (u.2 1, 20, .inl (fun _ => 0))), (u.1 2, .inl (u.2 2, 20, .inl (fun _ => 0)))]) (fun u => [(u.2 0, .int), (u.2 1, .int), (u.2 2, .int)]) 3 60 := by
  refine KCon.of (by decide) rfl (Nat.le_of_ble_eq_true rfl) ⟨by decide, by decide, by decide, by decide⟩ ?_
  intro x A hxl h he
  refine kb_aload_n h 0 dX2_init_0 rfl ?_
  refine kb_oinit h mlX2_3 (by decide) dX2_init_1 ?_
  refine kb_aload_n h 0 dX2_init_4 rfl ?_
  refine kb_bipush h 20 dX2_init_5 (by decide) ?_
  refine kb_newa h acI rfl 20 (20, .inl (fun _ => 0)) (a0I 20) (by decide) (by decide) (by decide) (by decide) (by decide) dX2_init_7 (fun q0 c0 => [(h0, .inr (2, [.null, .null, .null])), (q0, .inl (c0, 20, .inl (fun _ => 0)))]) (fun _ _ => rfl) (fun c0 => [(c0, .int)]) (fun _ => rfl) 1 20 rfl rfl (fun q0 c0 => ?_)
  refine kb_putF h iX2 tyX2 tyX2_ok nmX2 0 rfl rfl 0 (by decide) lkX2_9 rfl rfl rfl rfl rfl (Nat.le_of_ble_eq_true rfl) dX2_init_9 [(h0, .inr (2, [.ref q0, .null, .null])), (q0, .inl (c0, 20, .inl (fun _ => 0)))] rfl ?_
  refine kb_aload_n h 0 dX2_init_12 rfl ?_
  refine kb_bipush h 20 dX2_init_13 (by decide) ?_
  refine kb_newa h acI rfl 20 (20, .inl (fun _ => 0)) (a0I 20) (by decide) (by decide) (by decide) (by decide) (by decide) dX2_init_15 (fun q1 c1 => [(h0, .inr (2, [.ref q0, .null, .null])), (q0, .inl (c0, 20, .inl (fun _ => 0))), (q1, .inl (c1, 20, .inl (fun _ => 0)))]) (fun _ _ => rfl) (fun c1 => [(c0, .int), (c1, .int)]) (fun _ => rfl) 2 40 rfl rfl (fun q1 c1 => ?_)
  refine kb_putF h iX2 tyX2 tyX2_ok nmX2 0 rfl rfl 1 (by decide) lkX2_15 rfl rfl rfl rfl rfl (Nat.le_of_ble_eq_true rfl) dX2_init_17 [(h0, .inr (2, [.ref q0, .ref q1, .null])), (q0, .inl (c0, 20, .inl (fun _ => 0))), (q1, .inl (c1, 20, .inl (fun _ => 0)))] rfl ?_
  refine kb_aload_n h 0 dX2_init_20 rfl ?_
  refine kb_bipush h 20 dX2_init_21 (by decide) ?_
  refine kb_newa h acI rfl 20 (20, .inl (fun _ => 0)) (a0I 20) (by decide) (by decide) (by decide) (by decide) (by decide) dX2_init_23 (fun q2 c2 => [(h0, .inr (2, [.ref q0, .ref q1, .null])), (q0, .inl (c0, 20, .inl (fun _ => 0))), (q1, .inl (c1, 20, .inl (fun _ => 0))), (q2, .inl (c2, 20, .inl (fun _ => 0)))]) (fun _ _ => rfl) (fun c2 => [(c0, .int), (c1, .int), (c2, .int)]) (fun _ => rfl) 3 60 rfl rfl (fun q2 c2 => ?_)
  refine kb_putF h iX2 tyX2 tyX2_ok nmX2 0 rfl rfl 2 (by decide) lkX2_18 rfl rfl rfl rfl rfl (Nat.le_of_ble_eq_true rfl) dX2_init_25 [(h0, .inr (2, [.ref q0, .ref q1, .ref q2])), (q0, .inl (c0, 20, .inl (fun _ => 0))), (q1, .inl (c1, 20, .inl (fun _ => 0))), (q2, .inl (c2, 20, .inl (fun _ => 0)))] rfl ?_
  exact kb_ret h he (fun k => [q0, q1, q2].getD k 0, fun k => [c0, c1, c2].getD k 0) rfl rfl rfl rfl dX2_init_28
theorem kcX6 (l : Launch) (D : va_G) (h0 : Nat) : KCon l D yX6_init cX6_init 1 { frames := 1, cells := 5, slots := 150, locals := 33 } h0 [] (.inr (6, [.int 0, .null, .null, .null, .null, .null])) (fun u => [(h0, .inr (6, [.int 0, .ref (u.1 0), .ref (u.1 1), .ref (u.1 2), .ref (u.1 3), .ref (u.1 4)])), (u.1 0, .inl (u.2 0, 30, .inl (fun _ => 0))), (u.1 1, .inl (u.2 1, 30, .inl (fun _ => 0))), (u.1 2, .inl (u.2 2, 30, .inl (fun _ => 0))), (u.1 3, .inl (u.2 3, 30, .inl (fun _ => 0))), (u.1 4, .inl (u.2 4, 30, .inl (fun _ => 0)))]) (fun u => [(u.2 0, .int), (u.2 1, .int), (u.2 2, .int), (u.2 3, .int), (u.2 4, .int)]) 5 150 := by
  refine KCon.of (by decide) rfl (Nat.le_of_ble_eq_true rfl) ⟨by decide, by decide, by decide, by decide⟩ ?_
  intro x A hxl h he
  refine kb_aload_n h 0 dX6_init_0 rfl ?_
  refine kb_oinit h mlX6_3 (by decide) dX6_init_1 ?_
  refine kb_aload_n h 0 dX6_init_4 rfl ?_
  refine kb_iconst h 0 dX6_init_5 (by decide) ?_
  refine kb_put h iX6 tyX6 tyX6_ok nmX6 0 rfl rfl 0 (by decide) lkX6_9 rfl rfl rfl rfl (Nat.le_of_ble_eq_true rfl) dX6_init_6 [(h0, .inr (6, [.int 0, .null, .null, .null, .null, .null]))] rfl ?_
  refine kb_aload_n h 0 dX6_init_9 rfl ?_
  refine kb_bipush h 30 dX6_init_10 (by decide) ?_
  refine kb_newa h acI rfl 30 (30, .inl (fun _ => 0)) (a0I 30) (by decide) (by decide) (by decide) (by decide) (by decide) dX6_init_12 (fun q0 c0 => [(h0, .inr (6, [.int 0, .null, .null, .null, .null, .null])), (q0, .inl (c0, 30, .inl (fun _ => 0)))]) (fun _ _ => rfl) (fun c0 => [(c0, .int)]) (fun _ => rfl) 1 30 rfl rfl (fun q0 c0 => ?_)
  refine kb_putF h iX6 tyX6 tyX6_ok nmX6 0 rfl rfl 1 (by decide) lkX6_15 rfl rfl rfl rfl rfl (Nat.le_of_ble_eq_true rfl) dX6_init_14 [(h0, .inr (6, [.int 0, .ref q0, .null, .null, .null, .null])), (q0, .inl (c0, 30, .inl (fun _ => 0)))] rfl ?_
  refine kb_aload_n h 0 dX6_init_17 rfl ?_
  refine kb_bipush h 30 dX6_init_18 (by decide) ?_
  refine kb_newa h acI rfl 30 (30, .inl (fun _ => 0)) (a0I 30) (by decide) (by decide) (by decide) (by decide) (by decide) dX6_init_20 (fun q1 c1 => [(h0, .inr (6, [.int 0, .ref q0, .null, .null, .null, .null])), (q0, .inl (c0, 30, .inl (fun _ => 0))), (q1, .inl (c1, 30, .inl (fun _ => 0)))]) (fun _ _ => rfl) (fun c1 => [(c0, .int), (c1, .int)]) (fun _ => rfl) 2 60 rfl rfl (fun q1 c1 => ?_)
  refine kb_putF h iX6 tyX6 tyX6_ok nmX6 0 rfl rfl 2 (by decide) lkX6_19 rfl rfl rfl rfl rfl (Nat.le_of_ble_eq_true rfl) dX6_init_22 [(h0, .inr (6, [.int 0, .ref q0, .ref q1, .null, .null, .null])), (q0, .inl (c0, 30, .inl (fun _ => 0))), (q1, .inl (c1, 30, .inl (fun _ => 0)))] rfl ?_
  refine kb_aload_n h 0 dX6_init_25 rfl ?_
  refine kb_bipush h 30 dX6_init_26 (by decide) ?_
  refine kb_newa h acI rfl 30 (30, .inl (fun _ => 0)) (a0I 30) (by decide) (by decide) (by decide) (by decide) (by decide) dX6_init_28 (fun q2 c2 => [(h0, .inr (6, [.int 0, .ref q0, .ref q1, .null, .null, .null])), (q0, .inl (c0, 30, .inl (fun _ => 0))), (q1, .inl (c1, 30, .inl (fun _ => 0))), (q2, .inl (c2, 30, .inl (fun _ => 0)))]) (fun _ _ => rfl) (fun c2 => [(c0, .int), (c1, .int), (c2, .int)]) (fun _ => rfl) 3 90 rfl rfl (fun q2 c2 => ?_)
  refine kb_putF h iX6 tyX6 tyX6_ok nmX6 0 rfl rfl 3 (by decide) lkX6_22 rfl rfl rfl rfl rfl (Nat.le_of_ble_eq_true rfl) dX6_init_30 [(h0, .inr (6, [.int 0, .ref q0, .ref q1, .ref q2, .null, .null])), (q0, .inl (c0, 30, .inl (fun _ => 0))), (q1, .inl (c1, 30, .inl (fun _ => 0))), (q2, .inl (c2, 30, .inl (fun _ => 0)))] rfl ?_
  refine kb_aload_n h 0 dX6_init_33 rfl ?_
  refine kb_bipush h 30 dX6_init_34 (by decide) ?_
  refine kb_newa h acI rfl 30 (30, .inl (fun _ => 0)) (a0I 30) (by decide) (by decide) (by decide) (by decide) (by decide) dX6_init_36 (fun q3 c3 => [(h0, .inr (6, [.int 0, .ref q0, .ref q1, .ref q2, .null, .null])), (q0, .inl (c0, 30, .inl (fun _ => 0))), (q1, .inl (c1, 30, .inl (fun _ => 0))), (q2, .inl (c2, 30, .inl (fun _ => 0))), (q3, .inl (c3, 30, .inl (fun _ => 0)))]) (fun _ _ => rfl) (fun c3 => [(c0, .int), (c1, .int), (c2, .int), (c3, .int)]) (fun _ => rfl) 4 120 rfl rfl (fun q3 c3 => ?_)
  refine kb_putF h iX6 tyX6 tyX6_ok nmX6 0 rfl rfl 4 (by decide) lkX6_25 rfl rfl rfl rfl rfl (Nat.le_of_ble_eq_true rfl) dX6_init_38 [(h0, .inr (6, [.int 0, .ref q0, .ref q1, .ref q2, .ref q3, .null])), (q0, .inl (c0, 30, .inl (fun _ => 0))), (q1, .inl (c1, 30, .inl (fun _ => 0))), (q2, .inl (c2, 30, .inl (fun _ => 0))), (q3, .inl (c3, 30, .inl (fun _ => 0)))] rfl ?_
  refine kb_aload_n h 0 dX6_init_41 rfl ?_
  refine kb_bipush h 30 dX6_init_42 (by decide) ?_
  refine kb_newa h acI rfl 30 (30, .inl (fun _ => 0)) (a0I 30) (by decide) (by decide) (by decide) (by decide) (by decide) dX6_init_44 (fun q4 c4 => [(h0, .inr (6, [.int 0, .ref q0, .ref q1, .ref q2, .ref q3, .null])), (q0, .inl (c0, 30, .inl (fun _ => 0))), (q1, .inl (c1, 30, .inl (fun _ => 0))), (q2, .inl (c2, 30, .inl (fun _ => 0))), (q3, .inl (c3, 30, .inl (fun _ => 0))), (q4, .inl (c4, 30, .inl (fun _ => 0)))]) (fun _ _ => rfl) (fun c4 => [(c0, .int), (c1, .int), (c2, .int), (c3, .int), (c4, .int)]) (fun _ => rfl) 5 150 rfl rfl (fun q4 c4 => ?_)
  refine kb_putF h iX6 tyX6 tyX6_ok nmX6 0 rfl rfl 5 (by decide) lkX6_28 rfl rfl rfl rfl rfl (Nat.le_of_ble_eq_true rfl) dX6_init_46 [(h0, .inr (6, [.int 0, .ref q0, .ref q1, .ref q2, .ref q3, .ref q4])), (q0, .inl (c0, 30, .inl (fun _ => 0))), (q1, .inl (c1, 30, .inl (fun _ => 0))), (q2, .inl (c2, 30, .inl (fun _ => 0))), (q3, .inl (c3, 30, .inl (fun _ => 0))), (q4, .inl (c4, 30, .inl (fun _ => 0)))] rfl ?_
  exact kb_ret h he (fun k => [q0, q1, q2, q3, q4].getD k 0, fun k => [c0, c1, c2, c3, c4].getD k 0) rfl rfl rfl rfl dX6_init_49
theorem kcX0 (l : Launch) (D : va_G) (h0 : Nat) : KCon l D yX0_init cX0_init 1 { frames := 1, cells := 5, slots := 288, locals := 33 } h0 [] (.inr (0, [.int 0, .null, .null, .null, .null, .null])) (fun u => [(h0, .inr (0, [.int 0, .ref (u.1 0), .ref (u.1 1), .ref (u.1 2), .ref (u.1 3), .ref (u.1 4)])), (u.1 0, .inl (u.2 0, 8, .inl (fun _ => 0))), (u.1 1, .inl (u.2 1, 8, .inl (fun _ => 0))), (u.1 2, .inl (u.2 2, 8, .inl (fun _ => 0))), (u.1 3, .inl (u.2 3, 8, .inr (.inl (fun _ => 0)))), (u.1 4, .inl (u.2 4, 256, .inr (.inl (fun _ => 0))))]) (fun u => [(u.2 0, .int), (u.2 1, .int), (u.2 2, .int), (u.2 3, .long), (u.2 4, .long)]) 5 288 := by
  refine KCon.of (by decide) rfl (Nat.le_of_ble_eq_true rfl) ⟨by decide, by decide, by decide, by decide⟩ ?_
  intro x A hxl h he
  refine kb_aload_n h 0 dX0_init_0 rfl ?_
  refine kb_oinit h mlX0_5 (by decide) dX0_init_1 ?_
  refine kb_aload_n h 0 dX0_init_4 rfl ?_
  refine kb_iconst h 0 dX0_init_5 (by decide) ?_
  refine kb_put h iX0 tyX0 tyX0_ok nmX0 0 rfl rfl 0 (by decide) lkX0_11 rfl rfl rfl rfl (Nat.le_of_ble_eq_true rfl) dX0_init_6 [(h0, .inr (0, [.int 0, .null, .null, .null, .null, .null]))] rfl ?_
  refine kb_aload_n h 0 dX0_init_9 rfl ?_
  refine kb_bipush h 8 dX0_init_10 (by decide) ?_
  refine kb_newa h acI rfl 8 (8, .inl (fun _ => 0)) (a0I 8) (by decide) (by decide) (by decide) (by decide) (by decide) dX0_init_12 (fun q0 c0 => [(h0, .inr (0, [.int 0, .null, .null, .null, .null, .null])), (q0, .inl (c0, 8, .inl (fun _ => 0)))]) (fun _ _ => rfl) (fun c0 => [(c0, .int)]) (fun _ => rfl) 1 8 rfl rfl (fun q0 c0 => ?_)
  refine kb_putF h iX0 tyX0 tyX0_ok nmX0 0 rfl rfl 1 (by decide) lkX0_15 rfl rfl rfl rfl rfl (Nat.le_of_ble_eq_true rfl) dX0_init_14 [(h0, .inr (0, [.int 0, .ref q0, .null, .null, .null, .null])), (q0, .inl (c0, 8, .inl (fun _ => 0)))] rfl ?_
  refine kb_aload_n h 0 dX0_init_17 rfl ?_
  refine kb_bipush h 8 dX0_init_18 (by decide) ?_
  refine kb_newa h acI rfl 8 (8, .inl (fun _ => 0)) (a0I 8) (by decide) (by decide) (by decide) (by decide) (by decide) dX0_init_20 (fun q1 c1 => [(h0, .inr (0, [.int 0, .ref q0, .null, .null, .null, .null])), (q0, .inl (c0, 8, .inl (fun _ => 0))), (q1, .inl (c1, 8, .inl (fun _ => 0)))]) (fun _ _ => rfl) (fun c1 => [(c0, .int), (c1, .int)]) (fun _ => rfl) 2 16 rfl rfl (fun q1 c1 => ?_)
  refine kb_putF h iX0 tyX0 tyX0_ok nmX0 0 rfl rfl 2 (by decide) lkX0_19 rfl rfl rfl rfl rfl (Nat.le_of_ble_eq_true rfl) dX0_init_22 [(h0, .inr (0, [.int 0, .ref q0, .ref q1, .null, .null, .null])), (q0, .inl (c0, 8, .inl (fun _ => 0))), (q1, .inl (c1, 8, .inl (fun _ => 0)))] rfl ?_
  refine kb_aload_n h 0 dX0_init_25 rfl ?_
  refine kb_bipush h 8 dX0_init_26 (by decide) ?_
  refine kb_newa h acI rfl 8 (8, .inl (fun _ => 0)) (a0I 8) (by decide) (by decide) (by decide) (by decide) (by decide) dX0_init_28 (fun q2 c2 => [(h0, .inr (0, [.int 0, .ref q0, .ref q1, .null, .null, .null])), (q0, .inl (c0, 8, .inl (fun _ => 0))), (q1, .inl (c1, 8, .inl (fun _ => 0))), (q2, .inl (c2, 8, .inl (fun _ => 0)))]) (fun _ _ => rfl) (fun c2 => [(c0, .int), (c1, .int), (c2, .int)]) (fun _ => rfl) 3 24 rfl rfl (fun q2 c2 => ?_)
  refine kb_putF h iX0 tyX0 tyX0_ok nmX0 0 rfl rfl 3 (by decide) lkX0_22 rfl rfl rfl rfl rfl (Nat.le_of_ble_eq_true rfl) dX0_init_30 [(h0, .inr (0, [.int 0, .ref q0, .ref q1, .ref q2, .null, .null])), (q0, .inl (c0, 8, .inl (fun _ => 0))), (q1, .inl (c1, 8, .inl (fun _ => 0))), (q2, .inl (c2, 8, .inl (fun _ => 0)))] rfl ?_
  refine kb_aload_n h 0 dX0_init_33 rfl ?_
  refine kb_bipush h 8 dX0_init_34 (by decide) ?_
  refine kb_newa h acJ rfl 8 (8, .inr (.inl (fun _ => 0))) (a0J 8) (by decide) (by decide) (by decide) (by decide) (by decide) dX0_init_36 (fun q3 c3 => [(h0, .inr (0, [.int 0, .ref q0, .ref q1, .ref q2, .null, .null])), (q0, .inl (c0, 8, .inl (fun _ => 0))), (q1, .inl (c1, 8, .inl (fun _ => 0))), (q2, .inl (c2, 8, .inl (fun _ => 0))), (q3, .inl (c3, 8, .inr (.inl (fun _ => 0))))]) (fun _ _ => rfl) (fun c3 => [(c0, .int), (c1, .int), (c2, .int), (c3, .long)]) (fun _ => rfl) 4 32 rfl rfl (fun q3 c3 => ?_)
  refine kb_putF h iX0 tyX0 tyX0_ok nmX0 0 rfl rfl 4 (by decide) lkX0_25 rfl rfl rfl rfl rfl (Nat.le_of_ble_eq_true rfl) dX0_init_38 [(h0, .inr (0, [.int 0, .ref q0, .ref q1, .ref q2, .ref q3, .null])), (q0, .inl (c0, 8, .inl (fun _ => 0))), (q1, .inl (c1, 8, .inl (fun _ => 0))), (q2, .inl (c2, 8, .inl (fun _ => 0))), (q3, .inl (c3, 8, .inr (.inl (fun _ => 0))))] rfl ?_
  refine kb_aload_n h 0 dX0_init_41 rfl ?_
  refine kb_sipush h 256 dX0_init_42 (by decide) ?_
  refine kb_newa h acJ rfl 256 (256, .inr (.inl (fun _ => 0))) (a0J 256) (by decide) (by decide) (by decide) (by decide) (by decide) dX0_init_45 (fun q4 c4 => [(h0, .inr (0, [.int 0, .ref q0, .ref q1, .ref q2, .ref q3, .null])), (q0, .inl (c0, 8, .inl (fun _ => 0))), (q1, .inl (c1, 8, .inl (fun _ => 0))), (q2, .inl (c2, 8, .inl (fun _ => 0))), (q3, .inl (c3, 8, .inr (.inl (fun _ => 0)))), (q4, .inl (c4, 256, .inr (.inl (fun _ => 0))))]) (fun _ _ => rfl) (fun c4 => [(c0, .int), (c1, .int), (c2, .int), (c3, .long), (c4, .long)]) (fun _ => rfl) 5 288 rfl rfl (fun q4 c4 => ?_)
  refine kb_putF h iX0 tyX0 tyX0_ok nmX0 0 rfl rfl 5 (by decide) lkX0_29 rfl rfl rfl rfl rfl (Nat.le_of_ble_eq_true rfl) dX0_init_47 [(h0, .inr (0, [.int 0, .ref q0, .ref q1, .ref q2, .ref q3, .ref q4])), (q0, .inl (c0, 8, .inl (fun _ => 0))), (q1, .inl (c1, 8, .inl (fun _ => 0))), (q2, .inl (c2, 8, .inl (fun _ => 0))), (q3, .inl (c3, 8, .inr (.inl (fun _ => 0)))), (q4, .inl (c4, 256, .inr (.inl (fun _ => 0))))] rfl ?_
  exact kb_ret h he (fun k => [q0, q1, q2, q3, q4].getD k 0, fun k => [c0, c1, c2, c3, c4].getD k 0) rfl rfl rfl rfl dX0_init_50
theorem kcX1 (l : Launch) (D : va_G) (h0 : Nat) : KCon l D yX1_init cX1_init 1 { frames := 1, cells := 9, slots := 360, locals := 33 } h0 [] (.inr (1, [.int 0, .int 0, .int 0, .null, .null, .null, .null, .null, .null, .null, .null, .null])) (fun u => [(h0, .inr (1, [.int 0, .int 0, .int 0, .ref (u.1 0), .ref (u.1 1), .ref (u.1 2), .ref (u.1 3), .ref (u.1 4), .ref (u.1 5), .ref (u.1 6), .ref (u.1 7), .ref (u.1 8)])), (u.1 0, .inl (u.2 0, 40, .inl (fun _ => 0))), (u.1 1, .inl (u.2 1, 40, .inl (fun _ => 0))), (u.1 2, .inl (u.2 2, 40, .inl (fun _ => 0))), (u.1 3, .inl (u.2 3, 40, .inl (fun _ => 0))), (u.1 4, .inl (u.2 4, 40, .inl (fun _ => 0))), (u.1 5, .inl (u.2 5, 40, .inl (fun _ => 0))), (u.1 6, .inl (u.2 6, 40, .inl (fun _ => 0))), (u.1 7, .inl (u.2 7, 40, .inl (fun _ => 0))), (u.1 8, .inl (u.2 8, 40, .inl (fun _ => 0)))]) (fun u => [(u.2 0, .int), (u.2 1, .int), (u.2 2, .int), (u.2 3, .int), (u.2 4, .boolean), (u.2 5, .int), (u.2 6, .int), (u.2 7, .int), (u.2 8, .int)]) 9 360 := by
  refine KCon.of (by decide) rfl (Nat.le_of_ble_eq_true rfl) ⟨by decide, by decide, by decide, by decide⟩ ?_
  intro x A hxl h he
  refine kb_aload_n h 0 dX1_init_0 rfl ?_
  refine kb_oinit h mlX1_3 (by decide) dX1_init_1 ?_
  refine kb_aload_n h 0 dX1_init_4 rfl ?_
  refine kb_iconst h 0 dX1_init_5 (by decide) ?_
  refine kb_put h iX1 tyX1 tyX1_ok nmX1 0 rfl rfl 0 (by decide) lkX1_9 rfl rfl rfl rfl (Nat.le_of_ble_eq_true rfl) dX1_init_6 [(h0, .inr (1, [.int 0, .int 0, .int 0, .null, .null, .null, .null, .null, .null, .null, .null, .null]))] rfl ?_
  refine kb_aload_n h 0 dX1_init_9 rfl ?_
  refine kb_iconst h 0 dX1_init_10 (by decide) ?_
  refine kb_put h iX1 tyX1 tyX1_ok nmX1 0 rfl rfl 1 (by decide) lkX1_15 rfl rfl rfl rfl (Nat.le_of_ble_eq_true rfl) dX1_init_11 [(h0, .inr (1, [.int 0, .int 0, .int 0, .null, .null, .null, .null, .null, .null, .null, .null, .null]))] rfl ?_
  refine kb_aload_n h 0 dX1_init_14 rfl ?_
  refine kb_iconst h 0 dX1_init_15 (by decide) ?_
  refine kb_put h iX1 tyX1 tyX1_ok nmX1 0 rfl rfl 2 (by decide) lkX1_18 rfl rfl rfl rfl (Nat.le_of_ble_eq_true rfl) dX1_init_16 [(h0, .inr (1, [.int 0, .int 0, .int 0, .null, .null, .null, .null, .null, .null, .null, .null, .null]))] rfl ?_
  refine kb_aload_n h 0 dX1_init_19 rfl ?_
  refine kb_bipush h 40 dX1_init_20 (by decide) ?_
  refine kb_newa h acI rfl 40 (40, .inl (fun _ => 0)) (a0I 40) (by decide) (by decide) (by decide) (by decide) (by decide) dX1_init_22 (fun q0 c0 => [(h0, .inr (1, [.int 0, .int 0, .int 0, .null, .null, .null, .null, .null, .null, .null, .null, .null])), (q0, .inl (c0, 40, .inl (fun _ => 0)))]) (fun _ _ => rfl) (fun c0 => [(c0, .int)]) (fun _ => rfl) 1 40 rfl rfl (fun q0 c0 => ?_)
  refine kb_putF h iX1 tyX1 tyX1_ok nmX1 0 rfl rfl 3 (by decide) lkX1_21 rfl rfl rfl rfl rfl (Nat.le_of_ble_eq_true rfl) dX1_init_24 [(h0, .inr (1, [.int 0, .int 0, .int 0, .ref q0, .null, .null, .null, .null, .null, .null, .null, .null])), (q0, .inl (c0, 40, .inl (fun _ => 0)))] rfl ?_
  refine kb_aload_n h 0 dX1_init_27 rfl ?_
  refine kb_bipush h 40 dX1_init_28 (by decide) ?_
  refine kb_newa h acI rfl 40 (40, .inl (fun _ => 0)) (a0I 40) (by decide) (by decide) (by decide) (by decide) (by decide) dX1_init_30 (fun q1 c1 => [(h0, .inr (1, [.int 0, .int 0, .int 0, .ref q0, .null, .null, .null, .null, .null, .null, .null, .null])), (q0, .inl (c0, 40, .inl (fun _ => 0))), (q1, .inl (c1, 40, .inl (fun _ => 0)))]) (fun _ _ => rfl) (fun c1 => [(c0, .int), (c1, .int)]) (fun _ => rfl) 2 80 rfl rfl (fun q1 c1 => ?_)
  refine kb_putF h iX1 tyX1 tyX1_ok nmX1 0 rfl rfl 4 (by decide) lkX1_25 rfl rfl rfl rfl rfl (Nat.le_of_ble_eq_true rfl) dX1_init_32 [(h0, .inr (1, [.int 0, .int 0, .int 0, .ref q0, .ref q1, .null, .null, .null, .null, .null, .null, .null])), (q0, .inl (c0, 40, .inl (fun _ => 0))), (q1, .inl (c1, 40, .inl (fun _ => 0)))] rfl ?_
  refine kb_aload_n h 0 dX1_init_35 rfl ?_
  refine kb_bipush h 40 dX1_init_36 (by decide) ?_
  refine kb_newa h acI rfl 40 (40, .inl (fun _ => 0)) (a0I 40) (by decide) (by decide) (by decide) (by decide) (by decide) dX1_init_38 (fun q2 c2 => [(h0, .inr (1, [.int 0, .int 0, .int 0, .ref q0, .ref q1, .null, .null, .null, .null, .null, .null, .null])), (q0, .inl (c0, 40, .inl (fun _ => 0))), (q1, .inl (c1, 40, .inl (fun _ => 0))), (q2, .inl (c2, 40, .inl (fun _ => 0)))]) (fun _ _ => rfl) (fun c2 => [(c0, .int), (c1, .int), (c2, .int)]) (fun _ => rfl) 3 120 rfl rfl (fun q2 c2 => ?_)
  refine kb_putF h iX1 tyX1 tyX1_ok nmX1 0 rfl rfl 5 (by decide) lkX1_28 rfl rfl rfl rfl rfl (Nat.le_of_ble_eq_true rfl) dX1_init_40 [(h0, .inr (1, [.int 0, .int 0, .int 0, .ref q0, .ref q1, .ref q2, .null, .null, .null, .null, .null, .null])), (q0, .inl (c0, 40, .inl (fun _ => 0))), (q1, .inl (c1, 40, .inl (fun _ => 0))), (q2, .inl (c2, 40, .inl (fun _ => 0)))] rfl ?_
  refine kb_aload_n h 0 dX1_init_43 rfl ?_
  refine kb_bipush h 40 dX1_init_44 (by decide) ?_
  refine kb_newa h acI rfl 40 (40, .inl (fun _ => 0)) (a0I 40) (by decide) (by decide) (by decide) (by decide) (by decide) dX1_init_46 (fun q3 c3 => [(h0, .inr (1, [.int 0, .int 0, .int 0, .ref q0, .ref q1, .ref q2, .null, .null, .null, .null, .null, .null])), (q0, .inl (c0, 40, .inl (fun _ => 0))), (q1, .inl (c1, 40, .inl (fun _ => 0))), (q2, .inl (c2, 40, .inl (fun _ => 0))), (q3, .inl (c3, 40, .inl (fun _ => 0)))]) (fun _ _ => rfl) (fun c3 => [(c0, .int), (c1, .int), (c2, .int), (c3, .int)]) (fun _ => rfl) 4 160 rfl rfl (fun q3 c3 => ?_)
  refine kb_putF h iX1 tyX1 tyX1_ok nmX1 0 rfl rfl 6 (by decide) lkX1_31 rfl rfl rfl rfl rfl (Nat.le_of_ble_eq_true rfl) dX1_init_48 [(h0, .inr (1, [.int 0, .int 0, .int 0, .ref q0, .ref q1, .ref q2, .ref q3, .null, .null, .null, .null, .null])), (q0, .inl (c0, 40, .inl (fun _ => 0))), (q1, .inl (c1, 40, .inl (fun _ => 0))), (q2, .inl (c2, 40, .inl (fun _ => 0))), (q3, .inl (c3, 40, .inl (fun _ => 0)))] rfl ?_
  refine kb_aload_n h 0 dX1_init_51 rfl ?_
  refine kb_bipush h 40 dX1_init_52 (by decide) ?_
  refine kb_newa h acZ rfl 40 (40, .inl (fun _ => 0)) (a0Z 40) (by decide) (by decide) (by decide) (by decide) (by decide) dX1_init_54 (fun q4 c4 => [(h0, .inr (1, [.int 0, .int 0, .int 0, .ref q0, .ref q1, .ref q2, .ref q3, .null, .null, .null, .null, .null])), (q0, .inl (c0, 40, .inl (fun _ => 0))), (q1, .inl (c1, 40, .inl (fun _ => 0))), (q2, .inl (c2, 40, .inl (fun _ => 0))), (q3, .inl (c3, 40, .inl (fun _ => 0))), (q4, .inl (c4, 40, .inl (fun _ => 0)))]) (fun _ _ => rfl) (fun c4 => [(c0, .int), (c1, .int), (c2, .int), (c3, .int), (c4, .boolean)]) (fun _ => rfl) 5 200 rfl rfl (fun q4 c4 => ?_)
  refine kb_putF h iX1 tyX1 tyX1_ok nmX1 0 rfl rfl 7 (by decide) lkX1_34 rfl rfl rfl rfl rfl (Nat.le_of_ble_eq_true rfl) dX1_init_56 [(h0, .inr (1, [.int 0, .int 0, .int 0, .ref q0, .ref q1, .ref q2, .ref q3, .ref q4, .null, .null, .null, .null])), (q0, .inl (c0, 40, .inl (fun _ => 0))), (q1, .inl (c1, 40, .inl (fun _ => 0))), (q2, .inl (c2, 40, .inl (fun _ => 0))), (q3, .inl (c3, 40, .inl (fun _ => 0))), (q4, .inl (c4, 40, .inl (fun _ => 0)))] rfl ?_
  refine kb_aload_n h 0 dX1_init_59 rfl ?_
  refine kb_bipush h 40 dX1_init_60 (by decide) ?_
  refine kb_newa h acI rfl 40 (40, .inl (fun _ => 0)) (a0I 40) (by decide) (by decide) (by decide) (by decide) (by decide) dX1_init_62 (fun q5 c5 => [(h0, .inr (1, [.int 0, .int 0, .int 0, .ref q0, .ref q1, .ref q2, .ref q3, .ref q4, .null, .null, .null, .null])), (q0, .inl (c0, 40, .inl (fun _ => 0))), (q1, .inl (c1, 40, .inl (fun _ => 0))), (q2, .inl (c2, 40, .inl (fun _ => 0))), (q3, .inl (c3, 40, .inl (fun _ => 0))), (q4, .inl (c4, 40, .inl (fun _ => 0))), (q5, .inl (c5, 40, .inl (fun _ => 0)))]) (fun _ _ => rfl) (fun c5 => [(c0, .int), (c1, .int), (c2, .int), (c3, .int), (c4, .boolean), (c5, .int)]) (fun _ => rfl) 6 240 rfl rfl (fun q5 c5 => ?_)
  refine kb_putF h iX1 tyX1 tyX1_ok nmX1 0 rfl rfl 8 (by decide) lkX1_38 rfl rfl rfl rfl rfl (Nat.le_of_ble_eq_true rfl) dX1_init_64 [(h0, .inr (1, [.int 0, .int 0, .int 0, .ref q0, .ref q1, .ref q2, .ref q3, .ref q4, .ref q5, .null, .null, .null])), (q0, .inl (c0, 40, .inl (fun _ => 0))), (q1, .inl (c1, 40, .inl (fun _ => 0))), (q2, .inl (c2, 40, .inl (fun _ => 0))), (q3, .inl (c3, 40, .inl (fun _ => 0))), (q4, .inl (c4, 40, .inl (fun _ => 0))), (q5, .inl (c5, 40, .inl (fun _ => 0)))] rfl ?_
  refine kb_aload_n h 0 dX1_init_67 rfl ?_
  refine kb_bipush h 40 dX1_init_68 (by decide) ?_
  refine kb_newa h acI rfl 40 (40, .inl (fun _ => 0)) (a0I 40) (by decide) (by decide) (by decide) (by decide) (by decide) dX1_init_70 (fun q6 c6 => [(h0, .inr (1, [.int 0, .int 0, .int 0, .ref q0, .ref q1, .ref q2, .ref q3, .ref q4, .ref q5, .null, .null, .null])), (q0, .inl (c0, 40, .inl (fun _ => 0))), (q1, .inl (c1, 40, .inl (fun _ => 0))), (q2, .inl (c2, 40, .inl (fun _ => 0))), (q3, .inl (c3, 40, .inl (fun _ => 0))), (q4, .inl (c4, 40, .inl (fun _ => 0))), (q5, .inl (c5, 40, .inl (fun _ => 0))), (q6, .inl (c6, 40, .inl (fun _ => 0)))]) (fun _ _ => rfl) (fun c6 => [(c0, .int), (c1, .int), (c2, .int), (c3, .int), (c4, .boolean), (c5, .int), (c6, .int)]) (fun _ => rfl) 7 280 rfl rfl (fun q6 c6 => ?_)
  refine kb_putF h iX1 tyX1 tyX1_ok nmX1 0 rfl rfl 9 (by decide) lkX1_41 rfl rfl rfl rfl rfl (Nat.le_of_ble_eq_true rfl) dX1_init_72 [(h0, .inr (1, [.int 0, .int 0, .int 0, .ref q0, .ref q1, .ref q2, .ref q3, .ref q4, .ref q5, .ref q6, .null, .null])), (q0, .inl (c0, 40, .inl (fun _ => 0))), (q1, .inl (c1, 40, .inl (fun _ => 0))), (q2, .inl (c2, 40, .inl (fun _ => 0))), (q3, .inl (c3, 40, .inl (fun _ => 0))), (q4, .inl (c4, 40, .inl (fun _ => 0))), (q5, .inl (c5, 40, .inl (fun _ => 0))), (q6, .inl (c6, 40, .inl (fun _ => 0)))] rfl ?_
  refine kb_aload_n h 0 dX1_init_75 rfl ?_
  refine kb_bipush h 40 dX1_init_76 (by decide) ?_
  refine kb_newa h acI rfl 40 (40, .inl (fun _ => 0)) (a0I 40) (by decide) (by decide) (by decide) (by decide) (by decide) dX1_init_78 (fun q7 c7 => [(h0, .inr (1, [.int 0, .int 0, .int 0, .ref q0, .ref q1, .ref q2, .ref q3, .ref q4, .ref q5, .ref q6, .null, .null])), (q0, .inl (c0, 40, .inl (fun _ => 0))), (q1, .inl (c1, 40, .inl (fun _ => 0))), (q2, .inl (c2, 40, .inl (fun _ => 0))), (q3, .inl (c3, 40, .inl (fun _ => 0))), (q4, .inl (c4, 40, .inl (fun _ => 0))), (q5, .inl (c5, 40, .inl (fun _ => 0))), (q6, .inl (c6, 40, .inl (fun _ => 0))), (q7, .inl (c7, 40, .inl (fun _ => 0)))]) (fun _ _ => rfl) (fun c7 => [(c0, .int), (c1, .int), (c2, .int), (c3, .int), (c4, .boolean), (c5, .int), (c6, .int), (c7, .int)]) (fun _ => rfl) 8 320 rfl rfl (fun q7 c7 => ?_)
  refine kb_putF h iX1 tyX1 tyX1_ok nmX1 0 rfl rfl 10 (by decide) lkX1_44 rfl rfl rfl rfl rfl (Nat.le_of_ble_eq_true rfl) dX1_init_80 [(h0, .inr (1, [.int 0, .int 0, .int 0, .ref q0, .ref q1, .ref q2, .ref q3, .ref q4, .ref q5, .ref q6, .ref q7, .null])), (q0, .inl (c0, 40, .inl (fun _ => 0))), (q1, .inl (c1, 40, .inl (fun _ => 0))), (q2, .inl (c2, 40, .inl (fun _ => 0))), (q3, .inl (c3, 40, .inl (fun _ => 0))), (q4, .inl (c4, 40, .inl (fun _ => 0))), (q5, .inl (c5, 40, .inl (fun _ => 0))), (q6, .inl (c6, 40, .inl (fun _ => 0))), (q7, .inl (c7, 40, .inl (fun _ => 0)))] rfl ?_
  refine kb_aload_n h 0 dX1_init_83 rfl ?_
  refine kb_bipush h 40 dX1_init_84 (by decide) ?_
  refine kb_newa h acI rfl 40 (40, .inl (fun _ => 0)) (a0I 40) (by decide) (by decide) (by decide) (by decide) (by decide) dX1_init_86 (fun q8 c8 => [(h0, .inr (1, [.int 0, .int 0, .int 0, .ref q0, .ref q1, .ref q2, .ref q3, .ref q4, .ref q5, .ref q6, .ref q7, .null])), (q0, .inl (c0, 40, .inl (fun _ => 0))), (q1, .inl (c1, 40, .inl (fun _ => 0))), (q2, .inl (c2, 40, .inl (fun _ => 0))), (q3, .inl (c3, 40, .inl (fun _ => 0))), (q4, .inl (c4, 40, .inl (fun _ => 0))), (q5, .inl (c5, 40, .inl (fun _ => 0))), (q6, .inl (c6, 40, .inl (fun _ => 0))), (q7, .inl (c7, 40, .inl (fun _ => 0))), (q8, .inl (c8, 40, .inl (fun _ => 0)))]) (fun _ _ => rfl) (fun c8 => [(c0, .int), (c1, .int), (c2, .int), (c3, .int), (c4, .boolean), (c5, .int), (c6, .int), (c7, .int), (c8, .int)]) (fun _ => rfl) 9 360 rfl rfl (fun q8 c8 => ?_)
  refine kb_putF h iX1 tyX1 tyX1_ok nmX1 0 rfl rfl 11 (by decide) lkX1_47 rfl rfl rfl rfl rfl (Nat.le_of_ble_eq_true rfl) dX1_init_88 [(h0, .inr (1, [.int 0, .int 0, .int 0, .ref q0, .ref q1, .ref q2, .ref q3, .ref q4, .ref q5, .ref q6, .ref q7, .ref q8])), (q0, .inl (c0, 40, .inl (fun _ => 0))), (q1, .inl (c1, 40, .inl (fun _ => 0))), (q2, .inl (c2, 40, .inl (fun _ => 0))), (q3, .inl (c3, 40, .inl (fun _ => 0))), (q4, .inl (c4, 40, .inl (fun _ => 0))), (q5, .inl (c5, 40, .inl (fun _ => 0))), (q6, .inl (c6, 40, .inl (fun _ => 0))), (q7, .inl (c7, 40, .inl (fun _ => 0))), (q8, .inl (c8, 40, .inl (fun _ => 0)))] rfl ?_
  exact kb_ret h he (fun k => [q0, q1, q2, q3, q4, q5, q6, q7, q8].getD k 0, fun k => [c0, c1, c2, c3, c4, c5, c6, c7, c8].getD k 0) rfl rfl rfl rfl dX1_init_91
theorem kcX3 (l : Launch) (D : va_G) (h0 : Nat) : KCon l D yX3_init cX3_init 1 { frames := 1, cells := 5, slots := 34, locals := 33 } h0 [] (.inr (3, [.int 0, .null, .null, .null, .null, .null])) (fun u => [(h0, .inr (3, [.int 0, .ref (u.1 0), .ref (u.1 1), .ref (u.1 2), .ref (u.1 3), .ref (u.1 4)])), (u.1 0, .inl (u.2 0, 2, .inl (upd (upd (fun _ => 0) 0 15) 1 15))), (u.1 1, .inl (u.2 1, 8, .inl (fun _ => 0))), (u.1 2, .inl (u.2 2, 8, .inl (fun _ => 0))), (u.1 3, .inl (u.2 3, 8, .inl (fun _ => 0))), (u.1 4, .inl (u.2 4, 8, .inl (fun _ => 0)))]) (fun u => [(u.2 0, .int), (u.2 1, .int), (u.2 2, .int), (u.2 3, .int), (u.2 4, .int)]) 5 34 := by
  refine KCon.of (by decide) rfl (Nat.le_of_ble_eq_true rfl) ⟨by decide, by decide, by decide, by decide⟩ ?_
  intro x A hxl h he
  refine kb_aload_n h 0 dX3_init_0 rfl ?_
  refine kb_oinit h mlX3_3 (by decide) dX3_init_1 ?_
  refine kb_aload_n h 0 dX3_init_4 rfl ?_
  refine kb_iconst h 0 dX3_init_5 (by decide) ?_
  refine kb_put h iX3 tyX3 tyX3_ok nmX3 0 rfl rfl 0 (by decide) lkX3_9 rfl rfl rfl rfl (Nat.le_of_ble_eq_true rfl) dX3_init_6 [(h0, .inr (3, [.int 0, .null, .null, .null, .null, .null]))] rfl ?_
  refine kb_aload_n h 0 dX3_init_9 rfl ?_
  refine kb_iconst h 2 dX3_init_10 (by decide) ?_
  refine kb_newa h acI rfl 2 (2, .inl (fun _ => 0)) (a0I 2) (by decide) (by decide) (by decide) (by decide) (by decide) dX3_init_11 (fun q0 c0 => [(h0, .inr (3, [.int 0, .null, .null, .null, .null, .null])), (q0, .inl (c0, 2, .inl (fun _ => 0)))]) (fun _ _ => rfl) (fun c0 => [(c0, .int)]) (fun _ => rfl) 1 2 rfl rfl (fun q0 c0 => ?_)
  refine kb_dup h dX3_init_13 rfl ?_
  refine kb_iconst h 0 dX3_init_14 (by decide) ?_
  refine kb_bipush h 15 dX3_init_15 (by decide) ?_
  refine kb_iast h 1 0 rfl rfl (by decide) dX3_init_17 [(h0, .inr (3, [.int 0, .null, .null, .null, .null, .null])), (q0, .inl (c0, 2, .inl (upd (fun _ => 0) 0 15)))] rfl ?_
  refine kb_dup h dX3_init_18 rfl ?_
  refine kb_iconst h 1 dX3_init_19 (by decide) ?_
  refine kb_bipush h 15 dX3_init_20 (by decide) ?_
  refine kb_iast h 1 0 rfl rfl (by decide) dX3_init_22 [(h0, .inr (3, [.int 0, .null, .null, .null, .null, .null])), (q0, .inl (c0, 2, .inl (upd (upd (fun _ => 0) 0 15) 1 15)))] rfl ?_
  refine kb_putF h iX3 tyX3 tyX3_ok nmX3 0 rfl rfl 1 (by decide) lkX3_15 rfl rfl rfl rfl rfl (Nat.le_of_ble_eq_true rfl) dX3_init_23 [(h0, .inr (3, [.int 0, .ref q0, .null, .null, .null, .null])), (q0, .inl (c0, 2, .inl (upd (upd (fun _ => 0) 0 15) 1 15)))] rfl ?_
  refine kb_aload_n h 0 dX3_init_26 rfl ?_
  refine kb_bipush h 8 dX3_init_27 (by decide) ?_
  refine kb_newa h acI rfl 8 (8, .inl (fun _ => 0)) (a0I 8) (by decide) (by decide) (by decide) (by decide) (by decide) dX3_init_29 (fun q1 c1 => [(h0, .inr (3, [.int 0, .ref q0, .null, .null, .null, .null])), (q0, .inl (c0, 2, .inl (upd (upd (fun _ => 0) 0 15) 1 15))), (q1, .inl (c1, 8, .inl (fun _ => 0)))]) (fun _ _ => rfl) (fun c1 => [(c0, .int), (c1, .int)]) (fun _ => rfl) 2 10 rfl rfl (fun q1 c1 => ?_)
  refine kb_putF h iX3 tyX3 tyX3_ok nmX3 0 rfl rfl 2 (by decide) lkX3_19 rfl rfl rfl rfl rfl (Nat.le_of_ble_eq_true rfl) dX3_init_31 [(h0, .inr (3, [.int 0, .ref q0, .ref q1, .null, .null, .null])), (q0, .inl (c0, 2, .inl (upd (upd (fun _ => 0) 0 15) 1 15))), (q1, .inl (c1, 8, .inl (fun _ => 0)))] rfl ?_
  refine kb_aload_n h 0 dX3_init_34 rfl ?_
  refine kb_bipush h 8 dX3_init_35 (by decide) ?_
  refine kb_newa h acI rfl 8 (8, .inl (fun _ => 0)) (a0I 8) (by decide) (by decide) (by decide) (by decide) (by decide) dX3_init_37 (fun q2 c2 => [(h0, .inr (3, [.int 0, .ref q0, .ref q1, .null, .null, .null])), (q0, .inl (c0, 2, .inl (upd (upd (fun _ => 0) 0 15) 1 15))), (q1, .inl (c1, 8, .inl (fun _ => 0))), (q2, .inl (c2, 8, .inl (fun _ => 0)))]) (fun _ _ => rfl) (fun c2 => [(c0, .int), (c1, .int), (c2, .int)]) (fun _ => rfl) 3 18 rfl rfl (fun q2 c2 => ?_)
  refine kb_putF h iX3 tyX3 tyX3_ok nmX3 0 rfl rfl 3 (by decide) lkX3_22 rfl rfl rfl rfl rfl (Nat.le_of_ble_eq_true rfl) dX3_init_39 [(h0, .inr (3, [.int 0, .ref q0, .ref q1, .ref q2, .null, .null])), (q0, .inl (c0, 2, .inl (upd (upd (fun _ => 0) 0 15) 1 15))), (q1, .inl (c1, 8, .inl (fun _ => 0))), (q2, .inl (c2, 8, .inl (fun _ => 0)))] rfl ?_
  refine kb_aload_n h 0 dX3_init_42 rfl ?_
  refine kb_bipush h 8 dX3_init_43 (by decide) ?_
  refine kb_newa h acI rfl 8 (8, .inl (fun _ => 0)) (a0I 8) (by decide) (by decide) (by decide) (by decide) (by decide) dX3_init_45 (fun q3 c3 => [(h0, .inr (3, [.int 0, .ref q0, .ref q1, .ref q2, .null, .null])), (q0, .inl (c0, 2, .inl (upd (upd (fun _ => 0) 0 15) 1 15))), (q1, .inl (c1, 8, .inl (fun _ => 0))), (q2, .inl (c2, 8, .inl (fun _ => 0))), (q3, .inl (c3, 8, .inl (fun _ => 0)))]) (fun _ _ => rfl) (fun c3 => [(c0, .int), (c1, .int), (c2, .int), (c3, .int)]) (fun _ => rfl) 4 26 rfl rfl (fun q3 c3 => ?_)
  refine kb_putF h iX3 tyX3 tyX3_ok nmX3 0 rfl rfl 4 (by decide) lkX3_25 rfl rfl rfl rfl rfl (Nat.le_of_ble_eq_true rfl) dX3_init_47 [(h0, .inr (3, [.int 0, .ref q0, .ref q1, .ref q2, .ref q3, .null])), (q0, .inl (c0, 2, .inl (upd (upd (fun _ => 0) 0 15) 1 15))), (q1, .inl (c1, 8, .inl (fun _ => 0))), (q2, .inl (c2, 8, .inl (fun _ => 0))), (q3, .inl (c3, 8, .inl (fun _ => 0)))] rfl ?_
  refine kb_aload_n h 0 dX3_init_50 rfl ?_
  refine kb_bipush h 8 dX3_init_51 (by decide) ?_
  refine kb_newa h acI rfl 8 (8, .inl (fun _ => 0)) (a0I 8) (by decide) (by decide) (by decide) (by decide) (by decide) dX3_init_53 (fun q4 c4 => [(h0, .inr (3, [.int 0, .ref q0, .ref q1, .ref q2, .ref q3, .null])), (q0, .inl (c0, 2, .inl (upd (upd (fun _ => 0) 0 15) 1 15))), (q1, .inl (c1, 8, .inl (fun _ => 0))), (q2, .inl (c2, 8, .inl (fun _ => 0))), (q3, .inl (c3, 8, .inl (fun _ => 0))), (q4, .inl (c4, 8, .inl (fun _ => 0)))]) (fun _ _ => rfl) (fun c4 => [(c0, .int), (c1, .int), (c2, .int), (c3, .int), (c4, .int)]) (fun _ => rfl) 5 34 rfl rfl (fun q4 c4 => ?_)
  refine kb_putF h iX3 tyX3 tyX3_ok nmX3 0 rfl rfl 5 (by decide) lkX3_28 rfl rfl rfl rfl rfl (Nat.le_of_ble_eq_true rfl) dX3_init_55 [(h0, .inr (3, [.int 0, .ref q0, .ref q1, .ref q2, .ref q3, .ref q4])), (q0, .inl (c0, 2, .inl (upd (upd (fun _ => 0) 0 15) 1 15))), (q1, .inl (c1, 8, .inl (fun _ => 0))), (q2, .inl (c2, 8, .inl (fun _ => 0))), (q3, .inl (c3, 8, .inl (fun _ => 0))), (q4, .inl (c4, 8, .inl (fun _ => 0)))] rfl ?_
  exact kb_ret h he (fun k => [q0, q1, q2, q3, q4].getD k 0, fun k => [c0, c1, c2, c3, c4].getD k 0) rfl rfl rfl rfl dX3_init_58
theorem lpX4 {x : Cx} {D : va_G} {A : Nat → Prop} {h0 q0 q1 q2 : Nat} {c0 c1 c2 : ClassId} {WW : Uc → va_W} {TT : Uc → List (ClassId × FieldType)} (h : okBd x A cX4_init RX4 2 3 46) (he : okEd x D A WW TT 3 46) (u : Uc) (h1 : [(h0, .inr (4, [.ref q0, .ref q1, .ref q2])), (q0, .inl (c0, 20, .inl (fillF 10 20))), (q1, .inl (c1, 6, .inl (fun _ => 0))), (q2, .inl (c2, 20, .inl (fun _ => 0)))] = WW u) (h2 : [(c0, .int), (c1, .int), (c2, .int)] = TT u) : ∀ (n i : Nat) (f : Nat → Int32), i ≤ 20 → 20 - i < n → f = fillF 10 i → KB x D A 2 30 [(1, .int (nI i)), (0, .ref h0)] [] [(h0, .inr (4, [.ref q0, .ref q1, .ref q2])), (q0, .inl (c0, 20, .inl f)), (q1, .inl (c1, 6, .inl (fun _ => 0))), (q2, .inl (c2, 20, .inl (fun _ => 0)))] [(c0, .int), (c1, .int), (c2, .int)] 3 46
  | 0, i, f, a1, a2, a3 => absurd a2 (Nat.not_lt_zero _)
  | n + 1, i, f, a1, a2, a3 => by
    subst a3
    refine kb_iload_n h 0 dX4_init_30 rfl ?_
    refine kb_bipush h 20 dX4_init_31 (by decide) ?_
    refine kb_ge h dX4_init_33 (tgt := 50) (by decide) (fun q => ?_) (fun q => ?_)
    · have e : i = 20 := by
        have := (nI_leI (a := 20) (b := i) (by omega) (by omega)).mp q
        omega
      subst e
      exact kb_ret h he u h1 h2 rfl rfl dX4_init_50
    · have e : i < 20 := by
        rcases Nat.lt_or_ge i 20 with w | w
        · exact w
        · exact absurd (nI_le (a := 20) w (by omega)) q
      refine kb_aload_n h 1 dX4_init_36 rfl ?_
      refine kb_get h iX4 0 rfl rfl 0 (by decide) lkX4_9 (.ref q0) rfl dX4_init_37 ?_
      refine kb_iload_n h 0 dX4_init_40 rfl ?_
      refine kb_bipush h 10 dX4_init_41 (by decide) ?_
      refine kb_iast h 1 0 rfl rfl (inN e (by decide)) dX4_init_43 _ (by rw [ixN (show i < 2 ^ 31 by omega), fillF_s]) ?_
      refine kb_iinc h [(1, .int (nI (i + 1))), (0, .ref h0)] dX4_init_44 (k := 0) rfl (nI_add i 1) (by decide) rfl ?_
      refine kb_goto h dX4_init_47 (tgt := 30) (by decide) ?_
      exact lpX4 h he u h1 h2 n (i + 1) _ (by omega) (by omega) rfl
theorem lpX5 {x : Cx} {D : va_G} {A : Nat → Prop} {h0 q0 : Nat} {c0 : ClassId} {v1 v2 : Int32} {WW : Uc → va_W} {TT : Uc → List (ClassId × FieldType)} (h : okBd x A cX5_init RX5 4 1 1001) (he : okEd x D A WW TT 1 1001) (u : Uc) (h1 : [(h0, .inr (5, [.int v2, .int v1, .ref q0])), (q0, .inl (c0, 1001, .inl (fillF (-1) 1001)))] = WW u) (h2 : [(c0, .int)] = TT u) : ∀ (n i : Nat) (f : Nat → Int32), i ≤ 1001 → 1001 - i < n → f = fillF (-1) i → KB x D A 4 25 [(3, .int (nI i)), (0, .ref h0), (1, .int v1), (2, .int v2)] [] [(h0, .inr (5, [.int v2, .int v1, .ref q0])), (q0, .inl (c0, 1001, .inl f))] [(c0, .int)] 1 1001
  | 0, i, f, a1, a2, a3 => absurd a2 (Nat.not_lt_zero _)
  | n + 1, i, f, a1, a2, a3 => by
    subst a3
    refine kb_iload_n h 0 dX5_init_25 rfl ?_
    refine kb_sipush h 1000 dX5_init_26 (by decide) ?_
    refine kb_gt h dX5_init_29 (tgt := 45) (by decide) (fun q => ?_) (fun q => ?_)
    · have e : i = 1001 := by
        have := (nI_ltI (a := 1000) (b := i) (by omega) (by omega)).mp q
        omega
      subst e
      exact kb_ret h he u h1 h2 rfl rfl dX5_init_45
    · have e : i < 1001 := by
        rcases Nat.lt_or_ge i 1001 with w | w
        · exact w
        · exact absurd (nI_lt (a := 1000) w (by omega)) q
      refine kb_aload_n h 1 dX5_init_32 rfl ?_
      refine kb_get h iX5 0 rfl rfl 2 (by decide) lkX5_9 (.ref q0) rfl dX5_init_33 ?_
      refine kb_iload_n h 0 dX5_init_36 rfl ?_
      refine kb_iconst h (-1) dX5_init_37 (by decide) ?_
      refine kb_iast h 1 0 rfl rfl (inN e (by decide)) dX5_init_38 _ (by rw [ixN (show i < 2 ^ 31 by omega), fillF_s]) ?_
      refine kb_iinc h [(3, .int (nI (i + 1))), (0, .ref h0), (1, .int v1), (2, .int v2)] dX5_init_39 (k := 0) rfl (nI_add i 1) (by decide) rfl ?_
      refine kb_goto h dX5_init_42 (tgt := 25) (by decide) ?_
      exact lpX5 h he u h1 h2 n (i + 1) _ (by omega) (by omega) rfl
theorem kcX4 (l : Launch) (D : va_G) (h0 : Nat) : KCon l D yX4_init cX4_init 2 { frames := 1, cells := 3, slots := 46, locals := 33 } h0 [] (.inr (4, [.null, .null, .null])) (fun u => [(h0, .inr (4, [.ref (u.1 0), .ref (u.1 1), .ref (u.1 2)])), (u.1 0, .inl (u.2 0, 20, .inl (fillF 10 20))), (u.1 1, .inl (u.2 1, 6, .inl (fun _ => 0))), (u.1 2, .inl (u.2 2, 20, .inl (fun _ => 0)))]) (fun u => [(u.2 0, .int), (u.2 1, .int), (u.2 2, .int)]) 3 46 := by
  refine KCon.of (by decide) rfl (Nat.le_of_ble_eq_true rfl) ⟨by decide, by decide, by decide, by decide⟩ ?_
  intro x A hxl h he
  refine kb_aload_n h 0 dX4_init_0 rfl ?_
  refine kb_oinit h mlX4_3 (by decide) dX4_init_1 ?_
  refine kb_aload_n h 0 dX4_init_4 rfl ?_
  refine kb_bipush h 20 dX4_init_5 (by decide) ?_
  refine kb_newa h acI rfl 20 (20, .inl (fun _ => 0)) (a0I 20) (by decide) (by decide) (by decide) (by decide) (by decide) dX4_init_7 (fun q0 c0 => [(h0, .inr (4, [.null, .null, .null])), (q0, .inl (c0, 20, .inl (fun _ => 0)))]) (fun _ _ => rfl) (fun c0 => [(c0, .int)]) (fun _ => rfl) 1 20 rfl rfl (fun q0 c0 => ?_)
  refine kb_putF h iX4 tyX4 tyX4_ok nmX4 0 rfl rfl 0 (by decide) lkX4_9 rfl rfl rfl rfl rfl (Nat.le_of_ble_eq_true rfl) dX4_init_9 [(h0, .inr (4, [.ref q0, .null, .null])), (q0, .inl (c0, 20, .inl (fun _ => 0)))] rfl ?_
  refine kb_aload_n h 0 dX4_init_12 rfl ?_
  refine kb_bipush h 6 dX4_init_13 (by decide) ?_
  refine kb_newa h acI rfl 6 (6, .inl (fun _ => 0)) (a0I 6) (by decide) (by decide) (by decide) (by decide) (by decide) dX4_init_15 (fun q1 c1 => [(h0, .inr (4, [.ref q0, .null, .null])), (q0, .inl (c0, 20, .inl (fun _ => 0))), (q1, .inl (c1, 6, .inl (fun _ => 0)))]) (fun _ _ => rfl) (fun c1 => [(c0, .int), (c1, .int)]) (fun _ => rfl) 2 26 rfl rfl (fun q1 c1 => ?_)
  refine kb_putF h iX4 tyX4 tyX4_ok nmX4 0 rfl rfl 1 (by decide) lkX4_15 rfl rfl rfl rfl rfl (Nat.le_of_ble_eq_true rfl) dX4_init_17 [(h0, .inr (4, [.ref q0, .ref q1, .null])), (q0, .inl (c0, 20, .inl (fun _ => 0))), (q1, .inl (c1, 6, .inl (fun _ => 0)))] rfl ?_
  refine kb_aload_n h 0 dX4_init_20 rfl ?_
  refine kb_bipush h 20 dX4_init_21 (by decide) ?_
  refine kb_newa h acI rfl 20 (20, .inl (fun _ => 0)) (a0I 20) (by decide) (by decide) (by decide) (by decide) (by decide) dX4_init_23 (fun q2 c2 => [(h0, .inr (4, [.ref q0, .ref q1, .null])), (q0, .inl (c0, 20, .inl (fun _ => 0))), (q1, .inl (c1, 6, .inl (fun _ => 0))), (q2, .inl (c2, 20, .inl (fun _ => 0)))]) (fun _ _ => rfl) (fun c2 => [(c0, .int), (c1, .int), (c2, .int)]) (fun _ => rfl) 3 46 rfl rfl (fun q2 c2 => ?_)
  refine kb_putF h iX4 tyX4 tyX4_ok nmX4 0 rfl rfl 2 (by decide) lkX4_18 rfl rfl rfl rfl rfl (Nat.le_of_ble_eq_true rfl) dX4_init_25 [(h0, .inr (4, [.ref q0, .ref q1, .ref q2])), (q0, .inl (c0, 20, .inl (fun _ => 0))), (q1, .inl (c1, 6, .inl (fun _ => 0))), (q2, .inl (c2, 20, .inl (fun _ => 0)))] rfl ?_
  refine kb_iconst h 0 dX4_init_28 (by decide) ?_
  refine kb_istore_n h [(1, .int (nI 0)), (0, .ref h0)] dX4_init_29 rfl (by decide) rfl ?_
  exact lpX4 h he (fun k => [q0, q1, q2].getD k 0, fun k => [c0, c1, c2].getD k 0) rfl rfl 21 0 _ (by omega) (by omega) (fillF_0 10)
theorem kcX5 (l : Launch) (D : va_G) (h0 : Nat) (v1 v2 : Int32) : KCon l D yX5_init cX5_init 4 { frames := 1, cells := 1, slots := 1001, locals := 33 } h0 [.int v1, .int v2] (.inr (5, [.int 0, .int 0, .null])) (fun u => [(h0, .inr (5, [.int v2, .int v1, .ref (u.1 0)])), (u.1 0, .inl (u.2 0, 1001, .inl (fillF (-1) 1001)))]) (fun u => [(u.2 0, .int)]) 1 1001 := by
  refine KCon.of (by decide) rfl (Nat.le_of_ble_eq_true rfl) ⟨by decide, by decide, by decide, by decide⟩ ?_
  intro x A hxl h he
  refine kb_aload_n h 0 dX5_init_0 rfl ?_
  refine kb_oinit h mlX5_3 (by decide) dX5_init_1 ?_
  refine kb_aload_n h 0 dX5_init_4 rfl ?_
  refine kb_sipush h 1001 dX5_init_5 (by decide) ?_
  refine kb_newa h acI rfl 1001 (1001, .inl (fun _ => 0)) (a0I 1001) (by decide) (by decide) (by decide) (by decide) (by decide) dX5_init_8 (fun q0 c0 => [(h0, .inr (5, [.int 0, .int 0, .null])), (q0, .inl (c0, 1001, .inl (fun _ => 0)))]) (fun _ _ => rfl) (fun c0 => [(c0, .int)]) (fun _ => rfl) 1 1001 rfl rfl (fun q0 c0 => ?_)
  refine kb_putF h iX5 tyX5 tyX5_ok nmX5 0 rfl rfl 2 (by decide) lkX5_9 rfl rfl rfl rfl rfl (Nat.le_of_ble_eq_true rfl) dX5_init_10 [(h0, .inr (5, [.int 0, .int 0, .ref q0])), (q0, .inl (c0, 1001, .inl (fun _ => 0)))] rfl ?_
  refine kb_aload_n h 0 dX5_init_13 rfl ?_
  refine kb_iload_n h 1 dX5_init_14 rfl ?_
  refine kb_putF h iX5 tyX5 tyX5_ok nmX5 0 rfl rfl 1 (by decide) lkX5_15 rfl rfl rfl rfl rfl (Nat.le_of_ble_eq_true rfl) dX5_init_15 [(h0, .inr (5, [.int 0, .int v1, .ref q0])), (q0, .inl (c0, 1001, .inl (fun _ => 0)))] rfl ?_
  refine kb_aload_n h 0 dX5_init_18 rfl ?_
  refine kb_iload_n h 2 dX5_init_19 rfl ?_
  refine kb_putF h iX5 tyX5 tyX5_ok nmX5 0 rfl rfl 0 (by decide) lkX5_19 rfl rfl rfl rfl rfl (Nat.le_of_ble_eq_true rfl) dX5_init_20 [(h0, .inr (5, [.int v2, .int v1, .ref q0])), (q0, .inl (c0, 1001, .inl (fun _ => 0)))] rfl ?_
  refine kb_iconst h 0 dX5_init_23 (by decide) ?_
  refine kb_istore_n h [(3, .int (nI 0)), (0, .ref h0), (1, .int v1), (2, .int v2)] dX5_init_24 rfl (by decide) rfl ?_
  exact lpX5 h he (fun k => [q0].getD k 0, fun k => [c0].getD k 0) rfl rfl 1002 0 _ (by omega) (by omega) (fillF_0 (-1))
