set_option maxHeartbeats 4000000 in
set_option maxRecDepth 100000 in
theorem kX9_passDay (l : Launch) (z : Lay) (M : Mem)  (r : Mem) (h : xX9_passDay M = some r) : Con l z yX9_passDay cX9_passDay 1 (none) 2 [.ref (z.2.1 0)] M (none) r := by
  refine Con.of (by decide) (Nat.le_of_ble_eq_true rfl) ?_
  intro x hl hc
  subst hl
  have hk : okc x z cX9_passDay RX9 1 2 := hc.1
  show G x z 1 0 [(0, .ref (z.2.1 0))] [] M
  unfold xX9_passDay at h
  refine g_aload_n hk 0 dX9_passDay_0 rfl ?_
  refine gfX9_38 hk dX9_passDay_1 ?_
  refine g_aload_n hk 0 dX9_passDay_4 rfl ?_
  refine gfX9_28 hk dX9_passDay_5 ?_
  refine g_aload_n hk 0 dX9_passDay_8 rfl ?_
  refine gfX9_7 hk dX9_passDay_9 (M.1 0 0) rfl ?_
  obtain ⟨r1, hr1, h⟩ := bnd h
  refine g_callVi hk [.int (M.1 0 0)] _ sh4 rfl mtX5_counted mlX9_119 (by decide) (by decide) rfl rfl (Nat.le_of_ble_eq_true rfl) dX9_passDay_12 (kX5_counted _ z M (Or.inl rfl : okR 4) (M.1 0 0) r1 hr1) ?_
  refine g_aload_n hk 0 dX9_passDay_15 rfl ?_
  refine gfX9_32 hk dX9_passDay_16 ?_
  refine g_aload_n hk 0 dX9_passDay_19 rfl ?_
  refine gfX9_7 hk dX9_passDay_20 (M.1 0 0) rfl ?_
  obtain ⟨r2, hr2, h⟩ := bnd h
  refine g_callVi hk [.int (M.1 0 0)] _ sh6 rfl mtX5_counted mlX9_119 (by decide) (by decide) rfl rfl (Nat.le_of_ble_eq_true rfl) dX9_passDay_23 (kX5_counted _ z M (Or.inr rfl : okR 6) (M.1 0 0) r2 hr2) ?_
  refine g_aload_n hk 0 dX9_passDay_26 rfl ?_
  refine gfX9_20 hk dX9_passDay_27 ?_
  obtain ⟨r3, hr3, h⟩ := bnd h
  refine g_callVv hk [.int r1, .int r2, .ref (z.2.1 3)] _ sh8 rfl mtX1_grow mlX9_344 (by decide) (by decide) rfl rfl (Nat.le_of_ble_eq_true rfl) dX9_passDay_30 (kX1_grow _ z M r1 r2 r3 hr3) ?_
  refine g_aload_n hk 0 dX9_passDay_33 rfl ?_
  refine gfX9_52 hk dX9_passDay_34 ?_
  refine g_aload_n hk 0 dX9_passDay_37 rfl ?_
  refine gfX9_17 hk dX9_passDay_38 ?_
  refine g_iconst hk 0 dX9_passDay_41 (by decide) ?_
  refine g_iald hk sh2 dX9_passDay_42 (by decide) (r3.1 2 0) rfl ?_
  obtain ⟨r4, hr4, h⟩ := bnd h
  refine g_callVv hk [.int (r3.1 2 0)] _ sh24 rfl mtX7_passDay mlX9_348 (by decide) (by decide) rfl rfl (Nat.le_of_ble_eq_true rfl) dX9_passDay_43 (kX7_passDay _ z r3 (r3.1 2 0) r4 hr4) ?_
  refine g_aload_n hk 0 dX9_passDay_46 rfl ?_
  refine g_dup hk dX9_passDay_47 rfl ?_
  refine gfX9_7 hk dX9_passDay_48 (r4.1 0 0) rfl ?_
  refine g_iconst hk 1 dX9_passDay_51 (by decide) ?_
  refine g_iadd hk dX9_passDay_52 ?_
  refine pfX9_7 hk dX9_passDay_53 ?_
  exact g_vret (mem := fun q => q) hc rfl dX9_passDay_56 h retv
set_option maxHeartbeats 4000000 in
set_option maxRecDepth 100000 in
theorem glX9_days_33 {x : Cx} {z : Lay} {r : Int32 × Mem} (hc : okm x z cX9_days RX9 3 3 (some .int) (some (.int r.1)) r.2)  : ∀ (n : Nat) (M : Mem) (v1 : Int32) (v2 : Int32), lX9_days_33  n M v1 v2 = some r → G x z 3 33 [(0, .ref (z.2.1 0)), (1, .int v1), (2, .int v2)] [] M := by
  have hk := hc.1
  intro n
  induction n with
  | zero => intro _ _ _ h; rw [lX9_days_33] at h; cases h
  | succ n ih =>
    intro M v1 v2 h
    rw [lX9_days_33] at h
    refine g_iload_n hk 2 dX9_days_33 rfl ?_
    refine g_iload_n hk 1 dX9_days_34 rfl ?_
    refine g_icmpge hk (tgt := 48) dX9_days_35 (by decide) h (fun h => ?_) (fun h => ?_)
    · refine g_aload_n hk 0 dX9_days_48 rfl ?_
      refine gfX9_7 hk dX9_days_49 (M.1 0 0) rfl ?_
      exact g_iret (val := fun q => q.1) (mem := fun q => q.2) hc rfl dX9_days_52 h ret2
    · refine g_aload_n hk 0 dX9_days_38 rfl ?_
      obtain ⟨r1, hr1, h⟩ := bnd h
      refine g_callVv hk [] _ sh0 rfl mtX9_passDay mlX9_206 (by decide) (by decide) rfl rfl (Nat.le_of_ble_eq_true rfl) dX9_days_39 (kX9_passDay _ z M  r1 hr1) ?_
      refine g_iinc (k := 2) hk [(2, .int (v2 + 1)), (0, .ref (z.2.1 0)), (1, .int v1)] dX9_days_42 rfl rfl (by decide) rfl ?_
      refine g_goto hk (tgt := 33) dX9_days_45 (by decide) ?_
      exact g_weak [1, 2, 0] [(0, .ref (z.2.1 0)), (1, .int v1), (2, .int (v2 + 1))] rfl (ih r1 v1 (v2 + 1) h)
set_option maxHeartbeats 4000000 in
set_option maxRecDepth 100000 in
theorem kX9_days (l : Launch) (z : Lay) (M : Mem) (v1 : Int32) (r : Int32 × Mem) (h : xX9_days M v1 = some r) : Con l z yX9_days cX9_days 3 (some .int) 3 [.ref (z.2.1 0), .int v1] M (some (.int r.1)) r.2 := by
  refine Con.of (by decide) (Nat.le_of_ble_eq_true rfl) ?_
  intro x hl hc
  subst hl
  have hk : okc x z cX9_days RX9 3 3 := hc.1
  show G x z 3 0 [(0, .ref (z.2.1 0)), (1, .int v1)] [] M
  unfold xX9_days at h
  refine g_iload_n hk 1 dX9_days_0 rfl ?_
  refine g_iconst hk 1 dX9_days_1 (by decide) ?_
  refine g_icmpge hk (tgt := 12) dX9_days_2 (by decide) h (fun h => ?_) (fun h => ?_)
  · refine g_iload_n hk 1 dX9_days_12 rfl ?_
    refine g_sipush hk 1000 dX9_days_13 (by decide) ?_
    refine g_aload_n hk 0 dX9_days_16 rfl ?_
    refine gfX9_7 hk dX9_days_17 (M.1 0 0) rfl ?_
    refine g_isub hk dX9_days_20 ?_
    refine g_icmple hk (tgt := 31) dX9_days_21 (by decide) h (fun h => ?_) (fun h => ?_)
    · refine g_iconst hk 0 dX9_days_31 (by decide) ?_
      refine g_istore_n hk [(2, .int 0), (0, .ref (z.2.1 0)), (1, .int v1)] dX9_days_32 rfl (by decide) rfl ?_
      exact g_weak [1, 2, 0] [(0, .ref (z.2.1 0)), (1, .int v1), (2, .int 0)] rfl (glX9_days_33 hc  fu M v1 0 h)
    · refine g_aload_n hk 0 dX9_days_24 rfl ?_
      refine g_bipush hk (-6) dX9_days_25 (by decide) ?_
      obtain ⟨r1, hr1, h⟩ := bnd h
      refine g_callVi hk [.int (-6)] _ sh0 rfl mtX9_refuse mlX9_116 (by decide) (by decide) rfl rfl (Nat.le_of_ble_eq_true rfl) dX9_days_27 (kX9_refuse _ z M (-6) r1 hr1) ?_
      exact g_iret (val := fun q => q.1) (mem := fun q => q.2) hc rfl dX9_days_30 h ret2
  · refine g_aload_n hk 0 dX9_days_5 rfl ?_
    refine g_bipush hk (-4) dX9_days_6 (by decide) ?_
    obtain ⟨r2, hr2, h⟩ := bnd h
    refine g_callVi hk [.int (-4)] _ sh0 rfl mtX9_refuse mlX9_116 (by decide) (by decide) rfl rfl (Nat.le_of_ble_eq_true rfl) dX9_days_8 (kX9_refuse _ z M (-4) r2 hr2) ?_
    exact g_iret (val := fun q => q.1) (mem := fun q => q.2) hc rfl dX9_days_11 h ret2
set_option maxHeartbeats 4000000 in
set_option maxRecDepth 100000 in
theorem kX9_train (l : Launch) (z : Lay) (M : Mem) (v1 : Int32) (v2 : Int32) (r : Int32 × Mem) (h : xX9_train M v1 v2 = some r) : Con l z yX9_train cX9_train 3 (some .int) 1 [.ref (z.2.1 0), .int v1, .int v2] M (some (.int r.1)) r.2 := by
  refine Con.of (by decide) (Nat.le_of_ble_eq_true rfl) ?_
  intro x hl hc
  subst hl
  have hk : okc x z cX9_train RX9 3 1 := hc.1
  show G x z 3 0 [(0, .ref (z.2.1 0)), (1, .int v1), (2, .int v2)] [] M
  unfold xX9_train at h
  refine g_iload_n hk 1 dX9_train_0 rfl ?_
  refine g_iflt hk (tgt := 9) dX9_train_1 (by decide) h (fun h => ?_) (fun h => ?_)
  · refine g_aload_n hk 0 dX9_train_9 rfl ?_
    refine g_bipush hk (-4) dX9_train_10 (by decide) ?_
    obtain ⟨r1, hr1, h⟩ := bnd h
    refine g_callVi hk [.int (-4)] _ sh0 rfl mtX9_refuse mlX9_116 (by decide) (by decide) rfl rfl (Nat.le_of_ble_eq_true rfl) dX9_train_12 (kX9_refuse _ z M (-4) r1 hr1) ?_
    exact g_iret (val := fun q => q.1) (mem := fun q => q.2) hc rfl dX9_train_15 h ret2
  · refine g_iload_n hk 2 dX9_train_4 rfl ?_
    refine g_iconst hk 1 dX9_train_5 (by decide) ?_
    refine g_icmpge hk (tgt := 16) dX9_train_6 (by decide) h (fun h => ?_) (fun h => ?_)
    · refine g_iload_n hk 1 dX9_train_16 rfl ?_
      refine g_sipush hk 1439 dX9_train_17 (by decide) ?_
      refine g_icmpgt hk (tgt := 41) dX9_train_20 (by decide) h (fun h => ?_) (fun h => ?_)
      · refine g_aload_n hk 0 dX9_train_41 rfl ?_
        refine g_bipush hk (-6) dX9_train_42 (by decide) ?_
        obtain ⟨r2, hr2, h⟩ := bnd h
        refine g_callVi hk [.int (-6)] _ sh0 rfl mtX9_refuse mlX9_116 (by decide) (by decide) rfl rfl (Nat.le_of_ble_eq_true rfl) dX9_train_44 (kX9_refuse _ z M (-6) r2 hr2) ?_
        exact g_iret (val := fun q => q.1) (mem := fun q => q.2) hc rfl dX9_train_47 h ret2
      · refine g_iload_n hk 2 dX9_train_23 rfl ?_
        refine g_bipush hk 9 dX9_train_24 (by decide) ?_
        refine g_icmpgt hk (tgt := 41) dX9_train_26 (by decide) h (fun h => ?_) (fun h => ?_)
        · refine g_aload_n hk 0 dX9_train_41 rfl ?_
          refine g_bipush hk (-6) dX9_train_42 (by decide) ?_
          obtain ⟨r3, hr3, h⟩ := bnd h
          refine g_callVi hk [.int (-6)] _ sh0 rfl mtX9_refuse mlX9_116 (by decide) (by decide) rfl rfl (Nat.le_of_ble_eq_true rfl) dX9_train_44 (kX9_refuse _ z M (-6) r3 hr3) ?_
          exact g_iret (val := fun q => q.1) (mem := fun q => q.2) hc rfl dX9_train_47 h ret2
        · refine g_aload_n hk 0 dX9_train_29 rfl ?_
          refine gfX9_59 hk dX9_train_30 ?_
          refine gfX9_209 hk dX9_train_33 (M.1 26 0) rfl ?_
          refine g_bipush hk 24 dX9_train_36 (by decide) ?_
          refine g_icmplt hk (tgt := 48) dX9_train_38 (by decide) h (fun h => ?_) (fun h => ?_)
          · refine g_aload_n hk 0 dX9_train_48 rfl ?_
            refine gfX9_59 hk dX9_train_49 ?_
            refine g_iload_n hk 1 dX9_train_52 rfl ?_
            refine g_iload_n hk 2 dX9_train_53 rfl ?_
            obtain ⟨r4, hr4, h⟩ := bnd h
            refine g_callVi hk [.int v1, .int v2] _ sh26 rfl mtX8_add mlX9_210 (by decide) (by decide) rfl rfl (Nat.le_of_ble_eq_true rfl) dX9_train_54 (kX8_add _ z M v1 v2 r4 hr4) ?_
            exact g_iret (val := fun q => q.1) (mem := fun q => q.2) hc rfl dX9_train_57 h ret2
          · refine g_aload_n hk 0 dX9_train_41 rfl ?_
            refine g_bipush hk (-6) dX9_train_42 (by decide) ?_
            obtain ⟨r5, hr5, h⟩ := bnd h
            refine g_callVi hk [.int (-6)] _ sh0 rfl mtX9_refuse mlX9_116 (by decide) (by decide) rfl rfl (Nat.le_of_ble_eq_true rfl) dX9_train_44 (kX9_refuse _ z M (-6) r5 hr5) ?_
            exact g_iret (val := fun q => q.1) (mem := fun q => q.2) hc rfl dX9_train_47 h ret2
    · refine g_aload_n hk 0 dX9_train_9 rfl ?_
      refine g_bipush hk (-4) dX9_train_10 (by decide) ?_
      obtain ⟨r6, hr6, h⟩ := bnd h
      refine g_callVi hk [.int (-4)] _ sh0 rfl mtX9_refuse mlX9_116 (by decide) (by decide) rfl rfl (Nat.le_of_ble_eq_true rfl) dX9_train_12 (kX9_refuse _ z M (-4) r6 hr6) ?_
      exact g_iret (val := fun q => q.1) (mem := fun q => q.2) hc rfl dX9_train_15 h ret2
set_option maxHeartbeats 4000000 in
set_option maxRecDepth 100000 in
theorem kX9_isRange (l : Launch) (z : Lay) (M : Mem) (v0 : Int32) (v1 : Int32) (r : Int32) (h : xX9_isRange v0 v1 = some r) : Con l z yX9_isRange cX9_isRange 2 (some .boolean) 1 [.int v0, .int v1] M (some (.int r)) M := by
  refine Con.of (by decide) (Nat.le_of_ble_eq_true rfl) ?_
  intro x hl hc
  subst hl
  have hk : okc x z cX9_isRange RX9 2 1 := hc.1
  show G x z 2 0 [(0, .int v0), (1, .int v1)] [] M
  unfold xX9_isRange at h
  refine g_iload_n hk 0 dX9_isRange_0 rfl ?_
  obtain ⟨r1, hr1, h⟩ := bnd h
  refine g_callSi hk [.int v0] _ mtX9_isMile mlX9_125 (by decide) (by decide) rfl rfl (Nat.le_of_ble_eq_true rfl) dX9_isRange_1 (kX9_isMile _ z M v0 r1 hr1) ?_
  refine g_ifeq hk (tgt := 23) dX9_isRange_4 (by decide) h (fun h => ?_) (fun h => ?_)
  · refine g_iconst hk 0 dX9_isRange_23 (by decide) ?_
    exact g_zret (val := fun q => q) (mem := fun _ => M) hc rfl dX9_isRange_24 h ret1 (by decide)
  · refine g_iload_n hk 1 dX9_isRange_7 rfl ?_
    obtain ⟨r2, hr2, h⟩ := bnd h
    refine g_callSi hk [.int v1] _ mtX9_isMile mlX9_125 (by decide) (by decide) rfl rfl (Nat.le_of_ble_eq_true rfl) dX9_isRange_8 (kX9_isMile _ z M v1 r2 hr2) ?_
    refine g_ifeq hk (tgt := 23) dX9_isRange_11 (by decide) h (fun h => ?_) (fun h => ?_)
    · refine g_iconst hk 0 dX9_isRange_23 (by decide) ?_
      exact g_zret (val := fun q => q) (mem := fun _ => M) hc rfl dX9_isRange_24 h ret1 (by decide)
    · refine g_iload_n hk 0 dX9_isRange_14 rfl ?_
      refine g_iload_n hk 1 dX9_isRange_15 rfl ?_
      refine g_icmpgt hk (tgt := 23) dX9_isRange_16 (by decide) h (fun h => ?_) (fun h => ?_)
      · refine g_iconst hk 0 dX9_isRange_23 (by decide) ?_
        exact g_zret (val := fun q => q) (mem := fun _ => M) hc rfl dX9_isRange_24 h ret1 (by decide)
      · refine g_iconst hk 1 dX9_isRange_19 (by decide) ?_
        refine g_goto hk (tgt := 24) dX9_isRange_20 (by decide) ?_
        exact g_zret (val := fun q => q) (mem := fun _ => M) hc rfl dX9_isRange_24 h ret1 (by decide)
set_option maxHeartbeats 4000000 in
set_option maxRecDepth 100000 in
theorem kX9_refusalOfWalk (l : Launch) (z : Lay) (M : Mem) (v0 : Int32) (v1 : Int32) (v2 : Int32) (r : Int32) (h : xX9_refusalOfWalk v0 v1 v2 = some r) : Con l z yX9_refusalOfWalk cX9_refusalOfWalk 3 (some .int) 2 [.int v0, .int v1, .int v2] M (some (.int r)) M := by
  refine Con.of (by decide) (Nat.le_of_ble_eq_true rfl) ?_
  intro x hl hc
  subst hl
  have hk : okc x z cX9_refusalOfWalk RX9 3 2 := hc.1
  show G x z 3 0 [(0, .int v0), (1, .int v1), (2, .int v2)] [] M
  unfold xX9_refusalOfWalk at h
  refine g_iload_n hk 0 dX9_refusalOfWalk_0 rfl ?_
  refine g_iload_n hk 1 dX9_refusalOfWalk_1 rfl ?_
  obtain ⟨r1, hr1, h⟩ := bnd h
  refine g_callSi hk [.int v0, .int v1] _ mtX9_isRange mlX9_222 (by decide) (by decide) rfl rfl (Nat.le_of_ble_eq_true rfl) dX9_refusalOfWalk_2 (kX9_isRange _ z M v0 v1 r1 hr1) ?_
  refine g_ifne hk (tgt := 10) dX9_refusalOfWalk_5 (by decide) h (fun h => ?_) (fun h => ?_)
  · refine g_iload_n hk 2 dX9_refusalOfWalk_10 rfl ?_
    refine g_ifge hk (tgt := 17) dX9_refusalOfWalk_11 (by decide) h (fun h => ?_) (fun h => ?_)
    · refine g_iload_n hk 2 dX9_refusalOfWalk_17 rfl ?_
      refine g_sipush hk 1440 dX9_refusalOfWalk_18 (by decide) ?_
      refine g_icmpge hk (tgt := 28) dX9_refusalOfWalk_21 (by decide) h (fun h => ?_) (fun h => ?_)
      · refine g_bipush hk (-6) dX9_refusalOfWalk_28 (by decide) ?_
        exact g_iret (val := fun q => q) (mem := fun _ => M) hc rfl dX9_refusalOfWalk_30 h ret1
      · refine g_iconst hk 0 dX9_refusalOfWalk_24 (by decide) ?_
        refine g_goto hk (tgt := 30) dX9_refusalOfWalk_25 (by decide) ?_
        exact g_iret (val := fun q => q) (mem := fun _ => M) hc rfl dX9_refusalOfWalk_30 h ret1
    · refine g_bipush hk (-4) dX9_refusalOfWalk_14 (by decide) ?_
      exact g_iret (val := fun q => q) (mem := fun _ => M) hc rfl dX9_refusalOfWalk_16 h ret1
  · refine g_iconst hk (-1) dX9_refusalOfWalk_8 (by decide) ?_
    exact g_iret (val := fun q => q) (mem := fun _ => M) hc rfl dX9_refusalOfWalk_9 h ret1
set_option maxHeartbeats 4000000 in
set_option maxRecDepth 100000 in
theorem kX9_safe (l : Launch) (z : Lay) (M : Mem) (v1 : Int32) (v2 : Int32) (v3 : Int32) (r : Int32 × Mem) (h : xX9_safe M v1 v2 v3 = some r) : Con l z yX9_safe cX9_safe 5 (some .int) 3 [.ref (z.2.1 0), .int v1, .int v2, .int v3] M (some (.int r.1)) r.2 := by
  refine Con.of (by decide) (Nat.le_of_ble_eq_true rfl) ?_
  intro x hl hc
  subst hl
  have hk : okc x z cX9_safe RX9 5 3 := hc.1
  show G x z 5 0 [(0, .ref (z.2.1 0)), (1, .int v1), (2, .int v2), (3, .int v3)] [] M
  unfold xX9_safe at h
  refine g_iload_n hk 1 dX9_safe_0 rfl ?_
  refine g_iload_n hk 2 dX9_safe_1 rfl ?_
  refine g_iload_n hk 3 dX9_safe_2 rfl ?_
  obtain ⟨r1, hr1, h⟩ := bnd h
  refine g_callSi hk [.int v1, .int v2, .int v3] _ mtX9_refusalOfWalk mlX9_212 (by decide) (by decide) rfl rfl (Nat.le_of_ble_eq_true rfl) dX9_safe_3 (kX9_refusalOfWalk _ z M v1 v2 v3 r1 hr1) ?_
  refine g_istore hk [(4, .int r1), (0, .ref (z.2.1 0)), (1, .int v1), (2, .int v2), (3, .int v3)] dX9_safe_6 (by decide) rfl ?_
  refine g_iload hk 0 dX9_safe_8 rfl ?_
  refine g_ifeq hk (tgt := 20) dX9_safe_10 (by decide) h (fun h => ?_) (fun h => ?_)
  · refine g_aload_n hk 1 dX9_safe_20 rfl ?_
    refine gfX9_59 hk dX9_safe_21 ?_
    refine g_iload_n hk 2 dX9_safe_24 rfl ?_
    refine g_iload_n hk 3 dX9_safe_25 rfl ?_
    refine g_iload_n hk 4 dX9_safe_26 rfl ?_
    refine g_aload_n hk 1 dX9_safe_27 rfl ?_
    refine gfX9_17 hk dX9_safe_28 ?_
    refine g_iconst hk 1 dX9_safe_31 (by decide) ?_
    refine g_iald hk sh2 dX9_safe_32 (by decide) (M.1 2 1) rfl ?_
    obtain ⟨r2, hr2, h⟩ := bnd h
    refine g_callVi hk [.int v1, .int v2, .int v3, .int (M.1 2 1)] _ sh26 rfl mtX8_clearFrom mlX9_216 (by decide) (by decide) rfl rfl (Nat.le_of_ble_eq_true rfl) dX9_safe_33 (kX8_clearFrom _ z M v1 v2 v3 (M.1 2 1) r2 hr2) ?_
    refine g_iload_n hk 4 dX9_safe_36 rfl ?_
    refine g_icmpne hk (tgt := 44) dX9_safe_37 (by decide) h (fun h => ?_) (fun h => ?_)
    · refine g_iconst hk 0 dX9_safe_44 (by decide) ?_
      exact g_iret (val := fun q => q.1) (mem := fun q => q.2) hc rfl dX9_safe_45 h ret2
    · refine g_iconst hk 1 dX9_safe_40 (by decide) ?_
      refine g_goto hk (tgt := 45) dX9_safe_41 (by decide) ?_
      exact g_iret (val := fun q => q.1) (mem := fun q => q.2) hc rfl dX9_safe_45 h ret2
  · refine g_aload_n hk 1 dX9_safe_13 rfl ?_
    refine g_iload hk 0 dX9_safe_14 rfl ?_
    obtain ⟨r3, hr3, h⟩ := bnd h
    refine g_callVi hk [.int r1] _ sh0 rfl mtX9_refuse mlX9_116 (by decide) (by decide) rfl rfl (Nat.le_of_ble_eq_true rfl) dX9_safe_16 (kX9_refuse _ z M r1 r3 hr3) ?_
    exact g_iret (val := fun q => q.1) (mem := fun q => q.2) hc rfl dX9_safe_19 h ret2
set_option maxHeartbeats 4000000 in
set_option maxRecDepth 100000 in
theorem kX9_first (l : Launch) (z : Lay) (M : Mem) (v1 : Int32) (v2 : Int32) (v3 : Int32) (r : Int32 × Mem) (h : xX9_first M v1 v2 v3 = some r) : Con l z yX9_first cX9_first 5 (some .int) 3 [.ref (z.2.1 0), .int v1, .int v2, .int v3] M (some (.int r.1)) r.2 := by
  refine Con.of (by decide) (Nat.le_of_ble_eq_true rfl) ?_
  intro x hl hc
  subst hl
  have hk : okc x z cX9_first RX9 5 3 := hc.1
  show G x z 5 0 [(0, .ref (z.2.1 0)), (1, .int v1), (2, .int v2), (3, .int v3)] [] M
  unfold xX9_first at h
  refine g_iload_n hk 1 dX9_first_0 rfl ?_
  refine g_iload_n hk 2 dX9_first_1 rfl ?_
  refine g_iload_n hk 3 dX9_first_2 rfl ?_
  obtain ⟨r1, hr1, h⟩ := bnd h
  refine g_callSi hk [.int v1, .int v2, .int v3] _ mtX9_refusalOfWalk mlX9_212 (by decide) (by decide) rfl rfl (Nat.le_of_ble_eq_true rfl) dX9_first_3 (kX9_refusalOfWalk _ z M v1 v2 v3 r1 hr1) ?_
  refine g_istore hk [(4, .int r1), (0, .ref (z.2.1 0)), (1, .int v1), (2, .int v2), (3, .int v3)] dX9_first_6 (by decide) rfl ?_
  refine g_iload hk 0 dX9_first_8 rfl ?_
  refine g_ifeq hk (tgt := 20) dX9_first_10 (by decide) h (fun h => ?_) (fun h => ?_)
  · refine g_aload_n hk 1 dX9_first_20 rfl ?_
    refine gfX9_59 hk dX9_first_21 ?_
    refine g_iload_n hk 2 dX9_first_24 rfl ?_
    refine g_iload_n hk 3 dX9_first_25 rfl ?_
    refine g_iload_n hk 4 dX9_first_26 rfl ?_
    refine g_aload_n hk 1 dX9_first_27 rfl ?_
    refine gfX9_17 hk dX9_first_28 ?_
    refine g_iconst hk 1 dX9_first_31 (by decide) ?_
    refine g_iald hk sh2 dX9_first_32 (by decide) (M.1 2 1) rfl ?_
    obtain ⟨r2, hr2, h⟩ := bnd h
    refine g_callVi hk [.int v1, .int v2, .int v3, .int (M.1 2 1)] _ sh26 rfl mtX8_firstSafe mlX9_219 (by decide) (by decide) rfl rfl (Nat.le_of_ble_eq_true rfl) dX9_first_33 (kX8_firstSafe _ z M v1 v2 v3 (M.1 2 1) r2 hr2) ?_
    exact g_iret (val := fun q => q.1) (mem := fun q => q.2) hc rfl dX9_first_36 h ret2
  · refine g_aload_n hk 1 dX9_first_13 rfl ?_
    refine g_iload hk 0 dX9_first_14 rfl ?_
    obtain ⟨r3, hr3, h⟩ := bnd h
    refine g_callVi hk [.int r1] _ sh0 rfl mtX9_refuse mlX9_116 (by decide) (by decide) rfl rfl (Nat.le_of_ble_eq_true rfl) dX9_first_16 (kX9_refuse _ z M r1 r3 hr3) ?_
    exact g_iret (val := fun q => q.1) (mem := fun q => q.2) hc rfl dX9_first_19 h ret2
set_option maxHeartbeats 4000000 in
set_option maxRecDepth 100000 in
theorem glX9_walked_16 {x : Cx} {z : Lay} {r : Int32 × Mem} (hc : okm x z cX9_walked RX9 4 2 (some .int) (some (.int r.1)) r.2)  : ∀ (n : Nat) (M : Mem) (v1 : Int32) (v2 : Int32) (v3 : Int32), lX9_walked_16  n M v1 v2 v3 = some r → G x z 4 16 [(0, .ref (z.2.1 0)), (1, .int v1), (2, .int v2), (3, .int v3)] [] M := by
  have hk := hc.1
  intro n
  induction n with
  | zero => intro _ _ _ _ h; rw [lX9_walked_16] at h; cases h
  | succ n ih =>
    intro M v1 v2 v3 h
    rw [lX9_walked_16] at h
    refine g_iload_n hk 3 dX9_walked_16 rfl ?_
    refine g_iload_n hk 2 dX9_walked_17 rfl ?_
    refine g_icmpgt hk (tgt := 37) dX9_walked_18 (by decide) h (fun h => ?_) (fun h => ?_)
    · refine g_iload_n hk 2 dX9_walked_37 rfl ?_
      refine g_iload_n hk 1 dX9_walked_38 rfl ?_
      refine g_isub hk dX9_walked_39 ?_
      refine g_iconst hk 1 dX9_walked_40 (by decide) ?_
      refine g_iadd hk dX9_walked_41 ?_
      exact g_iret (val := fun q => q.1) (mem := fun q => q.2) hc rfl dX9_walked_42 h ret2
    · refine g_aload_n hk 0 dX9_walked_21 rfl ?_
      refine gfX9_63 hk dX9_walked_22 ?_
      refine g_iload_n hk 3 dX9_walked_25 rfl ?_
      refine g_aload_n hk 0 dX9_walked_26 rfl ?_
      refine gfX9_7 hk dX9_walked_27 (M.1 0 0) rfl ?_
      obtain ⟨hi1, h⟩ := ck_e h
      refine g_iast hk sh29 dX9_walked_30 hi1 ?_
      refine g_iinc (k := 3) hk [(3, .int (v3 + 1)), (0, .ref (z.2.1 0)), (1, .int v1), (2, .int v2)] dX9_walked_31 rfl rfl (by decide) rfl ?_
      refine g_goto hk (tgt := 16) dX9_walked_34 (by decide) ?_
      exact g_weak [1, 2, 3, 0] [(0, .ref (z.2.1 0)), (1, .int v1), (2, .int v2), (3, .int (v3 + 1))] rfl (ih (upI M 29 (ix v3) (M.1 0 0)) v1 v2 (v3 + 1) h)
set_option maxHeartbeats 4000000 in
set_option maxRecDepth 100000 in
theorem kX9_walked (l : Launch) (z : Lay) (M : Mem) (v1 : Int32) (v2 : Int32) (r : Int32 × Mem) (h : xX9_walked M v1 v2 = some r) : Con l z yX9_walked cX9_walked 4 (some .int) 2 [.ref (z.2.1 0), .int v1, .int v2] M (some (.int r.1)) r.2 := by
  refine Con.of (by decide) (Nat.le_of_ble_eq_true rfl) ?_
  intro x hl hc
  subst hl
  have hk : okc x z cX9_walked RX9 4 2 := hc.1
  show G x z 4 0 [(0, .ref (z.2.1 0)), (1, .int v1), (2, .int v2)] [] M
  unfold xX9_walked at h
  refine g_iload_n hk 1 dX9_walked_0 rfl ?_
  refine g_iload_n hk 2 dX9_walked_1 rfl ?_
  obtain ⟨r1, hr1, h⟩ := bnd h
  refine g_callSi hk [.int v1, .int v2] _ mtX9_isRange mlX9_222 (by decide) (by decide) rfl rfl (Nat.le_of_ble_eq_true rfl) dX9_walked_2 (kX9_isRange _ z M v1 v2 r1 hr1) ?_
  refine g_ifne hk (tgt := 14) dX9_walked_5 (by decide) h (fun h => ?_) (fun h => ?_)
  · refine g_iload_n hk 1 dX9_walked_14 rfl ?_
    refine g_istore_n hk [(3, .int v1), (0, .ref (z.2.1 0)), (1, .int v1), (2, .int v2)] dX9_walked_15 rfl (by decide) rfl ?_
    exact g_weak [1, 2, 3, 0] [(0, .ref (z.2.1 0)), (1, .int v1), (2, .int v2), (3, .int v1)] rfl (glX9_walked_16 hc  fu M v1 v2 v1 h)
  · refine g_aload_n hk 0 dX9_walked_8 rfl ?_
    refine g_iconst hk (-1) dX9_walked_9 (by decide) ?_
    obtain ⟨r2, hr2, h⟩ := bnd h
    refine g_callVi hk [.int (-1)] _ sh0 rfl mtX9_refuse mlX9_116 (by decide) (by decide) rfl rfl (Nat.le_of_ble_eq_true rfl) dX9_walked_10 (kX9_refuse _ z M (-1) r2 hr2) ?_
    exact g_iret (val := fun q => q.1) (mem := fun q => q.2) hc rfl dX9_walked_13 h ret2
set_option maxHeartbeats 4000000 in
set_option maxRecDepth 100000 in
theorem kX9_riskOf (l : Launch) (z : Lay) (M : Mem) (v1 : Int32) (r : Int32) (h : xX9_riskOf M v1 = some r) : Con l z yX9_riskOf cX9_riskOf 2 (some .int) 1 [.ref (z.2.1 0), .int v1] M (some (.int r)) M := by
  refine Con.of (by decide) (Nat.le_of_ble_eq_true rfl) ?_
  intro x hl hc
  subst hl
  have hk : okc x z cX9_riskOf RX9 2 1 := hc.1
  show G x z 2 0 [(0, .ref (z.2.1 0)), (1, .int v1)] [] M
  unfold xX9_riskOf at h
  refine g_aload_n hk 0 dX9_riskOf_0 rfl ?_
  refine gfX9_7 hk dX9_riskOf_1 (M.1 0 0) rfl ?_
  refine g_aload_n hk 0 dX9_riskOf_4 rfl ?_
  refine gfX9_63 hk dX9_riskOf_5 ?_
  refine g_iload_n hk 1 dX9_riskOf_8 rfl ?_
  obtain ⟨hi1, h⟩ := ck_e h
  refine g_iald hk sh29 dX9_riskOf_9 hi1 (M.1 29 (ix v1)) rfl ?_
  refine g_isub hk dX9_riskOf_10 ?_
  refine g_iconst hk 1 dX9_riskOf_11 (by decide) ?_
  refine g_aload_n hk 0 dX9_riskOf_12 rfl ?_
  refine gfX9_38 hk dX9_riskOf_13 ?_
  refine g_iload_n hk 1 dX9_riskOf_16 rfl ?_
  obtain ⟨r1, hr1, h⟩ := bnd h
  refine g_callVi hk [.int v1] _ sh8 rfl mtX1_countOpenIn mlX9_350 (by decide) (by decide) rfl rfl (Nat.le_of_ble_eq_true rfl) dX9_riskOf_17 (kX1_countOpenIn _ z M v1 r1 hr1) ?_
  refine g_iadd hk dX9_riskOf_20 ?_
  refine g_imul hk dX9_riskOf_21 ?_
  exact g_iret (val := fun q => q) (mem := fun _ => M) hc rfl dX9_riskOf_22 h ret1
set_option maxHeartbeats 4000000 in
set_option maxRecDepth 100000 in
theorem kX9_risk (l : Launch) (z : Lay) (M : Mem) (v1 : Int32) (r : Int32 × Mem) (h : xX9_risk M v1 = some r) : Con l z yX9_risk cX9_risk 2 (some .int) 2 [.ref (z.2.1 0), .int v1] M (some (.int r.1)) r.2 := by
  refine Con.of (by decide) (Nat.le_of_ble_eq_true rfl) ?_
  intro x hl hc
  subst hl
  have hk : okc x z cX9_risk RX9 2 2 := hc.1
  show G x z 2 0 [(0, .ref (z.2.1 0)), (1, .int v1)] [] M
  unfold xX9_risk at h
  refine g_iload_n hk 1 dX9_risk_0 rfl ?_
  obtain ⟨r1, hr1, h⟩ := bnd h
  refine g_callSi hk [.int v1] _ mtX9_isMile mlX9_125 (by decide) (by decide) rfl rfl (Nat.le_of_ble_eq_true rfl) dX9_risk_1 (kX9_isMile _ z M v1 r1 hr1) ?_
  refine g_ifne hk (tgt := 13) dX9_risk_4 (by decide) h (fun h => ?_) (fun h => ?_)
  · refine g_aload_n hk 0 dX9_risk_13 rfl ?_
    refine g_iload_n hk 1 dX9_risk_14 rfl ?_
    obtain ⟨r2, hr2, h⟩ := bnd h
    refine g_callVi hk [.int v1] _ sh0 rfl mtX9_riskOf mlX9_226 (by decide) (by decide) rfl rfl (Nat.le_of_ble_eq_true rfl) dX9_risk_15 (kX9_riskOf _ z M v1 r2 hr2) ?_
    exact g_iret (val := fun q => q.1) (mem := fun q => q.2) hc rfl dX9_risk_18 h ret2
  · refine g_aload_n hk 0 dX9_risk_7 rfl ?_
    refine g_iconst hk (-1) dX9_risk_8 (by decide) ?_
    obtain ⟨r3, hr3, h⟩ := bnd h
    refine g_callVi hk [.int (-1)] _ sh0 rfl mtX9_refuse mlX9_116 (by decide) (by decide) rfl rfl (Nat.le_of_ble_eq_true rfl) dX9_risk_9 (kX9_refuse _ z M (-1) r3 hr3) ?_
    exact g_iret (val := fun q => q.1) (mem := fun q => q.2) hc rfl dX9_risk_12 h ret2
set_option maxHeartbeats 4000000 in
set_option maxRecDepth 100000 in
theorem glX9_addUpRisks_2 {x : Cx} {z : Lay} {r : Mem} (hc : okm x z cX9_addUpRisks RX9 2 2 (none) (none) r)  : ∀ (n : Nat) (M : Mem) (v1 : Int32), lX9_addUpRisks_2  n M v1 = some r → G x z 2 2 [(0, .ref (z.2.1 0)), (1, .int v1)] [] M := by
  have hk := hc.1
  intro n
  induction n with
  | zero => intro _ _ h; rw [lX9_addUpRisks_2] at h; cases h
  | succ n ih =>
    intro M v1 h
    rw [lX9_addUpRisks_2] at h
    refine g_iload_n hk 1 dX9_addUpRisks_2 rfl ?_
    refine g_bipush hk 20 dX9_addUpRisks_3 (by decide) ?_
    refine g_icmpge hk (tgt := 34) dX9_addUpRisks_5 (by decide) h (fun h => ?_) (fun h => ?_)
    · exact g_vret (mem := fun q => q) hc rfl dX9_addUpRisks_34 h retv
    · refine g_aload_n hk 0 dX9_addUpRisks_8 rfl ?_
      refine gfX9_66 hk dX9_addUpRisks_9 ?_
      refine g_iload_n hk 1 dX9_addUpRisks_12 rfl ?_
      refine g_iconst hk 1 dX9_addUpRisks_13 (by decide) ?_
      refine g_iadd hk dX9_addUpRisks_14 ?_
      refine g_aload_n hk 0 dX9_addUpRisks_15 rfl ?_
      refine gfX9_66 hk dX9_addUpRisks_16 ?_
      refine g_iload_n hk 1 dX9_addUpRisks_19 rfl ?_
      obtain ⟨hi1, h⟩ := ck_e h
      refine g_iald hk sh30 dX9_addUpRisks_20 hi1 (M.1 30 (ix v1)) rfl ?_
      refine g_aload_n hk 0 dX9_addUpRisks_21 rfl ?_
      refine g_iload_n hk 1 dX9_addUpRisks_22 rfl ?_
      obtain ⟨r1, hr1, h⟩ := bnd h
      refine g_callVi hk [.int v1] _ sh0 rfl mtX9_riskOf mlX9_226 (by decide) (by decide) rfl rfl (Nat.le_of_ble_eq_true rfl) dX9_addUpRisks_23 (kX9_riskOf _ z M v1 r1 hr1) ?_
      refine g_iadd hk dX9_addUpRisks_26 ?_
      obtain ⟨hi2, h⟩ := ck_e h
      refine g_iast hk sh30 dX9_addUpRisks_27 hi2 ?_
      refine g_iinc (k := 1) hk [(1, .int (v1 + 1)), (0, .ref (z.2.1 0))] dX9_addUpRisks_28 rfl rfl (by decide) rfl ?_
      refine g_goto hk (tgt := 2) dX9_addUpRisks_31 (by decide) ?_
      exact g_weak [1, 0] [(0, .ref (z.2.1 0)), (1, .int (v1 + 1))] rfl (ih (upI M 30 (ix (v1 + 1)) ((M.1 30 (ix v1)) + r1)) (v1 + 1) h)
set_option maxHeartbeats 4000000 in
set_option maxRecDepth 100000 in
theorem kX9_addUpRisks (l : Launch) (z : Lay) (M : Mem)  (r : Mem) (h : xX9_addUpRisks M = some r) : Con l z yX9_addUpRisks cX9_addUpRisks 2 (none) 2 [.ref (z.2.1 0)] M (none) r := by
  refine Con.of (by decide) (Nat.le_of_ble_eq_true rfl) ?_
  intro x hl hc
  subst hl
  have hk : okc x z cX9_addUpRisks RX9 2 2 := hc.1
  show G x z 2 0 [(0, .ref (z.2.1 0))] [] M
  unfold xX9_addUpRisks at h
  refine g_iconst hk 0 dX9_addUpRisks_0 (by decide) ?_
  refine g_istore_n hk [(1, .int 0), (0, .ref (z.2.1 0))] dX9_addUpRisks_1 rfl (by decide) rfl ?_
  exact g_weak [1, 0] [(0, .ref (z.2.1 0)), (1, .int 0)] rfl (glX9_addUpRisks_2 hc  fu M 0 h)
set_option maxHeartbeats 4000000 in
set_option maxRecDepth 100000 in
theorem kX9_riskOfRange (l : Launch) (z : Lay) (M : Mem) (v1 : Int32) (v2 : Int32) (r : Int32) (h : xX9_riskOfRange M v1 v2 = some r) : Con l z yX9_riskOfRange cX9_riskOfRange 3 (some .int) 0 [.ref (z.2.1 0), .int v1, .int v2] M (some (.int r)) M := by
  refine Con.of (by decide) (Nat.le_of_ble_eq_true rfl) ?_
  intro x hl hc
  subst hl
  have hk : okc x z cX9_riskOfRange RX9 3 0 := hc.1
  show G x z 3 0 [(0, .ref (z.2.1 0)), (1, .int v1), (2, .int v2)] [] M
  unfold xX9_riskOfRange at h
  refine g_aload_n hk 0 dX9_riskOfRange_0 rfl ?_
  refine gfX9_66 hk dX9_riskOfRange_1 ?_
  refine g_iload_n hk 1 dX9_riskOfRange_4 rfl ?_
  refine g_iload_n hk 2 dX9_riskOfRange_5 rfl ?_
  refine g_iadd hk dX9_riskOfRange_6 ?_
  obtain ⟨hi1, h⟩ := ck_e h
  refine g_iald hk sh30 dX9_riskOfRange_7 hi1 (M.1 30 (ix (v1 + v2))) rfl ?_
  refine g_aload_n hk 0 dX9_riskOfRange_8 rfl ?_
  refine gfX9_66 hk dX9_riskOfRange_9 ?_
  refine g_iload_n hk 1 dX9_riskOfRange_12 rfl ?_
  obtain ⟨hi2, h⟩ := ck_e h
  refine g_iald hk sh30 dX9_riskOfRange_13 hi2 (M.1 30 (ix v1)) rfl ?_
  refine g_isub hk dX9_riskOfRange_14 ?_
  exact g_iret (val := fun q => q) (mem := fun _ => M) hc rfl dX9_riskOfRange_15 h ret1
set_option maxHeartbeats 4000000 in
set_option maxRecDepth 100000 in
theorem glX9_walks_73 {x : Cx} {z : Lay} {r : Int32 × Mem} (hc : okm x z cX9_walks RX9 9 3 (some .int) (some (.int r.1)) r.2) (f56 : Mem → Int32 → Int32 → Int32 → Int32 → Int32 → Int32 → Option (Int32 × Mem)) (hf56 : ∀ (M : Mem) (v1 : Int32) (v2 : Int32) (v3 : Int32) (v4 : Int32) (v5 : Int32) (v6 : Int32), f56 M v1 v2 v3 v4 v5 v6 = some r → G x z 9 56 [(0, .ref (z.2.1 0)), (1, .int v1), (2, .int v2), (3, .int v3), (4, .int v4), (5, .int v5), (6, .int v6)] [] M) : ∀ (n : Nat) (M : Mem) (v1 : Int32) (v2 : Int32) (v3 : Int32) (v4 : Int32) (v5 : Int32) (v6 : Int32) (v7 : Int32), lX9_walks_73 f56 n M v1 v2 v3 v4 v5 v6 v7 = some r → G x z 9 73 [(0, .ref (z.2.1 0)), (1, .int v1), (2, .int v2), (3, .int v3), (4, .int v4), (5, .int v5), (6, .int v6), (7, .int v7)] [] M := by
  have hk := hc.1
  intro n
  induction n with
  | zero => intro _ _ _ _ _ _ _ _ h; rw [lX9_walks_73] at h; cases h
  | succ n ih =>
    intro M v1 v2 v3 v4 v5 v6 v7 h
    rw [lX9_walks_73] at h
    refine g_iload hk 7 dX9_walks_73 rfl ?_
    refine g_iload_n hk 1 dX9_walks_75 rfl ?_
    refine g_iadd hk dX9_walks_76 ?_
    refine g_bipush hk 20 dX9_walks_77 (by decide) ?_
    refine g_icmpgt hk (tgt := 122) dX9_walks_79 (by decide) h (fun h => ?_) (fun h => ?_)
    · refine g_iinc (k := 6) hk [(6, .int (v6 + 1)), (0, .ref (z.2.1 0)), (1, .int v1), (2, .int v2), (3, .int v3), (4, .int v4), (5, .int v5), (7, .int v7)] dX9_walks_122 rfl rfl (by decide) rfl ?_
      refine g_goto hk (tgt := 56) dX9_walks_125 (by decide) ?_
      exact g_weak [1, 2, 3, 4, 5, 6, 0] [(0, .ref (z.2.1 0)), (1, .int v1), (2, .int v2), (3, .int v3), (4, .int v4), (5, .int v5), (6, .int (v6 + 1))] rfl (hf56 M v1 v2 v3 v4 v5 (v6 + 1) h)
    · refine g_aload_n hk 0 dX9_walks_82 rfl ?_
      refine g_iload hk 6 dX9_walks_83 rfl ?_
      refine g_iload_n hk 1 dX9_walks_85 rfl ?_
      obtain ⟨r1, hr1, h⟩ := bnd h
      refine g_callVi hk [.int v6, .int v1] _ sh0 rfl mtX9_riskOfRange mlX9_232 (by decide) (by decide) rfl rfl (Nat.le_of_ble_eq_true rfl) dX9_walks_86 (kX9_riskOfRange _ z M v6 v1 r1 hr1) ?_
      refine g_aload_n hk 0 dX9_walks_89 rfl ?_
      refine g_iload hk 7 dX9_walks_90 rfl ?_
      refine g_iload_n hk 1 dX9_walks_92 rfl ?_
      obtain ⟨r2, hr2, h⟩ := bnd h
      refine g_callVi hk [.int v7, .int v1] _ sh0 rfl mtX9_riskOfRange mlX9_232 (by decide) (by decide) rfl rfl (Nat.le_of_ble_eq_true rfl) dX9_walks_93 (kX9_riskOfRange _ z M v7 v1 r2 hr2) ?_
      refine g_iadd hk dX9_walks_96 ?_
      refine g_istore hk [(8, .int (r1 + r2)), (0, .ref (z.2.1 0)), (1, .int v1), (2, .int v2), (3, .int v3), (4, .int v4), (5, .int v5), (6, .int v6), (7, .int v7)] dX9_walks_97 (by decide) rfl ?_
      refine g_iload hk 0 dX9_walks_99 rfl ?_
      refine g_iload_n hk 4 dX9_walks_101 rfl ?_
      refine g_icmple hk (tgt := 116) dX9_walks_102 (by decide) h (fun h => ?_) (fun h => ?_)
      · refine g_iinc (k := 8) hk [(7, .int (v7 + 1)), (8, .int (r1 + r2)), (0, .ref (z.2.1 0)), (1, .int v1), (2, .int v2), (3, .int v3), (4, .int v4), (5, .int v5), (6, .int v6)] dX9_walks_116 rfl rfl (by decide) rfl ?_
        refine g_goto hk (tgt := 73) dX9_walks_119 (by decide) ?_
        exact g_weak [2, 3, 4, 5, 6, 7, 8, 0] [(0, .ref (z.2.1 0)), (1, .int v1), (2, .int v2), (3, .int v3), (4, .int v4), (5, .int v5), (6, .int v6), (7, .int (v7 + 1))] rfl (ih M v1 v2 v3 v4 v5 v6 (v7 + 1) h)
      · refine g_iload hk 0 dX9_walks_105 rfl ?_
        refine g_istore_n hk [(3, .int (r1 + r2)), (8, .int (r1 + r2)), (0, .ref (z.2.1 0)), (1, .int v1), (2, .int v2), (4, .int v4), (5, .int v5), (6, .int v6), (7, .int v7)] dX9_walks_107 rfl (by decide) rfl ?_
        refine g_iload hk 7 dX9_walks_108 rfl ?_
        refine g_istore hk [(4, .int v6), (3, .int (r1 + r2)), (8, .int (r1 + r2)), (0, .ref (z.2.1 0)), (1, .int v1), (2, .int v2), (5, .int v5), (6, .int v6), (7, .int v7)] dX9_walks_110 (by decide) rfl ?_
        refine g_iload hk 8 dX9_walks_112 rfl ?_
        refine g_istore hk [(5, .int v7), (4, .int v6), (3, .int (r1 + r2)), (8, .int (r1 + r2)), (0, .ref (z.2.1 0)), (1, .int v1), (2, .int v2), (6, .int v6), (7, .int v7)] dX9_walks_114 (by decide) rfl ?_
        refine g_iinc (k := 8) hk [(7, .int (v7 + 1)), (5, .int v7), (4, .int v6), (3, .int (r1 + r2)), (8, .int (r1 + r2)), (0, .ref (z.2.1 0)), (1, .int v1), (2, .int v2), (6, .int v6)] dX9_walks_116 rfl rfl (by decide) rfl ?_
        refine g_goto hk (tgt := 73) dX9_walks_119 (by decide) ?_
        exact g_weak [5, 6, 7, 3, 2, 1, 8, 0] [(0, .ref (z.2.1 0)), (1, .int v1), (2, .int v2), (3, .int (r1 + r2)), (4, .int v6), (5, .int v7), (6, .int v6), (7, .int (v7 + 1))] rfl (ih M v1 v2 (r1 + r2) v6 v7 v6 (v7 + 1) h)
set_option maxHeartbeats 4000000 in
set_option maxRecDepth 100000 in
theorem glX9_walks_56 {x : Cx} {z : Lay} {r : Int32 × Mem} (hc : okm x z cX9_walks RX9 9 3 (some .int) (some (.int r.1)) r.2)  : ∀ (n : Nat) (M : Mem) (v1 : Int32) (v2 : Int32) (v3 : Int32) (v4 : Int32) (v5 : Int32) (v6 : Int32), lX9_walks_56  n M v1 v2 v3 v4 v5 v6 = some r → G x z 9 56 [(0, .ref (z.2.1 0)), (1, .int v1), (2, .int v2), (3, .int v3), (4, .int v4), (5, .int v5), (6, .int v6)] [] M := by
  have hk := hc.1
  intro n
  induction n with
  | zero => intro _ _ _ _ _ _ _ h; rw [lX9_walks_56] at h; cases h
  | succ n ih =>
    intro M v1 v2 v3 v4 v5 v6 h
    rw [lX9_walks_56] at h
    refine g_iload hk 6 dX9_walks_56 rfl ?_
    refine g_iconst hk 2 dX9_walks_58 (by decide) ?_
    refine g_iload_n hk 1 dX9_walks_59 rfl ?_
    refine g_imul hk dX9_walks_60 ?_
    refine g_iadd hk dX9_walks_61 ?_
    refine g_bipush hk 20 dX9_walks_62 (by decide) ?_
    refine g_icmpgt hk (tgt := 128) dX9_walks_64 (by decide) h (fun h => ?_) (fun h => ?_)
    · refine g_iload_n hk 2 dX9_walks_128 rfl ?_
      refine g_ifne hk (tgt := 136) dX9_walks_129 (by decide) h (fun h => ?_) (fun h => ?_)
      · refine g_iload_n hk 2 dX9_walks_136 rfl ?_
        refine g_iconst hk 1 dX9_walks_137 (by decide) ?_
        refine g_icmpne hk (tgt := 146) dX9_walks_138 (by decide) h (fun h => ?_) (fun h => ?_)
        · refine g_iload hk 5 dX9_walks_146 rfl ?_
          exact g_iret (val := fun q => q.1) (mem := fun q => q.2) hc rfl dX9_walks_148 h ret2
        · refine g_iload hk 4 dX9_walks_141 rfl ?_
          refine g_goto hk (tgt := 148) dX9_walks_143 (by decide) ?_
          exact g_iret (val := fun q => q.1) (mem := fun q => q.2) hc rfl dX9_walks_148 h ret2
      · refine g_iload_n hk 3 dX9_walks_132 rfl ?_
        refine g_goto hk (tgt := 148) dX9_walks_133 (by decide) ?_
        exact g_iret (val := fun q => q.1) (mem := fun q => q.2) hc rfl dX9_walks_148 h ret2
    · refine g_iload hk 6 dX9_walks_67 rfl ?_
      refine g_iload_n hk 1 dX9_walks_69 rfl ?_
      refine g_iadd hk dX9_walks_70 ?_
      refine g_istore hk [(7, .int (v6 + v1)), (0, .ref (z.2.1 0)), (1, .int v1), (2, .int v2), (3, .int v3), (4, .int v4), (5, .int v5), (6, .int v6)] dX9_walks_71 (by decide) rfl ?_
      exact g_weak [1, 2, 3, 4, 5, 6, 7, 0] [(0, .ref (z.2.1 0)), (1, .int v1), (2, .int v2), (3, .int v3), (4, .int v4), (5, .int v5), (6, .int v6), (7, .int (v6 + v1))] rfl (glX9_walks_73 hc (lX9_walks_56  n) ih fu M v1 v2 v3 v4 v5 v6 (v6 + v1) h)
set_option maxHeartbeats 4000000 in
set_option maxRecDepth 100000 in
theorem kX9_walks (l : Launch) (z : Lay) (M : Mem) (v1 : Int32) (v2 : Int32) (r : Int32 × Mem) (h : xX9_walks M v1 v2 = some r) : Con l z yX9_walks cX9_walks 9 (some .int) 3 [.ref (z.2.1 0), .int v1, .int v2] M (some (.int r.1)) r.2 := by
  refine Con.of (by decide) (Nat.le_of_ble_eq_true rfl) ?_
  intro x hl hc
  subst hl
  have hk : okc x z cX9_walks RX9 9 3 := hc.1
  show G x z 9 0 [(0, .ref (z.2.1 0)), (1, .int v1), (2, .int v2)] [] M
  unfold xX9_walks at h
  refine g_iload_n hk 2 dX9_walks_0 rfl ?_
  refine g_iflt hk (tgt := 9) dX9_walks_1 (by decide) h (fun h => ?_) (fun h => ?_)
  · refine g_aload_n hk 0 dX9_walks_9 rfl ?_
    refine g_bipush hk (-2) dX9_walks_10 (by decide) ?_
    obtain ⟨r1, hr1, h⟩ := bnd h
    refine g_callVi hk [.int (-2)] _ sh0 rfl mtX9_refuse mlX9_116 (by decide) (by decide) rfl rfl (Nat.le_of_ble_eq_true rfl) dX9_walks_12 (kX9_refuse _ z M (-2) r1 hr1) ?_
    exact g_iret (val := fun q => q.1) (mem := fun q => q.2) hc rfl dX9_walks_15 h ret2
  · refine g_iload_n hk 2 dX9_walks_4 rfl ?_
    refine g_iconst hk 2 dX9_walks_5 (by decide) ?_
    refine g_icmple hk (tgt := 16) dX9_walks_6 (by decide) h (fun h => ?_) (fun h => ?_)
    · refine g_iload_n hk 1 dX9_walks_16 rfl ?_
      refine g_iconst hk 1 dX9_walks_17 (by decide) ?_
      refine g_icmpge hk (tgt := 28) dX9_walks_18 (by decide) h (fun h => ?_) (fun h => ?_)
      · refine g_iload_n hk 1 dX9_walks_28 rfl ?_
        refine g_bipush hk 10 dX9_walks_29 (by decide) ?_
        refine g_icmple hk (tgt := 41) dX9_walks_31 (by decide) h (fun h => ?_) (fun h => ?_)
        · refine g_aload_n hk 0 dX9_walks_41 rfl ?_
          obtain ⟨r2, hr2, h⟩ := bnd h
          refine g_callVv hk [] _ sh0 rfl mtX9_addUpRisks mlX9_229 (by decide) (by decide) rfl rfl (Nat.le_of_ble_eq_true rfl) dX9_walks_42 (kX9_addUpRisks _ z M  r2 hr2) ?_
          refine g_iconst hk (-1) dX9_walks_45 (by decide) ?_
          refine g_istore_n hk [(3, .int (-1)), (0, .ref (z.2.1 0)), (1, .int v1), (2, .int v2)] dX9_walks_46 rfl (by decide) rfl ?_
          refine g_iconst hk 0 dX9_walks_47 (by decide) ?_
          refine g_istore hk [(4, .int 0), (3, .int (-1)), (0, .ref (z.2.1 0)), (1, .int v1), (2, .int v2)] dX9_walks_48 (by decide) rfl ?_
          refine g_iconst hk 0 dX9_walks_50 (by decide) ?_
          refine g_istore hk [(5, .int 0), (4, .int 0), (3, .int (-1)), (0, .ref (z.2.1 0)), (1, .int v1), (2, .int v2)] dX9_walks_51 (by decide) rfl ?_
          refine g_iconst hk 0 dX9_walks_53 (by decide) ?_
          refine g_istore hk [(6, .int 0), (5, .int 0), (4, .int 0), (3, .int (-1)), (0, .ref (z.2.1 0)), (1, .int v1), (2, .int v2)] dX9_walks_54 (by decide) rfl ?_
          exact g_weak [4, 5, 6, 3, 2, 1, 0] [(0, .ref (z.2.1 0)), (1, .int v1), (2, .int v2), (3, .int (-1)), (4, .int 0), (5, .int 0), (6, .int 0)] rfl (glX9_walks_56 hc  fu r2 v1 v2 (-1) 0 0 0 h)
        · refine g_aload_n hk 0 dX9_walks_34 rfl ?_
          refine g_bipush hk (-6) dX9_walks_35 (by decide) ?_
          obtain ⟨r3, hr3, h⟩ := bnd h
          refine g_callVi hk [.int (-6)] _ sh0 rfl mtX9_refuse mlX9_116 (by decide) (by decide) rfl rfl (Nat.le_of_ble_eq_true rfl) dX9_walks_37 (kX9_refuse _ z M (-6) r3 hr3) ?_
          exact g_iret (val := fun q => q.1) (mem := fun q => q.2) hc rfl dX9_walks_40 h ret2
      · refine g_aload_n hk 0 dX9_walks_21 rfl ?_
        refine g_bipush hk (-4) dX9_walks_22 (by decide) ?_
        obtain ⟨r4, hr4, h⟩ := bnd h
        refine g_callVi hk [.int (-4)] _ sh0 rfl mtX9_refuse mlX9_116 (by decide) (by decide) rfl rfl (Nat.le_of_ble_eq_true rfl) dX9_walks_24 (kX9_refuse _ z M (-4) r4 hr4) ?_
        exact g_iret (val := fun q => q.1) (mem := fun q => q.2) hc rfl dX9_walks_27 h ret2
    · refine g_aload_n hk 0 dX9_walks_9 rfl ?_
      refine g_bipush hk (-2) dX9_walks_10 (by decide) ?_
      obtain ⟨r5, hr5, h⟩ := bnd h
      refine g_callVi hk [.int (-2)] _ sh0 rfl mtX9_refuse mlX9_116 (by decide) (by decide) rfl rfl (Nat.le_of_ble_eq_true rfl) dX9_walks_12 (kX9_refuse _ z M (-2) r5 hr5) ?_
      exact g_iret (val := fun q => q.1) (mem := fun q => q.2) hc rfl dX9_walks_15 h ret2
set_option maxHeartbeats 4000000 in
set_option maxRecDepth 100000 in
theorem kX9_doubles (l : Launch) (z : Lay) (M : Mem) (v1 : Int32) (v2 : Int32) (v3 : Int32) (v4 : Int32) (r : Int32 × Mem) (h : xX9_doubles M v1 v2 v3 v4 = some r) : Con l z yX9_doubles cX9_doubles 5 (some .int) 1 [.ref (z.2.1 0), .int v1, .int v2, .int v3, .int v4] M (some (.int r.1)) r.2 := by
  refine Con.of (by decide) (Nat.le_of_ble_eq_true rfl) ?_
  intro x hl hc
  subst hl
  have hk : okc x z cX9_doubles RX9 5 1 := hc.1
  show G x z 5 0 [(0, .ref (z.2.1 0)), (1, .int v1), (2, .int v2), (3, .int v3), (4, .int v4)] [] M
  unfold xX9_doubles at h
  refine g_iload_n hk 1 dX9_doubles_0 rfl ?_
  obtain ⟨r1, hr1, h⟩ := bnd h
  refine g_callSi hk [.int v1] _ mtX9_isMile mlX9_125 (by decide) (by decide) rfl rfl (Nat.le_of_ble_eq_true rfl) dX9_doubles_1 (kX9_isMile _ z M v1 r1 hr1) ?_
  refine g_ifne hk (tgt := 13) dX9_doubles_4 (by decide) h (fun h => ?_) (fun h => ?_)
  · refine g_iload_n hk 2 dX9_doubles_13 rfl ?_
    refine g_iflt hk (tgt := 26) dX9_doubles_14 (by decide) h (fun h => ?_) (fun h => ?_)
    · refine g_aload_n hk 0 dX9_doubles_26 rfl ?_
      refine g_bipush hk (-4) dX9_doubles_27 (by decide) ?_
      obtain ⟨r2, hr2, h⟩ := bnd h
      refine g_callVi hk [.int (-4)] _ sh0 rfl mtX9_refuse mlX9_116 (by decide) (by decide) rfl rfl (Nat.le_of_ble_eq_true rfl) dX9_doubles_29 (kX9_refuse _ z M (-4) r2 hr2) ?_
      exact g_iret (val := fun q => q.1) (mem := fun q => q.2) hc rfl dX9_doubles_32 h ret2
    · refine g_iload_n hk 3 dX9_doubles_17 rfl ?_
      refine g_iflt hk (tgt := 26) dX9_doubles_18 (by decide) h (fun h => ?_) (fun h => ?_)
      · refine g_aload_n hk 0 dX9_doubles_26 rfl ?_
        refine g_bipush hk (-4) dX9_doubles_27 (by decide) ?_
        obtain ⟨r3, hr3, h⟩ := bnd h
        refine g_callVi hk [.int (-4)] _ sh0 rfl mtX9_refuse mlX9_116 (by decide) (by decide) rfl rfl (Nat.le_of_ble_eq_true rfl) dX9_doubles_29 (kX9_refuse _ z M (-4) r3 hr3) ?_
        exact g_iret (val := fun q => q.1) (mem := fun q => q.2) hc rfl dX9_doubles_32 h ret2
      · refine g_iload hk 4 dX9_doubles_21 rfl ?_
        refine g_ifge hk (tgt := 33) dX9_doubles_23 (by decide) h (fun h => ?_) (fun h => ?_)
        · refine g_iload_n hk 2 dX9_doubles_33 rfl ?_
          refine g_bipush hk 99 dX9_doubles_34 (by decide) ?_
          refine g_icmpgt hk (tgt := 67) dX9_doubles_36 (by decide) h (fun h => ?_) (fun h => ?_)
          · refine g_aload_n hk 0 dX9_doubles_67 rfl ?_
            refine g_bipush hk (-6) dX9_doubles_68 (by decide) ?_
            obtain ⟨r4, hr4, h⟩ := bnd h
            refine g_callVi hk [.int (-6)] _ sh0 rfl mtX9_refuse mlX9_116 (by decide) (by decide) rfl rfl (Nat.le_of_ble_eq_true rfl) dX9_doubles_70 (kX9_refuse _ z M (-6) r4 hr4) ?_
            exact g_iret (val := fun q => q.1) (mem := fun q => q.2) hc rfl dX9_doubles_73 h ret2
          · refine g_iload_n hk 3 dX9_doubles_39 rfl ?_
            refine g_bipush hk 99 dX9_doubles_40 (by decide) ?_
            refine g_icmpgt hk (tgt := 67) dX9_doubles_42 (by decide) h (fun h => ?_) (fun h => ?_)
            · refine g_aload_n hk 0 dX9_doubles_67 rfl ?_
              refine g_bipush hk (-6) dX9_doubles_68 (by decide) ?_
              obtain ⟨r5, hr5, h⟩ := bnd h
              refine g_callVi hk [.int (-6)] _ sh0 rfl mtX9_refuse mlX9_116 (by decide) (by decide) rfl rfl (Nat.le_of_ble_eq_true rfl) dX9_doubles_70 (kX9_refuse _ z M (-6) r5 hr5) ?_
              exact g_iret (val := fun q => q.1) (mem := fun q => q.2) hc rfl dX9_doubles_73 h ret2
            · refine g_iload hk 4 dX9_doubles_45 rfl ?_
              refine g_bipush hk 99 dX9_doubles_47 (by decide) ?_
              refine g_icmpgt hk (tgt := 67) dX9_doubles_49 (by decide) h (fun h => ?_) (fun h => ?_)
              · refine g_aload_n hk 0 dX9_doubles_67 rfl ?_
                refine g_bipush hk (-6) dX9_doubles_68 (by decide) ?_
                obtain ⟨r6, hr6, h⟩ := bnd h
                refine g_callVi hk [.int (-6)] _ sh0 rfl mtX9_refuse mlX9_116 (by decide) (by decide) rfl rfl (Nat.le_of_ble_eq_true rfl) dX9_doubles_70 (kX9_refuse _ z M (-6) r6 hr6) ?_
                exact g_iret (val := fun q => q.1) (mem := fun q => q.2) hc rfl dX9_doubles_73 h ret2
              · refine g_aload_n hk 0 dX9_doubles_52 rfl ?_
                refine gfX9_72 hk dX9_doubles_53 ?_
                refine g_iload_n hk 1 dX9_doubles_56 rfl ?_
                refine g_iload_n hk 2 dX9_doubles_57 rfl ?_
                refine g_iload_n hk 3 dX9_doubles_58 rfl ?_
                refine g_iload hk 4 dX9_doubles_59 rfl ?_
                obtain ⟨r7, hr7, h⟩ := bnd h
                refine g_callVi hk [.int v1, .int v2, .int v3, .int v4] _ sh31 rfl mtX2_hasRoom mlX9_235 (by decide) (by decide) rfl rfl (Nat.le_of_ble_eq_true rfl) dX9_doubles_61 (kX2_hasRoom _ z M v1 v2 v3 v4 r7 hr7) ?_
                refine g_ifne hk (tgt := 74) dX9_doubles_64 (by decide) h (fun h => ?_) (fun h => ?_)
                · refine g_aload_n hk 0 dX9_doubles_74 rfl ?_
                  refine gfX9_72 hk dX9_doubles_75 ?_
                  refine g_iload_n hk 1 dX9_doubles_78 rfl ?_
                  refine g_iload_n hk 2 dX9_doubles_79 rfl ?_
                  refine g_iload_n hk 3 dX9_doubles_80 rfl ?_
                  refine g_iload hk 4 dX9_doubles_81 rfl ?_
                  obtain ⟨r8, hr8, h⟩ := bnd h
                  refine g_callVv hk [.int v1, .int v2, .int v3, .int v4] _ sh31 rfl mtX2_add mlX9_239 (by decide) (by decide) rfl rfl (Nat.le_of_ble_eq_true rfl) dX9_doubles_83 (kX2_add _ z M v1 v2 v3 v4 r8 hr8) ?_
                  refine g_iconst hk 1 dX9_doubles_86 (by decide) ?_
                  exact g_iret (val := fun q => q.1) (mem := fun q => q.2) hc rfl dX9_doubles_87 h ret2
                · refine g_aload_n hk 0 dX9_doubles_67 rfl ?_
                  refine g_bipush hk (-6) dX9_doubles_68 (by decide) ?_
                  obtain ⟨r9, hr9, h⟩ := bnd h
                  refine g_callVi hk [.int (-6)] _ sh0 rfl mtX9_refuse mlX9_116 (by decide) (by decide) rfl rfl (Nat.le_of_ble_eq_true rfl) dX9_doubles_70 (kX9_refuse _ z M (-6) r9 hr9) ?_
                  exact g_iret (val := fun q => q.1) (mem := fun q => q.2) hc rfl dX9_doubles_73 h ret2
        · refine g_aload_n hk 0 dX9_doubles_26 rfl ?_
          refine g_bipush hk (-4) dX9_doubles_27 (by decide) ?_
          obtain ⟨r10, hr10, h⟩ := bnd h
          refine g_callVi hk [.int (-4)] _ sh0 rfl mtX9_refuse mlX9_116 (by decide) (by decide) rfl rfl (Nat.le_of_ble_eq_true rfl) dX9_doubles_29 (kX9_refuse _ z M (-4) r10 hr10) ?_
          exact g_iret (val := fun q => q.1) (mem := fun q => q.2) hc rfl dX9_doubles_32 h ret2
  · refine g_aload_n hk 0 dX9_doubles_7 rfl ?_
    refine g_iconst hk (-1) dX9_doubles_8 (by decide) ?_
    obtain ⟨r11, hr11, h⟩ := bnd h
    refine g_callVi hk [.int (-1)] _ sh0 rfl mtX9_refuse mlX9_116 (by decide) (by decide) rfl rfl (Nat.le_of_ble_eq_true rfl) dX9_doubles_9 (kX9_refuse _ z M (-1) r11 hr11) ?_
    exact g_iret (val := fun q => q.1) (mem := fun q => q.2) hc rfl dX9_doubles_12 h ret2
set_option maxHeartbeats 4000000 in
set_option maxRecDepth 100000 in
theorem kX9_eyes (l : Launch) (z : Lay) (M : Mem) (v1 : Int32) (v2 : Int32) (r : Int32 × Mem) (h : xX9_eyes M v1 v2 = some r) : Con l z yX9_eyes cX9_eyes 3 (some .int) 2 [.ref (z.2.1 0), .int v1, .int v2] M (some (.int r.1)) r.2 := by
  refine Con.of (by decide) (Nat.le_of_ble_eq_true rfl) ?_
  intro x hl hc
  subst hl
  have hk : okc x z cX9_eyes RX9 3 2 := hc.1
  show G x z 3 0 [(0, .ref (z.2.1 0)), (1, .int v1), (2, .int v2)] [] M
  unfold xX9_eyes at h
  refine g_iload_n hk 1 dX9_eyes_0 rfl ?_
  obtain ⟨r1, hr1, h⟩ := bnd h
  refine g_callSi hk [.int v1] _ mtX9_isMile mlX9_125 (by decide) (by decide) rfl rfl (Nat.le_of_ble_eq_true rfl) dX9_eyes_1 (kX9_isMile _ z M v1 r1 hr1) ?_
  refine g_ifne hk (tgt := 13) dX9_eyes_4 (by decide) h (fun h => ?_) (fun h => ?_)
  · refine g_iload_n hk 2 dX9_eyes_13 rfl ?_
    refine g_iflt hk (tgt := 22) dX9_eyes_14 (by decide) h (fun h => ?_) (fun h => ?_)
    · refine g_aload_n hk 0 dX9_eyes_22 rfl ?_
      refine g_bipush hk (-2) dX9_eyes_23 (by decide) ?_
      obtain ⟨r2, hr2, h⟩ := bnd h
      refine g_callVi hk [.int (-2)] _ sh0 rfl mtX9_refuse mlX9_116 (by decide) (by decide) rfl rfl (Nat.le_of_ble_eq_true rfl) dX9_eyes_25 (kX9_refuse _ z M (-2) r2 hr2) ?_
      exact g_iret (val := fun q => q.1) (mem := fun q => q.2) hc rfl dX9_eyes_28 h ret2
    · refine g_iload_n hk 2 dX9_eyes_17 rfl ?_
      refine g_iconst hk 1 dX9_eyes_18 (by decide) ?_
      refine g_icmple hk (tgt := 29) dX9_eyes_19 (by decide) h (fun h => ?_) (fun h => ?_)
      · refine g_iload_n hk 2 dX9_eyes_29 rfl ?_
        refine g_ifne hk (tgt := 44) dX9_eyes_30 (by decide) h (fun h => ?_) (fun h => ?_)
        · refine g_aload_n hk 0 dX9_eyes_44 rfl ?_
          refine gfX9_72 hk dX9_eyes_45 ?_
          refine g_iload_n hk 1 dX9_eyes_48 rfl ?_
          obtain ⟨r3, hr3, h⟩ := bnd h
          refine g_callVi hk [.int v1] _ sh31 rfl mtX2_missed mlX9_245 (by decide) (by decide) rfl rfl (Nat.le_of_ble_eq_true rfl) dX9_eyes_49 (kX2_missed _ z M v1 r3 hr3) ?_
          exact g_iret (val := fun q => q.1) (mem := fun q => q.2) hc rfl dX9_eyes_52 h ret2
        · refine g_aload_n hk 0 dX9_eyes_33 rfl ?_
          refine gfX9_72 hk dX9_eyes_34 ?_
          refine g_iload_n hk 1 dX9_eyes_37 rfl ?_
          obtain ⟨r4, hr4, h⟩ := bnd h
          refine g_callVi hk [.int v1] _ sh31 rfl mtX2_estimate mlX9_242 (by decide) (by decide) rfl rfl (Nat.le_of_ble_eq_true rfl) dX9_eyes_38 (kX2_estimate _ z M v1 r4 hr4) ?_
          refine g_goto hk (tgt := 52) dX9_eyes_41 (by decide) ?_
          exact g_iret (val := fun q => q.1) (mem := fun q => q.2) hc rfl dX9_eyes_52 h ret2
      · refine g_aload_n hk 0 dX9_eyes_22 rfl ?_
        refine g_bipush hk (-2) dX9_eyes_23 (by decide) ?_
        obtain ⟨r5, hr5, h⟩ := bnd h
        refine g_callVi hk [.int (-2)] _ sh0 rfl mtX9_refuse mlX9_116 (by decide) (by decide) rfl rfl (Nat.le_of_ble_eq_true rfl) dX9_eyes_25 (kX9_refuse _ z M (-2) r5 hr5) ?_
        exact g_iret (val := fun q => q.1) (mem := fun q => q.2) hc rfl dX9_eyes_28 h ret2
  · refine g_aload_n hk 0 dX9_eyes_7 rfl ?_
    refine g_iconst hk (-1) dX9_eyes_8 (by decide) ?_
    obtain ⟨r6, hr6, h⟩ := bnd h
    refine g_callVi hk [.int (-1)] _ sh0 rfl mtX9_refuse mlX9_116 (by decide) (by decide) rfl rfl (Nat.le_of_ble_eq_true rfl) dX9_eyes_9 (kX9_refuse _ z M (-1) r6 hr6) ?_
    exact g_iret (val := fun q => q.1) (mem := fun q => q.2) hc rfl dX9_eyes_12 h ret2
set_option maxHeartbeats 4000000 in
set_option maxRecDepth 100000 in
theorem kX9_line (l : Launch) (z : Lay) (M : Mem) (v1 : Int32) (v2 : Int32) (v3 : Int32) (r : Int32 × Mem) (h : xX9_line M v1 v2 v3 = some r) : Con l z yX9_line cX9_line 4 (some .int) 1 [.ref (z.2.1 0), .int v1, .int v2, .int v3] M (some (.int r.1)) r.2 := by
  refine Con.of (by decide) (Nat.le_of_ble_eq_true rfl) ?_
  intro x hl hc
  subst hl
  have hk : okc x z cX9_line RX9 4 1 := hc.1
  show G x z 4 0 [(0, .ref (z.2.1 0)), (1, .int v1), (2, .int v2), (3, .int v3)] [] M
  unfold xX9_line at h
  refine g_iload_n hk 1 dX9_line_0 rfl ?_
  obtain ⟨r1, hr1, h⟩ := bnd h
  refine g_callSi hk [.int v1] _ mtX9_isMile mlX9_125 (by decide) (by decide) rfl rfl (Nat.le_of_ble_eq_true rfl) dX9_line_1 (kX9_isMile _ z M v1 r1 hr1) ?_
  refine g_ifne hk (tgt := 13) dX9_line_4 (by decide) h (fun h => ?_) (fun h => ?_)
  · refine g_iload_n hk 2 dX9_line_13 rfl ?_
    refine g_iflt hk (tgt := 21) dX9_line_14 (by decide) h (fun h => ?_) (fun h => ?_)
    · refine g_aload_n hk 0 dX9_line_21 rfl ?_
      refine g_bipush hk (-4) dX9_line_22 (by decide) ?_
      obtain ⟨r2, hr2, h⟩ := bnd h
      refine g_callVi hk [.int (-4)] _ sh0 rfl mtX9_refuse mlX9_116 (by decide) (by decide) rfl rfl (Nat.le_of_ble_eq_true rfl) dX9_line_24 (kX9_refuse _ z M (-4) r2 hr2) ?_
      exact g_iret (val := fun q => q.1) (mem := fun q => q.2) hc rfl dX9_line_27 h ret2
    · refine g_iload_n hk 3 dX9_line_17 rfl ?_
      refine g_ifge hk (tgt := 28) dX9_line_18 (by decide) h (fun h => ?_) (fun h => ?_)
      · refine g_iload_n hk 2 dX9_line_28 rfl ?_
        refine g_sipush hk 1759 dX9_line_29 (by decide) ?_
        refine g_icmpgt hk (tgt := 52) dX9_line_32 (by decide) h (fun h => ?_) (fun h => ?_)
        · refine g_aload_n hk 0 dX9_line_52 rfl ?_
          refine g_bipush hk (-6) dX9_line_53 (by decide) ?_
          obtain ⟨r3, hr3, h⟩ := bnd h
          refine g_callVi hk [.int (-6)] _ sh0 rfl mtX9_refuse mlX9_116 (by decide) (by decide) rfl rfl (Nat.le_of_ble_eq_true rfl) dX9_line_55 (kX9_refuse _ z M (-6) r3 hr3) ?_
          exact g_iret (val := fun q => q.1) (mem := fun q => q.2) hc rfl dX9_line_58 h ret2
        · refine g_iload_n hk 3 dX9_line_35 rfl ?_
          refine g_iconst hk 1 dX9_line_36 (by decide) ?_
          refine g_icmpgt hk (tgt := 52) dX9_line_37 (by decide) h (fun h => ?_) (fun h => ?_)
          · refine g_aload_n hk 0 dX9_line_52 rfl ?_
            refine g_bipush hk (-6) dX9_line_53 (by decide) ?_
            obtain ⟨r4, hr4, h⟩ := bnd h
            refine g_callVi hk [.int (-6)] _ sh0 rfl mtX9_refuse mlX9_116 (by decide) (by decide) rfl rfl (Nat.le_of_ble_eq_true rfl) dX9_line_55 (kX9_refuse _ z M (-6) r4 hr4) ?_
            exact g_iret (val := fun q => q.1) (mem := fun q => q.2) hc rfl dX9_line_58 h ret2
          · refine g_aload_n hk 0 dX9_line_40 rfl ?_
            refine gfX9_79 hk dX9_line_41 ?_
            refine gfX9_248 hk dX9_line_44 (M.1 35 0) rfl ?_
            refine g_bipush hk 8 dX9_line_47 (by decide) ?_
            refine g_icmplt hk (tgt := 59) dX9_line_49 (by decide) h (fun h => ?_) (fun h => ?_)
            · refine g_aload_n hk 0 dX9_line_59 rfl ?_
              refine gfX9_79 hk dX9_line_60 ?_
              refine g_iload_n hk 1 dX9_line_63 rfl ?_
              refine g_iload_n hk 2 dX9_line_64 rfl ?_
              refine g_iload_n hk 3 dX9_line_65 rfl ?_
              obtain ⟨r5, hr5, h⟩ := bnd h
              refine g_callVi hk [.int v1, .int v2, .int v3] _ sh35 rfl mtX0_add mlX9_249 (by decide) (by decide) rfl rfl (Nat.le_of_ble_eq_true rfl) dX9_line_66 (kX0_add _ z M v1 v2 v3 r5 hr5) ?_
              exact g_iret (val := fun q => q.1) (mem := fun q => q.2) hc rfl dX9_line_69 h ret2
            · refine g_aload_n hk 0 dX9_line_52 rfl ?_
              refine g_bipush hk (-6) dX9_line_53 (by decide) ?_
              obtain ⟨r6, hr6, h⟩ := bnd h
              refine g_callVi hk [.int (-6)] _ sh0 rfl mtX9_refuse mlX9_116 (by decide) (by decide) rfl rfl (Nat.le_of_ble_eq_true rfl) dX9_line_55 (kX9_refuse _ z M (-6) r6 hr6) ?_
              exact g_iret (val := fun q => q.1) (mem := fun q => q.2) hc rfl dX9_line_58 h ret2
      · refine g_aload_n hk 0 dX9_line_21 rfl ?_
        refine g_bipush hk (-4) dX9_line_22 (by decide) ?_
        obtain ⟨r7, hr7, h⟩ := bnd h
        refine g_callVi hk [.int (-4)] _ sh0 rfl mtX9_refuse mlX9_116 (by decide) (by decide) rfl rfl (Nat.le_of_ble_eq_true rfl) dX9_line_24 (kX9_refuse _ z M (-4) r7 hr7) ?_
        exact g_iret (val := fun q => q.1) (mem := fun q => q.2) hc rfl dX9_line_27 h ret2
  · refine g_aload_n hk 0 dX9_line_7 rfl ?_
    refine g_iconst hk (-1) dX9_line_8 (by decide) ?_
    obtain ⟨r8, hr8, h⟩ := bnd h
    refine g_callVi hk [.int (-1)] _ sh0 rfl mtX9_refuse mlX9_116 (by decide) (by decide) rfl rfl (Nat.le_of_ble_eq_true rfl) dX9_line_9 (kX9_refuse _ z M (-1) r8 hr8) ?_
    exact g_iret (val := fun q => q.1) (mem := fun q => q.2) hc rfl dX9_line_12 h ret2
set_option maxHeartbeats 4000000 in
set_option maxRecDepth 100000 in
theorem kX9_join (l : Launch) (z : Lay) (M : Mem) (v1 : Int32) (r : Int32 × Mem) (h : xX9_join M v1 = some r) : Con l z yX9_join cX9_join 4 (some .int) 3 [.ref (z.2.1 0), .int v1] M (some (.int r.1)) r.2 := by
  refine Con.of (by decide) (Nat.le_of_ble_eq_true rfl) ?_
  intro x hl hc
  subst hl
  have hk : okc x z cX9_join RX9 4 3 := hc.1
  show G x z 4 0 [(0, .ref (z.2.1 0)), (1, .int v1)] [] M
  unfold xX9_join at h
  refine g_iload_n hk 1 dX9_join_0 rfl ?_
  refine g_iflt hk (tgt := 9) dX9_join_1 (by decide) h (fun h => ?_) (fun h => ?_)
  · refine g_aload_n hk 0 dX9_join_9 rfl ?_
    refine g_bipush hk (-2) dX9_join_10 (by decide) ?_
    obtain ⟨r1, hr1, h⟩ := bnd h
    refine g_callVi hk [.int (-2)] _ sh0 rfl mtX9_refuse mlX9_116 (by decide) (by decide) rfl rfl (Nat.le_of_ble_eq_true rfl) dX9_join_12 (kX9_refuse _ z M (-2) r1 hr1) ?_
    exact g_iret (val := fun q => q.1) (mem := fun q => q.2) hc rfl dX9_join_15 h ret2
  · refine g_iload_n hk 1 dX9_join_4 rfl ?_
    refine g_iconst hk 1 dX9_join_5 (by decide) ?_
    refine g_icmple hk (tgt := 16) dX9_join_6 (by decide) h (fun h => ?_) (fun h => ?_)
    · refine g_aload_n hk 0 dX9_join_16 rfl ?_
      refine gfX9_79 hk dX9_join_17 ?_
      refine g_aload_n hk 0 dX9_join_20 rfl ?_
      refine gfX9_38 hk dX9_join_21 ?_
      refine g_aload_n hk 0 dX9_join_24 rfl ?_
      refine gfX9_17 hk dX9_join_25 ?_
      refine g_iconst hk 2 dX9_join_28 (by decide) ?_
      refine g_iald hk sh2 dX9_join_29 (by decide) (M.1 2 2) rfl ?_
      obtain ⟨r2, hr2, h⟩ := bnd h
      refine g_callVl hk [.ref (z.2.1 8), .int (M.1 2 2)] _ sh35 rfl mtX0_bestJoining mlX9_251 (by decide) (by decide) rfl rfl (Nat.le_of_ble_eq_true rfl) dX9_join_30 (kX0_bestJoining _ z M (M.1 2 2) r2 hr2) ?_
      refine g_lstore_n hk [(2, .long r2.1), (0, .ref (z.2.1 0)), (1, .int v1)] dX9_join_33 rfl (by decide) rfl ?_
      refine g_iload_n hk 2 dX9_join_34 rfl ?_
      refine g_ifne hk (tgt := 49) dX9_join_35 (by decide) h (fun h => ?_) (fun h => ?_)
      · refine g_lload_n hk 0 dX9_join_49 rfl ?_
        obtain ⟨r3, hr3, h⟩ := bnd h
        refine g_callSi hk [.long r2.1] _ mtX0_yardsIn mlX9_259 (by decide) (by decide) rfl rfl (Nat.le_of_ble_eq_true rfl) dX9_join_50 (kX0_yardsIn _ z r2.2 r2.1 r3 hr3) ?_
        exact g_iret (val := fun q => q.1) (mem := fun q => q.2) hc rfl dX9_join_53 h ret2
      · refine g_aload_n hk 1 dX9_join_38 rfl ?_
        refine gfX9_79 hk dX9_join_39 ?_
        refine g_lload_n hk 0 dX9_join_42 rfl ?_
        obtain ⟨r4, hr4, h⟩ := bnd h
        refine g_callVi hk [.long r2.1] _ sh35 rfl mtX0_joinedIn mlX9_255 (by decide) (by decide) rfl rfl (Nat.le_of_ble_eq_true rfl) dX9_join_43 (kX0_joinedIn _ z r2.2 r2.1 r4 hr4) ?_
        refine g_goto hk (tgt := 53) dX9_join_46 (by decide) ?_
        exact g_iret (val := fun q => q.1) (mem := fun q => q.2) hc rfl dX9_join_53 h ret2
    · refine g_aload_n hk 0 dX9_join_9 rfl ?_
      refine g_bipush hk (-2) dX9_join_10 (by decide) ?_
      obtain ⟨r5, hr5, h⟩ := bnd h
      refine g_callVi hk [.int (-2)] _ sh0 rfl mtX9_refuse mlX9_116 (by decide) (by decide) rfl rfl (Nat.le_of_ble_eq_true rfl) dX9_join_12 (kX9_refuse _ z M (-2) r5 hr5) ?_
      exact g_iret (val := fun q => q.1) (mem := fun q => q.2) hc rfl dX9_join_15 h ret2
set_option maxHeartbeats 4000000 in
set_option maxRecDepth 100000 in
theorem kX9_joined (l : Launch) (z : Lay) (M : Mem) (v1 : Int32) (r : Int32 × Mem) (h : xX9_joined M v1 = some r) : Con l z yX9_joined cX9_joined 4 (some .int) 3 [.ref (z.2.1 0), .int v1] M (some (.int r.1)) r.2 := by
  refine Con.of (by decide) (Nat.le_of_ble_eq_true rfl) ?_
  intro x hl hc
  subst hl
  have hk : okc x z cX9_joined RX9 4 3 := hc.1
  show G x z 4 0 [(0, .ref (z.2.1 0)), (1, .int v1)] [] M
  unfold xX9_joined at h
  refine g_iload_n hk 1 dX9_joined_0 rfl ?_
  refine g_iflt hk (tgt := 15) dX9_joined_1 (by decide) h (fun h => ?_) (fun h => ?_)
  · refine g_aload_n hk 0 dX9_joined_15 rfl ?_
    refine g_iconst hk (-1) dX9_joined_16 (by decide) ?_
    obtain ⟨r1, hr1, h⟩ := bnd h
    refine g_callVi hk [.int (-1)] _ sh0 rfl mtX9_refuse mlX9_116 (by decide) (by decide) rfl rfl (Nat.le_of_ble_eq_true rfl) dX9_joined_17 (kX9_refuse _ z M (-1) r1 hr1) ?_
    exact g_iret (val := fun q => q.1) (mem := fun q => q.2) hc rfl dX9_joined_20 h ret2
  · refine g_iload_n hk 1 dX9_joined_4 rfl ?_
    refine g_aload_n hk 0 dX9_joined_5 rfl ?_
    refine gfX9_79 hk dX9_joined_6 ?_
    refine gfX9_248 hk dX9_joined_9 (M.1 35 0) rfl ?_
    refine g_icmplt hk (tgt := 21) dX9_joined_12 (by decide) h (fun h => ?_) (fun h => ?_)
    · refine g_aload_n hk 0 dX9_joined_21 rfl ?_
      refine gfX9_79 hk dX9_joined_22 ?_
      refine g_aload_n hk 0 dX9_joined_25 rfl ?_
      refine gfX9_38 hk dX9_joined_26 ?_
      refine g_aload_n hk 0 dX9_joined_29 rfl ?_
      refine gfX9_17 hk dX9_joined_30 ?_
      refine g_iconst hk 2 dX9_joined_33 (by decide) ?_
      refine g_iald hk sh2 dX9_joined_34 (by decide) (M.1 2 2) rfl ?_
      obtain ⟨r2, hr2, h⟩ := bnd h
      refine g_callVl hk [.ref (z.2.1 8), .int (M.1 2 2)] _ sh35 rfl mtX0_bestJoining mlX9_251 (by decide) (by decide) rfl rfl (Nat.le_of_ble_eq_true rfl) dX9_joined_35 (kX0_bestJoining _ z M (M.1 2 2) r2 hr2) ?_
      refine g_lstore_n hk [(2, .long r2.1), (0, .ref (z.2.1 0)), (1, .int v1)] dX9_joined_38 rfl (by decide) rfl ?_
      refine g_aload_n hk 1 dX9_joined_39 rfl ?_
      refine gfX9_38 hk dX9_joined_40 ?_
      refine g_lload_n hk 0 dX9_joined_43 rfl ?_
      refine g_iload_n hk 2 dX9_joined_44 rfl ?_
      obtain ⟨r3, hr3, h⟩ := bnd h
      refine g_callSi hk [.long r2.1, .int v1] _ mtX0_choiceIn mlX9_262 (by decide) (by decide) rfl rfl (Nat.le_of_ble_eq_true rfl) dX9_joined_45 (kX0_choiceIn _ z r2.2 r2.1 v1 r3 hr3) ?_
      obtain ⟨r4, hr4, h⟩ := bnd h
      refine g_callVi hk [.int r3] _ sh8 rfl mtX1_openOne mlX9_266 (by decide) (by decide) rfl rfl (Nat.le_of_ble_eq_true rfl) dX9_joined_48 (kX1_openOne _ z r2.2 r3 r4 hr4) ?_
      exact g_iret (val := fun q => q.1) (mem := fun q => q.2) hc rfl dX9_joined_51 h ret2
    · refine g_aload_n hk 0 dX9_joined_15 rfl ?_
      refine g_iconst hk (-1) dX9_joined_16 (by decide) ?_
      obtain ⟨r5, hr5, h⟩ := bnd h
      refine g_callVi hk [.int (-1)] _ sh0 rfl mtX9_refuse mlX9_116 (by decide) (by decide) rfl rfl (Nat.le_of_ble_eq_true rfl) dX9_joined_17 (kX9_refuse _ z M (-1) r5 hr5) ?_
      exact g_iret (val := fun q => q.1) (mem := fun q => q.2) hc rfl dX9_joined_20 h ret2
set_option maxHeartbeats 4000000 in
set_option maxRecDepth 100000 in
theorem kX9_job (l : Launch) (z : Lay) (M : Mem) (v1 : Int32) (v2 : Int32) (v3 : Int32) (r : Int32 × Mem) (h : xX9_job M v1 v2 v3 = some r) : Con l z yX9_job cX9_job 4 (some .int) 1 [.ref (z.2.1 0), .int v1, .int v2, .int v3] M (some (.int r.1)) r.2 := by
  refine Con.of (by decide) (Nat.le_of_ble_eq_true rfl) ?_
  intro x hl hc
  subst hl
  have hk : okc x z cX9_job RX9 4 1 := hc.1
  show G x z 4 0 [(0, .ref (z.2.1 0)), (1, .int v1), (2, .int v2), (3, .int v3)] [] M
  unfold xX9_job at h
  refine g_iload_n hk 1 dX9_job_0 rfl ?_
  refine g_iconst hk 1 dX9_job_1 (by decide) ?_
  refine g_icmplt hk (tgt := 13) dX9_job_2 (by decide) h (fun h => ?_) (fun h => ?_)
  · refine g_aload_n hk 0 dX9_job_13 rfl ?_
    refine g_bipush hk (-4) dX9_job_14 (by decide) ?_
    obtain ⟨r1, hr1, h⟩ := bnd h
    refine g_callVi hk [.int (-4)] _ sh0 rfl mtX9_refuse mlX9_116 (by decide) (by decide) rfl rfl (Nat.le_of_ble_eq_true rfl) dX9_job_16 (kX9_refuse _ z M (-4) r1 hr1) ?_
    exact g_iret (val := fun q => q.1) (mem := fun q => q.2) hc rfl dX9_job_19 h ret2
  · refine g_iload_n hk 2 dX9_job_5 rfl ?_
    refine g_iflt hk (tgt := 13) dX9_job_6 (by decide) h (fun h => ?_) (fun h => ?_)
    · refine g_aload_n hk 0 dX9_job_13 rfl ?_
      refine g_bipush hk (-4) dX9_job_14 (by decide) ?_
      obtain ⟨r2, hr2, h⟩ := bnd h
      refine g_callVi hk [.int (-4)] _ sh0 rfl mtX9_refuse mlX9_116 (by decide) (by decide) rfl rfl (Nat.le_of_ble_eq_true rfl) dX9_job_16 (kX9_refuse _ z M (-4) r2 hr2) ?_
      exact g_iret (val := fun q => q.1) (mem := fun q => q.2) hc rfl dX9_job_19 h ret2
    · refine g_iload_n hk 3 dX9_job_9 rfl ?_
      refine g_ifge hk (tgt := 20) dX9_job_10 (by decide) h (fun h => ?_) (fun h => ?_)
      · refine g_iload_n hk 1 dX9_job_20 rfl ?_
        refine g_bipush hk 40 dX9_job_21 (by decide) ?_
        refine g_icmpgt hk (tgt := 51) dX9_job_23 (by decide) h (fun h => ?_) (fun h => ?_)
        · refine g_aload_n hk 0 dX9_job_51 rfl ?_
          refine g_bipush hk (-6) dX9_job_52 (by decide) ?_
          obtain ⟨r3, hr3, h⟩ := bnd h
          refine g_callVi hk [.int (-6)] _ sh0 rfl mtX9_refuse mlX9_116 (by decide) (by decide) rfl rfl (Nat.le_of_ble_eq_true rfl) dX9_job_54 (kX9_refuse _ z M (-6) r3 hr3) ?_
          exact g_iret (val := fun q => q.1) (mem := fun q => q.2) hc rfl dX9_job_57 h ret2
        · refine g_iload_n hk 2 dX9_job_26 rfl ?_
          refine g_sipush hk 400 dX9_job_27 (by decide) ?_
          refine g_icmpgt hk (tgt := 51) dX9_job_30 (by decide) h (fun h => ?_) (fun h => ?_)
          · refine g_aload_n hk 0 dX9_job_51 rfl ?_
            refine g_bipush hk (-6) dX9_job_52 (by decide) ?_
            obtain ⟨r4, hr4, h⟩ := bnd h
            refine g_callVi hk [.int (-6)] _ sh0 rfl mtX9_refuse mlX9_116 (by decide) (by decide) rfl rfl (Nat.le_of_ble_eq_true rfl) dX9_job_54 (kX9_refuse _ z M (-6) r4 hr4) ?_
            exact g_iret (val := fun q => q.1) (mem := fun q => q.2) hc rfl dX9_job_57 h ret2
          · refine g_iload_n hk 3 dX9_job_33 rfl ?_
            refine g_bipush hk 15 dX9_job_34 (by decide) ?_
            refine g_icmpgt hk (tgt := 51) dX9_job_36 (by decide) h (fun h => ?_) (fun h => ?_)
            · refine g_aload_n hk 0 dX9_job_51 rfl ?_
              refine g_bipush hk (-6) dX9_job_52 (by decide) ?_
              obtain ⟨r5, hr5, h⟩ := bnd h
              refine g_callVi hk [.int (-6)] _ sh0 rfl mtX9_refuse mlX9_116 (by decide) (by decide) rfl rfl (Nat.le_of_ble_eq_true rfl) dX9_job_54 (kX9_refuse _ z M (-6) r5 hr5) ?_
              exact g_iret (val := fun q => q.1) (mem := fun q => q.2) hc rfl dX9_job_57 h ret2
            · refine g_aload_n hk 0 dX9_job_39 rfl ?_
              refine gfX9_86 hk dX9_job_40 ?_
              refine gfX9_269 hk dX9_job_43 (M.1 41 0) rfl ?_
              refine g_bipush hk 8 dX9_job_46 (by decide) ?_
              refine g_icmplt hk (tgt := 58) dX9_job_48 (by decide) h (fun h => ?_) (fun h => ?_)
              · refine g_aload_n hk 0 dX9_job_58 rfl ?_
                refine gfX9_86 hk dX9_job_59 ?_
                refine g_iload_n hk 1 dX9_job_62 rfl ?_
                refine g_iload_n hk 2 dX9_job_63 rfl ?_
                refine g_iload_n hk 3 dX9_job_64 rfl ?_
                obtain ⟨r6, hr6, h⟩ := bnd h
                refine g_callVi hk [.int v1, .int v2, .int v3] _ sh41 rfl mtX3_add mlX9_272 (by decide) (by decide) rfl rfl (Nat.le_of_ble_eq_true rfl) dX9_job_65 (kX3_add _ z M v1 v2 v3 r6 hr6) ?_
                exact g_iret (val := fun q => q.1) (mem := fun q => q.2) hc rfl dX9_job_68 h ret2
              · refine g_aload_n hk 0 dX9_job_51 rfl ?_
                refine g_bipush hk (-6) dX9_job_52 (by decide) ?_
                obtain ⟨r7, hr7, h⟩ := bnd h
                refine g_callVi hk [.int (-6)] _ sh0 rfl mtX9_refuse mlX9_116 (by decide) (by decide) rfl rfl (Nat.le_of_ble_eq_true rfl) dX9_job_54 (kX9_refuse _ z M (-6) r7 hr7) ?_
                exact g_iret (val := fun q => q.1) (mem := fun q => q.2) hc rfl dX9_job_57 h ret2
      · refine g_aload_n hk 0 dX9_job_13 rfl ?_
        refine g_bipush hk (-4) dX9_job_14 (by decide) ?_
        obtain ⟨r8, hr8, h⟩ := bnd h
        refine g_callVi hk [.int (-4)] _ sh0 rfl mtX9_refuse mlX9_116 (by decide) (by decide) rfl rfl (Nat.le_of_ble_eq_true rfl) dX9_job_16 (kX9_refuse _ z M (-4) r8 hr8) ?_
        exact g_iret (val := fun q => q.1) (mem := fun q => q.2) hc rfl dX9_job_19 h ret2
set_option maxHeartbeats 4000000 in
set_option maxRecDepth 100000 in
theorem kX9_gang (l : Launch) (z : Lay) (M : Mem) (v1 : Int32) (v2 : Int32) (r : Int32 × Mem) (h : xX9_gang M v1 v2 = some r) : Con l z yX9_gang cX9_gang 4 (some .int) 1 [.ref (z.2.1 0), .int v1, .int v2] M (some (.int r.1)) r.2 := by
  refine Con.of (by decide) (Nat.le_of_ble_eq_true rfl) ?_
  intro x hl hc
  subst hl
  have hk : okc x z cX9_gang RX9 4 1 := hc.1
  show G x z 4 0 [(0, .ref (z.2.1 0)), (1, .int v1), (2, .int v2)] [] M
  unfold xX9_gang at h
  refine g_iload_n hk 1 dX9_gang_0 rfl ?_
  refine g_iflt hk (tgt := 9) dX9_gang_1 (by decide) h (fun h => ?_) (fun h => ?_)
  · refine g_aload_n hk 0 dX9_gang_9 rfl ?_
    refine g_iconst hk (-1) dX9_gang_10 (by decide) ?_
    obtain ⟨r1, hr1, h⟩ := bnd h
    refine g_callVi hk [.int (-1)] _ sh0 rfl mtX9_refuse mlX9_116 (by decide) (by decide) rfl rfl (Nat.le_of_ble_eq_true rfl) dX9_gang_11 (kX9_refuse _ z M (-1) r1 hr1) ?_
    exact g_iret (val := fun q => q.1) (mem := fun q => q.2) hc rfl dX9_gang_14 h ret2
  · refine g_iload_n hk 1 dX9_gang_4 rfl ?_
    refine g_iconst hk 1 dX9_gang_5 (by decide) ?_
    refine g_icmple hk (tgt := 15) dX9_gang_6 (by decide) h (fun h => ?_) (fun h => ?_)
    · refine g_iload_n hk 2 dX9_gang_15 rfl ?_
      refine g_ifge hk (tgt := 26) dX9_gang_16 (by decide) h (fun h => ?_) (fun h => ?_)
      · refine g_iload_n hk 2 dX9_gang_26 rfl ?_
        refine g_bipush hk 15 dX9_gang_27 (by decide) ?_
        refine g_icmple hk (tgt := 39) dX9_gang_29 (by decide) h (fun h => ?_) (fun h => ?_)
        · refine g_aload_n hk 0 dX9_gang_39 rfl ?_
          refine gfX9_86 hk dX9_gang_40 ?_
          refine gfX9_273 hk dX9_gang_43 ?_
          refine g_iload_n hk 1 dX9_gang_46 rfl ?_
          obtain ⟨hi1, h⟩ := ck_e h
          refine g_iald hk sh42 dX9_gang_47 hi1 (M.1 42 (ix v1)) rfl ?_
          refine g_istore_n hk [(3, .int (M.1 42 (ix v1))), (0, .ref (z.2.1 0)), (1, .int v1), (2, .int v2)] dX9_gang_48 rfl (by decide) rfl ?_
          refine g_aload_n hk 1 dX9_gang_49 rfl ?_
          refine gfX9_86 hk dX9_gang_50 ?_
          refine gfX9_273 hk dX9_gang_53 ?_
          refine g_iload_n hk 2 dX9_gang_56 rfl ?_
          refine g_iload_n hk 3 dX9_gang_57 rfl ?_
          refine g_iast hk sh42 dX9_gang_58 hi1 ?_
          refine g_iload_n hk 0 dX9_gang_59 rfl ?_
          exact g_iret (val := fun q => q.1) (mem := fun q => q.2) hc rfl dX9_gang_60 h ret2
        · refine g_aload_n hk 0 dX9_gang_32 rfl ?_
          refine g_bipush hk (-6) dX9_gang_33 (by decide) ?_
          obtain ⟨r2, hr2, h⟩ := bnd h
          refine g_callVi hk [.int (-6)] _ sh0 rfl mtX9_refuse mlX9_116 (by decide) (by decide) rfl rfl (Nat.le_of_ble_eq_true rfl) dX9_gang_35 (kX9_refuse _ z M (-6) r2 hr2) ?_
          exact g_iret (val := fun q => q.1) (mem := fun q => q.2) hc rfl dX9_gang_38 h ret2
      · refine g_aload_n hk 0 dX9_gang_19 rfl ?_
        refine g_bipush hk (-4) dX9_gang_20 (by decide) ?_
        obtain ⟨r3, hr3, h⟩ := bnd h
        refine g_callVi hk [.int (-4)] _ sh0 rfl mtX9_refuse mlX9_116 (by decide) (by decide) rfl rfl (Nat.le_of_ble_eq_true rfl) dX9_gang_22 (kX9_refuse _ z M (-4) r3 hr3) ?_
        exact g_iret (val := fun q => q.1) (mem := fun q => q.2) hc rfl dX9_gang_25 h ret2
    · refine g_aload_n hk 0 dX9_gang_9 rfl ?_
      refine g_iconst hk (-1) dX9_gang_10 (by decide) ?_
      obtain ⟨r4, hr4, h⟩ := bnd h
      refine g_callVi hk [.int (-1)] _ sh0 rfl mtX9_refuse mlX9_116 (by decide) (by decide) rfl rfl (Nat.le_of_ble_eq_true rfl) dX9_gang_11 (kX9_refuse _ z M (-1) r4 hr4) ?_
      exact g_iret (val := fun q => q.1) (mem := fun q => q.2) hc rfl dX9_gang_14 h ret2
set_option maxHeartbeats 4000000 in
set_option maxRecDepth 100000 in
theorem kX9_plan (l : Launch) (z : Lay) (M : Mem) (v1 : Int32) (r : Int32 × Mem) (h : xX9_plan M v1 = some r) : Con l z yX9_plan cX9_plan 3 (some .int) 3 [.ref (z.2.1 0), .int v1] M (some (.int r.1)) r.2 := by
  refine Con.of (by decide) (Nat.le_of_ble_eq_true rfl) ?_
  intro x hl hc
  subst hl
  have hk : okc x z cX9_plan RX9 3 3 := hc.1
  show G x z 3 0 [(0, .ref (z.2.1 0)), (1, .int v1)] [] M
  unfold xX9_plan at h
  refine g_iload_n hk 1 dX9_plan_0 rfl ?_
  refine g_iflt hk (tgt := 9) dX9_plan_1 (by decide) h (fun h => ?_) (fun h => ?_)
  · refine g_aload_n hk 0 dX9_plan_9 rfl ?_
    refine g_bipush hk (-2) dX9_plan_10 (by decide) ?_
    obtain ⟨r1, hr1, h⟩ := bnd h
    refine g_callVi hk [.int (-2)] _ sh0 rfl mtX9_refuse mlX9_116 (by decide) (by decide) rfl rfl (Nat.le_of_ble_eq_true rfl) dX9_plan_12 (kX9_refuse _ z M (-2) r1 hr1) ?_
    exact g_iret (val := fun q => q.1) (mem := fun q => q.2) hc rfl dX9_plan_15 h ret2
  · refine g_iload_n hk 1 dX9_plan_4 rfl ?_
    refine g_iconst hk 1 dX9_plan_5 (by decide) ?_
    refine g_icmple hk (tgt := 16) dX9_plan_6 (by decide) h (fun h => ?_) (fun h => ?_)
    · refine g_aload_n hk 0 dX9_plan_16 rfl ?_
      refine gfX9_86 hk dX9_plan_17 ?_
      obtain ⟨r2, hr2, h⟩ := bnd h
      refine g_callVi hk [] _ sh41 rfl mtX3_bestPlan mlX9_276 (by decide) (by decide) rfl rfl (Nat.le_of_ble_eq_true rfl) dX9_plan_20 (kX3_bestPlan _ z M  r2 hr2) ?_
      refine g_istore_n hk [(2, .int r2), (0, .ref (z.2.1 0)), (1, .int v1)] dX9_plan_23 rfl (by decide) rfl ?_
      refine g_iload_n hk 0 dX9_plan_24 rfl ?_
      refine g_bipush hk (-9) dX9_plan_25 (by decide) ?_
      refine g_icmpne hk (tgt := 33) dX9_plan_27 (by decide) h (fun h => ?_) (fun h => ?_)
      · refine g_iload_n hk 2 dX9_plan_33 rfl ?_
        refine g_ifne hk (tgt := 44) dX9_plan_34 (by decide) h (fun h => ?_) (fun h => ?_)
        · refine g_iload_n hk 0 dX9_plan_44 rfl ?_
          obtain ⟨r3, hr3, h⟩ := bnd h
          refine g_callSi hk [.int r2] _ mtX3_togetherIn mlX9_283 (by decide) (by decide) rfl rfl (Nat.le_of_ble_eq_true rfl) dX9_plan_45 (kX3_togetherIn _ z M r2 r3 hr3) ?_
          exact g_iret (val := fun q => q.1) (mem := fun q => q.2) hc rfl dX9_plan_48 h ret2
        · refine g_iload_n hk 0 dX9_plan_37 rfl ?_
          obtain ⟨r4, hr4, h⟩ := bnd h
          refine g_callSi hk [.int r2] _ mtX3_worstIn mlX9_280 (by decide) (by decide) rfl rfl (Nat.le_of_ble_eq_true rfl) dX9_plan_38 (kX3_worstIn _ z M r2 r4 hr4) ?_
          refine g_goto hk (tgt := 48) dX9_plan_41 (by decide) ?_
          exact g_iret (val := fun q => q.1) (mem := fun q => q.2) hc rfl dX9_plan_48 h ret2
      · refine g_bipush hk (-9) dX9_plan_30 (by decide) ?_
        exact g_iret (val := fun q => q.1) (mem := fun q => q.2) hc rfl dX9_plan_32 h ret2
    · refine g_aload_n hk 0 dX9_plan_9 rfl ?_
      refine g_bipush hk (-2) dX9_plan_10 (by decide) ?_
      obtain ⟨r5, hr5, h⟩ := bnd h
      refine g_callVi hk [.int (-2)] _ sh0 rfl mtX9_refuse mlX9_116 (by decide) (by decide) rfl rfl (Nat.le_of_ble_eq_true rfl) dX9_plan_12 (kX9_refuse _ z M (-2) r5 hr5) ?_
      exact g_iret (val := fun q => q.1) (mem := fun q => q.2) hc rfl dX9_plan_15 h ret2
set_option maxHeartbeats 4000000 in
set_option maxRecDepth 100000 in
theorem kX9_gangOf (l : Launch) (z : Lay) (M : Mem) (v1 : Int32) (r : Int32 × Mem) (h : xX9_gangOf M v1 = some r) : Con l z yX9_gangOf cX9_gangOf 3 (some .int) 3 [.ref (z.2.1 0), .int v1] M (some (.int r.1)) r.2 := by
  refine Con.of (by decide) (Nat.le_of_ble_eq_true rfl) ?_
  intro x hl hc
  subst hl
  have hk : okc x z cX9_gangOf RX9 3 3 := hc.1
  show G x z 3 0 [(0, .ref (z.2.1 0)), (1, .int v1)] [] M
  unfold xX9_gangOf at h
  refine g_iload_n hk 1 dX9_gangOf_0 rfl ?_
  refine g_iflt hk (tgt := 15) dX9_gangOf_1 (by decide) h (fun h => ?_) (fun h => ?_)
  · refine g_aload_n hk 0 dX9_gangOf_15 rfl ?_
    refine g_iconst hk (-1) dX9_gangOf_16 (by decide) ?_
    obtain ⟨r1, hr1, h⟩ := bnd h
    refine g_callVi hk [.int (-1)] _ sh0 rfl mtX9_refuse mlX9_116 (by decide) (by decide) rfl rfl (Nat.le_of_ble_eq_true rfl) dX9_gangOf_17 (kX9_refuse _ z M (-1) r1 hr1) ?_
    exact g_iret (val := fun q => q.1) (mem := fun q => q.2) hc rfl dX9_gangOf_20 h ret2
  · refine g_iload_n hk 1 dX9_gangOf_4 rfl ?_
    refine g_aload_n hk 0 dX9_gangOf_5 rfl ?_
    refine gfX9_86 hk dX9_gangOf_6 ?_
    refine gfX9_269 hk dX9_gangOf_9 (M.1 41 0) rfl ?_
    refine g_icmplt hk (tgt := 21) dX9_gangOf_12 (by decide) h (fun h => ?_) (fun h => ?_)
    · refine g_aload_n hk 0 dX9_gangOf_21 rfl ?_
      refine gfX9_86 hk dX9_gangOf_22 ?_
      obtain ⟨r2, hr2, h⟩ := bnd h
      refine g_callVi hk [] _ sh41 rfl mtX3_bestPlan mlX9_276 (by decide) (by decide) rfl rfl (Nat.le_of_ble_eq_true rfl) dX9_gangOf_25 (kX3_bestPlan _ z M  r2 hr2) ?_
      refine g_istore_n hk [(2, .int r2), (0, .ref (z.2.1 0)), (1, .int v1)] dX9_gangOf_28 rfl (by decide) rfl ?_
      refine g_iload_n hk 0 dX9_gangOf_29 rfl ?_
      refine g_bipush hk (-9) dX9_gangOf_30 (by decide) ?_
      refine g_icmpne hk (tgt := 40) dX9_gangOf_32 (by decide) h (fun h => ?_) (fun h => ?_)
      · refine g_aload_n hk 1 dX9_gangOf_40 rfl ?_
        refine gfX9_86 hk dX9_gangOf_41 ?_
        refine g_iload_n hk 0 dX9_gangOf_44 rfl ?_
        obtain ⟨r3, hr3, h⟩ := bnd h
        refine g_callSi hk [.int r2] _ mtX3_wayIn mlX9_286 (by decide) (by decide) rfl rfl (Nat.le_of_ble_eq_true rfl) dX9_gangOf_45 (kX3_wayIn _ z M r2 r3 hr3) ?_
        refine g_iload_n hk 2 dX9_gangOf_48 rfl ?_
        obtain ⟨r4, hr4, h⟩ := bnd h
        refine g_callVi hk [.int r3, .int v1] _ sh41 rfl mtX3_gangIn mlX9_289 (by decide) (by decide) rfl rfl (Nat.le_of_ble_eq_true rfl) dX9_gangOf_49 (kX3_gangIn _ z M r3 v1 r4 hr4) ?_
        exact g_iret (val := fun q => q.1) (mem := fun q => q.2) hc rfl dX9_gangOf_52 h ret2
      · refine g_bipush hk (-9) dX9_gangOf_35 (by decide) ?_
        refine g_goto hk (tgt := 52) dX9_gangOf_37 (by decide) ?_
        exact g_iret (val := fun q => q.1) (mem := fun q => q.2) hc rfl dX9_gangOf_52 h ret2
    · refine g_aload_n hk 0 dX9_gangOf_15 rfl ?_
      refine g_iconst hk (-1) dX9_gangOf_16 (by decide) ?_
      obtain ⟨r5, hr5, h⟩ := bnd h
      refine g_callVi hk [.int (-1)] _ sh0 rfl mtX9_refuse mlX9_116 (by decide) (by decide) rfl rfl (Nat.le_of_ble_eq_true rfl) dX9_gangOf_17 (kX9_refuse _ z M (-1) r5 hr5) ?_
      exact g_iret (val := fun q => q.1) (mem := fun q => q.2) hc rfl dX9_gangOf_20 h ret2
set_option maxHeartbeats 4000000 in
set_option maxRecDepth 100000 in
theorem gjX9_rail_61 {x : Cx} {z : Lay} {r : Int32 × Mem} (hc : okm x z cX9_rail RX9 4 2 (some .int) (some (.int r.1)) r.2)  (M : Mem) (v1 : Int32) (v2 : Int32) (v3 : Int32) (s0 : Int32) (s1 : Int32) (h : jX9_rail_61  M v1 v2 v3 s0 s1 = some r) : G x z 4 61 [(0, .ref (z.2.1 0)), (1, .int v1), (2, .int v2), (3, .int v3)] [.int s1, .int s0] M := by
  have hk := hc.1
  unfold jX9_rail_61 at h
  refine g_icmple hk (tgt := 71) dX9_rail_61 (by decide) h (fun h => ?_) (fun h => ?_)
  · refine g_iload_n hk 2 dX9_rail_71 rfl ?_
    refine g_ifne hk (tgt := 87) dX9_rail_72 (by decide) h (fun h => ?_) (fun h => ?_)
    · refine g_aload_n hk 0 dX9_rail_87 rfl ?_
      refine gfX9_93 hk dX9_rail_88 ?_
      refine g_iload_n hk 1 dX9_rail_91 rfl ?_
      refine g_iload_n hk 3 dX9_rail_92 rfl ?_
      obtain ⟨r1, hr1, h⟩ := bnd h
      refine g_callVi hk [.int v1, .int v3] _ sh47 rfl mtX4_giveLot mlX9_292 (by decide) (by decide) rfl rfl (Nat.le_of_ble_eq_true rfl) dX9_rail_93 (kX4_giveLot _ z M v1 v3 r1 hr1) ?_
      exact g_iret (val := fun q => q.1) (mem := fun q => q.2) hc rfl dX9_rail_96 h ret2
    · refine g_aload_n hk 0 dX9_rail_75 rfl ?_
      refine gfX9_93 hk dX9_rail_76 ?_
      refine g_iload_n hk 1 dX9_rail_79 rfl ?_
      refine g_iload_n hk 3 dX9_rail_80 rfl ?_
      obtain ⟨r2, hr2, h⟩ := bnd h
      refine g_callVi hk [.int v1, .int v3] _ sh47 rfl mtX4_lay mlX9_182 (by decide) (by decide) rfl rfl (Nat.le_of_ble_eq_true rfl) dX9_rail_81 (kX4_lay _ z M v1 v3 r2 hr2) ?_
      refine g_goto hk (tgt := 96) dX9_rail_84 (by decide) ?_
      exact g_iret (val := fun q => q.1) (mem := fun q => q.2) hc rfl dX9_rail_96 h ret2
  · refine g_aload_n hk 0 dX9_rail_64 rfl ?_
    refine g_bipush hk (-6) dX9_rail_65 (by decide) ?_
    obtain ⟨r3, hr3, h⟩ := bnd h
    refine g_callVi hk [.int (-6)] _ sh0 rfl mtX9_refuseAsTold mlX9_101 (by decide) (by decide) rfl rfl (Nat.le_of_ble_eq_true rfl) dX9_rail_67 (kX9_refuseAsTold _ z M (-6) r3 hr3) ?_
    exact g_iret (val := fun q => q.1) (mem := fun q => q.2) hc rfl dX9_rail_70 h ret2
set_option maxHeartbeats 4000000 in
set_option maxRecDepth 100000 in
theorem gjX9_rail_40 {x : Cx} {z : Lay} {r : Int32 × Mem} (hc : okm x z cX9_rail RX9 4 2 (some .int) (some (.int r.1)) r.2)  (M : Mem) (v1 : Int32) (v2 : Int32) (v3 : Int32) (s0 : Int32) (s1 : Int32) (h : jX9_rail_40  M v1 v2 v3 s0 s1 = some r) : G x z 4 40 [(0, .ref (z.2.1 0)), (1, .int v1), (2, .int v2), (3, .int v3)] [.int s1, .int s0] M := by
  have hk := hc.1
  unfold jX9_rail_40 at h
  refine g_icmpge hk (tgt := 50) dX9_rail_40 (by decide) h (fun h => ?_) (fun h => ?_)
  · refine g_iload_n hk 3 dX9_rail_50 rfl ?_
    refine g_iload_n hk 2 dX9_rail_51 rfl ?_
    refine g_ifne hk (tgt := 60) dX9_rail_52 (by decide) h (fun h => ?_) (fun h => ?_)
    · refine g_iconst hk 5 dX9_rail_60 (by decide) ?_
      exact g_weak [0, 1, 2, 3] [(0, .ref (z.2.1 0)), (1, .int v1), (2, .int v2), (3, .int v3)] rfl (gjX9_rail_61 hc  M v1 v2 v3 v3 5 h)
    · refine g_bipush hk 50 dX9_rail_55 (by decide) ?_
      refine g_goto hk (tgt := 61) dX9_rail_57 (by decide) ?_
      exact g_weak [0, 1, 2, 3] [(0, .ref (z.2.1 0)), (1, .int v1), (2, .int v2), (3, .int v3)] rfl (gjX9_rail_61 hc  M v1 v2 v3 v3 50 h)
  · refine g_aload_n hk 0 dX9_rail_43 rfl ?_
    refine g_bipush hk (-4) dX9_rail_44 (by decide) ?_
    obtain ⟨r1, hr1, h⟩ := bnd h
    refine g_callVi hk [.int (-4)] _ sh0 rfl mtX9_refuseAsTold mlX9_101 (by decide) (by decide) rfl rfl (Nat.le_of_ble_eq_true rfl) dX9_rail_46 (kX9_refuseAsTold _ z M (-4) r1 hr1) ?_
    exact g_iret (val := fun q => q.1) (mem := fun q => q.2) hc rfl dX9_rail_49 h ret2
set_option maxHeartbeats 4000000 in
set_option maxRecDepth 100000 in
theorem kX9_rail (l : Launch) (z : Lay) (M : Mem) (v1 : Int32) (v2 : Int32) (v3 : Int32) (r : Int32 × Mem) (h : xX9_rail M v1 v2 v3 = some r) : Con l z yX9_rail cX9_rail 4 (some .int) 2 [.ref (z.2.1 0), .int v1, .int v2, .int v3] M (some (.int r.1)) r.2 := by
  refine Con.of (by decide) (Nat.le_of_ble_eq_true rfl) ?_
  intro x hl hc
  subst hl
  have hk : okc x z cX9_rail RX9 4 2 := hc.1
  show G x z 4 0 [(0, .ref (z.2.1 0)), (1, .int v1), (2, .int v2), (3, .int v3)] [] M
  unfold xX9_rail at h
  refine g_iload_n hk 1 dX9_rail_0 rfl ?_
  obtain ⟨r1, hr1, h⟩ := bnd h
  refine g_callSi hk [.int v1] _ mtX9_isMile mlX9_125 (by decide) (by decide) rfl rfl (Nat.le_of_ble_eq_true rfl) dX9_rail_1 (kX9_isMile _ z M v1 r1 hr1) ?_
  refine g_ifne hk (tgt := 13) dX9_rail_4 (by decide) h (fun h => ?_) (fun h => ?_)
  · refine g_iload_n hk 2 dX9_rail_13 rfl ?_
    refine g_iflt hk (tgt := 22) dX9_rail_14 (by decide) h (fun h => ?_) (fun h => ?_)
    · refine g_aload_n hk 0 dX9_rail_22 rfl ?_
      refine g_bipush hk (-2) dX9_rail_23 (by decide) ?_
      obtain ⟨r2, hr2, h⟩ := bnd h
      refine g_callVi hk [.int (-2)] _ sh0 rfl mtX9_refuseAsTold mlX9_101 (by decide) (by decide) rfl rfl (Nat.le_of_ble_eq_true rfl) dX9_rail_25 (kX9_refuseAsTold _ z M (-2) r2 hr2) ?_
      exact g_iret (val := fun q => q.1) (mem := fun q => q.2) hc rfl dX9_rail_28 h ret2
    · refine g_iload_n hk 2 dX9_rail_17 rfl ?_
      refine g_iconst hk 1 dX9_rail_18 (by decide) ?_
      refine g_icmple hk (tgt := 29) dX9_rail_19 (by decide) h (fun h => ?_) (fun h => ?_)
      · refine g_iload_n hk 3 dX9_rail_29 rfl ?_
        refine g_iload_n hk 2 dX9_rail_30 rfl ?_
        refine g_ifne hk (tgt := 39) dX9_rail_31 (by decide) h (fun h => ?_) (fun h => ?_)
        · refine g_iconst hk 0 dX9_rail_39 (by decide) ?_
          exact g_weak [0, 1, 2, 3] [(0, .ref (z.2.1 0)), (1, .int v1), (2, .int v2), (3, .int v3)] rfl (gjX9_rail_40 hc  M v1 v2 v3 v3 0 h)
        · refine g_bipush hk (-30) dX9_rail_34 (by decide) ?_
          refine g_goto hk (tgt := 40) dX9_rail_36 (by decide) ?_
          exact g_weak [0, 1, 2, 3] [(0, .ref (z.2.1 0)), (1, .int v1), (2, .int v2), (3, .int v3)] rfl (gjX9_rail_40 hc  M v1 v2 v3 v3 (-30) h)
      · refine g_aload_n hk 0 dX9_rail_22 rfl ?_
        refine g_bipush hk (-2) dX9_rail_23 (by decide) ?_
        obtain ⟨r3, hr3, h⟩ := bnd h
        refine g_callVi hk [.int (-2)] _ sh0 rfl mtX9_refuseAsTold mlX9_101 (by decide) (by decide) rfl rfl (Nat.le_of_ble_eq_true rfl) dX9_rail_25 (kX9_refuseAsTold _ z M (-2) r3 hr3) ?_
        exact g_iret (val := fun q => q.1) (mem := fun q => q.2) hc rfl dX9_rail_28 h ret2
  · refine g_aload_n hk 0 dX9_rail_7 rfl ?_
    refine g_iconst hk (-1) dX9_rail_8 (by decide) ?_
    obtain ⟨r4, hr4, h⟩ := bnd h
    refine g_callVi hk [.int (-1)] _ sh0 rfl mtX9_refuseAsTold mlX9_101 (by decide) (by decide) rfl rfl (Nat.le_of_ble_eq_true rfl) dX9_rail_9 (kX9_refuseAsTold _ z M (-1) r4 hr4) ?_
    exact g_iret (val := fun q => q.1) (mem := fun q => q.2) hc rfl dX9_rail_12 h ret2
set_option maxHeartbeats 4000000 in
set_option maxRecDepth 100000 in
theorem kX9_heat (l : Launch) (z : Lay) (M : Mem) (v1 : Int32) (r : Int32 × Mem) (h : xX9_heat M v1 = some r) : Con l z yX9_heat cX9_heat 2 (some .int) 2 [.ref (z.2.1 0), .int v1] M (some (.int r.1)) r.2 := by
  refine Con.of (by decide) (Nat.le_of_ble_eq_true rfl) ?_
  intro x hl hc
  subst hl
  have hk : okc x z cX9_heat RX9 2 2 := hc.1
  show G x z 2 0 [(0, .ref (z.2.1 0)), (1, .int v1)] [] M
  unfold xX9_heat at h
  refine g_iload_n hk 1 dX9_heat_0 rfl ?_
  obtain ⟨r1, hr1, h⟩ := bnd h
  refine g_callSi hk [.int v1] _ mtX9_isMile mlX9_125 (by decide) (by decide) rfl rfl (Nat.le_of_ble_eq_true rfl) dX9_heat_1 (kX9_isMile _ z M v1 r1 hr1) ?_
  refine g_ifne hk (tgt := 13) dX9_heat_4 (by decide) h (fun h => ?_) (fun h => ?_)
  · refine g_aload_n hk 0 dX9_heat_13 rfl ?_
    refine g_iload_n hk 1 dX9_heat_14 rfl ?_
    obtain ⟨r2, hr2, h⟩ := bnd h
    refine g_callVi hk [.int v1] _ sh0 rfl mtX9_heatOf mlX9_194 (by decide) (by decide) rfl rfl (Nat.le_of_ble_eq_true rfl) dX9_heat_15 (kX9_heatOf _ z M v1 r2 hr2) ?_
    exact g_iret (val := fun q => q.1) (mem := fun q => q.2) hc rfl dX9_heat_18 h ret2
  · refine g_aload_n hk 0 dX9_heat_7 rfl ?_
    refine g_iconst hk (-1) dX9_heat_8 (by decide) ?_
    obtain ⟨r3, hr3, h⟩ := bnd h
    refine g_callVi hk [.int (-1)] _ sh0 rfl mtX9_refuse mlX9_116 (by decide) (by decide) rfl rfl (Nat.le_of_ble_eq_true rfl) dX9_heat_9 (kX9_refuse _ z M (-1) r3 hr3) ?_
    exact g_iret (val := fun q => q.1) (mem := fun q => q.2) hc rfl dX9_heat_12 h ret2
set_option maxHeartbeats 4000000 in
set_option maxRecDepth 100000 in
theorem kX9_lot (l : Launch) (z : Lay) (M : Mem) (v1 : Int32) (v2 : Int32) (r : Int32 × Mem) (h : xX9_lot M v1 v2 = some r) : Con l z yX9_lot cX9_lot 3 (some .int) 1 [.ref (z.2.1 0), .int v1, .int v2] M (some (.int r.1)) r.2 := by
  refine Con.of (by decide) (Nat.le_of_ble_eq_true rfl) ?_
  intro x hl hc
  subst hl
  have hk : okc x z cX9_lot RX9 3 1 := hc.1
  show G x z 3 0 [(0, .ref (z.2.1 0)), (1, .int v1), (2, .int v2)] [] M
  unfold xX9_lot at h
  refine g_iload_n hk 1 dX9_lot_0 rfl ?_
  refine g_iflt hk (tgt := 9) dX9_lot_1 (by decide) h (fun h => ?_) (fun h => ?_)
  · refine g_aload_n hk 0 dX9_lot_9 rfl ?_
    refine g_iconst hk (-1) dX9_lot_10 (by decide) ?_
    obtain ⟨r1, hr1, h⟩ := bnd h
    refine g_callVi hk [.int (-1)] _ sh0 rfl mtX9_refuse mlX9_116 (by decide) (by decide) rfl rfl (Nat.le_of_ble_eq_true rfl) dX9_lot_11 (kX9_refuse _ z M (-1) r1 hr1) ?_
    exact g_iret (val := fun q => q.1) (mem := fun q => q.2) hc rfl dX9_lot_14 h ret2
  · refine g_iload_n hk 1 dX9_lot_4 rfl ?_
    refine g_iconst hk 5 dX9_lot_5 (by decide) ?_
    refine g_icmple hk (tgt := 15) dX9_lot_6 (by decide) h (fun h => ?_) (fun h => ?_)
    · refine g_iload_n hk 2 dX9_lot_15 rfl ?_
      refine g_iflt hk (tgt := 24) dX9_lot_16 (by decide) h (fun h => ?_) (fun h => ?_)
      · refine g_aload_n hk 0 dX9_lot_24 rfl ?_
        refine g_bipush hk (-2) dX9_lot_25 (by decide) ?_
        obtain ⟨r2, hr2, h⟩ := bnd h
        refine g_callVi hk [.int (-2)] _ sh0 rfl mtX9_refuse mlX9_116 (by decide) (by decide) rfl rfl (Nat.le_of_ble_eq_true rfl) dX9_lot_27 (kX9_refuse _ z M (-2) r2 hr2) ?_
        exact g_iret (val := fun q => q.1) (mem := fun q => q.2) hc rfl dX9_lot_30 h ret2
      · refine g_iload_n hk 2 dX9_lot_19 rfl ?_
        refine g_iconst hk 1 dX9_lot_20 (by decide) ?_
        refine g_icmple hk (tgt := 31) dX9_lot_21 (by decide) h (fun h => ?_) (fun h => ?_)
        · refine g_iload_n hk 2 dX9_lot_31 rfl ?_
          refine g_ifne hk (tgt := 47) dX9_lot_32 (by decide) h (fun h => ?_) (fun h => ?_)
          · refine g_aload_n hk 0 dX9_lot_47 rfl ?_
            refine gfX9_93 hk dX9_lot_48 ?_
            refine g_iload_n hk 1 dX9_lot_51 rfl ?_
            obtain ⟨r3, hr3, h⟩ := bnd h
            refine g_callVi hk [.int v1] _ sh47 rfl mtX4_milesWith mlX9_298 (by decide) (by decide) rfl rfl (Nat.le_of_ble_eq_true rfl) dX9_lot_52 (kX4_milesWith _ z M v1 r3 hr3) ?_
            exact g_iret (val := fun q => q.1) (mem := fun q => q.2) hc rfl dX9_lot_55 h ret2
          · refine g_aload_n hk 0 dX9_lot_35 rfl ?_
            refine gfX9_93 hk dX9_lot_36 ?_
            refine gfX9_295 hk dX9_lot_39 ?_
            refine g_iload_n hk 1 dX9_lot_42 rfl ?_
            obtain ⟨hi1, h⟩ := ck_e h
            refine g_iald hk sh49 dX9_lot_43 hi1 (M.1 49 (ix v1)) rfl ?_
            refine g_goto hk (tgt := 55) dX9_lot_44 (by decide) ?_
            exact g_iret (val := fun q => q.1) (mem := fun q => q.2) hc rfl dX9_lot_55 h ret2
        · refine g_aload_n hk 0 dX9_lot_24 rfl ?_
          refine g_bipush hk (-2) dX9_lot_25 (by decide) ?_
          obtain ⟨r4, hr4, h⟩ := bnd h
          refine g_callVi hk [.int (-2)] _ sh0 rfl mtX9_refuse mlX9_116 (by decide) (by decide) rfl rfl (Nat.le_of_ble_eq_true rfl) dX9_lot_27 (kX9_refuse _ z M (-2) r4 hr4) ?_
          exact g_iret (val := fun q => q.1) (mem := fun q => q.2) hc rfl dX9_lot_30 h ret2
    · refine g_aload_n hk 0 dX9_lot_9 rfl ?_
      refine g_iconst hk (-1) dX9_lot_10 (by decide) ?_
      obtain ⟨r5, hr5, h⟩ := bnd h
      refine g_callVi hk [.int (-1)] _ sh0 rfl mtX9_refuse mlX9_116 (by decide) (by decide) rfl rfl (Nat.le_of_ble_eq_true rfl) dX9_lot_11 (kX9_refuse _ z M (-1) r5 hr5) ?_
      exact g_iret (val := fun q => q.1) (mem := fun q => q.2) hc rfl dX9_lot_14 h ret2
set_option maxHeartbeats 4000000 in
set_option maxRecDepth 100000 in
theorem kX9_worst (l : Launch) (z : Lay) (M : Mem)  (r : Int32) (h : xX9_worst M = some r) : Con l z yX9_worst cX9_worst 1 (some .int) 2 [.ref (z.2.1 0)] M (some (.int r)) M := by
  refine Con.of (by decide) (Nat.le_of_ble_eq_true rfl) ?_
  intro x hl hc
  subst hl
  have hk : okc x z cX9_worst RX9 1 2 := hc.1
  show G x z 1 0 [(0, .ref (z.2.1 0))] [] M
  unfold xX9_worst at h
  refine g_aload_n hk 0 dX9_worst_0 rfl ?_
  refine gfX9_93 hk dX9_worst_1 ?_
  obtain ⟨r1, hr1, h⟩ := bnd h
  refine g_callVi hk [] _ sh47 rfl mtX4_worstLot mlX9_301 (by decide) (by decide) rfl rfl (Nat.le_of_ble_eq_true rfl) dX9_worst_4 (kX4_worstLot _ z M  r1 hr1) ?_
  exact g_iret (val := fun q => q) (mem := fun _ => M) hc rfl dX9_worst_7 h ret1
set_option maxHeartbeats 4000000 in
set_option maxRecDepth 100000 in
theorem kX9_sure (l : Launch) (z : Lay) (M : Mem)  (r : Int32) (h : xX9_sure M = some r) : Con l z yX9_sure cX9_sure 1 (some .int) 3 [.ref (z.2.1 0)] M (some (.int r)) M := by
  refine Con.of (by decide) (Nat.le_of_ble_eq_true rfl) ?_
  intro x hl hc
  subst hl
  have hk : okc x z cX9_sure RX9 1 3 := hc.1
  show G x z 1 0 [(0, .ref (z.2.1 0))] [] M
  unfold xX9_sure at h
  refine g_aload_n hk 0 dX9_sure_0 rfl ?_
  refine gfX9_93 hk dX9_sure_1 ?_
  obtain ⟨r1, hr1, h⟩ := bnd h
  refine g_callVi hk [] _ sh47 rfl mtX4_isWorstBeyondDoubt mlX9_304 (by decide) (by decide) rfl rfl (Nat.le_of_ble_eq_true rfl) dX9_sure_4 (kX4_isWorstBeyondDoubt _ z M  r1 hr1) ?_
  refine g_ifeq hk (tgt := 14) dX9_sure_7 (by decide) h (fun h => ?_) (fun h => ?_)
  · refine g_iconst hk 0 dX9_sure_14 (by decide) ?_
    exact g_iret (val := fun q => q) (mem := fun _ => M) hc rfl dX9_sure_15 h ret1
  · refine g_iconst hk 1 dX9_sure_10 (by decide) ?_
    refine g_goto hk (tgt := 15) dX9_sure_11 (by decide) ?_
    exact g_iret (val := fun q => q) (mem := fun _ => M) hc rfl dX9_sure_15 h ret1
set_option maxHeartbeats 4000000 in
set_option maxRecDepth 100000 in
theorem gjX9_count_22 {x : Cx} {z : Lay} {r : Int32} {M : Mem} (hc : okm x z cX9_count RX9 2 2 (some .int) (some (.int r)) M)  (v1 : Int32) (h : jX9_count_22  M v1 = some r) : G x z 2 22 [(0, .ref (z.2.1 0)), (1, .int v1)] [] M := by
  have hk := hc.1
  unfold jX9_count_22 at h
  refine g_iload_n hk 1 dX9_count_22 rfl ?_
  by_cases e0 : v1 = 0
  · rw [if_pos e0] at h
    refine g_tin hk (tgt := 76) (0) e0 dX9_count_23 (by decide) (by decide) rfl (by decide) ?_
    refine g_aload_n hk 0 dX9_count_76 rfl ?_
    refine gfX9_7 hk dX9_count_77 (M.1 0 0) rfl ?_
    exact g_iret (val := fun q => q) (mem := fun _ => M) hc rfl dX9_count_80 h ret1
  · rw [if_neg e0] at h
    by_cases e1 : v1 = 1
    · rw [if_pos e1] at h
      refine g_tin hk (tgt := 81) (1) e1 dX9_count_23 (by decide) (by decide) rfl (by decide) ?_
      refine g_aload_n hk 0 dX9_count_81 rfl ?_
      refine gfX9_38 hk dX9_count_82 ?_
      refine gfX9_128 hk dX9_count_85 (M.1 8 0) rfl ?_
      exact g_iret (val := fun q => q) (mem := fun _ => M) hc rfl dX9_count_88 h ret1
    · rw [if_neg e1] at h
      by_cases e2 : v1 = 2
      · rw [if_pos e2] at h
        refine g_tin hk (tgt := 89) (2) e2 dX9_count_23 (by decide) (by decide) rfl (by decide) ?_
        refine g_aload_n hk 0 dX9_count_89 rfl ?_
        refine gfX9_38 hk dX9_count_90 ?_
        obtain ⟨r1, hr1, h⟩ := bnd h
        refine g_callVi hk [] _ sh8 rfl mtX1_countOpen mlX9_308 (by decide) (by decide) rfl rfl (Nat.le_of_ble_eq_true rfl) dX9_count_93 (kX1_countOpen _ z M  r1 hr1) ?_
        exact g_iret (val := fun q => q) (mem := fun _ => M) hc rfl dX9_count_96 h ret1
      · rw [if_neg e2] at h
        by_cases e3 : v1 = 3
        · rw [if_pos e3] at h
          refine g_tin hk (tgt := 97) (3) e3 dX9_count_23 (by decide) (by decide) rfl (by decide) ?_
          refine g_aload_n hk 0 dX9_count_97 rfl ?_
          refine gfX9_38 hk dX9_count_98 ?_
          refine gfX9_131 hk dX9_count_101 (M.1 8 1) rfl ?_
          exact g_iret (val := fun q => q) (mem := fun _ => M) hc rfl dX9_count_104 h ret1
        · rw [if_neg e3] at h
          by_cases e4 : v1 = 4
          · rw [if_pos e4] at h
            refine g_tin hk (tgt := 105) (4) e4 dX9_count_23 (by decide) (by decide) rfl (by decide) ?_
            refine g_aload_n hk 0 dX9_count_105 rfl ?_
            refine gfX9_38 hk dX9_count_106 ?_
            refine gfX9_311 hk dX9_count_109 (M.1 8 2) rfl ?_
            exact g_iret (val := fun q => q) (mem := fun _ => M) hc rfl dX9_count_112 h ret1
          · rw [if_neg e4] at h
            by_cases e5 : v1 = 5
            · rw [if_pos e5] at h
              refine g_tin hk (tgt := 113) (5) e5 dX9_count_23 (by decide) (by decide) rfl (by decide) ?_
              refine g_aload_n hk 0 dX9_count_113 rfl ?_
              refine gfX9_45 hk dX9_count_114 ?_
              refine gfX9_169 hk dX9_count_117 (M.1 18 0) rfl ?_
              exact g_iret (val := fun q => q) (mem := fun _ => M) hc rfl dX9_count_120 h ret1
            · rw [if_neg e5] at h
              by_cases e6 : v1 = 6
              · rw [if_pos e6] at h
                refine g_tin hk (tgt := 121) (6) e6 dX9_count_23 (by decide) (by decide) rfl (by decide) ?_
                refine g_aload_n hk 0 dX9_count_121 rfl ?_
                refine gfX9_52 hk dX9_count_122 ?_
                obtain ⟨r2, hr2, h⟩ := bnd h
                refine g_callVi hk [] _ sh24 rfl mtX7_countStanding mlX9_314 (by decide) (by decide) rfl rfl (Nat.le_of_ble_eq_true rfl) dX9_count_125 (kX7_countStanding _ z M  r2 hr2) ?_
                exact g_iret (val := fun q => q) (mem := fun _ => M) hc rfl dX9_count_128 h ret1
              · rw [if_neg e6] at h
                by_cases e7 : v1 = 7
                · rw [if_pos e7] at h
                  refine g_tin hk (tgt := 129) (7) e7 dX9_count_23 (by decide) (by decide) rfl (by decide) ?_
                  refine g_aload_n hk 0 dX9_count_129 rfl ?_
                  refine gfX9_59 hk dX9_count_130 ?_
                  refine gfX9_209 hk dX9_count_133 (M.1 26 0) rfl ?_
                  exact g_iret (val := fun q => q) (mem := fun _ => M) hc rfl dX9_count_136 h ret1
                · rw [if_neg e7] at h
                  by_cases e8 : v1 = 8
                  · rw [if_pos e8] at h
                    refine g_tin hk (tgt := 137) (8) e8 dX9_count_23 (by decide) (by decide) rfl (by decide) ?_
                    refine g_aload_n hk 0 dX9_count_137 rfl ?_
                    refine gfX9_79 hk dX9_count_138 ?_
                    refine gfX9_248 hk dX9_count_141 (M.1 35 0) rfl ?_
                    exact g_iret (val := fun q => q) (mem := fun _ => M) hc rfl dX9_count_144 h ret1
                  · rw [if_neg e8] at h
                    by_cases e9 : v1 = 9
                    · rw [if_pos e9] at h
                      refine g_tin hk (tgt := 145) (9) e9 dX9_count_23 (by decide) (by decide) rfl (by decide) ?_
                      refine g_aload_n hk 0 dX9_count_145 rfl ?_
                      refine gfX9_86 hk dX9_count_146 ?_
                      refine gfX9_269 hk dX9_count_149 (M.1 41 0) rfl ?_
                      exact g_iret (val := fun q => q) (mem := fun _ => M) hc rfl dX9_count_152 h ret1
                    · rw [if_neg e9] at h
                      refine g_tout hk (tgt := 153) dX9_count_23 (by have q0 := lv_neT e0 (a := 0) rfl; have q1 := lv_neT e1 (a := 1) rfl; have q2 := lv_neT e2 (a := 2) rfl; have q3 := lv_neT e3 (a := 3) rfl; have q4 := lv_neT e4 (a := 4) rfl; have q5 := lv_neT e5 (a := 5) rfl; have q6 := lv_neT e6 (a := 6) rfl; have q7 := lv_neT e7 (a := 7) rfl; have q8 := lv_neT e8 (a := 8) rfl; have q9 := lv_neT e9 (a := 9) rfl; omega) (by decide) ?_
                      refine g_bipush hk (-9) dX9_count_153 (by decide) ?_
                      exact g_iret (val := fun q => q) (mem := fun _ => M) hc rfl dX9_count_155 h ret1
set_option maxHeartbeats 4000000 in
set_option maxRecDepth 100000 in
theorem kX9_count (l : Launch) (z : Lay) (M : Mem) (v1 : Int32) (r : Int32) (h : xX9_count M v1 = some r) : Con l z yX9_count cX9_count 2 (some .int) 2 [.ref (z.2.1 0), .int v1] M (some (.int r)) M := by
  refine Con.of (by decide) (Nat.le_of_ble_eq_true rfl) ?_
  intro x hl hc
  subst hl
  have hk : okc x z cX9_count RX9 2 2 := hc.1
  show G x z 2 0 [(0, .ref (z.2.1 0)), (1, .int v1)] [] M
  unfold xX9_count at h
  refine g_iload_n hk 1 dX9_count_0 rfl ?_
  refine g_bipush hk 11 dX9_count_1 (by decide) ?_
  refine g_icmplt hk (tgt := 22) dX9_count_3 (by decide) h (fun h => ?_) (fun h => ?_)
  · exact g_weak [0, 1] [(0, .ref (z.2.1 0)), (1, .int v1)] rfl (gjX9_count_22 hc  v1 h)
  · refine g_iload_n hk 1 dX9_count_6 rfl ?_
    refine g_bipush hk 16 dX9_count_7 (by decide) ?_
    refine g_icmpgt hk (tgt := 22) dX9_count_9 (by decide) h (fun h => ?_) (fun h => ?_)
    · exact g_weak [0, 1] [(0, .ref (z.2.1 0)), (1, .int v1)] rfl (gjX9_count_22 hc  v1 h)
    · refine g_aload_n hk 0 dX9_count_12 rfl ?_
      refine gfX9_13 hk dX9_count_13 ?_
      refine g_iload_n hk 1 dX9_count_16 rfl ?_
      refine g_bipush hk 10 dX9_count_17 (by decide) ?_
      refine g_isub hk dX9_count_19 ?_
      obtain ⟨hi1, h⟩ := ck_e h
      refine g_iald hk sh1 dX9_count_20 hi1 (M.1 1 (ix (v1 - 10))) rfl ?_
      exact g_iret (val := fun q => q) (mem := fun _ => M) hc rfl dX9_count_21 h ret1
