set_option maxHeartbeats 4000000 in
set_option maxRecDepth 100000 in
theorem kX9_isDay (l : Launch) (z : Lay) (M : Mem) (v0 : Int32) (r : Int32) (h : xX9_isDay v0 = some r) : Con l z yX9_isDay cX9_isDay 1 (some .boolean) 0 [.int v0] M (some (.int r)) M := by
  refine Con.of (by decide) (Nat.le_of_ble_eq_true rfl) ?_
  intro x hl hc
  subst hl
  have hk : okc x z cX9_isDay RX9 1 0 := hc.1
  show G x z 1 0 [(0, .int v0)] [] M
  unfold xX9_isDay at h
  refine g_iload_n hk 0 dX9_isDay_0 rfl ?_
  refine g_iflt hk (tgt := 15) dX9_isDay_1 (by decide) h (fun h => ?_) (fun h => ?_)
  · refine g_iconst hk 0 dX9_isDay_15 (by decide) ?_
    exact g_zret (val := fun q => q) (mem := fun _ => M) hc rfl dX9_isDay_16 h ret1 (by decide)
  · refine g_iload_n hk 0 dX9_isDay_4 rfl ?_
    refine g_sipush hk 1000 dX9_isDay_5 (by decide) ?_
    refine g_icmpgt hk (tgt := 15) dX9_isDay_8 (by decide) h (fun h => ?_) (fun h => ?_)
    · refine g_iconst hk 0 dX9_isDay_15 (by decide) ?_
      exact g_zret (val := fun q => q) (mem := fun _ => M) hc rfl dX9_isDay_16 h ret1 (by decide)
    · refine g_iconst hk 1 dX9_isDay_11 (by decide) ?_
      refine g_goto hk (tgt := 16) dX9_isDay_12 (by decide) ?_
      exact g_zret (val := fun q => q) (mem := fun _ => M) hc rfl dX9_isDay_16 h ret1 (by decide)
set_option maxHeartbeats 4000000 in
set_option maxRecDepth 100000 in
theorem kX9_refuse (l : Launch) (z : Lay) (M : Mem) (v1 : Int32) (r : Int32 × Mem) (h : xX9_refuse M v1 = some r) : Con l z yX9_refuse cX9_refuse 2 (some .int) 0 [.ref (z.2.1 0), .int v1] M (some (.int r.1)) r.2 := by
  refine Con.of (by decide) (Nat.le_of_ble_eq_true rfl) ?_
  intro x hl hc
  subst hl
  have hk : okc x z cX9_refuse RX9 2 0 := hc.1
  show G x z 2 0 [(0, .ref (z.2.1 0)), (1, .int v1)] [] M
  unfold xX9_refuse at h
  refine g_aload_n hk 0 dX9_refuse_0 rfl ?_
  refine gfX9_13 hk dX9_refuse_1 ?_
  refine g_iload_n hk 1 dX9_refuse_4 rfl ?_
  refine g_ineg hk dX9_refuse_5 ?_
  refine g_dup2 hk dX9_refuse_6 rfl rfl ?_
  obtain ⟨hi1, h⟩ := ck_e h
  refine g_iald hk sh1 dX9_refuse_7 hi1 (M.1 1 (ix (-v1))) rfl ?_
  refine g_iconst hk 1 dX9_refuse_8 (by decide) ?_
  refine g_iadd hk dX9_refuse_9 ?_
  refine g_iast hk sh1 dX9_refuse_10 hi1 ?_
  refine g_iload_n hk 1 dX9_refuse_11 rfl ?_
  exact g_iret (val := fun q => q.1) (mem := fun q => q.2) hc rfl dX9_refuse_12 h ret2
set_option maxHeartbeats 4000000 in
set_option maxRecDepth 100000 in
theorem kX9_refuseAsTold (l : Launch) (z : Lay) (M : Mem) (v1 : Int32) (r : Int32 × Mem) (h : xX9_refuseAsTold M v1 = some r) : Con l z yX9_refuseAsTold cX9_refuseAsTold 2 (some .int) 1 [.ref (z.2.1 0), .int v1] M (some (.int r.1)) r.2 := by
  refine Con.of (by decide) (Nat.le_of_ble_eq_true rfl) ?_
  intro x hl hc
  subst hl
  have hk : okc x z cX9_refuseAsTold RX9 2 1 := hc.1
  show G x z 2 0 [(0, .ref (z.2.1 0)), (1, .int v1)] [] M
  unfold xX9_refuseAsTold at h
  refine g_ldcw hk kcX9_317 dX9_refuseAsTold_0 ?_
  refine g_aload_n hk 0 dX9_refuseAsTold_3 rfl ?_
  refine g_iload_n hk 1 dX9_refuseAsTold_4 rfl ?_
  obtain ⟨r1, hr1, h⟩ := bnd h
  refine g_callVi hk [.int v1] _ sh0 rfl mtX9_refuse mlX9_116 (by decide) (by decide) rfl rfl (Nat.le_of_ble_eq_true rfl) dX9_refuseAsTold_5 (kX9_refuse _ z M v1 r1 hr1) ?_
  refine g_isub hk dX9_refuseAsTold_8 ?_
  exact g_iret (val := fun q => q.1) (mem := fun q => q.2) hc rfl dX9_refuseAsTold_9 h ret2
set_option maxHeartbeats 4000000 in
set_option maxRecDepth 100000 in
theorem kX9_readingsOf (l : Launch) (z : Lay) (M : Mem) (v1 : Int32) (r : Nat) (h : xX9_readingsOf M v1 = some r) : Con l z yX9_readingsOf cX9_readingsOf 2 (some (.object "LineWalkers$Readings")) 0 [.ref (z.2.1 0), .int v1] M (some (.ref (z.2.1 r))) M := by
  refine Con.of (by decide) (Nat.le_of_ble_eq_true rfl) ?_
  intro x hl hc
  subst hl
  have hk : okc x z cX9_readingsOf RX9 2 0 := hc.1
  show G x z 2 0 [(0, .ref (z.2.1 0)), (1, .int v1)] [] M
  unfold xX9_readingsOf at h
  refine g_iload_n hk 1 dX9_readingsOf_0 rfl ?_
  refine g_ifne hk (tgt := 11) dX9_readingsOf_1 (by decide) h (fun h => ?_) (fun h => ?_)
  · refine g_aload_n hk 0 dX9_readingsOf_11 rfl ?_
    refine gfX9_32 hk dX9_readingsOf_12 ?_
    exact g_aret (val := fun q => q) (mem := fun _ => M) hc rfl dX9_readingsOf_15 h ret1
  · refine g_aload_n hk 0 dX9_readingsOf_4 rfl ?_
    refine gfX9_28 hk dX9_readingsOf_5 ?_
    refine g_goto hk (tgt := 15) dX9_readingsOf_8 (by decide) ?_
    exact g_aret (val := fun q => q) (mem := fun _ => M) hc rfl dX9_readingsOf_15 h ret1
set_option maxHeartbeats 4000000 in
set_option maxRecDepth 100000 in
theorem kX9_day (l : Launch) (z : Lay) (M : Mem) (v1 : Int32) (v2 : Int32) (v3 : Int32) (r : Int32 × Mem) (h : xX9_day M v1 v2 v3 = some r) : Con l z yX9_day cX9_day 5 (some .int) 2 [.ref (z.2.1 0), .int v1, .int v2, .int v3] M (some (.int r.1)) r.2 := by
  refine Con.of (by decide) (Nat.le_of_ble_eq_true rfl) ?_
  intro x hl hc
  subst hl
  have hk : okc x z cX9_day RX9 5 2 := hc.1
  show G x z 5 0 [(0, .ref (z.2.1 0)), (1, .int v1), (2, .int v2), (3, .int v3)] [] M
  unfold xX9_day at h
  refine g_iload_n hk 1 dX9_day_0 rfl ?_
  obtain ⟨r1, hr1, h⟩ := bnd h
  refine g_callSi hk [.int v1] _ mtX9_isDay mlX9_97 (by decide) (by decide) rfl rfl (Nat.le_of_ble_eq_true rfl) dX9_day_1 (kX9_isDay _ z M v1 r1 hr1) ?_
  refine g_ifne hk (tgt := 13) dX9_day_4 (by decide) h (fun h => ?_) (fun h => ?_)
  · refine g_iload_n hk 2 dX9_day_13 rfl ?_
    refine g_iflt hk (tgt := 22) dX9_day_14 (by decide) h (fun h => ?_) (fun h => ?_)
    · refine g_aload_n hk 0 dX9_day_22 rfl ?_
      refine g_bipush hk (-2) dX9_day_23 (by decide) ?_
      obtain ⟨r2, hr2, h⟩ := bnd h
      refine g_callVi hk [.int (-2)] _ sh0 rfl mtX9_refuseAsTold mlX9_101 (by decide) (by decide) rfl rfl (Nat.le_of_ble_eq_true rfl) dX9_day_25 (kX9_refuseAsTold _ z M (-2) r2 hr2) ?_
      exact g_iret (val := fun q => q.1) (mem := fun q => q.2) hc rfl dX9_day_28 h ret2
    · refine g_iload_n hk 2 dX9_day_17 rfl ?_
      refine g_iconst hk 1 dX9_day_18 (by decide) ?_
      refine g_icmple hk (tgt := 29) dX9_day_19 (by decide) h (fun h => ?_) (fun h => ?_)
      · refine g_iload_n hk 1 dX9_day_29 rfl ?_
        refine g_aload_n hk 0 dX9_day_30 rfl ?_
        refine gfX9_7 hk dX9_day_31 (M.1 0 0) rfl ?_
        refine g_icmpge hk (tgt := 44) dX9_day_34 (by decide) h (fun h => ?_) (fun h => ?_)
        · refine g_aload_n hk 0 dX9_day_44 rfl ?_
          refine g_iload_n hk 2 dX9_day_45 rfl ?_
          obtain ⟨r3, hr3, h⟩ := bnd h
          refine g_callVr hk [.int v2] _ sh0 rfl mtX9_readingsOf mlX9_105 (by decide) (by decide) rfl rfl (Nat.le_of_ble_eq_true rfl) dX9_day_46 (kX9_readingsOf _ z M v2 r3 hr3) ?_
          obtain rfl := rdk_e hr3
          refine g_astore hk [(4, .ref (z.2.1 (rdk v2))), (0, .ref (z.2.1 0)), (1, .int v1), (2, .int v2), (3, .int v3)] dX9_day_49 (by decide) rfl ?_
          refine g_iload_n hk 4 dX9_day_51 rfl ?_
          refine g_iconst hk (-1) dX9_day_52 (by decide) ?_
          refine g_icmpge hk (tgt := 63) dX9_day_53 (by decide) h (fun h => ?_) (fun h => ?_)
          · refine g_iload_n hk 4 dX9_day_63 rfl ?_
            refine g_aload hk 0 dX9_day_64 rfl ?_
            refine gfX9_109 (okRd v2) hk dX9_day_66 (M.1 (rdk v2) 0) rfl ?_
            refine g_icmple hk (tgt := 79) dX9_day_69 (by decide) h (fun h => ?_) (fun h => ?_)
            · refine g_aload hk 0 dX9_day_79 rfl ?_
              refine g_iload_n hk 2 dX9_day_81 rfl ?_
              refine g_iload_n hk 4 dX9_day_82 rfl ?_
              obtain ⟨r4, hr4, h⟩ := bnd h
              refine g_callVi hk [.int v1, .int v3] _ (shR (okRd v2)).1 rfl mtX5_tell mlX9_112 (by decide) (by decide) rfl rfl (Nat.le_of_ble_eq_true rfl) dX9_day_83 (kX5_tell _ z M (okRd v2) v1 v3 r4 hr4) ?_
              exact g_iret (val := fun q => q.1) (mem := fun q => q.2) hc rfl dX9_day_86 h ret2
            · refine g_aload_n hk 1 dX9_day_72 rfl ?_
              refine g_bipush hk (-6) dX9_day_73 (by decide) ?_
              obtain ⟨r5, hr5, h⟩ := bnd h
              refine g_callVi hk [.int (-6)] _ sh0 rfl mtX9_refuseAsTold mlX9_101 (by decide) (by decide) rfl rfl (Nat.le_of_ble_eq_true rfl) dX9_day_75 (kX9_refuseAsTold _ z M (-6) r5 hr5) ?_
              exact g_iret (val := fun q => q.1) (mem := fun q => q.2) hc rfl dX9_day_78 h ret2
          · refine g_aload_n hk 1 dX9_day_56 rfl ?_
            refine g_bipush hk (-4) dX9_day_57 (by decide) ?_
            obtain ⟨r6, hr6, h⟩ := bnd h
            refine g_callVi hk [.int (-4)] _ sh0 rfl mtX9_refuseAsTold mlX9_101 (by decide) (by decide) rfl rfl (Nat.le_of_ble_eq_true rfl) dX9_day_59 (kX9_refuseAsTold _ z M (-4) r6 hr6) ?_
            exact g_iret (val := fun q => q.1) (mem := fun q => q.2) hc rfl dX9_day_62 h ret2
        · refine g_aload_n hk 0 dX9_day_37 rfl ?_
          refine g_bipush hk (-3) dX9_day_38 (by decide) ?_
          obtain ⟨r7, hr7, h⟩ := bnd h
          refine g_callVi hk [.int (-3)] _ sh0 rfl mtX9_refuseAsTold mlX9_101 (by decide) (by decide) rfl rfl (Nat.le_of_ble_eq_true rfl) dX9_day_40 (kX9_refuseAsTold _ z M (-3) r7 hr7) ?_
          exact g_iret (val := fun q => q.1) (mem := fun q => q.2) hc rfl dX9_day_43 h ret2
      · refine g_aload_n hk 0 dX9_day_22 rfl ?_
        refine g_bipush hk (-2) dX9_day_23 (by decide) ?_
        obtain ⟨r8, hr8, h⟩ := bnd h
        refine g_callVi hk [.int (-2)] _ sh0 rfl mtX9_refuseAsTold mlX9_101 (by decide) (by decide) rfl rfl (Nat.le_of_ble_eq_true rfl) dX9_day_25 (kX9_refuseAsTold _ z M (-2) r8 hr8) ?_
        exact g_iret (val := fun q => q.1) (mem := fun q => q.2) hc rfl dX9_day_28 h ret2
  · refine g_aload_n hk 0 dX9_day_7 rfl ?_
    refine g_iconst hk (-1) dX9_day_8 (by decide) ?_
    obtain ⟨r9, hr9, h⟩ := bnd h
    refine g_callVi hk [.int (-1)] _ sh0 rfl mtX9_refuseAsTold mlX9_101 (by decide) (by decide) rfl rfl (Nat.le_of_ble_eq_true rfl) dX9_day_9 (kX9_refuseAsTold _ z M (-1) r9 hr9) ?_
    exact g_iret (val := fun q => q.1) (mem := fun q => q.2) hc rfl dX9_day_12 h ret2
set_option maxHeartbeats 4000000 in
set_option maxRecDepth 100000 in
theorem kX9_dayOf (l : Launch) (z : Lay) (M : Mem) (v1 : Int32) (v2 : Int32) (r : Int32 × Mem) (h : xX9_dayOf M v1 v2 = some r) : Con l z yX9_dayOf cX9_dayOf 3 (some .int) 2 [.ref (z.2.1 0), .int v1, .int v2] M (some (.int r.1)) r.2 := by
  refine Con.of (by decide) (Nat.le_of_ble_eq_true rfl) ?_
  intro x hl hc
  subst hl
  have hk : okc x z cX9_dayOf RX9 3 2 := hc.1
  show G x z 3 0 [(0, .ref (z.2.1 0)), (1, .int v1), (2, .int v2)] [] M
  unfold xX9_dayOf at h
  refine g_iload_n hk 1 dX9_dayOf_0 rfl ?_
  obtain ⟨r1, hr1, h⟩ := bnd h
  refine g_callSi hk [.int v1] _ mtX9_isDay mlX9_97 (by decide) (by decide) rfl rfl (Nat.le_of_ble_eq_true rfl) dX9_dayOf_1 (kX9_isDay _ z M v1 r1 hr1) ?_
  refine g_ifne hk (tgt := 13) dX9_dayOf_4 (by decide) h (fun h => ?_) (fun h => ?_)
  · refine g_iload_n hk 2 dX9_dayOf_13 rfl ?_
    refine g_iflt hk (tgt := 22) dX9_dayOf_14 (by decide) h (fun h => ?_) (fun h => ?_)
    · refine g_aload_n hk 0 dX9_dayOf_22 rfl ?_
      refine g_bipush hk (-2) dX9_dayOf_23 (by decide) ?_
      obtain ⟨r2, hr2, h⟩ := bnd h
      refine g_callVi hk [.int (-2)] _ sh0 rfl mtX9_refuse mlX9_116 (by decide) (by decide) rfl rfl (Nat.le_of_ble_eq_true rfl) dX9_dayOf_25 (kX9_refuse _ z M (-2) r2 hr2) ?_
      exact g_iret (val := fun q => q.1) (mem := fun q => q.2) hc rfl dX9_dayOf_28 h ret2
    · refine g_iload_n hk 2 dX9_dayOf_17 rfl ?_
      refine g_iconst hk 1 dX9_dayOf_18 (by decide) ?_
      refine g_icmple hk (tgt := 29) dX9_dayOf_19 (by decide) h (fun h => ?_) (fun h => ?_)
      · refine g_aload_n hk 0 dX9_dayOf_29 rfl ?_
        refine g_iload_n hk 2 dX9_dayOf_30 rfl ?_
        obtain ⟨r3, hr3, h⟩ := bnd h
        refine g_callVr hk [.int v2] _ sh0 rfl mtX9_readingsOf mlX9_105 (by decide) (by decide) rfl rfl (Nat.le_of_ble_eq_true rfl) dX9_dayOf_31 (kX9_readingsOf _ z M v2 r3 hr3) ?_
        obtain rfl := rdk_e hr3
        refine g_iload_n hk 1 dX9_dayOf_34 rfl ?_
        obtain ⟨r4, hr4, h⟩ := bnd h
        refine g_callVi hk [.int v1] _ (shR (okRd v2)).1 rfl mtX5_counted mlX9_119 (by decide) (by decide) rfl rfl (Nat.le_of_ble_eq_true rfl) dX9_dayOf_35 (kX5_counted _ z M (okRd v2) v1 r4 hr4) ?_
        exact g_iret (val := fun q => q.1) (mem := fun q => q.2) hc rfl dX9_dayOf_38 h ret2
      · refine g_aload_n hk 0 dX9_dayOf_22 rfl ?_
        refine g_bipush hk (-2) dX9_dayOf_23 (by decide) ?_
        obtain ⟨r5, hr5, h⟩ := bnd h
        refine g_callVi hk [.int (-2)] _ sh0 rfl mtX9_refuse mlX9_116 (by decide) (by decide) rfl rfl (Nat.le_of_ble_eq_true rfl) dX9_dayOf_25 (kX9_refuse _ z M (-2) r5 hr5) ?_
        exact g_iret (val := fun q => q.1) (mem := fun q => q.2) hc rfl dX9_dayOf_28 h ret2
  · refine g_aload_n hk 0 dX9_dayOf_7 rfl ?_
    refine g_iconst hk (-1) dX9_dayOf_8 (by decide) ?_
    obtain ⟨r6, hr6, h⟩ := bnd h
    refine g_callVi hk [.int (-1)] _ sh0 rfl mtX9_refuse mlX9_116 (by decide) (by decide) rfl rfl (Nat.le_of_ble_eq_true rfl) dX9_dayOf_9 (kX9_refuse _ z M (-1) r6 hr6) ?_
    exact g_iret (val := fun q => q.1) (mem := fun q => q.2) hc rfl dX9_dayOf_12 h ret2
set_option maxHeartbeats 4000000 in
set_option maxRecDepth 100000 in
theorem kX9_isKind (l : Launch) (z : Lay) (M : Mem) (v0 : Int32) (r : Int32) (h : xX9_isKind v0 = some r) : Con l z yX9_isKind cX9_isKind 1 (some .boolean) 0 [.int v0] M (some (.int r)) M := by
  refine Con.of (by decide) (Nat.le_of_ble_eq_true rfl) ?_
  intro x hl hc
  subst hl
  have hk : okc x z cX9_isKind RX9 1 0 := hc.1
  show G x z 1 0 [(0, .int v0)] [] M
  unfold xX9_isKind at h
  refine g_iload_n hk 0 dX9_isKind_0 rfl ?_
  refine g_iflt hk (tgt := 13) dX9_isKind_1 (by decide) h (fun h => ?_) (fun h => ?_)
  · refine g_iconst hk 0 dX9_isKind_13 (by decide) ?_
    exact g_zret (val := fun q => q) (mem := fun _ => M) hc rfl dX9_isKind_14 h ret1 (by decide)
  · refine g_iload_n hk 0 dX9_isKind_4 rfl ?_
    refine g_iconst hk 4 dX9_isKind_5 (by decide) ?_
    refine g_icmpge hk (tgt := 13) dX9_isKind_6 (by decide) h (fun h => ?_) (fun h => ?_)
    · refine g_iconst hk 0 dX9_isKind_13 (by decide) ?_
      exact g_zret (val := fun q => q) (mem := fun _ => M) hc rfl dX9_isKind_14 h ret1 (by decide)
    · refine g_iconst hk 1 dX9_isKind_9 (by decide) ?_
      refine g_goto hk (tgt := 14) dX9_isKind_10 (by decide) ?_
      exact g_zret (val := fun q => q) (mem := fun _ => M) hc rfl dX9_isKind_14 h ret1 (by decide)
set_option maxHeartbeats 4000000 in
set_option maxRecDepth 100000 in
theorem kX9_growth (l : Launch) (z : Lay) (M : Mem) (v1 : Int32) (v2 : Int32) (r : Int32 × Mem) (h : xX9_growth M v1 v2 = some r) : Con l z yX9_growth cX9_growth 4 (some .int) 1 [.ref (z.2.1 0), .int v1, .int v2] M (some (.int r.1)) r.2 := by
  refine Con.of (by decide) (Nat.le_of_ble_eq_true rfl) ?_
  intro x hl hc
  subst hl
  have hk : okc x z cX9_growth RX9 4 1 := hc.1
  show G x z 4 0 [(0, .ref (z.2.1 0)), (1, .int v1), (2, .int v2)] [] M
  unfold xX9_growth at h
  refine g_iload_n hk 1 dX9_growth_0 rfl ?_
  obtain ⟨r1, hr1, h⟩ := bnd h
  refine g_callSi hk [.int v1] _ mtX9_isKind mlX9_122 (by decide) (by decide) rfl rfl (Nat.le_of_ble_eq_true rfl) dX9_growth_1 (kX9_isKind _ z M v1 r1 hr1) ?_
  refine g_ifne hk (tgt := 13) dX9_growth_4 (by decide) h (fun h => ?_) (fun h => ?_)
  · refine g_iload_n hk 2 dX9_growth_13 rfl ?_
    refine g_ifge hk (tgt := 24) dX9_growth_14 (by decide) h (fun h => ?_) (fun h => ?_)
    · refine g_iload_n hk 2 dX9_growth_24 rfl ?_
      refine g_bipush hk 50 dX9_growth_25 (by decide) ?_
      refine g_icmple hk (tgt := 37) dX9_growth_27 (by decide) h (fun h => ?_) (fun h => ?_)
      · refine g_aload_n hk 0 dX9_growth_37 rfl ?_
        refine gfX9_20 hk dX9_growth_38 ?_
        refine g_iload_n hk 1 dX9_growth_41 rfl ?_
        obtain ⟨hi1, h⟩ := ck_e h
        refine g_iald hk sh3 dX9_growth_42 hi1 (M.1 3 (ix v1)) rfl ?_
        refine g_istore_n hk [(3, .int (M.1 3 (ix v1))), (0, .ref (z.2.1 0)), (1, .int v1), (2, .int v2)] dX9_growth_43 rfl (by decide) rfl ?_
        refine g_aload_n hk 1 dX9_growth_44 rfl ?_
        refine gfX9_20 hk dX9_growth_45 ?_
        refine g_iload_n hk 2 dX9_growth_48 rfl ?_
        refine g_iload_n hk 3 dX9_growth_49 rfl ?_
        refine g_iast hk sh3 dX9_growth_50 hi1 ?_
        refine g_iload_n hk 0 dX9_growth_51 rfl ?_
        exact g_iret (val := fun q => q.1) (mem := fun q => q.2) hc rfl dX9_growth_52 h ret2
      · refine g_aload_n hk 0 dX9_growth_30 rfl ?_
        refine g_bipush hk (-6) dX9_growth_31 (by decide) ?_
        obtain ⟨r2, hr2, h⟩ := bnd h
        refine g_callVi hk [.int (-6)] _ sh0 rfl mtX9_refuse mlX9_116 (by decide) (by decide) rfl rfl (Nat.le_of_ble_eq_true rfl) dX9_growth_33 (kX9_refuse _ z M (-6) r2 hr2) ?_
        exact g_iret (val := fun q => q.1) (mem := fun q => q.2) hc rfl dX9_growth_36 h ret2
    · refine g_aload_n hk 0 dX9_growth_17 rfl ?_
      refine g_bipush hk (-4) dX9_growth_18 (by decide) ?_
      obtain ⟨r3, hr3, h⟩ := bnd h
      refine g_callVi hk [.int (-4)] _ sh0 rfl mtX9_refuse mlX9_116 (by decide) (by decide) rfl rfl (Nat.le_of_ble_eq_true rfl) dX9_growth_20 (kX9_refuse _ z M (-4) r3 hr3) ?_
      exact g_iret (val := fun q => q.1) (mem := fun q => q.2) hc rfl dX9_growth_23 h ret2
  · refine g_aload_n hk 0 dX9_growth_7 rfl ?_
    refine g_iconst hk (-1) dX9_growth_8 (by decide) ?_
    obtain ⟨r4, hr4, h⟩ := bnd h
    refine g_callVi hk [.int (-1)] _ sh0 rfl mtX9_refuse mlX9_116 (by decide) (by decide) rfl rfl (Nat.le_of_ble_eq_true rfl) dX9_growth_9 (kX9_refuse _ z M (-1) r4 hr4) ?_
    exact g_iret (val := fun q => q.1) (mem := fun q => q.2) hc rfl dX9_growth_12 h ret2
set_option maxHeartbeats 4000000 in
set_option maxRecDepth 100000 in
theorem kX9_isMile (l : Launch) (z : Lay) (M : Mem) (v0 : Int32) (r : Int32) (h : xX9_isMile v0 = some r) : Con l z yX9_isMile cX9_isMile 1 (some .boolean) 0 [.int v0] M (some (.int r)) M := by
  refine Con.of (by decide) (Nat.le_of_ble_eq_true rfl) ?_
  intro x hl hc
  subst hl
  have hk : okc x z cX9_isMile RX9 1 0 := hc.1
  show G x z 1 0 [(0, .int v0)] [] M
  unfold xX9_isMile at h
  refine g_iload_n hk 0 dX9_isMile_0 rfl ?_
  refine g_iflt hk (tgt := 14) dX9_isMile_1 (by decide) h (fun h => ?_) (fun h => ?_)
  · refine g_iconst hk 0 dX9_isMile_14 (by decide) ?_
    exact g_zret (val := fun q => q) (mem := fun _ => M) hc rfl dX9_isMile_15 h ret1 (by decide)
  · refine g_iload_n hk 0 dX9_isMile_4 rfl ?_
    refine g_bipush hk 20 dX9_isMile_5 (by decide) ?_
    refine g_icmpge hk (tgt := 14) dX9_isMile_7 (by decide) h (fun h => ?_) (fun h => ?_)
    · refine g_iconst hk 0 dX9_isMile_14 (by decide) ?_
      exact g_zret (val := fun q => q) (mem := fun _ => M) hc rfl dX9_isMile_15 h ret1 (by decide)
    · refine g_iconst hk 1 dX9_isMile_10 (by decide) ?_
      refine g_goto hk (tgt := 15) dX9_isMile_11 (by decide) ?_
      exact g_zret (val := fun q => q) (mem := fun _ => M) hc rfl dX9_isMile_15 h ret1 (by decide)
set_option maxHeartbeats 4000000 in
set_option maxRecDepth 100000 in
theorem kX9_ruleFor (l : Launch) (z : Lay) (M : Mem) (v1 : Int32) (r : Int32) (h : xX9_ruleFor M v1 = some r) : Con l z yX9_ruleFor cX9_ruleFor 2 (some .int) 2 [.ref (z.2.1 0), .int v1] M (some (.int r)) M := by
  refine Con.of (by decide) (Nat.le_of_ble_eq_true rfl) ?_
  intro x hl hc
  subst hl
  have hk : okc x z cX9_ruleFor RX9 2 2 := hc.1
  show G x z 2 0 [(0, .ref (z.2.1 0)), (1, .int v1)] [] M
  unfold xX9_ruleFor at h
  refine g_aload_n hk 0 dX9_ruleFor_0 rfl ?_
  refine gfX9_45 hk dX9_ruleFor_1 ?_
  refine g_aload_n hk 0 dX9_ruleFor_4 rfl ?_
  refine gfX9_38 hk dX9_ruleFor_5 ?_
  refine gfX9_318 hk dX9_ruleFor_8 ?_
  refine g_iload_n hk 1 dX9_ruleFor_11 rfl ?_
  obtain ⟨hi1, h⟩ := ck_e h
  refine g_iald hk sh12 dX9_ruleFor_12 hi1 (M.1 12 (ix v1)) rfl ?_
  refine g_aload_n hk 0 dX9_ruleFor_13 rfl ?_
  refine gfX9_38 hk dX9_ruleFor_14 ?_
  refine gfX9_166 hk dX9_ruleFor_17 ?_
  refine g_iload_n hk 1 dX9_ruleFor_20 rfl ?_
  refine g_iald hk sh15 dX9_ruleFor_21 hi1 (M.1 15 (ix v1)) rfl ?_
  refine g_aload_n hk 0 dX9_ruleFor_22 rfl ?_
  refine gfX9_7 hk dX9_ruleFor_23 (M.1 0 0) rfl ?_
  obtain ⟨r1, hr1, h⟩ := bnd h
  refine g_callVi hk [.int (M.1 12 (ix v1)), .int (M.1 15 (ix v1)), .int (M.1 0 0)] _ sh18 rfl mtX6_inForce mlX9_321 (by decide) (by decide) rfl rfl (Nat.le_of_ble_eq_true rfl) dX9_ruleFor_26 (kX6_inForce _ z M (M.1 12 (ix v1)) (M.1 15 (ix v1)) (M.1 0 0) r1 hr1) ?_
  exact g_iret (val := fun q => q) (mem := fun _ => M) hc rfl dX9_ruleFor_29 h ret1
set_option maxHeartbeats 4000000 in
set_option maxRecDepth 100000 in
theorem kX9_defect (l : Launch) (z : Lay) (M : Mem) (v1 : Int32) (v2 : Int32) (v3 : Int32) (v4 : Int32) (v5 : Int32) (v6 : Int32) (r : Int32 × Mem) (h : xX9_defect M v1 v2 v3 v4 v5 v6 = some r) : Con l z yX9_defect cX9_defect 8 (some .int) 3 [.ref (z.2.1 0), .int v1, .int v2, .int v3, .int v4, .int v5, .int v6] M (some (.int r.1)) r.2 := by
  refine Con.of (by decide) (Nat.le_of_ble_eq_true rfl) ?_
  intro x hl hc
  subst hl
  have hk : okc x z cX9_defect RX9 8 3 := hc.1
  show G x z 8 0 [(0, .ref (z.2.1 0)), (1, .int v1), (2, .int v2), (3, .int v3), (4, .int v4), (5, .int v5), (6, .int v6)] [] M
  unfold xX9_defect at h
  refine g_iload_n hk 1 dX9_defect_0 rfl ?_
  obtain ⟨r1, hr1, h⟩ := bnd h
  refine g_callSi hk [.int v1] _ mtX9_isMile mlX9_125 (by decide) (by decide) rfl rfl (Nat.le_of_ble_eq_true rfl) dX9_defect_1 (kX9_isMile _ z M v1 r1 hr1) ?_
  refine g_ifeq hk (tgt := 15) dX9_defect_4 (by decide) h (fun h => ?_) (fun h => ?_)
  · refine g_aload_n hk 0 dX9_defect_15 rfl ?_
    refine g_iconst hk (-1) dX9_defect_16 (by decide) ?_
    obtain ⟨r2, hr2, h⟩ := bnd h
    refine g_callVi hk [.int (-1)] _ sh0 rfl mtX9_refuse mlX9_116 (by decide) (by decide) rfl rfl (Nat.le_of_ble_eq_true rfl) dX9_defect_17 (kX9_refuse _ z M (-1) r2 hr2) ?_
    exact g_iret (val := fun q => q.1) (mem := fun q => q.2) hc rfl dX9_defect_20 h ret2
  · refine g_iload hk 4 dX9_defect_7 rfl ?_
    obtain ⟨r3, hr3, h⟩ := bnd h
    refine g_callSi hk [.int v4] _ mtX9_isKind mlX9_122 (by decide) (by decide) rfl rfl (Nat.le_of_ble_eq_true rfl) dX9_defect_9 (kX9_isKind _ z M v4 r3 hr3) ?_
    refine g_ifne hk (tgt := 21) dX9_defect_12 (by decide) h (fun h => ?_) (fun h => ?_)
    · refine g_iload_n hk 2 dX9_defect_21 rfl ?_
      refine g_iflt hk (tgt := 39) dX9_defect_22 (by decide) h (fun h => ?_) (fun h => ?_)
      · refine g_aload_n hk 0 dX9_defect_39 rfl ?_
        refine g_bipush hk (-4) dX9_defect_40 (by decide) ?_
        obtain ⟨r4, hr4, h⟩ := bnd h
        refine g_callVi hk [.int (-4)] _ sh0 rfl mtX9_refuse mlX9_116 (by decide) (by decide) rfl rfl (Nat.le_of_ble_eq_true rfl) dX9_defect_42 (kX9_refuse _ z M (-4) r4 hr4) ?_
        exact g_iret (val := fun q => q.1) (mem := fun q => q.2) hc rfl dX9_defect_45 h ret2
      · refine g_iload_n hk 3 dX9_defect_25 rfl ?_
        refine g_iflt hk (tgt := 39) dX9_defect_26 (by decide) h (fun h => ?_) (fun h => ?_)
        · refine g_aload_n hk 0 dX9_defect_39 rfl ?_
          refine g_bipush hk (-4) dX9_defect_40 (by decide) ?_
          obtain ⟨r5, hr5, h⟩ := bnd h
          refine g_callVi hk [.int (-4)] _ sh0 rfl mtX9_refuse mlX9_116 (by decide) (by decide) rfl rfl (Nat.le_of_ble_eq_true rfl) dX9_defect_42 (kX9_refuse _ z M (-4) r5 hr5) ?_
          exact g_iret (val := fun q => q.1) (mem := fun q => q.2) hc rfl dX9_defect_45 h ret2
        · refine g_iload hk 5 dX9_defect_29 rfl ?_
          refine g_iflt hk (tgt := 39) dX9_defect_31 (by decide) h (fun h => ?_) (fun h => ?_)
          · refine g_aload_n hk 0 dX9_defect_39 rfl ?_
            refine g_bipush hk (-4) dX9_defect_40 (by decide) ?_
            obtain ⟨r6, hr6, h⟩ := bnd h
            refine g_callVi hk [.int (-4)] _ sh0 rfl mtX9_refuse mlX9_116 (by decide) (by decide) rfl rfl (Nat.le_of_ble_eq_true rfl) dX9_defect_42 (kX9_refuse _ z M (-4) r6 hr6) ?_
            exact g_iret (val := fun q => q.1) (mem := fun q => q.2) hc rfl dX9_defect_45 h ret2
          · refine g_iload hk 6 dX9_defect_34 rfl ?_
            refine g_ifge hk (tgt := 46) dX9_defect_36 (by decide) h (fun h => ?_) (fun h => ?_)
            · refine g_iload_n hk 2 dX9_defect_46 rfl ?_
              refine g_sipush hk 1759 dX9_defect_47 (by decide) ?_
              refine g_icmpgt hk (tgt := 73) dX9_defect_50 (by decide) h (fun h => ?_) (fun h => ?_)
              · refine g_aload_n hk 0 dX9_defect_73 rfl ?_
                refine g_bipush hk (-6) dX9_defect_74 (by decide) ?_
                obtain ⟨r7, hr7, h⟩ := bnd h
                refine g_callVi hk [.int (-6)] _ sh0 rfl mtX9_refuse mlX9_116 (by decide) (by decide) rfl rfl (Nat.le_of_ble_eq_true rfl) dX9_defect_76 (kX9_refuse _ z M (-6) r7 hr7) ?_
                exact g_iret (val := fun q => q.1) (mem := fun q => q.2) hc rfl dX9_defect_79 h ret2
              · refine g_iload_n hk 3 dX9_defect_53 rfl ?_
                refine g_iconst hk 1 dX9_defect_54 (by decide) ?_
                refine g_icmpgt hk (tgt := 73) dX9_defect_55 (by decide) h (fun h => ?_) (fun h => ?_)
                · refine g_aload_n hk 0 dX9_defect_73 rfl ?_
                  refine g_bipush hk (-6) dX9_defect_74 (by decide) ?_
                  obtain ⟨r8, hr8, h⟩ := bnd h
                  refine g_callVi hk [.int (-6)] _ sh0 rfl mtX9_refuse mlX9_116 (by decide) (by decide) rfl rfl (Nat.le_of_ble_eq_true rfl) dX9_defect_76 (kX9_refuse _ z M (-6) r8 hr8) ?_
                  exact g_iret (val := fun q => q.1) (mem := fun q => q.2) hc rfl dX9_defect_79 h ret2
                · refine g_iload hk 5 dX9_defect_58 rfl ?_
                  refine g_sipush hk 999 dX9_defect_60 (by decide) ?_
                  refine g_icmpgt hk (tgt := 73) dX9_defect_63 (by decide) h (fun h => ?_) (fun h => ?_)
                  · refine g_aload_n hk 0 dX9_defect_73 rfl ?_
                    refine g_bipush hk (-6) dX9_defect_74 (by decide) ?_
                    obtain ⟨r9, hr9, h⟩ := bnd h
                    refine g_callVi hk [.int (-6)] _ sh0 rfl mtX9_refuse mlX9_116 (by decide) (by decide) rfl rfl (Nat.le_of_ble_eq_true rfl) dX9_defect_76 (kX9_refuse _ z M (-6) r9 hr9) ?_
                    exact g_iret (val := fun q => q.1) (mem := fun q => q.2) hc rfl dX9_defect_79 h ret2
                  · refine g_iload hk 6 dX9_defect_66 rfl ?_
                    refine g_bipush hk 50 dX9_defect_68 (by decide) ?_
                    refine g_icmple hk (tgt := 80) dX9_defect_70 (by decide) h (fun h => ?_) (fun h => ?_)
                    · refine g_aload_n hk 0 dX9_defect_80 rfl ?_
                      refine gfX9_38 hk dX9_defect_81 ?_
                      refine gfX9_128 hk dX9_defect_84 (M.1 8 0) rfl ?_
                      refine g_bipush hk 40 dX9_defect_87 (by decide) ?_
                      refine g_icmpge hk (tgt := 104) dX9_defect_89 (by decide) h (fun h => ?_) (fun h => ?_)
                      · refine g_aload_n hk 0 dX9_defect_104 rfl ?_
                        refine g_bipush hk (-6) dX9_defect_105 (by decide) ?_
                        obtain ⟨r10, hr10, h⟩ := bnd h
                        refine g_callVi hk [.int (-6)] _ sh0 rfl mtX9_refuse mlX9_116 (by decide) (by decide) rfl rfl (Nat.le_of_ble_eq_true rfl) dX9_defect_107 (kX9_refuse _ z M (-6) r10 hr10) ?_
                        exact g_iret (val := fun q => q.1) (mem := fun q => q.2) hc rfl dX9_defect_110 h ret2
                      · refine g_aload_n hk 0 dX9_defect_92 rfl ?_
                        refine gfX9_38 hk dX9_defect_93 ?_
                        refine gfX9_131 hk dX9_defect_96 (M.1 8 1) rfl ?_
                        refine g_bipush hk 120 dX9_defect_99 (by decide) ?_
                        refine g_icmplt hk (tgt := 111) dX9_defect_101 (by decide) h (fun h => ?_) (fun h => ?_)
                        · refine g_aload_n hk 0 dX9_defect_111 rfl ?_
                          refine gfX9_38 hk dX9_defect_112 ?_
                          refine g_iload_n hk 1 dX9_defect_115 rfl ?_
                          refine g_iload_n hk 2 dX9_defect_116 rfl ?_
                          refine g_iload_n hk 3 dX9_defect_117 rfl ?_
                          refine g_iload hk 4 dX9_defect_118 rfl ?_
                          obtain ⟨r11, hr11, h⟩ := bnd h
                          refine g_callVi hk [.int v1, .int v2, .int v3, .int v4] _ sh8 rfl mtX1_add mlX9_134 (by decide) (by decide) rfl rfl (Nat.le_of_ble_eq_true rfl) dX9_defect_120 (kX1_add _ z M v1 v2 v3 v4 r11 hr11) ?_
                          refine g_istore hk [(7, .int r11.1), (0, .ref (z.2.1 0)), (1, .int v1), (2, .int v2), (3, .int v3), (4, .int v4), (5, .int v5), (6, .int v6)] dX9_defect_123 (by decide) rfl ?_
                          refine g_aload_n hk 1 dX9_defect_125 rfl ?_
                          refine gfX9_38 hk dX9_defect_126 ?_
                          refine g_iload hk 0 dX9_defect_129 rfl ?_
                          refine g_iload hk 6 dX9_defect_131 rfl ?_
                          refine g_iload hk 7 dX9_defect_133 rfl ?_
                          obtain ⟨r12, hr12, h⟩ := bnd h
                          refine g_callVi hk [.int r11.1, .int v5, .int v6] _ sh8 rfl mtX1_cutSpan mlX9_138 (by decide) (by decide) rfl rfl (Nat.le_of_ble_eq_true rfl) dX9_defect_135 (kX1_cutSpan _ z r11.2 r11.1 v5 v6 r12 hr12) ?_
                          refine g_pop hk dX9_defect_138 rfl ?_
                          refine g_aload_n hk 1 dX9_defect_139 rfl ?_
                          refine gfX9_38 hk dX9_defect_140 ?_
                          refine g_iload hk 0 dX9_defect_143 rfl ?_
                          refine g_aload_n hk 1 dX9_defect_145 rfl ?_
                          refine g_iload hk 0 dX9_defect_146 rfl ?_
                          obtain ⟨r13, hr13, h⟩ := bnd h
                          refine g_callVi hk [.int r11.1] _ sh0 rfl mtX9_ruleFor mlX9_142 (by decide) (by decide) rfl rfl (Nat.le_of_ble_eq_true rfl) dX9_defect_148 (kX9_ruleFor _ z r12.2 r11.1 r13 hr13) ?_
                          refine g_aload_n hk 1 dX9_defect_151 rfl ?_
                          refine gfX9_7 hk dX9_defect_152 (r12.2.1 0 0) rfl ?_
                          obtain ⟨r14, hr14, h⟩ := bnd h
                          refine g_callVv hk [.int r11.1, .int r13, .int (r12.2.1 0 0)] _ sh8 rfl mtX1_note mlX9_145 (by decide) (by decide) rfl rfl (Nat.le_of_ble_eq_true rfl) dX9_defect_155 (kX1_note _ z r12.2 r11.1 r13 (r12.2.1 0 0) r14 hr14) ?_
                          refine g_iload hk 5 dX9_defect_158 rfl ?_
                          refine g_iconst hk 3 dX9_defect_160 (by decide) ?_
                          refine g_icmpne hk (tgt := 172) dX9_defect_161 (by decide) h (fun h => ?_) (fun h => ?_)
                          · refine g_iload hk 0 dX9_defect_172 rfl ?_
                            exact g_iret (val := fun q => q.1) (mem := fun q => q.2) hc rfl dX9_defect_174 h ret2
                          · refine g_aload_n hk 1 dX9_defect_164 rfl ?_
                            refine gfX9_93 hk dX9_defect_165 ?_
                            refine g_iload_n hk 2 dX9_defect_168 rfl ?_
                            obtain ⟨r15, hr15, h⟩ := bnd h
                            refine g_callVv hk [.int v1] _ sh47 rfl mtX4_addCrack mlX9_149 (by decide) (by decide) rfl rfl (Nat.le_of_ble_eq_true rfl) dX9_defect_169 (kX4_addCrack _ z r14 v1 r15 hr15) ?_
                            refine g_iload hk 0 dX9_defect_172 rfl ?_
                            exact g_iret (val := fun q => q.1) (mem := fun q => q.2) hc rfl dX9_defect_174 h ret2
                        · refine g_aload_n hk 0 dX9_defect_104 rfl ?_
                          refine g_bipush hk (-6) dX9_defect_105 (by decide) ?_
                          obtain ⟨r16, hr16, h⟩ := bnd h
                          refine g_callVi hk [.int (-6)] _ sh0 rfl mtX9_refuse mlX9_116 (by decide) (by decide) rfl rfl (Nat.le_of_ble_eq_true rfl) dX9_defect_107 (kX9_refuse _ z M (-6) r16 hr16) ?_
                          exact g_iret (val := fun q => q.1) (mem := fun q => q.2) hc rfl dX9_defect_110 h ret2
                    · refine g_aload_n hk 0 dX9_defect_73 rfl ?_
                      refine g_bipush hk (-6) dX9_defect_74 (by decide) ?_
                      obtain ⟨r17, hr17, h⟩ := bnd h
                      refine g_callVi hk [.int (-6)] _ sh0 rfl mtX9_refuse mlX9_116 (by decide) (by decide) rfl rfl (Nat.le_of_ble_eq_true rfl) dX9_defect_76 (kX9_refuse _ z M (-6) r17 hr17) ?_
                      exact g_iret (val := fun q => q.1) (mem := fun q => q.2) hc rfl dX9_defect_79 h ret2
            · refine g_aload_n hk 0 dX9_defect_39 rfl ?_
              refine g_bipush hk (-4) dX9_defect_40 (by decide) ?_
              obtain ⟨r18, hr18, h⟩ := bnd h
              refine g_callVi hk [.int (-4)] _ sh0 rfl mtX9_refuse mlX9_116 (by decide) (by decide) rfl rfl (Nat.le_of_ble_eq_true rfl) dX9_defect_42 (kX9_refuse _ z M (-4) r18 hr18) ?_
              exact g_iret (val := fun q => q.1) (mem := fun q => q.2) hc rfl dX9_defect_45 h ret2
    · refine g_aload_n hk 0 dX9_defect_15 rfl ?_
      refine g_iconst hk (-1) dX9_defect_16 (by decide) ?_
      obtain ⟨r19, hr19, h⟩ := bnd h
      refine g_callVi hk [.int (-1)] _ sh0 rfl mtX9_refuse mlX9_116 (by decide) (by decide) rfl rfl (Nat.le_of_ble_eq_true rfl) dX9_defect_17 (kX9_refuse _ z M (-1) r19 hr19) ?_
      exact g_iret (val := fun q => q.1) (mem := fun q => q.2) hc rfl dX9_defect_20 h ret2
set_option maxHeartbeats 4000000 in
set_option maxRecDepth 100000 in
theorem kX9_isDefect (l : Launch) (z : Lay) (M : Mem) (v1 : Int32) (r : Int32) (h : xX9_isDefect M v1 = some r) : Con l z yX9_isDefect cX9_isDefect 2 (some .boolean) 0 [.ref (z.2.1 0), .int v1] M (some (.int r)) M := by
  refine Con.of (by decide) (Nat.le_of_ble_eq_true rfl) ?_
  intro x hl hc
  subst hl
  have hk : okc x z cX9_isDefect RX9 2 0 := hc.1
  show G x z 2 0 [(0, .ref (z.2.1 0)), (1, .int v1)] [] M
  unfold xX9_isDefect at h
  refine g_iload_n hk 1 dX9_isDefect_0 rfl ?_
  refine g_iflt hk (tgt := 19) dX9_isDefect_1 (by decide) h (fun h => ?_) (fun h => ?_)
  · refine g_iconst hk 0 dX9_isDefect_19 (by decide) ?_
    exact g_zret (val := fun q => q) (mem := fun _ => M) hc rfl dX9_isDefect_20 h ret1 (by decide)
  · refine g_iload_n hk 1 dX9_isDefect_4 rfl ?_
    refine g_aload_n hk 0 dX9_isDefect_5 rfl ?_
    refine gfX9_38 hk dX9_isDefect_6 ?_
    refine gfX9_128 hk dX9_isDefect_9 (M.1 8 0) rfl ?_
    refine g_icmpge hk (tgt := 19) dX9_isDefect_12 (by decide) h (fun h => ?_) (fun h => ?_)
    · refine g_iconst hk 0 dX9_isDefect_19 (by decide) ?_
      exact g_zret (val := fun q => q) (mem := fun _ => M) hc rfl dX9_isDefect_20 h ret1 (by decide)
    · refine g_iconst hk 1 dX9_isDefect_15 (by decide) ?_
      refine g_goto hk (tgt := 20) dX9_isDefect_16 (by decide) ?_
      exact g_zret (val := fun q => q) (mem := fun _ => M) hc rfl dX9_isDefect_20 h ret1 (by decide)
set_option maxHeartbeats 4000000 in
set_option maxRecDepth 100000 in
theorem kX9_refusalOfOpenDefect (l : Launch) (z : Lay) (M : Mem) (v1 : Int32) (r : Int32) (h : xX9_refusalOfOpenDefect M v1 = some r) : Con l z yX9_refusalOfOpenDefect cX9_refusalOfOpenDefect 2 (some .int) 1 [.ref (z.2.1 0), .int v1] M (some (.int r)) M := by
  refine Con.of (by decide) (Nat.le_of_ble_eq_true rfl) ?_
  intro x hl hc
  subst hl
  have hk : okc x z cX9_refusalOfOpenDefect RX9 2 1 := hc.1
  show G x z 2 0 [(0, .ref (z.2.1 0)), (1, .int v1)] [] M
  unfold xX9_refusalOfOpenDefect at h
  refine g_aload_n hk 0 dX9_refusalOfOpenDefect_0 rfl ?_
  refine g_iload_n hk 1 dX9_refusalOfOpenDefect_1 rfl ?_
  obtain ⟨r1, hr1, h⟩ := bnd h
  refine g_callVi hk [.int v1] _ sh0 rfl mtX9_isDefect mlX9_156 (by decide) (by decide) rfl rfl (Nat.le_of_ble_eq_true rfl) dX9_refusalOfOpenDefect_2 (kX9_isDefect _ z M v1 r1 hr1) ?_
  refine g_ifne hk (tgt := 10) dX9_refusalOfOpenDefect_5 (by decide) h (fun h => ?_) (fun h => ?_)
  · refine g_aload_n hk 0 dX9_refusalOfOpenDefect_10 rfl ?_
    refine gfX9_38 hk dX9_refusalOfOpenDefect_11 ?_
    refine gfX9_159 hk dX9_refusalOfOpenDefect_14 ?_
    refine g_iload_n hk 1 dX9_refusalOfOpenDefect_17 rfl ?_
    obtain ⟨hi1, h⟩ := ck_e h
    refine g_zald hk sh13 dX9_refusalOfOpenDefect_18 hi1 (M.1 13 (ix v1)) rfl ?_
    refine g_ifeq hk (tgt := 26) dX9_refusalOfOpenDefect_19 (by decide) h (fun h => ?_) (fun h => ?_)
    · refine g_bipush hk (-3) dX9_refusalOfOpenDefect_26 (by decide) ?_
      exact g_iret (val := fun q => q) (mem := fun _ => M) hc rfl dX9_refusalOfOpenDefect_28 h ret1
    · refine g_iconst hk 0 dX9_refusalOfOpenDefect_22 (by decide) ?_
      refine g_goto hk (tgt := 28) dX9_refusalOfOpenDefect_23 (by decide) ?_
      exact g_iret (val := fun q => q) (mem := fun _ => M) hc rfl dX9_refusalOfOpenDefect_28 h ret1
  · refine g_iconst hk (-1) dX9_refusalOfOpenDefect_8 (by decide) ?_
    exact g_iret (val := fun q => q) (mem := fun _ => M) hc rfl dX9_refusalOfOpenDefect_9 h ret1
set_option maxHeartbeats 4000000 in
set_option maxRecDepth 100000 in
theorem kX9_look (l : Launch) (z : Lay) (M : Mem) (v1 : Int32) (v2 : Int32) (v3 : Int32) (r : Int32 × Mem) (h : xX9_look M v1 v2 v3 = some r) : Con l z yX9_look cX9_look 6 (some .int) 3 [.ref (z.2.1 0), .int v1, .int v2, .int v3] M (some (.int r.1)) r.2 := by
  refine Con.of (by decide) (Nat.le_of_ble_eq_true rfl) ?_
  intro x hl hc
  subst hl
  have hk : okc x z cX9_look RX9 6 3 := hc.1
  show G x z 6 0 [(0, .ref (z.2.1 0)), (1, .int v1), (2, .int v2), (3, .int v3)] [] M
  unfold xX9_look at h
  refine g_aload_n hk 0 dX9_look_0 rfl ?_
  refine g_iload_n hk 1 dX9_look_1 rfl ?_
  obtain ⟨r1, hr1, h⟩ := bnd h
  refine g_callVi hk [.int v1] _ sh0 rfl mtX9_refusalOfOpenDefect mlX9_153 (by decide) (by decide) rfl rfl (Nat.le_of_ble_eq_true rfl) dX9_look_2 (kX9_refusalOfOpenDefect _ z M v1 r1 hr1) ?_
  refine g_istore hk [(4, .int r1), (0, .ref (z.2.1 0)), (1, .int v1), (2, .int v2), (3, .int v3)] dX9_look_5 (by decide) rfl ?_
  refine g_iload hk 0 dX9_look_7 rfl ?_
  refine g_ifeq hk (tgt := 19) dX9_look_9 (by decide) h (fun h => ?_) (fun h => ?_)
  · refine g_iload_n hk 3 dX9_look_19 rfl ?_
    refine g_iflt hk (tgt := 27) dX9_look_20 (by decide) h (fun h => ?_) (fun h => ?_)
    · refine g_aload_n hk 1 dX9_look_27 rfl ?_
      refine g_bipush hk (-4) dX9_look_28 (by decide) ?_
      obtain ⟨r2, hr2, h⟩ := bnd h
      refine g_callVi hk [.int (-4)] _ sh0 rfl mtX9_refuse mlX9_116 (by decide) (by decide) rfl rfl (Nat.le_of_ble_eq_true rfl) dX9_look_30 (kX9_refuse _ z M (-4) r2 hr2) ?_
      exact g_iret (val := fun q => q.1) (mem := fun q => q.2) hc rfl dX9_look_33 h ret2
    · refine g_iload_n hk 4 dX9_look_23 rfl ?_
      refine g_ifge hk (tgt := 34) dX9_look_24 (by decide) h (fun h => ?_) (fun h => ?_)
      · refine g_iload_n hk 3 dX9_look_34 rfl ?_
        refine g_sipush hk 999 dX9_look_35 (by decide) ?_
        refine g_icmpgt hk (tgt := 59) dX9_look_38 (by decide) h (fun h => ?_) (fun h => ?_)
        · refine g_aload_n hk 1 dX9_look_59 rfl ?_
          refine g_bipush hk (-6) dX9_look_60 (by decide) ?_
          obtain ⟨r3, hr3, h⟩ := bnd h
          refine g_callVi hk [.int (-6)] _ sh0 rfl mtX9_refuse mlX9_116 (by decide) (by decide) rfl rfl (Nat.le_of_ble_eq_true rfl) dX9_look_62 (kX9_refuse _ z M (-6) r3 hr3) ?_
          exact g_iret (val := fun q => q.1) (mem := fun q => q.2) hc rfl dX9_look_65 h ret2
        · refine g_iload_n hk 4 dX9_look_41 rfl ?_
          refine g_bipush hk 50 dX9_look_42 (by decide) ?_
          refine g_icmpgt hk (tgt := 59) dX9_look_44 (by decide) h (fun h => ?_) (fun h => ?_)
          · refine g_aload_n hk 1 dX9_look_59 rfl ?_
            refine g_bipush hk (-6) dX9_look_60 (by decide) ?_
            obtain ⟨r4, hr4, h⟩ := bnd h
            refine g_callVi hk [.int (-6)] _ sh0 rfl mtX9_refuse mlX9_116 (by decide) (by decide) rfl rfl (Nat.le_of_ble_eq_true rfl) dX9_look_62 (kX9_refuse _ z M (-6) r4 hr4) ?_
            exact g_iret (val := fun q => q.1) (mem := fun q => q.2) hc rfl dX9_look_65 h ret2
          · refine g_aload_n hk 1 dX9_look_47 rfl ?_
            refine gfX9_38 hk dX9_look_48 ?_
            refine gfX9_131 hk dX9_look_51 (M.1 8 1) rfl ?_
            refine g_bipush hk 120 dX9_look_54 (by decide) ?_
            refine g_icmplt hk (tgt := 66) dX9_look_56 (by decide) h (fun h => ?_) (fun h => ?_)
            · refine g_aload_n hk 1 dX9_look_66 rfl ?_
              refine gfX9_38 hk dX9_look_67 ?_
              refine g_iload_n hk 2 dX9_look_70 rfl ?_
              refine g_iload_n hk 3 dX9_look_71 rfl ?_
              refine g_iload_n hk 4 dX9_look_72 rfl ?_
              obtain ⟨r5, hr5, h⟩ := bnd h
              refine g_callVi hk [.int v1, .int v2, .int v3] _ sh8 rfl mtX1_cutSpan mlX9_138 (by decide) (by decide) rfl rfl (Nat.le_of_ble_eq_true rfl) dX9_look_73 (kX1_cutSpan _ z M v1 v2 v3 r5 hr5) ?_
              refine g_istore hk [(5, .int r5.1), (4, .int r1), (0, .ref (z.2.1 0)), (1, .int v1), (2, .int v2), (3, .int v3)] dX9_look_76 (by decide) rfl ?_
              refine g_aload_n hk 2 dX9_look_78 rfl ?_
              refine gfX9_38 hk dX9_look_79 ?_
              refine g_iload_n hk 3 dX9_look_82 rfl ?_
              refine g_aload_n hk 2 dX9_look_83 rfl ?_
              refine g_iload_n hk 3 dX9_look_84 rfl ?_
              obtain ⟨r6, hr6, h⟩ := bnd h
              refine g_callVi hk [.int v1] _ sh0 rfl mtX9_ruleFor mlX9_142 (by decide) (by decide) rfl rfl (Nat.le_of_ble_eq_true rfl) dX9_look_85 (kX9_ruleFor _ z r5.2 v1 r6 hr6) ?_
              refine g_aload_n hk 2 dX9_look_88 rfl ?_
              refine gfX9_7 hk dX9_look_89 (r5.2.1 0 0) rfl ?_
              obtain ⟨r7, hr7, h⟩ := bnd h
              refine g_callVv hk [.int v1, .int r6, .int (r5.2.1 0 0)] _ sh8 rfl mtX1_note mlX9_145 (by decide) (by decide) rfl rfl (Nat.le_of_ble_eq_true rfl) dX9_look_92 (kX1_note _ z r5.2 v1 r6 (r5.2.1 0 0) r7 hr7) ?_
              refine g_iload hk 0 dX9_look_95 rfl ?_
              refine g_ifeq hk (tgt := 104) dX9_look_97 (by decide) h (fun h => ?_) (fun h => ?_)
              · refine g_iconst hk 0 dX9_look_104 (by decide) ?_
                exact g_iret (val := fun q => q.1) (mem := fun q => q.2) hc rfl dX9_look_105 h ret2
              · refine g_iconst hk 1 dX9_look_100 (by decide) ?_
                refine g_goto hk (tgt := 105) dX9_look_101 (by decide) ?_
                exact g_iret (val := fun q => q.1) (mem := fun q => q.2) hc rfl dX9_look_105 h ret2
            · refine g_aload_n hk 1 dX9_look_59 rfl ?_
              refine g_bipush hk (-6) dX9_look_60 (by decide) ?_
              obtain ⟨r8, hr8, h⟩ := bnd h
              refine g_callVi hk [.int (-6)] _ sh0 rfl mtX9_refuse mlX9_116 (by decide) (by decide) rfl rfl (Nat.le_of_ble_eq_true rfl) dX9_look_62 (kX9_refuse _ z M (-6) r8 hr8) ?_
              exact g_iret (val := fun q => q.1) (mem := fun q => q.2) hc rfl dX9_look_65 h ret2
      · refine g_aload_n hk 1 dX9_look_27 rfl ?_
        refine g_bipush hk (-4) dX9_look_28 (by decide) ?_
        obtain ⟨r9, hr9, h⟩ := bnd h
        refine g_callVi hk [.int (-4)] _ sh0 rfl mtX9_refuse mlX9_116 (by decide) (by decide) rfl rfl (Nat.le_of_ble_eq_true rfl) dX9_look_30 (kX9_refuse _ z M (-4) r9 hr9) ?_
        exact g_iret (val := fun q => q.1) (mem := fun q => q.2) hc rfl dX9_look_33 h ret2
  · refine g_aload_n hk 1 dX9_look_12 rfl ?_
    refine g_iload hk 0 dX9_look_13 rfl ?_
    obtain ⟨r10, hr10, h⟩ := bnd h
    refine g_callVi hk [.int r1] _ sh0 rfl mtX9_refuse mlX9_116 (by decide) (by decide) rfl rfl (Nat.le_of_ble_eq_true rfl) dX9_look_15 (kX9_refuse _ z M r1 r10 hr10) ?_
    exact g_iret (val := fun q => q.1) (mem := fun q => q.2) hc rfl dX9_look_18 h ret2
set_option maxHeartbeats 4000000 in
set_option maxRecDepth 100000 in
theorem kX9_span (l : Launch) (z : Lay) (M : Mem) (v1 : Int32) (v2 : Int32) (r : Int32 × Mem) (h : xX9_span M v1 v2 = some r) : Con l z yX9_span cX9_span 3 (some .int) 1 [.ref (z.2.1 0), .int v1, .int v2] M (some (.int r.1)) r.2 := by
  refine Con.of (by decide) (Nat.le_of_ble_eq_true rfl) ?_
  intro x hl hc
  subst hl
  have hk : okc x z cX9_span RX9 3 1 := hc.1
  show G x z 3 0 [(0, .ref (z.2.1 0)), (1, .int v1), (2, .int v2)] [] M
  unfold xX9_span at h
  refine g_aload_n hk 0 dX9_span_0 rfl ?_
  refine g_iload_n hk 1 dX9_span_1 rfl ?_
  obtain ⟨r1, hr1, h⟩ := bnd h
  refine g_callVi hk [.int v1] _ sh0 rfl mtX9_isDefect mlX9_156 (by decide) (by decide) rfl rfl (Nat.le_of_ble_eq_true rfl) dX9_span_2 (kX9_isDefect _ z M v1 r1 hr1) ?_
  refine g_ifne hk (tgt := 14) dX9_span_5 (by decide) h (fun h => ?_) (fun h => ?_)
  · refine g_iload_n hk 2 dX9_span_14 rfl ?_
    refine g_iflt hk (tgt := 23) dX9_span_15 (by decide) h (fun h => ?_) (fun h => ?_)
    · refine g_aload_n hk 0 dX9_span_23 rfl ?_
      refine g_bipush hk (-2) dX9_span_24 (by decide) ?_
      obtain ⟨r2, hr2, h⟩ := bnd h
      refine g_callVi hk [.int (-2)] _ sh0 rfl mtX9_refuse mlX9_116 (by decide) (by decide) rfl rfl (Nat.le_of_ble_eq_true rfl) dX9_span_26 (kX9_refuse _ z M (-2) r2 hr2) ?_
      exact g_iret (val := fun q => q.1) (mem := fun q => q.2) hc rfl dX9_span_29 h ret2
    · refine g_iload_n hk 2 dX9_span_18 rfl ?_
      refine g_iconst hk 1 dX9_span_19 (by decide) ?_
      refine g_icmple hk (tgt := 30) dX9_span_20 (by decide) h (fun h => ?_) (fun h => ?_)
      · refine g_aload_n hk 0 dX9_span_30 rfl ?_
        refine gfX9_38 hk dX9_span_31 ?_
        refine gfX9_159 hk dX9_span_34 ?_
        refine g_iload_n hk 1 dX9_span_37 rfl ?_
        obtain ⟨hi1, h⟩ := ck_e h
        refine g_zald hk sh13 dX9_span_38 hi1 (M.1 13 (ix v1)) rfl ?_
        refine g_ifne hk (tgt := 49) dX9_span_39 (by decide) h (fun h => ?_) (fun h => ?_)
        · refine g_iload_n hk 2 dX9_span_49 rfl ?_
          refine g_ifne hk (tgt := 65) dX9_span_50 (by decide) h (fun h => ?_) (fun h => ?_)
          · refine g_aload_n hk 0 dX9_span_65 rfl ?_
            refine gfX9_38 hk dX9_span_66 ?_
            refine gfX9_166 hk dX9_span_69 ?_
            refine g_iload_n hk 1 dX9_span_72 rfl ?_
            refine g_iald hk sh15 dX9_span_73 hi1 (M.1 15 (ix v1)) rfl ?_
            exact g_iret (val := fun q => q.1) (mem := fun q => q.2) hc rfl dX9_span_74 h ret2
          · refine g_aload_n hk 0 dX9_span_53 rfl ?_
            refine gfX9_38 hk dX9_span_54 ?_
            refine gfX9_163 hk dX9_span_57 ?_
            refine g_iload_n hk 1 dX9_span_60 rfl ?_
            refine g_iald hk sh14 dX9_span_61 hi1 (M.1 14 (ix v1)) rfl ?_
            refine g_goto hk (tgt := 74) dX9_span_62 (by decide) ?_
            exact g_iret (val := fun q => q.1) (mem := fun q => q.2) hc rfl dX9_span_74 h ret2
        · refine g_aload_n hk 0 dX9_span_42 rfl ?_
          refine g_bipush hk (-3) dX9_span_43 (by decide) ?_
          obtain ⟨r3, hr3, h⟩ := bnd h
          refine g_callVi hk [.int (-3)] _ sh0 rfl mtX9_refuse mlX9_116 (by decide) (by decide) rfl rfl (Nat.le_of_ble_eq_true rfl) dX9_span_45 (kX9_refuse _ z M (-3) r3 hr3) ?_
          exact g_iret (val := fun q => q.1) (mem := fun q => q.2) hc rfl dX9_span_48 h ret2
      · refine g_aload_n hk 0 dX9_span_23 rfl ?_
        refine g_bipush hk (-2) dX9_span_24 (by decide) ?_
        obtain ⟨r4, hr4, h⟩ := bnd h
        refine g_callVi hk [.int (-2)] _ sh0 rfl mtX9_refuse mlX9_116 (by decide) (by decide) rfl rfl (Nat.le_of_ble_eq_true rfl) dX9_span_26 (kX9_refuse _ z M (-2) r4 hr4) ?_
        exact g_iret (val := fun q => q.1) (mem := fun q => q.2) hc rfl dX9_span_29 h ret2
  · refine g_aload_n hk 0 dX9_span_8 rfl ?_
    refine g_iconst hk (-1) dX9_span_9 (by decide) ?_
    obtain ⟨r5, hr5, h⟩ := bnd h
    refine g_callVi hk [.int (-1)] _ sh0 rfl mtX9_refuse mlX9_116 (by decide) (by decide) rfl rfl (Nat.le_of_ble_eq_true rfl) dX9_span_10 (kX9_refuse _ z M (-1) r5 hr5) ?_
    exact g_iret (val := fun q => q.1) (mem := fun q => q.2) hc rfl dX9_span_13 h ret2
set_option maxHeartbeats 4000000 in
set_option maxRecDepth 100000 in
theorem kX9_rule (l : Launch) (z : Lay) (M : Mem) (v1 : Int32) (v2 : Int32) (v3 : Int32) (v4 : Int32) (v5 : Int32) (r : Int32 × Mem) (h : xX9_rule M v1 v2 v3 v4 v5 = some r) : Con l z yX9_rule cX9_rule 6 (some .int) 1 [.ref (z.2.1 0), .int v1, .int v2, .int v3, .int v4, .int v5] M (some (.int r.1)) r.2 := by
  refine Con.of (by decide) (Nat.le_of_ble_eq_true rfl) ?_
  intro x hl hc
  subst hl
  have hk : okc x z cX9_rule RX9 6 1 := hc.1
  show G x z 6 0 [(0, .ref (z.2.1 0)), (1, .int v1), (2, .int v2), (3, .int v3), (4, .int v4), (5, .int v5)] [] M
  unfold xX9_rule at h
  refine g_iload_n hk 1 dX9_rule_0 rfl ?_
  obtain ⟨r1, hr1, h⟩ := bnd h
  refine g_callSi hk [.int v1] _ mtX9_isKind mlX9_122 (by decide) (by decide) rfl rfl (Nat.le_of_ble_eq_true rfl) dX9_rule_1 (kX9_isKind _ z M v1 r1 hr1) ?_
  refine g_ifne hk (tgt := 13) dX9_rule_4 (by decide) h (fun h => ?_) (fun h => ?_)
  · refine g_iload hk 4 dX9_rule_13 rfl ?_
    refine g_iflt hk (tgt := 24) dX9_rule_15 (by decide) h (fun h => ?_) (fun h => ?_)
    · refine g_aload_n hk 0 dX9_rule_24 rfl ?_
      refine g_bipush hk (-2) dX9_rule_25 (by decide) ?_
      obtain ⟨r2, hr2, h⟩ := bnd h
      refine g_callVi hk [.int (-2)] _ sh0 rfl mtX9_refuse mlX9_116 (by decide) (by decide) rfl rfl (Nat.le_of_ble_eq_true rfl) dX9_rule_27 (kX9_refuse _ z M (-2) r2 hr2) ?_
      exact g_iret (val := fun q => q.1) (mem := fun q => q.2) hc rfl dX9_rule_30 h ret2
    · refine g_iload hk 4 dX9_rule_18 rfl ?_
      refine g_iconst hk 3 dX9_rule_20 (by decide) ?_
      refine g_icmple hk (tgt := 31) dX9_rule_21 (by decide) h (fun h => ?_) (fun h => ?_)
      · refine g_iload_n hk 2 dX9_rule_31 rfl ?_
        refine g_iflt hk (tgt := 48) dX9_rule_32 (by decide) h (fun h => ?_) (fun h => ?_)
        · refine g_aload_n hk 0 dX9_rule_48 rfl ?_
          refine g_bipush hk (-4) dX9_rule_49 (by decide) ?_
          obtain ⟨r3, hr3, h⟩ := bnd h
          refine g_callVi hk [.int (-4)] _ sh0 rfl mtX9_refuse mlX9_116 (by decide) (by decide) rfl rfl (Nat.le_of_ble_eq_true rfl) dX9_rule_51 (kX9_refuse _ z M (-4) r3 hr3) ?_
          exact g_iret (val := fun q => q.1) (mem := fun q => q.2) hc rfl dX9_rule_54 h ret2
        · refine g_iload_n hk 3 dX9_rule_35 rfl ?_
          refine g_aload_n hk 0 dX9_rule_36 rfl ?_
          refine gfX9_7 hk dX9_rule_37 (M.1 0 0) rfl ?_
          refine g_icmplt hk (tgt := 48) dX9_rule_40 (by decide) h (fun h => ?_) (fun h => ?_)
          · refine g_aload_n hk 0 dX9_rule_48 rfl ?_
            refine g_bipush hk (-4) dX9_rule_49 (by decide) ?_
            obtain ⟨r4, hr4, h⟩ := bnd h
            refine g_callVi hk [.int (-4)] _ sh0 rfl mtX9_refuse mlX9_116 (by decide) (by decide) rfl rfl (Nat.le_of_ble_eq_true rfl) dX9_rule_51 (kX9_refuse _ z M (-4) r4 hr4) ?_
            exact g_iret (val := fun q => q.1) (mem := fun q => q.2) hc rfl dX9_rule_54 h ret2
          · refine g_iload hk 5 dX9_rule_43 rfl ?_
            refine g_ifge hk (tgt := 55) dX9_rule_45 (by decide) h (fun h => ?_) (fun h => ?_)
            · refine g_iload_n hk 2 dX9_rule_55 rfl ?_
              refine g_sipush hk 999 dX9_rule_56 (by decide) ?_
              refine g_icmpgt hk (tgt := 88) dX9_rule_59 (by decide) h (fun h => ?_) (fun h => ?_)
              · refine g_aload_n hk 0 dX9_rule_88 rfl ?_
                refine g_bipush hk (-6) dX9_rule_89 (by decide) ?_
                obtain ⟨r5, hr5, h⟩ := bnd h
                refine g_callVi hk [.int (-6)] _ sh0 rfl mtX9_refuse mlX9_116 (by decide) (by decide) rfl rfl (Nat.le_of_ble_eq_true rfl) dX9_rule_91 (kX9_refuse _ z M (-6) r5 hr5) ?_
                exact g_iret (val := fun q => q.1) (mem := fun q => q.2) hc rfl dX9_rule_94 h ret2
              · refine g_iload_n hk 3 dX9_rule_62 rfl ?_
                refine g_sipush hk 1000 dX9_rule_63 (by decide) ?_
                refine g_icmpgt hk (tgt := 88) dX9_rule_66 (by decide) h (fun h => ?_) (fun h => ?_)
                · refine g_aload_n hk 0 dX9_rule_88 rfl ?_
                  refine g_bipush hk (-6) dX9_rule_89 (by decide) ?_
                  obtain ⟨r6, hr6, h⟩ := bnd h
                  refine g_callVi hk [.int (-6)] _ sh0 rfl mtX9_refuse mlX9_116 (by decide) (by decide) rfl rfl (Nat.le_of_ble_eq_true rfl) dX9_rule_91 (kX9_refuse _ z M (-6) r6 hr6) ?_
                  exact g_iret (val := fun q => q.1) (mem := fun q => q.2) hc rfl dX9_rule_94 h ret2
                · refine g_iload hk 5 dX9_rule_69 rfl ?_
                  refine g_bipush hk 60 dX9_rule_71 (by decide) ?_
                  refine g_icmpgt hk (tgt := 88) dX9_rule_73 (by decide) h (fun h => ?_) (fun h => ?_)
                  · refine g_aload_n hk 0 dX9_rule_88 rfl ?_
                    refine g_bipush hk (-6) dX9_rule_89 (by decide) ?_
                    obtain ⟨r7, hr7, h⟩ := bnd h
                    refine g_callVi hk [.int (-6)] _ sh0 rfl mtX9_refuse mlX9_116 (by decide) (by decide) rfl rfl (Nat.le_of_ble_eq_true rfl) dX9_rule_91 (kX9_refuse _ z M (-6) r7 hr7) ?_
                    exact g_iret (val := fun q => q.1) (mem := fun q => q.2) hc rfl dX9_rule_94 h ret2
                  · refine g_aload_n hk 0 dX9_rule_76 rfl ?_
                    refine gfX9_45 hk dX9_rule_77 ?_
                    refine gfX9_169 hk dX9_rule_80 (M.1 18 0) rfl ?_
                    refine g_bipush hk 30 dX9_rule_83 (by decide) ?_
                    refine g_icmplt hk (tgt := 95) dX9_rule_85 (by decide) h (fun h => ?_) (fun h => ?_)
                    · refine g_aload_n hk 0 dX9_rule_95 rfl ?_
                      refine gfX9_45 hk dX9_rule_96 ?_
                      refine g_iload_n hk 1 dX9_rule_99 rfl ?_
                      refine g_iload_n hk 2 dX9_rule_100 rfl ?_
                      refine g_iload_n hk 3 dX9_rule_101 rfl ?_
                      refine g_iload hk 4 dX9_rule_102 rfl ?_
                      refine g_iload hk 5 dX9_rule_104 rfl ?_
                      obtain ⟨r8, hr8, h⟩ := bnd h
                      refine g_callVi hk [.int v1, .int v2, .int v3, .int v4, .int v5] _ sh18 rfl mtX6_add mlX9_170 (by decide) (by decide) rfl rfl (Nat.le_of_ble_eq_true rfl) dX9_rule_106 (kX6_add _ z M v1 v2 v3 v4 v5 r8 hr8) ?_
                      exact g_iret (val := fun q => q.1) (mem := fun q => q.2) hc rfl dX9_rule_109 h ret2
                    · refine g_aload_n hk 0 dX9_rule_88 rfl ?_
                      refine g_bipush hk (-6) dX9_rule_89 (by decide) ?_
                      obtain ⟨r9, hr9, h⟩ := bnd h
                      refine g_callVi hk [.int (-6)] _ sh0 rfl mtX9_refuse mlX9_116 (by decide) (by decide) rfl rfl (Nat.le_of_ble_eq_true rfl) dX9_rule_91 (kX9_refuse _ z M (-6) r9 hr9) ?_
                      exact g_iret (val := fun q => q.1) (mem := fun q => q.2) hc rfl dX9_rule_94 h ret2
            · refine g_aload_n hk 0 dX9_rule_48 rfl ?_
              refine g_bipush hk (-4) dX9_rule_49 (by decide) ?_
              obtain ⟨r10, hr10, h⟩ := bnd h
              refine g_callVi hk [.int (-4)] _ sh0 rfl mtX9_refuse mlX9_116 (by decide) (by decide) rfl rfl (Nat.le_of_ble_eq_true rfl) dX9_rule_51 (kX9_refuse _ z M (-4) r10 hr10) ?_
              exact g_iret (val := fun q => q.1) (mem := fun q => q.2) hc rfl dX9_rule_54 h ret2
      · refine g_aload_n hk 0 dX9_rule_24 rfl ?_
        refine g_bipush hk (-2) dX9_rule_25 (by decide) ?_
        obtain ⟨r11, hr11, h⟩ := bnd h
        refine g_callVi hk [.int (-2)] _ sh0 rfl mtX9_refuse mlX9_116 (by decide) (by decide) rfl rfl (Nat.le_of_ble_eq_true rfl) dX9_rule_27 (kX9_refuse _ z M (-2) r11 hr11) ?_
        exact g_iret (val := fun q => q.1) (mem := fun q => q.2) hc rfl dX9_rule_30 h ret2
  · refine g_aload_n hk 0 dX9_rule_7 rfl ?_
    refine g_iconst hk (-1) dX9_rule_8 (by decide) ?_
    obtain ⟨r12, hr12, h⟩ := bnd h
    refine g_callVi hk [.int (-1)] _ sh0 rfl mtX9_refuse mlX9_116 (by decide) (by decide) rfl rfl (Nat.le_of_ble_eq_true rfl) dX9_rule_9 (kX9_refuse _ z M (-1) r12 hr12) ?_
    exact g_iret (val := fun q => q.1) (mem := fun q => q.2) hc rfl dX9_rule_12 h ret2
set_option maxHeartbeats 4000000 in
set_option maxRecDepth 100000 in
theorem kX9_force (l : Launch) (z : Lay) (M : Mem) (v1 : Int32) (r : Int32 × Mem) (h : xX9_force M v1 = some r) : Con l z yX9_force cX9_force 3 (some .int) 3 [.ref (z.2.1 0), .int v1] M (some (.int r.1)) r.2 := by
  refine Con.of (by decide) (Nat.le_of_ble_eq_true rfl) ?_
  intro x hl hc
  subst hl
  have hk : okc x z cX9_force RX9 3 3 := hc.1
  show G x z 3 0 [(0, .ref (z.2.1 0)), (1, .int v1)] [] M
  unfold xX9_force at h
  refine g_aload_n hk 0 dX9_force_0 rfl ?_
  refine g_iload_n hk 1 dX9_force_1 rfl ?_
  obtain ⟨r1, hr1, h⟩ := bnd h
  refine g_callVi hk [.int v1] _ sh0 rfl mtX9_refusalOfOpenDefect mlX9_153 (by decide) (by decide) rfl rfl (Nat.le_of_ble_eq_true rfl) dX9_force_2 (kX9_refusalOfOpenDefect _ z M v1 r1 hr1) ?_
  refine g_istore_n hk [(2, .int r1), (0, .ref (z.2.1 0)), (1, .int v1)] dX9_force_5 rfl (by decide) rfl ?_
  refine g_iload_n hk 0 dX9_force_6 rfl ?_
  refine g_ifeq hk (tgt := 16) dX9_force_7 (by decide) h (fun h => ?_) (fun h => ?_)
  · refine g_aload_n hk 1 dX9_force_16 rfl ?_
    refine g_iload_n hk 2 dX9_force_17 rfl ?_
    obtain ⟨r2, hr2, h⟩ := bnd h
    refine g_callVi hk [.int v1] _ sh0 rfl mtX9_ruleFor mlX9_142 (by decide) (by decide) rfl rfl (Nat.le_of_ble_eq_true rfl) dX9_force_18 (kX9_ruleFor _ z M v1 r2 hr2) ?_
    exact g_iret (val := fun q => q.1) (mem := fun q => q.2) hc rfl dX9_force_21 h ret2
  · refine g_aload_n hk 1 dX9_force_10 rfl ?_
    refine g_iload_n hk 0 dX9_force_11 rfl ?_
    obtain ⟨r3, hr3, h⟩ := bnd h
    refine g_callVi hk [.int r1] _ sh0 rfl mtX9_refuse mlX9_116 (by decide) (by decide) rfl rfl (Nat.le_of_ble_eq_true rfl) dX9_force_12 (kX9_refuse _ z M r1 r3 hr3) ?_
    exact g_iret (val := fun q => q.1) (mem := fun q => q.2) hc rfl dX9_force_15 h ret2
set_option maxHeartbeats 4000000 in
set_option maxRecDepth 100000 in
theorem kX9_dueDay (l : Launch) (z : Lay) (M : Mem) (v1 : Int32) (r : Int32) (h : xX9_dueDay M v1 = some r) : Con l z yX9_dueDay cX9_dueDay 4 (some .int) 3 [.ref (z.2.1 0), .int v1] M (some (.int r)) M := by
  refine Con.of (by decide) (Nat.le_of_ble_eq_true rfl) ?_
  intro x hl hc
  subst hl
  have hk : okc x z cX9_dueDay RX9 4 3 := hc.1
  show G x z 4 0 [(0, .ref (z.2.1 0)), (1, .int v1)] [] M
  unfold xX9_dueDay at h
  refine g_aload_n hk 0 dX9_dueDay_0 rfl ?_
  refine g_iload_n hk 1 dX9_dueDay_1 rfl ?_
  obtain ⟨r1, hr1, h⟩ := bnd h
  refine g_callVi hk [.int v1] _ sh0 rfl mtX9_ruleFor mlX9_142 (by decide) (by decide) rfl rfl (Nat.le_of_ble_eq_true rfl) dX9_dueDay_2 (kX9_ruleFor _ z M v1 r1 hr1) ?_
  refine g_istore_n hk [(2, .int r1), (0, .ref (z.2.1 0)), (1, .int v1)] dX9_dueDay_5 rfl (by decide) rfl ?_
  refine g_iload_n hk 0 dX9_dueDay_6 rfl ?_
  refine g_bipush hk (-9) dX9_dueDay_7 (by decide) ?_
  refine g_icmpne hk (tgt := 15) dX9_dueDay_9 (by decide) h (fun h => ?_) (fun h => ?_)
  · refine g_aload_n hk 1 dX9_dueDay_15 rfl ?_
    refine gfX9_38 hk dX9_dueDay_16 ?_
    refine gfX9_324 hk dX9_dueDay_19 ?_
    refine g_iload_n hk 2 dX9_dueDay_22 rfl ?_
    obtain ⟨hi1, h⟩ := ck_e h
    refine g_iald hk sh16 dX9_dueDay_23 hi1 (M.1 16 (ix v1)) rfl ?_
    refine g_iload_n hk 0 dX9_dueDay_24 rfl ?_
    refine g_icmpne hk (tgt := 40) dX9_dueDay_25 (by decide) h (fun h => ?_) (fun h => ?_)
    · refine g_aload_n hk 1 dX9_dueDay_40 rfl ?_
      refine gfX9_7 hk dX9_dueDay_41 (M.1 0 0) rfl ?_
      refine g_istore_n hk [(3, .int (M.1 0 0)), (2, .int r1), (0, .ref (z.2.1 0)), (1, .int v1)] dX9_dueDay_44 rfl (by decide) rfl ?_
      refine g_iload_n hk 0 dX9_dueDay_45 rfl ?_
      refine g_aload_n hk 2 dX9_dueDay_46 rfl ?_
      refine gfX9_45 hk dX9_dueDay_47 ?_
      refine gfX9_330 hk dX9_dueDay_50 ?_
      refine g_iload_n hk 1 dX9_dueDay_53 rfl ?_
      obtain ⟨hi2, h⟩ := ck_e h
      refine g_iald hk sh20 dX9_dueDay_54 hi2 (M.1 20 (ix r1)) rfl ?_
      refine g_iadd hk dX9_dueDay_55 ?_
      exact g_iret (val := fun q => q) (mem := fun _ => M) hc rfl dX9_dueDay_56 h ret1
    · refine g_aload_n hk 1 dX9_dueDay_28 rfl ?_
      refine gfX9_38 hk dX9_dueDay_29 ?_
      refine gfX9_327 hk dX9_dueDay_32 ?_
      refine g_iload_n hk 2 dX9_dueDay_35 rfl ?_
      refine g_iald hk sh17 dX9_dueDay_36 hi1 (M.1 17 (ix v1)) rfl ?_
      refine g_goto hk (tgt := 44) dX9_dueDay_37 (by decide) ?_
      refine g_istore_n hk [(3, .int (M.1 17 (ix v1))), (2, .int r1), (0, .ref (z.2.1 0)), (1, .int v1)] dX9_dueDay_44 rfl (by decide) rfl ?_
      refine g_iload_n hk 0 dX9_dueDay_45 rfl ?_
      refine g_aload_n hk 2 dX9_dueDay_46 rfl ?_
      refine gfX9_45 hk dX9_dueDay_47 ?_
      refine gfX9_330 hk dX9_dueDay_50 ?_
      refine g_iload_n hk 1 dX9_dueDay_53 rfl ?_
      obtain ⟨hi3, h⟩ := ck_e h
      refine g_iald hk sh20 dX9_dueDay_54 hi3 (M.1 20 (ix r1)) rfl ?_
      refine g_iadd hk dX9_dueDay_55 ?_
      exact g_iret (val := fun q => q) (mem := fun _ => M) hc rfl dX9_dueDay_56 h ret1
  · refine g_bipush hk (-9) dX9_dueDay_12 (by decide) ?_
    exact g_iret (val := fun q => q) (mem := fun _ => M) hc rfl dX9_dueDay_14 h ret1
set_option maxHeartbeats 4000000 in
set_option maxRecDepth 100000 in
theorem kX9_due (l : Launch) (z : Lay) (M : Mem) (v1 : Int32) (r : Int32 × Mem) (h : xX9_due M v1 = some r) : Con l z yX9_due cX9_due 3 (some .int) 4 [.ref (z.2.1 0), .int v1] M (some (.int r.1)) r.2 := by
  refine Con.of (by decide) (Nat.le_of_ble_eq_true rfl) ?_
  intro x hl hc
  subst hl
  have hk : okc x z cX9_due RX9 3 4 := hc.1
  show G x z 3 0 [(0, .ref (z.2.1 0)), (1, .int v1)] [] M
  unfold xX9_due at h
  refine g_aload_n hk 0 dX9_due_0 rfl ?_
  refine g_iload_n hk 1 dX9_due_1 rfl ?_
  obtain ⟨r1, hr1, h⟩ := bnd h
  refine g_callVi hk [.int v1] _ sh0 rfl mtX9_refusalOfOpenDefect mlX9_153 (by decide) (by decide) rfl rfl (Nat.le_of_ble_eq_true rfl) dX9_due_2 (kX9_refusalOfOpenDefect _ z M v1 r1 hr1) ?_
  refine g_istore_n hk [(2, .int r1), (0, .ref (z.2.1 0)), (1, .int v1)] dX9_due_5 rfl (by decide) rfl ?_
  refine g_iload_n hk 0 dX9_due_6 rfl ?_
  refine g_ifeq hk (tgt := 16) dX9_due_7 (by decide) h (fun h => ?_) (fun h => ?_)
  · refine g_aload_n hk 1 dX9_due_16 rfl ?_
    refine g_iload_n hk 2 dX9_due_17 rfl ?_
    obtain ⟨r2, hr2, h⟩ := bnd h
    refine g_callVi hk [.int v1] _ sh0 rfl mtX9_dueDay mlX9_173 (by decide) (by decide) rfl rfl (Nat.le_of_ble_eq_true rfl) dX9_due_18 (kX9_dueDay _ z M v1 r2 hr2) ?_
    exact g_iret (val := fun q => q.1) (mem := fun q => q.2) hc rfl dX9_due_21 h ret2
  · refine g_aload_n hk 1 dX9_due_10 rfl ?_
    refine g_iload_n hk 0 dX9_due_11 rfl ?_
    obtain ⟨r3, hr3, h⟩ := bnd h
    refine g_callVi hk [.int r1] _ sh0 rfl mtX9_refuse mlX9_116 (by decide) (by decide) rfl rfl (Nat.le_of_ble_eq_true rfl) dX9_due_12 (kX9_refuse _ z M r1 r3 hr3) ?_
    exact g_iret (val := fun q => q.1) (mem := fun q => q.2) hc rfl dX9_due_15 h ret2
set_option maxHeartbeats 4000000 in
set_option maxRecDepth 100000 in
theorem kX9_isOverdue (l : Launch) (z : Lay) (M : Mem) (v1 : Int32) (r : Int32) (h : xX9_isOverdue M v1 = some r) : Con l z yX9_isOverdue cX9_isOverdue 3 (some .boolean) 4 [.ref (z.2.1 0), .int v1] M (some (.int r)) M := by
  refine Con.of (by decide) (Nat.le_of_ble_eq_true rfl) ?_
  intro x hl hc
  subst hl
  have hk : okc x z cX9_isOverdue RX9 3 4 := hc.1
  show G x z 3 0 [(0, .ref (z.2.1 0)), (1, .int v1)] [] M
  unfold xX9_isOverdue at h
  refine g_aload_n hk 0 dX9_isOverdue_0 rfl ?_
  refine g_iload_n hk 1 dX9_isOverdue_1 rfl ?_
  obtain ⟨r1, hr1, h⟩ := bnd h
  refine g_callVi hk [.int v1] _ sh0 rfl mtX9_dueDay mlX9_173 (by decide) (by decide) rfl rfl (Nat.le_of_ble_eq_true rfl) dX9_isOverdue_2 (kX9_dueDay _ z M v1 r1 hr1) ?_
  refine g_istore_n hk [(2, .int r1), (0, .ref (z.2.1 0)), (1, .int v1)] dX9_isOverdue_5 rfl (by decide) rfl ?_
  refine g_iload_n hk 0 dX9_isOverdue_6 rfl ?_
  refine g_bipush hk (-9) dX9_isOverdue_7 (by decide) ?_
  refine g_icmpeq hk (tgt := 24) dX9_isOverdue_9 (by decide) h (fun h => ?_) (fun h => ?_)
  · refine g_iconst hk 0 dX9_isOverdue_24 (by decide) ?_
    exact g_zret (val := fun q => q) (mem := fun _ => M) hc rfl dX9_isOverdue_25 h ret1 (by decide)
  · refine g_iload_n hk 0 dX9_isOverdue_12 rfl ?_
    refine g_aload_n hk 1 dX9_isOverdue_13 rfl ?_
    refine gfX9_7 hk dX9_isOverdue_14 (M.1 0 0) rfl ?_
    refine g_icmpge hk (tgt := 24) dX9_isOverdue_17 (by decide) h (fun h => ?_) (fun h => ?_)
    · refine g_iconst hk 0 dX9_isOverdue_24 (by decide) ?_
      exact g_zret (val := fun q => q) (mem := fun _ => M) hc rfl dX9_isOverdue_25 h ret1 (by decide)
    · refine g_iconst hk 1 dX9_isOverdue_20 (by decide) ?_
      refine g_goto hk (tgt := 25) dX9_isOverdue_21 (by decide) ?_
      exact g_zret (val := fun q => q) (mem := fun _ => M) hc rfl dX9_isOverdue_25 h ret1 (by decide)
set_option maxHeartbeats 4000000 in
set_option maxRecDepth 100000 in
theorem glX9_overdue_4 {x : Cx} {z : Lay} {r : Int32} {M : Mem} (hc : okm x z cX9_overdue RX9 3 5 (some .int) (some (.int r)) M)  : ∀ (n : Nat) (v1 : Int32) (v2 : Int32), lX9_overdue_4  n M v1 v2 = some r → G x z 3 4 [(0, .ref (z.2.1 0)), (1, .int v1), (2, .int v2)] [] M := by
  have hk := hc.1
  intro n
  induction n with
  | zero => intro _ _ h; rw [lX9_overdue_4] at h; cases h
  | succ n ih =>
    intro v1 v2 h
    rw [lX9_overdue_4] at h
    refine g_iload_n hk 2 dX9_overdue_4 rfl ?_
    refine g_aload_n hk 0 dX9_overdue_5 rfl ?_
    refine gfX9_38 hk dX9_overdue_6 ?_
    refine gfX9_128 hk dX9_overdue_9 (M.1 8 0) rfl ?_
    refine g_icmpge hk (tgt := 44) dX9_overdue_12 (by decide) h (fun h => ?_) (fun h => ?_)
    · refine g_iload_n hk 1 dX9_overdue_44 rfl ?_
      exact g_iret (val := fun q => q) (mem := fun _ => M) hc rfl dX9_overdue_45 h ret1
    · refine g_aload_n hk 0 dX9_overdue_15 rfl ?_
      refine gfX9_38 hk dX9_overdue_16 ?_
      refine gfX9_159 hk dX9_overdue_19 ?_
      refine g_iload_n hk 2 dX9_overdue_22 rfl ?_
      obtain ⟨hi1, h⟩ := ck_e h
      refine g_zald hk sh13 dX9_overdue_23 hi1 (M.1 13 (ix v2)) rfl ?_
      refine g_ifeq hk (tgt := 38) dX9_overdue_24 (by decide) h (fun h => ?_) (fun h => ?_)
      · refine g_iinc (k := 2) hk [(2, .int (v2 + 1)), (0, .ref (z.2.1 0)), (1, .int v1)] dX9_overdue_38 rfl rfl (by decide) rfl ?_
        refine g_goto hk (tgt := 4) dX9_overdue_41 (by decide) ?_
        exact g_weak [1, 2, 0] [(0, .ref (z.2.1 0)), (1, .int v1), (2, .int (v2 + 1))] rfl (ih v1 (v2 + 1) h)
      · refine g_aload_n hk 0 dX9_overdue_27 rfl ?_
        refine g_iload_n hk 2 dX9_overdue_28 rfl ?_
        obtain ⟨r1, hr1, h⟩ := bnd h
        refine g_callVi hk [.int v2] _ sh0 rfl mtX9_isOverdue mlX9_176 (by decide) (by decide) rfl rfl (Nat.le_of_ble_eq_true rfl) dX9_overdue_29 (kX9_isOverdue _ z M v2 r1 hr1) ?_
        refine g_ifeq hk (tgt := 38) dX9_overdue_32 (by decide) h (fun h => ?_) (fun h => ?_)
        · refine g_iinc (k := 2) hk [(2, .int (v2 + 1)), (0, .ref (z.2.1 0)), (1, .int v1)] dX9_overdue_38 rfl rfl (by decide) rfl ?_
          refine g_goto hk (tgt := 4) dX9_overdue_41 (by decide) ?_
          exact g_weak [1, 2, 0] [(0, .ref (z.2.1 0)), (1, .int v1), (2, .int (v2 + 1))] rfl (ih v1 (v2 + 1) h)
        · refine g_iinc (k := 1) hk [(1, .int (v1 + 1)), (0, .ref (z.2.1 0)), (2, .int v2)] dX9_overdue_35 rfl rfl (by decide) rfl ?_
          refine g_iinc (k := 2) hk [(2, .int (v2 + 1)), (1, .int (v1 + 1)), (0, .ref (z.2.1 0))] dX9_overdue_38 rfl rfl (by decide) rfl ?_
          refine g_goto hk (tgt := 4) dX9_overdue_41 (by decide) ?_
          exact g_weak [2, 1, 0] [(0, .ref (z.2.1 0)), (1, .int (v1 + 1)), (2, .int (v2 + 1))] rfl (ih (v1 + 1) (v2 + 1) h)
set_option maxHeartbeats 4000000 in
set_option maxRecDepth 100000 in
theorem kX9_overdue (l : Launch) (z : Lay) (M : Mem)  (r : Int32) (h : xX9_overdue M = some r) : Con l z yX9_overdue cX9_overdue 3 (some .int) 5 [.ref (z.2.1 0)] M (some (.int r)) M := by
  refine Con.of (by decide) (Nat.le_of_ble_eq_true rfl) ?_
  intro x hl hc
  subst hl
  have hk : okc x z cX9_overdue RX9 3 5 := hc.1
  show G x z 3 0 [(0, .ref (z.2.1 0))] [] M
  unfold xX9_overdue at h
  refine g_iconst hk 0 dX9_overdue_0 (by decide) ?_
  refine g_istore_n hk [(1, .int 0), (0, .ref (z.2.1 0))] dX9_overdue_1 rfl (by decide) rfl ?_
  refine g_iconst hk 0 dX9_overdue_2 (by decide) ?_
  refine g_istore_n hk [(2, .int 0), (1, .int 0), (0, .ref (z.2.1 0))] dX9_overdue_3 rfl (by decide) rfl ?_
  exact g_weak [2, 1, 0] [(0, .ref (z.2.1 0)), (1, .int 0), (2, .int 0)] rfl (glX9_overdue_4 hc  fu 0 0 h)
set_option maxHeartbeats 4000000 in
set_option maxRecDepth 100000 in
theorem gjX9_close_31 {x : Cx} {z : Lay} {r : Int32 × Mem} (hc : okm x z cX9_close RX9 3 1 (some .int) (some (.int r.1)) r.2)  (M : Mem) (v1 : Int32) (v2 : Int32) (h : jX9_close_31  M v1 v2 = some r) : G x z 3 31 [(0, .ref (z.2.1 0)), (1, .int v1), (2, .int v2)] [] M := by
  have hk := hc.1
  unfold jX9_close_31 at h
  refine g_aload_n hk 0 dX9_close_31 rfl ?_
  refine gfX9_38 hk dX9_close_32 ?_
  refine gfX9_159 hk dX9_close_35 ?_
  refine g_iload_n hk 1 dX9_close_38 rfl ?_
  obtain ⟨hi1, h⟩ := ck_e h
  refine g_zald hk sh13 dX9_close_39 hi1 (M.1 13 (ix v1)) rfl ?_
  refine g_ifne hk (tgt := 50) dX9_close_40 (by decide) h (fun h => ?_) (fun h => ?_)
  · refine g_aload_n hk 0 dX9_close_50 rfl ?_
    refine gfX9_38 hk dX9_close_51 ?_
    refine gfX9_159 hk dX9_close_54 ?_
    refine g_iload_n hk 1 dX9_close_57 rfl ?_
    refine g_iconst hk 0 dX9_close_58 (by decide) ?_
    refine g_zast hk 0 sh13 dX9_close_59 hi1 (by decide) ?_
    refine g_iload_n hk 2 dX9_close_60 rfl ?_
    refine g_iconst hk 3 dX9_close_61 (by decide) ?_
    refine g_icmpne hk (tgt := 88) dX9_close_62 (by decide) h (fun h => ?_) (fun h => ?_)
    · refine g_iconst hk 1 dX9_close_88 (by decide) ?_
      exact g_iret (val := fun q => q.1) (mem := fun q => q.2) hc rfl dX9_close_89 h ret2
    · refine g_aload_n hk 0 dX9_close_65 rfl ?_
      refine gfX9_93 hk dX9_close_66 ?_
      refine g_aload_n hk 0 dX9_close_69 rfl ?_
      refine gfX9_38 hk dX9_close_70 ?_
      refine gfX9_179 hk dX9_close_73 ?_
      refine g_iload_n hk 1 dX9_close_76 rfl ?_
      refine g_iald hk sh9 dX9_close_77 hi1 (M.1 9 (ix v1)) rfl ?_
      refine g_aload_n hk 0 dX9_close_78 rfl ?_
      refine gfX9_17 hk dX9_close_79 ?_
      refine g_iconst hk 3 dX9_close_82 (by decide) ?_
      refine g_iald hk sh2 dX9_close_83 (by decide) (M.1 2 3) rfl ?_
      obtain ⟨r1, hr1, h⟩ := bnd h
      refine g_callVi hk [.int (M.1 9 (ix v1)), .int (M.1 2 3)] _ sh47 rfl mtX4_lay mlX9_182 (by decide) (by decide) rfl rfl (Nat.le_of_ble_eq_true rfl) dX9_close_84 (kX4_lay _ z (upI M 13 (ix v1) 0) (M.1 9 (ix v1)) (M.1 2 3) r1 hr1) ?_
      refine g_pop hk dX9_close_87 rfl ?_
      refine g_iconst hk 1 dX9_close_88 (by decide) ?_
      exact g_iret (val := fun q => q.1) (mem := fun q => q.2) hc rfl dX9_close_89 h ret2
  · refine g_aload_n hk 0 dX9_close_43 rfl ?_
    refine g_bipush hk (-3) dX9_close_44 (by decide) ?_
    obtain ⟨r2, hr2, h⟩ := bnd h
    refine g_callVi hk [.int (-3)] _ sh0 rfl mtX9_refuse mlX9_116 (by decide) (by decide) rfl rfl (Nat.le_of_ble_eq_true rfl) dX9_close_46 (kX9_refuse _ z M (-3) r2 hr2) ?_
    exact g_iret (val := fun q => q.1) (mem := fun q => q.2) hc rfl dX9_close_49 h ret2
set_option maxHeartbeats 4000000 in
set_option maxRecDepth 100000 in
theorem kX9_close (l : Launch) (z : Lay) (M : Mem) (v1 : Int32) (v2 : Int32) (r : Int32 × Mem) (h : xX9_close M v1 v2 = some r) : Con l z yX9_close cX9_close 3 (some .int) 1 [.ref (z.2.1 0), .int v1, .int v2] M (some (.int r.1)) r.2 := by
  refine Con.of (by decide) (Nat.le_of_ble_eq_true rfl) ?_
  intro x hl hc
  subst hl
  have hk : okc x z cX9_close RX9 3 1 := hc.1
  show G x z 3 0 [(0, .ref (z.2.1 0)), (1, .int v1), (2, .int v2)] [] M
  unfold xX9_close at h
  refine g_aload_n hk 0 dX9_close_0 rfl ?_
  refine g_iload_n hk 1 dX9_close_1 rfl ?_
  obtain ⟨r1, hr1, h⟩ := bnd h
  refine g_callVi hk [.int v1] _ sh0 rfl mtX9_isDefect mlX9_156 (by decide) (by decide) rfl rfl (Nat.le_of_ble_eq_true rfl) dX9_close_2 (kX9_isDefect _ z M v1 r1 hr1) ?_
  refine g_ifne hk (tgt := 14) dX9_close_5 (by decide) h (fun h => ?_) (fun h => ?_)
  · refine g_iload_n hk 2 dX9_close_14 rfl ?_
    refine g_iconst hk 2 dX9_close_15 (by decide) ?_
    refine g_icmpeq hk (tgt := 31) dX9_close_16 (by decide) h (fun h => ?_) (fun h => ?_)
    · exact g_weak [0, 1, 2] [(0, .ref (z.2.1 0)), (1, .int v1), (2, .int v2)] rfl (gjX9_close_31 hc  M v1 v2 h)
    · refine g_iload_n hk 2 dX9_close_19 rfl ?_
      refine g_iconst hk 3 dX9_close_20 (by decide) ?_
      refine g_icmpeq hk (tgt := 31) dX9_close_21 (by decide) h (fun h => ?_) (fun h => ?_)
      · exact g_weak [0, 1, 2] [(0, .ref (z.2.1 0)), (1, .int v1), (2, .int v2)] rfl (gjX9_close_31 hc  M v1 v2 h)
      · refine g_aload_n hk 0 dX9_close_24 rfl ?_
        refine g_bipush hk (-2) dX9_close_25 (by decide) ?_
        obtain ⟨r2, hr2, h⟩ := bnd h
        refine g_callVi hk [.int (-2)] _ sh0 rfl mtX9_refuse mlX9_116 (by decide) (by decide) rfl rfl (Nat.le_of_ble_eq_true rfl) dX9_close_27 (kX9_refuse _ z M (-2) r2 hr2) ?_
        exact g_iret (val := fun q => q.1) (mem := fun q => q.2) hc rfl dX9_close_30 h ret2
  · refine g_aload_n hk 0 dX9_close_8 rfl ?_
    refine g_iconst hk (-1) dX9_close_9 (by decide) ?_
    obtain ⟨r3, hr3, h⟩ := bnd h
    refine g_callVi hk [.int (-1)] _ sh0 rfl mtX9_refuse mlX9_116 (by decide) (by decide) rfl rfl (Nat.le_of_ble_eq_true rfl) dX9_close_10 (kX9_refuse _ z M (-1) r3 hr3) ?_
    exact g_iret (val := fun q => q.1) (mem := fun q => q.2) hc rfl dX9_close_13 h ret2
set_option maxHeartbeats 4000000 in
set_option maxRecDepth 100000 in
theorem kX9_slow (l : Launch) (z : Lay) (M : Mem) (v1 : Int32) (v2 : Int32) (r : Int32 × Mem) (h : xX9_slow M v1 v2 = some r) : Con l z yX9_slow cX9_slow 3 (some .int) 1 [.ref (z.2.1 0), .int v1, .int v2] M (some (.int r.1)) r.2 := by
  refine Con.of (by decide) (Nat.le_of_ble_eq_true rfl) ?_
  intro x hl hc
  subst hl
  have hk : okc x z cX9_slow RX9 3 1 := hc.1
  show G x z 3 0 [(0, .ref (z.2.1 0)), (1, .int v1), (2, .int v2)] [] M
  unfold xX9_slow at h
  refine g_iload_n hk 1 dX9_slow_0 rfl ?_
  obtain ⟨r1, hr1, h⟩ := bnd h
  refine g_callSi hk [.int v1] _ mtX9_isMile mlX9_125 (by decide) (by decide) rfl rfl (Nat.le_of_ble_eq_true rfl) dX9_slow_1 (kX9_isMile _ z M v1 r1 hr1) ?_
  refine g_ifne hk (tgt := 13) dX9_slow_4 (by decide) h (fun h => ?_) (fun h => ?_)
  · refine g_aload_n hk 0 dX9_slow_13 rfl ?_
    refine gfX9_52 hk dX9_slow_14 ?_
    refine g_iload_n hk 1 dX9_slow_17 rfl ?_
    obtain ⟨r2, hr2, h⟩ := bnd h
    refine g_callVi hk [.int v1] _ sh24 rfl mtX7_standsOn mlX9_185 (by decide) (by decide) rfl rfl (Nat.le_of_ble_eq_true rfl) dX9_slow_18 (kX7_standsOn _ z M v1 r2 hr2) ?_
    refine g_ifeq hk (tgt := 31) dX9_slow_21 (by decide) h (fun h => ?_) (fun h => ?_)
    · refine g_iload_n hk 2 dX9_slow_31 rfl ?_
      refine g_iconst hk 1 dX9_slow_32 (by decide) ?_
      refine g_icmpge hk (tgt := 43) dX9_slow_33 (by decide) h (fun h => ?_) (fun h => ?_)
      · refine g_iload_n hk 2 dX9_slow_43 rfl ?_
        refine g_bipush hk 30 dX9_slow_44 (by decide) ?_
        refine g_icmple hk (tgt := 56) dX9_slow_46 (by decide) h (fun h => ?_) (fun h => ?_)
        · refine g_aload_n hk 0 dX9_slow_56 rfl ?_
          refine gfX9_52 hk dX9_slow_57 ?_
          refine gfX9_188 hk dX9_slow_60 ?_
          refine g_iload_n hk 1 dX9_slow_63 rfl ?_
          refine g_iload_n hk 2 dX9_slow_64 rfl ?_
          obtain ⟨hi1, h⟩ := ck_e h
          refine g_iast hk sh25 dX9_slow_65 hi1 ?_
          refine g_iconst hk 1 dX9_slow_66 (by decide) ?_
          exact g_iret (val := fun q => q.1) (mem := fun q => q.2) hc rfl dX9_slow_67 h ret2
        · refine g_aload_n hk 0 dX9_slow_49 rfl ?_
          refine g_bipush hk (-6) dX9_slow_50 (by decide) ?_
          obtain ⟨r3, hr3, h⟩ := bnd h
          refine g_callVi hk [.int (-6)] _ sh0 rfl mtX9_refuse mlX9_116 (by decide) (by decide) rfl rfl (Nat.le_of_ble_eq_true rfl) dX9_slow_52 (kX9_refuse _ z M (-6) r3 hr3) ?_
          exact g_iret (val := fun q => q.1) (mem := fun q => q.2) hc rfl dX9_slow_55 h ret2
      · refine g_aload_n hk 0 dX9_slow_36 rfl ?_
        refine g_bipush hk (-4) dX9_slow_37 (by decide) ?_
        obtain ⟨r4, hr4, h⟩ := bnd h
        refine g_callVi hk [.int (-4)] _ sh0 rfl mtX9_refuse mlX9_116 (by decide) (by decide) rfl rfl (Nat.le_of_ble_eq_true rfl) dX9_slow_39 (kX9_refuse _ z M (-4) r4 hr4) ?_
        exact g_iret (val := fun q => q.1) (mem := fun q => q.2) hc rfl dX9_slow_42 h ret2
    · refine g_aload_n hk 0 dX9_slow_24 rfl ?_
      refine g_bipush hk (-3) dX9_slow_25 (by decide) ?_
      obtain ⟨r5, hr5, h⟩ := bnd h
      refine g_callVi hk [.int (-3)] _ sh0 rfl mtX9_refuse mlX9_116 (by decide) (by decide) rfl rfl (Nat.le_of_ble_eq_true rfl) dX9_slow_27 (kX9_refuse _ z M (-3) r5 hr5) ?_
      exact g_iret (val := fun q => q.1) (mem := fun q => q.2) hc rfl dX9_slow_30 h ret2
  · refine g_aload_n hk 0 dX9_slow_7 rfl ?_
    refine g_iconst hk (-1) dX9_slow_8 (by decide) ?_
    obtain ⟨r6, hr6, h⟩ := bnd h
    refine g_callVi hk [.int (-1)] _ sh0 rfl mtX9_refuse mlX9_116 (by decide) (by decide) rfl rfl (Nat.le_of_ble_eq_true rfl) dX9_slow_9 (kX9_refuse _ z M (-1) r6 hr6) ?_
    exact g_iret (val := fun q => q.1) (mem := fun q => q.2) hc rfl dX9_slow_12 h ret2
set_option maxHeartbeats 4000000 in
set_option maxRecDepth 100000 in
theorem glX9_needsAct_2 {x : Cx} {z : Lay} {r : Int32} {M : Mem} (hc : okm x z cX9_needsAct RX9 4 3 (some .boolean) (some (.int r)) M)  : ∀ (n : Nat) (v1 : Int32) (v2 : Int32), lX9_needsAct_2  n M v1 v2 = some r → G x z 4 2 [(0, .ref (z.2.1 0)), (1, .int v1), (2, .int v2)] [] M := by
  have hk := hc.1
  intro n
  induction n with
  | zero => intro _ _ h; rw [lX9_needsAct_2] at h; cases h
  | succ n ih =>
    intro v1 v2 h
    rw [lX9_needsAct_2] at h
    refine g_iload_n hk 2 dX9_needsAct_2 rfl ?_
    refine g_aload_n hk 0 dX9_needsAct_3 rfl ?_
    refine gfX9_38 hk dX9_needsAct_4 ?_
    refine gfX9_128 hk dX9_needsAct_7 (M.1 8 0) rfl ?_
    refine g_icmpge hk (tgt := 70) dX9_needsAct_10 (by decide) h (fun h => ?_) (fun h => ?_)
    · refine g_iconst hk 0 dX9_needsAct_70 (by decide) ?_
      exact g_zret (val := fun q => q) (mem := fun _ => M) hc rfl dX9_needsAct_71 h ret1 (by decide)
    · refine g_aload_n hk 0 dX9_needsAct_13 rfl ?_
      refine gfX9_38 hk dX9_needsAct_14 ?_
      refine gfX9_159 hk dX9_needsAct_17 ?_
      refine g_iload_n hk 2 dX9_needsAct_20 rfl ?_
      obtain ⟨hi1, h⟩ := ck_e h
      refine g_zald hk sh13 dX9_needsAct_21 hi1 (M.1 13 (ix v2)) rfl ?_
      refine g_ifeq hk (tgt := 64) dX9_needsAct_22 (by decide) h (fun h => ?_) (fun h => ?_)
      · refine g_iinc (k := 2) hk [(2, .int (v2 + 1)), (0, .ref (z.2.1 0)), (1, .int v1)] dX9_needsAct_64 rfl rfl (by decide) rfl ?_
        refine g_goto hk (tgt := 2) dX9_needsAct_67 (by decide) ?_
        exact g_weak [1, 2, 0] [(0, .ref (z.2.1 0)), (1, .int v1), (2, .int (v2 + 1))] rfl (ih v1 (v2 + 1) h)
      · refine g_aload_n hk 0 dX9_needsAct_25 rfl ?_
        refine gfX9_38 hk dX9_needsAct_26 ?_
        refine gfX9_179 hk dX9_needsAct_29 ?_
        refine g_iload_n hk 2 dX9_needsAct_32 rfl ?_
        refine g_iald hk sh9 dX9_needsAct_33 hi1 (M.1 9 (ix v2)) rfl ?_
        refine g_iload_n hk 1 dX9_needsAct_34 rfl ?_
        refine g_icmpne hk (tgt := 64) dX9_needsAct_35 (by decide) h (fun h => ?_) (fun h => ?_)
        · refine g_iinc (k := 2) hk [(2, .int (v2 + 1)), (0, .ref (z.2.1 0)), (1, .int v1)] dX9_needsAct_64 rfl rfl (by decide) rfl ?_
          refine g_goto hk (tgt := 2) dX9_needsAct_67 (by decide) ?_
          exact g_weak [1, 2, 0] [(0, .ref (z.2.1 0)), (1, .int v1), (2, .int (v2 + 1))] rfl (ih v1 (v2 + 1) h)
        · refine g_aload_n hk 0 dX9_needsAct_38 rfl ?_
          refine g_iload_n hk 2 dX9_needsAct_39 rfl ?_
          obtain ⟨r1, hr1, h⟩ := bnd h
          refine g_callVi hk [.int v2] _ sh0 rfl mtX9_ruleFor mlX9_142 (by decide) (by decide) rfl rfl (Nat.le_of_ble_eq_true rfl) dX9_needsAct_40 (kX9_ruleFor _ z M v2 r1 hr1) ?_
          refine g_istore_n hk [(3, .int r1), (0, .ref (z.2.1 0)), (1, .int v1), (2, .int v2)] dX9_needsAct_43 rfl (by decide) rfl ?_
          refine g_iload_n hk 0 dX9_needsAct_44 rfl ?_
          refine g_bipush hk (-9) dX9_needsAct_45 (by decide) ?_
          refine g_icmpeq hk (tgt := 64) dX9_needsAct_47 (by decide) h (fun h => ?_) (fun h => ?_)
          · refine g_iinc (k := 3) hk [(2, .int (v2 + 1)), (3, .int r1), (0, .ref (z.2.1 0)), (1, .int v1)] dX9_needsAct_64 rfl rfl (by decide) rfl ?_
            refine g_goto hk (tgt := 2) dX9_needsAct_67 (by decide) ?_
            exact g_weak [2, 3, 0] [(0, .ref (z.2.1 0)), (1, .int v1), (2, .int (v2 + 1))] rfl (ih v1 (v2 + 1) h)
          · refine g_aload_n hk 1 dX9_needsAct_50 rfl ?_
            refine gfX9_45 hk dX9_needsAct_51 ?_
            refine gfX9_333 hk dX9_needsAct_54 ?_
            refine g_iload_n hk 0 dX9_needsAct_57 rfl ?_
            obtain ⟨hi2, h⟩ := ck_e h
            refine g_iald hk sh19 dX9_needsAct_58 hi2 (M.1 19 (ix r1)) rfl ?_
            refine g_ifle hk (tgt := 64) dX9_needsAct_59 (by decide) h (fun h => ?_) (fun h => ?_)
            · refine g_iinc (k := 3) hk [(2, .int (v2 + 1)), (3, .int r1), (0, .ref (z.2.1 0)), (1, .int v1)] dX9_needsAct_64 rfl rfl (by decide) rfl ?_
              refine g_goto hk (tgt := 2) dX9_needsAct_67 (by decide) ?_
              exact g_weak [2, 3, 0] [(0, .ref (z.2.1 0)), (1, .int v1), (2, .int (v2 + 1))] rfl (ih v1 (v2 + 1) h)
            · refine g_iconst hk 1 dX9_needsAct_62 (by decide) ?_
              exact g_zret (val := fun q => q) (mem := fun _ => M) hc rfl dX9_needsAct_63 h ret1 (by decide)
set_option maxHeartbeats 4000000 in
set_option maxRecDepth 100000 in
theorem kX9_needsAct (l : Launch) (z : Lay) (M : Mem) (v1 : Int32) (r : Int32) (h : xX9_needsAct M v1 = some r) : Con l z yX9_needsAct cX9_needsAct 4 (some .boolean) 3 [.ref (z.2.1 0), .int v1] M (some (.int r)) M := by
  refine Con.of (by decide) (Nat.le_of_ble_eq_true rfl) ?_
  intro x hl hc
  subst hl
  have hk : okc x z cX9_needsAct RX9 4 3 := hc.1
  show G x z 4 0 [(0, .ref (z.2.1 0)), (1, .int v1)] [] M
  unfold xX9_needsAct at h
  refine g_iconst hk 0 dX9_needsAct_0 (by decide) ?_
  refine g_istore_n hk [(2, .int 0), (0, .ref (z.2.1 0)), (1, .int v1)] dX9_needsAct_1 rfl (by decide) rfl ?_
  exact g_weak [1, 2, 0] [(0, .ref (z.2.1 0)), (1, .int v1), (2, .int 0)] rfl (glX9_needsAct_2 hc  fu v1 0 h)
set_option maxHeartbeats 4000000 in
set_option maxRecDepth 100000 in
theorem kX9_heatOf (l : Launch) (z : Lay) (M : Mem) (v1 : Int32) (r : Int32) (h : xX9_heatOf M v1 = some r) : Con l z yX9_heatOf cX9_heatOf 2 (some .int) 1 [.ref (z.2.1 0), .int v1] M (some (.int r)) M := by
  refine Con.of (by decide) (Nat.le_of_ble_eq_true rfl) ?_
  intro x hl hc
  subst hl
  have hk : okc x z cX9_heatOf RX9 2 1 := hc.1
  show G x z 2 0 [(0, .ref (z.2.1 0)), (1, .int v1)] [] M
  unfold xX9_heatOf at h
  refine g_aload_n hk 0 dX9_heatOf_0 rfl ?_
  refine gfX9_17 hk dX9_heatOf_1 ?_
  refine g_iconst hk 3 dX9_heatOf_4 (by decide) ?_
  refine g_iald hk sh2 dX9_heatOf_5 (by decide) (M.1 2 3) rfl ?_
  refine g_aload_n hk 0 dX9_heatOf_6 rfl ?_
  refine gfX9_93 hk dX9_heatOf_7 ?_
  refine gfX9_336 hk dX9_heatOf_10 ?_
  refine g_iload_n hk 1 dX9_heatOf_13 rfl ?_
  obtain ⟨hi1, h⟩ := ck_e h
  refine g_iald hk sh48 dX9_heatOf_14 hi1 (M.1 48 (ix v1)) rfl ?_
  refine g_isub hk dX9_heatOf_15 ?_
  refine g_mabs hk mlX9_339 st_abs inMath cd_abs (by decide) (Nat.le_of_ble_eq_true rfl) dX9_heatOf_16 ?_
  exact g_iret (val := fun q => q) (mem := fun _ => M) hc rfl dX9_heatOf_19 h ret1
set_option maxHeartbeats 4000000 in
set_option maxRecDepth 100000 in
theorem kX9_lift (l : Launch) (z : Lay) (M : Mem) (v1 : Int32) (r : Int32 × Mem) (h : xX9_lift M v1 = some r) : Con l z yX9_lift cX9_lift 2 (some .int) 4 [.ref (z.2.1 0), .int v1] M (some (.int r.1)) r.2 := by
  refine Con.of (by decide) (Nat.le_of_ble_eq_true rfl) ?_
  intro x hl hc
  subst hl
  have hk : okc x z cX9_lift RX9 2 4 := hc.1
  show G x z 2 0 [(0, .ref (z.2.1 0)), (1, .int v1)] [] M
  unfold xX9_lift at h
  refine g_iload_n hk 1 dX9_lift_0 rfl ?_
  obtain ⟨r1, hr1, h⟩ := bnd h
  refine g_callSi hk [.int v1] _ mtX9_isMile mlX9_125 (by decide) (by decide) rfl rfl (Nat.le_of_ble_eq_true rfl) dX9_lift_1 (kX9_isMile _ z M v1 r1 hr1) ?_
  refine g_ifne hk (tgt := 13) dX9_lift_4 (by decide) h (fun h => ?_) (fun h => ?_)
  · refine g_aload_n hk 0 dX9_lift_13 rfl ?_
    refine gfX9_52 hk dX9_lift_14 ?_
    refine g_iload_n hk 1 dX9_lift_17 rfl ?_
    obtain ⟨r2, hr2, h⟩ := bnd h
    refine g_callVi hk [.int v1] _ sh24 rfl mtX7_standsOn mlX9_185 (by decide) (by decide) rfl rfl (Nat.le_of_ble_eq_true rfl) dX9_lift_18 (kX7_standsOn _ z M v1 r2 hr2) ?_
    refine g_ifne hk (tgt := 31) dX9_lift_21 (by decide) h (fun h => ?_) (fun h => ?_)
    · refine g_aload_n hk 0 dX9_lift_31 rfl ?_
      refine g_iload_n hk 1 dX9_lift_32 rfl ?_
      obtain ⟨r3, hr3, h⟩ := bnd h
      refine g_callVi hk [.int v1] _ sh0 rfl mtX9_needsAct mlX9_191 (by decide) (by decide) rfl rfl (Nat.le_of_ble_eq_true rfl) dX9_lift_33 (kX9_needsAct _ z M v1 r3 hr3) ?_
      refine g_ifne hk (tgt := 49) dX9_lift_36 (by decide) h (fun h => ?_) (fun h => ?_)
      · refine g_iconst hk 0 dX9_lift_49 (by decide) ?_
        exact g_iret (val := fun q => q.1) (mem := fun q => q.2) hc rfl dX9_lift_50 h ret2
      · refine g_aload_n hk 0 dX9_lift_39 rfl ?_
        refine g_iload_n hk 1 dX9_lift_40 rfl ?_
        obtain ⟨r4, hr4, h⟩ := bnd h
        refine g_callVi hk [.int v1] _ sh0 rfl mtX9_heatOf mlX9_194 (by decide) (by decide) rfl rfl (Nat.le_of_ble_eq_true rfl) dX9_lift_41 (kX9_heatOf _ z M v1 r4 hr4) ?_
        refine g_bipush hk 20 dX9_lift_44 (by decide) ?_
        refine g_icmple hk (tgt := 51) dX9_lift_46 (by decide) h (fun h => ?_) (fun h => ?_)
        · refine g_aload_n hk 0 dX9_lift_51 rfl ?_
          refine gfX9_52 hk dX9_lift_52 ?_
          refine gfX9_188 hk dX9_lift_55 ?_
          refine g_iload_n hk 1 dX9_lift_58 rfl ?_
          refine g_iconst hk 0 dX9_lift_59 (by decide) ?_
          obtain ⟨hi1, h⟩ := ck_e h
          refine g_iast hk sh25 dX9_lift_60 hi1 ?_
          refine g_iconst hk 1 dX9_lift_61 (by decide) ?_
          exact g_iret (val := fun q => q.1) (mem := fun q => q.2) hc rfl dX9_lift_62 h ret2
        · refine g_iconst hk 0 dX9_lift_49 (by decide) ?_
          exact g_iret (val := fun q => q.1) (mem := fun q => q.2) hc rfl dX9_lift_50 h ret2
    · refine g_aload_n hk 0 dX9_lift_24 rfl ?_
      refine g_bipush hk (-3) dX9_lift_25 (by decide) ?_
      obtain ⟨r5, hr5, h⟩ := bnd h
      refine g_callVi hk [.int (-3)] _ sh0 rfl mtX9_refuse mlX9_116 (by decide) (by decide) rfl rfl (Nat.le_of_ble_eq_true rfl) dX9_lift_27 (kX9_refuse _ z M (-3) r5 hr5) ?_
      exact g_iret (val := fun q => q.1) (mem := fun q => q.2) hc rfl dX9_lift_30 h ret2
  · refine g_aload_n hk 0 dX9_lift_7 rfl ?_
    refine g_iconst hk (-1) dX9_lift_8 (by decide) ?_
    obtain ⟨r6, hr6, h⟩ := bnd h
    refine g_callVi hk [.int (-1)] _ sh0 rfl mtX9_refuse mlX9_116 (by decide) (by decide) rfl rfl (Nat.le_of_ble_eq_true rfl) dX9_lift_9 (kX9_refuse _ z M (-1) r6 hr6) ?_
    exact g_iret (val := fun q => q.1) (mem := fun q => q.2) hc rfl dX9_lift_12 h ret2
set_option maxHeartbeats 4000000 in
set_option maxRecDepth 100000 in
theorem kX9_lost (l : Launch) (z : Lay) (M : Mem)  (r : Int32) (h : xX9_lost M = some r) : Con l z yX9_lost cX9_lost 1 (some .int) 0 [.ref (z.2.1 0)] M (some (.int r)) M := by
  refine Con.of (by decide) (Nat.le_of_ble_eq_true rfl) ?_
  intro x hl hc
  subst hl
  have hk : okc x z cX9_lost RX9 1 0 := hc.1
  show G x z 1 0 [(0, .ref (z.2.1 0))] [] M
  unfold xX9_lost at h
  refine g_aload_n hk 0 dX9_lost_0 rfl ?_
  refine gfX9_52 hk dX9_lost_1 ?_
  refine gfX9_197 hk dX9_lost_4 (M.1 24 0) rfl ?_
  exact g_iret (val := fun q => q) (mem := fun _ => M) hc rfl dX9_lost_7 h ret1
set_option maxHeartbeats 4000000 in
set_option maxRecDepth 100000 in
theorem kX9_set (l : Launch) (z : Lay) (M : Mem) (v1 : Int32) (v2 : Int32) (r : Int32 × Mem) (h : xX9_set M v1 v2 = some r) : Con l z yX9_set cX9_set 4 (some .int) 2 [.ref (z.2.1 0), .int v1, .int v2] M (some (.int r.1)) r.2 := by
  refine Con.of (by decide) (Nat.le_of_ble_eq_true rfl) ?_
  intro x hl hc
  subst hl
  have hk : okc x z cX9_set RX9 4 2 := hc.1
  show G x z 4 0 [(0, .ref (z.2.1 0)), (1, .int v1), (2, .int v2)] [] M
  unfold xX9_set at h
  refine g_iload_n hk 1 dX9_set_0 rfl ?_
  refine g_iflt hk (tgt := 9) dX9_set_1 (by decide) h (fun h => ?_) (fun h => ?_)
  · refine g_aload_n hk 0 dX9_set_9 rfl ?_
    refine g_bipush hk (-2) dX9_set_10 (by decide) ?_
    obtain ⟨r1, hr1, h⟩ := bnd h
    refine g_callVi hk [.int (-2)] _ sh0 rfl mtX9_refuseAsTold mlX9_101 (by decide) (by decide) rfl rfl (Nat.le_of_ble_eq_true rfl) dX9_set_12 (kX9_refuseAsTold _ z M (-2) r1 hr1) ?_
    exact g_iret (val := fun q => q.1) (mem := fun q => q.2) hc rfl dX9_set_15 h ret2
  · refine g_iload_n hk 1 dX9_set_4 rfl ?_
    refine g_iconst hk 3 dX9_set_5 (by decide) ?_
    refine g_icmple hk (tgt := 16) dX9_set_6 (by decide) h (fun h => ?_) (fun h => ?_)
    · refine g_iload_n hk 2 dX9_set_16 rfl ?_
      refine g_gets0 hk lkX9_200 dX9_set_17 ?_
      refine g_iload_n hk 1 dX9_set_20 rfl ?_
      obtain ⟨hi1, h⟩ := ck_e h
      refine g_tab0 hk dX9_set_21 hi1 ?_
      refine g_icmpge hk (tgt := 32) dX9_set_22 (by decide) h (fun h => ?_) (fun h => ?_)
      · refine g_iload_n hk 2 dX9_set_32 rfl ?_
        refine g_gets1 hk lkX9_203 dX9_set_33 ?_
        refine g_iload_n hk 1 dX9_set_36 rfl ?_
        refine g_tab1 hk dX9_set_37 hi1 ?_
        refine g_icmple hk (tgt := 48) dX9_set_38 (by decide) h (fun h => ?_) (fun h => ?_)
        · refine g_aload_n hk 0 dX9_set_48 rfl ?_
          refine gfX9_17 hk dX9_set_49 ?_
          refine g_iload_n hk 1 dX9_set_52 rfl ?_
          refine g_iald hk sh2 dX9_set_53 hi1 (M.1 2 (ix v1)) rfl ?_
          refine g_istore_n hk [(3, .int (M.1 2 (ix v1))), (0, .ref (z.2.1 0)), (1, .int v1), (2, .int v2)] dX9_set_54 rfl (by decide) rfl ?_
          refine g_aload_n hk 1 dX9_set_55 rfl ?_
          refine gfX9_17 hk dX9_set_56 ?_
          refine g_iload_n hk 2 dX9_set_59 rfl ?_
          refine g_iload_n hk 3 dX9_set_60 rfl ?_
          refine g_iast hk sh2 dX9_set_61 hi1 ?_
          refine g_iload_n hk 0 dX9_set_62 rfl ?_
          exact g_iret (val := fun q => q.1) (mem := fun q => q.2) hc rfl dX9_set_63 h ret2
        · refine g_aload_n hk 0 dX9_set_41 rfl ?_
          refine g_bipush hk (-6) dX9_set_42 (by decide) ?_
          obtain ⟨r2, hr2, h⟩ := bnd h
          refine g_callVi hk [.int (-6)] _ sh0 rfl mtX9_refuseAsTold mlX9_101 (by decide) (by decide) rfl rfl (Nat.le_of_ble_eq_true rfl) dX9_set_44 (kX9_refuseAsTold _ z M (-6) r2 hr2) ?_
          exact g_iret (val := fun q => q.1) (mem := fun q => q.2) hc rfl dX9_set_47 h ret2
      · refine g_aload_n hk 0 dX9_set_25 rfl ?_
        refine g_bipush hk (-4) dX9_set_26 (by decide) ?_
        obtain ⟨r3, hr3, h⟩ := bnd h
        refine g_callVi hk [.int (-4)] _ sh0 rfl mtX9_refuseAsTold mlX9_101 (by decide) (by decide) rfl rfl (Nat.le_of_ble_eq_true rfl) dX9_set_28 (kX9_refuseAsTold _ z M (-4) r3 hr3) ?_
        exact g_iret (val := fun q => q.1) (mem := fun q => q.2) hc rfl dX9_set_31 h ret2
    · refine g_aload_n hk 0 dX9_set_9 rfl ?_
      refine g_bipush hk (-2) dX9_set_10 (by decide) ?_
      obtain ⟨r4, hr4, h⟩ := bnd h
      refine g_callVi hk [.int (-2)] _ sh0 rfl mtX9_refuseAsTold mlX9_101 (by decide) (by decide) rfl rfl (Nat.le_of_ble_eq_true rfl) dX9_set_12 (kX9_refuseAsTold _ z M (-2) r4 hr4) ?_
      exact g_iret (val := fun q => q.1) (mem := fun q => q.2) hc rfl dX9_set_15 h ret2
