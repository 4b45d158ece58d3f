set_option maxHeartbeats 4000000 in
set_option maxRecDepth 100000 in
theorem kX10_refuse (l : Launch) (z : Lay) (M : Mem) (v1 : Int32) (r : Int32 × Mem) (h : xX10_refuse M v1 = some r) : Con l z yX10_refuse cX10_refuse 2 (some .int) 0 [.ref (z.2.1 51), .int v1] M (some (.int r.1)) r.2 := by
  refine Con.of (by decide) (Nat.le_of_ble_eq_true rfl) ?_
  intro x hl hc
  subst hl
  have hk : okc x z cX10_refuse RX10 2 0 := hc.1
  show G x z 2 0 [(0, .ref (z.2.1 51)), (1, .int v1)] [] M
  unfold xX10_refuse at h
  refine g_aload_n hk 0 dX10_refuse_0 rfl ?_
  refine gfX10_7 hk dX10_refuse_1 ?_
  refine g_iload_n hk 1 dX10_refuse_4 rfl ?_
  refine g_ineg hk dX10_refuse_5 ?_
  refine g_dup2 hk dX10_refuse_6 rfl rfl ?_
  obtain ⟨hi1, h⟩ := ck_e h
  refine g_iald hk sh52 dX10_refuse_7 hi1 (M.1 52 (ix (-v1))) rfl ?_
  refine g_iconst hk 1 dX10_refuse_8 (by decide) ?_
  refine g_iadd hk dX10_refuse_9 ?_
  refine g_iast hk sh52 dX10_refuse_10 hi1 ?_
  refine g_iload_n hk 1 dX10_refuse_11 rfl ?_
  exact g_iret (val := fun q => q.1) (mem := fun q => q.2) hc rfl dX10_refuse_12 h ret2
set_option maxHeartbeats 4000000 in
set_option maxRecDepth 100000 in
theorem kX10_refuseFar (l : Launch) (z : Lay) (M : Mem) (v1 : Int32) (r : Int32 × Mem) (h : xX10_refuseFar M v1 = some r) : Con l z yX10_refuseFar cX10_refuseFar 2 (some .int) 1 [.ref (z.2.1 51), .int v1] M (some (.int r.1)) r.2 := by
  refine Con.of (by decide) (Nat.le_of_ble_eq_true rfl) ?_
  intro x hl hc
  subst hl
  have hk : okc x z cX10_refuseFar RX10 2 1 := hc.1
  show G x z 2 0 [(0, .ref (z.2.1 51)), (1, .int v1)] [] M
  unfold xX10_refuseFar at h
  refine g_ldc hk kcX10_148 dX10_refuseFar_0 ?_
  refine g_aload_n hk 0 dX10_refuseFar_2 rfl ?_
  refine g_iload_n hk 1 dX10_refuseFar_3 rfl ?_
  obtain ⟨r1, hr1, h⟩ := bnd h
  refine g_callVi hk [.int v1] _ sh51 rfl mtX10_refuse mlX10_149 (by decide) (by decide) rfl rfl (Nat.le_of_ble_eq_true rfl) dX10_refuseFar_4 (kX10_refuse _ z M v1 r1 hr1) ?_
  refine g_isub hk dX10_refuseFar_7 ?_
  exact g_iret (val := fun q => q.1) (mem := fun q => q.2) hc rfl dX10_refuseFar_8 h ret2
set_option maxHeartbeats 4000000 in
set_option maxRecDepth 100000 in
theorem kX10_isIn (l : Launch) (z : Lay) (M : Mem) (v0 : Int32) (v1 : Int32) (r : Int32) (h : xX10_isIn v0 v1 = some r) : Con l z yX10_isIn cX10_isIn 2 (some .boolean) 0 [.int v0, .int v1] M (some (.int r)) M := by
  refine Con.of (by decide) (Nat.le_of_ble_eq_true rfl) ?_
  intro x hl hc
  subst hl
  have hk : okc x z cX10_isIn RX10 2 0 := hc.1
  show G x z 2 0 [(0, .int v0), (1, .int v1)] [] M
  unfold xX10_isIn at h
  refine g_iload_n hk 0 dX10_isIn_0 rfl ?_
  refine g_iflt hk (tgt := 13) dX10_isIn_1 (by decide) h (fun h => ?_) (fun h => ?_)
  · refine g_iconst hk 0 dX10_isIn_13 (by decide) ?_
    exact g_zret (val := fun q => q) (mem := fun _ => M) hc rfl dX10_isIn_14 h ret1 (by decide)
  · refine g_iload_n hk 0 dX10_isIn_4 rfl ?_
    refine g_iload_n hk 1 dX10_isIn_5 rfl ?_
    refine g_icmpge hk (tgt := 13) dX10_isIn_6 (by decide) h (fun h => ?_) (fun h => ?_)
    · refine g_iconst hk 0 dX10_isIn_13 (by decide) ?_
      exact g_zret (val := fun q => q) (mem := fun _ => M) hc rfl dX10_isIn_14 h ret1 (by decide)
    · refine g_iconst hk 1 dX10_isIn_9 (by decide) ?_
      refine g_goto hk (tgt := 14) dX10_isIn_10 (by decide) ?_
      exact g_zret (val := fun q => q) (mem := fun _ => M) hc rfl dX10_isIn_14 h ret1 (by decide)
set_option maxHeartbeats 4000000 in
set_option maxRecDepth 100000 in
theorem kX10_wrong (l : Launch) (z : Lay) (M : Mem) (v0 : Int32) (v1 : Int32) (v2 : Int32) (r : Int32) (h : xX10_wrong v0 v1 v2 = some r) : Con l z yX10_wrong cX10_wrong 3 (some .int) 0 [.int v0, .int v1, .int v2] M (some (.int r)) M := by
  refine Con.of (by decide) (Nat.le_of_ble_eq_true rfl) ?_
  intro x hl hc
  subst hl
  have hk : okc x z cX10_wrong RX10 3 0 := hc.1
  show G x z 3 0 [(0, .int v0), (1, .int v1), (2, .int v2)] [] M
  unfold xX10_wrong at h
  refine g_iload_n hk 0 dX10_wrong_0 rfl ?_
  refine g_iload_n hk 1 dX10_wrong_1 rfl ?_
  refine g_icmpge hk (tgt := 10) dX10_wrong_2 (by decide) h (fun h => ?_) (fun h => ?_)
  · refine g_iload_n hk 0 dX10_wrong_10 rfl ?_
    refine g_iload_n hk 2 dX10_wrong_11 rfl ?_
    refine g_icmple hk (tgt := 20) dX10_wrong_12 (by decide) h (fun h => ?_) (fun h => ?_)
    · refine g_iconst hk 0 dX10_wrong_20 (by decide) ?_
      exact g_iret (val := fun q => q) (mem := fun _ => M) hc rfl dX10_wrong_21 h ret1
    · refine g_bipush hk (-6) dX10_wrong_15 (by decide) ?_
      refine g_goto hk (tgt := 21) dX10_wrong_17 (by decide) ?_
      exact g_iret (val := fun q => q) (mem := fun _ => M) hc rfl dX10_wrong_21 h ret1
  · refine g_bipush hk (-4) dX10_wrong_5 (by decide) ?_
    refine g_goto hk (tgt := 21) dX10_wrong_7 (by decide) ?_
    exact g_iret (val := fun q => q) (mem := fun _ => M) hc rfl dX10_wrong_21 h ret1
set_option maxHeartbeats 4000000 in
set_option maxRecDepth 100000 in
theorem gjX10_day_89 {x : Cx} {z : Lay} {r : Int32 × Mem} (hc : okm x z cX10_day RX10 6 2 (some .int) (some (.int r.1)) r.2)  (M : Mem) (v1 : Int32) (v2 : Int32) (v3 : Int32) (s0 : Int32) (h : jX10_day_89  M v1 v2 v3 s0 = some r) : G x z 6 89 [(0, .ref (z.2.1 51)), (1, .int v1), (2, .int v2), (3, .int v3)] [.int s0] M := by
  have hk := hc.1
  unfold jX10_day_89 at h
  refine g_istore hk [(5, .int s0), (0, .ref (z.2.1 51)), (1, .int v1), (2, .int v2), (3, .int v3)] dX10_day_89 (by decide) rfl ?_
  refine g_iload_n hk 3 dX10_day_91 rfl ?_
  refine g_ifne hk (tgt := 105) dX10_day_92 (by decide) h (fun h => ?_) (fun h => ?_)
  · refine g_aload_n hk 1 dX10_day_105 rfl ?_
    refine gfX10_16 hk dX10_day_106 ?_
    refine g_iload_n hk 2 dX10_day_109 rfl ?_
    refine g_iload_n hk 4 dX10_day_110 rfl ?_
    obtain ⟨hi1, h⟩ := ck_e h
    refine g_iast hk sh54 dX10_day_111 hi1 ?_
    refine g_iload hk 0 dX10_day_112 rfl ?_
    exact g_iret (val := fun q => q.1) (mem := fun q => q.2) hc rfl dX10_day_114 h ret2
  · refine g_aload_n hk 1 dX10_day_95 rfl ?_
    refine gfX10_13 hk dX10_day_96 ?_
    refine g_iload_n hk 2 dX10_day_99 rfl ?_
    refine g_iload_n hk 4 dX10_day_100 rfl ?_
    obtain ⟨hi2, h⟩ := ck_e h
    refine g_iast hk sh53 dX10_day_101 hi2 ?_
    refine g_goto hk (tgt := 112) dX10_day_102 (by decide) ?_
    refine g_iload hk 0 dX10_day_112 rfl ?_
    exact g_iret (val := fun q => q.1) (mem := fun q => q.2) hc rfl dX10_day_114 h ret2
set_option maxHeartbeats 4000000 in
set_option maxRecDepth 100000 in
theorem gjX10_day_56 {x : Cx} {z : Lay} {r : Int32 × Mem} (hc : okm x z cX10_day RX10 6 2 (some .int) (some (.int r.1)) r.2)  (M : Mem) (v1 : Int32) (v2 : Int32) (v3 : Int32) (s0 : Int32) (h : jX10_day_56  M v1 v2 v3 s0 = some r) : G x z 6 56 [(0, .ref (z.2.1 51)), (1, .int v1), (2, .int v2), (3, .int v3)] [.int s0] M := by
  have hk := hc.1
  unfold jX10_day_56 at h
  refine g_istore hk [(4, .int s0), (0, .ref (z.2.1 51)), (1, .int v1), (2, .int v2), (3, .int v3)] dX10_day_56 (by decide) rfl ?_
  refine g_iload hk 0 dX10_day_58 rfl ?_
  refine g_ifeq hk (tgt := 70) dX10_day_60 (by decide) h (fun h => ?_) (fun h => ?_)
  · refine g_iload_n hk 3 dX10_day_70 rfl ?_
    refine g_ifne hk (tgt := 83) dX10_day_71 (by decide) h (fun h => ?_) (fun h => ?_)
    · refine g_aload_n hk 1 dX10_day_83 rfl ?_
      refine gfX10_16 hk dX10_day_84 ?_
      refine g_iload_n hk 2 dX10_day_87 rfl ?_
      obtain ⟨hi1, h⟩ := ck_e h
      refine g_iald hk sh54 dX10_day_88 hi1 (M.1 54 (ix v1)) rfl ?_
      exact g_weak [1, 2, 3, 4] [(0, .ref (z.2.1 51)), (1, .int v1), (2, .int v2), (3, .int v3)] rfl (gjX10_day_89 hc  M v1 v2 v3 (M.1 54 (ix v1)) h)
    · refine g_aload_n hk 1 dX10_day_74 rfl ?_
      refine gfX10_13 hk dX10_day_75 ?_
      refine g_iload_n hk 2 dX10_day_78 rfl ?_
      obtain ⟨hi2, h⟩ := ck_e h
      refine g_iald hk sh53 dX10_day_79 hi2 (M.1 53 (ix v1)) rfl ?_
      refine g_goto hk (tgt := 89) dX10_day_80 (by decide) ?_
      exact g_weak [1, 2, 3, 4] [(0, .ref (z.2.1 51)), (1, .int v1), (2, .int v2), (3, .int v3)] rfl (gjX10_day_89 hc  M v1 v2 v3 (M.1 53 (ix v1)) h)
  · refine g_aload_n hk 1 dX10_day_63 rfl ?_
    refine g_iload hk 0 dX10_day_64 rfl ?_
    obtain ⟨r1, hr1, h⟩ := bnd h
    refine g_callVi hk [.int s0] _ sh51 rfl mtX10_refuseFar mlX10_164 (by decide) (by decide) rfl rfl (Nat.le_of_ble_eq_true rfl) dX10_day_66 (kX10_refuseFar _ z M s0 r1 hr1) ?_
    exact g_iret (val := fun q => q.1) (mem := fun q => q.2) hc rfl dX10_day_69 h ret2
set_option maxHeartbeats 4000000 in
set_option maxRecDepth 100000 in
theorem gjX10_day_53 {x : Cx} {z : Lay} {r : Int32 × Mem} (hc : okm x z cX10_day RX10 6 2 (some .int) (some (.int r.1)) r.2)  (M : Mem) (v1 : Int32) (v2 : Int32) (v3 : Int32) (s0 : Int32) (s1 : Int32) (s2 : Int32) (h : jX10_day_53  M v1 v2 v3 s0 s1 s2 = some r) : G x z 6 53 [(0, .ref (z.2.1 51)), (1, .int v1), (2, .int v2), (3, .int v3)] [.int s2, .int s1, .int s0] M := by
  have hk := hc.1
  unfold jX10_day_53 at h
  obtain ⟨r1, hr1, h⟩ := bnd h
  refine g_callSi hk [.int s0, .int s1, .int s2] _ mtX10_wrong mlX10_160 (by decide) (by decide) rfl rfl (Nat.le_of_ble_eq_true rfl) dX10_day_53 (kX10_wrong _ z M s0 s1 s2 r1 hr1) ?_
  exact g_weak [0, 1, 2, 3] [(0, .ref (z.2.1 51)), (1, .int v1), (2, .int v2), (3, .int v3)] rfl (gjX10_day_56 hc  M v1 v2 v3 r1 h)
set_option maxHeartbeats 4000000 in
set_option maxRecDepth 100000 in
theorem kX10_day (l : Launch) (z : Lay) (M : Mem) (v1 : Int32) (v2 : Int32) (v3 : Int32) (r : Int32 × Mem) (h : xX10_day M v1 v2 v3 = some r) : Con l z yX10_day cX10_day 6 (some .int) 2 [.ref (z.2.1 51), .int v1, .int v2, .int v3] M (some (.int r.1)) r.2 := by
  refine Con.of (by decide) (Nat.le_of_ble_eq_true rfl) ?_
  intro x hl hc
  subst hl
  have hk : okc x z cX10_day RX10 6 2 := hc.1
  show G x z 6 0 [(0, .ref (z.2.1 51)), (1, .int v1), (2, .int v2), (3, .int v3)] [] M
  unfold xX10_day at h
  refine g_iload_n hk 1 dX10_day_0 rfl ?_
  refine g_sipush hk 1001 dX10_day_1 (by decide) ?_
  obtain ⟨r1, hr1, h⟩ := bnd h
  refine g_callSi hk [.int v1, .int 1001] _ mtX10_isIn mlX10_153 (by decide) (by decide) rfl rfl (Nat.le_of_ble_eq_true rfl) dX10_day_4 (kX10_isIn _ z M v1 1001 r1 hr1) ?_
  refine g_ifne hk (tgt := 14) dX10_day_7 (by decide) h (fun h => ?_) (fun h => ?_)
  · refine g_iload_n hk 2 dX10_day_14 rfl ?_
    refine g_iconst hk 2 dX10_day_15 (by decide) ?_
    obtain ⟨r2, hr2, h⟩ := bnd h
    refine g_callSi hk [.int v2, .int 2] _ mtX10_isIn mlX10_153 (by decide) (by decide) rfl rfl (Nat.le_of_ble_eq_true rfl) dX10_day_16 (kX10_isIn _ z M v2 2 r2 hr2) ?_
    refine g_ifne hk (tgt := 27) dX10_day_19 (by decide) h (fun h => ?_) (fun h => ?_)
    · refine g_iload_n hk 1 dX10_day_27 rfl ?_
      refine g_aload_n hk 0 dX10_day_28 rfl ?_
      refine gfX10_157 hk dX10_day_29 (M.1 51 4) rfl ?_
      refine g_icmpge hk (tgt := 40) dX10_day_32 (by decide) h (fun h => ?_) (fun h => ?_)
      · refine g_iload_n hk 3 dX10_day_40 rfl ?_
        refine g_iconst hk (-1) dX10_day_41 (by decide) ?_
        refine g_iload_n hk 2 dX10_day_42 rfl ?_
        refine g_ifne hk (tgt := 51) dX10_day_43 (by decide) h (fun h => ?_) (fun h => ?_)
        · refine g_bipush hk 40 dX10_day_51 (by decide) ?_
          exact g_weak [0, 1, 2, 3] [(0, .ref (z.2.1 51)), (1, .int v1), (2, .int v2), (3, .int v3)] rfl (gjX10_day_53 hc  M v1 v2 v3 v3 (-1) 40 h)
        · refine g_bipush hk 99 dX10_day_46 (by decide) ?_
          refine g_goto hk (tgt := 53) dX10_day_48 (by decide) ?_
          exact g_weak [0, 1, 2, 3] [(0, .ref (z.2.1 51)), (1, .int v1), (2, .int v2), (3, .int v3)] rfl (gjX10_day_53 hc  M v1 v2 v3 v3 (-1) 99 h)
      · refine g_bipush hk (-3) dX10_day_35 (by decide) ?_
        refine g_goto hk (tgt := 56) dX10_day_37 (by decide) ?_
        exact g_weak [0, 1, 2, 3] [(0, .ref (z.2.1 51)), (1, .int v1), (2, .int v2), (3, .int v3)] rfl (gjX10_day_56 hc  M v1 v2 v3 (-3) h)
    · refine g_bipush hk (-2) dX10_day_22 (by decide) ?_
      refine g_goto hk (tgt := 56) dX10_day_24 (by decide) ?_
      exact g_weak [0, 1, 2, 3] [(0, .ref (z.2.1 51)), (1, .int v1), (2, .int v2), (3, .int v3)] rfl (gjX10_day_56 hc  M v1 v2 v3 (-2) h)
  · refine g_iconst hk (-1) dX10_day_10 (by decide) ?_
    refine g_goto hk (tgt := 56) dX10_day_11 (by decide) ?_
    exact g_weak [0, 1, 2, 3] [(0, .ref (z.2.1 51)), (1, .int v1), (2, .int v2), (3, .int v3)] rfl (gjX10_day_56 hc  M v1 v2 v3 (-1) h)
set_option maxHeartbeats 4000000 in
set_option maxRecDepth 100000 in
theorem glX10_counts_39 {x : Cx} {z : Lay} {r : Int32} {M : Mem} (hc : okm x z cX10_counts RX10 6 1 (some .int) (some (.int r)) M)  : ∀ (n : Nat) (v1 : Int32) (v2 : Int32) (v4 : Int32) (v5 : Int32), lX10_counts_39  n M v1 v2 v4 v5 = some r → G x z 6 39 [(0, .ref (z.2.1 51)), (1, .int v1), (2, .int v2), (4, .int v4), (5, .int v5)] [] M := by
  have hk := hc.1
  intro n
  induction n with
  | zero => intro _ _ _ _ h; rw [lX10_counts_39] at h; cases h
  | succ n ih =>
    intro v1 v2 v4 v5 h
    rw [lX10_counts_39] at h
    refine g_iload hk 4 dX10_counts_39 rfl ?_
    refine g_iload_n hk 1 dX10_counts_41 rfl ?_
    refine g_icmpge hk (tgt := 79) dX10_counts_42 (by decide) h (fun h => ?_) (fun h => ?_)
    · refine g_iload hk 3 dX10_counts_79 rfl ?_
      refine g_iflt hk (tgt := 89) dX10_counts_81 (by decide) h (fun h => ?_) (fun h => ?_)
      · refine g_iload_n hk 2 dX10_counts_89 rfl ?_
        refine g_ifne hk (tgt := 98) dX10_counts_90 (by decide) h (fun h => ?_) (fun h => ?_)
        · refine g_bipush hk 10 dX10_counts_98 (by decide) ?_
          exact g_iret (val := fun q => q) (mem := fun _ => M) hc rfl dX10_counts_100 h ret1
        · refine g_bipush hk 30 dX10_counts_93 (by decide) ?_
          refine g_goto hk (tgt := 100) dX10_counts_95 (by decide) ?_
          exact g_iret (val := fun q => q) (mem := fun _ => M) hc rfl dX10_counts_100 h ret1
      · refine g_iload hk 3 dX10_counts_84 rfl ?_
        refine g_goto hk (tgt := 100) dX10_counts_86 (by decide) ?_
        exact g_iret (val := fun q => q) (mem := fun _ => M) hc rfl dX10_counts_100 h ret1
    · refine g_iload hk 3 dX10_counts_45 rfl ?_
      refine g_iload_n hk 2 dX10_counts_47 rfl ?_
      refine g_ifne hk (tgt := 61) dX10_counts_48 (by decide) h (fun h => ?_) (fun h => ?_)
      · refine g_aload_n hk 0 dX10_counts_61 rfl ?_
        refine gfX10_16 hk dX10_counts_62 ?_
        refine g_iload hk 4 dX10_counts_65 rfl ?_
        obtain ⟨hi1, h⟩ := ck_e h
        refine g_iald hk sh54 dX10_counts_67 hi1 (M.1 54 (ix v5)) rfl ?_
        refine g_mmax hk mlX10_167 st_max inMath cd_max (by decide) (Nat.le_of_ble_eq_true rfl) dX10_counts_68 ?_
        refine g_istore hk [(4, .int (mxI v4 (M.1 54 (ix v5)))), (0, .ref (z.2.1 51)), (1, .int v1), (2, .int v2), (5, .int v5)] dX10_counts_71 (by decide) rfl ?_
        refine g_iinc (k := 4) hk [(5, .int (v5 + 1)), (4, .int (mxI v4 (M.1 54 (ix v5)))), (0, .ref (z.2.1 51)), (1, .int v1), (2, .int v2)] dX10_counts_73 rfl rfl (by decide) rfl ?_
        refine g_goto hk (tgt := 39) dX10_counts_76 (by decide) ?_
        exact g_weak [2, 3, 4, 1, 0] [(0, .ref (z.2.1 51)), (1, .int v1), (2, .int v2), (4, .int (mxI v4 (M.1 54 (ix v5)))), (5, .int (v5 + 1))] rfl (ih v1 v2 (mxI v4 (M.1 54 (ix v5))) (v5 + 1) h)
      · refine g_aload_n hk 0 dX10_counts_51 rfl ?_
        refine gfX10_13 hk dX10_counts_52 ?_
        refine g_iload hk 4 dX10_counts_55 rfl ?_
        obtain ⟨hi2, h⟩ := ck_e h
        refine g_iald hk sh53 dX10_counts_57 hi2 (M.1 53 (ix v5)) rfl ?_
        refine g_goto hk (tgt := 68) dX10_counts_58 (by decide) ?_
        refine g_mmax hk mlX10_167 st_max inMath cd_max (by decide) (Nat.le_of_ble_eq_true rfl) dX10_counts_68 ?_
        refine g_istore hk [(4, .int (mxI v4 (M.1 53 (ix v5)))), (0, .ref (z.2.1 51)), (1, .int v1), (2, .int v2), (5, .int v5)] dX10_counts_71 (by decide) rfl ?_
        refine g_iinc (k := 4) hk [(5, .int (v5 + 1)), (4, .int (mxI v4 (M.1 53 (ix v5)))), (0, .ref (z.2.1 51)), (1, .int v1), (2, .int v2)] dX10_counts_73 rfl rfl (by decide) rfl ?_
        refine g_goto hk (tgt := 39) dX10_counts_76 (by decide) ?_
        exact g_weak [2, 3, 4, 1, 0] [(0, .ref (z.2.1 51)), (1, .int v1), (2, .int v2), (4, .int (mxI v4 (M.1 53 (ix v5)))), (5, .int (v5 + 1))] rfl (ih v1 v2 (mxI v4 (M.1 53 (ix v5))) (v5 + 1) h)
set_option maxHeartbeats 4000000 in
set_option maxRecDepth 100000 in
theorem gjX10_counts_19 {x : Cx} {z : Lay} {r : Int32} {M : Mem} (hc : okm x z cX10_counts RX10 6 1 (some .int) (some (.int r)) M)  (v1 : Int32) (v2 : Int32) (s0 : Int32) (h : jX10_counts_19  M v1 v2 s0 = some r) : G x z 6 19 [(0, .ref (z.2.1 51)), (1, .int v1), (2, .int v2)] [.int s0] M := by
  have hk := hc.1
  unfold jX10_counts_19 at h
  refine g_istore_n hk [(3, .int s0), (0, .ref (z.2.1 51)), (1, .int v1), (2, .int v2)] dX10_counts_19 rfl (by decide) rfl ?_
  refine g_iload_n hk 0 dX10_counts_20 rfl ?_
  refine g_iflt hk (tgt := 26) dX10_counts_21 (by decide) h (fun h => ?_) (fun h => ?_)
  · refine g_iconst hk (-1) dX10_counts_26 (by decide) ?_
    refine g_istore hk [(4, .int (-1)), (3, .int s0), (0, .ref (z.2.1 51)), (1, .int v1), (2, .int v2)] dX10_counts_27 (by decide) rfl ?_
    refine g_iconst hk 0 dX10_counts_29 (by decide) ?_
    refine g_iload_n hk 3 dX10_counts_30 rfl ?_
    refine g_bipush hk 7 dX10_counts_31 (by decide) ?_
    refine g_isub hk dX10_counts_33 ?_
    refine g_mmax hk mlX10_167 st_max inMath cd_max (by decide) (Nat.le_of_ble_eq_true rfl) dX10_counts_34 ?_
    refine g_istore hk [(5, .int (mxI 0 (v1 - 7))), (4, .int (-1)), (3, .int s0), (0, .ref (z.2.1 51)), (1, .int v1), (2, .int v2)] dX10_counts_37 (by decide) rfl ?_
    exact g_weak [3, 4, 5, 1, 0] [(0, .ref (z.2.1 51)), (1, .int v1), (2, .int v2), (4, .int (-1)), (5, .int (mxI 0 (v1 - 7)))] rfl (glX10_counts_39 hc  fu v1 v2 (-1) (mxI 0 (v1 - 7)) h)
  · refine g_iload_n hk 0 dX10_counts_24 rfl ?_
    exact g_iret (val := fun q => q) (mem := fun _ => M) hc rfl dX10_counts_25 h ret1
set_option maxHeartbeats 4000000 in
set_option maxRecDepth 100000 in
theorem kX10_counts (l : Launch) (z : Lay) (M : Mem) (v1 : Int32) (v2 : Int32) (r : Int32) (h : xX10_counts M v1 v2 = some r) : Con l z yX10_counts cX10_counts 6 (some .int) 1 [.ref (z.2.1 51), .int v1, .int v2] M (some (.int r)) M := by
  refine Con.of (by decide) (Nat.le_of_ble_eq_true rfl) ?_
  intro x hl hc
  subst hl
  have hk : okc x z cX10_counts RX10 6 1 := hc.1
  show G x z 6 0 [(0, .ref (z.2.1 51)), (1, .int v1), (2, .int v2)] [] M
  unfold xX10_counts at h
  refine g_iload_n hk 2 dX10_counts_0 rfl ?_
  refine g_ifne hk (tgt := 13) dX10_counts_1 (by decide) h (fun h => ?_) (fun h => ?_)
  · refine g_aload_n hk 0 dX10_counts_13 rfl ?_
    refine gfX10_16 hk dX10_counts_14 ?_
    refine g_iload_n hk 1 dX10_counts_17 rfl ?_
    obtain ⟨hi1, h⟩ := ck_e h
    refine g_iald hk sh54 dX10_counts_18 hi1 (M.1 54 (ix v1)) rfl ?_
    exact g_weak [0, 1, 2] [(0, .ref (z.2.1 51)), (1, .int v1), (2, .int v2)] rfl (gjX10_counts_19 hc  v1 v2 (M.1 54 (ix v1)) h)
  · refine g_aload_n hk 0 dX10_counts_4 rfl ?_
    refine gfX10_13 hk dX10_counts_5 ?_
    refine g_iload_n hk 1 dX10_counts_8 rfl ?_
    obtain ⟨hi2, h⟩ := ck_e h
    refine g_iald hk sh53 dX10_counts_9 hi2 (M.1 53 (ix v1)) rfl ?_
    refine g_goto hk (tgt := 19) dX10_counts_10 (by decide) ?_
    exact g_weak [0, 1, 2] [(0, .ref (z.2.1 51)), (1, .int v1), (2, .int v2)] rfl (gjX10_counts_19 hc  v1 v2 (M.1 53 (ix v1)) h)
set_option maxHeartbeats 4000000 in
set_option maxRecDepth 100000 in
theorem kX10_dayOf (l : Launch) (z : Lay) (M : Mem) (v1 : Int32) (v2 : Int32) (r : Int32 × Mem) (h : xX10_dayOf M v1 v2 = some r) : Con l z yX10_dayOf cX10_dayOf 3 (some .int) 2 [.ref (z.2.1 51), .int v1, .int v2] M (some (.int r.1)) r.2 := by
  refine Con.of (by decide) (Nat.le_of_ble_eq_true rfl) ?_
  intro x hl hc
  subst hl
  have hk : okc x z cX10_dayOf RX10 3 2 := hc.1
  show G x z 3 0 [(0, .ref (z.2.1 51)), (1, .int v1), (2, .int v2)] [] M
  unfold xX10_dayOf at h
  refine g_iload_n hk 1 dX10_dayOf_0 rfl ?_
  refine g_sipush hk 1001 dX10_dayOf_1 (by decide) ?_
  obtain ⟨r1, hr1, h⟩ := bnd h
  refine g_callSi hk [.int v1, .int 1001] _ mtX10_isIn mlX10_153 (by decide) (by decide) rfl rfl (Nat.le_of_ble_eq_true rfl) dX10_dayOf_4 (kX10_isIn _ z M v1 1001 r1 hr1) ?_
  refine g_ifne hk (tgt := 16) dX10_dayOf_7 (by decide) h (fun h => ?_) (fun h => ?_)
  · refine g_iload_n hk 2 dX10_dayOf_16 rfl ?_
    refine g_iconst hk 2 dX10_dayOf_17 (by decide) ?_
    obtain ⟨r2, hr2, h⟩ := bnd h
    refine g_callSi hk [.int v2, .int 2] _ mtX10_isIn mlX10_153 (by decide) (by decide) rfl rfl (Nat.le_of_ble_eq_true rfl) dX10_dayOf_18 (kX10_isIn _ z M v2 2 r2 hr2) ?_
    refine g_ifeq hk (tgt := 33) dX10_dayOf_21 (by decide) h (fun h => ?_) (fun h => ?_)
    · refine g_aload_n hk 0 dX10_dayOf_33 rfl ?_
      refine g_bipush hk (-2) dX10_dayOf_34 (by decide) ?_
      obtain ⟨r3, hr3, h⟩ := bnd h
      refine g_callVi hk [.int (-2)] _ sh51 rfl mtX10_refuse mlX10_149 (by decide) (by decide) rfl rfl (Nat.le_of_ble_eq_true rfl) dX10_dayOf_36 (kX10_refuse _ z M (-2) r3 hr3) ?_
      exact g_iret (val := fun q => q.1) (mem := fun q => q.2) hc rfl dX10_dayOf_39 h ret2
    · refine g_aload_n hk 0 dX10_dayOf_24 rfl ?_
      refine g_iload_n hk 1 dX10_dayOf_25 rfl ?_
      refine g_iload_n hk 2 dX10_dayOf_26 rfl ?_
      obtain ⟨r4, hr4, h⟩ := bnd h
      refine g_callVi hk [.int v1, .int v2] _ sh51 rfl mtX10_counts mlX10_173 (by decide) (by decide) rfl rfl (Nat.le_of_ble_eq_true rfl) dX10_dayOf_27 (kX10_counts _ z M v1 v2 r4 hr4) ?_
      refine g_goto hk (tgt := 39) dX10_dayOf_30 (by decide) ?_
      exact g_iret (val := fun q => q.1) (mem := fun q => q.2) hc rfl dX10_dayOf_39 h ret2
  · refine g_aload_n hk 0 dX10_dayOf_10 rfl ?_
    refine g_iconst hk (-1) dX10_dayOf_11 (by decide) ?_
    obtain ⟨r5, hr5, h⟩ := bnd h
    refine g_callVi hk [.int (-1)] _ sh51 rfl mtX10_refuse mlX10_149 (by decide) (by decide) rfl rfl (Nat.le_of_ble_eq_true rfl) dX10_dayOf_12 (kX10_refuse _ z M (-1) r5 hr5) ?_
    exact g_iret (val := fun q => q.1) (mem := fun q => q.2) hc rfl dX10_dayOf_15 h ret2
set_option maxHeartbeats 4000000 in
set_option maxRecDepth 100000 in
theorem gjX10_growth_19 {x : Cx} {z : Lay} {r : Int32 × Mem} (hc : okm x z cX10_growth RX10 5 1 (some .int) (some (.int r.1)) r.2)  (M : Mem) (v1 : Int32) (v2 : Int32) (s0 : Int32) (h : jX10_growth_19  M v1 v2 s0 = some r) : G x z 5 19 [(0, .ref (z.2.1 51)), (1, .int v1), (2, .int v2)] [.int s0] M := by
  have hk := hc.1
  unfold jX10_growth_19 at h
  refine g_istore_n hk [(3, .int s0), (0, .ref (z.2.1 51)), (1, .int v1), (2, .int v2)] dX10_growth_19 rfl (by decide) rfl ?_
  refine g_iload_n hk 0 dX10_growth_20 rfl ?_
  refine g_ifeq hk (tgt := 30) dX10_growth_21 (by decide) h (fun h => ?_) (fun h => ?_)
  · refine g_aload_n hk 1 dX10_growth_30 rfl ?_
    refine gfX10_19 hk dX10_growth_31 ?_
    refine g_iload_n hk 2 dX10_growth_34 rfl ?_
    obtain ⟨hi1, h⟩ := ck_e h
    refine g_iald hk sh55 dX10_growth_35 hi1 (M.1 55 (ix v1)) rfl ?_
    refine g_istore hk [(4, .int (M.1 55 (ix v1))), (3, .int s0), (0, .ref (z.2.1 51)), (1, .int v1), (2, .int v2)] dX10_growth_36 (by decide) rfl ?_
    refine g_aload_n hk 2 dX10_growth_38 rfl ?_
    refine gfX10_19 hk dX10_growth_39 ?_
    refine g_iload_n hk 3 dX10_growth_42 rfl ?_
    refine g_iload_n hk 4 dX10_growth_43 rfl ?_
    refine g_iast hk sh55 dX10_growth_44 hi1 ?_
    refine g_iload hk 0 dX10_growth_45 rfl ?_
    exact g_iret (val := fun q => q.1) (mem := fun q => q.2) hc rfl dX10_growth_47 h ret2
  · refine g_aload_n hk 1 dX10_growth_24 rfl ?_
    refine g_iload_n hk 0 dX10_growth_25 rfl ?_
    obtain ⟨r1, hr1, h⟩ := bnd h
    refine g_callVi hk [.int s0] _ sh51 rfl mtX10_refuse mlX10_149 (by decide) (by decide) rfl rfl (Nat.le_of_ble_eq_true rfl) dX10_growth_26 (kX10_refuse _ z M s0 r1 hr1) ?_
    exact g_iret (val := fun q => q.1) (mem := fun q => q.2) hc rfl dX10_growth_29 h ret2
set_option maxHeartbeats 4000000 in
set_option maxRecDepth 100000 in
theorem kX10_growth (l : Launch) (z : Lay) (M : Mem) (v1 : Int32) (v2 : Int32) (r : Int32 × Mem) (h : xX10_growth M v1 v2 = some r) : Con l z yX10_growth cX10_growth 5 (some .int) 1 [.ref (z.2.1 51), .int v1, .int v2] M (some (.int r.1)) r.2 := by
  refine Con.of (by decide) (Nat.le_of_ble_eq_true rfl) ?_
  intro x hl hc
  subst hl
  have hk : okc x z cX10_growth RX10 5 1 := hc.1
  show G x z 5 0 [(0, .ref (z.2.1 51)), (1, .int v1), (2, .int v2)] [] M
  unfold xX10_growth at h
  refine g_iload_n hk 1 dX10_growth_0 rfl ?_
  refine g_iconst hk 4 dX10_growth_1 (by decide) ?_
  obtain ⟨r1, hr1, h⟩ := bnd h
  refine g_callSi hk [.int v1, .int 4] _ mtX10_isIn mlX10_153 (by decide) (by decide) rfl rfl (Nat.le_of_ble_eq_true rfl) dX10_growth_2 (kX10_isIn _ z M v1 4 r1 hr1) ?_
  refine g_ifeq hk (tgt := 18) dX10_growth_5 (by decide) h (fun h => ?_) (fun h => ?_)
  · refine g_iconst hk (-1) dX10_growth_18 (by decide) ?_
    exact g_weak [0, 1, 2] [(0, .ref (z.2.1 51)), (1, .int v1), (2, .int v2)] rfl (gjX10_growth_19 hc  M v1 v2 (-1) h)
  · refine g_iload_n hk 2 dX10_growth_8 rfl ?_
    refine g_iconst hk 0 dX10_growth_9 (by decide) ?_
    refine g_bipush hk 50 dX10_growth_10 (by decide) ?_
    obtain ⟨r2, hr2, h⟩ := bnd h
    refine g_callSi hk [.int v2, .int 0, .int 50] _ mtX10_wrong mlX10_160 (by decide) (by decide) rfl rfl (Nat.le_of_ble_eq_true rfl) dX10_growth_12 (kX10_wrong _ z M v2 0 50 r2 hr2) ?_
    refine g_goto hk (tgt := 19) dX10_growth_15 (by decide) ?_
    exact g_weak [0, 1, 2] [(0, .ref (z.2.1 51)), (1, .int v1), (2, .int v2)] rfl (gjX10_growth_19 hc  M v1 v2 r2 h)
set_option maxHeartbeats 4000000 in
set_option maxRecDepth 100000 in
theorem kX10_isMile (l : Launch) (z : Lay) (M : Mem) (v0 : Int32) (r : Int32) (h : xX10_isMile v0 = some r) : Con l z yX10_isMile cX10_isMile 1 (some .boolean) 1 [.int v0] M (some (.int r)) M := by
  refine Con.of (by decide) (Nat.le_of_ble_eq_true rfl) ?_
  intro x hl hc
  subst hl
  have hk : okc x z cX10_isMile RX10 1 1 := hc.1
  show G x z 1 0 [(0, .int v0)] [] M
  unfold xX10_isMile at h
  refine g_iload_n hk 0 dX10_isMile_0 rfl ?_
  refine g_bipush hk 20 dX10_isMile_1 (by decide) ?_
  obtain ⟨r1, hr1, h⟩ := bnd h
  refine g_callSi hk [.int v0, .int 20] _ mtX10_isIn mlX10_153 (by decide) (by decide) rfl rfl (Nat.le_of_ble_eq_true rfl) dX10_isMile_3 (kX10_isIn _ z M v0 20 r1 hr1) ?_
  obtain ⟨hi1, h⟩ := ck_e h
  exact g_zret (val := fun q => q) (mem := fun _ => M) hc rfl dX10_isMile_6 h ret1 hi1
set_option maxHeartbeats 4000000 in
set_option maxRecDepth 100000 in
theorem kX10_isDefect (l : Launch) (z : Lay) (M : Mem) (v1 : Int32) (r : Int32) (h : xX10_isDefect M v1 = some r) : Con l z yX10_isDefect cX10_isDefect 2 (some .boolean) 1 [.ref (z.2.1 51), .int v1] M (some (.int r)) M := by
  refine Con.of (by decide) (Nat.le_of_ble_eq_true rfl) ?_
  intro x hl hc
  subst hl
  have hk : okc x z cX10_isDefect RX10 2 1 := hc.1
  show G x z 2 0 [(0, .ref (z.2.1 51)), (1, .int v1)] [] M
  unfold xX10_isDefect at h
  refine g_iload_n hk 1 dX10_isDefect_0 rfl ?_
  refine g_aload_n hk 0 dX10_isDefect_1 rfl ?_
  refine gfX10_176 hk dX10_isDefect_2 (M.1 51 5) rfl ?_
  obtain ⟨r1, hr1, h⟩ := bnd h
  refine g_callSi hk [.int v1, .int (M.1 51 5)] _ mtX10_isIn mlX10_153 (by decide) (by decide) rfl rfl (Nat.le_of_ble_eq_true rfl) dX10_isDefect_5 (kX10_isIn _ z M v1 (M.1 51 5) r1 hr1) ?_
  obtain ⟨hi1, h⟩ := ck_e h
  exact g_zret (val := fun q => q) (mem := fun _ => M) hc rfl dX10_isDefect_8 h ret1 hi1
set_option maxHeartbeats 4000000 in
set_option maxRecDepth 100000 in
theorem glX10_forceOf_5 {x : Cx} {z : Lay} {r : Int32} {M : Mem} (hc : okm x z cX10_forceOf RX10 4 0 (some .int) (some (.int r)) M)  : ∀ (n : Nat) (v1 : Int32) (v2 : Int32) (v3 : Int32), lX10_forceOf_5  n M v1 v2 v3 = some r → G x z 4 5 [(0, .ref (z.2.1 51)), (1, .int v1), (2, .int v2), (3, .int v3)] [] M := by
  have hk := hc.1
  intro n
  induction n with
  | zero => intro _ _ _ h; rw [lX10_forceOf_5] at h; cases h
  | succ n ih =>
    intro v1 v2 v3 h
    rw [lX10_forceOf_5] at h
    refine g_iload_n hk 3 dX10_forceOf_5 rfl ?_
    refine g_aload_n hk 0 dX10_forceOf_6 rfl ?_
    refine gfX10_203 hk dX10_forceOf_7 (M.1 51 8) rfl ?_
    refine g_icmpge hk (tgt := 116) dX10_forceOf_10 (by decide) h (fun h => ?_) (fun h => ?_)
    · refine g_iload_n hk 2 dX10_forceOf_116 rfl ?_
      exact g_iret (val := fun q => q) (mem := fun _ => M) hc rfl dX10_forceOf_117 h ret1
    · refine g_aload_n hk 0 dX10_forceOf_13 rfl ?_
      refine gfX10_69 hk dX10_forceOf_14 ?_
      refine g_iload_n hk 3 dX10_forceOf_17 rfl ?_
      obtain ⟨hi1, h⟩ := ck_e h
      refine g_iald hk sh67 dX10_forceOf_18 hi1 (M.1 67 (ix v3)) rfl ?_
      refine g_aload_n hk 0 dX10_forceOf_19 rfl ?_
      refine gfX10_44 hk dX10_forceOf_20 ?_
      refine g_iload_n hk 1 dX10_forceOf_23 rfl ?_
      obtain ⟨hi2, h⟩ := ck_e h
      refine g_iald hk sh59 dX10_forceOf_24 hi2 (M.1 59 (ix v1)) rfl ?_
      refine g_icmpne hk (tgt := 110) dX10_forceOf_25 (by decide) h (fun h => ?_) (fun h => ?_)
      · refine g_iinc (k := 3) hk [(3, .int (v3 + 1)), (0, .ref (z.2.1 51)), (1, .int v1), (2, .int v2)] dX10_forceOf_110 rfl rfl (by decide) rfl ?_
        refine g_goto hk (tgt := 5) dX10_forceOf_113 (by decide) ?_
        exact g_weak [1, 2, 3, 0] [(0, .ref (z.2.1 51)), (1, .int v1), (2, .int v2), (3, .int (v3 + 1))] rfl (ih v1 v2 (v3 + 1) h)
      · refine g_aload_n hk 0 dX10_forceOf_28 rfl ?_
        refine gfX10_75 hk dX10_forceOf_29 ?_
        refine g_iload_n hk 3 dX10_forceOf_32 rfl ?_
        refine g_iald hk sh69 dX10_forceOf_33 hi1 (M.1 69 (ix v3)) rfl ?_
        refine g_aload_n hk 0 dX10_forceOf_34 rfl ?_
        refine gfX10_157 hk dX10_forceOf_35 (M.1 51 4) rfl ?_
        refine g_icmpgt hk (tgt := 110) dX10_forceOf_38 (by decide) h (fun h => ?_) (fun h => ?_)
        · refine g_iinc (k := 3) hk [(3, .int (v3 + 1)), (0, .ref (z.2.1 51)), (1, .int v1), (2, .int v2)] dX10_forceOf_110 rfl rfl (by decide) rfl ?_
          refine g_goto hk (tgt := 5) dX10_forceOf_113 (by decide) ?_
          exact g_weak [1, 2, 3, 0] [(0, .ref (z.2.1 51)), (1, .int v1), (2, .int v2), (3, .int (v3 + 1))] rfl (ih v1 v2 (v3 + 1) h)
        · refine g_aload_n hk 0 dX10_forceOf_41 rfl ?_
          refine gfX10_72 hk dX10_forceOf_42 ?_
          refine g_iload_n hk 3 dX10_forceOf_45 rfl ?_
          refine g_iald hk sh68 dX10_forceOf_46 hi1 (M.1 68 (ix v3)) rfl ?_
          refine g_aload_n hk 0 dX10_forceOf_47 rfl ?_
          refine gfX10_53 hk dX10_forceOf_48 ?_
          refine g_iload_n hk 1 dX10_forceOf_51 rfl ?_
          refine g_iald hk sh62 dX10_forceOf_52 hi2 (M.1 62 (ix v1)) rfl ?_
          refine g_icmple hk (tgt := 59) dX10_forceOf_53 (by decide) h (fun h => ?_) (fun h => ?_)
          · refine g_iload_n hk 2 dX10_forceOf_59 rfl ?_
            refine g_iflt hk (tgt := 108) dX10_forceOf_60 (by decide) h (fun h => ?_) (fun h => ?_)
            · refine g_iload_n hk 3 dX10_forceOf_108 rfl ?_
              refine g_istore_n hk [(2, .int v3), (0, .ref (z.2.1 51)), (1, .int v1), (3, .int v3)] dX10_forceOf_109 rfl (by decide) rfl ?_
              refine g_iinc (k := 3) hk [(3, .int (v3 + 1)), (2, .int v3), (0, .ref (z.2.1 51)), (1, .int v1)] dX10_forceOf_110 rfl rfl (by decide) rfl ?_
              refine g_goto hk (tgt := 5) dX10_forceOf_113 (by decide) ?_
              exact g_weak [2, 3, 1, 0] [(0, .ref (z.2.1 51)), (1, .int v1), (2, .int v3), (3, .int (v3 + 1))] rfl (ih v1 v3 (v3 + 1) h)
            · refine g_aload_n hk 0 dX10_forceOf_63 rfl ?_
              refine gfX10_72 hk dX10_forceOf_64 ?_
              refine g_iload_n hk 3 dX10_forceOf_67 rfl ?_
              refine g_iald hk sh68 dX10_forceOf_68 hi1 (M.1 68 (ix v3)) rfl ?_
              refine g_aload_n hk 0 dX10_forceOf_69 rfl ?_
              refine gfX10_72 hk dX10_forceOf_70 ?_
              refine g_iload_n hk 2 dX10_forceOf_73 rfl ?_
              obtain ⟨hi3, h⟩ := ck_e h
              refine g_iald hk sh68 dX10_forceOf_74 hi3 (M.1 68 (ix v2)) rfl ?_
              refine g_icmpgt hk (tgt := 108) dX10_forceOf_75 (by decide) h (fun h => ?_) (fun h => ?_)
              · refine g_iload_n hk 3 dX10_forceOf_108 rfl ?_
                refine g_istore_n hk [(2, .int v3), (0, .ref (z.2.1 51)), (1, .int v1), (3, .int v3)] dX10_forceOf_109 rfl (by decide) rfl ?_
                refine g_iinc (k := 3) hk [(3, .int (v3 + 1)), (2, .int v3), (0, .ref (z.2.1 51)), (1, .int v1)] dX10_forceOf_110 rfl rfl (by decide) rfl ?_
                refine g_goto hk (tgt := 5) dX10_forceOf_113 (by decide) ?_
                exact g_weak [2, 3, 1, 0] [(0, .ref (z.2.1 51)), (1, .int v1), (2, .int v3), (3, .int (v3 + 1))] rfl (ih v1 v3 (v3 + 1) h)
              · refine g_aload_n hk 0 dX10_forceOf_78 rfl ?_
                refine gfX10_72 hk dX10_forceOf_79 ?_
                refine g_iload_n hk 3 dX10_forceOf_82 rfl ?_
                refine g_iald hk sh68 dX10_forceOf_83 hi1 (M.1 68 (ix v3)) rfl ?_
                refine g_aload_n hk 0 dX10_forceOf_84 rfl ?_
                refine gfX10_72 hk dX10_forceOf_85 ?_
                refine g_iload_n hk 2 dX10_forceOf_88 rfl ?_
                refine g_iald hk sh68 dX10_forceOf_89 hi3 (M.1 68 (ix v2)) rfl ?_
                refine g_icmpne hk (tgt := 110) dX10_forceOf_90 (by decide) h (fun h => ?_) (fun h => ?_)
                · refine g_iinc (k := 3) hk [(3, .int (v3 + 1)), (0, .ref (z.2.1 51)), (1, .int v1), (2, .int v2)] dX10_forceOf_110 rfl rfl (by decide) rfl ?_
                  refine g_goto hk (tgt := 5) dX10_forceOf_113 (by decide) ?_
                  exact g_weak [1, 2, 3, 0] [(0, .ref (z.2.1 51)), (1, .int v1), (2, .int v2), (3, .int (v3 + 1))] rfl (ih v1 v2 (v3 + 1) h)
                · refine g_aload_n hk 0 dX10_forceOf_93 rfl ?_
                  refine gfX10_75 hk dX10_forceOf_94 ?_
                  refine g_iload_n hk 3 dX10_forceOf_97 rfl ?_
                  refine g_iald hk sh69 dX10_forceOf_98 hi1 (M.1 69 (ix v3)) rfl ?_
                  refine g_aload_n hk 0 dX10_forceOf_99 rfl ?_
                  refine gfX10_75 hk dX10_forceOf_100 ?_
                  refine g_iload_n hk 2 dX10_forceOf_103 rfl ?_
                  refine g_iald hk sh69 dX10_forceOf_104 hi3 (M.1 69 (ix v2)) rfl ?_
                  refine g_icmplt hk (tgt := 110) dX10_forceOf_105 (by decide) h (fun h => ?_) (fun h => ?_)
                  · refine g_iinc (k := 3) hk [(3, .int (v3 + 1)), (0, .ref (z.2.1 51)), (1, .int v1), (2, .int v2)] dX10_forceOf_110 rfl rfl (by decide) rfl ?_
                    refine g_goto hk (tgt := 5) dX10_forceOf_113 (by decide) ?_
                    exact g_weak [1, 2, 3, 0] [(0, .ref (z.2.1 51)), (1, .int v1), (2, .int v2), (3, .int (v3 + 1))] rfl (ih v1 v2 (v3 + 1) h)
                  · refine g_iload_n hk 3 dX10_forceOf_108 rfl ?_
                    refine g_istore_n hk [(2, .int v3), (0, .ref (z.2.1 51)), (1, .int v1), (3, .int v3)] dX10_forceOf_109 rfl (by decide) rfl ?_
                    refine g_iinc (k := 3) hk [(3, .int (v3 + 1)), (2, .int v3), (0, .ref (z.2.1 51)), (1, .int v1)] dX10_forceOf_110 rfl rfl (by decide) rfl ?_
                    refine g_goto hk (tgt := 5) dX10_forceOf_113 (by decide) ?_
                    exact g_weak [2, 3, 1, 0] [(0, .ref (z.2.1 51)), (1, .int v1), (2, .int v3), (3, .int (v3 + 1))] rfl (ih v1 v3 (v3 + 1) h)
          · refine g_goto hk (tgt := 110) dX10_forceOf_56 (by decide) ?_
            refine g_iinc (k := 3) hk [(3, .int (v3 + 1)), (0, .ref (z.2.1 51)), (1, .int v1), (2, .int v2)] dX10_forceOf_110 rfl rfl (by decide) rfl ?_
            refine g_goto hk (tgt := 5) dX10_forceOf_113 (by decide) ?_
            exact g_weak [1, 2, 3, 0] [(0, .ref (z.2.1 51)), (1, .int v1), (2, .int v2), (3, .int (v3 + 1))] rfl (ih v1 v2 (v3 + 1) h)
set_option maxHeartbeats 4000000 in
set_option maxRecDepth 100000 in
theorem kX10_forceOf (l : Launch) (z : Lay) (M : Mem) (v1 : Int32) (r : Int32) (h : xX10_forceOf M v1 = some r) : Con l z yX10_forceOf cX10_forceOf 4 (some .int) 0 [.ref (z.2.1 51), .int v1] M (some (.int r)) M := by
  refine Con.of (by decide) (Nat.le_of_ble_eq_true rfl) ?_
  intro x hl hc
  subst hl
  have hk : okc x z cX10_forceOf RX10 4 0 := hc.1
  show G x z 4 0 [(0, .ref (z.2.1 51)), (1, .int v1)] [] M
  unfold xX10_forceOf at h
  refine g_bipush hk (-9) dX10_forceOf_0 (by decide) ?_
  refine g_istore_n hk [(2, .int (-9)), (0, .ref (z.2.1 51)), (1, .int v1)] dX10_forceOf_2 rfl (by decide) rfl ?_
  refine g_iconst hk 0 dX10_forceOf_3 (by decide) ?_
  refine g_istore_n hk [(3, .int 0), (2, .int (-9)), (0, .ref (z.2.1 51)), (1, .int v1)] dX10_forceOf_4 rfl (by decide) rfl ?_
  exact g_weak [2, 3, 1, 0] [(0, .ref (z.2.1 51)), (1, .int v1), (2, .int (-9)), (3, .int 0)] rfl (glX10_forceOf_5 hc  fu v1 (-9) 0 h)
set_option maxHeartbeats 4000000 in
set_option maxRecDepth 100000 in
theorem gjX10_looksAt_99 {x : Cx} {z : Lay} {r : Int32 × Mem} (hc : okm x z cX10_looksAt RX10 7 1 (some .boolean) (some (.int r.1)) r.2)  (M : Mem) (v1 : Int32) (v6 : Int32) (s1 : Int32) (s2 : Int32) (h : jX10_looksAt_99  M v1 v6 s1 s2 = some r) : G x z 7 99 [(0, .ref (z.2.1 51)), (1, .int v1), (6, .int v6)] [.int s2, .int s1, .ref (z.2.1 62)] M := by
  have hk := hc.1
  unfold jX10_looksAt_99 at h
  obtain ⟨hi1, h⟩ := ck_e h
  refine g_iast hk sh62 dX10_looksAt_99 hi1 ?_
  refine g_aload_n hk 0 dX10_looksAt_100 rfl ?_
  refine gfX10_60 hk dX10_looksAt_101 ?_
  refine g_aload_n hk 0 dX10_looksAt_104 rfl ?_
  refine gfX10_183 hk dX10_looksAt_105 (M.1 51 6) rfl ?_
  refine g_iload_n hk 1 dX10_looksAt_108 rfl ?_
  obtain ⟨hi2, h⟩ := ck_e h
  refine g_iast hk sh64 dX10_looksAt_109 hi2 ?_
  refine g_aload_n hk 0 dX10_looksAt_110 rfl ?_
  refine gfX10_63 hk dX10_looksAt_111 ?_
  refine g_aload_n hk 0 dX10_looksAt_114 rfl ?_
  refine gfX10_183 hk dX10_looksAt_115 (M.1 51 6) rfl ?_
  refine g_aload_n hk 0 dX10_looksAt_118 rfl ?_
  refine gfX10_157 hk dX10_looksAt_119 (M.1 51 4) rfl ?_
  refine g_iast hk sh65 dX10_looksAt_122 hi2 ?_
  refine g_aload_n hk 0 dX10_looksAt_123 rfl ?_
  refine gfX10_66 hk dX10_looksAt_124 ?_
  refine g_aload_n hk 0 dX10_looksAt_127 rfl ?_
  refine gfX10_183 hk dX10_looksAt_128 (M.1 51 6) rfl ?_
  refine g_aload_n hk 0 dX10_looksAt_131 rfl ?_
  refine g_iload_n hk 1 dX10_looksAt_132 rfl ?_
  obtain ⟨r1, hr1, h⟩ := bnd h
  refine g_callVi hk [.int v1] _ sh51 rfl mtX10_forceOf mlX10_194 (by decide) (by decide) rfl rfl (Nat.le_of_ble_eq_true rfl) dX10_looksAt_133 (kX10_forceOf _ z (upI (upI (upI M 62 (ix s1) s2) 64 (ix (M.1 51 6)) v1) 65 (ix (M.1 51 6)) (M.1 51 4)) v1 r1 hr1) ?_
  refine g_iast hk sh66 dX10_looksAt_136 hi2 ?_
  refine g_aload_n hk 0 dX10_looksAt_137 rfl ?_
  refine g_dup hk dX10_looksAt_138 rfl ?_
  refine gfX10_183 hk dX10_looksAt_139 (M.1 51 6) rfl ?_
  refine g_iconst hk 1 dX10_looksAt_142 (by decide) ?_
  refine g_iadd hk dX10_looksAt_143 ?_
  refine pfX10_183 hk dX10_looksAt_144 ?_
  refine g_aload_n hk 0 dX10_looksAt_147 rfl ?_
  refine g_dup hk dX10_looksAt_148 rfl ?_
  refine gfX10_197 hk dX10_looksAt_149 (M.1 51 7) rfl ?_
  refine g_iload hk 2 dX10_looksAt_152 rfl ?_
  refine g_ifeq hk (tgt := 161) dX10_looksAt_154 (by decide) h (fun h => ?_) (fun h => ?_)
  · refine g_iconst hk 1 dX10_looksAt_161 (by decide) ?_
    refine g_iadd hk dX10_looksAt_162 ?_
    refine pfX10_197 hk dX10_looksAt_163 ?_
    refine g_iload hk 2 dX10_looksAt_166 rfl ?_
    obtain ⟨hi3, h⟩ := ck_e h
    exact g_zret (val := fun q => q.1) (mem := fun q => q.2) hc rfl dX10_looksAt_168 h ret2 hi3
  · refine g_iconst hk 0 dX10_looksAt_157 (by decide) ?_
    refine g_goto hk (tgt := 162) dX10_looksAt_158 (by decide) ?_
    refine g_iadd hk dX10_looksAt_162 ?_
    refine pfX10_197 hk dX10_looksAt_163 ?_
    refine g_iload hk 2 dX10_looksAt_166 rfl ?_
    obtain ⟨hi4, h⟩ := ck_e h
    exact g_zret (val := fun q => q.1) (mem := fun q => q.2) hc rfl dX10_looksAt_168 h ret2 hi4
set_option maxHeartbeats 4000000 in
set_option maxRecDepth 100000 in
theorem gjX10_looksAt_72 {x : Cx} {z : Lay} {r : Int32 × Mem} (hc : okm x z cX10_looksAt RX10 7 1 (some .boolean) (some (.int r.1)) r.2)  (M : Mem) (v1 : Int32) (v5 : Int32) (v6 : Int32) (s1 : Int32) (s2 : Int32) (h : jX10_looksAt_72  M v1 v5 v6 s1 s2 = some r) : G x z 7 72 [(0, .ref (z.2.1 51)), (1, .int v1), (5, .int v5), (6, .int v6)] [.int s2, .int s1, .ref (z.2.1 61)] M := by
  have hk := hc.1
  unfold jX10_looksAt_72 at h
  obtain ⟨hi1, h⟩ := ck_e h
  refine g_iast hk sh61 dX10_looksAt_72 hi1 ?_
  refine g_aload_n hk 0 dX10_looksAt_73 rfl ?_
  refine gfX10_53 hk dX10_looksAt_74 ?_
  refine g_iload_n hk 1 dX10_looksAt_77 rfl ?_
  refine g_iload hk 3 dX10_looksAt_78 rfl ?_
  refine g_ifeq hk (tgt := 97) dX10_looksAt_80 (by decide) h (fun h => ?_) (fun h => ?_)
  · refine g_iload hk 2 dX10_looksAt_97 rfl ?_
    exact g_weak [0, 1, 3] [(0, .ref (z.2.1 51)), (1, .int v1), (6, .int v6)] rfl (gjX10_looksAt_99 hc  (upI M 61 (ix s1) s2) v1 v6 v1 v5 h)
  · refine g_aload_n hk 0 dX10_looksAt_83 rfl ?_
    refine gfX10_53 hk dX10_looksAt_84 ?_
    refine g_iload_n hk 1 dX10_looksAt_87 rfl ?_
    obtain ⟨hi2, h⟩ := ck_e h
    refine g_iald hk sh62 dX10_looksAt_88 hi2 (M.1 62 (ix v1)) rfl ?_
    refine g_iload hk 2 dX10_looksAt_89 rfl ?_
    refine g_mmin hk mlX10_191 st_min inMath cd_min (by decide) (Nat.le_of_ble_eq_true rfl) dX10_looksAt_91 ?_
    refine g_goto hk (tgt := 99) dX10_looksAt_94 (by decide) ?_
    exact g_weak [0, 1, 3] [(0, .ref (z.2.1 51)), (1, .int v1), (6, .int v6)] rfl (gjX10_looksAt_99 hc  (upI M 61 (ix s1) s2) v1 v6 v1 (mnI (M.1 62 (ix v1)) v5) h)
set_option maxHeartbeats 4000000 in
set_option maxRecDepth 100000 in
theorem gjX10_looksAt_44 {x : Cx} {z : Lay} {r : Int32 × Mem} (hc : okm x z cX10_looksAt RX10 7 1 (some .boolean) (some (.int r.1)) r.2)  (M : Mem) (v1 : Int32) (v4 : Int32) (v5 : Int32) (s0 : Int32) (h : jX10_looksAt_44  M v1 v4 v5 s0 = some r) : G x z 7 44 [(0, .ref (z.2.1 51)), (1, .int v1), (4, .int v4), (5, .int v5)] [.int s0] M := by
  have hk := hc.1
  unfold jX10_looksAt_44 at h
  refine g_istore hk [(6, .int s0), (0, .ref (z.2.1 51)), (1, .int v1), (4, .int v4), (5, .int v5)] dX10_looksAt_44 (by decide) rfl ?_
  refine g_aload_n hk 1 dX10_looksAt_46 rfl ?_
  refine gfX10_50 hk dX10_looksAt_47 ?_
  refine g_iload_n hk 2 dX10_looksAt_50 rfl ?_
  refine g_iload hk 0 dX10_looksAt_51 rfl ?_
  refine g_ifeq hk (tgt := 70) dX10_looksAt_53 (by decide) h (fun h => ?_) (fun h => ?_)
  · refine g_iload hk 3 dX10_looksAt_70 rfl ?_
    exact g_weak [1, 2, 4, 0] [(0, .ref (z.2.1 51)), (1, .int v1), (5, .int v5), (6, .int s0)] rfl (gjX10_looksAt_72 hc  M v1 v5 s0 v1 v4 h)
  · refine g_aload_n hk 1 dX10_looksAt_56 rfl ?_
    refine gfX10_50 hk dX10_looksAt_57 ?_
    refine g_iload_n hk 2 dX10_looksAt_60 rfl ?_
    obtain ⟨hi1, h⟩ := ck_e h
    refine g_iald hk sh61 dX10_looksAt_61 hi1 (M.1 61 (ix v1)) rfl ?_
    refine g_iload hk 3 dX10_looksAt_62 rfl ?_
    refine g_mmax hk mlX10_167 st_max inMath cd_max (by decide) (Nat.le_of_ble_eq_true rfl) dX10_looksAt_64 ?_
    refine g_goto hk (tgt := 72) dX10_looksAt_67 (by decide) ?_
    exact g_weak [1, 2, 4, 0] [(0, .ref (z.2.1 51)), (1, .int v1), (5, .int v5), (6, .int s0)] rfl (gjX10_looksAt_72 hc  M v1 v5 s0 v1 (mxI (M.1 61 (ix v1)) v4) h)
set_option maxHeartbeats 4000000 in
set_option maxRecDepth 100000 in
theorem kX10_looksAt (l : Launch) (z : Lay) (M : Mem) (v1 : Int32) (v2 : Int32) (v3 : Int32) (r : Int32 × Mem) (h : xX10_looksAt M v1 v2 v3 = some r) : Con l z yX10_looksAt cX10_looksAt 7 (some .boolean) 1 [.ref (z.2.1 51), .int v1, .int v2, .int v3] M (some (.int r.1)) r.2 := by
  refine Con.of (by decide) (Nat.le_of_ble_eq_true rfl) ?_
  intro x hl hc
  subst hl
  have hk : okc x z cX10_looksAt RX10 7 1 := hc.1
  show G x z 7 0 [(0, .ref (z.2.1 51)), (1, .int v1), (2, .int v2), (3, .int v3)] [] M
  unfold xX10_looksAt at h
  refine g_iconst hk 0 dX10_looksAt_0 (by decide) ?_
  refine g_iload_n hk 2 dX10_looksAt_1 rfl ?_
  refine g_iload_n hk 3 dX10_looksAt_2 rfl ?_
  refine g_isub hk dX10_looksAt_3 ?_
  refine g_mmax hk mlX10_167 st_max inMath cd_max (by decide) (Nat.le_of_ble_eq_true rfl) dX10_looksAt_4 ?_
  refine g_istore hk [(4, .int (mxI 0 (v2 - v3))), (0, .ref (z.2.1 51)), (1, .int v1), (2, .int v2), (3, .int v3)] dX10_looksAt_7 (by decide) rfl ?_
  refine g_iload_n hk 3 dX10_looksAt_9 rfl ?_
  refine g_iload_n hk 4 dX10_looksAt_10 rfl ?_
  refine g_iadd hk dX10_looksAt_11 ?_
  refine g_istore hk [(5, .int (v2 + v3)), (4, .int (mxI 0 (v2 - v3))), (0, .ref (z.2.1 51)), (1, .int v1), (2, .int v2), (3, .int v3)] dX10_looksAt_12 (by decide) rfl ?_
  refine g_aload_n hk 2 dX10_looksAt_14 rfl ?_
  refine gfX10_50 hk dX10_looksAt_15 ?_
  refine g_iload_n hk 3 dX10_looksAt_18 rfl ?_
  obtain ⟨hi1, h⟩ := ck_e h
  refine g_iald hk sh61 dX10_looksAt_19 hi1 (M.1 61 (ix v1)) rfl ?_
  refine g_iload hk 1 dX10_looksAt_20 rfl ?_
  refine g_mmax hk mlX10_167 st_max inMath cd_max (by decide) (Nat.le_of_ble_eq_true rfl) dX10_looksAt_22 ?_
  refine g_aload_n hk 2 dX10_looksAt_25 rfl ?_
  refine gfX10_53 hk dX10_looksAt_26 ?_
  refine g_iload_n hk 3 dX10_looksAt_29 rfl ?_
  refine g_iald hk sh62 dX10_looksAt_30 hi1 (M.1 62 (ix v1)) rfl ?_
  refine g_iload hk 0 dX10_looksAt_31 rfl ?_
  refine g_mmin hk mlX10_191 st_min inMath cd_min (by decide) (Nat.le_of_ble_eq_true rfl) dX10_looksAt_33 ?_
  refine g_icmpgt hk (tgt := 43) dX10_looksAt_36 (by decide) h (fun h => ?_) (fun h => ?_)
  · refine g_iconst hk 0 dX10_looksAt_43 (by decide) ?_
    exact g_weak [2, 3, 1, 0] [(0, .ref (z.2.1 51)), (1, .int v1), (4, .int (mxI 0 (v2 - v3))), (5, .int (v2 + v3))] rfl (gjX10_looksAt_44 hc  M v1 (mxI 0 (v2 - v3)) (v2 + v3) 0 h)
  · refine g_iconst hk 1 dX10_looksAt_39 (by decide) ?_
    refine g_goto hk (tgt := 44) dX10_looksAt_40 (by decide) ?_
    exact g_weak [2, 3, 1, 0] [(0, .ref (z.2.1 51)), (1, .int v1), (4, .int (mxI 0 (v2 - v3))), (5, .int (v2 + v3))] rfl (gjX10_looksAt_44 hc  M v1 (mxI 0 (v2 - v3)) (v2 + v3) 1 h)
set_option maxHeartbeats 4000000 in
set_option maxRecDepth 100000 in
theorem kX10_defect (l : Launch) (z : Lay) (M : Mem) (v1 : Int32) (v2 : Int32) (v3 : Int32) (v4 : Int32) (v5 : Int32) (v6 : Int32) (r : Int32 × Mem) (h : xX10_defect M v1 v2 v3 v4 v5 v6 = some r) : Con l z yX10_defect cX10_defect 8 (some .int) 2 [.ref (z.2.1 51), .int v1, .int v2, .int v3, .int v4, .int v5, .int v6] M (some (.int r.1)) r.2 := by
  refine Con.of (by decide) (Nat.le_of_ble_eq_true rfl) ?_
  intro x hl hc
  subst hl
  have hk : okc x z cX10_defect RX10 8 2 := hc.1
  show G x z 8 0 [(0, .ref (z.2.1 51)), (1, .int v1), (2, .int v2), (3, .int v3), (4, .int v4), (5, .int v5), (6, .int v6)] [] M
  unfold xX10_defect at h
  refine g_iload_n hk 1 dX10_defect_0 rfl ?_
  obtain ⟨r1, hr1, h⟩ := bnd h
  refine g_callSi hk [.int v1] _ mtX10_isMile mlX10_179 (by decide) (by decide) rfl rfl (Nat.le_of_ble_eq_true rfl) dX10_defect_1 (kX10_isMile _ z M v1 r1 hr1) ?_
  refine g_ifeq hk (tgt := 16) dX10_defect_4 (by decide) h (fun h => ?_) (fun h => ?_)
  · refine g_aload_n hk 0 dX10_defect_16 rfl ?_
    refine g_iconst hk (-1) dX10_defect_17 (by decide) ?_
    obtain ⟨r2, hr2, h⟩ := bnd h
    refine g_callVi hk [.int (-1)] _ sh51 rfl mtX10_refuse mlX10_149 (by decide) (by decide) rfl rfl (Nat.le_of_ble_eq_true rfl) dX10_defect_18 (kX10_refuse _ z M (-1) r2 hr2) ?_
    exact g_iret (val := fun q => q.1) (mem := fun q => q.2) hc rfl dX10_defect_21 h ret2
  · refine g_iload hk 4 dX10_defect_7 rfl ?_
    refine g_iconst hk 4 dX10_defect_9 (by decide) ?_
    obtain ⟨r3, hr3, h⟩ := bnd h
    refine g_callSi hk [.int v4, .int 4] _ mtX10_isIn mlX10_153 (by decide) (by decide) rfl rfl (Nat.le_of_ble_eq_true rfl) dX10_defect_10 (kX10_isIn _ z M v4 4 r3 hr3) ?_
    refine g_ifne hk (tgt := 22) dX10_defect_13 (by decide) h (fun h => ?_) (fun h => ?_)
    · refine g_iload_n hk 2 dX10_defect_22 rfl ?_
      refine g_iflt hk (tgt := 40) dX10_defect_23 (by decide) h (fun h => ?_) (fun h => ?_)
      · refine g_aload_n hk 0 dX10_defect_40 rfl ?_
        refine g_bipush hk (-4) dX10_defect_41 (by decide) ?_
        obtain ⟨r4, hr4, h⟩ := bnd h
        refine g_callVi hk [.int (-4)] _ sh51 rfl mtX10_refuse mlX10_149 (by decide) (by decide) rfl rfl (Nat.le_of_ble_eq_true rfl) dX10_defect_43 (kX10_refuse _ z M (-4) r4 hr4) ?_
        exact g_iret (val := fun q => q.1) (mem := fun q => q.2) hc rfl dX10_defect_46 h ret2
      · refine g_iload_n hk 3 dX10_defect_26 rfl ?_
        refine g_iflt hk (tgt := 40) dX10_defect_27 (by decide) h (fun h => ?_) (fun h => ?_)
        · refine g_aload_n hk 0 dX10_defect_40 rfl ?_
          refine g_bipush hk (-4) dX10_defect_41 (by decide) ?_
          obtain ⟨r5, hr5, h⟩ := bnd h
          refine g_callVi hk [.int (-4)] _ sh51 rfl mtX10_refuse mlX10_149 (by decide) (by decide) rfl rfl (Nat.le_of_ble_eq_true rfl) dX10_defect_43 (kX10_refuse _ z M (-4) r5 hr5) ?_
          exact g_iret (val := fun q => q.1) (mem := fun q => q.2) hc rfl dX10_defect_46 h ret2
        · refine g_iload hk 5 dX10_defect_30 rfl ?_
          refine g_iflt hk (tgt := 40) dX10_defect_32 (by decide) h (fun h => ?_) (fun h => ?_)
          · refine g_aload_n hk 0 dX10_defect_40 rfl ?_
            refine g_bipush hk (-4) dX10_defect_41 (by decide) ?_
            obtain ⟨r6, hr6, h⟩ := bnd h
            refine g_callVi hk [.int (-4)] _ sh51 rfl mtX10_refuse mlX10_149 (by decide) (by decide) rfl rfl (Nat.le_of_ble_eq_true rfl) dX10_defect_43 (kX10_refuse _ z M (-4) r6 hr6) ?_
            exact g_iret (val := fun q => q.1) (mem := fun q => q.2) hc rfl dX10_defect_46 h ret2
          · refine g_iload hk 6 dX10_defect_35 rfl ?_
            refine g_ifge hk (tgt := 47) dX10_defect_37 (by decide) h (fun h => ?_) (fun h => ?_)
            · refine g_iload_n hk 2 dX10_defect_47 rfl ?_
              refine g_sipush hk 1759 dX10_defect_48 (by decide) ?_
              refine g_icmpgt hk (tgt := 92) dX10_defect_51 (by decide) h (fun h => ?_) (fun h => ?_)
              · refine g_aload_n hk 0 dX10_defect_92 rfl ?_
                refine g_bipush hk (-6) dX10_defect_93 (by decide) ?_
                obtain ⟨r7, hr7, h⟩ := bnd h
                refine g_callVi hk [.int (-6)] _ sh51 rfl mtX10_refuse mlX10_149 (by decide) (by decide) rfl rfl (Nat.le_of_ble_eq_true rfl) dX10_defect_95 (kX10_refuse _ z M (-6) r7 hr7) ?_
                exact g_iret (val := fun q => q.1) (mem := fun q => q.2) hc rfl dX10_defect_98 h ret2
              · refine g_iload_n hk 3 dX10_defect_54 rfl ?_
                refine g_iconst hk 1 dX10_defect_55 (by decide) ?_
                refine g_icmpgt hk (tgt := 92) dX10_defect_56 (by decide) h (fun h => ?_) (fun h => ?_)
                · refine g_aload_n hk 0 dX10_defect_92 rfl ?_
                  refine g_bipush hk (-6) dX10_defect_93 (by decide) ?_
                  obtain ⟨r8, hr8, h⟩ := bnd h
                  refine g_callVi hk [.int (-6)] _ sh51 rfl mtX10_refuse mlX10_149 (by decide) (by decide) rfl rfl (Nat.le_of_ble_eq_true rfl) dX10_defect_95 (kX10_refuse _ z M (-6) r8 hr8) ?_
                  exact g_iret (val := fun q => q.1) (mem := fun q => q.2) hc rfl dX10_defect_98 h ret2
                · refine g_iload hk 5 dX10_defect_59 rfl ?_
                  refine g_sipush hk 999 dX10_defect_61 (by decide) ?_
                  refine g_icmpgt hk (tgt := 92) dX10_defect_64 (by decide) h (fun h => ?_) (fun h => ?_)
                  · refine g_aload_n hk 0 dX10_defect_92 rfl ?_
                    refine g_bipush hk (-6) dX10_defect_93 (by decide) ?_
                    obtain ⟨r9, hr9, h⟩ := bnd h
                    refine g_callVi hk [.int (-6)] _ sh51 rfl mtX10_refuse mlX10_149 (by decide) (by decide) rfl rfl (Nat.le_of_ble_eq_true rfl) dX10_defect_95 (kX10_refuse _ z M (-6) r9 hr9) ?_
                    exact g_iret (val := fun q => q.1) (mem := fun q => q.2) hc rfl dX10_defect_98 h ret2
                  · refine g_iload hk 6 dX10_defect_67 rfl ?_
                    refine g_bipush hk 50 dX10_defect_69 (by decide) ?_
                    refine g_icmpgt hk (tgt := 92) dX10_defect_71 (by decide) h (fun h => ?_) (fun h => ?_)
                    · refine g_aload_n hk 0 dX10_defect_92 rfl ?_
                      refine g_bipush hk (-6) dX10_defect_93 (by decide) ?_
                      obtain ⟨r10, hr10, h⟩ := bnd h
                      refine g_callVi hk [.int (-6)] _ sh51 rfl mtX10_refuse mlX10_149 (by decide) (by decide) rfl rfl (Nat.le_of_ble_eq_true rfl) dX10_defect_95 (kX10_refuse _ z M (-6) r10 hr10) ?_
                      exact g_iret (val := fun q => q.1) (mem := fun q => q.2) hc rfl dX10_defect_98 h ret2
                    · refine g_aload_n hk 0 dX10_defect_74 rfl ?_
                      refine gfX10_176 hk dX10_defect_75 (M.1 51 5) rfl ?_
                      refine g_bipush hk 40 dX10_defect_78 (by decide) ?_
                      refine g_icmpeq hk (tgt := 92) dX10_defect_80 (by decide) h (fun h => ?_) (fun h => ?_)
                      · refine g_aload_n hk 0 dX10_defect_92 rfl ?_
                        refine g_bipush hk (-6) dX10_defect_93 (by decide) ?_
                        obtain ⟨r11, hr11, h⟩ := bnd h
                        refine g_callVi hk [.int (-6)] _ sh51 rfl mtX10_refuse mlX10_149 (by decide) (by decide) rfl rfl (Nat.le_of_ble_eq_true rfl) dX10_defect_95 (kX10_refuse _ z M (-6) r11 hr11) ?_
                        exact g_iret (val := fun q => q.1) (mem := fun q => q.2) hc rfl dX10_defect_98 h ret2
                      · refine g_aload_n hk 0 dX10_defect_83 rfl ?_
                        refine gfX10_183 hk dX10_defect_84 (M.1 51 6) rfl ?_
                        refine g_bipush hk 120 dX10_defect_87 (by decide) ?_
                        refine g_icmpne hk (tgt := 99) dX10_defect_89 (by decide) h (fun h => ?_) (fun h => ?_)
                        · refine g_aload_n hk 0 dX10_defect_99 rfl ?_
                          refine gfX10_35 hk dX10_defect_100 ?_
                          refine g_aload_n hk 0 dX10_defect_103 rfl ?_
                          refine gfX10_176 hk dX10_defect_104 (M.1 51 5) rfl ?_
                          refine g_iload_n hk 1 dX10_defect_107 rfl ?_
                          obtain ⟨hi1, h⟩ := ck_e h
                          refine g_iast hk sh56 dX10_defect_108 hi1 ?_
                          refine g_aload_n hk 0 dX10_defect_109 rfl ?_
                          refine gfX10_38 hk dX10_defect_110 ?_
                          refine g_aload_n hk 0 dX10_defect_113 rfl ?_
                          refine gfX10_176 hk dX10_defect_114 (M.1 51 5) rfl ?_
                          refine g_iload_n hk 2 dX10_defect_117 rfl ?_
                          refine g_iast hk sh57 dX10_defect_118 hi1 ?_
                          refine g_aload_n hk 0 dX10_defect_119 rfl ?_
                          refine gfX10_41 hk dX10_defect_120 ?_
                          refine g_aload_n hk 0 dX10_defect_123 rfl ?_
                          refine gfX10_176 hk dX10_defect_124 (M.1 51 5) rfl ?_
                          refine g_iload_n hk 3 dX10_defect_127 rfl ?_
                          refine g_iast hk sh58 dX10_defect_128 hi1 ?_
                          refine g_aload_n hk 0 dX10_defect_129 rfl ?_
                          refine gfX10_44 hk dX10_defect_130 ?_
                          refine g_aload_n hk 0 dX10_defect_133 rfl ?_
                          refine gfX10_176 hk dX10_defect_134 (M.1 51 5) rfl ?_
                          refine g_iload hk 4 dX10_defect_137 rfl ?_
                          refine g_iast hk sh59 dX10_defect_139 hi1 ?_
                          refine g_aload_n hk 0 dX10_defect_140 rfl ?_
                          refine gfX10_47 hk dX10_defect_141 ?_
                          refine g_aload_n hk 0 dX10_defect_144 rfl ?_
                          refine gfX10_176 hk dX10_defect_145 (M.1 51 5) rfl ?_
                          refine g_aload_n hk 0 dX10_defect_148 rfl ?_
                          refine gfX10_102 hk dX10_defect_149 ?_
                          refine g_iload_n hk 1 dX10_defect_152 rfl ?_
                          obtain ⟨hi2, h⟩ := ck_e h
                          refine g_iald hk sh78 dX10_defect_153 hi2 (M.1 78 (ix v1)) rfl ?_
                          refine g_iast hk sh60 dX10_defect_154 hi1 ?_
                          refine g_aload_n hk 0 dX10_defect_155 rfl ?_
                          refine gfX10_56 hk dX10_defect_156 ?_
                          refine g_aload_n hk 0 dX10_defect_159 rfl ?_
                          refine gfX10_176 hk dX10_defect_160 (M.1 51 5) rfl ?_
                          refine g_iconst hk 1 dX10_defect_163 (by decide) ?_
                          refine g_zast hk 1 sh63 dX10_defect_164 hi1 (by decide) ?_
                          refine g_aload_n hk 0 dX10_defect_165 rfl ?_
                          refine gfX10_50 hk dX10_defect_166 ?_
                          refine g_aload_n hk 0 dX10_defect_169 rfl ?_
                          refine gfX10_176 hk dX10_defect_170 (M.1 51 5) rfl ?_
                          refine g_iconst hk 0 dX10_defect_173 (by decide) ?_
                          refine g_iast hk sh61 dX10_defect_174 hi1 ?_
                          refine g_aload_n hk 0 dX10_defect_175 rfl ?_
                          refine gfX10_53 hk dX10_defect_176 ?_
                          refine g_aload_n hk 0 dX10_defect_179 rfl ?_
                          refine gfX10_176 hk dX10_defect_180 (M.1 51 5) rfl ?_
                          refine g_ldc hk kcX10_186 dX10_defect_183 ?_
                          refine g_iast hk sh62 dX10_defect_185 hi1 ?_
                          refine g_aload_n hk 0 dX10_defect_186 rfl ?_
                          refine g_dup hk dX10_defect_187 rfl ?_
                          refine gfX10_176 hk dX10_defect_188 (M.1 51 5) rfl ?_
                          refine g_iconst hk 1 dX10_defect_191 (by decide) ?_
                          refine g_iadd hk dX10_defect_192 ?_
                          refine pfX10_176 hk dX10_defect_193 ?_
                          refine g_aload_n hk 0 dX10_defect_196 rfl ?_
                          refine g_aload_n hk 0 dX10_defect_197 rfl ?_
                          refine gfX10_176 hk dX10_defect_198 ((M.1 51 5) + 1) rfl ?_
                          refine g_iconst hk 1 dX10_defect_201 (by decide) ?_
                          refine g_isub hk dX10_defect_202 ?_
                          refine g_iload hk 5 dX10_defect_203 rfl ?_
                          refine g_iload hk 6 dX10_defect_205 rfl ?_
                          obtain ⟨r12, hr12, h⟩ := bnd h
                          refine g_callVi hk [.int (((M.1 51 5) + 1) - 1), .int v5, .int v6] _ sh51 rfl mtX10_looksAt mlX10_187 (by decide) (by decide) rfl rfl (Nat.le_of_ble_eq_true rfl) dX10_defect_207 (kX10_looksAt _ z (upI (upI (upI (upI (upI (upI (upI (upI (upI M 56 (ix (M.1 51 5)) v1) 57 (ix (M.1 51 5)) v2) 58 (ix (M.1 51 5)) v3) 59 (ix (M.1 51 5)) v4) 60 (ix (M.1 51 5)) (M.1 78 (ix v1))) 63 (ix (M.1 51 5)) 1) 61 (ix (M.1 51 5)) 0) 62 (ix (M.1 51 5)) 10000000) 51 5 ((M.1 51 5) + 1)) (((M.1 51 5) + 1) - 1) v5 v6 r12 hr12) ?_
                          refine g_istore hk [(7, .int r12.1), (0, .ref (z.2.1 51)), (1, .int v1), (2, .int v2), (3, .int v3), (4, .int v4), (5, .int v5), (6, .int v6)] dX10_defect_210 (by decide) rfl ?_
                          refine g_aload_n hk 1 dX10_defect_212 rfl ?_
                          refine gfX10_176 hk dX10_defect_213 (r12.2.1 51 5) rfl ?_
                          refine g_iconst hk 1 dX10_defect_216 (by decide) ?_
                          refine g_isub hk dX10_defect_217 ?_
                          exact g_iret (val := fun q => q.1) (mem := fun q => q.2) hc rfl dX10_defect_218 h ret2
                        · refine g_aload_n hk 0 dX10_defect_92 rfl ?_
                          refine g_bipush hk (-6) dX10_defect_93 (by decide) ?_
                          obtain ⟨r13, hr13, h⟩ := bnd h
                          refine g_callVi hk [.int (-6)] _ sh51 rfl mtX10_refuse mlX10_149 (by decide) (by decide) rfl rfl (Nat.le_of_ble_eq_true rfl) dX10_defect_95 (kX10_refuse _ z M (-6) r13 hr13) ?_
                          exact g_iret (val := fun q => q.1) (mem := fun q => q.2) hc rfl dX10_defect_98 h ret2
            · refine g_aload_n hk 0 dX10_defect_40 rfl ?_
              refine g_bipush hk (-4) dX10_defect_41 (by decide) ?_
              obtain ⟨r14, hr14, h⟩ := bnd h
              refine g_callVi hk [.int (-4)] _ sh51 rfl mtX10_refuse mlX10_149 (by decide) (by decide) rfl rfl (Nat.le_of_ble_eq_true rfl) dX10_defect_43 (kX10_refuse _ z M (-4) r14 hr14) ?_
              exact g_iret (val := fun q => q.1) (mem := fun q => q.2) hc rfl dX10_defect_46 h ret2
    · refine g_aload_n hk 0 dX10_defect_16 rfl ?_
      refine g_iconst hk (-1) dX10_defect_17 (by decide) ?_
      obtain ⟨r15, hr15, h⟩ := bnd h
      refine g_callVi hk [.int (-1)] _ sh51 rfl mtX10_refuse mlX10_149 (by decide) (by decide) rfl rfl (Nat.le_of_ble_eq_true rfl) dX10_defect_18 (kX10_refuse _ z M (-1) r15 hr15) ?_
      exact g_iret (val := fun q => q.1) (mem := fun q => q.2) hc rfl dX10_defect_21 h ret2
set_option maxHeartbeats 4000000 in
set_option maxRecDepth 100000 in
theorem kX10_look (l : Launch) (z : Lay) (M : Mem) (v1 : Int32) (v2 : Int32) (v3 : Int32) (r : Int32 × Mem) (h : xX10_look M v1 v2 v3 = some r) : Con l z yX10_look cX10_look 4 (some .int) 2 [.ref (z.2.1 51), .int v1, .int v2, .int v3] M (some (.int r.1)) r.2 := by
  refine Con.of (by decide) (Nat.le_of_ble_eq_true rfl) ?_
  intro x hl hc
  subst hl
  have hk : okc x z cX10_look RX10 4 2 := hc.1
  show G x z 4 0 [(0, .ref (z.2.1 51)), (1, .int v1), (2, .int v2), (3, .int v3)] [] M
  unfold xX10_look at h
  refine g_aload_n hk 0 dX10_look_0 rfl ?_
  refine g_iload_n hk 1 dX10_look_1 rfl ?_
  obtain ⟨r1, hr1, h⟩ := bnd h
  refine g_callVi hk [.int v1] _ sh51 rfl mtX10_isDefect mlX10_200 (by decide) (by decide) rfl rfl (Nat.le_of_ble_eq_true rfl) dX10_look_2 (kX10_isDefect _ z M v1 r1 hr1) ?_
  refine g_ifne hk (tgt := 14) dX10_look_5 (by decide) h (fun h => ?_) (fun h => ?_)
  · refine g_aload_n hk 0 dX10_look_14 rfl ?_
    refine gfX10_56 hk dX10_look_15 ?_
    refine g_iload_n hk 1 dX10_look_18 rfl ?_
    obtain ⟨hi1, h⟩ := ck_e h
    refine g_zald hk sh63 dX10_look_19 hi1 (M.1 63 (ix v1)) rfl ?_
    refine g_ifne hk (tgt := 30) dX10_look_20 (by decide) h (fun h => ?_) (fun h => ?_)
    · refine g_iload_n hk 2 dX10_look_30 rfl ?_
      refine g_iflt hk (tgt := 38) dX10_look_31 (by decide) h (fun h => ?_) (fun h => ?_)
      · refine g_aload_n hk 0 dX10_look_38 rfl ?_
        refine g_bipush hk (-4) dX10_look_39 (by decide) ?_
        obtain ⟨r2, hr2, h⟩ := bnd h
        refine g_callVi hk [.int (-4)] _ sh51 rfl mtX10_refuse mlX10_149 (by decide) (by decide) rfl rfl (Nat.le_of_ble_eq_true rfl) dX10_look_41 (kX10_refuse _ z M (-4) r2 hr2) ?_
        exact g_iret (val := fun q => q.1) (mem := fun q => q.2) hc rfl dX10_look_44 h ret2
      · refine g_iload_n hk 3 dX10_look_34 rfl ?_
        refine g_ifge hk (tgt := 45) dX10_look_35 (by decide) h (fun h => ?_) (fun h => ?_)
        · refine g_iload_n hk 2 dX10_look_45 rfl ?_
          refine g_sipush hk 999 dX10_look_46 (by decide) ?_
          refine g_icmpgt hk (tgt := 67) dX10_look_49 (by decide) h (fun h => ?_) (fun h => ?_)
          · refine g_aload_n hk 0 dX10_look_67 rfl ?_
            refine g_bipush hk (-6) dX10_look_68 (by decide) ?_
            obtain ⟨r3, hr3, h⟩ := bnd h
            refine g_callVi hk [.int (-6)] _ sh51 rfl mtX10_refuse mlX10_149 (by decide) (by decide) rfl rfl (Nat.le_of_ble_eq_true rfl) dX10_look_70 (kX10_refuse _ z M (-6) r3 hr3) ?_
            exact g_iret (val := fun q => q.1) (mem := fun q => q.2) hc rfl dX10_look_73 h ret2
          · refine g_iload_n hk 3 dX10_look_52 rfl ?_
            refine g_bipush hk 50 dX10_look_53 (by decide) ?_
            refine g_icmpgt hk (tgt := 67) dX10_look_55 (by decide) h (fun h => ?_) (fun h => ?_)
            · refine g_aload_n hk 0 dX10_look_67 rfl ?_
              refine g_bipush hk (-6) dX10_look_68 (by decide) ?_
              obtain ⟨r4, hr4, h⟩ := bnd h
              refine g_callVi hk [.int (-6)] _ sh51 rfl mtX10_refuse mlX10_149 (by decide) (by decide) rfl rfl (Nat.le_of_ble_eq_true rfl) dX10_look_70 (kX10_refuse _ z M (-6) r4 hr4) ?_
              exact g_iret (val := fun q => q.1) (mem := fun q => q.2) hc rfl dX10_look_73 h ret2
            · refine g_aload_n hk 0 dX10_look_58 rfl ?_
              refine gfX10_183 hk dX10_look_59 (M.1 51 6) rfl ?_
              refine g_bipush hk 120 dX10_look_62 (by decide) ?_
              refine g_icmpne hk (tgt := 74) dX10_look_64 (by decide) h (fun h => ?_) (fun h => ?_)
              · refine g_aload_n hk 0 dX10_look_74 rfl ?_
                refine g_iload_n hk 1 dX10_look_75 rfl ?_
                refine g_iload_n hk 2 dX10_look_76 rfl ?_
                refine g_iload_n hk 3 dX10_look_77 rfl ?_
                obtain ⟨r5, hr5, h⟩ := bnd h
                refine g_callVi hk [.int v1, .int v2, .int v3] _ sh51 rfl mtX10_looksAt mlX10_187 (by decide) (by decide) rfl rfl (Nat.le_of_ble_eq_true rfl) dX10_look_78 (kX10_looksAt _ z M v1 v2 v3 r5 hr5) ?_
                refine g_ifeq hk (tgt := 88) dX10_look_81 (by decide) h (fun h => ?_) (fun h => ?_)
                · refine g_iconst hk 0 dX10_look_88 (by decide) ?_
                  exact g_iret (val := fun q => q.1) (mem := fun q => q.2) hc rfl dX10_look_89 h ret2
                · refine g_iconst hk 1 dX10_look_84 (by decide) ?_
                  refine g_goto hk (tgt := 89) dX10_look_85 (by decide) ?_
                  exact g_iret (val := fun q => q.1) (mem := fun q => q.2) hc rfl dX10_look_89 h ret2
              · refine g_aload_n hk 0 dX10_look_67 rfl ?_
                refine g_bipush hk (-6) dX10_look_68 (by decide) ?_
                obtain ⟨r6, hr6, h⟩ := bnd h
                refine g_callVi hk [.int (-6)] _ sh51 rfl mtX10_refuse mlX10_149 (by decide) (by decide) rfl rfl (Nat.le_of_ble_eq_true rfl) dX10_look_70 (kX10_refuse _ z M (-6) r6 hr6) ?_
                exact g_iret (val := fun q => q.1) (mem := fun q => q.2) hc rfl dX10_look_73 h ret2
        · refine g_aload_n hk 0 dX10_look_38 rfl ?_
          refine g_bipush hk (-4) dX10_look_39 (by decide) ?_
          obtain ⟨r7, hr7, h⟩ := bnd h
          refine g_callVi hk [.int (-4)] _ sh51 rfl mtX10_refuse mlX10_149 (by decide) (by decide) rfl rfl (Nat.le_of_ble_eq_true rfl) dX10_look_41 (kX10_refuse _ z M (-4) r7 hr7) ?_
          exact g_iret (val := fun q => q.1) (mem := fun q => q.2) hc rfl dX10_look_44 h ret2
    · refine g_aload_n hk 0 dX10_look_23 rfl ?_
      refine g_bipush hk (-3) dX10_look_24 (by decide) ?_
      obtain ⟨r8, hr8, h⟩ := bnd h
      refine g_callVi hk [.int (-3)] _ sh51 rfl mtX10_refuse mlX10_149 (by decide) (by decide) rfl rfl (Nat.le_of_ble_eq_true rfl) dX10_look_26 (kX10_refuse _ z M (-3) r8 hr8) ?_
      exact g_iret (val := fun q => q.1) (mem := fun q => q.2) hc rfl dX10_look_29 h ret2
  · refine g_aload_n hk 0 dX10_look_8 rfl ?_
    refine g_iconst hk (-1) dX10_look_9 (by decide) ?_
    obtain ⟨r9, hr9, h⟩ := bnd h
    refine g_callVi hk [.int (-1)] _ sh51 rfl mtX10_refuse mlX10_149 (by decide) (by decide) rfl rfl (Nat.le_of_ble_eq_true rfl) dX10_look_10 (kX10_refuse _ z M (-1) r9 hr9) ?_
    exact g_iret (val := fun q => q.1) (mem := fun q => q.2) hc rfl dX10_look_13 h ret2
set_option maxHeartbeats 4000000 in
set_option maxRecDepth 100000 in
theorem gjX10_span_40 {x : Cx} {z : Lay} {r : Int32 × Mem} (hc : okm x z cX10_span RX10 4 2 (some .int) (some (.int r.1)) r.2)  (M : Mem) (v1 : Int32) (v2 : Int32) (s0 : Int32) (h : jX10_span_40  M v1 v2 s0 = some r) : G x z 4 40 [(0, .ref (z.2.1 51)), (1, .int v1), (2, .int v2)] [.int s0] M := by
  have hk := hc.1
  unfold jX10_span_40 at h
  refine g_istore_n hk [(3, .int s0), (0, .ref (z.2.1 51)), (1, .int v1), (2, .int v2)] dX10_span_40 rfl (by decide) rfl ?_
  refine g_iload_n hk 0 dX10_span_41 rfl ?_
  refine g_ifeq hk (tgt := 51) dX10_span_42 (by decide) h (fun h => ?_) (fun h => ?_)
  · refine g_iload_n hk 3 dX10_span_51 rfl ?_
    refine g_ifne hk (tgt := 64) dX10_span_52 (by decide) h (fun h => ?_) (fun h => ?_)
    · refine g_aload_n hk 1 dX10_span_64 rfl ?_
      refine gfX10_53 hk dX10_span_65 ?_
      refine g_iload_n hk 2 dX10_span_68 rfl ?_
      obtain ⟨hi1, h⟩ := ck_e h
      refine g_iald hk sh62 dX10_span_69 hi1 (M.1 62 (ix v1)) rfl ?_
      exact g_iret (val := fun q => q.1) (mem := fun q => q.2) hc rfl dX10_span_70 h ret2
    · refine g_aload_n hk 1 dX10_span_55 rfl ?_
      refine gfX10_50 hk dX10_span_56 ?_
      refine g_iload_n hk 2 dX10_span_59 rfl ?_
      obtain ⟨hi2, h⟩ := ck_e h
      refine g_iald hk sh61 dX10_span_60 hi2 (M.1 61 (ix v1)) rfl ?_
      refine g_goto hk (tgt := 70) dX10_span_61 (by decide) ?_
      exact g_iret (val := fun q => q.1) (mem := fun q => q.2) hc rfl dX10_span_70 h ret2
  · refine g_aload_n hk 1 dX10_span_45 rfl ?_
    refine g_iload_n hk 0 dX10_span_46 rfl ?_
    obtain ⟨r1, hr1, h⟩ := bnd h
    refine g_callVi hk [.int s0] _ sh51 rfl mtX10_refuse mlX10_149 (by decide) (by decide) rfl rfl (Nat.le_of_ble_eq_true rfl) dX10_span_47 (kX10_refuse _ z M s0 r1 hr1) ?_
    exact g_iret (val := fun q => q.1) (mem := fun q => q.2) hc rfl dX10_span_50 h ret2
set_option maxHeartbeats 4000000 in
set_option maxRecDepth 100000 in
theorem kX10_span (l : Launch) (z : Lay) (M : Mem) (v1 : Int32) (v2 : Int32) (r : Int32 × Mem) (h : xX10_span M v1 v2 = some r) : Con l z yX10_span cX10_span 4 (some .int) 2 [.ref (z.2.1 51), .int v1, .int v2] M (some (.int r.1)) r.2 := by
  refine Con.of (by decide) (Nat.le_of_ble_eq_true rfl) ?_
  intro x hl hc
  subst hl
  have hk : okc x z cX10_span RX10 4 2 := hc.1
  show G x z 4 0 [(0, .ref (z.2.1 51)), (1, .int v1), (2, .int v2)] [] M
  unfold xX10_span at h
  refine g_aload_n hk 0 dX10_span_0 rfl ?_
  refine g_iload_n hk 1 dX10_span_1 rfl ?_
  obtain ⟨r1, hr1, h⟩ := bnd h
  refine g_callVi hk [.int v1] _ sh51 rfl mtX10_isDefect mlX10_200 (by decide) (by decide) rfl rfl (Nat.le_of_ble_eq_true rfl) dX10_span_2 (kX10_isDefect _ z M v1 r1 hr1) ?_
  refine g_ifne hk (tgt := 12) dX10_span_5 (by decide) h (fun h => ?_) (fun h => ?_)
  · refine g_iload_n hk 2 dX10_span_12 rfl ?_
    refine g_iconst hk 2 dX10_span_13 (by decide) ?_
    obtain ⟨r2, hr2, h⟩ := bnd h
    refine g_callSi hk [.int v2, .int 2] _ mtX10_isIn mlX10_153 (by decide) (by decide) rfl rfl (Nat.le_of_ble_eq_true rfl) dX10_span_14 (kX10_isIn _ z M v2 2 r2 hr2) ?_
    refine g_ifne hk (tgt := 25) dX10_span_17 (by decide) h (fun h => ?_) (fun h => ?_)
    · refine g_aload_n hk 0 dX10_span_25 rfl ?_
      refine gfX10_56 hk dX10_span_26 ?_
      refine g_iload_n hk 1 dX10_span_29 rfl ?_
      obtain ⟨hi1, h⟩ := ck_e h
      refine g_zald hk sh63 dX10_span_30 hi1 (M.1 63 (ix v1)) rfl ?_
      refine g_ifeq hk (tgt := 38) dX10_span_31 (by decide) h (fun h => ?_) (fun h => ?_)
      · refine g_bipush hk (-3) dX10_span_38 (by decide) ?_
        exact g_weak [0, 1, 2] [(0, .ref (z.2.1 51)), (1, .int v1), (2, .int v2)] rfl (gjX10_span_40 hc  M v1 v2 (-3) h)
      · refine g_iconst hk 0 dX10_span_34 (by decide) ?_
        refine g_goto hk (tgt := 40) dX10_span_35 (by decide) ?_
        exact g_weak [0, 1, 2] [(0, .ref (z.2.1 51)), (1, .int v1), (2, .int v2)] rfl (gjX10_span_40 hc  M v1 v2 0 h)
    · refine g_bipush hk (-2) dX10_span_20 (by decide) ?_
      refine g_goto hk (tgt := 40) dX10_span_22 (by decide) ?_
      exact g_weak [0, 1, 2] [(0, .ref (z.2.1 51)), (1, .int v1), (2, .int v2)] rfl (gjX10_span_40 hc  M v1 v2 (-2) h)
  · refine g_iconst hk (-1) dX10_span_8 (by decide) ?_
    refine g_goto hk (tgt := 40) dX10_span_9 (by decide) ?_
    exact g_weak [0, 1, 2] [(0, .ref (z.2.1 51)), (1, .int v1), (2, .int v2)] rfl (gjX10_span_40 hc  M v1 v2 (-1) h)
set_option maxHeartbeats 4000000 in
set_option maxRecDepth 100000 in
theorem kX10_rule (l : Launch) (z : Lay) (M : Mem) (v1 : Int32) (v2 : Int32) (v3 : Int32) (v4 : Int32) (v5 : Int32) (r : Int32 × Mem) (h : xX10_rule M v1 v2 v3 v4 v5 = some r) : Con l z yX10_rule cX10_rule 6 (some .int) 1 [.ref (z.2.1 51), .int v1, .int v2, .int v3, .int v4, .int v5] M (some (.int r.1)) r.2 := by
  refine Con.of (by decide) (Nat.le_of_ble_eq_true rfl) ?_
  intro x hl hc
  subst hl
  have hk : okc x z cX10_rule RX10 6 1 := hc.1
  show G x z 6 0 [(0, .ref (z.2.1 51)), (1, .int v1), (2, .int v2), (3, .int v3), (4, .int v4), (5, .int v5)] [] M
  unfold xX10_rule at h
  refine g_iload_n hk 1 dX10_rule_0 rfl ?_
  refine g_iconst hk 4 dX10_rule_1 (by decide) ?_
  obtain ⟨r1, hr1, h⟩ := bnd h
  refine g_callSi hk [.int v1, .int 4] _ mtX10_isIn mlX10_153 (by decide) (by decide) rfl rfl (Nat.le_of_ble_eq_true rfl) dX10_rule_2 (kX10_isIn _ z M v1 4 r1 hr1) ?_
  refine g_ifne hk (tgt := 14) dX10_rule_5 (by decide) h (fun h => ?_) (fun h => ?_)
  · refine g_iload hk 4 dX10_rule_14 rfl ?_
    refine g_iconst hk 4 dX10_rule_16 (by decide) ?_
    obtain ⟨r2, hr2, h⟩ := bnd h
    refine g_callSi hk [.int v4, .int 4] _ mtX10_isIn mlX10_153 (by decide) (by decide) rfl rfl (Nat.le_of_ble_eq_true rfl) dX10_rule_17 (kX10_isIn _ z M v4 4 r2 hr2) ?_
    refine g_ifne hk (tgt := 30) dX10_rule_20 (by decide) h (fun h => ?_) (fun h => ?_)
    · refine g_iload_n hk 2 dX10_rule_30 rfl ?_
      refine g_iflt hk (tgt := 47) dX10_rule_31 (by decide) h (fun h => ?_) (fun h => ?_)
      · refine g_aload_n hk 0 dX10_rule_47 rfl ?_
        refine g_bipush hk (-4) dX10_rule_48 (by decide) ?_
        obtain ⟨r3, hr3, h⟩ := bnd h
        refine g_callVi hk [.int (-4)] _ sh51 rfl mtX10_refuse mlX10_149 (by decide) (by decide) rfl rfl (Nat.le_of_ble_eq_true rfl) dX10_rule_50 (kX10_refuse _ z M (-4) r3 hr3) ?_
        exact g_iret (val := fun q => q.1) (mem := fun q => q.2) hc rfl dX10_rule_53 h ret2
      · refine g_iload_n hk 3 dX10_rule_34 rfl ?_
        refine g_aload_n hk 0 dX10_rule_35 rfl ?_
        refine gfX10_157 hk dX10_rule_36 (M.1 51 4) rfl ?_
        refine g_icmplt hk (tgt := 47) dX10_rule_39 (by decide) h (fun h => ?_) (fun h => ?_)
        · refine g_aload_n hk 0 dX10_rule_47 rfl ?_
          refine g_bipush hk (-4) dX10_rule_48 (by decide) ?_
          obtain ⟨r4, hr4, h⟩ := bnd h
          refine g_callVi hk [.int (-4)] _ sh51 rfl mtX10_refuse mlX10_149 (by decide) (by decide) rfl rfl (Nat.le_of_ble_eq_true rfl) dX10_rule_50 (kX10_refuse _ z M (-4) r4 hr4) ?_
          exact g_iret (val := fun q => q.1) (mem := fun q => q.2) hc rfl dX10_rule_53 h ret2
        · refine g_iload hk 5 dX10_rule_42 rfl ?_
          refine g_ifge hk (tgt := 54) dX10_rule_44 (by decide) h (fun h => ?_) (fun h => ?_)
          · refine g_iload_n hk 2 dX10_rule_54 rfl ?_
            refine g_sipush hk 999 dX10_rule_55 (by decide) ?_
            refine g_icmpgt hk (tgt := 84) dX10_rule_58 (by decide) h (fun h => ?_) (fun h => ?_)
            · refine g_aload_n hk 0 dX10_rule_84 rfl ?_
              refine g_bipush hk (-6) dX10_rule_85 (by decide) ?_
              obtain ⟨r5, hr5, h⟩ := bnd h
              refine g_callVi hk [.int (-6)] _ sh51 rfl mtX10_refuse mlX10_149 (by decide) (by decide) rfl rfl (Nat.le_of_ble_eq_true rfl) dX10_rule_87 (kX10_refuse _ z M (-6) r5 hr5) ?_
              exact g_iret (val := fun q => q.1) (mem := fun q => q.2) hc rfl dX10_rule_90 h ret2
            · refine g_iload_n hk 3 dX10_rule_61 rfl ?_
              refine g_sipush hk 1000 dX10_rule_62 (by decide) ?_
              refine g_icmpgt hk (tgt := 84) dX10_rule_65 (by decide) h (fun h => ?_) (fun h => ?_)
              · refine g_aload_n hk 0 dX10_rule_84 rfl ?_
                refine g_bipush hk (-6) dX10_rule_85 (by decide) ?_
                obtain ⟨r6, hr6, h⟩ := bnd h
                refine g_callVi hk [.int (-6)] _ sh51 rfl mtX10_refuse mlX10_149 (by decide) (by decide) rfl rfl (Nat.le_of_ble_eq_true rfl) dX10_rule_87 (kX10_refuse _ z M (-6) r6 hr6) ?_
                exact g_iret (val := fun q => q.1) (mem := fun q => q.2) hc rfl dX10_rule_90 h ret2
              · refine g_iload hk 5 dX10_rule_68 rfl ?_
                refine g_bipush hk 60 dX10_rule_70 (by decide) ?_
                refine g_icmpgt hk (tgt := 84) dX10_rule_72 (by decide) h (fun h => ?_) (fun h => ?_)
                · refine g_aload_n hk 0 dX10_rule_84 rfl ?_
                  refine g_bipush hk (-6) dX10_rule_85 (by decide) ?_
                  obtain ⟨r7, hr7, h⟩ := bnd h
                  refine g_callVi hk [.int (-6)] _ sh51 rfl mtX10_refuse mlX10_149 (by decide) (by decide) rfl rfl (Nat.le_of_ble_eq_true rfl) dX10_rule_87 (kX10_refuse _ z M (-6) r7 hr7) ?_
                  exact g_iret (val := fun q => q.1) (mem := fun q => q.2) hc rfl dX10_rule_90 h ret2
                · refine g_aload_n hk 0 dX10_rule_75 rfl ?_
                  refine gfX10_203 hk dX10_rule_76 (M.1 51 8) rfl ?_
                  refine g_bipush hk 30 dX10_rule_79 (by decide) ?_
                  refine g_icmpne hk (tgt := 91) dX10_rule_81 (by decide) h (fun h => ?_) (fun h => ?_)
                  · refine g_aload_n hk 0 dX10_rule_91 rfl ?_
                    refine gfX10_69 hk dX10_rule_92 ?_
                    refine g_aload_n hk 0 dX10_rule_95 rfl ?_
                    refine gfX10_203 hk dX10_rule_96 (M.1 51 8) rfl ?_
                    refine g_iload_n hk 1 dX10_rule_99 rfl ?_
                    obtain ⟨hi1, h⟩ := ck_e h
                    refine g_iast hk sh67 dX10_rule_100 hi1 ?_
                    refine g_aload_n hk 0 dX10_rule_101 rfl ?_
                    refine gfX10_72 hk dX10_rule_102 ?_
                    refine g_aload_n hk 0 dX10_rule_105 rfl ?_
                    refine gfX10_203 hk dX10_rule_106 (M.1 51 8) rfl ?_
                    refine g_iload_n hk 2 dX10_rule_109 rfl ?_
                    refine g_iast hk sh68 dX10_rule_110 hi1 ?_
                    refine g_aload_n hk 0 dX10_rule_111 rfl ?_
                    refine gfX10_75 hk dX10_rule_112 ?_
                    refine g_aload_n hk 0 dX10_rule_115 rfl ?_
                    refine gfX10_203 hk dX10_rule_116 (M.1 51 8) rfl ?_
                    refine g_iload_n hk 3 dX10_rule_119 rfl ?_
                    refine g_iast hk sh69 dX10_rule_120 hi1 ?_
                    refine g_aload_n hk 0 dX10_rule_121 rfl ?_
                    refine gfX10_78 hk dX10_rule_122 ?_
                    refine g_aload_n hk 0 dX10_rule_125 rfl ?_
                    refine gfX10_203 hk dX10_rule_126 (M.1 51 8) rfl ?_
                    refine g_iload hk 4 dX10_rule_129 rfl ?_
                    refine g_iast hk sh70 dX10_rule_131 hi1 ?_
                    refine g_aload_n hk 0 dX10_rule_132 rfl ?_
                    refine gfX10_81 hk dX10_rule_133 ?_
                    refine g_aload_n hk 0 dX10_rule_136 rfl ?_
                    refine gfX10_203 hk dX10_rule_137 (M.1 51 8) rfl ?_
                    refine g_iload hk 5 dX10_rule_140 rfl ?_
                    refine g_iast hk sh71 dX10_rule_142 hi1 ?_
                    refine g_aload_n hk 0 dX10_rule_143 rfl ?_
                    refine g_dup hk dX10_rule_144 rfl ?_
                    refine gfX10_203 hk dX10_rule_145 (M.1 51 8) rfl ?_
                    refine g_iconst hk 1 dX10_rule_148 (by decide) ?_
                    refine g_iadd hk dX10_rule_149 ?_
                    refine pfX10_203 hk dX10_rule_150 ?_
                    refine g_aload_n hk 0 dX10_rule_153 rfl ?_
                    refine gfX10_203 hk dX10_rule_154 ((M.1 51 8) + 1) rfl ?_
                    refine g_iconst hk 1 dX10_rule_157 (by decide) ?_
                    refine g_isub hk dX10_rule_158 ?_
                    exact g_iret (val := fun q => q.1) (mem := fun q => q.2) hc rfl dX10_rule_159 h ret2
                  · refine g_aload_n hk 0 dX10_rule_84 rfl ?_
                    refine g_bipush hk (-6) dX10_rule_85 (by decide) ?_
                    obtain ⟨r8, hr8, h⟩ := bnd h
                    refine g_callVi hk [.int (-6)] _ sh51 rfl mtX10_refuse mlX10_149 (by decide) (by decide) rfl rfl (Nat.le_of_ble_eq_true rfl) dX10_rule_87 (kX10_refuse _ z M (-6) r8 hr8) ?_
                    exact g_iret (val := fun q => q.1) (mem := fun q => q.2) hc rfl dX10_rule_90 h ret2
          · refine g_aload_n hk 0 dX10_rule_47 rfl ?_
            refine g_bipush hk (-4) dX10_rule_48 (by decide) ?_
            obtain ⟨r9, hr9, h⟩ := bnd h
            refine g_callVi hk [.int (-4)] _ sh51 rfl mtX10_refuse mlX10_149 (by decide) (by decide) rfl rfl (Nat.le_of_ble_eq_true rfl) dX10_rule_50 (kX10_refuse _ z M (-4) r9 hr9) ?_
            exact g_iret (val := fun q => q.1) (mem := fun q => q.2) hc rfl dX10_rule_53 h ret2
    · refine g_aload_n hk 0 dX10_rule_23 rfl ?_
      refine g_bipush hk (-2) dX10_rule_24 (by decide) ?_
      obtain ⟨r10, hr10, h⟩ := bnd h
      refine g_callVi hk [.int (-2)] _ sh51 rfl mtX10_refuse mlX10_149 (by decide) (by decide) rfl rfl (Nat.le_of_ble_eq_true rfl) dX10_rule_26 (kX10_refuse _ z M (-2) r10 hr10) ?_
      exact g_iret (val := fun q => q.1) (mem := fun q => q.2) hc rfl dX10_rule_29 h ret2
  · refine g_aload_n hk 0 dX10_rule_8 rfl ?_
    refine g_iconst hk (-1) dX10_rule_9 (by decide) ?_
    obtain ⟨r11, hr11, h⟩ := bnd h
    refine g_callVi hk [.int (-1)] _ sh51 rfl mtX10_refuse mlX10_149 (by decide) (by decide) rfl rfl (Nat.le_of_ble_eq_true rfl) dX10_rule_10 (kX10_refuse _ z M (-1) r11 hr11) ?_
    exact g_iret (val := fun q => q.1) (mem := fun q => q.2) hc rfl dX10_rule_13 h ret2
set_option maxHeartbeats 4000000 in
set_option maxRecDepth 100000 in
theorem kX10_wrongOpen (l : Launch) (z : Lay) (M : Mem) (v1 : Int32) (r : Int32) (h : xX10_wrongOpen M v1 = some r) : Con l z yX10_wrongOpen cX10_wrongOpen 2 (some .int) 2 [.ref (z.2.1 51), .int v1] M (some (.int r)) M := by
  refine Con.of (by decide) (Nat.le_of_ble_eq_true rfl) ?_
  intro x hl hc
  subst hl
  have hk : okc x z cX10_wrongOpen RX10 2 2 := hc.1
  show G x z 2 0 [(0, .ref (z.2.1 51)), (1, .int v1)] [] M
  unfold xX10_wrongOpen at h
  refine g_aload_n hk 0 dX10_wrongOpen_0 rfl ?_
  refine g_iload_n hk 1 dX10_wrongOpen_1 rfl ?_
  obtain ⟨r1, hr1, h⟩ := bnd h
  refine g_callVi hk [.int v1] _ sh51 rfl mtX10_isDefect mlX10_200 (by decide) (by decide) rfl rfl (Nat.le_of_ble_eq_true rfl) dX10_wrongOpen_2 (kX10_isDefect _ z M v1 r1 hr1) ?_
  refine g_ifne hk (tgt := 12) dX10_wrongOpen_5 (by decide) h (fun h => ?_) (fun h => ?_)
  · refine g_aload_n hk 0 dX10_wrongOpen_12 rfl ?_
    refine gfX10_56 hk dX10_wrongOpen_13 ?_
    refine g_iload_n hk 1 dX10_wrongOpen_16 rfl ?_
    obtain ⟨hi1, h⟩ := ck_e h
    refine g_zald hk sh63 dX10_wrongOpen_17 hi1 (M.1 63 (ix v1)) rfl ?_
    refine g_ifeq hk (tgt := 25) dX10_wrongOpen_18 (by decide) h (fun h => ?_) (fun h => ?_)
    · refine g_bipush hk (-3) dX10_wrongOpen_25 (by decide) ?_
      exact g_iret (val := fun q => q) (mem := fun _ => M) hc rfl dX10_wrongOpen_27 h ret1
    · refine g_iconst hk 0 dX10_wrongOpen_21 (by decide) ?_
      refine g_goto hk (tgt := 27) dX10_wrongOpen_22 (by decide) ?_
      exact g_iret (val := fun q => q) (mem := fun _ => M) hc rfl dX10_wrongOpen_27 h ret1
  · refine g_iconst hk (-1) dX10_wrongOpen_8 (by decide) ?_
    refine g_goto hk (tgt := 27) dX10_wrongOpen_9 (by decide) ?_
    exact g_iret (val := fun q => q) (mem := fun _ => M) hc rfl dX10_wrongOpen_27 h ret1
set_option maxHeartbeats 4000000 in
set_option maxRecDepth 100000 in
theorem kX10_force (l : Launch) (z : Lay) (M : Mem) (v1 : Int32) (r : Int32 × Mem) (h : xX10_force M v1 = some r) : Con l z yX10_force cX10_force 3 (some .int) 3 [.ref (z.2.1 51), .int v1] M (some (.int r.1)) r.2 := by
  refine Con.of (by decide) (Nat.le_of_ble_eq_true rfl) ?_
  intro x hl hc
  subst hl
  have hk : okc x z cX10_force RX10 3 3 := hc.1
  show G x z 3 0 [(0, .ref (z.2.1 51)), (1, .int v1)] [] M
  unfold xX10_force at h
  refine g_aload_n hk 0 dX10_force_0 rfl ?_
  refine g_iload_n hk 1 dX10_force_1 rfl ?_
  obtain ⟨r1, hr1, h⟩ := bnd h
  refine g_callVi hk [.int v1] _ sh51 rfl mtX10_wrongOpen mlX10_206 (by decide) (by decide) rfl rfl (Nat.le_of_ble_eq_true rfl) dX10_force_2 (kX10_wrongOpen _ z M v1 r1 hr1) ?_
  refine g_istore_n hk [(2, .int r1), (0, .ref (z.2.1 51)), (1, .int v1)] dX10_force_5 rfl (by decide) rfl ?_
  refine g_iload_n hk 0 dX10_force_6 rfl ?_
  refine g_ifeq hk (tgt := 18) dX10_force_7 (by decide) h (fun h => ?_) (fun h => ?_)
  · refine g_aload_n hk 1 dX10_force_18 rfl ?_
    refine g_iload_n hk 2 dX10_force_19 rfl ?_
    obtain ⟨r2, hr2, h⟩ := bnd h
    refine g_callVi hk [.int v1] _ sh51 rfl mtX10_forceOf mlX10_194 (by decide) (by decide) rfl rfl (Nat.le_of_ble_eq_true rfl) dX10_force_20 (kX10_forceOf _ z M v1 r2 hr2) ?_
    exact g_iret (val := fun q => q.1) (mem := fun q => q.2) hc rfl dX10_force_23 h ret2
  · refine g_aload_n hk 1 dX10_force_10 rfl ?_
    refine g_iload_n hk 0 dX10_force_11 rfl ?_
    obtain ⟨r3, hr3, h⟩ := bnd h
    refine g_callVi hk [.int r1] _ sh51 rfl mtX10_refuse mlX10_149 (by decide) (by decide) rfl rfl (Nat.le_of_ble_eq_true rfl) dX10_force_12 (kX10_refuse _ z M r1 r3 hr3) ?_
    refine g_goto hk (tgt := 23) dX10_force_15 (by decide) ?_
    exact g_iret (val := fun q => q.1) (mem := fun q => q.2) hc rfl dX10_force_23 h ret2
set_option maxHeartbeats 4000000 in
set_option maxRecDepth 100000 in
theorem gjX10_dueOf_69 {x : Cx} {z : Lay} {r : Int32} {M : Mem} (hc : okm x z cX10_dueOf RX10 6 1 (some .int) (some (.int r)) M) (f29 : Mem → Int32 → Int32 → Int32 → Int32 → Int32 → Option (Int32)) (hf29 : ∀ (v1 : Int32) (v2 : Int32) (v3 : Int32) (v4 : Int32) (v5 : Int32), f29 M v1 v2 v3 v4 v5 = some r → G x z 6 29 [(0, .ref (z.2.1 51)), (1, .int v1), (2, .int v2), (3, .int v3), (4, .int v4), (5, .int v5)] [] M) (v1 : Int32) (v2 : Int32) (v3 : Int32) (v5 : Int32) (s0 : Int32) (h : jX10_dueOf_69 f29 M v1 v2 v3 v5 s0 = some r) : G x z 6 69 [(0, .ref (z.2.1 51)), (1, .int v1), (2, .int v2), (3, .int v3), (5, .int v5)] [.int s0] M := by
  have hk := hc.1
  unfold jX10_dueOf_69 at h
  refine g_istore hk [(4, .int s0), (0, .ref (z.2.1 51)), (1, .int v1), (2, .int v2), (3, .int v3), (5, .int v5)] dX10_dueOf_69 (by decide) rfl ?_
  refine g_iload hk 0 dX10_dueOf_71 rfl ?_
  refine g_ifeq hk (tgt := 84) dX10_dueOf_73 (by decide) h (fun h => ?_) (fun h => ?_)
  · refine g_iinc (k := 5) hk [(5, .int (v5 + (-1))), (4, .int s0), (0, .ref (z.2.1 51)), (1, .int v1), (2, .int v2), (3, .int v3)] dX10_dueOf_84 rfl rfl (by decide) rfl ?_
    refine g_goto hk (tgt := 29) dX10_dueOf_87 (by decide) ?_
    exact g_weak [2, 3, 4, 5, 1, 0] [(0, .ref (z.2.1 51)), (1, .int v1), (2, .int v2), (3, .int v3), (4, .int s0), (5, .int (v5 + (-1)))] rfl (hf29 v1 v2 v3 s0 (v5 + (-1)) h)
  · refine g_aload_n hk 1 dX10_dueOf_76 rfl ?_
    refine gfX10_63 hk dX10_dueOf_77 ?_
    refine g_iload hk 5 dX10_dueOf_80 rfl ?_
    obtain ⟨hi1, h⟩ := ck_e h
    refine g_iald hk sh65 dX10_dueOf_82 hi1 (M.1 65 (ix v5)) rfl ?_
    refine g_istore_n hk [(3, .int (M.1 65 (ix v5))), (4, .int s0), (0, .ref (z.2.1 51)), (1, .int v1), (2, .int v2), (5, .int v5)] dX10_dueOf_83 rfl (by decide) rfl ?_
    refine g_iinc (k := 5) hk [(5, .int (v5 + (-1))), (3, .int (M.1 65 (ix v5))), (4, .int s0), (0, .ref (z.2.1 51)), (1, .int v1), (2, .int v2)] dX10_dueOf_84 rfl rfl (by decide) rfl ?_
    refine g_goto hk (tgt := 29) dX10_dueOf_87 (by decide) ?_
    exact g_weak [3, 4, 5, 1, 2, 0] [(0, .ref (z.2.1 51)), (1, .int v1), (2, .int v2), (3, .int (M.1 65 (ix v5))), (4, .int s0), (5, .int (v5 + (-1)))] rfl (hf29 v1 v2 (M.1 65 (ix v5)) s0 (v5 + (-1)) h)
set_option maxHeartbeats 4000000 in
set_option maxRecDepth 100000 in
theorem glX10_dueOf_29 {x : Cx} {z : Lay} {r : Int32} {M : Mem} (hc : okm x z cX10_dueOf RX10 6 1 (some .int) (some (.int r)) M)  : ∀ (n : Nat) (v1 : Int32) (v2 : Int32) (v3 : Int32) (v4 : Int32) (v5 : Int32), lX10_dueOf_29  n M v1 v2 v3 v4 v5 = some r → G x z 6 29 [(0, .ref (z.2.1 51)), (1, .int v1), (2, .int v2), (3, .int v3), (4, .int v4), (5, .int v5)] [] M := by
  have hk := hc.1
  intro n
  induction n with
  | zero => intro _ _ _ _ _ h; rw [lX10_dueOf_29] at h; cases h
  | succ n ih =>
    intro v1 v2 v3 v4 v5 h
    rw [lX10_dueOf_29] at h
    refine g_iload hk 5 dX10_dueOf_29 rfl ?_
    refine g_iflt hk (tgt := 90) dX10_dueOf_31 (by decide) h (fun h => ?_) (fun h => ?_)
    · refine g_iload_n hk 3 dX10_dueOf_90 rfl ?_
      refine g_aload_n hk 0 dX10_dueOf_91 rfl ?_
      refine gfX10_81 hk dX10_dueOf_92 ?_
      refine g_iload_n hk 2 dX10_dueOf_95 rfl ?_
      obtain ⟨hi1, h⟩ := ck_e h
      refine g_iald hk sh71 dX10_dueOf_96 hi1 (M.1 71 (ix v2)) rfl ?_
      refine g_iadd hk dX10_dueOf_97 ?_
      exact g_iret (val := fun q => q) (mem := fun _ => M) hc rfl dX10_dueOf_98 h ret1
    · refine g_iload hk 4 dX10_dueOf_34 rfl ?_
      refine g_ifeq hk (tgt := 90) dX10_dueOf_36 (by decide) h (fun h => ?_) (fun h => ?_)
      · refine g_iload_n hk 3 dX10_dueOf_90 rfl ?_
        refine g_aload_n hk 0 dX10_dueOf_91 rfl ?_
        refine gfX10_81 hk dX10_dueOf_92 ?_
        refine g_iload_n hk 2 dX10_dueOf_95 rfl ?_
        obtain ⟨hi2, h⟩ := ck_e h
        refine g_iald hk sh71 dX10_dueOf_96 hi2 (M.1 71 (ix v2)) rfl ?_
        refine g_iadd hk dX10_dueOf_97 ?_
        exact g_iret (val := fun q => q) (mem := fun _ => M) hc rfl dX10_dueOf_98 h ret1
      · refine g_aload_n hk 0 dX10_dueOf_39 rfl ?_
        refine gfX10_60 hk dX10_dueOf_40 ?_
        refine g_iload hk 5 dX10_dueOf_43 rfl ?_
        obtain ⟨hi3, h⟩ := ck_e h
        refine g_iald hk sh64 dX10_dueOf_45 hi3 (M.1 64 (ix v5)) rfl ?_
        refine g_iload_n hk 1 dX10_dueOf_46 rfl ?_
        refine g_icmpeq hk (tgt := 53) dX10_dueOf_47 (by decide) h (fun h => ?_) (fun h => ?_)
        · refine g_aload_n hk 0 dX10_dueOf_53 rfl ?_
          refine gfX10_66 hk dX10_dueOf_54 ?_
          refine g_iload hk 5 dX10_dueOf_57 rfl ?_
          refine g_iald hk sh66 dX10_dueOf_59 hi3 (M.1 66 (ix v5)) rfl ?_
          refine g_iload_n hk 2 dX10_dueOf_60 rfl ?_
          refine g_icmpne hk (tgt := 68) dX10_dueOf_61 (by decide) h (fun h => ?_) (fun h => ?_)
          · refine g_iconst hk 0 dX10_dueOf_68 (by decide) ?_
            exact g_weak [0, 1, 2, 3, 5] [(0, .ref (z.2.1 51)), (1, .int v1), (2, .int v2), (3, .int v3), (5, .int v5)] rfl (gjX10_dueOf_69 hc (lX10_dueOf_29  n) ih v1 v2 v3 v5 0 h)
          · refine g_iconst hk 1 dX10_dueOf_64 (by decide) ?_
            refine g_goto hk (tgt := 69) dX10_dueOf_65 (by decide) ?_
            exact g_weak [0, 1, 2, 3, 5] [(0, .ref (z.2.1 51)), (1, .int v1), (2, .int v2), (3, .int v3), (5, .int v5)] rfl (gjX10_dueOf_69 hc (lX10_dueOf_29  n) ih v1 v2 v3 v5 1 h)
        · refine g_goto hk (tgt := 84) dX10_dueOf_50 (by decide) ?_
          refine g_iinc (k := 5) hk [(5, .int (v5 + (-1))), (0, .ref (z.2.1 51)), (1, .int v1), (2, .int v2), (3, .int v3), (4, .int v4)] dX10_dueOf_84 rfl rfl (by decide) rfl ?_
          refine g_goto hk (tgt := 29) dX10_dueOf_87 (by decide) ?_
          exact g_weak [1, 2, 3, 4, 5, 0] [(0, .ref (z.2.1 51)), (1, .int v1), (2, .int v2), (3, .int v3), (4, .int v4), (5, .int (v5 + (-1)))] rfl (ih v1 v2 v3 v4 (v5 + (-1)) h)
set_option maxHeartbeats 4000000 in
set_option maxRecDepth 100000 in
theorem kX10_dueOf (l : Launch) (z : Lay) (M : Mem) (v1 : Int32) (r : Int32) (h : xX10_dueOf M v1 = some r) : Con l z yX10_dueOf cX10_dueOf 6 (some .int) 1 [.ref (z.2.1 51), .int v1] M (some (.int r)) M := by
  refine Con.of (by decide) (Nat.le_of_ble_eq_true rfl) ?_
  intro x hl hc
  subst hl
  have hk : okc x z cX10_dueOf RX10 6 1 := hc.1
  show G x z 6 0 [(0, .ref (z.2.1 51)), (1, .int v1)] [] M
  unfold xX10_dueOf at h
  refine g_aload_n hk 0 dX10_dueOf_0 rfl ?_
  refine g_iload_n hk 1 dX10_dueOf_1 rfl ?_
  obtain ⟨r1, hr1, h⟩ := bnd h
  refine g_callVi hk [.int v1] _ sh51 rfl mtX10_forceOf mlX10_194 (by decide) (by decide) rfl rfl (Nat.le_of_ble_eq_true rfl) dX10_dueOf_2 (kX10_forceOf _ z M v1 r1 hr1) ?_
  refine g_istore_n hk [(2, .int r1), (0, .ref (z.2.1 51)), (1, .int v1)] dX10_dueOf_5 rfl (by decide) rfl ?_
  refine g_iload_n hk 0 dX10_dueOf_6 rfl ?_
  refine g_ifge hk (tgt := 13) dX10_dueOf_7 (by decide) h (fun h => ?_) (fun h => ?_)
  · refine g_aload_n hk 1 dX10_dueOf_13 rfl ?_
    refine gfX10_157 hk dX10_dueOf_14 (M.1 51 4) rfl ?_
    refine g_istore_n hk [(3, .int (M.1 51 4)), (2, .int r1), (0, .ref (z.2.1 51)), (1, .int v1)] dX10_dueOf_17 rfl (by decide) rfl ?_
    refine g_iconst hk 1 dX10_dueOf_18 (by decide) ?_
    refine g_istore hk [(4, .int 1), (3, .int (M.1 51 4)), (2, .int r1), (0, .ref (z.2.1 51)), (1, .int v1)] dX10_dueOf_19 (by decide) rfl ?_
    refine g_aload_n hk 3 dX10_dueOf_21 rfl ?_
    refine gfX10_183 hk dX10_dueOf_22 (M.1 51 6) rfl ?_
    refine g_iconst hk 1 dX10_dueOf_25 (by decide) ?_
    refine g_isub hk dX10_dueOf_26 ?_
    refine g_istore hk [(5, .int ((M.1 51 6) - 1)), (4, .int 1), (3, .int (M.1 51 4)), (2, .int r1), (0, .ref (z.2.1 51)), (1, .int v1)] dX10_dueOf_27 (by decide) rfl ?_
    exact g_weak [4, 5, 3, 2, 1, 0] [(0, .ref (z.2.1 51)), (1, .int v1), (2, .int r1), (3, .int (M.1 51 4)), (4, .int 1), (5, .int ((M.1 51 6) - 1))] rfl (glX10_dueOf_29 hc  fu v1 r1 (M.1 51 4) 1 ((M.1 51 6) - 1) h)
  · refine g_bipush hk (-9) dX10_dueOf_10 (by decide) ?_
    exact g_iret (val := fun q => q) (mem := fun _ => M) hc rfl dX10_dueOf_12 h ret1
set_option maxHeartbeats 4000000 in
set_option maxRecDepth 100000 in
theorem kX10_due (l : Launch) (z : Lay) (M : Mem) (v1 : Int32) (r : Int32 × Mem) (h : xX10_due M v1 = some r) : Con l z yX10_due cX10_due 3 (some .int) 3 [.ref (z.2.1 51), .int v1] M (some (.int r.1)) r.2 := by
  refine Con.of (by decide) (Nat.le_of_ble_eq_true rfl) ?_
  intro x hl hc
  subst hl
  have hk : okc x z cX10_due RX10 3 3 := hc.1
  show G x z 3 0 [(0, .ref (z.2.1 51)), (1, .int v1)] [] M
  unfold xX10_due at h
  refine g_aload_n hk 0 dX10_due_0 rfl ?_
  refine g_iload_n hk 1 dX10_due_1 rfl ?_
  obtain ⟨r1, hr1, h⟩ := bnd h
  refine g_callVi hk [.int v1] _ sh51 rfl mtX10_wrongOpen mlX10_206 (by decide) (by decide) rfl rfl (Nat.le_of_ble_eq_true rfl) dX10_due_2 (kX10_wrongOpen _ z M v1 r1 hr1) ?_
  refine g_istore_n hk [(2, .int r1), (0, .ref (z.2.1 51)), (1, .int v1)] dX10_due_5 rfl (by decide) rfl ?_
  refine g_iload_n hk 0 dX10_due_6 rfl ?_
  refine g_ifeq hk (tgt := 18) dX10_due_7 (by decide) h (fun h => ?_) (fun h => ?_)
  · refine g_aload_n hk 1 dX10_due_18 rfl ?_
    refine g_iload_n hk 2 dX10_due_19 rfl ?_
    obtain ⟨r2, hr2, h⟩ := bnd h
    refine g_callVi hk [.int v1] _ sh51 rfl mtX10_dueOf mlX10_209 (by decide) (by decide) rfl rfl (Nat.le_of_ble_eq_true rfl) dX10_due_20 (kX10_dueOf _ z M v1 r2 hr2) ?_
    exact g_iret (val := fun q => q.1) (mem := fun q => q.2) hc rfl dX10_due_23 h ret2
  · refine g_aload_n hk 1 dX10_due_10 rfl ?_
    refine g_iload_n hk 0 dX10_due_11 rfl ?_
    obtain ⟨r3, hr3, h⟩ := bnd h
    refine g_callVi hk [.int r1] _ sh51 rfl mtX10_refuse mlX10_149 (by decide) (by decide) rfl rfl (Nat.le_of_ble_eq_true rfl) dX10_due_12 (kX10_refuse _ z M r1 r3 hr3) ?_
    refine g_goto hk (tgt := 23) dX10_due_15 (by decide) ?_
    exact g_iret (val := fun q => q.1) (mem := fun q => q.2) hc rfl dX10_due_23 h ret2
