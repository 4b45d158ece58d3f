set_option maxHeartbeats 4000000 in
set_option maxRecDepth 100000 in
theorem glX10_overdue_4 {x : Cx} {z : Lay} {r : Int32} {M : Mem} (hc : okm x z cX10_overdue RX10 3 2 (some .int) (some (.int r)) M)  : ∀ (n : Nat) (v1 : Int32) (v2 : Int32), lX10_overdue_4  n M v1 v2 = some r → G x z 3 4 [(0, .ref (z.2.1 51)), (1, .int v1), (2, .int v2)] [] M := by
  have hk := hc.1
  intro n
  induction n with
  | zero => intro _ _ h; rw [lX10_overdue_4] at h; cases h
  | succ n ih =>
    intro v1 v2 h
    rw [lX10_overdue_4] at h
    refine g_iload_n hk 2 dX10_overdue_4 rfl ?_
    refine g_aload_n hk 0 dX10_overdue_5 rfl ?_
    refine gfX10_176 hk dX10_overdue_6 (M.1 51 5) rfl ?_
    refine g_icmpge hk (tgt := 55) dX10_overdue_9 (by decide) h (fun h => ?_) (fun h => ?_)
    · refine g_iload_n hk 1 dX10_overdue_55 rfl ?_
      exact g_iret (val := fun q => q) (mem := fun _ => M) hc rfl dX10_overdue_56 h ret1
    · refine g_iload_n hk 1 dX10_overdue_12 rfl ?_
      refine g_aload_n hk 0 dX10_overdue_13 rfl ?_
      refine gfX10_56 hk dX10_overdue_14 ?_
      refine g_iload_n hk 2 dX10_overdue_17 rfl ?_
      obtain ⟨hi1, h⟩ := ck_e h
      refine g_zald hk sh63 dX10_overdue_18 hi1 (M.1 63 (ix v2)) rfl ?_
      refine g_ifeq hk (tgt := 46) dX10_overdue_19 (by decide) h (fun h => ?_) (fun h => ?_)
      · refine g_iconst hk 0 dX10_overdue_46 (by decide) ?_
        refine g_iadd hk dX10_overdue_47 ?_
        refine g_istore_n hk [(1, .int (v1 + 0)), (0, .ref (z.2.1 51)), (2, .int v2)] dX10_overdue_48 rfl (by decide) rfl ?_
        refine g_iinc (k := 2) hk [(2, .int (v2 + 1)), (1, .int (v1 + 0)), (0, .ref (z.2.1 51))] dX10_overdue_49 rfl rfl (by decide) rfl ?_
        refine g_goto hk (tgt := 4) dX10_overdue_52 (by decide) ?_
        exact g_weak [2, 1, 0] [(0, .ref (z.2.1 51)), (1, .int (v1 + 0)), (2, .int (v2 + 1))] rfl (ih (v1 + 0) (v2 + 1) h)
      · refine g_aload_n hk 0 dX10_overdue_22 rfl ?_
        refine g_iload_n hk 2 dX10_overdue_23 rfl ?_
        obtain ⟨r1, hr1, h⟩ := bnd h
        refine g_callVi hk [.int v2] _ sh51 rfl mtX10_dueOf mlX10_209 (by decide) (by decide) rfl rfl (Nat.le_of_ble_eq_true rfl) dX10_overdue_24 (kX10_dueOf _ z M v2 r1 hr1) ?_
        refine g_iflt hk (tgt := 46) dX10_overdue_27 (by decide) h (fun h => ?_) (fun h => ?_)
        · refine g_iconst hk 0 dX10_overdue_46 (by decide) ?_
          refine g_iadd hk dX10_overdue_47 ?_
          refine g_istore_n hk [(1, .int (v1 + 0)), (0, .ref (z.2.1 51)), (2, .int v2)] dX10_overdue_48 rfl (by decide) rfl ?_
          refine g_iinc (k := 2) hk [(2, .int (v2 + 1)), (1, .int (v1 + 0)), (0, .ref (z.2.1 51))] dX10_overdue_49 rfl rfl (by decide) rfl ?_
          refine g_goto hk (tgt := 4) dX10_overdue_52 (by decide) ?_
          exact g_weak [2, 1, 0] [(0, .ref (z.2.1 51)), (1, .int (v1 + 0)), (2, .int (v2 + 1))] rfl (ih (v1 + 0) (v2 + 1) h)
        · refine g_aload_n hk 0 dX10_overdue_30 rfl ?_
          refine g_iload_n hk 2 dX10_overdue_31 rfl ?_
          obtain ⟨r2, hr2, h⟩ := bnd h
          refine g_callVi hk [.int v2] _ sh51 rfl mtX10_dueOf mlX10_209 (by decide) (by decide) rfl rfl (Nat.le_of_ble_eq_true rfl) dX10_overdue_32 (kX10_dueOf _ z M v2 r2 hr2) ?_
          refine g_aload_n hk 0 dX10_overdue_35 rfl ?_
          refine gfX10_157 hk dX10_overdue_36 (M.1 51 4) rfl ?_
          refine g_icmpge hk (tgt := 46) dX10_overdue_39 (by decide) h (fun h => ?_) (fun h => ?_)
          · refine g_iconst hk 0 dX10_overdue_46 (by decide) ?_
            refine g_iadd hk dX10_overdue_47 ?_
            refine g_istore_n hk [(1, .int (v1 + 0)), (0, .ref (z.2.1 51)), (2, .int v2)] dX10_overdue_48 rfl (by decide) rfl ?_
            refine g_iinc (k := 2) hk [(2, .int (v2 + 1)), (1, .int (v1 + 0)), (0, .ref (z.2.1 51))] dX10_overdue_49 rfl rfl (by decide) rfl ?_
            refine g_goto hk (tgt := 4) dX10_overdue_52 (by decide) ?_
            exact g_weak [2, 1, 0] [(0, .ref (z.2.1 51)), (1, .int (v1 + 0)), (2, .int (v2 + 1))] rfl (ih (v1 + 0) (v2 + 1) h)
          · refine g_iconst hk 1 dX10_overdue_42 (by decide) ?_
            refine g_goto hk (tgt := 47) dX10_overdue_43 (by decide) ?_
            refine g_iadd hk dX10_overdue_47 ?_
            refine g_istore_n hk [(1, .int (v1 + 1)), (0, .ref (z.2.1 51)), (2, .int v2)] dX10_overdue_48 rfl (by decide) rfl ?_
            refine g_iinc (k := 2) hk [(2, .int (v2 + 1)), (1, .int (v1 + 1)), (0, .ref (z.2.1 51))] dX10_overdue_49 rfl rfl (by decide) rfl ?_
            refine g_goto hk (tgt := 4) dX10_overdue_52 (by decide) ?_
            exact g_weak [2, 1, 0] [(0, .ref (z.2.1 51)), (1, .int (v1 + 1)), (2, .int (v2 + 1))] rfl (ih (v1 + 1) (v2 + 1) h)
set_option maxHeartbeats 4000000 in
set_option maxRecDepth 100000 in
theorem kX10_overdue (l : Launch) (z : Lay) (M : Mem)  (r : Int32) (h : xX10_overdue M = some r) : Con l z yX10_overdue cX10_overdue 3 (some .int) 2 [.ref (z.2.1 51)] M (some (.int r)) M := by
  refine Con.of (by decide) (Nat.le_of_ble_eq_true rfl) ?_
  intro x hl hc
  subst hl
  have hk : okc x z cX10_overdue RX10 3 2 := hc.1
  show G x z 3 0 [(0, .ref (z.2.1 51))] [] M
  unfold xX10_overdue at h
  refine g_iconst hk 0 dX10_overdue_0 (by decide) ?_
  refine g_istore_n hk [(1, .int 0), (0, .ref (z.2.1 51))] dX10_overdue_1 rfl (by decide) rfl ?_
  refine g_iconst hk 0 dX10_overdue_2 (by decide) ?_
  refine g_istore_n hk [(2, .int 0), (1, .int 0), (0, .ref (z.2.1 51))] dX10_overdue_3 rfl (by decide) rfl ?_
  exact g_weak [2, 1, 0] [(0, .ref (z.2.1 51)), (1, .int 0), (2, .int 0)] rfl (glX10_overdue_4 hc  fu 0 0 h)
set_option maxHeartbeats 4000000 in
set_option maxRecDepth 100000 in
theorem gjX10_close_42 {x : Cx} {z : Lay} {r : Int32 × Mem} (hc : okm x z cX10_close RX10 4 2 (some .int) (some (.int r.1)) r.2)  (M : Mem) (v1 : Int32) (v2 : Int32) (s0 : Int32) (h : jX10_close_42  M v1 v2 s0 = some r) : G x z 4 42 [(0, .ref (z.2.1 51)), (1, .int v1), (2, .int v2)] [.int s0] M := by
  have hk := hc.1
  unfold jX10_close_42 at h
  refine g_istore_n hk [(3, .int s0), (0, .ref (z.2.1 51)), (1, .int v1), (2, .int v2)] dX10_close_42 rfl (by decide) rfl ?_
  refine g_iload_n hk 0 dX10_close_43 rfl ?_
  refine g_ifeq hk (tgt := 53) dX10_close_44 (by decide) h (fun h => ?_) (fun h => ?_)
  · refine g_aload_n hk 1 dX10_close_53 rfl ?_
    refine gfX10_56 hk dX10_close_54 ?_
    refine g_iload_n hk 2 dX10_close_57 rfl ?_
    refine g_iconst hk 0 dX10_close_58 (by decide) ?_
    obtain ⟨hi1, h⟩ := ck_e h
    refine g_zast hk 0 sh63 dX10_close_59 hi1 (by decide) ?_
    refine g_iload_n hk 3 dX10_close_60 rfl ?_
    refine g_iconst hk 3 dX10_close_61 (by decide) ?_
    refine g_icmpne hk (tgt := 80) dX10_close_62 (by decide) h (fun h => ?_) (fun h => ?_)
    · refine g_iconst hk 1 dX10_close_80 (by decide) ?_
      exact g_iret (val := fun q => q.1) (mem := fun q => q.2) hc rfl dX10_close_81 h ret2
    · refine g_aload_n hk 1 dX10_close_65 rfl ?_
      refine gfX10_99 hk dX10_close_66 ?_
      refine g_aload_n hk 1 dX10_close_69 rfl ?_
      refine gfX10_35 hk dX10_close_70 ?_
      refine g_iload_n hk 2 dX10_close_73 rfl ?_
      refine g_iald hk sh56 dX10_close_74 hi1 (M.1 56 (ix v1)) rfl ?_
      refine g_aload_n hk 1 dX10_close_75 rfl ?_
      refine gfX10_32 hk dX10_close_76 (M.1 51 16) rfl ?_
      obtain ⟨hi2, h⟩ := ck_e h
      refine g_iast hk sh77 dX10_close_79 hi2 ?_
      refine g_iconst hk 1 dX10_close_80 (by decide) ?_
      exact g_iret (val := fun q => q.1) (mem := fun q => q.2) hc rfl dX10_close_81 h ret2
  · refine g_aload_n hk 1 dX10_close_47 rfl ?_
    refine g_iload_n hk 0 dX10_close_48 rfl ?_
    obtain ⟨r1, hr1, h⟩ := bnd h
    refine g_callVi hk [.int s0] _ sh51 rfl mtX10_refuse mlX10_149 (by decide) (by decide) rfl rfl (Nat.le_of_ble_eq_true rfl) dX10_close_49 (kX10_refuse _ z M s0 r1 hr1) ?_
    exact g_iret (val := fun q => q.1) (mem := fun q => q.2) hc rfl dX10_close_52 h ret2
set_option maxHeartbeats 4000000 in
set_option maxRecDepth 100000 in
theorem gjX10_close_27 {x : Cx} {z : Lay} {r : Int32 × Mem} (hc : okm x z cX10_close RX10 4 2 (some .int) (some (.int r.1)) r.2)  (M : Mem) (v1 : Int32) (v2 : Int32) (h : jX10_close_27  M v1 v2 = some r) : G x z 4 27 [(0, .ref (z.2.1 51)), (1, .int v1), (2, .int v2)] [] M := by
  have hk := hc.1
  unfold jX10_close_27 at h
  refine g_aload_n hk 0 dX10_close_27 rfl ?_
  refine gfX10_56 hk dX10_close_28 ?_
  refine g_iload_n hk 1 dX10_close_31 rfl ?_
  obtain ⟨hi1, h⟩ := ck_e h
  refine g_zald hk sh63 dX10_close_32 hi1 (M.1 63 (ix v1)) rfl ?_
  refine g_ifeq hk (tgt := 40) dX10_close_33 (by decide) h (fun h => ?_) (fun h => ?_)
  · refine g_bipush hk (-3) dX10_close_40 (by decide) ?_
    exact g_weak [0, 1, 2] [(0, .ref (z.2.1 51)), (1, .int v1), (2, .int v2)] rfl (gjX10_close_42 hc  M v1 v2 (-3) h)
  · refine g_iconst hk 0 dX10_close_36 (by decide) ?_
    refine g_goto hk (tgt := 42) dX10_close_37 (by decide) ?_
    exact g_weak [0, 1, 2] [(0, .ref (z.2.1 51)), (1, .int v1), (2, .int v2)] rfl (gjX10_close_42 hc  M v1 v2 0 h)
set_option maxHeartbeats 4000000 in
set_option maxRecDepth 100000 in
theorem kX10_close (l : Launch) (z : Lay) (M : Mem) (v1 : Int32) (v2 : Int32) (r : Int32 × Mem) (h : xX10_close M v1 v2 = some r) : Con l z yX10_close cX10_close 4 (some .int) 2 [.ref (z.2.1 51), .int v1, .int v2] M (some (.int r.1)) r.2 := by
  refine Con.of (by decide) (Nat.le_of_ble_eq_true rfl) ?_
  intro x hl hc
  subst hl
  have hk : okc x z cX10_close RX10 4 2 := hc.1
  show G x z 4 0 [(0, .ref (z.2.1 51)), (1, .int v1), (2, .int v2)] [] M
  unfold xX10_close at h
  refine g_aload_n hk 0 dX10_close_0 rfl ?_
  refine g_iload_n hk 1 dX10_close_1 rfl ?_
  obtain ⟨r1, hr1, h⟩ := bnd h
  refine g_callVi hk [.int v1] _ sh51 rfl mtX10_isDefect mlX10_200 (by decide) (by decide) rfl rfl (Nat.le_of_ble_eq_true rfl) dX10_close_2 (kX10_isDefect _ z M v1 r1 hr1) ?_
  refine g_ifne hk (tgt := 12) dX10_close_5 (by decide) h (fun h => ?_) (fun h => ?_)
  · refine g_iload_n hk 2 dX10_close_12 rfl ?_
    refine g_iconst hk 2 dX10_close_13 (by decide) ?_
    refine g_icmpeq hk (tgt := 27) dX10_close_14 (by decide) h (fun h => ?_) (fun h => ?_)
    · exact g_weak [0, 1, 2] [(0, .ref (z.2.1 51)), (1, .int v1), (2, .int v2)] rfl (gjX10_close_27 hc  M v1 v2 h)
    · refine g_iload_n hk 2 dX10_close_17 rfl ?_
      refine g_iconst hk 3 dX10_close_18 (by decide) ?_
      refine g_icmpeq hk (tgt := 27) dX10_close_19 (by decide) h (fun h => ?_) (fun h => ?_)
      · exact g_weak [0, 1, 2] [(0, .ref (z.2.1 51)), (1, .int v1), (2, .int v2)] rfl (gjX10_close_27 hc  M v1 v2 h)
      · refine g_bipush hk (-2) dX10_close_22 (by decide) ?_
        refine g_goto hk (tgt := 42) dX10_close_24 (by decide) ?_
        exact g_weak [0, 1, 2] [(0, .ref (z.2.1 51)), (1, .int v1), (2, .int v2)] rfl (gjX10_close_42 hc  M v1 v2 (-2) h)
  · refine g_iconst hk (-1) dX10_close_8 (by decide) ?_
    refine g_goto hk (tgt := 42) dX10_close_9 (by decide) ?_
    exact g_weak [0, 1, 2] [(0, .ref (z.2.1 51)), (1, .int v1), (2, .int v2)] rfl (gjX10_close_42 hc  M v1 v2 (-1) h)
set_option maxHeartbeats 4000000 in
set_option maxRecDepth 100000 in
theorem gjX10_slow_32 {x : Cx} {z : Lay} {r : Int32 × Mem} (hc : okm x z cX10_slow RX10 4 2 (some .int) (some (.int r.1)) r.2)  (M : Mem) (v1 : Int32) (v2 : Int32) (s0 : Int32) (h : jX10_slow_32  M v1 v2 s0 = some r) : G x z 4 32 [(0, .ref (z.2.1 51)), (1, .int v1), (2, .int v2)] [.int s0] M := by
  have hk := hc.1
  unfold jX10_slow_32 at h
  refine g_istore_n hk [(3, .int s0), (0, .ref (z.2.1 51)), (1, .int v1), (2, .int v2)] dX10_slow_32 rfl (by decide) rfl ?_
  refine g_iload_n hk 0 dX10_slow_33 rfl ?_
  refine g_ifeq hk (tgt := 43) dX10_slow_34 (by decide) h (fun h => ?_) (fun h => ?_)
  · refine g_aload_n hk 1 dX10_slow_43 rfl ?_
    refine gfX10_84 hk dX10_slow_44 ?_
    refine g_iload_n hk 2 dX10_slow_47 rfl ?_
    refine g_iload_n hk 3 dX10_slow_48 rfl ?_
    obtain ⟨hi1, h⟩ := ck_e h
    refine g_iast hk sh72 dX10_slow_49 hi1 ?_
    refine g_iconst hk 1 dX10_slow_50 (by decide) ?_
    exact g_iret (val := fun q => q.1) (mem := fun q => q.2) hc rfl dX10_slow_51 h ret2
  · refine g_aload_n hk 1 dX10_slow_37 rfl ?_
    refine g_iload_n hk 0 dX10_slow_38 rfl ?_
    obtain ⟨r1, hr1, h⟩ := bnd h
    refine g_callVi hk [.int s0] _ sh51 rfl mtX10_refuse mlX10_149 (by decide) (by decide) rfl rfl (Nat.le_of_ble_eq_true rfl) dX10_slow_39 (kX10_refuse _ z M s0 r1 hr1) ?_
    exact g_iret (val := fun q => q.1) (mem := fun q => q.2) hc rfl dX10_slow_42 h ret2
set_option maxHeartbeats 4000000 in
set_option maxRecDepth 100000 in
theorem kX10_slow (l : Launch) (z : Lay) (M : Mem) (v1 : Int32) (v2 : Int32) (r : Int32 × Mem) (h : xX10_slow M v1 v2 = some r) : Con l z yX10_slow cX10_slow 4 (some .int) 2 [.ref (z.2.1 51), .int v1, .int v2] M (some (.int r.1)) r.2 := by
  refine Con.of (by decide) (Nat.le_of_ble_eq_true rfl) ?_
  intro x hl hc
  subst hl
  have hk : okc x z cX10_slow RX10 4 2 := hc.1
  show G x z 4 0 [(0, .ref (z.2.1 51)), (1, .int v1), (2, .int v2)] [] M
  unfold xX10_slow at h
  refine g_iload_n hk 1 dX10_slow_0 rfl ?_
  obtain ⟨r1, hr1, h⟩ := bnd h
  refine g_callSi hk [.int v1] _ mtX10_isMile mlX10_179 (by decide) (by decide) rfl rfl (Nat.le_of_ble_eq_true rfl) dX10_slow_1 (kX10_isMile _ z M v1 r1 hr1) ?_
  refine g_ifne hk (tgt := 11) dX10_slow_4 (by decide) h (fun h => ?_) (fun h => ?_)
  · refine g_aload_n hk 0 dX10_slow_11 rfl ?_
    refine gfX10_84 hk dX10_slow_12 ?_
    refine g_iload_n hk 1 dX10_slow_15 rfl ?_
    obtain ⟨hi1, h⟩ := ck_e h
    refine g_iald hk sh72 dX10_slow_16 hi1 (M.1 72 (ix v1)) rfl ?_
    refine g_ifle hk (tgt := 25) dX10_slow_17 (by decide) h (fun h => ?_) (fun h => ?_)
    · refine g_iload_n hk 2 dX10_slow_25 rfl ?_
      refine g_iconst hk 1 dX10_slow_26 (by decide) ?_
      refine g_bipush hk 30 dX10_slow_27 (by decide) ?_
      obtain ⟨r2, hr2, h⟩ := bnd h
      refine g_callSi hk [.int v2, .int 1, .int 30] _ mtX10_wrong mlX10_160 (by decide) (by decide) rfl rfl (Nat.le_of_ble_eq_true rfl) dX10_slow_29 (kX10_wrong _ z M v2 1 30 r2 hr2) ?_
      exact g_weak [0, 1, 2] [(0, .ref (z.2.1 51)), (1, .int v1), (2, .int v2)] rfl (gjX10_slow_32 hc  M v1 v2 r2 h)
    · refine g_bipush hk (-3) dX10_slow_20 (by decide) ?_
      refine g_goto hk (tgt := 32) dX10_slow_22 (by decide) ?_
      exact g_weak [0, 1, 2] [(0, .ref (z.2.1 51)), (1, .int v1), (2, .int v2)] rfl (gjX10_slow_32 hc  M v1 v2 (-3) h)
  · refine g_iconst hk (-1) dX10_slow_7 (by decide) ?_
    refine g_goto hk (tgt := 32) dX10_slow_8 (by decide) ?_
    exact g_weak [0, 1, 2] [(0, .ref (z.2.1 51)), (1, .int v1), (2, .int v2)] rfl (gjX10_slow_32 hc  M v1 v2 (-1) h)
set_option maxHeartbeats 4000000 in
set_option maxRecDepth 100000 in
theorem kX10_heatOf (l : Launch) (z : Lay) (M : Mem) (v1 : Int32) (r : Int32) (h : xX10_heatOf M v1 = some r) : Con l z yX10_heatOf cX10_heatOf 2 (some .int) 1 [.ref (z.2.1 51), .int v1] M (some (.int r)) M := by
  refine Con.of (by decide) (Nat.le_of_ble_eq_true rfl) ?_
  intro x hl hc
  subst hl
  have hk : okc x z cX10_heatOf RX10 2 1 := hc.1
  show G x z 2 0 [(0, .ref (z.2.1 51)), (1, .int v1)] [] M
  unfold xX10_heatOf at h
  refine g_aload_n hk 0 dX10_heatOf_0 rfl ?_
  refine gfX10_32 hk dX10_heatOf_1 (M.1 51 16) rfl ?_
  refine g_aload_n hk 0 dX10_heatOf_4 rfl ?_
  refine gfX10_99 hk dX10_heatOf_5 ?_
  refine g_iload_n hk 1 dX10_heatOf_8 rfl ?_
  obtain ⟨hi1, h⟩ := ck_e h
  refine g_iald hk sh77 dX10_heatOf_9 hi1 (M.1 77 (ix v1)) rfl ?_
  refine g_isub hk dX10_heatOf_10 ?_
  refine g_mabs hk mlX10_212 st_abs inMath cd_abs (by decide) (Nat.le_of_ble_eq_true rfl) dX10_heatOf_11 ?_
  exact g_iret (val := fun q => q) (mem := fun _ => M) hc rfl dX10_heatOf_14 h ret1
set_option maxHeartbeats 4000000 in
set_option maxRecDepth 100000 in
theorem glX10_lift_56 {x : Cx} {z : Lay} {r : Int32 × Mem} (hc : okm x z cX10_lift RX10 5 2 (some .int) (some (.int r.1)) r.2)  : ∀ (n : Nat) (M : Mem) (v1 : Int32) (v3 : Int32) (v4 : Int32), lX10_lift_56  n M v1 v3 v4 = some r → G x z 5 56 [(0, .ref (z.2.1 51)), (1, .int v1), (3, .int v3), (4, .int v4)] [] M := by
  have hk := hc.1
  intro n
  induction n with
  | zero => intro _ _ _ _ h; rw [lX10_lift_56] at h; cases h
  | succ n ih =>
    intro M v1 v3 v4 h
    rw [lX10_lift_56] at h
    refine g_iload hk 3 dX10_lift_56 rfl ?_
    refine g_aload_n hk 0 dX10_lift_58 rfl ?_
    refine gfX10_176 hk dX10_lift_59 (M.1 51 5) rfl ?_
    refine g_icmpge hk (tgt := 125) dX10_lift_62 (by decide) h (fun h => ?_) (fun h => ?_)
    · refine g_iload_n hk 2 dX10_lift_125 rfl ?_
      refine g_ifne hk (tgt := 131) dX10_lift_126 (by decide) h (fun h => ?_) (fun h => ?_)
      · refine g_aload_n hk 0 dX10_lift_131 rfl ?_
        refine gfX10_84 hk dX10_lift_132 ?_
        refine g_iload_n hk 1 dX10_lift_135 rfl ?_
        refine g_iconst hk 0 dX10_lift_136 (by decide) ?_
        obtain ⟨hi1, h⟩ := ck_e h
        refine g_iast hk sh72 dX10_lift_137 hi1 ?_
        refine g_iconst hk 1 dX10_lift_138 (by decide) ?_
        exact g_iret (val := fun q => q.1) (mem := fun q => q.2) hc rfl dX10_lift_139 h ret2
      · refine g_iconst hk 0 dX10_lift_129 (by decide) ?_
        exact g_iret (val := fun q => q.1) (mem := fun q => q.2) hc rfl dX10_lift_130 h ret2
    · refine g_iload_n hk 2 dX10_lift_65 rfl ?_
      refine g_ifeq hk (tgt := 117) dX10_lift_66 (by decide) h (fun h => ?_) (fun h => ?_)
      · refine g_iconst hk 0 dX10_lift_117 (by decide) ?_
        refine g_istore_n hk [(3, .int 0), (0, .ref (z.2.1 51)), (1, .int v1), (4, .int v4)] dX10_lift_118 rfl (by decide) rfl ?_
        refine g_iinc (k := 3) hk [(4, .int (v4 + 1)), (3, .int 0), (0, .ref (z.2.1 51)), (1, .int v1)] dX10_lift_119 rfl rfl (by decide) rfl ?_
        refine g_goto hk (tgt := 56) dX10_lift_122 (by decide) ?_
        exact g_weak [2, 3, 1, 0] [(0, .ref (z.2.1 51)), (1, .int v1), (3, .int 0), (4, .int (v4 + 1))] rfl (ih M v1 0 (v4 + 1) h)
      · refine g_aload_n hk 0 dX10_lift_69 rfl ?_
        refine gfX10_56 hk dX10_lift_70 ?_
        refine g_iload hk 3 dX10_lift_73 rfl ?_
        obtain ⟨hi2, h⟩ := ck_e h
        refine g_zald hk sh63 dX10_lift_75 hi2 (M.1 63 (ix v4)) rfl ?_
        refine g_ifeq hk (tgt := 113) dX10_lift_76 (by decide) h (fun h => ?_) (fun h => ?_)
        · refine g_iconst hk 1 dX10_lift_113 (by decide) ?_
          refine g_goto hk (tgt := 118) dX10_lift_114 (by decide) ?_
          refine g_istore_n hk [(3, .int 1), (0, .ref (z.2.1 51)), (1, .int v1), (4, .int v4)] dX10_lift_118 rfl (by decide) rfl ?_
          refine g_iinc (k := 3) hk [(4, .int (v4 + 1)), (3, .int 1), (0, .ref (z.2.1 51)), (1, .int v1)] dX10_lift_119 rfl rfl (by decide) rfl ?_
          refine g_goto hk (tgt := 56) dX10_lift_122 (by decide) ?_
          exact g_weak [2, 3, 1, 0] [(0, .ref (z.2.1 51)), (1, .int v1), (3, .int 1), (4, .int (v4 + 1))] rfl (ih M v1 1 (v4 + 1) h)
        · refine g_aload_n hk 0 dX10_lift_79 rfl ?_
          refine gfX10_35 hk dX10_lift_80 ?_
          refine g_iload hk 3 dX10_lift_83 rfl ?_
          refine g_iald hk sh56 dX10_lift_85 hi2 (M.1 56 (ix v4)) rfl ?_
          refine g_iload_n hk 1 dX10_lift_86 rfl ?_
          refine g_icmpne hk (tgt := 113) dX10_lift_87 (by decide) h (fun h => ?_) (fun h => ?_)
          · refine g_iconst hk 1 dX10_lift_113 (by decide) ?_
            refine g_goto hk (tgt := 118) dX10_lift_114 (by decide) ?_
            refine g_istore_n hk [(3, .int 1), (0, .ref (z.2.1 51)), (1, .int v1), (4, .int v4)] dX10_lift_118 rfl (by decide) rfl ?_
            refine g_iinc (k := 3) hk [(4, .int (v4 + 1)), (3, .int 1), (0, .ref (z.2.1 51)), (1, .int v1)] dX10_lift_119 rfl rfl (by decide) rfl ?_
            refine g_goto hk (tgt := 56) dX10_lift_122 (by decide) ?_
            exact g_weak [2, 3, 1, 0] [(0, .ref (z.2.1 51)), (1, .int v1), (3, .int 1), (4, .int (v4 + 1))] rfl (ih M v1 1 (v4 + 1) h)
          · refine g_aload_n hk 0 dX10_lift_90 rfl ?_
            refine g_iload hk 3 dX10_lift_91 rfl ?_
            obtain ⟨r1, hr1, h⟩ := bnd h
            refine g_callVi hk [.int v4] _ sh51 rfl mtX10_forceOf mlX10_194 (by decide) (by decide) rfl rfl (Nat.le_of_ble_eq_true rfl) dX10_lift_93 (kX10_forceOf _ z M v4 r1 hr1) ?_
            refine g_iflt hk (tgt := 113) dX10_lift_96 (by decide) h (fun h => ?_) (fun h => ?_)
            · refine g_iconst hk 1 dX10_lift_113 (by decide) ?_
              refine g_goto hk (tgt := 118) dX10_lift_114 (by decide) ?_
              refine g_istore_n hk [(3, .int 1), (0, .ref (z.2.1 51)), (1, .int v1), (4, .int v4)] dX10_lift_118 rfl (by decide) rfl ?_
              refine g_iinc (k := 3) hk [(4, .int (v4 + 1)), (3, .int 1), (0, .ref (z.2.1 51)), (1, .int v1)] dX10_lift_119 rfl rfl (by decide) rfl ?_
              refine g_goto hk (tgt := 56) dX10_lift_122 (by decide) ?_
              exact g_weak [2, 3, 1, 0] [(0, .ref (z.2.1 51)), (1, .int v1), (3, .int 1), (4, .int (v4 + 1))] rfl (ih M v1 1 (v4 + 1) h)
            · refine g_aload_n hk 0 dX10_lift_99 rfl ?_
              refine gfX10_78 hk dX10_lift_100 ?_
              refine g_aload_n hk 0 dX10_lift_103 rfl ?_
              refine g_iload hk 3 dX10_lift_104 rfl ?_
              obtain ⟨r2, hr2, h⟩ := bnd h
              refine g_callVi hk [.int v4] _ sh51 rfl mtX10_forceOf mlX10_194 (by decide) (by decide) rfl rfl (Nat.le_of_ble_eq_true rfl) dX10_lift_106 (kX10_forceOf _ z M v4 r2 hr2) ?_
              obtain ⟨hi3, h⟩ := ck_e h
              refine g_iald hk sh70 dX10_lift_109 hi3 (M.1 70 (ix r2)) rfl ?_
              refine g_ifne hk (tgt := 117) dX10_lift_110 (by decide) h (fun h => ?_) (fun h => ?_)
              · refine g_iconst hk 0 dX10_lift_117 (by decide) ?_
                refine g_istore_n hk [(3, .int 0), (0, .ref (z.2.1 51)), (1, .int v1), (4, .int v4)] dX10_lift_118 rfl (by decide) rfl ?_
                refine g_iinc (k := 3) hk [(4, .int (v4 + 1)), (3, .int 0), (0, .ref (z.2.1 51)), (1, .int v1)] dX10_lift_119 rfl rfl (by decide) rfl ?_
                refine g_goto hk (tgt := 56) dX10_lift_122 (by decide) ?_
                exact g_weak [2, 3, 1, 0] [(0, .ref (z.2.1 51)), (1, .int v1), (3, .int 0), (4, .int (v4 + 1))] rfl (ih M v1 0 (v4 + 1) h)
              · refine g_iconst hk 1 dX10_lift_113 (by decide) ?_
                refine g_goto hk (tgt := 118) dX10_lift_114 (by decide) ?_
                refine g_istore_n hk [(3, .int 1), (0, .ref (z.2.1 51)), (1, .int v1), (4, .int v4)] dX10_lift_118 rfl (by decide) rfl ?_
                refine g_iinc (k := 3) hk [(4, .int (v4 + 1)), (3, .int 1), (0, .ref (z.2.1 51)), (1, .int v1)] dX10_lift_119 rfl rfl (by decide) rfl ?_
                refine g_goto hk (tgt := 56) dX10_lift_122 (by decide) ?_
                exact g_weak [2, 3, 1, 0] [(0, .ref (z.2.1 51)), (1, .int v1), (3, .int 1), (4, .int (v4 + 1))] rfl (ih M v1 1 (v4 + 1) h)
set_option maxHeartbeats 4000000 in
set_option maxRecDepth 100000 in
theorem gjX10_lift_26 {x : Cx} {z : Lay} {r : Int32 × Mem} (hc : okm x z cX10_lift RX10 5 2 (some .int) (some (.int r.1)) r.2)  (M : Mem) (v1 : Int32) (s0 : Int32) (h : jX10_lift_26  M v1 s0 = some r) : G x z 5 26 [(0, .ref (z.2.1 51)), (1, .int v1)] [.int s0] M := by
  have hk := hc.1
  unfold jX10_lift_26 at h
  refine g_istore_n hk [(2, .int s0), (0, .ref (z.2.1 51)), (1, .int v1)] dX10_lift_26 rfl (by decide) rfl ?_
  refine g_iload_n hk 0 dX10_lift_27 rfl ?_
  refine g_ifeq hk (tgt := 37) dX10_lift_28 (by decide) h (fun h => ?_) (fun h => ?_)
  · refine g_aload_n hk 1 dX10_lift_37 rfl ?_
    refine g_iload_n hk 2 dX10_lift_38 rfl ?_
    obtain ⟨r1, hr1, h⟩ := bnd h
    refine g_callVi hk [.int v1] _ sh51 rfl mtX10_heatOf mlX10_215 (by decide) (by decide) rfl rfl (Nat.le_of_ble_eq_true rfl) dX10_lift_39 (kX10_heatOf _ z M v1 r1 hr1) ?_
    refine g_bipush hk 20 dX10_lift_42 (by decide) ?_
    refine g_icmpgt hk (tgt := 51) dX10_lift_44 (by decide) h (fun h => ?_) (fun h => ?_)
    · refine g_iconst hk 0 dX10_lift_51 (by decide) ?_
      refine g_istore_n hk [(3, .int 0), (2, .int s0), (0, .ref (z.2.1 51)), (1, .int v1)] dX10_lift_52 rfl (by decide) rfl ?_
      refine g_iconst hk 0 dX10_lift_53 (by decide) ?_
      refine g_istore hk [(4, .int 0), (3, .int 0), (2, .int s0), (0, .ref (z.2.1 51)), (1, .int v1)] dX10_lift_54 (by decide) rfl ?_
      exact g_weak [3, 4, 1, 0] [(0, .ref (z.2.1 51)), (1, .int v1), (3, .int 0), (4, .int 0)] rfl (glX10_lift_56 hc  fu M v1 0 0 h)
    · refine g_iconst hk 1 dX10_lift_47 (by decide) ?_
      refine g_goto hk (tgt := 52) dX10_lift_48 (by decide) ?_
      refine g_istore_n hk [(3, .int 1), (2, .int s0), (0, .ref (z.2.1 51)), (1, .int v1)] dX10_lift_52 rfl (by decide) rfl ?_
      refine g_iconst hk 0 dX10_lift_53 (by decide) ?_
      refine g_istore hk [(4, .int 0), (3, .int 1), (2, .int s0), (0, .ref (z.2.1 51)), (1, .int v1)] dX10_lift_54 (by decide) rfl ?_
      exact g_weak [3, 4, 1, 0] [(0, .ref (z.2.1 51)), (1, .int v1), (3, .int 1), (4, .int 0)] rfl (glX10_lift_56 hc  fu M v1 1 0 h)
  · refine g_aload_n hk 1 dX10_lift_31 rfl ?_
    refine g_iload_n hk 0 dX10_lift_32 rfl ?_
    obtain ⟨r2, hr2, h⟩ := bnd h
    refine g_callVi hk [.int s0] _ sh51 rfl mtX10_refuse mlX10_149 (by decide) (by decide) rfl rfl (Nat.le_of_ble_eq_true rfl) dX10_lift_33 (kX10_refuse _ z M s0 r2 hr2) ?_
    exact g_iret (val := fun q => q.1) (mem := fun q => q.2) hc rfl dX10_lift_36 h ret2
set_option maxHeartbeats 4000000 in
set_option maxRecDepth 100000 in
theorem kX10_lift (l : Launch) (z : Lay) (M : Mem) (v1 : Int32) (r : Int32 × Mem) (h : xX10_lift M v1 = some r) : Con l z yX10_lift cX10_lift 5 (some .int) 2 [.ref (z.2.1 51), .int v1] M (some (.int r.1)) r.2 := by
  refine Con.of (by decide) (Nat.le_of_ble_eq_true rfl) ?_
  intro x hl hc
  subst hl
  have hk : okc x z cX10_lift RX10 5 2 := hc.1
  show G x z 5 0 [(0, .ref (z.2.1 51)), (1, .int v1)] [] M
  unfold xX10_lift at h
  refine g_iload_n hk 1 dX10_lift_0 rfl ?_
  obtain ⟨r1, hr1, h⟩ := bnd h
  refine g_callSi hk [.int v1] _ mtX10_isMile mlX10_179 (by decide) (by decide) rfl rfl (Nat.le_of_ble_eq_true rfl) dX10_lift_1 (kX10_isMile _ z M v1 r1 hr1) ?_
  refine g_ifne hk (tgt := 11) dX10_lift_4 (by decide) h (fun h => ?_) (fun h => ?_)
  · refine g_aload_n hk 0 dX10_lift_11 rfl ?_
    refine gfX10_84 hk dX10_lift_12 ?_
    refine g_iload_n hk 1 dX10_lift_15 rfl ?_
    obtain ⟨hi1, h⟩ := ck_e h
    refine g_iald hk sh72 dX10_lift_16 hi1 (M.1 72 (ix v1)) rfl ?_
    refine g_ifne hk (tgt := 25) dX10_lift_17 (by decide) h (fun h => ?_) (fun h => ?_)
    · refine g_iconst hk 0 dX10_lift_25 (by decide) ?_
      exact g_weak [0, 1] [(0, .ref (z.2.1 51)), (1, .int v1)] rfl (gjX10_lift_26 hc  M v1 0 h)
    · refine g_bipush hk (-3) dX10_lift_20 (by decide) ?_
      refine g_goto hk (tgt := 26) dX10_lift_22 (by decide) ?_
      exact g_weak [0, 1] [(0, .ref (z.2.1 51)), (1, .int v1)] rfl (gjX10_lift_26 hc  M v1 (-3) h)
  · refine g_iconst hk (-1) dX10_lift_7 (by decide) ?_
    refine g_goto hk (tgt := 26) dX10_lift_8 (by decide) ?_
    exact g_weak [0, 1] [(0, .ref (z.2.1 51)), (1, .int v1)] rfl (gjX10_lift_26 hc  M v1 (-1) h)
set_option maxHeartbeats 4000000 in
set_option maxRecDepth 100000 in
theorem kX10_lost (l : Launch) (z : Lay) (M : Mem)  (r : Int32) (h : xX10_lost M = some r) : Con l z yX10_lost cX10_lost 1 (some .int) 0 [.ref (z.2.1 51)] M (some (.int r)) M := by
  refine Con.of (by decide) (Nat.le_of_ble_eq_true rfl) ?_
  intro x hl hc
  subst hl
  have hk : okc x z cX10_lost RX10 1 0 := hc.1
  show G x z 1 0 [(0, .ref (z.2.1 51))] [] M
  unfold xX10_lost at h
  refine g_aload_n hk 0 dX10_lost_0 rfl ?_
  refine gfX10_218 hk dX10_lost_1 (M.1 51 9) rfl ?_
  exact g_iret (val := fun q => q) (mem := fun _ => M) hc rfl dX10_lost_4 h ret1
set_option maxHeartbeats 4000000 in
set_option maxRecDepth 100000 in
theorem gjX10_set_120 {x : Cx} {z : Lay} {r : Int32 × Mem} (hc : okm x z cX10_set RX10 5 2 (some .int) (some (.int r.1)) r.2)  (M : Mem) (v1 : Int32) (v2 : Int32) (s0 : Int32) (h : jX10_set_120  M v1 v2 s0 = some r) : G x z 5 120 [(0, .ref (z.2.1 51)), (1, .int v1), (2, .int v2)] [.int s0] M := by
  have hk := hc.1
  unfold jX10_set_120 at h
  refine g_istore hk [(4, .int s0), (0, .ref (z.2.1 51)), (1, .int v1), (2, .int v2)] dX10_set_120 (by decide) rfl ?_
  refine g_iload_n hk 2 dX10_set_122 rfl ?_
  refine g_ifne hk (tgt := 134) dX10_set_123 (by decide) h (fun h => ?_) (fun h => ?_)
  · refine g_iload_n hk 2 dX10_set_134 rfl ?_
    refine g_iconst hk 1 dX10_set_135 (by decide) ?_
    refine g_icmpne hk (tgt := 147) dX10_set_136 (by decide) h (fun h => ?_) (fun h => ?_)
    · refine g_iload_n hk 2 dX10_set_147 rfl ?_
      refine g_iconst hk 2 dX10_set_148 (by decide) ?_
      refine g_icmpne hk (tgt := 160) dX10_set_149 (by decide) h (fun h => ?_) (fun h => ?_)
      · refine g_aload_n hk 1 dX10_set_160 rfl ?_
        refine g_iload_n hk 3 dX10_set_161 rfl ?_
        refine pfX10_32 hk dX10_set_162 ?_
        refine g_iload hk 0 dX10_set_165 rfl ?_
        exact g_iret (val := fun q => q.1) (mem := fun q => q.2) hc rfl dX10_set_167 h ret2
      · refine g_aload_n hk 1 dX10_set_152 rfl ?_
        refine g_iload_n hk 3 dX10_set_153 rfl ?_
        refine pfX10_29 hk dX10_set_154 ?_
        refine g_goto hk (tgt := 165) dX10_set_157 (by decide) ?_
        refine g_iload hk 0 dX10_set_165 rfl ?_
        exact g_iret (val := fun q => q.1) (mem := fun q => q.2) hc rfl dX10_set_167 h ret2
    · refine g_aload_n hk 1 dX10_set_139 rfl ?_
      refine g_iload_n hk 3 dX10_set_140 rfl ?_
      refine pfX10_26 hk dX10_set_141 ?_
      refine g_goto hk (tgt := 165) dX10_set_144 (by decide) ?_
      refine g_iload hk 0 dX10_set_165 rfl ?_
      exact g_iret (val := fun q => q.1) (mem := fun q => q.2) hc rfl dX10_set_167 h ret2
  · refine g_aload_n hk 1 dX10_set_126 rfl ?_
    refine g_iload_n hk 3 dX10_set_127 rfl ?_
    refine pfX10_22 hk dX10_set_128 ?_
    refine g_goto hk (tgt := 165) dX10_set_131 (by decide) ?_
    refine g_iload hk 0 dX10_set_165 rfl ?_
    exact g_iret (val := fun q => q.1) (mem := fun q => q.2) hc rfl dX10_set_167 h ret2
set_option maxHeartbeats 4000000 in
set_option maxRecDepth 100000 in
theorem gjX10_set_70 {x : Cx} {z : Lay} {r : Int32 × Mem} (hc : okm x z cX10_set RX10 5 2 (some .int) (some (.int r.1)) r.2)  (M : Mem) (v1 : Int32) (v2 : Int32) (s0 : Int32) (h : jX10_set_70  M v1 v2 s0 = some r) : G x z 5 70 [(0, .ref (z.2.1 51)), (1, .int v1), (2, .int v2)] [.int s0] M := by
  have hk := hc.1
  unfold jX10_set_70 at h
  refine g_istore_n hk [(3, .int s0), (0, .ref (z.2.1 51)), (1, .int v1), (2, .int v2)] dX10_set_70 rfl (by decide) rfl ?_
  refine g_iload_n hk 0 dX10_set_71 rfl ?_
  refine g_ifeq hk (tgt := 81) dX10_set_72 (by decide) h (fun h => ?_) (fun h => ?_)
  · refine g_iload_n hk 2 dX10_set_81 rfl ?_
    refine g_ifne hk (tgt := 92) dX10_set_82 (by decide) h (fun h => ?_) (fun h => ?_)
    · refine g_iload_n hk 2 dX10_set_92 rfl ?_
      refine g_iconst hk 1 dX10_set_93 (by decide) ?_
      refine g_icmpne hk (tgt := 104) dX10_set_94 (by decide) h (fun h => ?_) (fun h => ?_)
      · refine g_iload_n hk 2 dX10_set_104 rfl ?_
        refine g_iconst hk 2 dX10_set_105 (by decide) ?_
        refine g_icmpne hk (tgt := 116) dX10_set_106 (by decide) h (fun h => ?_) (fun h => ?_)
        · refine g_aload_n hk 1 dX10_set_116 rfl ?_
          refine gfX10_32 hk dX10_set_117 (M.1 51 16) rfl ?_
          exact g_weak [1, 2, 3] [(0, .ref (z.2.1 51)), (1, .int v1), (2, .int v2)] rfl (gjX10_set_120 hc  M v1 v2 (M.1 51 16) h)
        · refine g_aload_n hk 1 dX10_set_109 rfl ?_
          refine gfX10_29 hk dX10_set_110 (M.1 51 15) rfl ?_
          refine g_goto hk (tgt := 120) dX10_set_113 (by decide) ?_
          exact g_weak [1, 2, 3] [(0, .ref (z.2.1 51)), (1, .int v1), (2, .int v2)] rfl (gjX10_set_120 hc  M v1 v2 (M.1 51 15) h)
      · refine g_aload_n hk 1 dX10_set_97 rfl ?_
        refine gfX10_26 hk dX10_set_98 (M.1 51 14) rfl ?_
        refine g_goto hk (tgt := 120) dX10_set_101 (by decide) ?_
        exact g_weak [1, 2, 3] [(0, .ref (z.2.1 51)), (1, .int v1), (2, .int v2)] rfl (gjX10_set_120 hc  M v1 v2 (M.1 51 14) h)
    · refine g_aload_n hk 1 dX10_set_85 rfl ?_
      refine gfX10_22 hk dX10_set_86 (M.1 51 13) rfl ?_
      refine g_goto hk (tgt := 120) dX10_set_89 (by decide) ?_
      exact g_weak [1, 2, 3] [(0, .ref (z.2.1 51)), (1, .int v1), (2, .int v2)] rfl (gjX10_set_120 hc  M v1 v2 (M.1 51 13) h)
  · refine g_aload_n hk 1 dX10_set_75 rfl ?_
    refine g_iload_n hk 0 dX10_set_76 rfl ?_
    obtain ⟨r1, hr1, h⟩ := bnd h
    refine g_callVi hk [.int s0] _ sh51 rfl mtX10_refuseFar mlX10_164 (by decide) (by decide) rfl rfl (Nat.le_of_ble_eq_true rfl) dX10_set_77 (kX10_refuseFar _ z M s0 r1 hr1) ?_
    exact g_iret (val := fun q => q.1) (mem := fun q => q.2) hc rfl dX10_set_80 h ret2
set_option maxHeartbeats 4000000 in
set_option maxRecDepth 100000 in
theorem gjX10_set_67 {x : Cx} {z : Lay} {r : Int32 × Mem} (hc : okm x z cX10_set RX10 5 2 (some .int) (some (.int r.1)) r.2)  (M : Mem) (v1 : Int32) (v2 : Int32) (s0 : Int32) (s1 : Int32) (s2 : Int32) (h : jX10_set_67  M v1 v2 s0 s1 s2 = some r) : G x z 5 67 [(0, .ref (z.2.1 51)), (1, .int v1), (2, .int v2)] [.int s2, .int s1, .int s0] M := by
  have hk := hc.1
  unfold jX10_set_67 at h
  obtain ⟨r1, hr1, h⟩ := bnd h
  refine g_callSi hk [.int s0, .int s1, .int s2] _ mtX10_wrong mlX10_160 (by decide) (by decide) rfl rfl (Nat.le_of_ble_eq_true rfl) dX10_set_67 (kX10_wrong _ z M s0 s1 s2 r1 hr1) ?_
  exact g_weak [0, 1, 2] [(0, .ref (z.2.1 51)), (1, .int v1), (2, .int v2)] rfl (gjX10_set_70 hc  M v1 v2 r1 h)
set_option maxHeartbeats 4000000 in
set_option maxRecDepth 100000 in
theorem gjX10_set_35 {x : Cx} {z : Lay} {r : Int32 × Mem} (hc : okm x z cX10_set RX10 5 2 (some .int) (some (.int r.1)) r.2)  (M : Mem) (v1 : Int32) (v2 : Int32) (s0 : Int32) (s1 : Int32) (h : jX10_set_35  M v1 v2 s0 s1 = some r) : G x z 5 35 [(0, .ref (z.2.1 51)), (1, .int v1), (2, .int v2)] [.int s1, .int s0] M := by
  have hk := hc.1
  unfold jX10_set_35 at h
  refine g_iload_n hk 1 dX10_set_35 rfl ?_
  refine g_ifne hk (tgt := 44) dX10_set_36 (by decide) h (fun h => ?_) (fun h => ?_)
  · refine g_iload_n hk 1 dX10_set_44 rfl ?_
    refine g_iconst hk 1 dX10_set_45 (by decide) ?_
    refine g_icmpne hk (tgt := 54) dX10_set_46 (by decide) h (fun h => ?_) (fun h => ?_)
    · refine g_iload_n hk 1 dX10_set_54 rfl ?_
      refine g_iconst hk 2 dX10_set_55 (by decide) ?_
      refine g_icmpne hk (tgt := 65) dX10_set_56 (by decide) h (fun h => ?_) (fun h => ?_)
      · refine g_bipush hk 50 dX10_set_65 (by decide) ?_
        exact g_weak [0, 1, 2] [(0, .ref (z.2.1 51)), (1, .int v1), (2, .int v2)] rfl (gjX10_set_67 hc  M v1 v2 s0 s1 50 h)
      · refine g_sipush hk 200 dX10_set_59 (by decide) ?_
        refine g_goto hk (tgt := 67) dX10_set_62 (by decide) ?_
        exact g_weak [0, 1, 2] [(0, .ref (z.2.1 51)), (1, .int v1), (2, .int v2)] rfl (gjX10_set_67 hc  M v1 v2 s0 s1 200 h)
    · refine g_bipush hk 60 dX10_set_49 (by decide) ?_
      refine g_goto hk (tgt := 67) dX10_set_51 (by decide) ?_
      exact g_weak [0, 1, 2] [(0, .ref (z.2.1 51)), (1, .int v1), (2, .int v2)] rfl (gjX10_set_67 hc  M v1 v2 s0 s1 60 h)
  · refine g_bipush hk 99 dX10_set_39 (by decide) ?_
    refine g_goto hk (tgt := 67) dX10_set_41 (by decide) ?_
    exact g_weak [0, 1, 2] [(0, .ref (z.2.1 51)), (1, .int v1), (2, .int v2)] rfl (gjX10_set_67 hc  M v1 v2 s0 s1 99 h)
set_option maxHeartbeats 4000000 in
set_option maxRecDepth 100000 in
theorem kX10_set (l : Launch) (z : Lay) (M : Mem) (v1 : Int32) (v2 : Int32) (r : Int32 × Mem) (h : xX10_set M v1 v2 = some r) : Con l z yX10_set cX10_set 5 (some .int) 2 [.ref (z.2.1 51), .int v1, .int v2] M (some (.int r.1)) r.2 := by
  refine Con.of (by decide) (Nat.le_of_ble_eq_true rfl) ?_
  intro x hl hc
  subst hl
  have hk : okc x z cX10_set RX10 5 2 := hc.1
  show G x z 5 0 [(0, .ref (z.2.1 51)), (1, .int v1), (2, .int v2)] [] M
  unfold xX10_set at h
  refine g_iload_n hk 1 dX10_set_0 rfl ?_
  refine g_iconst hk 4 dX10_set_1 (by decide) ?_
  obtain ⟨r1, hr1, h⟩ := bnd h
  refine g_callSi hk [.int v1, .int 4] _ mtX10_isIn mlX10_153 (by decide) (by decide) rfl rfl (Nat.le_of_ble_eq_true rfl) dX10_set_2 (kX10_isIn _ z M v1 4 r1 hr1) ?_
  refine g_ifne hk (tgt := 13) dX10_set_5 (by decide) h (fun h => ?_) (fun h => ?_)
  · refine g_iload_n hk 2 dX10_set_13 rfl ?_
    refine g_iload_n hk 1 dX10_set_14 rfl ?_
    refine g_iconst hk 1 dX10_set_15 (by decide) ?_
    refine g_icmpne hk (tgt := 24) dX10_set_16 (by decide) h (fun h => ?_) (fun h => ?_)
    · refine g_iload_n hk 1 dX10_set_24 rfl ?_
      refine g_iconst hk 3 dX10_set_25 (by decide) ?_
      refine g_icmpne hk (tgt := 34) dX10_set_26 (by decide) h (fun h => ?_) (fun h => ?_)
      · refine g_iconst hk 0 dX10_set_34 (by decide) ?_
        exact g_weak [0, 1, 2] [(0, .ref (z.2.1 51)), (1, .int v1), (2, .int v2)] rfl (gjX10_set_35 hc  M v1 v2 v2 0 h)
      · refine g_bipush hk (-30) dX10_set_29 (by decide) ?_
        refine g_goto hk (tgt := 35) dX10_set_31 (by decide) ?_
        exact g_weak [0, 1, 2] [(0, .ref (z.2.1 51)), (1, .int v1), (2, .int v2)] rfl (gjX10_set_35 hc  M v1 v2 v2 (-30) h)
    · refine g_bipush hk 10 dX10_set_19 (by decide) ?_
      refine g_goto hk (tgt := 35) dX10_set_21 (by decide) ?_
      exact g_weak [0, 1, 2] [(0, .ref (z.2.1 51)), (1, .int v1), (2, .int v2)] rfl (gjX10_set_35 hc  M v1 v2 v2 10 h)
  · refine g_bipush hk (-2) dX10_set_8 (by decide) ?_
    refine g_goto hk (tgt := 70) dX10_set_10 (by decide) ?_
    exact g_weak [0, 1, 2] [(0, .ref (z.2.1 51)), (1, .int v1), (2, .int v2)] rfl (gjX10_set_70 hc  M v1 v2 (-2) h)
set_option maxHeartbeats 4000000 in
set_option maxRecDepth 100000 in
theorem kX10_grows (l : Launch) (z : Lay) (M : Mem) (v1 : Int32) (r : Int32) (h : xX10_grows M v1 = some r) : Con l z yX10_grows cX10_grows 3 (some .int) 2 [.ref (z.2.1 51), .int v1] M (some (.int r)) M := by
  refine Con.of (by decide) (Nat.le_of_ble_eq_true rfl) ?_
  intro x hl hc
  subst hl
  have hk : okc x z cX10_grows RX10 3 2 := hc.1
  show G x z 3 0 [(0, .ref (z.2.1 51)), (1, .int v1)] [] M
  unfold xX10_grows at h
  refine g_aload_n hk 0 dX10_grows_0 rfl ?_
  refine g_aload_n hk 0 dX10_grows_1 rfl ?_
  refine gfX10_157 hk dX10_grows_2 (M.1 51 4) rfl ?_
  refine g_iconst hk 0 dX10_grows_5 (by decide) ?_
  obtain ⟨r1, hr1, h⟩ := bnd h
  refine g_callVi hk [.int (M.1 51 4), .int 0] _ sh51 rfl mtX10_counts mlX10_173 (by decide) (by decide) rfl rfl (Nat.le_of_ble_eq_true rfl) dX10_grows_6 (kX10_counts _ z M (M.1 51 4) 0 r1 hr1) ?_
  refine g_aload_n hk 0 dX10_grows_9 rfl ?_
  refine gfX10_19 hk dX10_grows_10 ?_
  refine g_iload_n hk 1 dX10_grows_13 rfl ?_
  obtain ⟨hi1, h⟩ := ck_e h
  refine g_iald hk sh55 dX10_grows_14 hi1 (M.1 55 (ix v1)) rfl ?_
  refine g_imul hk dX10_grows_15 ?_
  refine g_istore_n hk [(2, .int (r1 * (M.1 55 (ix v1)))), (0, .ref (z.2.1 51)), (1, .int v1)] dX10_grows_16 rfl (by decide) rfl ?_
  refine g_iconst hk 1 dX10_grows_17 (by decide) ?_
  refine g_aload_n hk 1 dX10_grows_18 rfl ?_
  refine g_aload_n hk 1 dX10_grows_19 rfl ?_
  refine gfX10_157 hk dX10_grows_20 (M.1 51 4) rfl ?_
  refine g_iconst hk 1 dX10_grows_23 (by decide) ?_
  obtain ⟨r2, hr2, h⟩ := bnd h
  refine g_callVi hk [.int (M.1 51 4), .int 1] _ sh51 rfl mtX10_counts mlX10_173 (by decide) (by decide) rfl rfl (Nat.le_of_ble_eq_true rfl) dX10_grows_24 (kX10_counts _ z M (M.1 51 4) 1 r2 hr2) ?_
  refine g_bipush hk 15 dX10_grows_27 (by decide) ?_
  refine g_icmplt hk (tgt := 40) dX10_grows_29 (by decide) h (fun h => ?_) (fun h => ?_)
  · refine g_iload_n hk 0 dX10_grows_40 rfl ?_
    refine g_bipush hk 100 dX10_grows_41 (by decide) ?_
    refine g_idiv hk dX10_grows_43 (by decide) ?_
    refine g_iadd hk dX10_grows_44 ?_
    exact g_iret (val := fun q => q) (mem := fun _ => M) hc rfl dX10_grows_45 h ret1
  · refine g_iload_n hk 0 dX10_grows_32 rfl ?_
    refine g_iload_n hk 0 dX10_grows_33 rfl ?_
    refine g_iconst hk 2 dX10_grows_34 (by decide) ?_
    refine g_idiv hk dX10_grows_35 (by decide) ?_
    refine g_iadd hk dX10_grows_36 ?_
    refine g_goto hk (tgt := 41) dX10_grows_37 (by decide) ?_
    refine g_bipush hk 100 dX10_grows_41 (by decide) ?_
    refine g_idiv hk dX10_grows_43 (by decide) ?_
    refine g_iadd hk dX10_grows_44 ?_
    exact g_iret (val := fun q => q) (mem := fun _ => M) hc rfl dX10_grows_45 h ret1
set_option maxHeartbeats 4000000 in
set_option maxRecDepth 100000 in
theorem glX10_days_83 {x : Cx} {z : Lay} {r : Int32 × Mem} (hc : okm x z cX10_days RX10 5 3 (some .int) (some (.int r.1)) r.2) (f26 : Mem → Int32 → Int32 → Option (Int32 × Mem)) (hf26 : ∀ (M : Mem) (v1 : Int32) (v3 : Int32), f26 M v1 v3 = some r → G x z 5 26 [(0, .ref (z.2.1 51)), (1, .int v1), (3, .int v3)] [] M) : ∀ (n : Nat) (M : Mem) (v1 : Int32) (v3 : Int32) (v4 : Int32), lX10_days_83 f26 n M v1 v3 v4 = some r → G x z 5 83 [(0, .ref (z.2.1 51)), (1, .int v1), (3, .int v3), (4, .int v4)] [] M := by
  have hk := hc.1
  intro n
  induction n with
  | zero => intro _ _ _ _ h; rw [lX10_days_83] at h; cases h
  | succ n ih =>
    intro M v1 v3 v4 h
    rw [lX10_days_83] at h
    refine g_iload hk 3 dX10_days_83 rfl ?_
    refine g_bipush hk 20 dX10_days_85 (by decide) ?_
    refine g_icmpge hk (tgt := 117) dX10_days_87 (by decide) h (fun h => ?_) (fun h => ?_)
    · refine g_aload_n hk 0 dX10_days_117 rfl ?_
      refine g_dup hk dX10_days_118 rfl ?_
      refine gfX10_157 hk dX10_days_119 (M.1 51 4) rfl ?_
      refine g_iconst hk 1 dX10_days_122 (by decide) ?_
      refine g_iadd hk dX10_days_123 ?_
      refine pfX10_157 hk dX10_days_124 ?_
      refine g_iinc (k := 2) hk [(3, .int (v3 + 1)), (0, .ref (z.2.1 51)), (1, .int v1), (4, .int v4)] dX10_days_127 rfl rfl (by decide) rfl ?_
      refine g_goto hk (tgt := 26) dX10_days_130 (by decide) ?_
      exact g_weak [1, 2, 0] [(0, .ref (z.2.1 51)), (1, .int v1), (3, .int (v3 + 1))] rfl (hf26 (upI M 51 4 ((M.1 51 4) + 1)) v1 (v3 + 1) h)
    · refine g_aload_n hk 0 dX10_days_90 rfl ?_
      refine g_dup hk dX10_days_91 rfl ?_
      refine gfX10_218 hk dX10_days_92 (M.1 51 9) rfl ?_
      refine g_aload_n hk 0 dX10_days_95 rfl ?_
      refine gfX10_84 hk dX10_days_96 ?_
      refine g_iload hk 3 dX10_days_99 rfl ?_
      obtain ⟨hi1, h⟩ := ck_e h
      refine g_iald hk sh72 dX10_days_101 hi1 (M.1 72 (ix v4)) rfl ?_
      refine g_aload_n hk 0 dX10_days_102 rfl ?_
      refine gfX10_22 hk dX10_days_103 (M.1 51 13) rfl ?_
      refine g_imul hk dX10_days_106 ?_
      refine g_iadd hk dX10_days_107 ?_
      refine pfX10_218 hk dX10_days_108 ?_
      refine g_iinc (k := 3) hk [(4, .int (v4 + 1)), (0, .ref (z.2.1 51)), (1, .int v1), (3, .int v3)] dX10_days_111 rfl rfl (by decide) rfl ?_
      refine g_goto hk (tgt := 83) dX10_days_114 (by decide) ?_
      exact g_weak [1, 2, 3, 0] [(0, .ref (z.2.1 51)), (1, .int v1), (3, .int v3), (4, .int (v4 + 1))] rfl (ih (upI M 51 9 ((M.1 51 9) + ((M.1 72 (ix v4)) * (M.1 51 13)))) v1 v3 (v4 + 1) h)
set_option maxHeartbeats 4000000 in
set_option maxRecDepth 100000 in
theorem glX10_days_34 {x : Cx} {z : Lay} {r : Int32 × Mem} (hc : okm x z cX10_days RX10 5 3 (some .int) (some (.int r.1)) r.2) (f26 : Mem → Int32 → Int32 → Option (Int32 × Mem)) (hf26 : ∀ (M : Mem) (v1 : Int32) (v3 : Int32), f26 M v1 v3 = some r → G x z 5 26 [(0, .ref (z.2.1 51)), (1, .int v1), (3, .int v3)] [] M) : ∀ (n : Nat) (M : Mem) (v1 : Int32) (v3 : Int32) (v4 : Int32), lX10_days_34 f26 n M v1 v3 v4 = some r → G x z 5 34 [(0, .ref (z.2.1 51)), (1, .int v1), (3, .int v3), (4, .int v4)] [] M := by
  have hk := hc.1
  intro n
  induction n with
  | zero => intro _ _ _ _ h; rw [lX10_days_34] at h; cases h
  | succ n ih =>
    intro M v1 v3 v4 h
    rw [lX10_days_34] at h
    refine g_iload hk 3 dX10_days_34 rfl ?_
    refine g_aload_n hk 0 dX10_days_36 rfl ?_
    refine gfX10_176 hk dX10_days_37 (M.1 51 5) rfl ?_
    refine g_icmpge hk (tgt := 80) dX10_days_40 (by decide) h (fun h => ?_) (fun h => ?_)
    · refine g_iconst hk 0 dX10_days_80 (by decide) ?_
      refine g_istore hk [(4, .int 0), (0, .ref (z.2.1 51)), (1, .int v1), (3, .int v3)] dX10_days_81 (by decide) rfl ?_
      exact g_weak [1, 2, 3, 0] [(0, .ref (z.2.1 51)), (1, .int v1), (3, .int v3), (4, .int 0)] rfl (glX10_days_83 hc f26 hf26 fu M v1 v3 0 h)
    · refine g_aload_n hk 0 dX10_days_43 rfl ?_
      refine gfX10_56 hk dX10_days_44 ?_
      refine g_iload hk 3 dX10_days_47 rfl ?_
      obtain ⟨hi1, h⟩ := ck_e h
      refine g_zald hk sh63 dX10_days_49 hi1 (M.1 63 (ix v4)) rfl ?_
      refine g_ifeq hk (tgt := 74) dX10_days_50 (by decide) h (fun h => ?_) (fun h => ?_)
      · refine g_iinc (k := 3) hk [(4, .int (v4 + 1)), (0, .ref (z.2.1 51)), (1, .int v1), (3, .int v3)] dX10_days_74 rfl rfl (by decide) rfl ?_
        refine g_goto hk (tgt := 34) dX10_days_77 (by decide) ?_
        exact g_weak [1, 2, 3, 0] [(0, .ref (z.2.1 51)), (1, .int v1), (3, .int v3), (4, .int (v4 + 1))] rfl (ih M v1 v3 (v4 + 1) h)
      · refine g_aload_n hk 0 dX10_days_53 rfl ?_
        refine gfX10_53 hk dX10_days_54 ?_
        refine g_iload hk 3 dX10_days_57 rfl ?_
        refine g_dup2 hk dX10_days_59 rfl rfl ?_
        refine g_iald hk sh62 dX10_days_60 hi1 (M.1 62 (ix v4)) rfl ?_
        refine g_aload_n hk 0 dX10_days_61 rfl ?_
        refine g_aload_n hk 0 dX10_days_62 rfl ?_
        refine gfX10_44 hk dX10_days_63 ?_
        refine g_iload hk 3 dX10_days_66 rfl ?_
        refine g_iald hk sh59 dX10_days_68 hi1 (M.1 59 (ix v4)) rfl ?_
        obtain ⟨r1, hr1, h⟩ := bnd h
        refine g_callVi hk [.int (M.1 59 (ix v4))] _ sh51 rfl mtX10_grows mlX10_221 (by decide) (by decide) rfl rfl (Nat.le_of_ble_eq_true rfl) dX10_days_69 (kX10_grows _ z M (M.1 59 (ix v4)) r1 hr1) ?_
        refine g_iadd hk dX10_days_72 ?_
        refine g_iast hk sh62 dX10_days_73 hi1 ?_
        refine g_iinc (k := 3) hk [(4, .int (v4 + 1)), (0, .ref (z.2.1 51)), (1, .int v1), (3, .int v3)] dX10_days_74 rfl rfl (by decide) rfl ?_
        refine g_goto hk (tgt := 34) dX10_days_77 (by decide) ?_
        exact g_weak [1, 2, 3, 0] [(0, .ref (z.2.1 51)), (1, .int v1), (3, .int v3), (4, .int (v4 + 1))] rfl (ih (upI M 62 (ix v4) ((M.1 62 (ix v4)) + r1)) v1 v3 (v4 + 1) h)
set_option maxHeartbeats 4000000 in
set_option maxRecDepth 100000 in
theorem glX10_days_26 {x : Cx} {z : Lay} {r : Int32 × Mem} (hc : okm x z cX10_days RX10 5 3 (some .int) (some (.int r.1)) r.2)  : ∀ (n : Nat) (M : Mem) (v1 : Int32) (v3 : Int32), lX10_days_26  n M v1 v3 = some r → G x z 5 26 [(0, .ref (z.2.1 51)), (1, .int v1), (3, .int v3)] [] M := by
  have hk := hc.1
  intro n
  induction n with
  | zero => intro _ _ _ h; rw [lX10_days_26] at h; cases h
  | succ n ih =>
    intro M v1 v3 h
    rw [lX10_days_26] at h
    refine g_iload_n hk 2 dX10_days_26 rfl ?_
    refine g_iload_n hk 1 dX10_days_27 rfl ?_
    refine g_icmpge hk (tgt := 133) dX10_days_28 (by decide) h (fun h => ?_) (fun h => ?_)
    · refine g_aload_n hk 0 dX10_days_133 rfl ?_
      refine gfX10_157 hk dX10_days_134 (M.1 51 4) rfl ?_
      exact g_iret (val := fun q => q.1) (mem := fun q => q.2) hc rfl dX10_days_137 h ret2
    · refine g_iconst hk 0 dX10_days_31 (by decide) ?_
      refine g_istore hk [(4, .int 0), (0, .ref (z.2.1 51)), (1, .int v1), (3, .int v3)] dX10_days_32 (by decide) rfl ?_
      exact g_weak [1, 2, 3, 0] [(0, .ref (z.2.1 51)), (1, .int v1), (3, .int v3), (4, .int 0)] rfl (glX10_days_34 hc (lX10_days_26  n) ih fu M v1 v3 0 h)
set_option maxHeartbeats 4000000 in
set_option maxRecDepth 100000 in
theorem kX10_days (l : Launch) (z : Lay) (M : Mem) (v1 : Int32) (r : Int32 × Mem) (h : xX10_days M v1 = some r) : Con l z yX10_days cX10_days 5 (some .int) 3 [.ref (z.2.1 51), .int v1] M (some (.int r.1)) r.2 := by
  refine Con.of (by decide) (Nat.le_of_ble_eq_true rfl) ?_
  intro x hl hc
  subst hl
  have hk : okc x z cX10_days RX10 5 3 := hc.1
  show G x z 5 0 [(0, .ref (z.2.1 51)), (1, .int v1)] [] M
  unfold xX10_days at h
  refine g_iload_n hk 1 dX10_days_0 rfl ?_
  refine g_iconst hk 1 dX10_days_1 (by decide) ?_
  refine g_sipush hk 1000 dX10_days_2 (by decide) ?_
  refine g_aload_n hk 0 dX10_days_5 rfl ?_
  refine gfX10_157 hk dX10_days_6 (M.1 51 4) rfl ?_
  refine g_isub hk dX10_days_9 ?_
  obtain ⟨r1, hr1, h⟩ := bnd h
  refine g_callSi hk [.int v1, .int 1, .int (1000 - (M.1 51 4))] _ mtX10_wrong mlX10_160 (by decide) (by decide) rfl rfl (Nat.le_of_ble_eq_true rfl) dX10_days_10 (kX10_wrong _ z M v1 1 (1000 - (M.1 51 4)) r1 hr1) ?_
  refine g_istore_n hk [(2, .int r1), (0, .ref (z.2.1 51)), (1, .int v1)] dX10_days_13 rfl (by decide) rfl ?_
  refine g_iload_n hk 0 dX10_days_14 rfl ?_
  refine g_ifeq hk (tgt := 24) dX10_days_15 (by decide) h (fun h => ?_) (fun h => ?_)
  · refine g_iconst hk 0 dX10_days_24 (by decide) ?_
    refine g_istore_n hk [(3, .int 0), (2, .int r1), (0, .ref (z.2.1 51)), (1, .int v1)] dX10_days_25 rfl (by decide) rfl ?_
    exact g_weak [2, 3, 0] [(0, .ref (z.2.1 51)), (1, .int v1), (3, .int 0)] rfl (glX10_days_26 hc  fu M v1 0 h)
  · refine g_aload_n hk 1 dX10_days_18 rfl ?_
    refine g_iload_n hk 0 dX10_days_19 rfl ?_
    obtain ⟨r2, hr2, h⟩ := bnd h
    refine g_callVi hk [.int r1] _ sh51 rfl mtX10_refuse mlX10_149 (by decide) (by decide) rfl rfl (Nat.le_of_ble_eq_true rfl) dX10_days_20 (kX10_refuse _ z M r1 r2 hr2) ?_
    exact g_iret (val := fun q => q.1) (mem := fun q => q.2) hc rfl dX10_days_23 h ret2
set_option maxHeartbeats 4000000 in
set_option maxRecDepth 100000 in
theorem kX10_train (l : Launch) (z : Lay) (M : Mem) (v1 : Int32) (v2 : Int32) (r : Int32 × Mem) (h : xX10_train M v1 v2 = some r) : Con l z yX10_train cX10_train 3 (some .int) 1 [.ref (z.2.1 51), .int v1, .int v2] M (some (.int r.1)) r.2 := by
  refine Con.of (by decide) (Nat.le_of_ble_eq_true rfl) ?_
  intro x hl hc
  subst hl
  have hk : okc x z cX10_train RX10 3 1 := hc.1
  show G x z 3 0 [(0, .ref (z.2.1 51)), (1, .int v1), (2, .int v2)] [] M
  unfold xX10_train at h
  refine g_iload_n hk 1 dX10_train_0 rfl ?_
  refine g_iflt hk (tgt := 9) dX10_train_1 (by decide) h (fun h => ?_) (fun h => ?_)
  · refine g_aload_n hk 0 dX10_train_9 rfl ?_
    refine g_bipush hk (-4) dX10_train_10 (by decide) ?_
    obtain ⟨r1, hr1, h⟩ := bnd h
    refine g_callVi hk [.int (-4)] _ sh51 rfl mtX10_refuse mlX10_149 (by decide) (by decide) rfl rfl (Nat.le_of_ble_eq_true rfl) dX10_train_12 (kX10_refuse _ z M (-4) r1 hr1) ?_
    exact g_iret (val := fun q => q.1) (mem := fun q => q.2) hc rfl dX10_train_15 h ret2
  · refine g_iload_n hk 2 dX10_train_4 rfl ?_
    refine g_iconst hk 1 dX10_train_5 (by decide) ?_
    refine g_icmpge hk (tgt := 16) dX10_train_6 (by decide) h (fun h => ?_) (fun h => ?_)
    · refine g_iload_n hk 1 dX10_train_16 rfl ?_
      refine g_sipush hk 1440 dX10_train_17 (by decide) ?_
      refine g_icmpge hk (tgt := 38) dX10_train_20 (by decide) h (fun h => ?_) (fun h => ?_)
      · refine g_aload_n hk 0 dX10_train_38 rfl ?_
        refine g_bipush hk (-6) dX10_train_39 (by decide) ?_
        obtain ⟨r2, hr2, h⟩ := bnd h
        refine g_callVi hk [.int (-6)] _ sh51 rfl mtX10_refuse mlX10_149 (by decide) (by decide) rfl rfl (Nat.le_of_ble_eq_true rfl) dX10_train_41 (kX10_refuse _ z M (-6) r2 hr2) ?_
        exact g_iret (val := fun q => q.1) (mem := fun q => q.2) hc rfl dX10_train_44 h ret2
      · refine g_iload_n hk 2 dX10_train_23 rfl ?_
        refine g_bipush hk 9 dX10_train_24 (by decide) ?_
        refine g_icmpgt hk (tgt := 38) dX10_train_26 (by decide) h (fun h => ?_) (fun h => ?_)
        · refine g_aload_n hk 0 dX10_train_38 rfl ?_
          refine g_bipush hk (-6) dX10_train_39 (by decide) ?_
          obtain ⟨r3, hr3, h⟩ := bnd h
          refine g_callVi hk [.int (-6)] _ sh51 rfl mtX10_refuse mlX10_149 (by decide) (by decide) rfl rfl (Nat.le_of_ble_eq_true rfl) dX10_train_41 (kX10_refuse _ z M (-6) r3 hr3) ?_
          exact g_iret (val := fun q => q.1) (mem := fun q => q.2) hc rfl dX10_train_44 h ret2
        · refine g_aload_n hk 0 dX10_train_29 rfl ?_
          refine gfX10_224 hk dX10_train_30 (M.1 51 10) rfl ?_
          refine g_bipush hk 24 dX10_train_33 (by decide) ?_
          refine g_icmpne hk (tgt := 45) dX10_train_35 (by decide) h (fun h => ?_) (fun h => ?_)
          · refine g_aload_n hk 0 dX10_train_45 rfl ?_
            refine gfX10_105 hk dX10_train_46 ?_
            refine g_aload_n hk 0 dX10_train_49 rfl ?_
            refine gfX10_224 hk dX10_train_50 (M.1 51 10) rfl ?_
            refine g_iload_n hk 1 dX10_train_53 rfl ?_
            obtain ⟨hi1, h⟩ := ck_e h
            refine g_iast hk sh79 dX10_train_54 hi1 ?_
            refine g_aload_n hk 0 dX10_train_55 rfl ?_
            refine gfX10_108 hk dX10_train_56 ?_
            refine g_aload_n hk 0 dX10_train_59 rfl ?_
            refine gfX10_224 hk dX10_train_60 (M.1 51 10) rfl ?_
            refine g_iload_n hk 2 dX10_train_63 rfl ?_
            refine g_iast hk sh80 dX10_train_64 hi1 ?_
            refine g_aload_n hk 0 dX10_train_65 rfl ?_
            refine g_dup hk dX10_train_66 rfl ?_
            refine gfX10_224 hk dX10_train_67 (M.1 51 10) rfl ?_
            refine g_iconst hk 1 dX10_train_70 (by decide) ?_
            refine g_iadd hk dX10_train_71 ?_
            refine pfX10_224 hk dX10_train_72 ?_
            refine g_aload_n hk 0 dX10_train_75 rfl ?_
            refine gfX10_224 hk dX10_train_76 ((M.1 51 10) + 1) rfl ?_
            refine g_iconst hk 1 dX10_train_79 (by decide) ?_
            refine g_isub hk dX10_train_80 ?_
            exact g_iret (val := fun q => q.1) (mem := fun q => q.2) hc rfl dX10_train_81 h ret2
          · refine g_aload_n hk 0 dX10_train_38 rfl ?_
            refine g_bipush hk (-6) dX10_train_39 (by decide) ?_
            obtain ⟨r4, hr4, h⟩ := bnd h
            refine g_callVi hk [.int (-6)] _ sh51 rfl mtX10_refuse mlX10_149 (by decide) (by decide) rfl rfl (Nat.le_of_ble_eq_true rfl) dX10_train_41 (kX10_refuse _ z M (-6) r4 hr4) ?_
            exact g_iret (val := fun q => q.1) (mem := fun q => q.2) hc rfl dX10_train_44 h ret2
    · refine g_aload_n hk 0 dX10_train_9 rfl ?_
      refine g_bipush hk (-4) dX10_train_10 (by decide) ?_
      obtain ⟨r5, hr5, h⟩ := bnd h
      refine g_callVi hk [.int (-4)] _ sh51 rfl mtX10_refuse mlX10_149 (by decide) (by decide) rfl rfl (Nat.le_of_ble_eq_true rfl) dX10_train_12 (kX10_refuse _ z M (-4) r5 hr5) ?_
      exact g_iret (val := fun q => q.1) (mem := fun q => q.2) hc rfl dX10_train_15 h ret2
set_option maxHeartbeats 4000000 in
set_option maxRecDepth 100000 in
theorem glX10_isSafe_25 {x : Cx} {z : Lay} {r : Int32} {M : Mem} (hc : okm x z cX10_isSafe RX10 8 0 (some .boolean) (some (.int r)) M) (f3 : Mem → Int32 → Int32 → Int32 → Int32 → Option (Int32)) (hf3 : ∀ (v1 : Int32) (v2 : Int32) (v3 : Int32) (v4 : Int32), f3 M v1 v2 v3 v4 = some r → G x z 8 3 [(0, .ref (z.2.1 51)), (1, .int v1), (2, .int v2), (3, .int v3), (4, .int v4)] [] M) : ∀ (n : Nat) (v1 : Int32) (v2 : Int32) (v3 : Int32) (v4 : Int32) (v5 : Int32) (v6 : Int32), lX10_isSafe_25 f3 n M v1 v2 v3 v4 v5 v6 = some r → G x z 8 25 [(0, .ref (z.2.1 51)), (1, .int v1), (2, .int v2), (3, .int v3), (4, .int v4), (5, .int v5), (6, .int v6)] [] M := by
  have hk := hc.1
  intro n
  induction n with
  | zero => intro _ _ _ _ _ _ h; rw [lX10_isSafe_25] at h; cases h
  | succ n ih =>
    intro v1 v2 v3 v4 v5 v6 h
    rw [lX10_isSafe_25] at h
    refine g_iload hk 6 dX10_isSafe_25 rfl ?_
    refine g_aload_n hk 0 dX10_isSafe_27 rfl ?_
    refine gfX10_224 hk dX10_isSafe_28 (M.1 51 10) rfl ?_
    refine g_icmpge hk (tgt := 85) dX10_isSafe_31 (by decide) h (fun h => ?_) (fun h => ?_)
    · refine g_iinc (k := 4) hk [(4, .int (v4 + 1)), (0, .ref (z.2.1 51)), (1, .int v1), (2, .int v2), (3, .int v3), (5, .int v5), (6, .int v6)] dX10_isSafe_85 rfl rfl (by decide) rfl ?_
      refine g_goto hk (tgt := 3) dX10_isSafe_88 (by decide) ?_
      exact g_weak [1, 2, 3, 4, 0] [(0, .ref (z.2.1 51)), (1, .int v1), (2, .int v2), (3, .int v3), (4, .int (v4 + 1))] rfl (hf3 v1 v2 v3 (v4 + 1) h)
    · refine g_aload_n hk 0 dX10_isSafe_34 rfl ?_
      refine gfX10_105 hk dX10_isSafe_35 ?_
      refine g_iload hk 6 dX10_isSafe_38 rfl ?_
      obtain ⟨hi1, h⟩ := ck_e h
      refine g_iald hk sh79 dX10_isSafe_40 hi1 (M.1 79 (ix v6)) rfl ?_
      refine g_aload_n hk 0 dX10_isSafe_41 rfl ?_
      refine gfX10_108 hk dX10_isSafe_42 ?_
      refine g_iload hk 6 dX10_isSafe_45 rfl ?_
      refine g_iald hk sh80 dX10_isSafe_47 hi1 (M.1 80 (ix v6)) rfl ?_
      refine g_iload hk 4 dX10_isSafe_48 rfl ?_
      refine g_imul hk dX10_isSafe_50 ?_
      refine g_iadd hk dX10_isSafe_51 ?_
      refine g_istore hk [(7, .int ((M.1 79 (ix v6)) + ((M.1 80 (ix v6)) * v4))), (0, .ref (z.2.1 51)), (1, .int v1), (2, .int v2), (3, .int v3), (4, .int v4), (5, .int v5), (6, .int v6)] dX10_isSafe_52 (by decide) rfl ?_
      refine g_iload hk 0 dX10_isSafe_54 rfl ?_
      refine g_iload hk 6 dX10_isSafe_56 rfl ?_
      refine g_iconst hk 5 dX10_isSafe_58 (by decide) ?_
      refine g_isub hk dX10_isSafe_59 ?_
      refine g_icmplt hk (tgt := 79) dX10_isSafe_60 (by decide) h (fun h => ?_) (fun h => ?_)
      · refine g_iinc (k := 7) hk [(6, .int (v6 + 1)), (7, .int ((M.1 79 (ix v6)) + ((M.1 80 (ix v6)) * v4))), (0, .ref (z.2.1 51)), (1, .int v1), (2, .int v2), (3, .int v3), (4, .int v4), (5, .int v5)] dX10_isSafe_79 rfl rfl (by decide) rfl ?_
        refine g_goto hk (tgt := 25) dX10_isSafe_82 (by decide) ?_
        exact g_weak [2, 3, 4, 5, 6, 7, 0] [(0, .ref (z.2.1 51)), (1, .int v1), (2, .int v2), (3, .int v3), (4, .int v4), (5, .int v5), (6, .int (v6 + 1))] rfl (ih v1 v2 v3 v4 v5 (v6 + 1) h)
      · refine g_iload hk 0 dX10_isSafe_63 rfl ?_
        refine g_iload hk 6 dX10_isSafe_65 rfl ?_
        refine g_aload_n hk 1 dX10_isSafe_67 rfl ?_
        refine gfX10_26 hk dX10_isSafe_68 (M.1 51 14) rfl ?_
        refine g_iadd hk dX10_isSafe_71 ?_
        refine g_iconst hk 4 dX10_isSafe_72 (by decide) ?_
        refine g_iadd hk dX10_isSafe_73 ?_
        refine g_icmpgt hk (tgt := 79) dX10_isSafe_74 (by decide) h (fun h => ?_) (fun h => ?_)
        · refine g_iinc (k := 7) hk [(6, .int (v6 + 1)), (7, .int ((M.1 79 (ix v6)) + ((M.1 80 (ix v6)) * v4))), (0, .ref (z.2.1 51)), (1, .int v1), (2, .int v2), (3, .int v3), (4, .int v4), (5, .int v5)] dX10_isSafe_79 rfl rfl (by decide) rfl ?_
          refine g_goto hk (tgt := 25) dX10_isSafe_82 (by decide) ?_
          exact g_weak [2, 3, 4, 5, 6, 7, 0] [(0, .ref (z.2.1 51)), (1, .int v1), (2, .int v2), (3, .int v3), (4, .int v4), (5, .int v5), (6, .int (v6 + 1))] rfl (ih v1 v2 v3 v4 v5 (v6 + 1) h)
        · refine g_iconst hk 0 dX10_isSafe_77 (by decide) ?_
          exact g_zret (val := fun q => q) (mem := fun _ => M) hc rfl dX10_isSafe_78 h ret1 (by decide)
set_option maxHeartbeats 4000000 in
set_option maxRecDepth 100000 in
theorem glX10_isSafe_3 {x : Cx} {z : Lay} {r : Int32} {M : Mem} (hc : okm x z cX10_isSafe RX10 8 0 (some .boolean) (some (.int r)) M)  : ∀ (n : Nat) (v1 : Int32) (v2 : Int32) (v3 : Int32) (v4 : Int32), lX10_isSafe_3  n M v1 v2 v3 v4 = some r → G x z 8 3 [(0, .ref (z.2.1 51)), (1, .int v1), (2, .int v2), (3, .int v3), (4, .int v4)] [] M := by
  have hk := hc.1
  intro n
  induction n with
  | zero => intro _ _ _ _ h; rw [lX10_isSafe_3] at h; cases h
  | succ n ih =>
    intro v1 v2 v3 v4 h
    rw [lX10_isSafe_3] at h
    refine g_iload hk 4 dX10_isSafe_3 rfl ?_
    refine g_iload_n hk 2 dX10_isSafe_5 rfl ?_
    refine g_icmpgt hk (tgt := 91) dX10_isSafe_6 (by decide) h (fun h => ?_) (fun h => ?_)
    · refine g_iconst hk 1 dX10_isSafe_91 (by decide) ?_
      exact g_zret (val := fun q => q) (mem := fun _ => M) hc rfl dX10_isSafe_92 h ret1 (by decide)
    · refine g_iload_n hk 3 dX10_isSafe_9 rfl ?_
      refine g_iload hk 4 dX10_isSafe_10 rfl ?_
      refine g_iload_n hk 1 dX10_isSafe_12 rfl ?_
      refine g_isub hk dX10_isSafe_13 ?_
      refine g_aload_n hk 0 dX10_isSafe_14 rfl ?_
      refine gfX10_26 hk dX10_isSafe_15 (M.1 51 14) rfl ?_
      refine g_imul hk dX10_isSafe_18 ?_
      refine g_iadd hk dX10_isSafe_19 ?_
      refine g_istore hk [(5, .int (v3 + ((v4 - v1) * (M.1 51 14)))), (0, .ref (z.2.1 51)), (1, .int v1), (2, .int v2), (3, .int v3), (4, .int v4)] dX10_isSafe_20 (by decide) rfl ?_
      refine g_iconst hk 0 dX10_isSafe_22 (by decide) ?_
      refine g_istore hk [(6, .int 0), (5, .int (v3 + ((v4 - v1) * (M.1 51 14)))), (0, .ref (z.2.1 51)), (1, .int v1), (2, .int v2), (3, .int v3), (4, .int v4)] dX10_isSafe_23 (by decide) rfl ?_
      exact g_weak [2, 3, 4, 5, 6, 1, 0] [(0, .ref (z.2.1 51)), (1, .int v1), (2, .int v2), (3, .int v3), (4, .int v4), (5, .int (v3 + ((v4 - v1) * (M.1 51 14)))), (6, .int 0)] rfl (glX10_isSafe_25 hc (lX10_isSafe_3  n) ih fu v1 v2 v3 v4 (v3 + ((v4 - v1) * (M.1 51 14))) 0 h)
set_option maxHeartbeats 4000000 in
set_option maxRecDepth 100000 in
theorem kX10_isSafe (l : Launch) (z : Lay) (M : Mem) (v1 : Int32) (v2 : Int32) (v3 : Int32) (r : Int32) (h : xX10_isSafe M v1 v2 v3 = some r) : Con l z yX10_isSafe cX10_isSafe 8 (some .boolean) 0 [.ref (z.2.1 51), .int v1, .int v2, .int v3] M (some (.int r)) M := by
  refine Con.of (by decide) (Nat.le_of_ble_eq_true rfl) ?_
  intro x hl hc
  subst hl
  have hk : okc x z cX10_isSafe RX10 8 0 := hc.1
  show G x z 8 0 [(0, .ref (z.2.1 51)), (1, .int v1), (2, .int v2), (3, .int v3)] [] M
  unfold xX10_isSafe at h
  refine g_iload_n hk 1 dX10_isSafe_0 rfl ?_
  refine g_istore hk [(4, .int v1), (0, .ref (z.2.1 51)), (1, .int v1), (2, .int v2), (3, .int v3)] dX10_isSafe_1 (by decide) rfl ?_
  exact g_weak [1, 2, 3, 4, 0] [(0, .ref (z.2.1 51)), (1, .int v1), (2, .int v2), (3, .int v3), (4, .int v1)] rfl (glX10_isSafe_3 hc  fu v1 v2 v3 v1 h)
set_option maxHeartbeats 4000000 in
set_option maxRecDepth 100000 in
theorem kX10_wrongWalk (l : Launch) (z : Lay) (M : Mem) (v0 : Int32) (v1 : Int32) (v2 : Int32) (r : Int32) (h : xX10_wrongWalk v0 v1 v2 = some r) : Con l z yX10_wrongWalk cX10_wrongWalk 3 (some .int) 2 [.int v0, .int v1, .int v2] M (some (.int r)) M := by
  refine Con.of (by decide) (Nat.le_of_ble_eq_true rfl) ?_
  intro x hl hc
  subst hl
  have hk : okc x z cX10_wrongWalk RX10 3 2 := hc.1
  show G x z 3 0 [(0, .int v0), (1, .int v1), (2, .int v2)] [] M
  unfold xX10_wrongWalk at h
  refine g_iload_n hk 0 dX10_wrongWalk_0 rfl ?_
  obtain ⟨r1, hr1, h⟩ := bnd h
  refine g_callSi hk [.int v0] _ mtX10_isMile mlX10_179 (by decide) (by decide) rfl rfl (Nat.le_of_ble_eq_true rfl) dX10_wrongWalk_1 (kX10_isMile _ z M v0 r1 hr1) ?_
  refine g_ifeq hk (tgt := 19) dX10_wrongWalk_4 (by decide) h (fun h => ?_) (fun h => ?_)
  · refine g_iconst hk (-1) dX10_wrongWalk_19 (by decide) ?_
    refine g_goto hk (tgt := 31) dX10_wrongWalk_20 (by decide) ?_
    exact g_iret (val := fun q => q) (mem := fun _ => M) hc rfl dX10_wrongWalk_31 h ret1
  · refine g_iload_n hk 1 dX10_wrongWalk_7 rfl ?_
    obtain ⟨r2, hr2, h⟩ := bnd h
    refine g_callSi hk [.int v1] _ mtX10_isMile mlX10_179 (by decide) (by decide) rfl rfl (Nat.le_of_ble_eq_true rfl) dX10_wrongWalk_8 (kX10_isMile _ z M v1 r2 hr2) ?_
    refine g_ifeq hk (tgt := 19) dX10_wrongWalk_11 (by decide) h (fun h => ?_) (fun h => ?_)
    · refine g_iconst hk (-1) dX10_wrongWalk_19 (by decide) ?_
      refine g_goto hk (tgt := 31) dX10_wrongWalk_20 (by decide) ?_
      exact g_iret (val := fun q => q) (mem := fun _ => M) hc rfl dX10_wrongWalk_31 h ret1
    · refine g_iload_n hk 0 dX10_wrongWalk_14 rfl ?_
      refine g_iload_n hk 1 dX10_wrongWalk_15 rfl ?_
      refine g_icmple hk (tgt := 23) dX10_wrongWalk_16 (by decide) h (fun h => ?_) (fun h => ?_)
      · refine g_iload_n hk 2 dX10_wrongWalk_23 rfl ?_
        refine g_iconst hk 0 dX10_wrongWalk_24 (by decide) ?_
        refine g_sipush hk 1439 dX10_wrongWalk_25 (by decide) ?_
        obtain ⟨r3, hr3, h⟩ := bnd h
        refine g_callSi hk [.int v2, .int 0, .int 1439] _ mtX10_wrong mlX10_160 (by decide) (by decide) rfl rfl (Nat.le_of_ble_eq_true rfl) dX10_wrongWalk_28 (kX10_wrong _ z M v2 0 1439 r3 hr3) ?_
        exact g_iret (val := fun q => q) (mem := fun _ => M) hc rfl dX10_wrongWalk_31 h ret1
      · refine g_iconst hk (-1) dX10_wrongWalk_19 (by decide) ?_
        refine g_goto hk (tgt := 31) dX10_wrongWalk_20 (by decide) ?_
        exact g_iret (val := fun q => q) (mem := fun _ => M) hc rfl dX10_wrongWalk_31 h ret1
set_option maxHeartbeats 4000000 in
set_option maxRecDepth 100000 in
theorem kX10_safe (l : Launch) (z : Lay) (M : Mem) (v1 : Int32) (v2 : Int32) (v3 : Int32) (r : Int32 × Mem) (h : xX10_safe M v1 v2 v3 = some r) : Con l z yX10_safe cX10_safe 5 (some .int) 3 [.ref (z.2.1 51), .int v1, .int v2, .int v3] M (some (.int r.1)) r.2 := by
  refine Con.of (by decide) (Nat.le_of_ble_eq_true rfl) ?_
  intro x hl hc
  subst hl
  have hk : okc x z cX10_safe RX10 5 3 := hc.1
  show G x z 5 0 [(0, .ref (z.2.1 51)), (1, .int v1), (2, .int v2), (3, .int v3)] [] M
  unfold xX10_safe at h
  refine g_iload_n hk 1 dX10_safe_0 rfl ?_
  refine g_iload_n hk 2 dX10_safe_1 rfl ?_
  refine g_iload_n hk 3 dX10_safe_2 rfl ?_
  obtain ⟨r1, hr1, h⟩ := bnd h
  refine g_callSi hk [.int v1, .int v2, .int v3] _ mtX10_wrongWalk mlX10_227 (by decide) (by decide) rfl rfl (Nat.le_of_ble_eq_true rfl) dX10_safe_3 (kX10_wrongWalk _ z M v1 v2 v3 r1 hr1) ?_
  refine g_istore hk [(4, .int r1), (0, .ref (z.2.1 51)), (1, .int v1), (2, .int v2), (3, .int v3)] dX10_safe_6 (by decide) rfl ?_
  refine g_iload hk 0 dX10_safe_8 rfl ?_
  refine g_ifeq hk (tgt := 22) dX10_safe_10 (by decide) h (fun h => ?_) (fun h => ?_)
  · refine g_aload_n hk 1 dX10_safe_22 rfl ?_
    refine g_iload_n hk 2 dX10_safe_23 rfl ?_
    refine g_iload_n hk 3 dX10_safe_24 rfl ?_
    refine g_iload_n hk 4 dX10_safe_25 rfl ?_
    obtain ⟨r2, hr2, h⟩ := bnd h
    refine g_callVi hk [.int v1, .int v2, .int v3] _ sh51 rfl mtX10_isSafe mlX10_230 (by decide) (by decide) rfl rfl (Nat.le_of_ble_eq_true rfl) dX10_safe_26 (kX10_isSafe _ z M v1 v2 v3 r2 hr2) ?_
    refine g_ifeq hk (tgt := 36) dX10_safe_29 (by decide) h (fun h => ?_) (fun h => ?_)
    · refine g_iconst hk 0 dX10_safe_36 (by decide) ?_
      exact g_iret (val := fun q => q.1) (mem := fun q => q.2) hc rfl dX10_safe_37 h ret2
    · refine g_iconst hk 1 dX10_safe_32 (by decide) ?_
      refine g_goto hk (tgt := 37) dX10_safe_33 (by decide) ?_
      exact g_iret (val := fun q => q.1) (mem := fun q => q.2) hc rfl dX10_safe_37 h ret2
  · refine g_aload_n hk 1 dX10_safe_13 rfl ?_
    refine g_iload hk 0 dX10_safe_14 rfl ?_
    obtain ⟨r3, hr3, h⟩ := bnd h
    refine g_callVi hk [.int r1] _ sh51 rfl mtX10_refuse mlX10_149 (by decide) (by decide) rfl rfl (Nat.le_of_ble_eq_true rfl) dX10_safe_16 (kX10_refuse _ z M r1 r3 hr3) ?_
    refine g_goto hk (tgt := 37) dX10_safe_19 (by decide) ?_
    exact g_iret (val := fun q => q.1) (mem := fun q => q.2) hc rfl dX10_safe_37 h ret2
set_option maxHeartbeats 4000000 in
set_option maxRecDepth 100000 in
theorem glX10_first_23 {x : Cx} {z : Lay} {r : Int32 × Mem} (hc : okm x z cX10_first RX10 6 3 (some .int) (some (.int r.1)) r.2)  : ∀ (n : Nat) (M : Mem) (v1 : Int32) (v2 : Int32) (v5 : Int32), lX10_first_23  n M v1 v2 v5 = some r → G x z 6 23 [(0, .ref (z.2.1 51)), (1, .int v1), (2, .int v2), (5, .int v5)] [] M := by
  have hk := hc.1
  intro n
  induction n with
  | zero => intro _ _ _ _ h; rw [lX10_first_23] at h; cases h
  | succ n ih =>
    intro M v1 v2 v5 h
    rw [lX10_first_23] at h
    refine g_iload hk 3 dX10_first_23 rfl ?_
    refine g_iload_n hk 2 dX10_first_25 rfl ?_
    refine g_iload_n hk 1 dX10_first_26 rfl ?_
    refine g_isub hk dX10_first_27 ?_
    refine g_iconst hk 1 dX10_first_28 (by decide) ?_
    refine g_iadd hk dX10_first_29 ?_
    refine g_aload_n hk 0 dX10_first_30 rfl ?_
    refine gfX10_26 hk dX10_first_31 (M.1 51 14) rfl ?_
    refine g_imul hk dX10_first_34 ?_
    refine g_iadd hk dX10_first_35 ?_
    refine g_sipush hk 1440 dX10_first_36 (by decide) ?_
    refine g_icmpgt hk (tgt := 62) dX10_first_39 (by decide) h (fun h => ?_) (fun h => ?_)
    · refine g_bipush hk (-9) dX10_first_62 (by decide) ?_
      exact g_iret (val := fun q => q.1) (mem := fun q => q.2) hc rfl dX10_first_64 h ret2
    · refine g_aload_n hk 0 dX10_first_42 rfl ?_
      refine g_iload_n hk 1 dX10_first_43 rfl ?_
      refine g_iload_n hk 2 dX10_first_44 rfl ?_
      refine g_iload hk 3 dX10_first_45 rfl ?_
      obtain ⟨r1, hr1, h⟩ := bnd h
      refine g_callVi hk [.int v1, .int v2, .int v5] _ sh51 rfl mtX10_isSafe mlX10_230 (by decide) (by decide) rfl rfl (Nat.le_of_ble_eq_true rfl) dX10_first_47 (kX10_isSafe _ z M v1 v2 v5 r1 hr1) ?_
      refine g_ifeq hk (tgt := 56) dX10_first_50 (by decide) h (fun h => ?_) (fun h => ?_)
      · refine g_iinc (k := 3) hk [(5, .int (v5 + 1)), (0, .ref (z.2.1 51)), (1, .int v1), (2, .int v2)] dX10_first_56 rfl rfl (by decide) rfl ?_
        refine g_goto hk (tgt := 23) dX10_first_59 (by decide) ?_
        exact g_weak [1, 2, 3, 0] [(0, .ref (z.2.1 51)), (1, .int v1), (2, .int v2), (5, .int (v5 + 1))] rfl (ih M v1 v2 (v5 + 1) h)
      · refine g_iload hk 3 dX10_first_53 rfl ?_
        exact g_iret (val := fun q => q.1) (mem := fun q => q.2) hc rfl dX10_first_55 h ret2
set_option maxHeartbeats 4000000 in
set_option maxRecDepth 100000 in
theorem kX10_first (l : Launch) (z : Lay) (M : Mem) (v1 : Int32) (v2 : Int32) (v3 : Int32) (r : Int32 × Mem) (h : xX10_first M v1 v2 v3 = some r) : Con l z yX10_first cX10_first 6 (some .int) 3 [.ref (z.2.1 51), .int v1, .int v2, .int v3] M (some (.int r.1)) r.2 := by
  refine Con.of (by decide) (Nat.le_of_ble_eq_true rfl) ?_
  intro x hl hc
  subst hl
  have hk : okc x z cX10_first RX10 6 3 := hc.1
  show G x z 6 0 [(0, .ref (z.2.1 51)), (1, .int v1), (2, .int v2), (3, .int v3)] [] M
  unfold xX10_first at h
  refine g_iload_n hk 1 dX10_first_0 rfl ?_
  refine g_iload_n hk 2 dX10_first_1 rfl ?_
  refine g_iload_n hk 3 dX10_first_2 rfl ?_
  obtain ⟨r1, hr1, h⟩ := bnd h
  refine g_callSi hk [.int v1, .int v2, .int v3] _ mtX10_wrongWalk mlX10_227 (by decide) (by decide) rfl rfl (Nat.le_of_ble_eq_true rfl) dX10_first_3 (kX10_wrongWalk _ z M v1 v2 v3 r1 hr1) ?_
  refine g_istore hk [(4, .int r1), (0, .ref (z.2.1 51)), (1, .int v1), (2, .int v2), (3, .int v3)] dX10_first_6 (by decide) rfl ?_
  refine g_iload hk 0 dX10_first_8 rfl ?_
  refine g_ifeq hk (tgt := 20) dX10_first_10 (by decide) h (fun h => ?_) (fun h => ?_)
  · refine g_iload_n hk 4 dX10_first_20 rfl ?_
    refine g_istore hk [(5, .int v3), (4, .int r1), (0, .ref (z.2.1 51)), (1, .int v1), (2, .int v2), (3, .int v3)] dX10_first_21 (by decide) rfl ?_
    exact g_weak [2, 3, 4, 0] [(0, .ref (z.2.1 51)), (1, .int v1), (2, .int v2), (5, .int v3)] rfl (glX10_first_23 hc  fu M v1 v2 v3 h)
  · refine g_aload_n hk 1 dX10_first_13 rfl ?_
    refine g_iload hk 0 dX10_first_14 rfl ?_
    obtain ⟨r2, hr2, h⟩ := bnd h
    refine g_callVi hk [.int r1] _ sh51 rfl mtX10_refuse mlX10_149 (by decide) (by decide) rfl rfl (Nat.le_of_ble_eq_true rfl) dX10_first_16 (kX10_refuse _ z M r1 r2 hr2) ?_
    exact g_iret (val := fun q => q.1) (mem := fun q => q.2) hc rfl dX10_first_19 h ret2
set_option maxHeartbeats 4000000 in
set_option maxRecDepth 100000 in
theorem glX10_walked_20 {x : Cx} {z : Lay} {r : Int32 × Mem} (hc : okm x z cX10_walked RX10 5 3 (some .int) (some (.int r.1)) r.2)  : ∀ (n : Nat) (M : Mem) (v1 : Int32) (v2 : Int32) (v4 : Int32), lX10_walked_20  n M v1 v2 v4 = some r → G x z 5 20 [(0, .ref (z.2.1 51)), (1, .int v1), (2, .int v2), (4, .int v4)] [] M := by
  have hk := hc.1
  intro n
  induction n with
  | zero => intro _ _ _ _ h; rw [lX10_walked_20] at h; cases h
  | succ n ih =>
    intro M v1 v2 v4 h
    rw [lX10_walked_20] at h
    refine g_iload hk 3 dX10_walked_20 rfl ?_
    refine g_iload_n hk 2 dX10_walked_22 rfl ?_
    refine g_icmpgt hk (tgt := 43) dX10_walked_23 (by decide) h (fun h => ?_) (fun h => ?_)
    · refine g_iload_n hk 2 dX10_walked_43 rfl ?_
      refine g_iload_n hk 1 dX10_walked_44 rfl ?_
      refine g_isub hk dX10_walked_45 ?_
      refine g_iconst hk 1 dX10_walked_46 (by decide) ?_
      refine g_iadd hk dX10_walked_47 ?_
      exact g_iret (val := fun q => q.1) (mem := fun q => q.2) hc rfl dX10_walked_48 h ret2
    · refine g_aload_n hk 0 dX10_walked_26 rfl ?_
      refine gfX10_87 hk dX10_walked_27 ?_
      refine g_iload hk 3 dX10_walked_30 rfl ?_
      refine g_aload_n hk 0 dX10_walked_32 rfl ?_
      refine gfX10_157 hk dX10_walked_33 (M.1 51 4) rfl ?_
      obtain ⟨hi1, h⟩ := ck_e h
      refine g_iast hk sh73 dX10_walked_36 hi1 ?_
      refine g_iinc (k := 3) hk [(4, .int (v4 + 1)), (0, .ref (z.2.1 51)), (1, .int v1), (2, .int v2)] dX10_walked_37 rfl rfl (by decide) rfl ?_
      refine g_goto hk (tgt := 20) dX10_walked_40 (by decide) ?_
      exact g_weak [1, 2, 3, 0] [(0, .ref (z.2.1 51)), (1, .int v1), (2, .int v2), (4, .int (v4 + 1))] rfl (ih (upI M 73 (ix v4) (M.1 51 4)) v1 v2 (v4 + 1) h)
set_option maxHeartbeats 4000000 in
set_option maxRecDepth 100000 in
theorem kX10_walked (l : Launch) (z : Lay) (M : Mem) (v1 : Int32) (v2 : Int32) (r : Int32 × Mem) (h : xX10_walked M v1 v2 = some r) : Con l z yX10_walked cX10_walked 5 (some .int) 3 [.ref (z.2.1 51), .int v1, .int v2] M (some (.int r.1)) r.2 := by
  refine Con.of (by decide) (Nat.le_of_ble_eq_true rfl) ?_
  intro x hl hc
  subst hl
  have hk : okc x z cX10_walked RX10 5 3 := hc.1
  show G x z 5 0 [(0, .ref (z.2.1 51)), (1, .int v1), (2, .int v2)] [] M
  unfold xX10_walked at h
  refine g_iload_n hk 1 dX10_walked_0 rfl ?_
  refine g_iload_n hk 2 dX10_walked_1 rfl ?_
  refine g_iconst hk 0 dX10_walked_2 (by decide) ?_
  obtain ⟨r1, hr1, h⟩ := bnd h
  refine g_callSi hk [.int v1, .int v2, .int 0] _ mtX10_wrongWalk mlX10_227 (by decide) (by decide) rfl rfl (Nat.le_of_ble_eq_true rfl) dX10_walked_3 (kX10_wrongWalk _ z M v1 v2 0 r1 hr1) ?_
  refine g_istore_n hk [(3, .int r1), (0, .ref (z.2.1 51)), (1, .int v1), (2, .int v2)] dX10_walked_6 rfl (by decide) rfl ?_
  refine g_iload_n hk 0 dX10_walked_7 rfl ?_
  refine g_ifeq hk (tgt := 17) dX10_walked_8 (by decide) h (fun h => ?_) (fun h => ?_)
  · refine g_iload_n hk 2 dX10_walked_17 rfl ?_
    refine g_istore hk [(4, .int v1), (3, .int r1), (0, .ref (z.2.1 51)), (1, .int v1), (2, .int v2)] dX10_walked_18 (by decide) rfl ?_
    exact g_weak [2, 3, 4, 0] [(0, .ref (z.2.1 51)), (1, .int v1), (2, .int v2), (4, .int v1)] rfl (glX10_walked_20 hc  fu M v1 v2 v1 h)
  · refine g_aload_n hk 1 dX10_walked_11 rfl ?_
    refine g_iload_n hk 0 dX10_walked_12 rfl ?_
    obtain ⟨r2, hr2, h⟩ := bnd h
    refine g_callVi hk [.int r1] _ sh51 rfl mtX10_refuse mlX10_149 (by decide) (by decide) rfl rfl (Nat.le_of_ble_eq_true rfl) dX10_walked_13 (kX10_refuse _ z M r1 r2 hr2) ?_
    exact g_iret (val := fun q => q.1) (mem := fun q => q.2) hc rfl dX10_walked_16 h ret2
set_option maxHeartbeats 4000000 in
set_option maxRecDepth 100000 in
theorem glX10_riskOf_4 {x : Cx} {z : Lay} {r : Int32} {M : Mem} (hc : okm x z cX10_riskOf RX10 4 0 (some .int) (some (.int r)) M)  : ∀ (n : Nat) (v1 : Int32) (v2 : Int32) (v3 : Int32), lX10_riskOf_4  n M v1 v2 v3 = some r → G x z 4 4 [(0, .ref (z.2.1 51)), (1, .int v1), (2, .int v2), (3, .int v3)] [] M := by
  have hk := hc.1
  intro n
  induction n with
  | zero => intro _ _ _ h; rw [lX10_riskOf_4] at h; cases h
  | succ n ih =>
    intro v1 v2 v3 h
    rw [lX10_riskOf_4] at h
    refine g_iload_n hk 3 dX10_riskOf_4 rfl ?_
    refine g_aload_n hk 0 dX10_riskOf_5 rfl ?_
    refine gfX10_176 hk dX10_riskOf_6 (M.1 51 5) rfl ?_
    refine g_icmpge hk (tgt := 45) dX10_riskOf_9 (by decide) h (fun h => ?_) (fun h => ?_)
    · refine g_aload_n hk 0 dX10_riskOf_45 rfl ?_
      refine gfX10_157 hk dX10_riskOf_46 (M.1 51 4) rfl ?_
      refine g_aload_n hk 0 dX10_riskOf_49 rfl ?_
      refine gfX10_87 hk dX10_riskOf_50 ?_
      refine g_iload_n hk 1 dX10_riskOf_53 rfl ?_
      obtain ⟨hi1, h⟩ := ck_e h
      refine g_iald hk sh73 dX10_riskOf_54 hi1 (M.1 73 (ix v1)) rfl ?_
      refine g_isub hk dX10_riskOf_55 ?_
      refine g_iconst hk 1 dX10_riskOf_56 (by decide) ?_
      refine g_iload_n hk 2 dX10_riskOf_57 rfl ?_
      refine g_iadd hk dX10_riskOf_58 ?_
      refine g_imul hk dX10_riskOf_59 ?_
      exact g_iret (val := fun q => q) (mem := fun _ => M) hc rfl dX10_riskOf_60 h ret1
    · refine g_iload_n hk 2 dX10_riskOf_12 rfl ?_
      refine g_aload_n hk 0 dX10_riskOf_13 rfl ?_
      refine gfX10_56 hk dX10_riskOf_14 ?_
      refine g_iload_n hk 3 dX10_riskOf_17 rfl ?_
      obtain ⟨hi2, h⟩ := ck_e h
      refine g_zald hk sh63 dX10_riskOf_18 hi2 (M.1 63 (ix v3)) rfl ?_
      refine g_ifeq hk (tgt := 36) dX10_riskOf_19 (by decide) h (fun h => ?_) (fun h => ?_)
      · refine g_iconst hk 0 dX10_riskOf_36 (by decide) ?_
        refine g_iadd hk dX10_riskOf_37 ?_
        refine g_istore_n hk [(2, .int (v2 + 0)), (0, .ref (z.2.1 51)), (1, .int v1), (3, .int v3)] dX10_riskOf_38 rfl (by decide) rfl ?_
        refine g_iinc (k := 3) hk [(3, .int (v3 + 1)), (2, .int (v2 + 0)), (0, .ref (z.2.1 51)), (1, .int v1)] dX10_riskOf_39 rfl rfl (by decide) rfl ?_
        refine g_goto hk (tgt := 4) dX10_riskOf_42 (by decide) ?_
        exact g_weak [2, 3, 1, 0] [(0, .ref (z.2.1 51)), (1, .int v1), (2, .int (v2 + 0)), (3, .int (v3 + 1))] rfl (ih v1 (v2 + 0) (v3 + 1) h)
      · refine g_aload_n hk 0 dX10_riskOf_22 rfl ?_
        refine gfX10_35 hk dX10_riskOf_23 ?_
        refine g_iload_n hk 3 dX10_riskOf_26 rfl ?_
        refine g_iald hk sh56 dX10_riskOf_27 hi2 (M.1 56 (ix v3)) rfl ?_
        refine g_iload_n hk 1 dX10_riskOf_28 rfl ?_
        refine g_icmpne hk (tgt := 36) dX10_riskOf_29 (by decide) h (fun h => ?_) (fun h => ?_)
        · refine g_iconst hk 0 dX10_riskOf_36 (by decide) ?_
          refine g_iadd hk dX10_riskOf_37 ?_
          refine g_istore_n hk [(2, .int (v2 + 0)), (0, .ref (z.2.1 51)), (1, .int v1), (3, .int v3)] dX10_riskOf_38 rfl (by decide) rfl ?_
          refine g_iinc (k := 3) hk [(3, .int (v3 + 1)), (2, .int (v2 + 0)), (0, .ref (z.2.1 51)), (1, .int v1)] dX10_riskOf_39 rfl rfl (by decide) rfl ?_
          refine g_goto hk (tgt := 4) dX10_riskOf_42 (by decide) ?_
          exact g_weak [2, 3, 1, 0] [(0, .ref (z.2.1 51)), (1, .int v1), (2, .int (v2 + 0)), (3, .int (v3 + 1))] rfl (ih v1 (v2 + 0) (v3 + 1) h)
        · refine g_iconst hk 1 dX10_riskOf_32 (by decide) ?_
          refine g_goto hk (tgt := 37) dX10_riskOf_33 (by decide) ?_
          refine g_iadd hk dX10_riskOf_37 ?_
          refine g_istore_n hk [(2, .int (v2 + 1)), (0, .ref (z.2.1 51)), (1, .int v1), (3, .int v3)] dX10_riskOf_38 rfl (by decide) rfl ?_
          refine g_iinc (k := 3) hk [(3, .int (v3 + 1)), (2, .int (v2 + 1)), (0, .ref (z.2.1 51)), (1, .int v1)] dX10_riskOf_39 rfl rfl (by decide) rfl ?_
          refine g_goto hk (tgt := 4) dX10_riskOf_42 (by decide) ?_
          exact g_weak [2, 3, 1, 0] [(0, .ref (z.2.1 51)), (1, .int v1), (2, .int (v2 + 1)), (3, .int (v3 + 1))] rfl (ih v1 (v2 + 1) (v3 + 1) h)
set_option maxHeartbeats 4000000 in
set_option maxRecDepth 100000 in
theorem kX10_riskOf (l : Launch) (z : Lay) (M : Mem) (v1 : Int32) (r : Int32) (h : xX10_riskOf M v1 = some r) : Con l z yX10_riskOf cX10_riskOf 4 (some .int) 0 [.ref (z.2.1 51), .int v1] M (some (.int r)) M := by
  refine Con.of (by decide) (Nat.le_of_ble_eq_true rfl) ?_
  intro x hl hc
  subst hl
  have hk : okc x z cX10_riskOf RX10 4 0 := hc.1
  show G x z 4 0 [(0, .ref (z.2.1 51)), (1, .int v1)] [] M
  unfold xX10_riskOf at h
  refine g_iconst hk 0 dX10_riskOf_0 (by decide) ?_
  refine g_istore_n hk [(2, .int 0), (0, .ref (z.2.1 51)), (1, .int v1)] dX10_riskOf_1 rfl (by decide) rfl ?_
  refine g_iconst hk 0 dX10_riskOf_2 (by decide) ?_
  refine g_istore_n hk [(3, .int 0), (2, .int 0), (0, .ref (z.2.1 51)), (1, .int v1)] dX10_riskOf_3 rfl (by decide) rfl ?_
  exact g_weak [2, 3, 1, 0] [(0, .ref (z.2.1 51)), (1, .int v1), (2, .int 0), (3, .int 0)] rfl (glX10_riskOf_4 hc  fu v1 0 0 h)
set_option maxHeartbeats 4000000 in
set_option maxRecDepth 100000 in
theorem kX10_risk (l : Launch) (z : Lay) (M : Mem) (v1 : Int32) (r : Int32 × Mem) (h : xX10_risk M v1 = some r) : Con l z yX10_risk cX10_risk 2 (some .int) 2 [.ref (z.2.1 51), .int v1] M (some (.int r.1)) r.2 := by
  refine Con.of (by decide) (Nat.le_of_ble_eq_true rfl) ?_
  intro x hl hc
  subst hl
  have hk : okc x z cX10_risk RX10 2 2 := hc.1
  show G x z 2 0 [(0, .ref (z.2.1 51)), (1, .int v1)] [] M
  unfold xX10_risk at h
  refine g_iload_n hk 1 dX10_risk_0 rfl ?_
  obtain ⟨r1, hr1, h⟩ := bnd h
  refine g_callSi hk [.int v1] _ mtX10_isMile mlX10_179 (by decide) (by decide) rfl rfl (Nat.le_of_ble_eq_true rfl) dX10_risk_1 (kX10_isMile _ z M v1 r1 hr1) ?_
  refine g_ifeq hk (tgt := 15) dX10_risk_4 (by decide) h (fun h => ?_) (fun h => ?_)
  · refine g_aload_n hk 0 dX10_risk_15 rfl ?_
    refine g_iconst hk (-1) dX10_risk_16 (by decide) ?_
    obtain ⟨r2, hr2, h⟩ := bnd h
    refine g_callVi hk [.int (-1)] _ sh51 rfl mtX10_refuse mlX10_149 (by decide) (by decide) rfl rfl (Nat.le_of_ble_eq_true rfl) dX10_risk_17 (kX10_refuse _ z M (-1) r2 hr2) ?_
    exact g_iret (val := fun q => q.1) (mem := fun q => q.2) hc rfl dX10_risk_20 h ret2
  · refine g_aload_n hk 0 dX10_risk_7 rfl ?_
    refine g_iload_n hk 1 dX10_risk_8 rfl ?_
    obtain ⟨r3, hr3, h⟩ := bnd h
    refine g_callVi hk [.int v1] _ sh51 rfl mtX10_riskOf mlX10_233 (by decide) (by decide) rfl rfl (Nat.le_of_ble_eq_true rfl) dX10_risk_9 (kX10_riskOf _ z M v1 r3 hr3) ?_
    refine g_goto hk (tgt := 20) dX10_risk_12 (by decide) ?_
    exact g_iret (val := fun q => q.1) (mem := fun q => q.2) hc rfl dX10_risk_20 h ret2
set_option maxHeartbeats 4000000 in
set_option maxRecDepth 100000 in
theorem glX10_riskFrom_5 {x : Cx} {z : Lay} {r : Int32} {M : Mem} (hc : okm x z cX10_riskFrom RX10 5 1 (some .int) (some (.int r)) M)  : ∀ (n : Nat) (v1 : Int32) (v2 : Int32) (v3 : Int32) (v4 : Int32), lX10_riskFrom_5  n M v1 v2 v3 v4 = some r → G x z 5 5 [(0, .ref (z.2.1 51)), (1, .int v1), (2, .int v2), (3, .int v3), (4, .int v4)] [] M := by
  have hk := hc.1
  intro n
  induction n with
  | zero => intro _ _ _ _ h; rw [lX10_riskFrom_5] at h; cases h
  | succ n ih =>
    intro v1 v2 v3 v4 h
    rw [lX10_riskFrom_5] at h
    refine g_iload hk 4 dX10_riskFrom_5 rfl ?_
    refine g_iload_n hk 1 dX10_riskFrom_7 rfl ?_
    refine g_iload_n hk 2 dX10_riskFrom_8 rfl ?_
    refine g_iadd hk dX10_riskFrom_9 ?_
    refine g_icmpge hk (tgt := 28) dX10_riskFrom_10 (by decide) h (fun h => ?_) (fun h => ?_)
    · refine g_iload_n hk 3 dX10_riskFrom_28 rfl ?_
      exact g_iret (val := fun q => q) (mem := fun _ => M) hc rfl dX10_riskFrom_29 h ret1
    · refine g_iload_n hk 3 dX10_riskFrom_13 rfl ?_
      refine g_aload_n hk 0 dX10_riskFrom_14 rfl ?_
      refine g_iload hk 4 dX10_riskFrom_15 rfl ?_
      obtain ⟨r1, hr1, h⟩ := bnd h
      refine g_callVi hk [.int v4] _ sh51 rfl mtX10_riskOf mlX10_233 (by decide) (by decide) rfl rfl (Nat.le_of_ble_eq_true rfl) dX10_riskFrom_17 (kX10_riskOf _ z M v4 r1 hr1) ?_
      refine g_iadd hk dX10_riskFrom_20 ?_
      refine g_istore_n hk [(3, .int (v3 + r1)), (0, .ref (z.2.1 51)), (1, .int v1), (2, .int v2), (4, .int v4)] dX10_riskFrom_21 rfl (by decide) rfl ?_
      refine g_iinc (k := 4) hk [(4, .int (v4 + 1)), (3, .int (v3 + r1)), (0, .ref (z.2.1 51)), (1, .int v1), (2, .int v2)] dX10_riskFrom_22 rfl rfl (by decide) rfl ?_
      refine g_goto hk (tgt := 5) dX10_riskFrom_25 (by decide) ?_
      exact g_weak [2, 3, 4, 1, 0] [(0, .ref (z.2.1 51)), (1, .int v1), (2, .int v2), (3, .int (v3 + r1)), (4, .int (v4 + 1))] rfl (ih v1 v2 (v3 + r1) (v4 + 1) h)
set_option maxHeartbeats 4000000 in
set_option maxRecDepth 100000 in
theorem kX10_riskFrom (l : Launch) (z : Lay) (M : Mem) (v1 : Int32) (v2 : Int32) (r : Int32) (h : xX10_riskFrom M v1 v2 = some r) : Con l z yX10_riskFrom cX10_riskFrom 5 (some .int) 1 [.ref (z.2.1 51), .int v1, .int v2] M (some (.int r)) M := by
  refine Con.of (by decide) (Nat.le_of_ble_eq_true rfl) ?_
  intro x hl hc
  subst hl
  have hk : okc x z cX10_riskFrom RX10 5 1 := hc.1
  show G x z 5 0 [(0, .ref (z.2.1 51)), (1, .int v1), (2, .int v2)] [] M
  unfold xX10_riskFrom at h
  refine g_iconst hk 0 dX10_riskFrom_0 (by decide) ?_
  refine g_istore_n hk [(3, .int 0), (0, .ref (z.2.1 51)), (1, .int v1), (2, .int v2)] dX10_riskFrom_1 rfl (by decide) rfl ?_
  refine g_iload_n hk 2 dX10_riskFrom_2 rfl ?_
  refine g_istore hk [(4, .int v1), (3, .int 0), (0, .ref (z.2.1 51)), (1, .int v1), (2, .int v2)] dX10_riskFrom_3 (by decide) rfl ?_
  exact g_weak [2, 3, 4, 1, 0] [(0, .ref (z.2.1 51)), (1, .int v1), (2, .int v2), (3, .int 0), (4, .int v1)] rfl (glX10_riskFrom_5 hc  fu v1 v2 0 v1 h)
set_option maxHeartbeats 4000000 in
set_option maxRecDepth 100000 in
theorem glX10_walks_60 {x : Cx} {z : Lay} {r : Int32 × Mem} (hc : okm x z cX10_walks RX10 10 2 (some .int) (some (.int r.1)) r.2) (f43 : Mem → Int32 → Int32 → Int32 → Int32 → Int32 → Int32 → Option (Int32 × Mem)) (hf43 : ∀ (M : Mem) (v1 : Int32) (v2 : Int32) (v4 : Int32) (v5 : Int32) (v6 : Int32) (v7 : Int32), f43 M v1 v2 v4 v5 v6 v7 = some r → G x z 10 43 [(0, .ref (z.2.1 51)), (1, .int v1), (2, .int v2), (4, .int v4), (5, .int v5), (6, .int v6), (7, .int v7)] [] M) : ∀ (n : Nat) (M : Mem) (v1 : Int32) (v2 : Int32) (v4 : Int32) (v5 : Int32) (v6 : Int32) (v7 : Int32) (v8 : Int32), lX10_walks_60 f43 n M v1 v2 v4 v5 v6 v7 v8 = some r → G x z 10 60 [(0, .ref (z.2.1 51)), (1, .int v1), (2, .int v2), (4, .int v4), (5, .int v5), (6, .int v6), (7, .int v7), (8, .int v8)] [] M := by
  have hk := hc.1
  intro n
  induction n with
  | zero => intro _ _ _ _ _ _ _ _ h; rw [lX10_walks_60] at h; cases h
  | succ n ih =>
    intro M v1 v2 v4 v5 v6 v7 v8 h
    rw [lX10_walks_60] at h
    refine g_iload hk 7 dX10_walks_60 rfl ?_
    refine g_iload_n hk 1 dX10_walks_62 rfl ?_
    refine g_iadd hk dX10_walks_63 ?_
    refine g_bipush hk 20 dX10_walks_64 (by decide) ?_
    refine g_icmpgt hk (tgt := 114) dX10_walks_66 (by decide) h (fun h => ?_) (fun h => ?_)
    · refine g_iinc (k := 6) hk [(7, .int (v7 + 1)), (0, .ref (z.2.1 51)), (1, .int v1), (2, .int v2), (4, .int v4), (5, .int v5), (6, .int v6), (8, .int v8)] dX10_walks_114 rfl rfl (by decide) rfl ?_
      refine g_goto hk (tgt := 43) dX10_walks_117 (by decide) ?_
      exact g_weak [1, 2, 3, 4, 5, 6, 0] [(0, .ref (z.2.1 51)), (1, .int v1), (2, .int v2), (4, .int v4), (5, .int v5), (6, .int v6), (7, .int (v7 + 1))] rfl (hf43 M v1 v2 v4 v5 v6 (v7 + 1) h)
    · refine g_aload_n hk 0 dX10_walks_69 rfl ?_
      refine g_iload hk 6 dX10_walks_70 rfl ?_
      refine g_iload_n hk 1 dX10_walks_72 rfl ?_
      obtain ⟨r1, hr1, h⟩ := bnd h
      refine g_callVi hk [.int v7, .int v1] _ sh51 rfl mtX10_riskFrom mlX10_236 (by decide) (by decide) rfl rfl (Nat.le_of_ble_eq_true rfl) dX10_walks_73 (kX10_riskFrom _ z M v7 v1 r1 hr1) ?_
      refine g_aload_n hk 0 dX10_walks_76 rfl ?_
      refine g_iload hk 7 dX10_walks_77 rfl ?_
      refine g_iload_n hk 1 dX10_walks_79 rfl ?_
      obtain ⟨r2, hr2, h⟩ := bnd h
      refine g_callVi hk [.int v8, .int v1] _ sh51 rfl mtX10_riskFrom mlX10_236 (by decide) (by decide) rfl rfl (Nat.le_of_ble_eq_true rfl) dX10_walks_80 (kX10_riskFrom _ z M v8 v1 r2 hr2) ?_
      refine g_iadd hk dX10_walks_83 ?_
      refine g_istore hk [(9, .int (r1 + r2)), (0, .ref (z.2.1 51)), (1, .int v1), (2, .int v2), (4, .int v4), (5, .int v5), (6, .int v6), (7, .int v7), (8, .int v8)] dX10_walks_84 (by decide) rfl ?_
      refine g_iload hk 0 dX10_walks_86 rfl ?_
      refine g_iload hk 4 dX10_walks_88 rfl ?_
      refine g_icmpgt hk (tgt := 96) dX10_walks_90 (by decide) h (fun h => ?_) (fun h => ?_)
      · refine g_iload hk 0 dX10_walks_96 rfl ?_
        refine g_istore hk [(4, .int (r1 + r2)), (9, .int (r1 + r2)), (0, .ref (z.2.1 51)), (1, .int v1), (2, .int v2), (5, .int v5), (6, .int v6), (7, .int v7), (8, .int v8)] dX10_walks_98 (by decide) rfl ?_
        refine g_iload hk 7 dX10_walks_100 rfl ?_
        refine g_istore hk [(5, .int v7), (4, .int (r1 + r2)), (9, .int (r1 + r2)), (0, .ref (z.2.1 51)), (1, .int v1), (2, .int v2), (6, .int v6), (7, .int v7), (8, .int v8)] dX10_walks_102 (by decide) rfl ?_
        refine g_iload hk 8 dX10_walks_104 rfl ?_
        refine g_istore hk [(6, .int v8), (5, .int v7), (4, .int (r1 + r2)), (9, .int (r1 + r2)), (0, .ref (z.2.1 51)), (1, .int v1), (2, .int v2), (7, .int v7), (8, .int v8)] dX10_walks_106 (by decide) rfl ?_
        refine g_iinc (k := 8) hk [(8, .int (v8 + 1)), (6, .int v8), (5, .int v7), (4, .int (r1 + r2)), (9, .int (r1 + r2)), (0, .ref (z.2.1 51)), (1, .int v1), (2, .int v2), (7, .int v7)] dX10_walks_108 rfl rfl (by decide) rfl ?_
        refine g_goto hk (tgt := 60) dX10_walks_111 (by decide) ?_
        exact g_weak [5, 6, 7, 3, 2, 1, 8, 0] [(0, .ref (z.2.1 51)), (1, .int v1), (2, .int v2), (4, .int (r1 + r2)), (5, .int v7), (6, .int v8), (7, .int v7), (8, .int (v8 + 1))] rfl (ih M v1 v2 (r1 + r2) v7 v8 v7 (v8 + 1) h)
      · refine g_goto hk (tgt := 108) dX10_walks_93 (by decide) ?_
        refine g_iinc (k := 8) hk [(8, .int (v8 + 1)), (9, .int (r1 + r2)), (0, .ref (z.2.1 51)), (1, .int v1), (2, .int v2), (4, .int v4), (5, .int v5), (6, .int v6), (7, .int v7)] dX10_walks_108 rfl rfl (by decide) rfl ?_
        refine g_goto hk (tgt := 60) dX10_walks_111 (by decide) ?_
        exact g_weak [2, 3, 4, 5, 6, 7, 8, 0] [(0, .ref (z.2.1 51)), (1, .int v1), (2, .int v2), (4, .int v4), (5, .int v5), (6, .int v6), (7, .int v7), (8, .int (v8 + 1))] rfl (ih M v1 v2 v4 v5 v6 v7 (v8 + 1) h)
set_option maxHeartbeats 4000000 in
set_option maxRecDepth 100000 in
theorem glX10_walks_43 {x : Cx} {z : Lay} {r : Int32 × Mem} (hc : okm x z cX10_walks RX10 10 2 (some .int) (some (.int r.1)) r.2)  : ∀ (n : Nat) (M : Mem) (v1 : Int32) (v2 : Int32) (v4 : Int32) (v5 : Int32) (v6 : Int32) (v7 : Int32), lX10_walks_43  n M v1 v2 v4 v5 v6 v7 = some r → G x z 10 43 [(0, .ref (z.2.1 51)), (1, .int v1), (2, .int v2), (4, .int v4), (5, .int v5), (6, .int v6), (7, .int v7)] [] M := by
  have hk := hc.1
  intro n
  induction n with
  | zero => intro _ _ _ _ _ _ _ h; rw [lX10_walks_43] at h; cases h
  | succ n ih =>
    intro M v1 v2 v4 v5 v6 v7 h
    rw [lX10_walks_43] at h
    refine g_iload hk 6 dX10_walks_43 rfl ?_
    refine g_iconst hk 2 dX10_walks_45 (by decide) ?_
    refine g_iload_n hk 1 dX10_walks_46 rfl ?_
    refine g_imul hk dX10_walks_47 ?_
    refine g_iadd hk dX10_walks_48 ?_
    refine g_bipush hk 20 dX10_walks_49 (by decide) ?_
    refine g_icmpgt hk (tgt := 120) dX10_walks_51 (by decide) h (fun h => ?_) (fun h => ?_)
    · refine g_iload_n hk 2 dX10_walks_120 rfl ?_
      refine g_ifne hk (tgt := 129) dX10_walks_121 (by decide) h (fun h => ?_) (fun h => ?_)
      · refine g_iload_n hk 2 dX10_walks_129 rfl ?_
        refine g_iconst hk 1 dX10_walks_130 (by decide) ?_
        refine g_icmpne hk (tgt := 139) dX10_walks_131 (by decide) h (fun h => ?_) (fun h => ?_)
        · refine g_iload hk 5 dX10_walks_139 rfl ?_
          exact g_iret (val := fun q => q.1) (mem := fun q => q.2) hc rfl dX10_walks_141 h ret2
        · refine g_iload hk 4 dX10_walks_134 rfl ?_
          refine g_goto hk (tgt := 141) dX10_walks_136 (by decide) ?_
          exact g_iret (val := fun q => q.1) (mem := fun q => q.2) hc rfl dX10_walks_141 h ret2
      · refine g_iload hk 3 dX10_walks_124 rfl ?_
        refine g_goto hk (tgt := 141) dX10_walks_126 (by decide) ?_
        exact g_iret (val := fun q => q.1) (mem := fun q => q.2) hc rfl dX10_walks_141 h ret2
    · refine g_iload hk 6 dX10_walks_54 rfl ?_
      refine g_iload_n hk 1 dX10_walks_56 rfl ?_
      refine g_iadd hk dX10_walks_57 ?_
      refine g_istore hk [(8, .int (v7 + v1)), (0, .ref (z.2.1 51)), (1, .int v1), (2, .int v2), (4, .int v4), (5, .int v5), (6, .int v6), (7, .int v7)] dX10_walks_58 (by decide) rfl ?_
      exact g_weak [1, 2, 3, 4, 5, 6, 7, 0] [(0, .ref (z.2.1 51)), (1, .int v1), (2, .int v2), (4, .int v4), (5, .int v5), (6, .int v6), (7, .int v7), (8, .int (v7 + v1))] rfl (glX10_walks_60 hc (lX10_walks_43  n) ih fu M v1 v2 v4 v5 v6 v7 (v7 + v1) h)
set_option maxHeartbeats 4000000 in
set_option maxRecDepth 100000 in
theorem gjX10_walks_20 {x : Cx} {z : Lay} {r : Int32 × Mem} (hc : okm x z cX10_walks RX10 10 2 (some .int) (some (.int r.1)) r.2)  (M : Mem) (v1 : Int32) (v2 : Int32) (s0 : Int32) (h : jX10_walks_20  M v1 v2 s0 = some r) : G x z 10 20 [(0, .ref (z.2.1 51)), (1, .int v1), (2, .int v2)] [.int s0] M := by
  have hk := hc.1
  unfold jX10_walks_20 at h
  refine g_istore_n hk [(3, .int s0), (0, .ref (z.2.1 51)), (1, .int v1), (2, .int v2)] dX10_walks_20 rfl (by decide) rfl ?_
  refine g_iload_n hk 0 dX10_walks_21 rfl ?_
  refine g_ifeq hk (tgt := 31) dX10_walks_22 (by decide) h (fun h => ?_) (fun h => ?_)
  · refine g_iconst hk (-1) dX10_walks_31 (by decide) ?_
    refine g_istore hk [(4, .int (-1)), (3, .int s0), (0, .ref (z.2.1 51)), (1, .int v1), (2, .int v2)] dX10_walks_32 (by decide) rfl ?_
    refine g_iconst hk 0 dX10_walks_34 (by decide) ?_
    refine g_istore hk [(5, .int 0), (4, .int (-1)), (3, .int s0), (0, .ref (z.2.1 51)), (1, .int v1), (2, .int v2)] dX10_walks_35 (by decide) rfl ?_
    refine g_iconst hk 0 dX10_walks_37 (by decide) ?_
    refine g_istore hk [(6, .int 0), (5, .int 0), (4, .int (-1)), (3, .int s0), (0, .ref (z.2.1 51)), (1, .int v1), (2, .int v2)] dX10_walks_38 (by decide) rfl ?_
    refine g_iconst hk 0 dX10_walks_40 (by decide) ?_
    refine g_istore hk [(7, .int 0), (6, .int 0), (5, .int 0), (4, .int (-1)), (3, .int s0), (0, .ref (z.2.1 51)), (1, .int v1), (2, .int v2)] dX10_walks_41 (by decide) rfl ?_
    exact g_weak [5, 6, 7, 3, 2, 1, 0] [(0, .ref (z.2.1 51)), (1, .int v1), (2, .int v2), (4, .int (-1)), (5, .int 0), (6, .int 0), (7, .int 0)] rfl (glX10_walks_43 hc  fu M v1 v2 (-1) 0 0 0 h)
  · refine g_aload_n hk 1 dX10_walks_25 rfl ?_
    refine g_iload_n hk 0 dX10_walks_26 rfl ?_
    obtain ⟨r1, hr1, h⟩ := bnd h
    refine g_callVi hk [.int s0] _ sh51 rfl mtX10_refuse mlX10_149 (by decide) (by decide) rfl rfl (Nat.le_of_ble_eq_true rfl) dX10_walks_27 (kX10_refuse _ z M s0 r1 hr1) ?_
    exact g_iret (val := fun q => q.1) (mem := fun q => q.2) hc rfl dX10_walks_30 h ret2
set_option maxHeartbeats 4000000 in
set_option maxRecDepth 100000 in
theorem kX10_walks (l : Launch) (z : Lay) (M : Mem) (v1 : Int32) (v2 : Int32) (r : Int32 × Mem) (h : xX10_walks M v1 v2 = some r) : Con l z yX10_walks cX10_walks 10 (some .int) 2 [.ref (z.2.1 51), .int v1, .int v2] M (some (.int r.1)) r.2 := by
  refine Con.of (by decide) (Nat.le_of_ble_eq_true rfl) ?_
  intro x hl hc
  subst hl
  have hk : okc x z cX10_walks RX10 10 2 := hc.1
  show G x z 10 0 [(0, .ref (z.2.1 51)), (1, .int v1), (2, .int v2)] [] M
  unfold xX10_walks at h
  refine g_iload_n hk 2 dX10_walks_0 rfl ?_
  refine g_iconst hk 3 dX10_walks_1 (by decide) ?_
  obtain ⟨r1, hr1, h⟩ := bnd h
  refine g_callSi hk [.int v2, .int 3] _ mtX10_isIn mlX10_153 (by decide) (by decide) rfl rfl (Nat.le_of_ble_eq_true rfl) dX10_walks_2 (kX10_isIn _ z M v2 3 r1 hr1) ?_
  refine g_ifeq hk (tgt := 18) dX10_walks_5 (by decide) h (fun h => ?_) (fun h => ?_)
  · refine g_bipush hk (-2) dX10_walks_18 (by decide) ?_
    exact g_weak [0, 1, 2] [(0, .ref (z.2.1 51)), (1, .int v1), (2, .int v2)] rfl (gjX10_walks_20 hc  M v1 v2 (-2) h)
  · refine g_iload_n hk 1 dX10_walks_8 rfl ?_
    refine g_iconst hk 1 dX10_walks_9 (by decide) ?_
    refine g_bipush hk 10 dX10_walks_10 (by decide) ?_
    obtain ⟨r2, hr2, h⟩ := bnd h
    refine g_callSi hk [.int v1, .int 1, .int 10] _ mtX10_wrong mlX10_160 (by decide) (by decide) rfl rfl (Nat.le_of_ble_eq_true rfl) dX10_walks_12 (kX10_wrong _ z M v1 1 10 r2 hr2) ?_
    refine g_goto hk (tgt := 20) dX10_walks_15 (by decide) ?_
    exact g_weak [0, 1, 2] [(0, .ref (z.2.1 51)), (1, .int v1), (2, .int v2)] rfl (gjX10_walks_20 hc  M v1 v2 r2 h)
set_option maxHeartbeats 4000000 in
set_option maxRecDepth 100000 in
theorem kX10_doubles (l : Launch) (z : Lay) (M : Mem) (v1 : Int32) (v2 : Int32) (v3 : Int32) (v4 : Int32) (r : Int32 × Mem) (h : xX10_doubles M v1 v2 v3 v4 = some r) : Con l z yX10_doubles cX10_doubles 5 (some .int) 2 [.ref (z.2.1 51), .int v1, .int v2, .int v3, .int v4] M (some (.int r.1)) r.2 := by
  refine Con.of (by decide) (Nat.le_of_ble_eq_true rfl) ?_
  intro x hl hc
  subst hl
  have hk : okc x z cX10_doubles RX10 5 2 := hc.1
  show G x z 5 0 [(0, .ref (z.2.1 51)), (1, .int v1), (2, .int v2), (3, .int v3), (4, .int v4)] [] M
  unfold xX10_doubles at h
  refine g_iload_n hk 1 dX10_doubles_0 rfl ?_
  obtain ⟨r1, hr1, h⟩ := bnd h
  refine g_callSi hk [.int v1] _ mtX10_isMile mlX10_179 (by decide) (by decide) rfl rfl (Nat.le_of_ble_eq_true rfl) dX10_doubles_1 (kX10_isMile _ z M v1 r1 hr1) ?_
  refine g_ifne hk (tgt := 13) dX10_doubles_4 (by decide) h (fun h => ?_) (fun h => ?_)
  · refine g_iload_n hk 2 dX10_doubles_13 rfl ?_
    refine g_iflt hk (tgt := 26) dX10_doubles_14 (by decide) h (fun h => ?_) (fun h => ?_)
    · refine g_aload_n hk 0 dX10_doubles_26 rfl ?_
      refine g_bipush hk (-4) dX10_doubles_27 (by decide) ?_
      obtain ⟨r2, hr2, h⟩ := bnd h
      refine g_callVi hk [.int (-4)] _ sh51 rfl mtX10_refuse mlX10_149 (by decide) (by decide) rfl rfl (Nat.le_of_ble_eq_true rfl) dX10_doubles_29 (kX10_refuse _ z M (-4) r2 hr2) ?_
      exact g_iret (val := fun q => q.1) (mem := fun q => q.2) hc rfl dX10_doubles_32 h ret2
    · refine g_iload_n hk 3 dX10_doubles_17 rfl ?_
      refine g_iflt hk (tgt := 26) dX10_doubles_18 (by decide) h (fun h => ?_) (fun h => ?_)
      · refine g_aload_n hk 0 dX10_doubles_26 rfl ?_
        refine g_bipush hk (-4) dX10_doubles_27 (by decide) ?_
        obtain ⟨r3, hr3, h⟩ := bnd h
        refine g_callVi hk [.int (-4)] _ sh51 rfl mtX10_refuse mlX10_149 (by decide) (by decide) rfl rfl (Nat.le_of_ble_eq_true rfl) dX10_doubles_29 (kX10_refuse _ z M (-4) r3 hr3) ?_
        exact g_iret (val := fun q => q.1) (mem := fun q => q.2) hc rfl dX10_doubles_32 h ret2
      · refine g_iload hk 4 dX10_doubles_21 rfl ?_
        refine g_ifge hk (tgt := 33) dX10_doubles_23 (by decide) h (fun h => ?_) (fun h => ?_)
        · refine g_iload_n hk 2 dX10_doubles_33 rfl ?_
          refine g_bipush hk 99 dX10_doubles_34 (by decide) ?_
          refine g_aload_n hk 0 dX10_doubles_36 rfl ?_
          refine gfX10_90 hk dX10_doubles_37 ?_
          refine g_iload_n hk 1 dX10_doubles_40 rfl ?_
          obtain ⟨hi1, h⟩ := ck_e h
          refine g_iald hk sh74 dX10_doubles_41 hi1 (M.1 74 (ix v1)) rfl ?_
          refine g_isub hk dX10_doubles_42 ?_
          refine g_icmpgt hk (tgt := 73) dX10_doubles_43 (by decide) h (fun h => ?_) (fun h => ?_)
          · refine g_aload_n hk 0 dX10_doubles_73 rfl ?_
            refine g_bipush hk (-6) dX10_doubles_74 (by decide) ?_
            obtain ⟨r4, hr4, h⟩ := bnd h
            refine g_callVi hk [.int (-6)] _ sh51 rfl mtX10_refuse mlX10_149 (by decide) (by decide) rfl rfl (Nat.le_of_ble_eq_true rfl) dX10_doubles_76 (kX10_refuse _ z M (-6) r4 hr4) ?_
            exact g_iret (val := fun q => q.1) (mem := fun q => q.2) hc rfl dX10_doubles_79 h ret2
          · refine g_iload_n hk 3 dX10_doubles_46 rfl ?_
            refine g_bipush hk 99 dX10_doubles_47 (by decide) ?_
            refine g_aload_n hk 0 dX10_doubles_49 rfl ?_
            refine gfX10_93 hk dX10_doubles_50 ?_
            refine g_iload_n hk 1 dX10_doubles_53 rfl ?_
            refine g_iald hk sh75 dX10_doubles_54 hi1 (M.1 75 (ix v1)) rfl ?_
            refine g_isub hk dX10_doubles_55 ?_
            refine g_icmpgt hk (tgt := 73) dX10_doubles_56 (by decide) h (fun h => ?_) (fun h => ?_)
            · refine g_aload_n hk 0 dX10_doubles_73 rfl ?_
              refine g_bipush hk (-6) dX10_doubles_74 (by decide) ?_
              obtain ⟨r5, hr5, h⟩ := bnd h
              refine g_callVi hk [.int (-6)] _ sh51 rfl mtX10_refuse mlX10_149 (by decide) (by decide) rfl rfl (Nat.le_of_ble_eq_true rfl) dX10_doubles_76 (kX10_refuse _ z M (-6) r5 hr5) ?_
              exact g_iret (val := fun q => q.1) (mem := fun q => q.2) hc rfl dX10_doubles_79 h ret2
            · refine g_iload hk 4 dX10_doubles_59 rfl ?_
              refine g_bipush hk 99 dX10_doubles_61 (by decide) ?_
              refine g_aload_n hk 0 dX10_doubles_63 rfl ?_
              refine gfX10_96 hk dX10_doubles_64 ?_
              refine g_iload_n hk 1 dX10_doubles_67 rfl ?_
              refine g_iald hk sh76 dX10_doubles_68 hi1 (M.1 76 (ix v1)) rfl ?_
              refine g_isub hk dX10_doubles_69 ?_
              refine g_icmple hk (tgt := 80) dX10_doubles_70 (by decide) h (fun h => ?_) (fun h => ?_)
              · refine g_aload_n hk 0 dX10_doubles_80 rfl ?_
                refine gfX10_90 hk dX10_doubles_81 ?_
                refine g_iload_n hk 1 dX10_doubles_84 rfl ?_
                refine g_dup2 hk dX10_doubles_85 rfl rfl ?_
                refine g_iald hk sh74 dX10_doubles_86 hi1 (M.1 74 (ix v1)) rfl ?_
                refine g_iload_n hk 2 dX10_doubles_87 rfl ?_
                refine g_iadd hk dX10_doubles_88 ?_
                refine g_iast hk sh74 dX10_doubles_89 hi1 ?_
                refine g_aload_n hk 0 dX10_doubles_90 rfl ?_
                refine gfX10_93 hk dX10_doubles_91 ?_
                refine g_iload_n hk 1 dX10_doubles_94 rfl ?_
                refine g_dup2 hk dX10_doubles_95 rfl rfl ?_
                refine g_iald hk sh75 dX10_doubles_96 hi1 (M.1 75 (ix v1)) rfl ?_
                refine g_iload_n hk 3 dX10_doubles_97 rfl ?_
                refine g_iadd hk dX10_doubles_98 ?_
                refine g_iast hk sh75 dX10_doubles_99 hi1 ?_
                refine g_aload_n hk 0 dX10_doubles_100 rfl ?_
                refine gfX10_96 hk dX10_doubles_101 ?_
                refine g_iload_n hk 1 dX10_doubles_104 rfl ?_
                refine g_dup2 hk dX10_doubles_105 rfl rfl ?_
                refine g_iald hk sh76 dX10_doubles_106 hi1 (M.1 76 (ix v1)) rfl ?_
                refine g_iload hk 4 dX10_doubles_107 rfl ?_
                refine g_iadd hk dX10_doubles_109 ?_
                refine g_iast hk sh76 dX10_doubles_110 hi1 ?_
                refine g_iconst hk 1 dX10_doubles_111 (by decide) ?_
                exact g_iret (val := fun q => q.1) (mem := fun q => q.2) hc rfl dX10_doubles_112 h ret2
              · refine g_aload_n hk 0 dX10_doubles_73 rfl ?_
                refine g_bipush hk (-6) dX10_doubles_74 (by decide) ?_
                obtain ⟨r6, hr6, h⟩ := bnd h
                refine g_callVi hk [.int (-6)] _ sh51 rfl mtX10_refuse mlX10_149 (by decide) (by decide) rfl rfl (Nat.le_of_ble_eq_true rfl) dX10_doubles_76 (kX10_refuse _ z M (-6) r6 hr6) ?_
                exact g_iret (val := fun q => q.1) (mem := fun q => q.2) hc rfl dX10_doubles_79 h ret2
        · refine g_aload_n hk 0 dX10_doubles_26 rfl ?_
          refine g_bipush hk (-4) dX10_doubles_27 (by decide) ?_
          obtain ⟨r7, hr7, h⟩ := bnd h
          refine g_callVi hk [.int (-4)] _ sh51 rfl mtX10_refuse mlX10_149 (by decide) (by decide) rfl rfl (Nat.le_of_ble_eq_true rfl) dX10_doubles_29 (kX10_refuse _ z M (-4) r7 hr7) ?_
          exact g_iret (val := fun q => q.1) (mem := fun q => q.2) hc rfl dX10_doubles_32 h ret2
  · refine g_aload_n hk 0 dX10_doubles_7 rfl ?_
    refine g_iconst hk (-1) dX10_doubles_8 (by decide) ?_
    obtain ⟨r8, hr8, h⟩ := bnd h
    refine g_callVi hk [.int (-1)] _ sh51 rfl mtX10_refuse mlX10_149 (by decide) (by decide) rfl rfl (Nat.le_of_ble_eq_true rfl) dX10_doubles_9 (kX10_refuse _ z M (-1) r8 hr8) ?_
    exact g_iret (val := fun q => q.1) (mem := fun q => q.2) hc rfl dX10_doubles_12 h ret2
