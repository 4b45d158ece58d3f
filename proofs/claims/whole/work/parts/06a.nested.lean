set_option maxHeartbeats 4000000 in
set_option maxRecDepth 100000 in
theorem kX5_tell (l : Launch) (z : Lay) (M : Mem) {k0 : Nat} (hR : okR k0) (v1 : Int32) (v2 : Int32) (r : Int32 × Mem) (h : xX5_tell M k0 v1 v2 = some r) : Con l z yX5_tell cX5_tell 4 (some .int) 0 [.ref (z.2.1 k0), .int v1, .int v2] M (some (.int r.1)) r.2 := by
  refine Con.of (by decide) (Nat.le_of_ble_eq_true rfl) ?_
  intro x hl hc
  subst hl
  have hk : okc x z cX5_tell RX5 4 0 := hc.1
  show G x z 4 0 [(0, .ref (z.2.1 k0)), (1, .int v1), (2, .int v2)] [] M
  unfold xX5_tell at h
  refine g_aload_n hk 0 dX5_tell_0 rfl ?_
  refine gfX5_9 hR hk dX5_tell_1 ?_
  refine g_iload_n hk 1 dX5_tell_4 rfl ?_
  obtain ⟨hi1, h⟩ := ck_e h
  refine g_iald hk (shR hR).2 dX5_tell_5 hi1 (M.1 (k0 + 1) (ix v1)) rfl ?_
  refine g_istore_n hk [(3, .int (M.1 (k0 + 1) (ix v1))), (0, .ref (z.2.1 k0)), (1, .int v1), (2, .int v2)] dX5_tell_6 rfl (by decide) rfl ?_
  refine g_aload_n hk 1 dX5_tell_7 rfl ?_
  refine gfX5_9 hR hk dX5_tell_8 ?_
  refine g_iload_n hk 2 dX5_tell_11 rfl ?_
  refine g_iload_n hk 3 dX5_tell_12 rfl ?_
  refine g_iast hk (shR hR).2 dX5_tell_13 hi1 ?_
  refine g_iload_n hk 0 dX5_tell_14 rfl ?_
  exact g_iret (val := fun q => q.1) (mem := fun q => q.2) hc rfl dX5_tell_15 h ret2
set_option maxHeartbeats 4000000 in
set_option maxRecDepth 100000 in
theorem glX5_counted_28 {x : Cx} {z : Lay} {r : Int32} {M : Mem} {k0 : Nat} (hR : okR k0) (hc : okm x z cX5_counted RX5 4 1 (some .int) (some (.int r)) M)  : ∀ (n : Nat) (v1 : Int32) (v2 : Int32) (v3 : Int32), lX5_counted_28  n M k0 v1 v2 v3 = some r → G x z 4 28 [(0, .ref (z.2.1 k0)), (1, .int v1), (2, .int v2), (3, .int v3)] [] M := by
  have hk := hc.1
  intro n
  induction n with
  | zero => intro _ _ _ h; rw [lX5_counted_28] at h; cases h
  | succ n ih =>
    intro v1 v2 v3 h
    rw [lX5_counted_28] at h
    refine g_iload_n hk 3 dX5_counted_28 rfl ?_
    refine g_iload_n hk 1 dX5_counted_29 rfl ?_
    refine g_icmpge hk (tgt := 50) dX5_counted_30 (by decide) h (fun h => ?_) (fun h => ?_)
    · refine g_iload_n hk 2 dX5_counted_50 rfl ?_
      refine g_iconst hk (-1) dX5_counted_51 (by decide) ?_
      refine g_icmpne hk (tgt := 62) dX5_counted_52 (by decide) h (fun h => ?_) (fun h => ?_)
      · refine g_iload_n hk 2 dX5_counted_62 rfl ?_
        exact g_iret (val := fun q => q) (mem := fun _ => M) hc rfl dX5_counted_63 h ret1
      · refine g_aload_n hk 0 dX5_counted_55 rfl ?_
        refine gfX5_15 hR hk dX5_counted_56 (M.1 k0 1) rfl ?_
        refine g_goto hk (tgt := 63) dX5_counted_59 (by decide) ?_
        exact g_iret (val := fun q => q) (mem := fun _ => M) hc rfl dX5_counted_63 h ret1
    · refine g_iload_n hk 2 dX5_counted_33 rfl ?_
      refine g_aload_n hk 0 dX5_counted_34 rfl ?_
      refine gfX5_9 hR hk dX5_counted_35 ?_
      refine g_iload_n hk 3 dX5_counted_38 rfl ?_
      obtain ⟨hi1, h⟩ := ck_e h
      refine g_iald hk (shR hR).2 dX5_counted_39 hi1 (M.1 (k0 + 1) (ix v3)) rfl ?_
      refine g_mmax hk mlX5_22 st_max inMath cd_max (by decide) (Nat.le_of_ble_eq_true rfl) dX5_counted_40 ?_
      refine g_istore_n hk [(2, .int (mxI v2 (M.1 (k0 + 1) (ix v3)))), (0, .ref (z.2.1 k0)), (1, .int v1), (3, .int v3)] dX5_counted_43 rfl (by decide) rfl ?_
      refine g_iinc (k := 3) hk [(3, .int (v3 + 1)), (2, .int (mxI v2 (M.1 (k0 + 1) (ix v3)))), (0, .ref (z.2.1 k0)), (1, .int v1)] dX5_counted_44 rfl rfl (by decide) rfl ?_
      refine g_goto hk (tgt := 28) dX5_counted_47 (by decide) ?_
      exact g_weak [2, 3, 1, 0] [(0, .ref (z.2.1 k0)), (1, .int v1), (2, .int (mxI v2 (M.1 (k0 + 1) (ix v3)))), (3, .int (v3 + 1))] rfl (ih v1 (mxI v2 (M.1 (k0 + 1) (ix v3))) (v3 + 1) h)
set_option maxHeartbeats 4000000 in
set_option maxRecDepth 100000 in
theorem kX5_counted (l : Launch) (z : Lay) (M : Mem) {k0 : Nat} (hR : okR k0) (v1 : Int32) (r : Int32) (h : xX5_counted M k0 v1 = some r) : Con l z yX5_counted cX5_counted 4 (some .int) 1 [.ref (z.2.1 k0), .int v1] M (some (.int r)) M := by
  refine Con.of (by decide) (Nat.le_of_ble_eq_true rfl) ?_
  intro x hl hc
  subst hl
  have hk : okc x z cX5_counted RX5 4 1 := hc.1
  show G x z 4 0 [(0, .ref (z.2.1 k0)), (1, .int v1)] [] M
  unfold xX5_counted at h
  refine g_aload_n hk 0 dX5_counted_0 rfl ?_
  refine gfX5_9 hR hk dX5_counted_1 ?_
  refine g_iload_n hk 1 dX5_counted_4 rfl ?_
  obtain ⟨hi1, h⟩ := ck_e h
  refine g_iald hk (shR hR).2 dX5_counted_5 hi1 (M.1 (k0 + 1) (ix v1)) rfl ?_
  refine g_iconst hk (-1) dX5_counted_6 (by decide) ?_
  refine g_icmpeq hk (tgt := 17) dX5_counted_7 (by decide) h (fun h => ?_) (fun h => ?_)
  · refine g_iconst hk (-1) dX5_counted_17 (by decide) ?_
    refine g_istore_n hk [(2, .int (-1)), (0, .ref (z.2.1 k0)), (1, .int v1)] dX5_counted_18 rfl (by decide) rfl ?_
    refine g_iconst hk 0 dX5_counted_19 (by decide) ?_
    refine g_iload_n hk 2 dX5_counted_20 rfl ?_
    refine g_bipush hk 7 dX5_counted_21 (by decide) ?_
    refine g_isub hk dX5_counted_23 ?_
    refine g_mmax hk mlX5_22 st_max inMath cd_max (by decide) (Nat.le_of_ble_eq_true rfl) dX5_counted_24 ?_
    refine g_istore_n hk [(3, .int (mxI 0 (v1 - 7))), (2, .int (-1)), (0, .ref (z.2.1 k0)), (1, .int v1)] dX5_counted_27 rfl (by decide) rfl ?_
    exact g_weak [2, 3, 1, 0] [(0, .ref (z.2.1 k0)), (1, .int v1), (2, .int (-1)), (3, .int (mxI 0 (v1 - 7)))] rfl (glX5_counted_28 hR hc  fu v1 (-1) (mxI 0 (v1 - 7)) h)
  · refine g_aload_n hk 0 dX5_counted_10 rfl ?_
    refine gfX5_9 hR hk dX5_counted_11 ?_
    refine g_iload_n hk 1 dX5_counted_14 rfl ?_
    refine g_iald hk (shR hR).2 dX5_counted_15 hi1 (M.1 (k0 + 1) (ix v1)) rfl ?_
    exact g_iret (val := fun q => q) (mem := fun _ => M) hc rfl dX5_counted_16 h ret1
set_option maxHeartbeats 4000000 in
set_option maxRecDepth 100000 in
theorem kX1_add (l : Launch) (z : Lay) (M : Mem) (v1 : Int32) (v2 : Int32) (v3 : Int32) (v4 : Int32) (r : Int32 × Mem) (h : xX1_add M v1 v2 v3 v4 = some r) : Con l z yX1_add cX1_add 6 (some .int) 0 [.ref (z.2.1 8), .int v1, .int v2, .int v3, .int v4] M (some (.int r.1)) r.2 := by
  refine Con.of (by decide) (Nat.le_of_ble_eq_true rfl) ?_
  intro x hl hc
  subst hl
  have hk : okc x z cX1_add RX1 6 0 := hc.1
  show G x z 6 0 [(0, .ref (z.2.1 8)), (1, .int v1), (2, .int v2), (3, .int v3), (4, .int v4)] [] M
  unfold xX1_add at h
  refine g_aload_n hk 0 dX1_add_0 rfl ?_
  refine gfX1_9 hk dX1_add_1 (M.1 8 0) rfl ?_
  refine g_istore hk [(5, .int (M.1 8 0)), (0, .ref (z.2.1 8)), (1, .int v1), (2, .int v2), (3, .int v3), (4, .int v4)] dX1_add_4 (by decide) rfl ?_
  refine g_aload_n hk 1 dX1_add_6 rfl ?_
  refine gfX1_21 hk dX1_add_7 ?_
  refine g_iload hk 0 dX1_add_10 rfl ?_
  refine g_iload_n hk 2 dX1_add_12 rfl ?_
  obtain ⟨hi1, h⟩ := ck_e h
  refine g_iast hk sh9 dX1_add_13 hi1 ?_
  refine g_aload_n hk 1 dX1_add_14 rfl ?_
  refine gfX1_25 hk dX1_add_15 ?_
  refine g_iload hk 0 dX1_add_18 rfl ?_
  refine g_iload_n hk 3 dX1_add_20 rfl ?_
  refine g_iast hk sh10 dX1_add_21 hi1 ?_
  refine g_aload_n hk 1 dX1_add_22 rfl ?_
  refine gfX1_28 hk dX1_add_23 ?_
  refine g_iload hk 0 dX1_add_26 rfl ?_
  refine g_iload_n hk 4 dX1_add_28 rfl ?_
  refine g_iast hk sh11 dX1_add_29 hi1 ?_
  refine g_aload_n hk 1 dX1_add_30 rfl ?_
  refine gfX1_31 hk dX1_add_31 ?_
  refine g_iload hk 0 dX1_add_34 rfl ?_
  refine g_iload hk 5 dX1_add_36 rfl ?_
  refine g_iast hk sh12 dX1_add_38 hi1 ?_
  refine g_aload_n hk 1 dX1_add_39 rfl ?_
  refine gfX1_34 hk dX1_add_40 ?_
  refine g_iload hk 0 dX1_add_43 rfl ?_
  refine g_iconst hk 1 dX1_add_45 (by decide) ?_
  refine g_zast hk 1 sh13 dX1_add_46 hi1 (by decide) ?_
  refine g_aload_n hk 1 dX1_add_47 rfl ?_
  refine gfX1_38 hk dX1_add_48 ?_
  refine g_iload hk 0 dX1_add_51 rfl ?_
  refine g_iconst hk 0 dX1_add_53 (by decide) ?_
  refine g_iast hk sh14 dX1_add_54 hi1 ?_
  refine g_aload_n hk 1 dX1_add_55 rfl ?_
  refine gfX1_41 hk dX1_add_56 ?_
  refine g_iload hk 0 dX1_add_59 rfl ?_
  refine g_sipush hk 1049 dX1_add_61 (by decide) ?_
  refine g_iast hk sh15 dX1_add_64 hi1 ?_
  refine g_aload_n hk 1 dX1_add_65 rfl ?_
  refine gfX1_44 hk dX1_add_66 ?_
  refine g_iload hk 0 dX1_add_69 rfl ?_
  refine g_bipush hk (-9) dX1_add_71 (by decide) ?_
  refine g_iast hk sh16 dX1_add_73 hi1 ?_
  refine g_aload_n hk 1 dX1_add_74 rfl ?_
  refine g_dup hk dX1_add_75 rfl ?_
  refine gfX1_9 hk dX1_add_76 (M.1 8 0) rfl ?_
  refine g_iconst hk 1 dX1_add_79 (by decide) ?_
  refine g_iadd hk dX1_add_80 ?_
  refine pfX1_9 hk dX1_add_81 ?_
  refine g_iload hk 0 dX1_add_84 rfl ?_
  exact g_iret (val := fun q => q.1) (mem := fun q => q.2) hc rfl dX1_add_86 h ret2
set_option maxHeartbeats 4000000 in
set_option maxRecDepth 100000 in
theorem gjX1_cutSpan_96 {x : Cx} {z : Lay} {r : Int32 × Mem} (hc : okm x z cX1_cutSpan RX1 7 1 (some .boolean) (some (.int r.1)) r.2)  (M : Mem) (v6 : Int32) (s1 : Int32) (s2 : Int32) (h : jX1_cutSpan_96  M v6 s1 s2 = some r) : G x z 7 96 [(0, .ref (z.2.1 8)), (6, .int v6)] [.int s2, .int s1, .ref (z.2.1 15)] M := by
  have hk := hc.1
  unfold jX1_cutSpan_96 at h
  obtain ⟨hi1, h⟩ := ck_e h
  refine g_iast hk sh15 dX1_cutSpan_96 hi1 ?_
  refine g_aload_n hk 0 dX1_cutSpan_97 rfl ?_
  refine g_dup hk dX1_cutSpan_98 rfl ?_
  refine gfX1_15 hk dX1_cutSpan_99 (M.1 8 1) rfl ?_
  refine g_iconst hk 1 dX1_cutSpan_102 (by decide) ?_
  refine g_iadd hk dX1_cutSpan_103 ?_
  refine pfX1_15 hk dX1_cutSpan_104 ?_
  refine g_iload hk 1 dX1_cutSpan_107 rfl ?_
  refine g_ifne hk (tgt := 122) dX1_cutSpan_109 (by decide) h (fun h => ?_) (fun h => ?_)
  · refine g_iload hk 1 dX1_cutSpan_122 rfl ?_
    obtain ⟨hi2, h⟩ := ck_e h
    exact g_zret (val := fun q => q.1) (mem := fun q => q.2) hc rfl dX1_cutSpan_124 h ret2 hi2
  · refine g_aload_n hk 0 dX1_cutSpan_112 rfl ?_
    refine g_dup hk dX1_cutSpan_113 rfl ?_
    refine gfX1_18 hk dX1_cutSpan_114 (M.1 8 2) rfl ?_
    refine g_iconst hk 1 dX1_cutSpan_117 (by decide) ?_
    refine g_iadd hk dX1_cutSpan_118 ?_
    refine pfX1_18 hk dX1_cutSpan_119 ?_
    refine g_iload hk 1 dX1_cutSpan_122 rfl ?_
    obtain ⟨hi3, h⟩ := ck_e h
    exact g_zret (val := fun q => q.1) (mem := fun q => q.2) hc rfl dX1_cutSpan_124 h ret2 hi3
set_option maxHeartbeats 4000000 in
set_option maxRecDepth 100000 in
theorem gjX1_cutSpan_69 {x : Cx} {z : Lay} {r : Int32 × Mem} (hc : okm x z cX1_cutSpan RX1 7 1 (some .boolean) (some (.int r.1)) r.2)  (M : Mem) (v1 : Int32) (v5 : Int32) (v6 : Int32) (s1 : Int32) (s2 : Int32) (h : jX1_cutSpan_69  M v1 v5 v6 s1 s2 = some r) : G x z 7 69 [(0, .ref (z.2.1 8)), (1, .int v1), (5, .int v5), (6, .int v6)] [.int s2, .int s1, .ref (z.2.1 14)] M := by
  have hk := hc.1
  unfold jX1_cutSpan_69 at h
  obtain ⟨hi1, h⟩ := ck_e h
  refine g_iast hk sh14 dX1_cutSpan_69 hi1 ?_
  refine g_aload_n hk 0 dX1_cutSpan_70 rfl ?_
  refine gfX1_41 hk dX1_cutSpan_71 ?_
  refine g_iload_n hk 1 dX1_cutSpan_74 rfl ?_
  refine g_iload hk 3 dX1_cutSpan_75 rfl ?_
  refine g_ifeq hk (tgt := 94) dX1_cutSpan_77 (by decide) h (fun h => ?_) (fun h => ?_)
  · refine g_iload hk 2 dX1_cutSpan_94 rfl ?_
    exact g_weak [0, 3] [(0, .ref (z.2.1 8)), (6, .int v6)] rfl (gjX1_cutSpan_96 hc  (upI M 14 (ix s1) s2) v6 v1 v5 h)
  · refine g_aload_n hk 0 dX1_cutSpan_80 rfl ?_
    refine gfX1_41 hk dX1_cutSpan_81 ?_
    refine g_iload_n hk 1 dX1_cutSpan_84 rfl ?_
    obtain ⟨hi2, h⟩ := ck_e h
    refine g_iald hk sh15 dX1_cutSpan_85 hi2 (M.1 15 (ix v1)) rfl ?_
    refine g_iload hk 2 dX1_cutSpan_86 rfl ?_
    refine g_mmin hk mlX1_56 st_min inMath cd_min (by decide) (Nat.le_of_ble_eq_true rfl) dX1_cutSpan_88 ?_
    refine g_goto hk (tgt := 96) dX1_cutSpan_91 (by decide) ?_
    exact g_weak [0, 3] [(0, .ref (z.2.1 8)), (6, .int v6)] rfl (gjX1_cutSpan_96 hc  (upI M 14 (ix s1) s2) v6 v1 (mnI (M.1 15 (ix v1)) v5) h)
set_option maxHeartbeats 4000000 in
set_option maxRecDepth 100000 in
theorem gjX1_cutSpan_41 {x : Cx} {z : Lay} {r : Int32 × Mem} (hc : okm x z cX1_cutSpan RX1 7 1 (some .boolean) (some (.int r.1)) r.2)  (M : Mem) (v1 : Int32) (v4 : Int32) (v5 : Int32) (s0 : Int32) (h : jX1_cutSpan_41  M v1 v4 v5 s0 = some r) : G x z 7 41 [(0, .ref (z.2.1 8)), (1, .int v1), (4, .int v4), (5, .int v5)] [.int s0] M := by
  have hk := hc.1
  unfold jX1_cutSpan_41 at h
  refine g_istore hk [(6, .int s0), (0, .ref (z.2.1 8)), (1, .int v1), (4, .int v4), (5, .int v5)] dX1_cutSpan_41 (by decide) rfl ?_
  refine g_aload_n hk 1 dX1_cutSpan_43 rfl ?_
  refine gfX1_38 hk dX1_cutSpan_44 ?_
  refine g_iload_n hk 2 dX1_cutSpan_47 rfl ?_
  refine g_iload hk 0 dX1_cutSpan_48 rfl ?_
  refine g_ifeq hk (tgt := 67) dX1_cutSpan_50 (by decide) h (fun h => ?_) (fun h => ?_)
  · refine g_iload hk 3 dX1_cutSpan_67 rfl ?_
    exact g_weak [1, 2, 4, 0] [(0, .ref (z.2.1 8)), (1, .int v1), (5, .int v5), (6, .int s0)] rfl (gjX1_cutSpan_69 hc  M v1 v5 s0 v1 v4 h)
  · refine g_aload_n hk 1 dX1_cutSpan_53 rfl ?_
    refine gfX1_38 hk dX1_cutSpan_54 ?_
    refine g_iload_n hk 2 dX1_cutSpan_57 rfl ?_
    obtain ⟨hi1, h⟩ := ck_e h
    refine g_iald hk sh14 dX1_cutSpan_58 hi1 (M.1 14 (ix v1)) rfl ?_
    refine g_iload hk 3 dX1_cutSpan_59 rfl ?_
    refine g_mmax hk mlX1_50 st_max inMath cd_max (by decide) (Nat.le_of_ble_eq_true rfl) dX1_cutSpan_61 ?_
    refine g_goto hk (tgt := 69) dX1_cutSpan_64 (by decide) ?_
    exact g_weak [1, 2, 4, 0] [(0, .ref (z.2.1 8)), (1, .int v1), (5, .int v5), (6, .int s0)] rfl (gjX1_cutSpan_69 hc  M v1 v5 s0 v1 (mxI (M.1 14 (ix v1)) v4) h)
set_option maxHeartbeats 4000000 in
set_option maxRecDepth 100000 in
theorem gjX1_cutSpan_40 {x : Cx} {z : Lay} {r : Int32 × Mem} (hc : okm x z cX1_cutSpan RX1 7 1 (some .boolean) (some (.int r.1)) r.2)  (M : Mem) (v1 : Int32) (v4 : Int32) (v5 : Int32) (h : jX1_cutSpan_40  M v1 v4 v5 = some r) : G x z 7 40 [(0, .ref (z.2.1 8)), (1, .int v1), (4, .int v4), (5, .int v5)] [] M := by
  have hk := hc.1
  unfold jX1_cutSpan_40 at h
  refine g_iconst hk 0 dX1_cutSpan_40 (by decide) ?_
  exact g_weak [0, 1, 2, 3] [(0, .ref (z.2.1 8)), (1, .int v1), (4, .int v4), (5, .int v5)] rfl (gjX1_cutSpan_41 hc  M v1 v4 v5 0 h)
set_option maxHeartbeats 4000000 in
set_option maxRecDepth 100000 in
theorem kX1_cutSpan (l : Launch) (z : Lay) (M : Mem) (v1 : Int32) (v2 : Int32) (v3 : Int32) (r : Int32 × Mem) (h : xX1_cutSpan M v1 v2 v3 = some r) : Con l z yX1_cutSpan cX1_cutSpan 7 (some .boolean) 1 [.ref (z.2.1 8), .int v1, .int v2, .int v3] M (some (.int r.1)) r.2 := by
  refine Con.of (by decide) (Nat.le_of_ble_eq_true rfl) ?_
  intro x hl hc
  subst hl
  have hk : okc x z cX1_cutSpan RX1 7 1 := hc.1
  show G x z 7 0 [(0, .ref (z.2.1 8)), (1, .int v1), (2, .int v2), (3, .int v3)] [] M
  unfold xX1_cutSpan at h
  refine g_iconst hk 0 dX1_cutSpan_0 (by decide) ?_
  refine g_iload_n hk 2 dX1_cutSpan_1 rfl ?_
  refine g_iload_n hk 3 dX1_cutSpan_2 rfl ?_
  refine g_isub hk dX1_cutSpan_3 ?_
  refine g_mmax hk mlX1_50 st_max inMath cd_max (by decide) (Nat.le_of_ble_eq_true rfl) dX1_cutSpan_4 ?_
  refine g_istore hk [(4, .int (mxI 0 (v2 - v3))), (0, .ref (z.2.1 8)), (1, .int v1), (2, .int v2), (3, .int v3)] dX1_cutSpan_7 (by decide) rfl ?_
  refine g_iload_n hk 3 dX1_cutSpan_9 rfl ?_
  refine g_iload_n hk 4 dX1_cutSpan_10 rfl ?_
  refine g_iadd hk dX1_cutSpan_11 ?_
  refine g_istore hk [(5, .int (v2 + v3)), (4, .int (mxI 0 (v2 - v3))), (0, .ref (z.2.1 8)), (1, .int v1), (2, .int v2), (3, .int v3)] dX1_cutSpan_12 (by decide) rfl ?_
  refine g_iload hk 1 dX1_cutSpan_14 rfl ?_
  refine g_aload_n hk 2 dX1_cutSpan_16 rfl ?_
  refine gfX1_41 hk dX1_cutSpan_17 ?_
  refine g_iload_n hk 3 dX1_cutSpan_20 rfl ?_
  obtain ⟨hi1, h⟩ := ck_e h
  refine g_iald hk sh15 dX1_cutSpan_21 hi1 (M.1 15 (ix v1)) rfl ?_
  refine g_icmpgt hk (tgt := 40) dX1_cutSpan_22 (by decide) h (fun h => ?_) (fun h => ?_)
  · exact g_weak [2, 3, 1, 0] [(0, .ref (z.2.1 8)), (1, .int v1), (4, .int (mxI 0 (v2 - v3))), (5, .int (v2 + v3))] rfl (gjX1_cutSpan_40 hc  M v1 (mxI 0 (v2 - v3)) (v2 + v3) h)
  · refine g_iload hk 0 dX1_cutSpan_25 rfl ?_
    refine g_aload_n hk 2 dX1_cutSpan_27 rfl ?_
    refine gfX1_38 hk dX1_cutSpan_28 ?_
    refine g_iload_n hk 3 dX1_cutSpan_31 rfl ?_
    refine g_iald hk sh14 dX1_cutSpan_32 hi1 (M.1 14 (ix v1)) rfl ?_
    refine g_icmplt hk (tgt := 40) dX1_cutSpan_33 (by decide) h (fun h => ?_) (fun h => ?_)
    · exact g_weak [2, 3, 1, 0] [(0, .ref (z.2.1 8)), (1, .int v1), (4, .int (mxI 0 (v2 - v3))), (5, .int (v2 + v3))] rfl (gjX1_cutSpan_40 hc  M v1 (mxI 0 (v2 - v3)) (v2 + v3) h)
    · refine g_iconst hk 1 dX1_cutSpan_36 (by decide) ?_
      refine g_goto hk (tgt := 41) dX1_cutSpan_37 (by decide) ?_
      exact g_weak [2, 3, 1, 0] [(0, .ref (z.2.1 8)), (1, .int v1), (4, .int (mxI 0 (v2 - v3))), (5, .int (v2 + v3))] rfl (gjX1_cutSpan_41 hc  M v1 (mxI 0 (v2 - v3)) (v2 + v3) 1 h)
set_option maxHeartbeats 4000000 in
set_option maxRecDepth 100000 in
theorem kX1_note (l : Launch) (z : Lay) (M : Mem) (v1 : Int32) (v2 : Int32) (v3 : Int32) (r : Mem) (h : xX1_note M v1 v2 v3 = some r) : Con l z yX1_note cX1_note 4 (none) 0 [.ref (z.2.1 8), .int v1, .int v2, .int v3] M (none) r := by
  refine Con.of (by decide) (Nat.le_of_ble_eq_true rfl) ?_
  intro x hl hc
  subst hl
  have hk : okc x z cX1_note RX1 4 0 := hc.1
  show G x z 4 0 [(0, .ref (z.2.1 8)), (1, .int v1), (2, .int v2), (3, .int v3)] [] M
  unfold xX1_note at h
  refine g_aload_n hk 0 dX1_note_0 rfl ?_
  refine gfX1_44 hk dX1_note_1 ?_
  refine g_iload_n hk 1 dX1_note_4 rfl ?_
  obtain ⟨hi1, h⟩ := ck_e h
  refine g_iald hk sh16 dX1_note_5 hi1 (M.1 16 (ix v1)) rfl ?_
  refine g_iload_n hk 2 dX1_note_6 rfl ?_
  refine g_icmpeq hk (tgt := 24) dX1_note_7 (by decide) h (fun h => ?_) (fun h => ?_)
  · exact g_vret (mem := fun q => q) hc rfl dX1_note_24 h retv
  · refine g_aload_n hk 0 dX1_note_10 rfl ?_
    refine gfX1_44 hk dX1_note_11 ?_
    refine g_iload_n hk 1 dX1_note_14 rfl ?_
    refine g_iload_n hk 2 dX1_note_15 rfl ?_
    refine g_iast hk sh16 dX1_note_16 hi1 ?_
    refine g_aload_n hk 0 dX1_note_17 rfl ?_
    refine gfX1_47 hk dX1_note_18 ?_
    refine g_iload_n hk 1 dX1_note_21 rfl ?_
    refine g_iload_n hk 3 dX1_note_22 rfl ?_
    refine g_iast hk sh17 dX1_note_23 hi1 ?_
    exact g_vret (mem := fun q => q) hc rfl dX1_note_24 h retv
set_option maxHeartbeats 4000000 in
set_option maxRecDepth 100000 in
theorem kX1_mostGrowth (l : Launch) (z : Lay) (M : Mem) (v0 : Int32) (v1 : Int32) (v2 : Int32) (r : Int32) (h : xX1_mostGrowth v0 v1 v2 = some r) : Con l z yX1_mostGrowth cX1_mostGrowth 4 (some .int) 0 [.int v0, .int v1, .int v2] M (some (.int r)) M := by
  refine Con.of (by decide) (Nat.le_of_ble_eq_true rfl) ?_
  intro x hl hc
  subst hl
  have hk : okc x z cX1_mostGrowth RX1 4 0 := hc.1
  show G x z 4 0 [(0, .int v0), (1, .int v1), (2, .int v2)] [] M
  unfold xX1_mostGrowth at h
  refine g_iload_n hk 0 dX1_mostGrowth_0 rfl ?_
  refine g_iload_n hk 2 dX1_mostGrowth_1 rfl ?_
  refine g_imul hk dX1_mostGrowth_2 ?_
  refine g_istore_n hk [(3, .int (v0 * v2)), (0, .int v0), (1, .int v1), (2, .int v2)] dX1_mostGrowth_3 rfl (by decide) rfl ?_
  refine g_iload_n hk 2 dX1_mostGrowth_4 rfl ?_
  refine g_bipush hk 15 dX1_mostGrowth_5 (by decide) ?_
  refine g_icmplt hk (tgt := 16) dX1_mostGrowth_7 (by decide) h (fun h => ?_) (fun h => ?_)
  · refine g_iconst hk 1 dX1_mostGrowth_16 (by decide) ?_
    refine g_iload_n hk 0 dX1_mostGrowth_17 rfl ?_
    refine g_bipush hk 100 dX1_mostGrowth_18 (by decide) ?_
    refine g_idiv hk dX1_mostGrowth_20 (by decide) ?_
    refine g_iadd hk dX1_mostGrowth_21 ?_
    exact g_iret (val := fun q => q) (mem := fun _ => M) hc rfl dX1_mostGrowth_22 h ret1
  · refine g_iload_n hk 0 dX1_mostGrowth_10 rfl ?_
    refine g_iload_n hk 0 dX1_mostGrowth_11 rfl ?_
    refine g_iconst hk 2 dX1_mostGrowth_12 (by decide) ?_
    refine g_idiv hk dX1_mostGrowth_13 (by decide) ?_
    refine g_iadd hk dX1_mostGrowth_14 ?_
    refine g_istore_n hk [(3, .int ((v0 * v2) + ((v0 * v2) / 2))), (0, .int v0), (1, .int v1), (2, .int v2)] dX1_mostGrowth_15 rfl (by decide) rfl ?_
    refine g_iconst hk 1 dX1_mostGrowth_16 (by decide) ?_
    refine g_iload_n hk 0 dX1_mostGrowth_17 rfl ?_
    refine g_bipush hk 100 dX1_mostGrowth_18 (by decide) ?_
    refine g_idiv hk dX1_mostGrowth_20 (by decide) ?_
    refine g_iadd hk dX1_mostGrowth_21 ?_
    exact g_iret (val := fun q => q) (mem := fun _ => M) hc rfl dX1_mostGrowth_22 h ret1
set_option maxHeartbeats 4000000 in
set_option maxRecDepth 100000 in
theorem glX1_grow_3 {x : Cx} {z : Lay} {r : Mem} (hc : okm x z cX1_grow RX1 5 1 (none) (none) r)  : ∀ (n : Nat) (M : Mem) (v1 : Int32) (v2 : Int32) (v4 : Int32), lX1_grow_3  n M v1 v2 v4 = some r → G x z 5 3 [(0, .ref (z.2.1 8)), (1, .int v1), (2, .int v2), (3, .ref (z.2.1 3)), (4, .int v4)] [] M := by
  have hk := hc.1
  intro n
  induction n with
  | zero => intro _ _ _ _ h; rw [lX1_grow_3] at h; cases h
  | succ n ih =>
    intro M v1 v2 v4 h
    rw [lX1_grow_3] at h
    refine g_iload hk 4 dX1_grow_3 rfl ?_
    refine g_aload_n hk 0 dX1_grow_5 rfl ?_
    refine gfX1_9 hk dX1_grow_6 (M.1 8 0) rfl ?_
    refine g_icmpge hk (tgt := 52) dX1_grow_9 (by decide) h (fun h => ?_) (fun h => ?_)
    · exact g_vret (mem := fun q => q) hc rfl dX1_grow_52 h retv
    · refine g_aload_n hk 0 dX1_grow_12 rfl ?_
      refine gfX1_34 hk dX1_grow_13 ?_
      refine g_iload hk 4 dX1_grow_16 rfl ?_
      obtain ⟨hi1, h⟩ := ck_e h
      refine g_zald hk sh13 dX1_grow_18 hi1 (M.1 13 (ix v4)) rfl ?_
      refine g_ifeq hk (tgt := 46) dX1_grow_19 (by decide) h (fun h => ?_) (fun h => ?_)
      · refine g_iinc (k := 4) hk [(4, .int (v4 + 1)), (0, .ref (z.2.1 8)), (1, .int v1), (2, .int v2), (3, .ref (z.2.1 3))] dX1_grow_46 rfl rfl (by decide) rfl ?_
        refine g_goto hk (tgt := 3) dX1_grow_49 (by decide) ?_
        exact g_weak [1, 2, 3, 4, 0] [(0, .ref (z.2.1 8)), (1, .int v1), (2, .int v2), (3, .ref (z.2.1 3)), (4, .int (v4 + 1))] rfl (ih M v1 v2 (v4 + 1) h)
      · refine g_aload_n hk 0 dX1_grow_22 rfl ?_
        refine gfX1_41 hk dX1_grow_23 ?_
        refine g_iload hk 4 dX1_grow_26 rfl ?_
        refine g_dup2 hk dX1_grow_28 rfl rfl ?_
        refine g_iald hk sh15 dX1_grow_29 hi1 (M.1 15 (ix v4)) rfl ?_
        refine g_iload_n hk 1 dX1_grow_30 rfl ?_
        refine g_iload_n hk 2 dX1_grow_31 rfl ?_
        refine g_aload_n hk 3 dX1_grow_32 rfl ?_
        refine g_aload_n hk 0 dX1_grow_33 rfl ?_
        refine gfX1_31 hk dX1_grow_34 ?_
        refine g_iload hk 4 dX1_grow_37 rfl ?_
        refine g_iald hk sh12 dX1_grow_39 hi1 (M.1 12 (ix v4)) rfl ?_
        obtain ⟨hi2, h⟩ := ck_e h
        refine g_iald hk sh3 dX1_grow_40 hi2 (M.1 3 (ix (M.1 12 (ix v4)))) rfl ?_
        obtain ⟨r1, hr1, h⟩ := bnd h
        refine g_callSi hk [.int v1, .int v2, .int (M.1 3 (ix (M.1 12 (ix v4))))] _ mtX1_mostGrowth mlX1_59 (by decide) (by decide) rfl rfl (Nat.le_of_ble_eq_true rfl) dX1_grow_41 (kX1_mostGrowth _ z M v1 v2 (M.1 3 (ix (M.1 12 (ix v4)))) r1 hr1) ?_
        refine g_iadd hk dX1_grow_44 ?_
        refine g_iast hk sh15 dX1_grow_45 hi1 ?_
        refine g_iinc (k := 4) hk [(4, .int (v4 + 1)), (0, .ref (z.2.1 8)), (1, .int v1), (2, .int v2), (3, .ref (z.2.1 3))] dX1_grow_46 rfl rfl (by decide) rfl ?_
        refine g_goto hk (tgt := 3) dX1_grow_49 (by decide) ?_
        exact g_weak [1, 2, 3, 4, 0] [(0, .ref (z.2.1 8)), (1, .int v1), (2, .int v2), (3, .ref (z.2.1 3)), (4, .int (v4 + 1))] rfl (ih (upI M 15 (ix v4) ((M.1 15 (ix v4)) + r1)) v1 v2 (v4 + 1) h)
set_option maxHeartbeats 4000000 in
set_option maxRecDepth 100000 in
theorem kX1_grow (l : Launch) (z : Lay) (M : Mem) (v1 : Int32) (v2 : Int32) (r : Mem) (h : xX1_grow M v1 v2 = some r) : Con l z yX1_grow cX1_grow 5 (none) 1 [.ref (z.2.1 8), .int v1, .int v2, .ref (z.2.1 3)] M (none) r := by
  refine Con.of (by decide) (Nat.le_of_ble_eq_true rfl) ?_
  intro x hl hc
  subst hl
  have hk : okc x z cX1_grow RX1 5 1 := hc.1
  show G x z 5 0 [(0, .ref (z.2.1 8)), (1, .int v1), (2, .int v2), (3, .ref (z.2.1 3))] [] M
  unfold xX1_grow at h
  refine g_iconst hk 0 dX1_grow_0 (by decide) ?_
  refine g_istore hk [(4, .int 0), (0, .ref (z.2.1 8)), (1, .int v1), (2, .int v2), (3, .ref (z.2.1 3))] dX1_grow_1 (by decide) rfl ?_
  exact g_weak [1, 2, 3, 4, 0] [(0, .ref (z.2.1 8)), (1, .int v1), (2, .int v2), (3, .ref (z.2.1 3)), (4, .int 0)] rfl (glX1_grow_3 hc  fu M v1 v2 0 h)
set_option maxHeartbeats 4000000 in
set_option maxRecDepth 100000 in
theorem glX1_countOpen_4 {x : Cx} {z : Lay} {r : Int32} {M : Mem} (hc : okm x z cX1_countOpen RX1 3 0 (some .int) (some (.int r)) M)  : ∀ (n : Nat) (v1 : Int32) (v2 : Int32), lX1_countOpen_4  n M v1 v2 = some r → G x z 3 4 [(0, .ref (z.2.1 8)), (1, .int v1), (2, .int v2)] [] M := by
  have hk := hc.1
  intro n
  induction n with
  | zero => intro _ _ h; rw [lX1_countOpen_4] at h; cases h
  | succ n ih =>
    intro v1 v2 h
    rw [lX1_countOpen_4] at h
    refine g_iload_n hk 2 dX1_countOpen_4 rfl ?_
    refine g_aload_n hk 0 dX1_countOpen_5 rfl ?_
    refine gfX1_9 hk dX1_countOpen_6 (M.1 8 0) rfl ?_
    refine g_icmpge hk (tgt := 30) dX1_countOpen_9 (by decide) h (fun h => ?_) (fun h => ?_)
    · refine g_iload_n hk 1 dX1_countOpen_30 rfl ?_
      exact g_iret (val := fun q => q) (mem := fun _ => M) hc rfl dX1_countOpen_31 h ret1
    · refine g_aload_n hk 0 dX1_countOpen_12 rfl ?_
      refine gfX1_34 hk dX1_countOpen_13 ?_
      refine g_iload_n hk 2 dX1_countOpen_16 rfl ?_
      obtain ⟨hi1, h⟩ := ck_e h
      refine g_zald hk sh13 dX1_countOpen_17 hi1 (M.1 13 (ix v2)) rfl ?_
      refine g_ifeq hk (tgt := 24) dX1_countOpen_18 (by decide) h (fun h => ?_) (fun h => ?_)
      · refine g_iinc (k := 2) hk [(2, .int (v2 + 1)), (0, .ref (z.2.1 8)), (1, .int v1)] dX1_countOpen_24 rfl rfl (by decide) rfl ?_
        refine g_goto hk (tgt := 4) dX1_countOpen_27 (by decide) ?_
        exact g_weak [1, 2, 0] [(0, .ref (z.2.1 8)), (1, .int v1), (2, .int (v2 + 1))] rfl (ih v1 (v2 + 1) h)
      · refine g_iinc (k := 1) hk [(1, .int (v1 + 1)), (0, .ref (z.2.1 8)), (2, .int v2)] dX1_countOpen_21 rfl rfl (by decide) rfl ?_
        refine g_iinc (k := 2) hk [(2, .int (v2 + 1)), (1, .int (v1 + 1)), (0, .ref (z.2.1 8))] dX1_countOpen_24 rfl rfl (by decide) rfl ?_
        refine g_goto hk (tgt := 4) dX1_countOpen_27 (by decide) ?_
        exact g_weak [2, 1, 0] [(0, .ref (z.2.1 8)), (1, .int (v1 + 1)), (2, .int (v2 + 1))] rfl (ih (v1 + 1) (v2 + 1) h)
set_option maxHeartbeats 4000000 in
set_option maxRecDepth 100000 in
theorem kX1_countOpen (l : Launch) (z : Lay) (M : Mem)  (r : Int32) (h : xX1_countOpen M = some r) : Con l z yX1_countOpen cX1_countOpen 3 (some .int) 0 [.ref (z.2.1 8)] M (some (.int r)) M := by
  refine Con.of (by decide) (Nat.le_of_ble_eq_true rfl) ?_
  intro x hl hc
  subst hl
  have hk : okc x z cX1_countOpen RX1 3 0 := hc.1
  show G x z 3 0 [(0, .ref (z.2.1 8))] [] M
  unfold xX1_countOpen at h
  refine g_iconst hk 0 dX1_countOpen_0 (by decide) ?_
  refine g_istore_n hk [(1, .int 0), (0, .ref (z.2.1 8))] dX1_countOpen_1 rfl (by decide) rfl ?_
  refine g_iconst hk 0 dX1_countOpen_2 (by decide) ?_
  refine g_istore_n hk [(2, .int 0), (1, .int 0), (0, .ref (z.2.1 8))] dX1_countOpen_3 rfl (by decide) rfl ?_
  exact g_weak [2, 1, 0] [(0, .ref (z.2.1 8)), (1, .int 0), (2, .int 0)] rfl (glX1_countOpen_4 hc  fu 0 0 h)
set_option maxHeartbeats 4000000 in
set_option maxRecDepth 100000 in
theorem glX1_countOpenIn_4 {x : Cx} {z : Lay} {r : Int32} {M : Mem} (hc : okm x z cX1_countOpenIn RX1 4 0 (some .int) (some (.int r)) M)  : ∀ (n : Nat) (v1 : Int32) (v2 : Int32) (v3 : Int32), lX1_countOpenIn_4  n M v1 v2 v3 = some r → G x z 4 4 [(0, .ref (z.2.1 8)), (1, .int v1), (2, .int v2), (3, .int v3)] [] M := by
  have hk := hc.1
  intro n
  induction n with
  | zero => intro _ _ _ h; rw [lX1_countOpenIn_4] at h; cases h
  | succ n ih =>
    intro v1 v2 v3 h
    rw [lX1_countOpenIn_4] at h
    refine g_iload_n hk 3 dX1_countOpenIn_4 rfl ?_
    refine g_aload_n hk 0 dX1_countOpenIn_5 rfl ?_
    refine gfX1_9 hk dX1_countOpenIn_6 (M.1 8 0) rfl ?_
    refine g_icmpge hk (tgt := 40) dX1_countOpenIn_9 (by decide) h (fun h => ?_) (fun h => ?_)
    · refine g_iload_n hk 2 dX1_countOpenIn_40 rfl ?_
      exact g_iret (val := fun q => q) (mem := fun _ => M) hc rfl dX1_countOpenIn_41 h ret1
    · refine g_aload_n hk 0 dX1_countOpenIn_12 rfl ?_
      refine gfX1_34 hk dX1_countOpenIn_13 ?_
      refine g_iload_n hk 3 dX1_countOpenIn_16 rfl ?_
      obtain ⟨hi1, h⟩ := ck_e h
      refine g_zald hk sh13 dX1_countOpenIn_17 hi1 (M.1 13 (ix v3)) rfl ?_
      refine g_ifeq hk (tgt := 34) dX1_countOpenIn_18 (by decide) h (fun h => ?_) (fun h => ?_)
      · refine g_iinc (k := 3) hk [(3, .int (v3 + 1)), (0, .ref (z.2.1 8)), (1, .int v1), (2, .int v2)] dX1_countOpenIn_34 rfl rfl (by decide) rfl ?_
        refine g_goto hk (tgt := 4) dX1_countOpenIn_37 (by decide) ?_
        exact g_weak [1, 2, 3, 0] [(0, .ref (z.2.1 8)), (1, .int v1), (2, .int v2), (3, .int (v3 + 1))] rfl (ih v1 v2 (v3 + 1) h)
      · refine g_aload_n hk 0 dX1_countOpenIn_21 rfl ?_
        refine gfX1_21 hk dX1_countOpenIn_22 ?_
        refine g_iload_n hk 3 dX1_countOpenIn_25 rfl ?_
        refine g_iald hk sh9 dX1_countOpenIn_26 hi1 (M.1 9 (ix v3)) rfl ?_
        refine g_iload_n hk 1 dX1_countOpenIn_27 rfl ?_
        refine g_icmpne hk (tgt := 34) dX1_countOpenIn_28 (by decide) h (fun h => ?_) (fun h => ?_)
        · refine g_iinc (k := 3) hk [(3, .int (v3 + 1)), (0, .ref (z.2.1 8)), (1, .int v1), (2, .int v2)] dX1_countOpenIn_34 rfl rfl (by decide) rfl ?_
          refine g_goto hk (tgt := 4) dX1_countOpenIn_37 (by decide) ?_
          exact g_weak [1, 2, 3, 0] [(0, .ref (z.2.1 8)), (1, .int v1), (2, .int v2), (3, .int (v3 + 1))] rfl (ih v1 v2 (v3 + 1) h)
        · refine g_iinc (k := 2) hk [(2, .int (v2 + 1)), (0, .ref (z.2.1 8)), (1, .int v1), (3, .int v3)] dX1_countOpenIn_31 rfl rfl (by decide) rfl ?_
          refine g_iinc (k := 3) hk [(3, .int (v3 + 1)), (2, .int (v2 + 1)), (0, .ref (z.2.1 8)), (1, .int v1)] dX1_countOpenIn_34 rfl rfl (by decide) rfl ?_
          refine g_goto hk (tgt := 4) dX1_countOpenIn_37 (by decide) ?_
          exact g_weak [2, 3, 1, 0] [(0, .ref (z.2.1 8)), (1, .int v1), (2, .int (v2 + 1)), (3, .int (v3 + 1))] rfl (ih v1 (v2 + 1) (v3 + 1) h)
set_option maxHeartbeats 4000000 in
set_option maxRecDepth 100000 in
theorem kX1_countOpenIn (l : Launch) (z : Lay) (M : Mem) (v1 : Int32) (r : Int32) (h : xX1_countOpenIn M v1 = some r) : Con l z yX1_countOpenIn cX1_countOpenIn 4 (some .int) 0 [.ref (z.2.1 8), .int v1] M (some (.int r)) M := by
  refine Con.of (by decide) (Nat.le_of_ble_eq_true rfl) ?_
  intro x hl hc
  subst hl
  have hk : okc x z cX1_countOpenIn RX1 4 0 := hc.1
  show G x z 4 0 [(0, .ref (z.2.1 8)), (1, .int v1)] [] M
  unfold xX1_countOpenIn at h
  refine g_iconst hk 0 dX1_countOpenIn_0 (by decide) ?_
  refine g_istore_n hk [(2, .int 0), (0, .ref (z.2.1 8)), (1, .int v1)] dX1_countOpenIn_1 rfl (by decide) rfl ?_
  refine g_iconst hk 0 dX1_countOpenIn_2 (by decide) ?_
  refine g_istore_n hk [(3, .int 0), (2, .int 0), (0, .ref (z.2.1 8)), (1, .int v1)] dX1_countOpenIn_3 rfl (by decide) rfl ?_
  exact g_weak [2, 3, 1, 0] [(0, .ref (z.2.1 8)), (1, .int v1), (2, .int 0), (3, .int 0)] rfl (glX1_countOpenIn_4 hc  fu v1 0 0 h)
set_option maxHeartbeats 4000000 in
set_option maxRecDepth 100000 in
theorem glX1_openOne_4 {x : Cx} {z : Lay} {r : Int32} {M : Mem} (hc : okm x z cX1_openOne RX1 4 0 (some .int) (some (.int r)) M)  : ∀ (n : Nat) (v1 : Int32) (v2 : Int32) (v3 : Int32), lX1_openOne_4  n M v1 v2 v3 = some r → G x z 4 4 [(0, .ref (z.2.1 8)), (1, .int v1), (2, .int v2), (3, .int v3)] [] M := by
  have hk := hc.1
  intro n
  induction n with
  | zero => intro _ _ _ h; rw [lX1_openOne_4] at h; cases h
  | succ n ih =>
    intro v1 v2 v3 h
    rw [lX1_openOne_4] at h
    refine g_iload_n hk 3 dX1_openOne_4 rfl ?_
    refine g_aload_n hk 0 dX1_openOne_5 rfl ?_
    refine gfX1_9 hk dX1_openOne_6 (M.1 8 0) rfl ?_
    refine g_icmpge hk (tgt := 37) dX1_openOne_9 (by decide) h (fun h => ?_) (fun h => ?_)
    · refine g_bipush hk (-9) dX1_openOne_37 (by decide) ?_
      exact g_iret (val := fun q => q) (mem := fun _ => M) hc rfl dX1_openOne_39 h ret1
    · refine g_aload_n hk 0 dX1_openOne_12 rfl ?_
      refine gfX1_34 hk dX1_openOne_13 ?_
      refine g_iload_n hk 3 dX1_openOne_16 rfl ?_
      obtain ⟨hi1, h⟩ := ck_e h
      refine g_zald hk sh13 dX1_openOne_17 hi1 (M.1 13 (ix v3)) rfl ?_
      refine g_ifeq hk (tgt := 31) dX1_openOne_18 (by decide) h (fun h => ?_) (fun h => ?_)
      · refine g_iinc (k := 3) hk [(3, .int (v3 + 1)), (0, .ref (z.2.1 8)), (1, .int v1), (2, .int v2)] dX1_openOne_31 rfl rfl (by decide) rfl ?_
        refine g_goto hk (tgt := 4) dX1_openOne_34 (by decide) ?_
        exact g_weak [1, 2, 3, 0] [(0, .ref (z.2.1 8)), (1, .int v1), (2, .int v2), (3, .int (v3 + 1))] rfl (ih v1 v2 (v3 + 1) h)
      · refine g_iload_n hk 2 dX1_openOne_21 rfl ?_
        refine g_iload_n hk 1 dX1_openOne_22 rfl ?_
        refine g_icmpne hk (tgt := 28) dX1_openOne_23 (by decide) h (fun h => ?_) (fun h => ?_)
        · refine g_iinc (k := 2) hk [(2, .int (v2 + 1)), (0, .ref (z.2.1 8)), (1, .int v1), (3, .int v3)] dX1_openOne_28 rfl rfl (by decide) rfl ?_
          refine g_iinc (k := 3) hk [(3, .int (v3 + 1)), (2, .int (v2 + 1)), (0, .ref (z.2.1 8)), (1, .int v1)] dX1_openOne_31 rfl rfl (by decide) rfl ?_
          refine g_goto hk (tgt := 4) dX1_openOne_34 (by decide) ?_
          exact g_weak [2, 3, 1, 0] [(0, .ref (z.2.1 8)), (1, .int v1), (2, .int (v2 + 1)), (3, .int (v3 + 1))] rfl (ih v1 (v2 + 1) (v3 + 1) h)
        · refine g_iload_n hk 3 dX1_openOne_26 rfl ?_
          exact g_iret (val := fun q => q) (mem := fun _ => M) hc rfl dX1_openOne_27 h ret1
set_option maxHeartbeats 4000000 in
set_option maxRecDepth 100000 in
theorem kX1_openOne (l : Launch) (z : Lay) (M : Mem) (v1 : Int32) (r : Int32) (h : xX1_openOne M v1 = some r) : Con l z yX1_openOne cX1_openOne 4 (some .int) 0 [.ref (z.2.1 8), .int v1] M (some (.int r)) M := by
  refine Con.of (by decide) (Nat.le_of_ble_eq_true rfl) ?_
  intro x hl hc
  subst hl
  have hk : okc x z cX1_openOne RX1 4 0 := hc.1
  show G x z 4 0 [(0, .ref (z.2.1 8)), (1, .int v1)] [] M
  unfold xX1_openOne at h
  refine g_iconst hk 0 dX1_openOne_0 (by decide) ?_
  refine g_istore_n hk [(2, .int 0), (0, .ref (z.2.1 8)), (1, .int v1)] dX1_openOne_1 rfl (by decide) rfl ?_
  refine g_iconst hk 0 dX1_openOne_2 (by decide) ?_
  refine g_istore_n hk [(3, .int 0), (2, .int 0), (0, .ref (z.2.1 8)), (1, .int v1)] dX1_openOne_3 rfl (by decide) rfl ?_
  exact g_weak [2, 3, 1, 0] [(0, .ref (z.2.1 8)), (1, .int v1), (2, .int 0), (3, .int 0)] rfl (glX1_openOne_4 hc  fu v1 0 0 h)
set_option maxHeartbeats 4000000 in
set_option maxRecDepth 100000 in
theorem kX6_add (l : Launch) (z : Lay) (M : Mem) (v1 : Int32) (v2 : Int32) (v3 : Int32) (v4 : Int32) (v5 : Int32) (r : Int32 × Mem) (h : xX6_add M v1 v2 v3 v4 v5 = some r) : Con l z yX6_add cX6_add 7 (some .int) 0 [.ref (z.2.1 18), .int v1, .int v2, .int v3, .int v4, .int v5] M (some (.int r.1)) r.2 := by
  refine Con.of (by decide) (Nat.le_of_ble_eq_true rfl) ?_
  intro x hl hc
  subst hl
  have hk : okc x z cX6_add RX6 7 0 := hc.1
  show G x z 7 0 [(0, .ref (z.2.1 18)), (1, .int v1), (2, .int v2), (3, .int v3), (4, .int v4), (5, .int v5)] [] M
  unfold xX6_add at h
  refine g_aload_n hk 0 dX6_add_0 rfl ?_
  refine gfX6_9 hk dX6_add_1 (M.1 18 0) rfl ?_
  refine g_istore hk [(6, .int (M.1 18 0)), (0, .ref (z.2.1 18)), (1, .int v1), (2, .int v2), (3, .int v3), (4, .int v4), (5, .int v5)] dX6_add_4 (by decide) rfl ?_
  refine g_aload_n hk 1 dX6_add_6 rfl ?_
  refine gfX6_22 hk dX6_add_7 ?_
  refine g_iload hk 0 dX6_add_10 rfl ?_
  refine g_iload_n hk 2 dX6_add_12 rfl ?_
  obtain ⟨hi1, h⟩ := ck_e h
  refine g_iast hk sh21 dX6_add_13 hi1 ?_
  refine g_aload_n hk 1 dX6_add_14 rfl ?_
  refine gfX6_25 hk dX6_add_15 ?_
  refine g_iload hk 0 dX6_add_18 rfl ?_
  refine g_iload_n hk 3 dX6_add_20 rfl ?_
  refine g_iast hk sh22 dX6_add_21 hi1 ?_
  refine g_aload_n hk 1 dX6_add_22 rfl ?_
  refine gfX6_28 hk dX6_add_23 ?_
  refine g_iload hk 0 dX6_add_26 rfl ?_
  refine g_iload_n hk 4 dX6_add_28 rfl ?_
  refine g_iast hk sh23 dX6_add_29 hi1 ?_
  refine g_aload_n hk 1 dX6_add_30 rfl ?_
  refine gfX6_15 hk dX6_add_31 ?_
  refine g_iload hk 0 dX6_add_34 rfl ?_
  refine g_iload hk 5 dX6_add_36 rfl ?_
  refine g_iast hk sh19 dX6_add_38 hi1 ?_
  refine g_aload_n hk 1 dX6_add_39 rfl ?_
  refine gfX6_19 hk dX6_add_40 ?_
  refine g_iload hk 0 dX6_add_43 rfl ?_
  refine g_iload hk 6 dX6_add_45 rfl ?_
  refine g_iast hk sh20 dX6_add_47 hi1 ?_
  refine g_aload_n hk 1 dX6_add_48 rfl ?_
  refine g_dup hk dX6_add_49 rfl ?_
  refine gfX6_9 hk dX6_add_50 (M.1 18 0) rfl ?_
  refine g_iconst hk 1 dX6_add_53 (by decide) ?_
  refine g_iadd hk dX6_add_54 ?_
  refine pfX6_9 hk dX6_add_55 ?_
  refine g_iload hk 0 dX6_add_58 rfl ?_
  exact g_iret (val := fun q => q.1) (mem := fun q => q.2) hc rfl dX6_add_60 h ret2
set_option maxHeartbeats 4000000 in
set_option maxRecDepth 100000 in
theorem kX6_goesBefore (l : Launch) (z : Lay) (M : Mem) (v1 : Int32) (v2 : Int32) (r : Int32) (h : xX6_goesBefore M v1 v2 = some r) : Con l z yX6_goesBefore cX6_goesBefore 3 (some .boolean) 0 [.ref (z.2.1 18), .int v1, .int v2] M (some (.int r)) M := by
  refine Con.of (by decide) (Nat.le_of_ble_eq_true rfl) ?_
  intro x hl hc
  subst hl
  have hk : okc x z cX6_goesBefore RX6 3 0 := hc.1
  show G x z 3 0 [(0, .ref (z.2.1 18)), (1, .int v1), (2, .int v2)] [] M
  unfold xX6_goesBefore at h
  refine g_aload_n hk 0 dX6_goesBefore_0 rfl ?_
  refine gfX6_25 hk dX6_goesBefore_1 ?_
  refine g_iload_n hk 1 dX6_goesBefore_4 rfl ?_
  obtain ⟨hi1, h⟩ := ck_e h
  refine g_iald hk sh22 dX6_goesBefore_5 hi1 (M.1 22 (ix v1)) rfl ?_
  refine g_aload_n hk 0 dX6_goesBefore_6 rfl ?_
  refine gfX6_25 hk dX6_goesBefore_7 ?_
  refine g_iload_n hk 2 dX6_goesBefore_10 rfl ?_
  obtain ⟨hi2, h⟩ := ck_e h
  refine g_iald hk sh22 dX6_goesBefore_11 hi2 (M.1 22 (ix v2)) rfl ?_
  refine g_icmpeq hk (tgt := 36) dX6_goesBefore_12 (by decide) h (fun h => ?_) (fun h => ?_)
  · refine g_aload_n hk 0 dX6_goesBefore_36 rfl ?_
    refine gfX6_28 hk dX6_goesBefore_37 ?_
    refine g_iload_n hk 1 dX6_goesBefore_40 rfl ?_
    refine g_iald hk sh23 dX6_goesBefore_41 hi1 (M.1 23 (ix v1)) rfl ?_
    refine g_aload_n hk 0 dX6_goesBefore_42 rfl ?_
    refine gfX6_28 hk dX6_goesBefore_43 ?_
    refine g_iload_n hk 2 dX6_goesBefore_46 rfl ?_
    refine g_iald hk sh23 dX6_goesBefore_47 hi2 (M.1 23 (ix v2)) rfl ?_
    refine g_icmple hk (tgt := 55) dX6_goesBefore_48 (by decide) h (fun h => ?_) (fun h => ?_)
    · refine g_iconst hk 0 dX6_goesBefore_55 (by decide) ?_
      exact g_zret (val := fun q => q) (mem := fun _ => M) hc rfl dX6_goesBefore_56 h ret1 (by decide)
    · refine g_iconst hk 1 dX6_goesBefore_51 (by decide) ?_
      refine g_goto hk (tgt := 56) dX6_goesBefore_52 (by decide) ?_
      exact g_zret (val := fun q => q) (mem := fun _ => M) hc rfl dX6_goesBefore_56 h ret1 (by decide)
  · refine g_aload_n hk 0 dX6_goesBefore_15 rfl ?_
    refine gfX6_25 hk dX6_goesBefore_16 ?_
    refine g_iload_n hk 1 dX6_goesBefore_19 rfl ?_
    refine g_iald hk sh22 dX6_goesBefore_20 hi1 (M.1 22 (ix v1)) rfl ?_
    refine g_aload_n hk 0 dX6_goesBefore_21 rfl ?_
    refine gfX6_25 hk dX6_goesBefore_22 ?_
    refine g_iload_n hk 2 dX6_goesBefore_25 rfl ?_
    refine g_iald hk sh22 dX6_goesBefore_26 hi2 (M.1 22 (ix v2)) rfl ?_
    refine g_icmple hk (tgt := 34) dX6_goesBefore_27 (by decide) h (fun h => ?_) (fun h => ?_)
    · refine g_iconst hk 0 dX6_goesBefore_34 (by decide) ?_
      exact g_zret (val := fun q => q) (mem := fun _ => M) hc rfl dX6_goesBefore_35 h ret1 (by decide)
    · refine g_iconst hk 1 dX6_goesBefore_30 (by decide) ?_
      refine g_goto hk (tgt := 35) dX6_goesBefore_31 (by decide) ?_
      exact g_zret (val := fun q => q) (mem := fun _ => M) hc rfl dX6_goesBefore_35 h ret1 (by decide)
set_option maxHeartbeats 4000000 in
set_option maxRecDepth 100000 in
theorem gjX6_inForce_54 {x : Cx} {z : Lay} {r : Int32} {M : Mem} (hc : okm x z cX6_inForce RX6 7 1 (some .int) (some (.int r)) M) (f7 : Mem → Int32 → Int32 → Int32 → Int32 → Int32 → Option (Int32)) (hf7 : ∀ (v1 : Int32) (v2 : Int32) (v3 : Int32) (v4 : Int32) (v5 : Int32), f7 M v1 v2 v3 v4 v5 = some r → G x z 7 7 [(0, .ref (z.2.1 18)), (1, .int v1), (2, .int v2), (3, .int v3), (4, .int v4), (5, .int v5)] [] M) (v1 : Int32) (v2 : Int32) (v3 : Int32) (v4 : Int32) (v5 : Int32) (s0 : Int32) (h : jX6_inForce_54 f7 M v1 v2 v3 v4 v5 s0 = some r) : G x z 7 54 [(0, .ref (z.2.1 18)), (1, .int v1), (2, .int v2), (3, .int v3), (4, .int v4), (5, .int v5)] [.int s0] M := by
  have hk := hc.1
  unfold jX6_inForce_54 at h
  refine g_istore hk [(6, .int s0), (0, .ref (z.2.1 18)), (1, .int v1), (2, .int v2), (3, .int v3), (4, .int v4), (5, .int v5)] dX6_inForce_54 (by decide) rfl ?_
  refine g_iload hk 0 dX6_inForce_56 rfl ?_
  refine g_ifeq hk (tgt := 83) dX6_inForce_58 (by decide) h (fun h => ?_) (fun h => ?_)
  · refine g_iinc (k := 6) hk [(5, .int (v5 + 1)), (6, .int s0), (0, .ref (z.2.1 18)), (1, .int v1), (2, .int v2), (3, .int v3), (4, .int v4)] dX6_inForce_83 rfl rfl (by decide) rfl ?_
    refine g_goto hk (tgt := 7) dX6_inForce_86 (by decide) ?_
    exact g_weak [2, 3, 4, 5, 6, 0] [(0, .ref (z.2.1 18)), (1, .int v1), (2, .int v2), (3, .int v3), (4, .int v4), (5, .int (v5 + 1))] rfl (hf7 v1 v2 v3 v4 (v5 + 1) h)
  · refine g_iload hk 5 dX6_inForce_61 rfl ?_
    refine g_bipush hk (-9) dX6_inForce_63 (by decide) ?_
    refine g_icmpeq hk (tgt := 79) dX6_inForce_65 (by decide) h (fun h => ?_) (fun h => ?_)
    · refine g_iload hk 6 dX6_inForce_79 rfl ?_
      refine g_istore hk [(4, .int v5), (6, .int s0), (0, .ref (z.2.1 18)), (1, .int v1), (2, .int v2), (3, .int v3), (5, .int v5)] dX6_inForce_81 (by decide) rfl ?_
      refine g_iinc (k := 6) hk [(5, .int (v5 + 1)), (4, .int v5), (6, .int s0), (0, .ref (z.2.1 18)), (1, .int v1), (2, .int v2), (3, .int v3)] dX6_inForce_83 rfl rfl (by decide) rfl ?_
      refine g_goto hk (tgt := 7) dX6_inForce_86 (by decide) ?_
      exact g_weak [3, 4, 5, 6, 1, 0] [(0, .ref (z.2.1 18)), (1, .int v1), (2, .int v2), (3, .int v3), (4, .int v5), (5, .int (v5 + 1))] rfl (hf7 v1 v2 v3 v5 (v5 + 1) h)
    · refine g_aload_n hk 1 dX6_inForce_68 rfl ?_
      refine g_iload hk 5 dX6_inForce_69 rfl ?_
      refine g_iload hk 6 dX6_inForce_71 rfl ?_
      obtain ⟨r1, hr1, h⟩ := bnd h
      refine g_callVi hk [.int v4, .int v5] _ sh18 rfl mtX6_goesBefore mlX6_31 (by decide) (by decide) rfl rfl (Nat.le_of_ble_eq_true rfl) dX6_inForce_73 (kX6_goesBefore _ z M v4 v5 r1 hr1) ?_
      refine g_ifne hk (tgt := 83) dX6_inForce_76 (by decide) h (fun h => ?_) (fun h => ?_)
      · refine g_iinc (k := 6) hk [(5, .int (v5 + 1)), (6, .int s0), (0, .ref (z.2.1 18)), (1, .int v1), (2, .int v2), (3, .int v3), (4, .int v4)] dX6_inForce_83 rfl rfl (by decide) rfl ?_
        refine g_goto hk (tgt := 7) dX6_inForce_86 (by decide) ?_
        exact g_weak [2, 3, 4, 5, 6, 0] [(0, .ref (z.2.1 18)), (1, .int v1), (2, .int v2), (3, .int v3), (4, .int v4), (5, .int (v5 + 1))] rfl (hf7 v1 v2 v3 v4 (v5 + 1) h)
      · refine g_iload hk 6 dX6_inForce_79 rfl ?_
        refine g_istore hk [(4, .int v5), (6, .int s0), (0, .ref (z.2.1 18)), (1, .int v1), (2, .int v2), (3, .int v3), (5, .int v5)] dX6_inForce_81 (by decide) rfl ?_
        refine g_iinc (k := 6) hk [(5, .int (v5 + 1)), (4, .int v5), (6, .int s0), (0, .ref (z.2.1 18)), (1, .int v1), (2, .int v2), (3, .int v3)] dX6_inForce_83 rfl rfl (by decide) rfl ?_
        refine g_goto hk (tgt := 7) dX6_inForce_86 (by decide) ?_
        exact g_weak [3, 4, 5, 6, 1, 0] [(0, .ref (z.2.1 18)), (1, .int v1), (2, .int v2), (3, .int v3), (4, .int v5), (5, .int (v5 + 1))] rfl (hf7 v1 v2 v3 v5 (v5 + 1) h)
set_option maxHeartbeats 4000000 in
set_option maxRecDepth 100000 in
theorem gjX6_inForce_53 {x : Cx} {z : Lay} {r : Int32} {M : Mem} (hc : okm x z cX6_inForce RX6 7 1 (some .int) (some (.int r)) M) (f7 : Mem → Int32 → Int32 → Int32 → Int32 → Int32 → Option (Int32)) (hf7 : ∀ (v1 : Int32) (v2 : Int32) (v3 : Int32) (v4 : Int32) (v5 : Int32), f7 M v1 v2 v3 v4 v5 = some r → G x z 7 7 [(0, .ref (z.2.1 18)), (1, .int v1), (2, .int v2), (3, .int v3), (4, .int v4), (5, .int v5)] [] M) (v1 : Int32) (v2 : Int32) (v3 : Int32) (v4 : Int32) (v5 : Int32) (h : jX6_inForce_53 f7 M v1 v2 v3 v4 v5 = some r) : G x z 7 53 [(0, .ref (z.2.1 18)), (1, .int v1), (2, .int v2), (3, .int v3), (4, .int v4), (5, .int v5)] [] M := by
  have hk := hc.1
  unfold jX6_inForce_53 at h
  refine g_iconst hk 0 dX6_inForce_53 (by decide) ?_
  exact g_weak [0, 1, 2, 3, 4, 5] [(0, .ref (z.2.1 18)), (1, .int v1), (2, .int v2), (3, .int v3), (4, .int v4), (5, .int v5)] rfl (gjX6_inForce_54 hc f7 hf7 v1 v2 v3 v4 v5 0 h)
set_option maxHeartbeats 4000000 in
set_option maxRecDepth 100000 in
theorem glX6_inForce_7 {x : Cx} {z : Lay} {r : Int32} {M : Mem} (hc : okm x z cX6_inForce RX6 7 1 (some .int) (some (.int r)) M)  : ∀ (n : Nat) (v1 : Int32) (v2 : Int32) (v3 : Int32) (v4 : Int32) (v5 : Int32), lX6_inForce_7  n M v1 v2 v3 v4 v5 = some r → G x z 7 7 [(0, .ref (z.2.1 18)), (1, .int v1), (2, .int v2), (3, .int v3), (4, .int v4), (5, .int v5)] [] M := by
  have hk := hc.1
  intro n
  induction n with
  | zero => intro _ _ _ _ _ h; rw [lX6_inForce_7] at h; cases h
  | succ n ih =>
    intro v1 v2 v3 v4 v5 h
    rw [lX6_inForce_7] at h
    refine g_iload hk 5 dX6_inForce_7 rfl ?_
    refine g_aload_n hk 0 dX6_inForce_9 rfl ?_
    refine gfX6_9 hk dX6_inForce_10 (M.1 18 0) rfl ?_
    refine g_icmpge hk (tgt := 89) dX6_inForce_13 (by decide) h (fun h => ?_) (fun h => ?_)
    · refine g_iload hk 4 dX6_inForce_89 rfl ?_
      exact g_iret (val := fun q => q) (mem := fun _ => M) hc rfl dX6_inForce_91 h ret1
    · refine g_aload_n hk 0 dX6_inForce_16 rfl ?_
      refine gfX6_22 hk dX6_inForce_17 ?_
      refine g_iload hk 5 dX6_inForce_20 rfl ?_
      obtain ⟨hi1, h⟩ := ck_e h
      refine g_iald hk sh21 dX6_inForce_22 hi1 (M.1 21 (ix v5)) rfl ?_
      refine g_iload_n hk 1 dX6_inForce_23 rfl ?_
      refine g_icmpne hk (tgt := 53) dX6_inForce_24 (by decide) h (fun h => ?_) (fun h => ?_)
      · exact g_weak [0, 1, 2, 3, 4, 5] [(0, .ref (z.2.1 18)), (1, .int v1), (2, .int v2), (3, .int v3), (4, .int v4), (5, .int v5)] rfl (gjX6_inForce_53 hc (lX6_inForce_7  n) ih v1 v2 v3 v4 v5 h)
      · refine g_aload_n hk 0 dX6_inForce_27 rfl ?_
        refine gfX6_28 hk dX6_inForce_28 ?_
        refine g_iload hk 5 dX6_inForce_31 rfl ?_
        refine g_iald hk sh23 dX6_inForce_33 hi1 (M.1 23 (ix v5)) rfl ?_
        refine g_iload_n hk 3 dX6_inForce_34 rfl ?_
        refine g_icmpgt hk (tgt := 53) dX6_inForce_35 (by decide) h (fun h => ?_) (fun h => ?_)
        · exact g_weak [0, 1, 2, 3, 4, 5] [(0, .ref (z.2.1 18)), (1, .int v1), (2, .int v2), (3, .int v3), (4, .int v4), (5, .int v5)] rfl (gjX6_inForce_53 hc (lX6_inForce_7  n) ih v1 v2 v3 v4 v5 h)
        · refine g_aload_n hk 0 dX6_inForce_38 rfl ?_
          refine gfX6_25 hk dX6_inForce_39 ?_
          refine g_iload hk 5 dX6_inForce_42 rfl ?_
          refine g_iald hk sh22 dX6_inForce_44 hi1 (M.1 22 (ix v5)) rfl ?_
          refine g_iload_n hk 2 dX6_inForce_45 rfl ?_
          refine g_icmpgt hk (tgt := 53) dX6_inForce_46 (by decide) h (fun h => ?_) (fun h => ?_)
          · exact g_weak [0, 1, 2, 3, 4, 5] [(0, .ref (z.2.1 18)), (1, .int v1), (2, .int v2), (3, .int v3), (4, .int v4), (5, .int v5)] rfl (gjX6_inForce_53 hc (lX6_inForce_7  n) ih v1 v2 v3 v4 v5 h)
          · refine g_iconst hk 1 dX6_inForce_49 (by decide) ?_
            refine g_goto hk (tgt := 54) dX6_inForce_50 (by decide) ?_
            exact g_weak [0, 1, 2, 3, 4, 5] [(0, .ref (z.2.1 18)), (1, .int v1), (2, .int v2), (3, .int v3), (4, .int v4), (5, .int v5)] rfl (gjX6_inForce_54 hc (lX6_inForce_7  n) ih v1 v2 v3 v4 v5 1 h)
set_option maxHeartbeats 4000000 in
set_option maxRecDepth 100000 in
theorem kX6_inForce (l : Launch) (z : Lay) (M : Mem) (v1 : Int32) (v2 : Int32) (v3 : Int32) (r : Int32) (h : xX6_inForce M v1 v2 v3 = some r) : Con l z yX6_inForce cX6_inForce 7 (some .int) 1 [.ref (z.2.1 18), .int v1, .int v2, .int v3] M (some (.int r)) M := by
  refine Con.of (by decide) (Nat.le_of_ble_eq_true rfl) ?_
  intro x hl hc
  subst hl
  have hk : okc x z cX6_inForce RX6 7 1 := hc.1
  show G x z 7 0 [(0, .ref (z.2.1 18)), (1, .int v1), (2, .int v2), (3, .int v3)] [] M
  unfold xX6_inForce at h
  refine g_bipush hk (-9) dX6_inForce_0 (by decide) ?_
  refine g_istore hk [(4, .int (-9)), (0, .ref (z.2.1 18)), (1, .int v1), (2, .int v2), (3, .int v3)] dX6_inForce_2 (by decide) rfl ?_
  refine g_iconst hk 0 dX6_inForce_4 (by decide) ?_
  refine g_istore hk [(5, .int 0), (4, .int (-9)), (0, .ref (z.2.1 18)), (1, .int v1), (2, .int v2), (3, .int v3)] dX6_inForce_5 (by decide) rfl ?_
  exact g_weak [2, 3, 4, 5, 1, 0] [(0, .ref (z.2.1 18)), (1, .int v1), (2, .int v2), (3, .int v3), (4, .int (-9)), (5, .int 0)] rfl (glX6_inForce_7 hc  fu v1 v2 v3 (-9) 0 h)
set_option maxHeartbeats 4000000 in
set_option maxRecDepth 100000 in
theorem kX7_standsOn (l : Launch) (z : Lay) (M : Mem) (v1 : Int32) (r : Int32) (h : xX7_standsOn M v1 = some r) : Con l z yX7_standsOn cX7_standsOn 2 (some .boolean) 0 [.ref (z.2.1 24), .int v1] M (some (.int r)) M := by
  refine Con.of (by decide) (Nat.le_of_ble_eq_true rfl) ?_
  intro x hl hc
  subst hl
  have hk : okc x z cX7_standsOn RX7 2 0 := hc.1
  show G x z 2 0 [(0, .ref (z.2.1 24)), (1, .int v1)] [] M
  unfold xX7_standsOn at h
  refine g_aload_n hk 0 dX7_standsOn_0 rfl ?_
  refine gfX7_15 hk dX7_standsOn_1 ?_
  refine g_iload_n hk 1 dX7_standsOn_4 rfl ?_
  obtain ⟨hi1, h⟩ := ck_e h
  refine g_iald hk sh25 dX7_standsOn_5 hi1 (M.1 25 (ix v1)) rfl ?_
  refine g_ifle hk (tgt := 13) dX7_standsOn_6 (by decide) h (fun h => ?_) (fun h => ?_)
  · refine g_iconst hk 0 dX7_standsOn_13 (by decide) ?_
    exact g_zret (val := fun q => q) (mem := fun _ => M) hc rfl dX7_standsOn_14 h ret1 (by decide)
  · refine g_iconst hk 1 dX7_standsOn_9 (by decide) ?_
    refine g_goto hk (tgt := 14) dX7_standsOn_10 (by decide) ?_
    exact g_zret (val := fun q => q) (mem := fun _ => M) hc rfl dX7_standsOn_14 h ret1 (by decide)
set_option maxHeartbeats 4000000 in
set_option maxRecDepth 100000 in
theorem glX7_countStanding_4 {x : Cx} {z : Lay} {r : Int32} {M : Mem} (hc : okm x z cX7_countStanding RX7 3 1 (some .int) (some (.int r)) M)  : ∀ (n : Nat) (v1 : Int32) (v2 : Int32), lX7_countStanding_4  n M v1 v2 = some r → G x z 3 4 [(0, .ref (z.2.1 24)), (1, .int v1), (2, .int v2)] [] M := by
  have hk := hc.1
  intro n
  induction n with
  | zero => intro _ _ h; rw [lX7_countStanding_4] at h; cases h
  | succ n ih =>
    intro v1 v2 h
    rw [lX7_countStanding_4] at h
    refine g_iload_n hk 2 dX7_countStanding_4 rfl ?_
    refine g_bipush hk 20 dX7_countStanding_5 (by decide) ?_
    refine g_icmpge hk (tgt := 27) dX7_countStanding_7 (by decide) h (fun h => ?_) (fun h => ?_)
    · refine g_iload_n hk 1 dX7_countStanding_27 rfl ?_
      exact g_iret (val := fun q => q) (mem := fun _ => M) hc rfl dX7_countStanding_28 h ret1
    · refine g_aload_n hk 0 dX7_countStanding_10 rfl ?_
      refine g_iload_n hk 2 dX7_countStanding_11 rfl ?_
      obtain ⟨r1, hr1, h⟩ := bnd h
      refine g_callVi hk [.int v2] _ sh24 rfl mtX7_standsOn mlX7_19 (by decide) (by decide) rfl rfl (Nat.le_of_ble_eq_true rfl) dX7_countStanding_12 (kX7_standsOn _ z M v2 r1 hr1) ?_
      refine g_ifeq hk (tgt := 21) dX7_countStanding_15 (by decide) h (fun h => ?_) (fun h => ?_)
      · refine g_iinc (k := 2) hk [(2, .int (v2 + 1)), (0, .ref (z.2.1 24)), (1, .int v1)] dX7_countStanding_21 rfl rfl (by decide) rfl ?_
        refine g_goto hk (tgt := 4) dX7_countStanding_24 (by decide) ?_
        exact g_weak [1, 2, 0] [(0, .ref (z.2.1 24)), (1, .int v1), (2, .int (v2 + 1))] rfl (ih v1 (v2 + 1) h)
      · refine g_iinc (k := 1) hk [(1, .int (v1 + 1)), (0, .ref (z.2.1 24)), (2, .int v2)] dX7_countStanding_18 rfl rfl (by decide) rfl ?_
        refine g_iinc (k := 2) hk [(2, .int (v2 + 1)), (1, .int (v1 + 1)), (0, .ref (z.2.1 24))] dX7_countStanding_21 rfl rfl (by decide) rfl ?_
        refine g_goto hk (tgt := 4) dX7_countStanding_24 (by decide) ?_
        exact g_weak [2, 1, 0] [(0, .ref (z.2.1 24)), (1, .int (v1 + 1)), (2, .int (v2 + 1))] rfl (ih (v1 + 1) (v2 + 1) h)
set_option maxHeartbeats 4000000 in
set_option maxRecDepth 100000 in
theorem kX7_countStanding (l : Launch) (z : Lay) (M : Mem)  (r : Int32) (h : xX7_countStanding M = some r) : Con l z yX7_countStanding cX7_countStanding 3 (some .int) 1 [.ref (z.2.1 24)] M (some (.int r)) M := by
  refine Con.of (by decide) (Nat.le_of_ble_eq_true rfl) ?_
  intro x hl hc
  subst hl
  have hk : okc x z cX7_countStanding RX7 3 1 := hc.1
  show G x z 3 0 [(0, .ref (z.2.1 24))] [] M
  unfold xX7_countStanding at h
  refine g_iconst hk 0 dX7_countStanding_0 (by decide) ?_
  refine g_istore_n hk [(1, .int 0), (0, .ref (z.2.1 24))] dX7_countStanding_1 rfl (by decide) rfl ?_
  refine g_iconst hk 0 dX7_countStanding_2 (by decide) ?_
  refine g_istore_n hk [(2, .int 0), (1, .int 0), (0, .ref (z.2.1 24))] dX7_countStanding_3 rfl (by decide) rfl ?_
  exact g_weak [2, 1, 0] [(0, .ref (z.2.1 24)), (1, .int 0), (2, .int 0)] rfl (glX7_countStanding_4 hc  fu 0 0 h)
set_option maxHeartbeats 4000000 in
set_option maxRecDepth 100000 in
theorem glX7_passDay_2 {x : Cx} {z : Lay} {r : Mem} (hc : okm x z cX7_passDay RX7 3 0 (none) (none) r)  : ∀ (n : Nat) (M : Mem) (v1 : Int32) (v2 : Int32), lX7_passDay_2  n M v1 v2 = some r → G x z 3 2 [(0, .ref (z.2.1 24)), (1, .int v1), (2, .int v2)] [] M := by
  have hk := hc.1
  intro n
  induction n with
  | zero => intro _ _ _ h; rw [lX7_passDay_2] at h; cases h
  | succ n ih =>
    intro M v1 v2 h
    rw [lX7_passDay_2] at h
    refine g_iload_n hk 2 dX7_passDay_2 rfl ?_
    refine g_bipush hk 20 dX7_passDay_3 (by decide) ?_
    refine g_icmpge hk (tgt := 31) dX7_passDay_5 (by decide) h (fun h => ?_) (fun h => ?_)
    · exact g_vret (mem := fun q => q) hc rfl dX7_passDay_31 h retv
    · refine g_aload_n hk 0 dX7_passDay_8 rfl ?_
      refine g_dup hk dX7_passDay_9 rfl ?_
      refine gfX7_9 hk dX7_passDay_10 (M.1 24 0) rfl ?_
      refine g_aload_n hk 0 dX7_passDay_13 rfl ?_
      refine gfX7_15 hk dX7_passDay_14 ?_
      refine g_iload_n hk 2 dX7_passDay_17 rfl ?_
      obtain ⟨hi1, h⟩ := ck_e h
      refine g_iald hk sh25 dX7_passDay_18 hi1 (M.1 25 (ix v2)) rfl ?_
      refine g_iload_n hk 1 dX7_passDay_19 rfl ?_
      refine g_imul hk dX7_passDay_20 ?_
      refine g_iadd hk dX7_passDay_21 ?_
      refine pfX7_9 hk dX7_passDay_22 ?_
      refine g_iinc (k := 2) hk [(2, .int (v2 + 1)), (0, .ref (z.2.1 24)), (1, .int v1)] dX7_passDay_25 rfl rfl (by decide) rfl ?_
      refine g_goto hk (tgt := 2) dX7_passDay_28 (by decide) ?_
      exact g_weak [1, 2, 0] [(0, .ref (z.2.1 24)), (1, .int v1), (2, .int (v2 + 1))] rfl (ih (upI M 24 0 ((M.1 24 0) + ((M.1 25 (ix v2)) * v1))) v1 (v2 + 1) h)
set_option maxHeartbeats 4000000 in
set_option maxRecDepth 100000 in
theorem kX7_passDay (l : Launch) (z : Lay) (M : Mem) (v1 : Int32) (r : Mem) (h : xX7_passDay M v1 = some r) : Con l z yX7_passDay cX7_passDay 3 (none) 0 [.ref (z.2.1 24), .int v1] M (none) r := by
  refine Con.of (by decide) (Nat.le_of_ble_eq_true rfl) ?_
  intro x hl hc
  subst hl
  have hk : okc x z cX7_passDay RX7 3 0 := hc.1
  show G x z 3 0 [(0, .ref (z.2.1 24)), (1, .int v1)] [] M
  unfold xX7_passDay at h
  refine g_iconst hk 0 dX7_passDay_0 (by decide) ?_
  refine g_istore_n hk [(2, .int 0), (0, .ref (z.2.1 24)), (1, .int v1)] dX7_passDay_1 rfl (by decide) rfl ?_
  exact g_weak [1, 2, 0] [(0, .ref (z.2.1 24)), (1, .int v1), (2, .int 0)] rfl (glX7_passDay_2 hc  fu M v1 0 h)
set_option maxHeartbeats 4000000 in
set_option maxRecDepth 100000 in
theorem kX8_add (l : Launch) (z : Lay) (M : Mem) (v1 : Int32) (v2 : Int32) (r : Int32 × Mem) (h : xX8_add M v1 v2 = some r) : Con l z yX8_add cX8_add 4 (some .int) 0 [.ref (z.2.1 26), .int v1, .int v2] M (some (.int r.1)) r.2 := by
  refine Con.of (by decide) (Nat.le_of_ble_eq_true rfl) ?_
  intro x hl hc
  subst hl
  have hk : okc x z cX8_add RX8 4 0 := hc.1
  show G x z 4 0 [(0, .ref (z.2.1 26)), (1, .int v1), (2, .int v2)] [] M
  unfold xX8_add at h
  refine g_aload_n hk 0 dX8_add_0 rfl ?_
  refine gfX8_9 hk dX8_add_1 (M.1 26 0) rfl ?_
  refine g_istore_n hk [(3, .int (M.1 26 0)), (0, .ref (z.2.1 26)), (1, .int v1), (2, .int v2)] dX8_add_4 rfl (by decide) rfl ?_
  refine g_aload_n hk 1 dX8_add_5 rfl ?_
  refine gfX8_15 hk dX8_add_6 ?_
  refine g_iload_n hk 0 dX8_add_9 rfl ?_
  refine g_iload_n hk 2 dX8_add_10 rfl ?_
  obtain ⟨hi1, h⟩ := ck_e h
  refine g_iast hk sh27 dX8_add_11 hi1 ?_
  refine g_aload_n hk 1 dX8_add_12 rfl ?_
  refine gfX8_19 hk dX8_add_13 ?_
  refine g_iload_n hk 0 dX8_add_16 rfl ?_
  refine g_iload_n hk 3 dX8_add_17 rfl ?_
  refine g_iast hk sh28 dX8_add_18 hi1 ?_
  refine g_aload_n hk 1 dX8_add_19 rfl ?_
  refine g_dup hk dX8_add_20 rfl ?_
  refine gfX8_9 hk dX8_add_21 (M.1 26 0) rfl ?_
  refine g_iconst hk 1 dX8_add_24 (by decide) ?_
  refine g_iadd hk dX8_add_25 ?_
  refine pfX8_9 hk dX8_add_26 ?_
  refine g_iload_n hk 0 dX8_add_29 rfl ?_
  exact g_iret (val := fun q => q.1) (mem := fun q => q.2) hc rfl dX8_add_30 h ret2
set_option maxHeartbeats 4000000 in
set_option maxRecDepth 100000 in
theorem glX8_clearFrom_45 {x : Cx} {z : Lay} {r : Int32} {M : Mem} (hc : okm x z cX8_clearFrom RX8 12 1 (some .int) (some (.int r)) M) (f6 : Mem → Int32 → Int32 → Int32 → Int32 → Int32 → Int32 → Option (Int32)) (hf6 : ∀ (v1 : Int32) (v2 : Int32) (v3 : Int32) (v4 : Int32) (v5 : Int32) (v6 : Int32), f6 M v1 v2 v3 v4 v5 v6 = some r → G x z 12 6 [(0, .ref (z.2.1 26)), (1, .int v1), (2, .int v2), (3, .int v3), (4, .int v4), (5, .int v5), (6, .int v6)] [] M) : ∀ (n : Nat) (v1 : Int32) (v2 : Int32) (v3 : Int32) (v4 : Int32) (v5 : Int32) (v6 : Int32) (v7 : Int32) (v8 : Int32) (v9 : Int32) (v10 : Int32), lX8_clearFrom_45 f6 n M v1 v2 v3 v4 v5 v6 v7 v8 v9 v10 = some r → G x z 12 45 [(0, .ref (z.2.1 26)), (1, .int v1), (2, .int v2), (3, .int v3), (4, .int v4), (5, .int v5), (6, .int v6), (7, .int v7), (8, .int v8), (9, .int v9), (10, .int v10)] [] M := by
  have hk := hc.1
  intro n
  induction n with
  | zero => intro _ _ _ _ _ _ _ _ _ _ h; rw [lX8_clearFrom_45] at h; cases h
  | succ n ih =>
    intro v1 v2 v3 v4 v5 v6 v7 v8 v9 v10 h
    rw [lX8_clearFrom_45] at h
    refine g_iload hk 10 dX8_clearFrom_45 rfl ?_
    refine g_aload_n hk 0 dX8_clearFrom_47 rfl ?_
    refine gfX8_9 hk dX8_clearFrom_48 (M.1 26 0) rfl ?_
    refine g_icmpge hk (tgt := 110) dX8_clearFrom_51 (by decide) h (fun h => ?_) (fun h => ?_)
    · refine g_iinc (k := 6) hk [(6, .int (v6 + 1)), (0, .ref (z.2.1 26)), (1, .int v1), (2, .int v2), (3, .int v3), (4, .int v4), (5, .int v5), (7, .int v7), (8, .int v8), (9, .int v9), (10, .int v10)] dX8_clearFrom_110 rfl rfl (by decide) rfl ?_
      refine g_goto hk (tgt := 6) dX8_clearFrom_113 (by decide) ?_
      exact g_weak [1, 2, 3, 4, 5, 6, 0] [(0, .ref (z.2.1 26)), (1, .int v1), (2, .int v2), (3, .int v3), (4, .int v4), (5, .int v5), (6, .int (v6 + 1))] rfl (hf6 v1 v2 v3 v4 v5 (v6 + 1) h)
    · refine g_aload_n hk 0 dX8_clearFrom_54 rfl ?_
      refine gfX8_15 hk dX8_clearFrom_55 ?_
      refine g_iload hk 10 dX8_clearFrom_58 rfl ?_
      obtain ⟨hi1, h⟩ := ck_e h
      refine g_iald hk sh27 dX8_clearFrom_60 hi1 (M.1 27 (ix v10)) rfl ?_
      refine g_aload_n hk 0 dX8_clearFrom_61 rfl ?_
      refine gfX8_19 hk dX8_clearFrom_62 ?_
      refine g_iload hk 10 dX8_clearFrom_65 rfl ?_
      refine g_iald hk sh28 dX8_clearFrom_67 hi1 (M.1 28 (ix v10)) rfl ?_
      refine g_iload hk 6 dX8_clearFrom_68 rfl ?_
      refine g_imul hk dX8_clearFrom_70 ?_
      refine g_iadd hk dX8_clearFrom_71 ?_
      refine g_istore hk [(11, .int ((M.1 27 (ix v10)) + ((M.1 28 (ix v10)) * v6))), (0, .ref (z.2.1 26)), (1, .int v1), (2, .int v2), (3, .int v3), (4, .int v4), (5, .int v5), (6, .int v6), (7, .int v7), (8, .int v8), (9, .int v9), (10, .int v10)] dX8_clearFrom_72 (by decide) rfl ?_
      refine g_iload hk 0 dX8_clearFrom_74 rfl ?_
      refine g_iload hk 9 dX8_clearFrom_76 rfl ?_
      refine g_icmplt hk (tgt := 104) dX8_clearFrom_78 (by decide) h (fun h => ?_) (fun h => ?_)
      · refine g_iinc (k := 11) hk [(10, .int (v10 + 1)), (11, .int ((M.1 27 (ix v10)) + ((M.1 28 (ix v10)) * v6))), (0, .ref (z.2.1 26)), (1, .int v1), (2, .int v2), (3, .int v3), (4, .int v4), (5, .int v5), (6, .int v6), (7, .int v7), (8, .int v8), (9, .int v9)] dX8_clearFrom_104 rfl rfl (by decide) rfl ?_
        refine g_goto hk (tgt := 45) dX8_clearFrom_107 (by decide) ?_
        exact g_weak [2, 3, 4, 5, 6, 7, 8, 9, 10, 11, 0] [(0, .ref (z.2.1 26)), (1, .int v1), (2, .int v2), (3, .int v3), (4, .int v4), (5, .int v5), (6, .int v6), (7, .int v7), (8, .int v8), (9, .int v9), (10, .int (v10 + 1))] rfl (ih v1 v2 v3 v4 v5 v6 v7 v8 v9 (v10 + 1) h)
      · refine g_iload hk 0 dX8_clearFrom_81 rfl ?_
        refine g_iload hk 10 dX8_clearFrom_83 rfl ?_
        refine g_icmpgt hk (tgt := 104) dX8_clearFrom_85 (by decide) h (fun h => ?_) (fun h => ?_)
        · refine g_iinc (k := 11) hk [(10, .int (v10 + 1)), (11, .int ((M.1 27 (ix v10)) + ((M.1 28 (ix v10)) * v6))), (0, .ref (z.2.1 26)), (1, .int v1), (2, .int v2), (3, .int v3), (4, .int v4), (5, .int v5), (6, .int v6), (7, .int v7), (8, .int v8), (9, .int v9)] dX8_clearFrom_104 rfl rfl (by decide) rfl ?_
          refine g_goto hk (tgt := 45) dX8_clearFrom_107 (by decide) ?_
          exact g_weak [2, 3, 4, 5, 6, 7, 8, 9, 10, 11, 0] [(0, .ref (z.2.1 26)), (1, .int v1), (2, .int v2), (3, .int v3), (4, .int v4), (5, .int v5), (6, .int v6), (7, .int v7), (8, .int v8), (9, .int v9), (10, .int (v10 + 1))] rfl (ih v1 v2 v3 v4 v5 v6 v7 v8 v9 (v10 + 1) h)
        · refine g_iload hk 6 dX8_clearFrom_88 rfl ?_
          refine g_iload hk 0 dX8_clearFrom_90 rfl ?_
          refine g_iconst hk 5 dX8_clearFrom_92 (by decide) ?_
          refine g_iadd hk dX8_clearFrom_93 ?_
          refine g_iconst hk 1 dX8_clearFrom_94 (by decide) ?_
          refine g_iadd hk dX8_clearFrom_95 ?_
          refine g_iload hk 8 dX8_clearFrom_96 rfl ?_
          refine g_isub hk dX8_clearFrom_98 ?_
          refine g_mmax hk mlX8_22 st_max inMath cd_max (by decide) (Nat.le_of_ble_eq_true rfl) dX8_clearFrom_99 ?_
          refine g_istore hk [(5, .int (mxI v5 (((((M.1 27 (ix v10)) + ((M.1 28 (ix v10)) * v6)) + 5) + 1) - v7))), (11, .int ((M.1 27 (ix v10)) + ((M.1 28 (ix v10)) * v6))), (0, .ref (z.2.1 26)), (1, .int v1), (2, .int v2), (3, .int v3), (4, .int v4), (6, .int v6), (7, .int v7), (8, .int v8), (9, .int v9), (10, .int v10)] dX8_clearFrom_102 (by decide) rfl ?_
          refine g_iinc (k := 11) hk [(10, .int (v10 + 1)), (5, .int (mxI v5 (((((M.1 27 (ix v10)) + ((M.1 28 (ix v10)) * v6)) + 5) + 1) - v7))), (11, .int ((M.1 27 (ix v10)) + ((M.1 28 (ix v10)) * v6))), (0, .ref (z.2.1 26)), (1, .int v1), (2, .int v2), (3, .int v3), (4, .int v4), (6, .int v6), (7, .int v7), (8, .int v8), (9, .int v9)] dX8_clearFrom_104 rfl rfl (by decide) rfl ?_
          refine g_goto hk (tgt := 45) dX8_clearFrom_107 (by decide) ?_
          exact g_weak [3, 4, 5, 6, 7, 1, 8, 9, 10, 11, 0] [(0, .ref (z.2.1 26)), (1, .int v1), (2, .int v2), (3, .int v3), (4, .int v4), (5, .int (mxI v5 (((((M.1 27 (ix v10)) + ((M.1 28 (ix v10)) * v6)) + 5) + 1) - v7))), (6, .int v6), (7, .int v7), (8, .int v8), (9, .int v9), (10, .int (v10 + 1))] rfl (ih v1 v2 v3 v4 (mxI v5 (((((M.1 27 (ix v10)) + ((M.1 28 (ix v10)) * v6)) + 5) + 1) - v7)) v6 v7 v8 v9 (v10 + 1) h)
set_option maxHeartbeats 4000000 in
set_option maxRecDepth 100000 in
theorem glX8_clearFrom_6 {x : Cx} {z : Lay} {r : Int32} {M : Mem} (hc : okm x z cX8_clearFrom RX8 12 1 (some .int) (some (.int r)) M)  : ∀ (n : Nat) (v1 : Int32) (v2 : Int32) (v3 : Int32) (v4 : Int32) (v5 : Int32) (v6 : Int32), lX8_clearFrom_6  n M v1 v2 v3 v4 v5 v6 = some r → G x z 12 6 [(0, .ref (z.2.1 26)), (1, .int v1), (2, .int v2), (3, .int v3), (4, .int v4), (5, .int v5), (6, .int v6)] [] M := by
  have hk := hc.1
  intro n
  induction n with
  | zero => intro _ _ _ _ _ _ h; rw [lX8_clearFrom_6] at h; cases h
  | succ n ih =>
    intro v1 v2 v3 v4 v5 v6 h
    rw [lX8_clearFrom_6] at h
    refine g_iload hk 6 dX8_clearFrom_6 rfl ?_
    refine g_iload_n hk 2 dX8_clearFrom_8 rfl ?_
    refine g_icmpgt hk (tgt := 116) dX8_clearFrom_9 (by decide) h (fun h => ?_) (fun h => ?_)
    · refine g_iload hk 5 dX8_clearFrom_116 rfl ?_
      exact g_iret (val := fun q => q) (mem := fun _ => M) hc rfl dX8_clearFrom_118 h ret1
    · refine g_iload hk 6 dX8_clearFrom_12 rfl ?_
      refine g_iload_n hk 1 dX8_clearFrom_14 rfl ?_
      refine g_isub hk dX8_clearFrom_15 ?_
      refine g_iload hk 4 dX8_clearFrom_16 rfl ?_
      refine g_imul hk dX8_clearFrom_18 ?_
      refine g_istore hk [(7, .int ((v6 - v1) * v4)), (0, .ref (z.2.1 26)), (1, .int v1), (2, .int v2), (3, .int v3), (4, .int v4), (5, .int v5), (6, .int v6)] dX8_clearFrom_19 (by decide) rfl ?_
      refine g_iload_n hk 4 dX8_clearFrom_21 rfl ?_
      refine g_iload hk 0 dX8_clearFrom_22 rfl ?_
      refine g_iadd hk dX8_clearFrom_24 ?_
      refine g_iconst hk 5 dX8_clearFrom_25 (by decide) ?_
      refine g_isub hk dX8_clearFrom_26 ?_
      refine g_istore hk [(8, .int ((v3 + ((v6 - v1) * v4)) - 5)), (7, .int ((v6 - v1) * v4)), (0, .ref (z.2.1 26)), (1, .int v1), (2, .int v2), (3, .int v3), (4, .int v4), (5, .int v5), (6, .int v6)] dX8_clearFrom_27 (by decide) rfl ?_
      refine g_iload_n hk 5 dX8_clearFrom_29 rfl ?_
      refine g_iload hk 1 dX8_clearFrom_30 rfl ?_
      refine g_iadd hk dX8_clearFrom_32 ?_
      refine g_iload hk 6 dX8_clearFrom_33 rfl ?_
      refine g_iadd hk dX8_clearFrom_35 ?_
      refine g_iconst hk 1 dX8_clearFrom_36 (by decide) ?_
      refine g_isub hk dX8_clearFrom_37 ?_
      refine g_iconst hk 5 dX8_clearFrom_38 (by decide) ?_
      refine g_iadd hk dX8_clearFrom_39 ?_
      refine g_istore hk [(9, .int ((((v3 + ((v6 - v1) * v4)) + v4) - 1) + 5)), (8, .int ((v3 + ((v6 - v1) * v4)) - 5)), (7, .int ((v6 - v1) * v4)), (0, .ref (z.2.1 26)), (1, .int v1), (2, .int v2), (3, .int v3), (4, .int v4), (5, .int v5), (6, .int v6)] dX8_clearFrom_40 (by decide) rfl ?_
      refine g_iconst hk 0 dX8_clearFrom_42 (by decide) ?_
      refine g_istore hk [(10, .int 0), (9, .int ((((v3 + ((v6 - v1) * v4)) + v4) - 1) + 5)), (8, .int ((v3 + ((v6 - v1) * v4)) - 5)), (7, .int ((v6 - v1) * v4)), (0, .ref (z.2.1 26)), (1, .int v1), (2, .int v2), (3, .int v3), (4, .int v4), (5, .int v5), (6, .int v6)] dX8_clearFrom_43 (by decide) rfl ?_
      exact g_weak [4, 5, 6, 7, 8, 9, 10, 3, 2, 1, 0] [(0, .ref (z.2.1 26)), (1, .int v1), (2, .int v2), (3, .int v3), (4, .int v4), (5, .int v5), (6, .int v6), (7, .int ((v6 - v1) * v4)), (8, .int ((v3 + ((v6 - v1) * v4)) - 5)), (9, .int ((((v3 + ((v6 - v1) * v4)) + v4) - 1) + 5)), (10, .int 0)] rfl (glX8_clearFrom_45 hc (lX8_clearFrom_6  n) ih fu v1 v2 v3 v4 v5 v6 ((v6 - v1) * v4) ((v3 + ((v6 - v1) * v4)) - 5) ((((v3 + ((v6 - v1) * v4)) + v4) - 1) + 5) 0 h)
set_option maxHeartbeats 4000000 in
set_option maxRecDepth 100000 in
theorem kX8_clearFrom (l : Launch) (z : Lay) (M : Mem) (v1 : Int32) (v2 : Int32) (v3 : Int32) (v4 : Int32) (r : Int32) (h : xX8_clearFrom M v1 v2 v3 v4 = some r) : Con l z yX8_clearFrom cX8_clearFrom 12 (some .int) 1 [.ref (z.2.1 26), .int v1, .int v2, .int v3, .int v4] M (some (.int r)) M := by
  refine Con.of (by decide) (Nat.le_of_ble_eq_true rfl) ?_
  intro x hl hc
  subst hl
  have hk : okc x z cX8_clearFrom RX8 12 1 := hc.1
  show G x z 12 0 [(0, .ref (z.2.1 26)), (1, .int v1), (2, .int v2), (3, .int v3), (4, .int v4)] [] M
  unfold xX8_clearFrom at h
  refine g_iload_n hk 3 dX8_clearFrom_0 rfl ?_
  refine g_istore hk [(5, .int v3), (0, .ref (z.2.1 26)), (1, .int v1), (2, .int v2), (3, .int v3), (4, .int v4)] dX8_clearFrom_1 (by decide) rfl ?_
  refine g_iload_n hk 2 dX8_clearFrom_3 rfl ?_
  refine g_istore hk [(6, .int v1), (5, .int v3), (0, .ref (z.2.1 26)), (1, .int v1), (2, .int v2), (3, .int v3), (4, .int v4)] dX8_clearFrom_4 (by decide) rfl ?_
  exact g_weak [2, 3, 4, 5, 6, 1, 0] [(0, .ref (z.2.1 26)), (1, .int v1), (2, .int v2), (3, .int v3), (4, .int v4), (5, .int v3), (6, .int v1)] rfl (glX8_clearFrom_6 hc  fu v1 v2 v3 v4 v3 v1 h)
set_option maxHeartbeats 4000000 in
set_option maxRecDepth 100000 in
theorem glX8_firstSafe_20 {x : Cx} {z : Lay} {r : Int32} {M : Mem} (hc : okm x z cX8_firstSafe RX8 9 2 (some .int) (some (.int r)) M)  : ∀ (n : Nat) (v1 : Int32) (v2 : Int32) (v4 : Int32) (v5 : Int32) (v6 : Int32) (v7 : Int32), lX8_firstSafe_20  n M v1 v2 v4 v5 v6 v7 = some r → G x z 9 20 [(0, .ref (z.2.1 26)), (1, .int v1), (2, .int v2), (4, .int v4), (5, .int v5), (6, .int v6), (7, .int v7)] [] M := by
  have hk := hc.1
  intro n
  induction n with
  | zero => intro _ _ _ _ _ _ h; rw [lX8_firstSafe_20] at h; cases h
  | succ n ih =>
    intro v1 v2 v4 v5 v6 v7 h
    rw [lX8_firstSafe_20] at h
    refine g_iload hk 6 dX8_firstSafe_20 rfl ?_
    refine g_sipush hk 1440 dX8_firstSafe_22 (by decide) ?_
    refine g_icmpge hk (tgt := 67) dX8_firstSafe_25 (by decide) h (fun h => ?_) (fun h => ?_)
    · refine g_bipush hk (-9) dX8_firstSafe_67 (by decide) ?_
      exact g_iret (val := fun q => q) (mem := fun _ => M) hc rfl dX8_firstSafe_69 h ret1
    · refine g_iload hk 5 dX8_firstSafe_28 rfl ?_
      refine g_iload hk 4 dX8_firstSafe_30 rfl ?_
      refine g_icmpgt hk (tgt := 67) dX8_firstSafe_32 (by decide) h (fun h => ?_) (fun h => ?_)
      · refine g_bipush hk (-9) dX8_firstSafe_67 (by decide) ?_
        exact g_iret (val := fun q => q) (mem := fun _ => M) hc rfl dX8_firstSafe_69 h ret1
      · refine g_aload_n hk 0 dX8_firstSafe_35 rfl ?_
        refine g_iload_n hk 1 dX8_firstSafe_36 rfl ?_
        refine g_iload_n hk 2 dX8_firstSafe_37 rfl ?_
        refine g_iload hk 5 dX8_firstSafe_38 rfl ?_
        refine g_iload hk 3 dX8_firstSafe_40 rfl ?_
        obtain ⟨r1, hr1, h⟩ := bnd h
        refine g_callVi hk [.int v1, .int v2, .int v6, .int v4] _ sh26 rfl mtX8_clearFrom mlX8_28 (by decide) (by decide) rfl rfl (Nat.le_of_ble_eq_true rfl) dX8_firstSafe_42 (kX8_clearFrom _ z M v1 v2 v6 v4 r1 hr1) ?_
        refine g_istore hk [(8, .int r1), (0, .ref (z.2.1 26)), (1, .int v1), (2, .int v2), (4, .int v4), (5, .int v5), (6, .int v6), (7, .int v7)] dX8_firstSafe_45 (by decide) rfl ?_
        refine g_iload hk 0 dX8_firstSafe_47 rfl ?_
        refine g_iload hk 6 dX8_firstSafe_49 rfl ?_
        refine g_icmpne hk (tgt := 57) dX8_firstSafe_51 (by decide) h (fun h => ?_) (fun h => ?_)
        · refine g_iload hk 0 dX8_firstSafe_57 rfl ?_
          refine g_istore hk [(6, .int r1), (8, .int r1), (0, .ref (z.2.1 26)), (1, .int v1), (2, .int v2), (4, .int v4), (5, .int v5), (7, .int v7)] dX8_firstSafe_59 (by decide) rfl ?_
          refine g_iinc (k := 7) hk [(7, .int (v7 + 1)), (6, .int r1), (8, .int r1), (0, .ref (z.2.1 26)), (1, .int v1), (2, .int v2), (4, .int v4), (5, .int v5)] dX8_firstSafe_61 rfl rfl (by decide) rfl ?_
          refine g_goto hk (tgt := 20) dX8_firstSafe_64 (by decide) ?_
          exact g_weak [3, 4, 5, 6, 7, 1, 0] [(0, .ref (z.2.1 26)), (1, .int v1), (2, .int v2), (4, .int v4), (5, .int v5), (6, .int r1), (7, .int (v7 + 1))] rfl (ih v1 v2 v4 v5 r1 (v7 + 1) h)
        · refine g_iload hk 6 dX8_firstSafe_54 rfl ?_
          exact g_iret (val := fun q => q) (mem := fun _ => M) hc rfl dX8_firstSafe_56 h ret1
set_option maxHeartbeats 4000000 in
set_option maxRecDepth 100000 in
theorem kX8_firstSafe (l : Launch) (z : Lay) (M : Mem) (v1 : Int32) (v2 : Int32) (v3 : Int32) (v4 : Int32) (r : Int32) (h : xX8_firstSafe M v1 v2 v3 v4 = some r) : Con l z yX8_firstSafe cX8_firstSafe 9 (some .int) 2 [.ref (z.2.1 26), .int v1, .int v2, .int v3, .int v4] M (some (.int r)) M := by
  refine Con.of (by decide) (Nat.le_of_ble_eq_true rfl) ?_
  intro x hl hc
  subst hl
  have hk : okc x z cX8_firstSafe RX8 9 2 := hc.1
  show G x z 9 0 [(0, .ref (z.2.1 26)), (1, .int v1), (2, .int v2), (3, .int v3), (4, .int v4)] [] M
  unfold xX8_firstSafe at h
  refine g_sipush hk 1440 dX8_firstSafe_0 (by decide) ?_
  refine g_iload_n hk 2 dX8_firstSafe_3 rfl ?_
  refine g_iload_n hk 1 dX8_firstSafe_4 rfl ?_
  refine g_isub hk dX8_firstSafe_5 ?_
  refine g_iconst hk 1 dX8_firstSafe_6 (by decide) ?_
  refine g_iadd hk dX8_firstSafe_7 ?_
  refine g_iload hk 4 dX8_firstSafe_8 rfl ?_
  refine g_imul hk dX8_firstSafe_10 ?_
  refine g_isub hk dX8_firstSafe_11 ?_
  refine g_istore hk [(5, .int (1440 - (((v2 - v1) + 1) * v4))), (0, .ref (z.2.1 26)), (1, .int v1), (2, .int v2), (3, .int v3), (4, .int v4)] dX8_firstSafe_12 (by decide) rfl ?_
  refine g_iload_n hk 4 dX8_firstSafe_14 rfl ?_
  refine g_istore hk [(6, .int v3), (5, .int (1440 - (((v2 - v1) + 1) * v4))), (0, .ref (z.2.1 26)), (1, .int v1), (2, .int v2), (3, .int v3), (4, .int v4)] dX8_firstSafe_15 (by decide) rfl ?_
  refine g_iconst hk 0 dX8_firstSafe_17 (by decide) ?_
  refine g_istore hk [(7, .int 0), (6, .int v3), (5, .int (1440 - (((v2 - v1) + 1) * v4))), (0, .ref (z.2.1 26)), (1, .int v1), (2, .int v2), (3, .int v3), (4, .int v4)] dX8_firstSafe_18 (by decide) rfl ?_
  exact g_weak [3, 4, 5, 7, 2, 1, 0] [(0, .ref (z.2.1 26)), (1, .int v1), (2, .int v2), (4, .int v4), (5, .int (1440 - (((v2 - v1) + 1) * v4))), (6, .int v3), (7, .int 0)] rfl (glX8_firstSafe_20 hc  fu v1 v2 v4 (1440 - (((v2 - v1) + 1) * v4)) v3 0 h)
set_option maxHeartbeats 4000000 in
set_option maxRecDepth 100000 in
theorem kX2_hasRoom (l : Launch) (z : Lay) (M : Mem) (v1 : Int32) (v2 : Int32) (v3 : Int32) (v4 : Int32) (r : Int32) (h : xX2_hasRoom M v1 v2 v3 v4 = some r) : Con l z yX2_hasRoom cX2_hasRoom 5 (some .boolean) 0 [.ref (z.2.1 31), .int v1, .int v2, .int v3, .int v4] M (some (.int r)) M := by
  refine Con.of (by decide) (Nat.le_of_ble_eq_true rfl) ?_
  intro x hl hc
  subst hl
  have hk : okc x z cX2_hasRoom RX2 5 0 := hc.1
  show G x z 5 0 [(0, .ref (z.2.1 31)), (1, .int v1), (2, .int v2), (3, .int v3), (4, .int v4)] [] M
  unfold xX2_hasRoom at h
  refine g_aload_n hk 0 dX2_hasRoom_0 rfl ?_
  refine gfX2_9 hk dX2_hasRoom_1 ?_
  refine g_iload_n hk 1 dX2_hasRoom_4 rfl ?_
  obtain ⟨hi1, h⟩ := ck_e h
  refine g_iald hk sh32 dX2_hasRoom_5 hi1 (M.1 32 (ix v1)) rfl ?_
  refine g_iload_n hk 2 dX2_hasRoom_6 rfl ?_
  refine g_iadd hk dX2_hasRoom_7 ?_
  refine g_bipush hk 99 dX2_hasRoom_8 (by decide) ?_
  refine g_icmpgt hk (tgt := 44) dX2_hasRoom_10 (by decide) h (fun h => ?_) (fun h => ?_)
  · refine g_iconst hk 0 dX2_hasRoom_44 (by decide) ?_
    exact g_zret (val := fun q => q) (mem := fun _ => M) hc rfl dX2_hasRoom_45 h ret1 (by decide)
  · refine g_aload_n hk 0 dX2_hasRoom_13 rfl ?_
    refine gfX2_15 hk dX2_hasRoom_14 ?_
    refine g_iload_n hk 1 dX2_hasRoom_17 rfl ?_
    refine g_iald hk sh33 dX2_hasRoom_18 hi1 (M.1 33 (ix v1)) rfl ?_
    refine g_iload_n hk 3 dX2_hasRoom_19 rfl ?_
    refine g_iadd hk dX2_hasRoom_20 ?_
    refine g_bipush hk 99 dX2_hasRoom_21 (by decide) ?_
    refine g_icmpgt hk (tgt := 44) dX2_hasRoom_23 (by decide) h (fun h => ?_) (fun h => ?_)
    · refine g_iconst hk 0 dX2_hasRoom_44 (by decide) ?_
      exact g_zret (val := fun q => q) (mem := fun _ => M) hc rfl dX2_hasRoom_45 h ret1 (by decide)
    · refine g_aload_n hk 0 dX2_hasRoom_26 rfl ?_
      refine gfX2_18 hk dX2_hasRoom_27 ?_
      refine g_iload_n hk 1 dX2_hasRoom_30 rfl ?_
      refine g_iald hk sh34 dX2_hasRoom_31 hi1 (M.1 34 (ix v1)) rfl ?_
      refine g_iload hk 4 dX2_hasRoom_32 rfl ?_
      refine g_iadd hk dX2_hasRoom_34 ?_
      refine g_bipush hk 99 dX2_hasRoom_35 (by decide) ?_
      refine g_icmpgt hk (tgt := 44) dX2_hasRoom_37 (by decide) h (fun h => ?_) (fun h => ?_)
      · refine g_iconst hk 0 dX2_hasRoom_44 (by decide) ?_
        exact g_zret (val := fun q => q) (mem := fun _ => M) hc rfl dX2_hasRoom_45 h ret1 (by decide)
      · refine g_iconst hk 1 dX2_hasRoom_40 (by decide) ?_
        refine g_goto hk (tgt := 45) dX2_hasRoom_41 (by decide) ?_
        exact g_zret (val := fun q => q) (mem := fun _ => M) hc rfl dX2_hasRoom_45 h ret1 (by decide)
set_option maxHeartbeats 4000000 in
set_option maxRecDepth 100000 in
theorem kX2_add (l : Launch) (z : Lay) (M : Mem) (v1 : Int32) (v2 : Int32) (v3 : Int32) (v4 : Int32) (r : Mem) (h : xX2_add M v1 v2 v3 v4 = some r) : Con l z yX2_add cX2_add 5 (none) 0 [.ref (z.2.1 31), .int v1, .int v2, .int v3, .int v4] M (none) r := by
  refine Con.of (by decide) (Nat.le_of_ble_eq_true rfl) ?_
  intro x hl hc
  subst hl
  have hk : okc x z cX2_add RX2 5 0 := hc.1
  show G x z 5 0 [(0, .ref (z.2.1 31)), (1, .int v1), (2, .int v2), (3, .int v3), (4, .int v4)] [] M
  unfold xX2_add at h
  refine g_aload_n hk 0 dX2_add_0 rfl ?_
  refine gfX2_9 hk dX2_add_1 ?_
  refine g_iload_n hk 1 dX2_add_4 rfl ?_
  refine g_dup2 hk dX2_add_5 rfl rfl ?_
  obtain ⟨hi1, h⟩ := ck_e h
  refine g_iald hk sh32 dX2_add_6 hi1 (M.1 32 (ix v1)) rfl ?_
  refine g_iload_n hk 2 dX2_add_7 rfl ?_
  refine g_iadd hk dX2_add_8 ?_
  refine g_iast hk sh32 dX2_add_9 hi1 ?_
  refine g_aload_n hk 0 dX2_add_10 rfl ?_
  refine gfX2_15 hk dX2_add_11 ?_
  refine g_iload_n hk 1 dX2_add_14 rfl ?_
  refine g_dup2 hk dX2_add_15 rfl rfl ?_
  refine g_iald hk sh33 dX2_add_16 hi1 (M.1 33 (ix v1)) rfl ?_
  refine g_iload_n hk 3 dX2_add_17 rfl ?_
  refine g_iadd hk dX2_add_18 ?_
  refine g_iast hk sh33 dX2_add_19 hi1 ?_
  refine g_aload_n hk 0 dX2_add_20 rfl ?_
  refine gfX2_18 hk dX2_add_21 ?_
  refine g_iload_n hk 1 dX2_add_24 rfl ?_
  refine g_dup2 hk dX2_add_25 rfl rfl ?_
  refine g_iald hk sh34 dX2_add_26 hi1 (M.1 34 (ix v1)) rfl ?_
  refine g_iload hk 4 dX2_add_27 rfl ?_
  refine g_iadd hk dX2_add_29 ?_
  refine g_iast hk sh34 dX2_add_30 hi1 ?_
  exact g_vret (mem := fun q => q) hc rfl dX2_add_31 h retv
set_option maxHeartbeats 4000000 in
set_option maxRecDepth 100000 in
theorem kX2_estimate (l : Launch) (z : Lay) (M : Mem) (v1 : Int32) (r : Int32) (h : xX2_estimate M v1 = some r) : Con l z yX2_estimate cX2_estimate 4 (some .int) 0 [.ref (z.2.1 31), .int v1] M (some (.int r)) M := by
  refine Con.of (by decide) (Nat.le_of_ble_eq_true rfl) ?_
  intro x hl hc
  subst hl
  have hk : okc x z cX2_estimate RX2 4 0 := hc.1
  show G x z 4 0 [(0, .ref (z.2.1 31)), (1, .int v1)] [] M
  unfold xX2_estimate at h
  refine g_aload_n hk 0 dX2_estimate_0 rfl ?_
  refine gfX2_18 hk dX2_estimate_1 ?_
  refine g_iload_n hk 1 dX2_estimate_4 rfl ?_
  obtain ⟨hi1, h⟩ := ck_e h
  refine g_iald hk sh34 dX2_estimate_5 hi1 (M.1 34 (ix v1)) rfl ?_
  refine g_istore_n hk [(2, .int (M.1 34 (ix v1))), (0, .ref (z.2.1 31)), (1, .int v1)] dX2_estimate_6 rfl (by decide) rfl ?_
  refine g_iload_n hk 0 dX2_estimate_7 rfl ?_
  refine g_ifgt hk (tgt := 14) dX2_estimate_8 (by decide) h (fun h => ?_) (fun h => ?_)
  · refine g_aload_n hk 1 dX2_estimate_14 rfl ?_
    refine gfX2_9 hk dX2_estimate_15 ?_
    refine g_iload_n hk 2 dX2_estimate_18 rfl ?_
    refine g_iald hk sh32 dX2_estimate_19 hi1 (M.1 32 (ix v1)) rfl ?_
    refine g_iload_n hk 0 dX2_estimate_20 rfl ?_
    refine g_iadd hk dX2_estimate_21 ?_
    refine g_aload_n hk 1 dX2_estimate_22 rfl ?_
    refine gfX2_15 hk dX2_estimate_23 ?_
    refine g_iload_n hk 2 dX2_estimate_26 rfl ?_
    refine g_iald hk sh33 dX2_estimate_27 hi1 (M.1 33 (ix v1)) rfl ?_
    refine g_iload_n hk 0 dX2_estimate_28 rfl ?_
    refine g_iadd hk dX2_estimate_29 ?_
    refine g_imul hk dX2_estimate_30 ?_
    refine g_istore_n hk [(3, .int (((M.1 32 (ix v1)) + (M.1 34 (ix v1))) * ((M.1 33 (ix v1)) + (M.1 34 (ix v1))))), (2, .int (M.1 34 (ix v1))), (0, .ref (z.2.1 31)), (1, .int v1)] dX2_estimate_31 rfl (by decide) rfl ?_
    refine g_iload_n hk 0 dX2_estimate_32 rfl ?_
    refine g_iload_n hk 1 dX2_estimate_33 rfl ?_
    refine g_iadd hk dX2_estimate_34 ?_
    refine g_iconst hk 1 dX2_estimate_35 (by decide) ?_
    refine g_isub hk dX2_estimate_36 ?_
    refine g_iload_n hk 1 dX2_estimate_37 rfl ?_
    obtain ⟨hi2, h⟩ := ck_e h
    refine g_idiv hk dX2_estimate_38 (by simpa using hi2) ?_
    exact g_iret (val := fun q => q) (mem := fun _ => M) hc rfl dX2_estimate_39 h ret1
  · refine g_bipush hk (-9) dX2_estimate_11 (by decide) ?_
    exact g_iret (val := fun q => q) (mem := fun _ => M) hc rfl dX2_estimate_13 h ret1
set_option maxHeartbeats 4000000 in
set_option maxRecDepth 100000 in
theorem kX2_missed (l : Launch) (z : Lay) (M : Mem) (v1 : Int32) (r : Int32) (h : xX2_missed M v1 = some r) : Con l z yX2_missed cX2_missed 3 (some .int) 1 [.ref (z.2.1 31), .int v1] M (some (.int r)) M := by
  refine Con.of (by decide) (Nat.le_of_ble_eq_true rfl) ?_
  intro x hl hc
  subst hl
  have hk : okc x z cX2_missed RX2 3 1 := hc.1
  show G x z 3 0 [(0, .ref (z.2.1 31)), (1, .int v1)] [] M
  unfold xX2_missed at h
  refine g_aload_n hk 0 dX2_missed_0 rfl ?_
  refine g_iload_n hk 1 dX2_missed_1 rfl ?_
  obtain ⟨r1, hr1, h⟩ := bnd h
  refine g_callVi hk [.int v1] _ sh31 rfl mtX2_estimate mlX2_21 (by decide) (by decide) rfl rfl (Nat.le_of_ble_eq_true rfl) dX2_missed_2 (kX2_estimate _ z M v1 r1 hr1) ?_
  refine g_istore_n hk [(2, .int r1), (0, .ref (z.2.1 31)), (1, .int v1)] dX2_missed_5 rfl (by decide) rfl ?_
  refine g_iload_n hk 0 dX2_missed_6 rfl ?_
  refine g_bipush hk (-9) dX2_missed_7 (by decide) ?_
  refine g_icmpne hk (tgt := 17) dX2_missed_9 (by decide) h (fun h => ?_) (fun h => ?_)
  · refine g_iload_n hk 0 dX2_missed_17 rfl ?_
    refine g_aload_n hk 1 dX2_missed_18 rfl ?_
    refine gfX2_9 hk dX2_missed_19 ?_
    refine g_iload_n hk 2 dX2_missed_22 rfl ?_
    obtain ⟨hi1, h⟩ := ck_e h
    refine g_iald hk sh32 dX2_missed_23 hi1 (M.1 32 (ix v1)) rfl ?_
    refine g_isub hk dX2_missed_24 ?_
    refine g_aload_n hk 1 dX2_missed_25 rfl ?_
    refine gfX2_15 hk dX2_missed_26 ?_
    refine g_iload_n hk 2 dX2_missed_29 rfl ?_
    refine g_iald hk sh33 dX2_missed_30 hi1 (M.1 33 (ix v1)) rfl ?_
    refine g_isub hk dX2_missed_31 ?_
    refine g_aload_n hk 1 dX2_missed_32 rfl ?_
    refine gfX2_18 hk dX2_missed_33 ?_
    refine g_iload_n hk 2 dX2_missed_36 rfl ?_
    refine g_iald hk sh34 dX2_missed_37 hi1 (M.1 34 (ix v1)) rfl ?_
    refine g_isub hk dX2_missed_38 ?_
    exact g_iret (val := fun q => q) (mem := fun _ => M) hc rfl dX2_missed_39 h ret1
  · refine g_bipush hk (-9) dX2_missed_12 (by decide) ?_
    refine g_goto hk (tgt := 39) dX2_missed_14 (by decide) ?_
    exact g_iret (val := fun q => q) (mem := fun _ => M) hc rfl dX2_missed_39 h ret1
set_option maxHeartbeats 4000000 in
set_option maxRecDepth 100000 in
theorem kX0_add (l : Launch) (z : Lay) (M : Mem) (v1 : Int32) (v2 : Int32) (v3 : Int32) (r : Int32 × Mem) (h : xX0_add M v1 v2 v3 = some r) : Con l z yX0_add cX0_add 5 (some .int) 0 [.ref (z.2.1 35), .int v1, .int v2, .int v3] M (some (.int r.1)) r.2 := by
  refine Con.of (by decide) (Nat.le_of_ble_eq_true rfl) ?_
  intro x hl hc
  subst hl
  have hk : okc x z cX0_add RX0 5 0 := hc.1
  show G x z 5 0 [(0, .ref (z.2.1 35)), (1, .int v1), (2, .int v2), (3, .int v3)] [] M
  unfold xX0_add at h
  refine g_aload_n hk 0 dX0_add_0 rfl ?_
  refine gfX0_11 hk dX0_add_1 (M.1 35 0) rfl ?_
  refine g_istore hk [(4, .int (M.1 35 0)), (0, .ref (z.2.1 35)), (1, .int v1), (2, .int v2), (3, .int v3)] dX0_add_4 (by decide) rfl ?_
  refine g_aload_n hk 1 dX0_add_6 rfl ?_
  refine gfX0_15 hk dX0_add_7 ?_
  refine g_iload hk 0 dX0_add_10 rfl ?_
  refine g_iload_n hk 2 dX0_add_12 rfl ?_
  obtain ⟨hi1, h⟩ := ck_e h
  refine g_iast hk sh36 dX0_add_13 hi1 ?_
  refine g_aload_n hk 1 dX0_add_14 rfl ?_
  refine gfX0_19 hk dX0_add_15 ?_
  refine g_iload hk 0 dX0_add_18 rfl ?_
  refine g_iload_n hk 3 dX0_add_20 rfl ?_
  refine g_iast hk sh37 dX0_add_21 hi1 ?_
  refine g_aload_n hk 1 dX0_add_22 rfl ?_
  refine gfX0_22 hk dX0_add_23 ?_
  refine g_iload hk 0 dX0_add_26 rfl ?_
  refine g_iload_n hk 4 dX0_add_28 rfl ?_
  refine g_iast hk sh38 dX0_add_29 hi1 ?_
  refine g_aload_n hk 1 dX0_add_30 rfl ?_
  refine g_dup hk dX0_add_31 rfl ?_
  refine gfX0_11 hk dX0_add_32 (M.1 35 0) rfl ?_
  refine g_iconst hk 1 dX0_add_35 (by decide) ?_
  refine g_iadd hk dX0_add_36 ?_
  refine pfX0_11 hk dX0_add_37 ?_
  refine g_iload hk 0 dX0_add_40 rfl ?_
  exact g_iret (val := fun q => q.1) (mem := fun q => q.2) hc rfl dX0_add_42 h ret2
set_option maxHeartbeats 4000000 in
set_option maxRecDepth 100000 in
theorem gjX0_weighPairs_114 {x : Cx} {z : Lay} {r : Int32 × Mem} (hc : okm x z cX0_weighPairs RX0 9 1 (some .boolean) (some (.int r.1)) r.2) (f6 : Mem → Int32 → Int32 → Int32 → Int32 → Int32 → Option (Int32 × Mem)) (hf6 : ∀ (M : Mem) (v2 : Int32) (v3 : Int32) (v4 : Int32) (v5 : Int32) (v6 : Int32), f6 M v2 v3 v4 v5 v6 = some r → G x z 9 6 [(0, .ref (z.2.1 35)), (1, .ref (z.2.1 8)), (2, .int v2), (3, .int v3), (4, .int v4), (5, .int v5), (6, .int v6)] [] M) (M : Mem) (v2 : Int32) (v3 : Int32) (v4 : Int32) (v5 : Int32) (v6 : Int32) (v8 : Int32) (s1 : Int32) (s2 : Int64) (h : jX0_weighPairs_114 f6 M v2 v3 v4 v5 v6 v8 s1 s2 = some r) : G x z 9 114 [(0, .ref (z.2.1 35)), (1, .ref (z.2.1 8)), (2, .int v2), (3, .int v3), (4, .int v4), (5, .int v5), (6, .int v6), (8, .int v8)] [.long s2, .int s1, .ref (z.2.1 39)] M := by
  have hk := hc.1
  unfold jX0_weighPairs_114 at h
  obtain ⟨hi1, h⟩ := ck_e h
  refine g_last hk sh39 dX0_weighPairs_114 hi1 ?_
  refine g_iload hk 5 dX0_weighPairs_115 rfl ?_
  refine g_ifne hk (tgt := 125) dX0_weighPairs_117 (by decide) h (fun h => ?_) (fun h => ?_)
  · refine g_iconst hk 1 dX0_weighPairs_125 (by decide) ?_
    refine g_goto hk (tgt := 130) dX0_weighPairs_126 (by decide) ?_
    refine g_istore hk [(5, .int 1), (0, .ref (z.2.1 35)), (1, .ref (z.2.1 8)), (2, .int v2), (3, .int v3), (4, .int v4), (6, .int v6), (8, .int v8)] dX0_weighPairs_130 (by decide) rfl ?_
    refine g_iinc (k := 6) hk [(6, .int (v6 + 1)), (5, .int 1), (0, .ref (z.2.1 35)), (1, .ref (z.2.1 8)), (2, .int v2), (3, .int v3), (4, .int v4), (8, .int v8)] dX0_weighPairs_132 rfl rfl (by decide) rfl ?_
    refine g_goto hk (tgt := 6) dX0_weighPairs_135 (by decide) ?_
    exact g_weak [2, 3, 4, 5, 6, 1, 0] [(0, .ref (z.2.1 35)), (1, .ref (z.2.1 8)), (2, .int v2), (3, .int v3), (4, .int v4), (5, .int 1), (6, .int (v6 + 1))] rfl (hf6 (upL M 39 (ix s1) s2) v2 v3 v4 1 (v6 + 1) h)
  · refine g_iload hk 7 dX0_weighPairs_120 rfl ?_
    refine g_ifeq hk (tgt := 129) dX0_weighPairs_122 (by decide) h (fun h => ?_) (fun h => ?_)
    · refine g_iconst hk 0 dX0_weighPairs_129 (by decide) ?_
      refine g_istore hk [(5, .int 0), (0, .ref (z.2.1 35)), (1, .ref (z.2.1 8)), (2, .int v2), (3, .int v3), (4, .int v4), (6, .int v6), (8, .int v8)] dX0_weighPairs_130 (by decide) rfl ?_
      refine g_iinc (k := 6) hk [(6, .int (v6 + 1)), (5, .int 0), (0, .ref (z.2.1 35)), (1, .ref (z.2.1 8)), (2, .int v2), (3, .int v3), (4, .int v4), (8, .int v8)] dX0_weighPairs_132 rfl rfl (by decide) rfl ?_
      refine g_goto hk (tgt := 6) dX0_weighPairs_135 (by decide) ?_
      exact g_weak [2, 3, 4, 5, 6, 1, 0] [(0, .ref (z.2.1 35)), (1, .ref (z.2.1 8)), (2, .int v2), (3, .int v3), (4, .int v4), (5, .int 0), (6, .int (v6 + 1))] rfl (hf6 (upL M 39 (ix s1) s2) v2 v3 v4 0 (v6 + 1) h)
    · refine g_iconst hk 1 dX0_weighPairs_125 (by decide) ?_
      refine g_goto hk (tgt := 130) dX0_weighPairs_126 (by decide) ?_
      refine g_istore hk [(5, .int 1), (0, .ref (z.2.1 35)), (1, .ref (z.2.1 8)), (2, .int v2), (3, .int v3), (4, .int v4), (6, .int v6), (8, .int v8)] dX0_weighPairs_130 (by decide) rfl ?_
      refine g_iinc (k := 6) hk [(6, .int (v6 + 1)), (5, .int 1), (0, .ref (z.2.1 35)), (1, .ref (z.2.1 8)), (2, .int v2), (3, .int v3), (4, .int v4), (8, .int v8)] dX0_weighPairs_132 rfl rfl (by decide) rfl ?_
      refine g_goto hk (tgt := 6) dX0_weighPairs_135 (by decide) ?_
      exact g_weak [2, 3, 4, 5, 6, 1, 0] [(0, .ref (z.2.1 35)), (1, .ref (z.2.1 8)), (2, .int v2), (3, .int v3), (4, .int v4), (5, .int 1), (6, .int (v6 + 1))] rfl (hf6 (upL M 39 (ix s1) s2) v2 v3 v4 1 (v6 + 1) h)
set_option maxHeartbeats 4000000 in
set_option maxRecDepth 100000 in
theorem gjX0_weighPairs_78 {x : Cx} {z : Lay} {r : Int32 × Mem} (hc : okm x z cX0_weighPairs RX0 9 1 (some .boolean) (some (.int r.1)) r.2) (f6 : Mem → Int32 → Int32 → Int32 → Int32 → Int32 → Option (Int32 × Mem)) (hf6 : ∀ (M : Mem) (v2 : Int32) (v3 : Int32) (v4 : Int32) (v5 : Int32) (v6 : Int32), f6 M v2 v3 v4 v5 v6 = some r → G x z 9 6 [(0, .ref (z.2.1 35)), (1, .ref (z.2.1 8)), (2, .int v2), (3, .int v3), (4, .int v4), (5, .int v5), (6, .int v6)] [] M) (M : Mem) (v2 : Int32) (v3 : Int32) (v4 : Int32) (v5 : Int32) (v6 : Int32) (v7 : Int32) (s0 : Int32) (h : jX0_weighPairs_78 f6 M v2 v3 v4 v5 v6 v7 s0 = some r) : G x z 9 78 [(0, .ref (z.2.1 35)), (1, .ref (z.2.1 8)), (2, .int v2), (3, .int v3), (4, .int v4), (5, .int v5), (6, .int v6), (7, .int v7)] [.int s0] M := by
  have hk := hc.1
  unfold jX0_weighPairs_78 at h
  refine g_istore hk [(8, .int s0), (0, .ref (z.2.1 35)), (1, .ref (z.2.1 8)), (2, .int v2), (3, .int v3), (4, .int v4), (5, .int v5), (6, .int v6), (7, .int v7)] dX0_weighPairs_78 (by decide) rfl ?_
  refine g_aload_n hk 1 dX0_weighPairs_80 rfl ?_
  refine gfX0_25 hk dX0_weighPairs_81 ?_
  refine g_iload hk 7 dX0_weighPairs_84 rfl ?_
  refine g_iload hk 0 dX0_weighPairs_86 rfl ?_
  refine g_ifeq hk (tgt := 111) dX0_weighPairs_88 (by decide) h (fun h => ?_) (fun h => ?_)
  · refine g_ldc2 hk kcX0_32 dX0_weighPairs_111 ?_
    exact g_weak [1, 2, 3, 4, 5, 6, 7, 0] [(0, .ref (z.2.1 35)), (1, .ref (z.2.1 8)), (2, .int v2), (3, .int v3), (4, .int v4), (5, .int v5), (6, .int v6), (8, .int s0)] rfl (gjX0_weighPairs_114 hc f6 hf6 M v2 v3 v4 v5 v6 s0 v6 1152921504606846976 h)
  · refine g_iload hk 8 dX0_weighPairs_91 rfl ?_
    refine g_i2l hk dX0_weighPairs_93 ?_
    refine g_ldc2 hk kcX0_66 dX0_weighPairs_94 ?_
    refine g_lmul hk dX0_weighPairs_97 ?_
    refine g_iload_n hk 4 dX0_weighPairs_98 rfl ?_
    refine g_i2l hk dX0_weighPairs_99 ?_
    refine g_gets2 hk lkX0_68 dX0_weighPairs_100 ?_
    refine g_iload hk 7 dX0_weighPairs_103 rfl ?_
    obtain ⟨hi1, h⟩ := ck_e h
    refine g_tab2 hk dX0_weighPairs_105 hi1 ?_
    refine g_lmul hk dX0_weighPairs_106 ?_
    refine g_ladd hk dX0_weighPairs_107 ?_
    refine g_goto hk (tgt := 114) dX0_weighPairs_108 (by decide) ?_
    exact g_weak [1, 2, 3, 4, 5, 6, 7, 0] [(0, .ref (z.2.1 35)), (1, .ref (z.2.1 8)), (2, .int v2), (3, .int v3), (4, .int v4), (5, .int v5), (6, .int v6), (8, .int s0)] rfl (gjX0_weighPairs_114 hc f6 hf6 M v2 v3 v4 v5 v6 s0 v6 (((Int32.toInt64 v7) * 815730721) + ((Int32.toInt64 v3) * (tabC (ix v6)))) h)
set_option maxHeartbeats 4000000 in
set_option maxRecDepth 100000 in
theorem gjX0_weighPairs_77 {x : Cx} {z : Lay} {r : Int32 × Mem} (hc : okm x z cX0_weighPairs RX0 9 1 (some .boolean) (some (.int r.1)) r.2) (f6 : Mem → Int32 → Int32 → Int32 → Int32 → Int32 → Option (Int32 × Mem)) (hf6 : ∀ (M : Mem) (v2 : Int32) (v3 : Int32) (v4 : Int32) (v5 : Int32) (v6 : Int32), f6 M v2 v3 v4 v5 v6 = some r → G x z 9 6 [(0, .ref (z.2.1 35)), (1, .ref (z.2.1 8)), (2, .int v2), (3, .int v3), (4, .int v4), (5, .int v5), (6, .int v6)] [] M) (M : Mem) (v2 : Int32) (v3 : Int32) (v4 : Int32) (v5 : Int32) (v6 : Int32) (v7 : Int32) (h : jX0_weighPairs_77 f6 M v2 v3 v4 v5 v6 v7 = some r) : G x z 9 77 [(0, .ref (z.2.1 35)), (1, .ref (z.2.1 8)), (2, .int v2), (3, .int v3), (4, .int v4), (5, .int v5), (6, .int v6), (7, .int v7)] [] M := by
  have hk := hc.1
  unfold jX0_weighPairs_77 at h
  refine g_iconst hk 0 dX0_weighPairs_77 (by decide) ?_
  exact g_weak [0, 1, 2, 3, 4, 5, 6, 7] [(0, .ref (z.2.1 35)), (1, .ref (z.2.1 8)), (2, .int v2), (3, .int v3), (4, .int v4), (5, .int v5), (6, .int v6), (7, .int v7)] rfl (gjX0_weighPairs_78 hc f6 hf6 M v2 v3 v4 v5 v6 v7 0 h)
set_option maxHeartbeats 4000000 in
set_option maxRecDepth 100000 in
theorem glX0_weighPairs_6 {x : Cx} {z : Lay} {r : Int32 × Mem} (hc : okm x z cX0_weighPairs RX0 9 1 (some .boolean) (some (.int r.1)) r.2)  : ∀ (n : Nat) (M : Mem) (v2 : Int32) (v3 : Int32) (v4 : Int32) (v5 : Int32) (v6 : Int32), lX0_weighPairs_6  n M v2 v3 v4 v5 v6 = some r → G x z 9 6 [(0, .ref (z.2.1 35)), (1, .ref (z.2.1 8)), (2, .int v2), (3, .int v3), (4, .int v4), (5, .int v5), (6, .int v6)] [] M := by
  have hk := hc.1
  intro n
  induction n with
  | zero => intro _ _ _ _ _ _ h; rw [lX0_weighPairs_6] at h; cases h
  | succ n ih =>
    intro M v2 v3 v4 v5 v6 h
    rw [lX0_weighPairs_6] at h
    refine g_iload hk 6 dX0_weighPairs_6 rfl ?_
    refine g_aload_n hk 0 dX0_weighPairs_8 rfl ?_
    refine gfX0_11 hk dX0_weighPairs_9 (M.1 35 0) rfl ?_
    refine g_icmpge hk (tgt := 138) dX0_weighPairs_12 (by decide) h (fun h => ?_) (fun h => ?_)
    · refine g_iload hk 5 dX0_weighPairs_138 rfl ?_
      obtain ⟨hi1, h⟩ := ck_e h
      exact g_zret (val := fun q => q.1) (mem := fun q => q.2) hc rfl dX0_weighPairs_140 h ret2 hi1
    · refine g_aload_n hk 0 dX0_weighPairs_15 rfl ?_
      refine gfX0_19 hk dX0_weighPairs_16 ?_
      refine g_iload hk 6 dX0_weighPairs_19 rfl ?_
      obtain ⟨hi2, h⟩ := ck_e h
      refine g_iald hk sh37 dX0_weighPairs_21 hi2 (M.1 37 (ix v6)) rfl ?_
      refine g_aload_n hk 1 dX0_weighPairs_22 rfl ?_
      refine gfX0_59 hk dX0_weighPairs_23 ?_
      refine g_iload_n hk 2 dX0_weighPairs_26 rfl ?_
      obtain ⟨hi3, h⟩ := ck_e h
      refine g_iald hk sh10 dX0_weighPairs_27 hi3 (M.1 10 (ix v2)) rfl ?_
      refine g_isub hk dX0_weighPairs_28 ?_
      refine g_mabs hk mlX0_60 st_abs inMath cd_abs (by decide) (Nat.le_of_ble_eq_true rfl) dX0_weighPairs_29 ?_
      refine g_istore hk [(7, .int (abI ((M.1 37 (ix v6)) - (M.1 10 (ix v2))))), (0, .ref (z.2.1 35)), (1, .ref (z.2.1 8)), (2, .int v2), (3, .int v3), (4, .int v4), (5, .int v5), (6, .int v6)] dX0_weighPairs_32 (by decide) rfl ?_
      refine g_aload_n hk 1 dX0_weighPairs_34 rfl ?_
      refine gfX0_15 hk dX0_weighPairs_35 ?_
      refine g_iload hk 7 dX0_weighPairs_38 rfl ?_
      refine g_iald hk sh36 dX0_weighPairs_40 hi2 (M.1 36 (ix v6)) rfl ?_
      refine g_aload_n hk 2 dX0_weighPairs_41 rfl ?_
      refine gfX0_64 hk dX0_weighPairs_42 ?_
      refine g_iload_n hk 3 dX0_weighPairs_45 rfl ?_
      refine g_iald hk sh9 dX0_weighPairs_46 hi3 (M.1 9 (ix v2)) rfl ?_
      refine g_icmpne hk (tgt := 77) dX0_weighPairs_47 (by decide) h (fun h => ?_) (fun h => ?_)
      · exact g_weak [1, 2, 3, 4, 5, 6, 7, 0] [(0, .ref (z.2.1 35)), (1, .ref (z.2.1 8)), (2, .int v2), (3, .int v3), (4, .int v4), (5, .int v5), (6, .int v6), (7, .int (abI ((M.1 37 (ix v6)) - (M.1 10 (ix v2)))))] rfl (gjX0_weighPairs_77 hc (lX0_weighPairs_6  n) ih M v2 v3 v4 v5 v6 (abI ((M.1 37 (ix v6)) - (M.1 10 (ix v2)))) h)
      · refine g_aload_n hk 1 dX0_weighPairs_50 rfl ?_
        refine gfX0_22 hk dX0_weighPairs_51 ?_
        refine g_iload hk 7 dX0_weighPairs_54 rfl ?_
        refine g_iald hk sh38 dX0_weighPairs_56 hi2 (M.1 38 (ix v6)) rfl ?_
        refine g_aload_n hk 2 dX0_weighPairs_57 rfl ?_
        refine gfX0_65 hk dX0_weighPairs_58 ?_
        refine g_iload_n hk 3 dX0_weighPairs_61 rfl ?_
        refine g_iald hk sh11 dX0_weighPairs_62 hi3 (M.1 11 (ix v2)) rfl ?_
        refine g_icmpne hk (tgt := 77) dX0_weighPairs_63 (by decide) h (fun h => ?_) (fun h => ?_)
        · exact g_weak [1, 2, 3, 4, 5, 6, 7, 0] [(0, .ref (z.2.1 35)), (1, .ref (z.2.1 8)), (2, .int v2), (3, .int v3), (4, .int v4), (5, .int v5), (6, .int v6), (7, .int (abI ((M.1 37 (ix v6)) - (M.1 10 (ix v2)))))] rfl (gjX0_weighPairs_77 hc (lX0_weighPairs_6  n) ih M v2 v3 v4 v5 v6 (abI ((M.1 37 (ix v6)) - (M.1 10 (ix v2)))) h)
        · refine g_iload hk 0 dX0_weighPairs_66 rfl ?_
          refine g_iload hk 5 dX0_weighPairs_68 rfl ?_
          refine g_icmpgt hk (tgt := 77) dX0_weighPairs_70 (by decide) h (fun h => ?_) (fun h => ?_)
          · exact g_weak [1, 2, 3, 4, 5, 6, 7, 0] [(0, .ref (z.2.1 35)), (1, .ref (z.2.1 8)), (2, .int v2), (3, .int v3), (4, .int v4), (5, .int v5), (6, .int v6), (7, .int (abI ((M.1 37 (ix v6)) - (M.1 10 (ix v2)))))] rfl (gjX0_weighPairs_77 hc (lX0_weighPairs_6  n) ih M v2 v3 v4 v5 v6 (abI ((M.1 37 (ix v6)) - (M.1 10 (ix v2)))) h)
          · refine g_iconst hk 1 dX0_weighPairs_73 (by decide) ?_
            refine g_goto hk (tgt := 78) dX0_weighPairs_74 (by decide) ?_
            exact g_weak [1, 2, 3, 4, 5, 6, 7, 0] [(0, .ref (z.2.1 35)), (1, .ref (z.2.1 8)), (2, .int v2), (3, .int v3), (4, .int v4), (5, .int v5), (6, .int v6), (7, .int (abI ((M.1 37 (ix v6)) - (M.1 10 (ix v2)))))] rfl (gjX0_weighPairs_78 hc (lX0_weighPairs_6  n) ih M v2 v3 v4 v5 v6 (abI ((M.1 37 (ix v6)) - (M.1 10 (ix v2)))) 1 h)
set_option maxHeartbeats 4000000 in
set_option maxRecDepth 100000 in
theorem kX0_weighPairs (l : Launch) (z : Lay) (M : Mem) (v2 : Int32) (v3 : Int32) (v4 : Int32) (r : Int32 × Mem) (h : xX0_weighPairs M v2 v3 v4 = some r) : Con l z yX0_weighPairs cX0_weighPairs 9 (some .boolean) 1 [.ref (z.2.1 35), .ref (z.2.1 8), .int v2, .int v3, .int v4] M (some (.int r.1)) r.2 := by
  refine Con.of (by decide) (Nat.le_of_ble_eq_true rfl) ?_
  intro x hl hc
  subst hl
  have hk : okc x z cX0_weighPairs RX0 9 1 := hc.1
  show G x z 9 0 [(0, .ref (z.2.1 35)), (1, .ref (z.2.1 8)), (2, .int v2), (3, .int v3), (4, .int v4)] [] M
  unfold xX0_weighPairs at h
  refine g_iconst hk 0 dX0_weighPairs_0 (by decide) ?_
  refine g_istore hk [(5, .int 0), (0, .ref (z.2.1 35)), (1, .ref (z.2.1 8)), (2, .int v2), (3, .int v3), (4, .int v4)] dX0_weighPairs_1 (by decide) rfl ?_
  refine g_iconst hk 0 dX0_weighPairs_3 (by decide) ?_
  refine g_istore hk [(6, .int 0), (5, .int 0), (0, .ref (z.2.1 35)), (1, .ref (z.2.1 8)), (2, .int v2), (3, .int v3), (4, .int v4)] dX0_weighPairs_4 (by decide) rfl ?_
  exact g_weak [2, 3, 4, 5, 6, 1, 0] [(0, .ref (z.2.1 35)), (1, .ref (z.2.1 8)), (2, .int v2), (3, .int v3), (4, .int v4), (5, .int 0), (6, .int 0)] rfl (glX0_weighPairs_6 hc  fu M v2 v3 v4 0 0 h)
set_option maxHeartbeats 4000000 in
set_option maxRecDepth 100000 in
theorem glX0_offerDefect_10 {x : Cx} {z : Lay} {r : Mem} (hc : okm x z cX0_offerDefect RX0 5 1 (none) (none) r) (f4 : Mem → Int32 → Option (Mem)) (hf4 : ∀ (M : Mem) (v2 : Int32), f4 M v2 = some r → G x z 5 4 [(0, .ref (z.2.1 35)), (2, .int v2)] [] M) : ∀ (n : Nat) (M : Mem) (v2 : Int32) (v3 : Int32), lX0_offerDefect_10 f4 n M v2 v3 = some r → G x z 5 10 [(0, .ref (z.2.1 35)), (2, .int v2), (3, .int v3)] [] M := by
  have hk := hc.1
  intro n
  induction n with
  | zero => intro _ _ _ h; rw [lX0_offerDefect_10] at h; cases h
  | succ n ih =>
    intro M v2 v3 h
    rw [lX0_offerDefect_10] at h
    refine g_iload_n hk 2 dX0_offerDefect_10 rfl ?_
    refine g_aload_n hk 0 dX0_offerDefect_11 rfl ?_
    refine gfX0_11 hk dX0_offerDefect_12 (M.1 35 0) rfl ?_
    refine g_icmpge hk (tgt := 95) dX0_offerDefect_15 (by decide) h (fun h => ?_) (fun h => ?_)
    · refine g_iinc (k := 1) hk [(2, .int (v2 + (-1))), (0, .ref (z.2.1 35)), (3, .int v3)] dX0_offerDefect_95 rfl rfl (by decide) rfl ?_
      refine g_goto hk (tgt := 4) dX0_offerDefect_98 (by decide) ?_
      exact g_weak [1, 0] [(0, .ref (z.2.1 35)), (2, .int (v2 + (-1)))] rfl (hf4 M (v2 + (-1)) h)
    · refine g_iload_n hk 1 dX0_offerDefect_18 rfl ?_
      refine g_iconst hk 1 dX0_offerDefect_19 (by decide) ?_
      refine g_iload_n hk 2 dX0_offerDefect_20 rfl ?_
      refine g_ishl hk dX0_offerDefect_21 ?_
      refine g_iconst hk (-1) dX0_offerDefect_22 (by decide) ?_
      refine g_ixor hk dX0_offerDefect_23 ?_
      refine g_iand hk dX0_offerDefect_24 ?_
      refine g_istore hk [(4, .int (v2 &&& ((1 <<< (v3 &&& 31)) ^^^ (-1)))), (0, .ref (z.2.1 35)), (2, .int v2), (3, .int v3)] dX0_offerDefect_25 (by decide) rfl ?_
      refine g_iload hk 0 dX0_offerDefect_27 rfl ?_
      refine g_iload_n hk 2 dX0_offerDefect_29 rfl ?_
      refine g_icmpeq hk (tgt := 89) dX0_offerDefect_30 (by decide) h (fun h => ?_) (fun h => ?_)
      · refine g_iinc (k := 3) hk [(3, .int (v3 + 1)), (4, .int (v2 &&& ((1 <<< (v3 &&& 31)) ^^^ (-1)))), (0, .ref (z.2.1 35)), (2, .int v2)] dX0_offerDefect_89 rfl rfl (by decide) rfl ?_
        refine g_goto hk (tgt := 10) dX0_offerDefect_92 (by decide) ?_
        exact g_weak [2, 3, 0] [(0, .ref (z.2.1 35)), (2, .int v2), (3, .int (v3 + 1))] rfl (ih M v2 (v3 + 1) h)
      · refine g_aload_n hk 1 dX0_offerDefect_33 rfl ?_
        refine gfX0_25 hk dX0_offerDefect_34 ?_
        refine g_iload_n hk 3 dX0_offerDefect_37 rfl ?_
        obtain ⟨hi1, h⟩ := ck_e h
        refine g_lald hk sh39 dX0_offerDefect_38 hi1 (M.2 39 (ix v3)) rfl ?_
        refine g_ldc2 hk kcX0_32 dX0_offerDefect_39 ?_
        refine g_lcmp hk dX0_offerDefect_42 ?_
        refine g_ifeq hk (tgt := 89) dX0_offerDefect_43 (by decide) h (fun h => ?_) (fun h => ?_)
        · refine g_iinc (k := 3) hk [(3, .int (v3 + 1)), (4, .int (v2 &&& ((1 <<< (v3 &&& 31)) ^^^ (-1)))), (0, .ref (z.2.1 35)), (2, .int v2)] dX0_offerDefect_89 rfl rfl (by decide) rfl ?_
          refine g_goto hk (tgt := 10) dX0_offerDefect_92 (by decide) ?_
          exact g_weak [2, 3, 0] [(0, .ref (z.2.1 35)), (2, .int v2), (3, .int (v3 + 1))] rfl (ih M v2 (v3 + 1) h)
        · refine g_aload_n hk 1 dX0_offerDefect_46 rfl ?_
          refine gfX0_29 hk dX0_offerDefect_47 ?_
          refine g_iload hk 0 dX0_offerDefect_50 rfl ?_
          obtain ⟨hi2, h⟩ := ck_e h
          refine g_lald hk sh40 dX0_offerDefect_52 hi2 (M.2 40 (ix (v2 &&& ((1 <<< (v3 &&& 31)) ^^^ (-1))))) rfl ?_
          refine g_ldc2 hk kcX0_32 dX0_offerDefect_53 ?_
          refine g_lcmp hk dX0_offerDefect_56 ?_
          refine g_ifeq hk (tgt := 89) dX0_offerDefect_57 (by decide) h (fun h => ?_) (fun h => ?_)
          · refine g_iinc (k := 3) hk [(3, .int (v3 + 1)), (4, .int (v2 &&& ((1 <<< (v3 &&& 31)) ^^^ (-1)))), (0, .ref (z.2.1 35)), (2, .int v2)] dX0_offerDefect_89 rfl rfl (by decide) rfl ?_
            refine g_goto hk (tgt := 10) dX0_offerDefect_92 (by decide) ?_
            exact g_weak [2, 3, 0] [(0, .ref (z.2.1 35)), (2, .int v2), (3, .int (v3 + 1))] rfl (ih M v2 (v3 + 1) h)
          · refine g_aload_n hk 1 dX0_offerDefect_60 rfl ?_
            refine gfX0_29 hk dX0_offerDefect_61 ?_
            refine g_iload_n hk 2 dX0_offerDefect_64 rfl ?_
            refine g_aload_n hk 1 dX0_offerDefect_65 rfl ?_
            refine gfX0_29 hk dX0_offerDefect_66 ?_
            refine g_iload_n hk 2 dX0_offerDefect_69 rfl ?_
            obtain ⟨hi3, h⟩ := ck_e h
            refine g_lald hk sh40 dX0_offerDefect_70 hi3 (M.2 40 (ix v2)) rfl ?_
            refine g_aload_n hk 1 dX0_offerDefect_71 rfl ?_
            refine gfX0_29 hk dX0_offerDefect_72 ?_
            refine g_iload hk 0 dX0_offerDefect_75 rfl ?_
            refine g_lald hk sh40 dX0_offerDefect_77 hi2 (M.2 40 (ix (v2 &&& ((1 <<< (v3 &&& 31)) ^^^ (-1))))) rfl ?_
            refine g_aload_n hk 1 dX0_offerDefect_78 rfl ?_
            refine gfX0_25 hk dX0_offerDefect_79 ?_
            refine g_iload_n hk 3 dX0_offerDefect_82 rfl ?_
            refine g_lald hk sh39 dX0_offerDefect_83 hi1 (M.2 39 (ix v3)) rfl ?_
            refine g_ladd hk dX0_offerDefect_84 ?_
            refine g_mminL hk mlX0_53 st_minL inMath cd_minL (by decide) (Nat.le_of_ble_eq_true rfl) dX0_offerDefect_85 ?_
            refine g_last hk sh40 dX0_offerDefect_88 hi3 ?_
            refine g_iinc (k := 3) hk [(3, .int (v3 + 1)), (4, .int (v2 &&& ((1 <<< (v3 &&& 31)) ^^^ (-1)))), (0, .ref (z.2.1 35)), (2, .int v2)] dX0_offerDefect_89 rfl rfl (by decide) rfl ?_
            refine g_goto hk (tgt := 10) dX0_offerDefect_92 (by decide) ?_
            exact g_weak [2, 3, 0] [(0, .ref (z.2.1 35)), (2, .int v2), (3, .int (v3 + 1))] rfl (ih (upL M 40 (ix v2) (mnL (M.2 40 (ix v2)) ((M.2 40 (ix (v2 &&& ((1 <<< (v3 &&& 31)) ^^^ (-1))))) + (M.2 39 (ix v3))))) v2 (v3 + 1) h)
set_option maxHeartbeats 4000000 in
set_option maxRecDepth 100000 in
theorem glX0_offerDefect_4 {x : Cx} {z : Lay} {r : Mem} (hc : okm x z cX0_offerDefect RX0 5 1 (none) (none) r)  : ∀ (n : Nat) (M : Mem) (v2 : Int32), lX0_offerDefect_4  n M v2 = some r → G x z 5 4 [(0, .ref (z.2.1 35)), (2, .int v2)] [] M := by
  have hk := hc.1
  intro n
  induction n with
  | zero => intro _ _ h; rw [lX0_offerDefect_4] at h; cases h
  | succ n ih =>
    intro M v2 h
    rw [lX0_offerDefect_4] at h
    refine g_iload_n hk 1 dX0_offerDefect_4 rfl ?_
    refine g_ifle hk (tgt := 101) dX0_offerDefect_5 (by decide) h (fun h => ?_) (fun h => ?_)
    · exact g_vret (mem := fun q => q) hc rfl dX0_offerDefect_101 h retv
    · refine g_iconst hk 0 dX0_offerDefect_8 (by decide) ?_
      refine g_istore_n hk [(3, .int 0), (0, .ref (z.2.1 35)), (2, .int v2)] dX0_offerDefect_9 rfl (by decide) rfl ?_
      exact g_weak [1, 2, 0] [(0, .ref (z.2.1 35)), (2, .int v2), (3, .int 0)] rfl (glX0_offerDefect_10 hc (lX0_offerDefect_4  n) ih fu M v2 0 h)
set_option maxHeartbeats 4000000 in
set_option maxRecDepth 100000 in
theorem kX0_offerDefect (l : Launch) (z : Lay) (M : Mem) (v1 : Int32) (r : Mem) (h : xX0_offerDefect M v1 = some r) : Con l z yX0_offerDefect cX0_offerDefect 5 (none) 1 [.ref (z.2.1 35), .int v1] M (none) r := by
  refine Con.of (by decide) (Nat.le_of_ble_eq_true rfl) ?_
  intro x hl hc
  subst hl
  have hk : okc x z cX0_offerDefect RX0 5 1 := hc.1
  show G x z 5 0 [(0, .ref (z.2.1 35)), (1, .int v1)] [] M
  unfold xX0_offerDefect at h
  refine g_iload_n hk 1 dX0_offerDefect_0 rfl ?_
  refine g_iconst hk 1 dX0_offerDefect_1 (by decide) ?_
  refine g_isub hk dX0_offerDefect_2 ?_
  refine g_istore_n hk [(2, .int (v1 - 1)), (0, .ref (z.2.1 35)), (1, .int v1)] dX0_offerDefect_3 rfl (by decide) rfl ?_
  exact g_weak [1, 0] [(0, .ref (z.2.1 35)), (2, .int (v1 - 1))] rfl (glX0_offerDefect_4 hc  fu M (v1 - 1) h)
set_option maxHeartbeats 4000000 in
set_option maxRecDepth 100000 in
theorem glX0_weightOfRest_5 {x : Cx} {z : Lay} {r : Int64} {M : Mem} (hc : okm x z cX0_weightOfRest RX0 5 0 (some .long) (some (.long r)) M)  : ∀ (n : Nat) (v1 : Int32) (v2 : Int64) (v4 : Int32), lX0_weightOfRest_5  n M v1 v2 v4 = some r → G x z 5 5 [(0, .ref (z.2.1 35)), (1, .int v1), (2, .long v2), (4, .int v4)] [] M := by
  have hk := hc.1
  intro n
  induction n with
  | zero => intro _ _ _ h; rw [lX0_weightOfRest_5] at h; cases h
  | succ n ih =>
    intro v1 v2 v4 h
    rw [lX0_weightOfRest_5] at h
    refine g_iload hk 3 dX0_weightOfRest_5 rfl ?_
    refine g_aload_n hk 0 dX0_weightOfRest_7 rfl ?_
    refine gfX0_11 hk dX0_weightOfRest_8 (M.1 35 0) rfl ?_
    refine g_icmpge hk (tgt := 46) dX0_weightOfRest_11 (by decide) h (fun h => ?_) (fun h => ?_)
    · refine g_lload_n hk 2 dX0_weightOfRest_46 rfl ?_
      exact g_lret (val := fun q => q) (mem := fun _ => M) hc rfl dX0_weightOfRest_47 h ret1
    · refine g_iload_n hk 1 dX0_weightOfRest_14 rfl ?_
      refine g_iconst hk 1 dX0_weightOfRest_15 (by decide) ?_
      refine g_iload hk 3 dX0_weightOfRest_16 rfl ?_
      refine g_ishl hk dX0_weightOfRest_18 ?_
      refine g_iand hk dX0_weightOfRest_19 ?_
      refine g_ifne hk (tgt := 40) dX0_weightOfRest_20 (by decide) h (fun h => ?_) (fun h => ?_)
      · refine g_iinc (k := 3) hk [(4, .int (v4 + 1)), (0, .ref (z.2.1 35)), (1, .int v1), (2, .long v2)] dX0_weightOfRest_40 rfl rfl (by decide) rfl ?_
        refine g_goto hk (tgt := 5) dX0_weightOfRest_43 (by decide) ?_
        exact g_weak [1, 2, 3, 0] [(0, .ref (z.2.1 35)), (1, .int v1), (2, .long v2), (4, .int (v4 + 1))] rfl (ih v1 v2 (v4 + 1) h)
      · refine g_lload_n hk 2 dX0_weightOfRest_23 rfl ?_
        refine g_ldc2 hk kcX0_71 dX0_weightOfRest_24 ?_
        refine g_ldc2 hk kcX0_73 dX0_weightOfRest_27 ?_
        refine g_gets2 hk lkX0_68 dX0_weightOfRest_30 ?_
        refine g_iload hk 3 dX0_weightOfRest_33 rfl ?_
        obtain ⟨hi1, h⟩ := ck_e h
        refine g_tab2 hk dX0_weightOfRest_35 hi1 ?_
        refine g_lmul hk dX0_weightOfRest_36 ?_
        refine g_ladd hk dX0_weightOfRest_37 ?_
        refine g_ladd hk dX0_weightOfRest_38 ?_
        refine g_lstore_n hk [(2, .long (v2 + (1631461442000 + (12 * (tabC (ix v4)))))), (0, .ref (z.2.1 35)), (1, .int v1), (4, .int v4)] dX0_weightOfRest_39 rfl (by decide) rfl ?_
        refine g_iinc (k := 3) hk [(4, .int (v4 + 1)), (2, .long (v2 + (1631461442000 + (12 * (tabC (ix v4)))))), (0, .ref (z.2.1 35)), (1, .int v1)] dX0_weightOfRest_40 rfl rfl (by decide) rfl ?_
        refine g_goto hk (tgt := 5) dX0_weightOfRest_43 (by decide) ?_
        exact g_weak [2, 3, 1, 0] [(0, .ref (z.2.1 35)), (1, .int v1), (2, .long (v2 + (1631461442000 + (12 * (tabC (ix v4)))))), (4, .int (v4 + 1))] rfl (ih v1 (v2 + (1631461442000 + (12 * (tabC (ix v4))))) (v4 + 1) h)
set_option maxHeartbeats 4000000 in
set_option maxRecDepth 100000 in
theorem kX0_weightOfRest (l : Launch) (z : Lay) (M : Mem) (v1 : Int32) (r : Int64) (h : xX0_weightOfRest M v1 = some r) : Con l z yX0_weightOfRest cX0_weightOfRest 5 (some .long) 0 [.ref (z.2.1 35), .int v1] M (some (.long r)) M := by
  refine Con.of (by decide) (Nat.le_of_ble_eq_true rfl) ?_
  intro x hl hc
  subst hl
  have hk : okc x z cX0_weightOfRest RX0 5 0 := hc.1
  show G x z 5 0 [(0, .ref (z.2.1 35)), (1, .int v1)] [] M
  unfold xX0_weightOfRest at h
  refine g_lconst hk 0 dX0_weightOfRest_0 rfl ?_
  refine g_lstore_n hk [(2, .long 0), (0, .ref (z.2.1 35)), (1, .int v1)] dX0_weightOfRest_1 rfl (by decide) rfl ?_
  refine g_iconst hk 0 dX0_weightOfRest_2 (by decide) ?_
  refine g_istore hk [(4, .int 0), (2, .long 0), (0, .ref (z.2.1 35)), (1, .int v1)] dX0_weightOfRest_3 (by decide) rfl ?_
  exact g_weak [2, 3, 1, 0] [(0, .ref (z.2.1 35)), (1, .int v1), (2, .long 0), (4, .int 0)] rfl (glX0_weightOfRest_5 hc  fu v1 0 0 h)
set_option maxHeartbeats 4000000 in
set_option maxRecDepth 100000 in
theorem glX0_bestJoining_106 {x : Cx} {z : Lay} {r : Int64 × Mem} (hc : okm x z cX0_bestJoining RX0 8 2 (some .long) (some (.long r.1)) r.2)  : ∀ (n : Nat) (M : Mem) (v3 : Int32) (v5 : Int64) (v7 : Int32), lX0_bestJoining_106  n M v3 v5 v7 = some r → G x z 8 106 [(0, .ref (z.2.1 35)), (3, .int v3), (5, .long v5), (7, .int v7)] [] M := by
  have hk := hc.1
  intro n
  induction n with
  | zero => intro _ _ _ _ h; rw [lX0_bestJoining_106] at h; cases h
  | succ n ih =>
    intro M v3 v5 v7 h
    rw [lX0_bestJoining_106] at h
    refine g_iload hk 3 dX0_bestJoining_106 rfl ?_
    refine g_iload_n hk 1 dX0_bestJoining_108 rfl ?_
    refine g_icmpge hk (tgt := 139) dX0_bestJoining_109 (by decide) h (fun h => ?_) (fun h => ?_)
    · refine g_lload hk 2 dX0_bestJoining_139 rfl ?_
      exact g_lret (val := fun q => q.1) (mem := fun q => q.2) hc rfl dX0_bestJoining_141 h ret2
    · refine g_lload hk 2 dX0_bestJoining_112 rfl ?_
      refine g_aload_n hk 0 dX0_bestJoining_114 rfl ?_
      refine gfX0_29 hk dX0_bestJoining_115 ?_
      refine g_iload hk 3 dX0_bestJoining_118 rfl ?_
      obtain ⟨hi1, h⟩ := ck_e h
      refine g_lald hk sh40 dX0_bestJoining_120 hi1 (M.2 40 (ix v7)) rfl ?_
      refine g_aload_n hk 0 dX0_bestJoining_121 rfl ?_
      refine g_iload hk 3 dX0_bestJoining_122 rfl ?_
      obtain ⟨r1, hr1, h⟩ := bnd h
      refine g_callVl hk [.int v7] _ sh35 rfl mtX0_weightOfRest mlX0_49 (by decide) (by decide) rfl rfl (Nat.le_of_ble_eq_true rfl) dX0_bestJoining_124 (kX0_weightOfRest _ z M v7 r1 hr1) ?_
      refine g_ladd hk dX0_bestJoining_127 ?_
      refine g_mminL hk mlX0_53 st_minL inMath cd_minL (by decide) (Nat.le_of_ble_eq_true rfl) dX0_bestJoining_128 ?_
      refine g_lstore hk [(5, .long (mnL v5 ((M.2 40 (ix v7)) + r1))), (0, .ref (z.2.1 35)), (3, .int v3), (7, .int v7)] dX0_bestJoining_131 (by decide) rfl ?_
      refine g_iinc (k := 3) hk [(7, .int (v7 + 1)), (5, .long (mnL v5 ((M.2 40 (ix v7)) + r1))), (0, .ref (z.2.1 35)), (3, .int v3)] dX0_bestJoining_133 rfl rfl (by decide) rfl ?_
      refine g_goto hk (tgt := 106) dX0_bestJoining_136 (by decide) ?_
      exact g_weak [2, 3, 1, 0] [(0, .ref (z.2.1 35)), (3, .int v3), (5, .long (mnL v5 ((M.2 40 (ix v7)) + r1))), (7, .int (v7 + 1))] rfl (ih M v3 (mnL v5 ((M.2 40 (ix v7)) + r1)) (v7 + 1) h)
set_option maxHeartbeats 4000000 in
set_option maxRecDepth 100000 in
theorem glX0_bestJoining_45 {x : Cx} {z : Lay} {r : Int64 × Mem} (hc : okm x z cX0_bestJoining RX0 8 2 (some .long) (some (.long r.1)) r.2)  : ∀ (n : Nat) (M : Mem) (v2 : Int32) (v3 : Int32) (v4 : Int32) (v5 : Int32), lX0_bestJoining_45  n M v2 v3 v4 v5 = some r → G x z 8 45 [(0, .ref (z.2.1 35)), (1, .ref (z.2.1 8)), (2, .int v2), (3, .int v3), (4, .int v4), (5, .int v5)] [] M := by
  have hk := hc.1
  intro n
  induction n with
  | zero => intro _ _ _ _ _ h; rw [lX0_bestJoining_45] at h; cases h
  | succ n ih =>
    intro M v2 v3 v4 v5 h
    rw [lX0_bestJoining_45] at h
    refine g_iload hk 5 dX0_bestJoining_45 rfl ?_
    refine g_aload_n hk 1 dX0_bestJoining_47 rfl ?_
    refine gfX0_34 hk dX0_bestJoining_48 (M.1 8 0) rfl ?_
    refine g_icmpge hk (tgt := 98) dX0_bestJoining_51 (by decide) h (fun h => ?_) (fun h => ?_)
    · refine g_ldc2 hk kcX0_32 dX0_bestJoining_98 ?_
      refine g_lstore hk [(5, .long 1152921504606846976), (0, .ref (z.2.1 35)), (1, .ref (z.2.1 8)), (2, .int v2), (3, .int v3), (4, .int v4)] dX0_bestJoining_101 (by decide) rfl ?_
      refine g_iconst hk 0 dX0_bestJoining_103 (by decide) ?_
      refine g_istore hk [(7, .int 0), (5, .long 1152921504606846976), (0, .ref (z.2.1 35)), (1, .ref (z.2.1 8)), (2, .int v2), (3, .int v3), (4, .int v4)] dX0_bestJoining_104 (by decide) rfl ?_
      exact g_weak [2, 5, 1, 0] [(0, .ref (z.2.1 35)), (3, .int v3), (5, .long 1152921504606846976), (7, .int 0)] rfl (glX0_bestJoining_106 hc  fu M v3 1152921504606846976 0 h)
    · refine g_iload hk 4 dX0_bestJoining_54 rfl ?_
      refine g_bipush hk 12 dX0_bestJoining_56 (by decide) ?_
      refine g_icmpge hk (tgt := 98) dX0_bestJoining_58 (by decide) h (fun h => ?_) (fun h => ?_)
      · refine g_ldc2 hk kcX0_32 dX0_bestJoining_98 ?_
        refine g_lstore hk [(5, .long 1152921504606846976), (0, .ref (z.2.1 35)), (1, .ref (z.2.1 8)), (2, .int v2), (3, .int v3), (4, .int v4)] dX0_bestJoining_101 (by decide) rfl ?_
        refine g_iconst hk 0 dX0_bestJoining_103 (by decide) ?_
        refine g_istore hk [(7, .int 0), (5, .long 1152921504606846976), (0, .ref (z.2.1 35)), (1, .ref (z.2.1 8)), (2, .int v2), (3, .int v3), (4, .int v4)] dX0_bestJoining_104 (by decide) rfl ?_
        exact g_weak [2, 5, 1, 0] [(0, .ref (z.2.1 35)), (3, .int v3), (5, .long 1152921504606846976), (7, .int 0)] rfl (glX0_bestJoining_106 hc  fu M v3 1152921504606846976 0 h)
      · refine g_aload_n hk 1 dX0_bestJoining_61 rfl ?_
        refine gfX0_37 hk dX0_bestJoining_62 ?_
        refine g_iload hk 5 dX0_bestJoining_65 rfl ?_
        obtain ⟨hi1, h⟩ := ck_e h
        refine g_zald hk sh13 dX0_bestJoining_67 hi1 (M.1 13 (ix v5)) rfl ?_
        refine g_ifeq hk (tgt := 92) dX0_bestJoining_68 (by decide) h (fun h => ?_) (fun h => ?_)
        · refine g_iinc (k := 5) hk [(5, .int (v5 + 1)), (0, .ref (z.2.1 35)), (1, .ref (z.2.1 8)), (2, .int v2), (3, .int v3), (4, .int v4)] dX0_bestJoining_92 rfl rfl (by decide) rfl ?_
          refine g_goto hk (tgt := 45) dX0_bestJoining_95 (by decide) ?_
          exact g_weak [1, 2, 3, 4, 5, 0] [(0, .ref (z.2.1 35)), (1, .ref (z.2.1 8)), (2, .int v2), (3, .int v3), (4, .int v4), (5, .int (v5 + 1))] rfl (ih M v2 v3 v4 (v5 + 1) h)
        · refine g_aload_n hk 0 dX0_bestJoining_71 rfl ?_
          refine g_aload_n hk 1 dX0_bestJoining_72 rfl ?_
          refine g_iload hk 5 dX0_bestJoining_73 rfl ?_
          refine g_iload hk 4 dX0_bestJoining_75 rfl ?_
          refine g_iload_n hk 2 dX0_bestJoining_77 rfl ?_
          obtain ⟨r1, hr1, h⟩ := bnd h
          refine g_callVi hk [.ref (z.2.1 8), .int v5, .int v4, .int v2] _ sh35 rfl mtX0_weighPairs mlX0_41 (by decide) (by decide) rfl rfl (Nat.le_of_ble_eq_true rfl) dX0_bestJoining_78 (kX0_weighPairs _ z M v5 v4 v2 r1 hr1) ?_
          refine g_ifeq hk (tgt := 89) dX0_bestJoining_81 (by decide) h (fun h => ?_) (fun h => ?_)
          · refine g_iinc (k := 4) hk [(4, .int (v4 + 1)), (0, .ref (z.2.1 35)), (1, .ref (z.2.1 8)), (2, .int v2), (3, .int v3), (5, .int v5)] dX0_bestJoining_89 rfl rfl (by decide) rfl ?_
            refine g_iinc (k := 5) hk [(5, .int (v5 + 1)), (4, .int (v4 + 1)), (0, .ref (z.2.1 35)), (1, .ref (z.2.1 8)), (2, .int v2), (3, .int v3)] dX0_bestJoining_92 rfl rfl (by decide) rfl ?_
            refine g_goto hk (tgt := 45) dX0_bestJoining_95 (by decide) ?_
            exact g_weak [2, 3, 4, 5, 1, 0] [(0, .ref (z.2.1 35)), (1, .ref (z.2.1 8)), (2, .int v2), (3, .int v3), (4, .int (v4 + 1)), (5, .int (v5 + 1))] rfl (ih r1.2 v2 v3 (v4 + 1) (v5 + 1) h)
          · refine g_aload_n hk 0 dX0_bestJoining_84 rfl ?_
            refine g_iload_n hk 3 dX0_bestJoining_85 rfl ?_
            obtain ⟨r2, hr2, h⟩ := bnd h
            refine g_callVv hk [.int v3] _ sh35 rfl mtX0_offerDefect mlX0_45 (by decide) (by decide) rfl rfl (Nat.le_of_ble_eq_true rfl) dX0_bestJoining_86 (kX0_offerDefect _ z r1.2 v3 r2 hr2) ?_
            refine g_iinc (k := 4) hk [(4, .int (v4 + 1)), (0, .ref (z.2.1 35)), (1, .ref (z.2.1 8)), (2, .int v2), (3, .int v3), (5, .int v5)] dX0_bestJoining_89 rfl rfl (by decide) rfl ?_
            refine g_iinc (k := 5) hk [(5, .int (v5 + 1)), (4, .int (v4 + 1)), (0, .ref (z.2.1 35)), (1, .ref (z.2.1 8)), (2, .int v2), (3, .int v3)] dX0_bestJoining_92 rfl rfl (by decide) rfl ?_
            refine g_goto hk (tgt := 45) dX0_bestJoining_95 (by decide) ?_
            exact g_weak [2, 3, 4, 5, 1, 0] [(0, .ref (z.2.1 35)), (1, .ref (z.2.1 8)), (2, .int v2), (3, .int v3), (4, .int (v4 + 1)), (5, .int (v5 + 1))] rfl (ih r2 v2 v3 (v4 + 1) (v5 + 1) h)
set_option maxHeartbeats 4000000 in
set_option maxRecDepth 100000 in
theorem glX0_bestJoining_17 {x : Cx} {z : Lay} {r : Int64 × Mem} (hc : okm x z cX0_bestJoining RX0 8 2 (some .long) (some (.long r.1)) r.2)  : ∀ (n : Nat) (M : Mem) (v2 : Int32) (v3 : Int32) (v4 : Int32), lX0_bestJoining_17  n M v2 v3 v4 = some r → G x z 8 17 [(0, .ref (z.2.1 35)), (1, .ref (z.2.1 8)), (2, .int v2), (3, .int v3), (4, .int v4)] [] M := by
  have hk := hc.1
  intro n
  induction n with
  | zero => intro _ _ _ _ h; rw [lX0_bestJoining_17] at h; cases h
  | succ n ih =>
    intro M v2 v3 v4 h
    rw [lX0_bestJoining_17] at h
    refine g_iload hk 4 dX0_bestJoining_17 rfl ?_
    refine g_iload_n hk 3 dX0_bestJoining_19 rfl ?_
    refine g_icmpge hk (tgt := 39) dX0_bestJoining_20 (by decide) h (fun h => ?_) (fun h => ?_)
    · refine g_iconst hk 0 dX0_bestJoining_39 (by decide) ?_
      refine g_istore hk [(4, .int 0), (0, .ref (z.2.1 35)), (1, .ref (z.2.1 8)), (2, .int v2), (3, .int v3)] dX0_bestJoining_40 (by decide) rfl ?_
      refine g_iconst hk 0 dX0_bestJoining_42 (by decide) ?_
      refine g_istore hk [(5, .int 0), (4, .int 0), (0, .ref (z.2.1 35)), (1, .ref (z.2.1 8)), (2, .int v2), (3, .int v3)] dX0_bestJoining_43 (by decide) rfl ?_
      exact g_weak [2, 3, 4, 5, 1, 0] [(0, .ref (z.2.1 35)), (1, .ref (z.2.1 8)), (2, .int v2), (3, .int v3), (4, .int 0), (5, .int 0)] rfl (glX0_bestJoining_45 hc  fu M v2 v3 0 0 h)
    · refine g_aload_n hk 0 dX0_bestJoining_23 rfl ?_
      refine gfX0_29 hk dX0_bestJoining_24 ?_
      refine g_iload hk 4 dX0_bestJoining_27 rfl ?_
      refine g_ldc2 hk kcX0_32 dX0_bestJoining_29 ?_
      obtain ⟨hi1, h⟩ := ck_e h
      refine g_last hk sh40 dX0_bestJoining_32 hi1 ?_
      refine g_iinc (k := 4) hk [(4, .int (v4 + 1)), (0, .ref (z.2.1 35)), (1, .ref (z.2.1 8)), (2, .int v2), (3, .int v3)] dX0_bestJoining_33 rfl rfl (by decide) rfl ?_
      refine g_goto hk (tgt := 17) dX0_bestJoining_36 (by decide) ?_
      exact g_weak [1, 2, 3, 4, 0] [(0, .ref (z.2.1 35)), (1, .ref (z.2.1 8)), (2, .int v2), (3, .int v3), (4, .int (v4 + 1))] rfl (ih (upL M 40 (ix v4) 1152921504606846976) v2 v3 (v4 + 1) h)
set_option maxHeartbeats 4000000 in
set_option maxRecDepth 100000 in
theorem kX0_bestJoining (l : Launch) (z : Lay) (M : Mem) (v2 : Int32) (r : Int64 × Mem) (h : xX0_bestJoining M v2 = some r) : Con l z yX0_bestJoining cX0_bestJoining 8 (some .long) 2 [.ref (z.2.1 35), .ref (z.2.1 8), .int v2] M (some (.long r.1)) r.2 := by
  refine Con.of (by decide) (Nat.le_of_ble_eq_true rfl) ?_
  intro x hl hc
  subst hl
  have hk : okc x z cX0_bestJoining RX0 8 2 := hc.1
  show G x z 8 0 [(0, .ref (z.2.1 35)), (1, .ref (z.2.1 8)), (2, .int v2)] [] M
  unfold xX0_bestJoining at h
  refine g_iconst hk 1 dX0_bestJoining_0 (by decide) ?_
  refine g_aload_n hk 0 dX0_bestJoining_1 rfl ?_
  refine gfX0_11 hk dX0_bestJoining_2 (M.1 35 0) rfl ?_
  refine g_ishl hk dX0_bestJoining_5 ?_
  refine g_istore_n hk [(3, .int (1 <<< ((M.1 35 0) &&& 31))), (0, .ref (z.2.1 35)), (1, .ref (z.2.1 8)), (2, .int v2)] dX0_bestJoining_6 rfl (by decide) rfl ?_
  refine g_aload_n hk 1 dX0_bestJoining_7 rfl ?_
  refine gfX0_29 hk dX0_bestJoining_8 ?_
  refine g_iconst hk 0 dX0_bestJoining_11 (by decide) ?_
  refine g_lconst hk 0 dX0_bestJoining_12 rfl ?_
  refine g_last hk sh40 dX0_bestJoining_13 (by decide) ?_
  show G x z 8 14 [(3, .int (1 <<< ((M.1 35 0) &&& 31))), (0, .ref (z.2.1 35)), (1, .ref (z.2.1 8)), (2, .int v2)] [] (upL M 40 0 0)
  refine g_iconst hk 1 dX0_bestJoining_14 (by decide) ?_
  refine g_istore hk [(4, .int 1), (3, .int (1 <<< ((M.1 35 0) &&& 31))), (0, .ref (z.2.1 35)), (1, .ref (z.2.1 8)), (2, .int v2)] dX0_bestJoining_15 (by decide) rfl ?_
  exact g_weak [2, 3, 4, 1, 0] [(0, .ref (z.2.1 35)), (1, .ref (z.2.1 8)), (2, .int v2), (3, .int (1 <<< ((M.1 35 0) &&& 31))), (4, .int 1)] rfl (glX0_bestJoining_17 hc  fu (upL M 40 0 0) v2 (1 <<< ((M.1 35 0) &&& 31)) 1 h)
set_option maxHeartbeats 4000000 in
set_option maxRecDepth 100000 in
theorem kX0_joinedIn (l : Launch) (z : Lay) (M : Mem) (v1 : Int64) (r : Int32) (h : xX0_joinedIn M v1 = some r) : Con l z yX0_joinedIn cX0_joinedIn 3 (some .int) 0 [.ref (z.2.1 35), .long v1] M (some (.int r)) M := by
  refine Con.of (by decide) (Nat.le_of_ble_eq_true rfl) ?_
  intro x hl hc
  subst hl
  have hk : okc x z cX0_joinedIn RX0 3 0 := hc.1
  show G x z 3 0 [(0, .ref (z.2.1 35)), (1, .long v1)] [] M
  unfold xX0_joinedIn at h
  refine g_aload_n hk 0 dX0_joinedIn_0 rfl ?_
  refine gfX0_11 hk dX0_joinedIn_1 (M.1 35 0) rfl ?_
  refine g_lload_n hk 1 dX0_joinedIn_4 rfl ?_
  refine g_ldc2 hk kcX0_71 dX0_joinedIn_5 ?_
  refine g_ldiv hk dX0_joinedIn_8 (by decide) ?_
  refine g_l2i hk dX0_joinedIn_9 ?_
  refine g_isub hk dX0_joinedIn_10 ?_
  exact g_iret (val := fun q => q) (mem := fun _ => M) hc rfl dX0_joinedIn_11 h ret1
set_option maxHeartbeats 4000000 in
set_option maxRecDepth 100000 in
theorem kX0_yardsIn (l : Launch) (z : Lay) (M : Mem) (v0 : Int64) (r : Int32) (h : xX0_yardsIn v0 = some r) : Con l z yX0_yardsIn cX0_yardsIn 2 (some .int) 0 [.long v0] M (some (.int r)) M := by
  refine Con.of (by decide) (Nat.le_of_ble_eq_true rfl) ?_
  intro x hl hc
  subst hl
  have hk : okc x z cX0_yardsIn RX0 2 0 := hc.1
  show G x z 2 0 [(0, .long v0)] [] M
  unfold xX0_yardsIn at h
  refine g_lload_n hk 0 dX0_yardsIn_0 rfl ?_
  refine g_ldc2 hk kcX0_71 dX0_yardsIn_1 ?_
  refine g_lrem hk dX0_yardsIn_4 (by decide) ?_
  refine g_ldc2 hk kcX0_66 dX0_yardsIn_5 ?_
  refine g_ldiv hk dX0_yardsIn_8 (by decide) ?_
  refine g_l2i hk dX0_yardsIn_9 ?_
  exact g_iret (val := fun q => q) (mem := fun _ => M) hc rfl dX0_yardsIn_10 h ret1
set_option maxHeartbeats 4000000 in
set_option maxRecDepth 100000 in
theorem kX0_choiceIn (l : Launch) (z : Lay) (M : Mem) (v0 : Int64) (v2 : Int32) (r : Int32) (h : xX0_choiceIn M v0 v2 = some r) : Con l z yX0_choiceIn cX0_choiceIn 4 (some .int) 0 [.long v0, .int v2] M (some (.int r)) M := by
  refine Con.of (by decide) (Nat.le_of_ble_eq_true rfl) ?_
  intro x hl hc
  subst hl
  have hk : okc x z cX0_choiceIn RX0 4 0 := hc.1
  show G x z 4 0 [(0, .long v0), (2, .int v2)] [] M
  unfold xX0_choiceIn at h
  refine g_lload_n hk 0 dX0_choiceIn_0 rfl ?_
  refine g_ldc2 hk kcX0_66 dX0_choiceIn_1 ?_
  refine g_lrem hk dX0_choiceIn_4 (by decide) ?_
  refine g_gets2 hk lkX0_68 dX0_choiceIn_5 ?_
  refine g_iload_n hk 1 dX0_choiceIn_8 rfl ?_
  obtain ⟨hi1, h⟩ := ck_e h
  refine g_tab2 hk dX0_choiceIn_9 hi1 ?_
  obtain ⟨hi2, h⟩ := ck_e h
  refine g_ldiv hk dX0_choiceIn_10 (by simpa using hi2) ?_
  refine g_ldc2 hk kcX0_75 dX0_choiceIn_11 ?_
  refine g_lrem hk dX0_choiceIn_14 (by decide) ?_
  refine g_l2i hk dX0_choiceIn_15 ?_
  refine g_istore_n hk [(3, .int (Int64.toInt32 (((v0 - v0 / 815730721 * 815730721) / (tabC (ix v2))) - ((v0 - v0 / 815730721 * 815730721) / (tabC (ix v2))) / 13 * 13))), (0, .long v0), (2, .int v2)] dX0_choiceIn_16 rfl (by decide) rfl ?_
  refine g_iload_n hk 0 dX0_choiceIn_17 rfl ?_
  refine g_bipush hk 12 dX0_choiceIn_18 (by decide) ?_
  refine g_icmpge hk (tgt := 27) dX0_choiceIn_20 (by decide) h (fun h => ?_) (fun h => ?_)
  · refine g_bipush hk (-9) dX0_choiceIn_27 (by decide) ?_
    exact g_iret (val := fun q => q) (mem := fun _ => M) hc rfl dX0_choiceIn_29 h ret1
  · refine g_iload_n hk 0 dX0_choiceIn_23 rfl ?_
    refine g_goto hk (tgt := 29) dX0_choiceIn_24 (by decide) ?_
    exact g_iret (val := fun q => q) (mem := fun _ => M) hc rfl dX0_choiceIn_29 h ret1
set_option maxHeartbeats 4000000 in
set_option maxRecDepth 100000 in
theorem glX3_add_34 {x : Cx} {z : Lay} {r : Int32 × Mem} (hc : okm x z cX3_add RX3 6 0 (some .int) (some (.int r.1)) r.2)  : ∀ (n : Nat) (M : Mem) (v2 : Int32) (v4 : Int32) (v5 : Int32), lX3_add_34  n M v2 v4 v5 = some r → G x z 6 34 [(0, .ref (z.2.1 41)), (2, .int v2), (4, .int v4), (5, .int v5)] [] M := by
  have hk := hc.1
  intro n
  induction n with
  | zero => intro _ _ _ _ h; rw [lX3_add_34] at h; cases h
  | succ n ih =>
    intro M v2 v4 v5 h
    rw [lX3_add_34] at h
    refine g_iload hk 3 dX3_add_34 rfl ?_
    refine g_ifle hk (tgt := 79) dX3_add_36 (by decide) h (fun h => ?_) (fun h => ?_)
    · refine g_aload_n hk 0 dX3_add_79 rfl ?_
      refine gfX3_28 hk dX3_add_80 ?_
      refine g_iload hk 3 dX3_add_83 rfl ?_
      refine g_iload hk 2 dX3_add_85 rfl ?_
      obtain ⟨hi1, h⟩ := ck_e h
      refine g_iast hk sh46 dX3_add_87 hi1 ?_
      refine g_aload_n hk 0 dX3_add_88 rfl ?_
      refine g_dup hk dX3_add_89 rfl ?_
      refine gfX3_9 hk dX3_add_90 (M.1 41 0) rfl ?_
      refine g_iconst hk 1 dX3_add_93 (by decide) ?_
      refine g_iadd hk dX3_add_94 ?_
      refine pfX3_9 hk dX3_add_95 ?_
      refine g_iload hk 2 dX3_add_98 rfl ?_
      exact g_iret (val := fun q => q.1) (mem := fun q => q.2) hc rfl dX3_add_100 h ret2
    · refine g_aload_n hk 0 dX3_add_39 rfl ?_
      refine gfX3_22 hk dX3_add_40 ?_
      refine g_aload_n hk 0 dX3_add_43 rfl ?_
      refine gfX3_28 hk dX3_add_44 ?_
      refine g_iload hk 3 dX3_add_47 rfl ?_
      refine g_iconst hk 1 dX3_add_49 (by decide) ?_
      refine g_isub hk dX3_add_50 ?_
      obtain ⟨hi2, h⟩ := ck_e h
      refine g_iald hk sh46 dX3_add_51 hi2 (M.1 46 (ix (v5 - 1))) rfl ?_
      obtain ⟨hi3, h⟩ := ck_e h
      refine g_iald hk sh44 dX3_add_52 hi3 (M.1 44 (ix (M.1 46 (ix (v5 - 1))))) rfl ?_
      refine g_iload_n hk 1 dX3_add_53 rfl ?_
      refine g_icmple hk (tgt := 79) dX3_add_54 (by decide) h (fun h => ?_) (fun h => ?_)
      · refine g_aload_n hk 0 dX3_add_79 rfl ?_
        refine gfX3_28 hk dX3_add_80 ?_
        refine g_iload hk 3 dX3_add_83 rfl ?_
        refine g_iload hk 2 dX3_add_85 rfl ?_
        obtain ⟨hi4, h⟩ := ck_e h
        refine g_iast hk sh46 dX3_add_87 hi4 ?_
        refine g_aload_n hk 0 dX3_add_88 rfl ?_
        refine g_dup hk dX3_add_89 rfl ?_
        refine gfX3_9 hk dX3_add_90 (M.1 41 0) rfl ?_
        refine g_iconst hk 1 dX3_add_93 (by decide) ?_
        refine g_iadd hk dX3_add_94 ?_
        refine pfX3_9 hk dX3_add_95 ?_
        refine g_iload hk 2 dX3_add_98 rfl ?_
        exact g_iret (val := fun q => q.1) (mem := fun q => q.2) hc rfl dX3_add_100 h ret2
      · refine g_aload_n hk 0 dX3_add_57 rfl ?_
        refine gfX3_28 hk dX3_add_58 ?_
        refine g_iload hk 3 dX3_add_61 rfl ?_
        refine g_aload_n hk 0 dX3_add_63 rfl ?_
        refine gfX3_28 hk dX3_add_64 ?_
        refine g_iload hk 3 dX3_add_67 rfl ?_
        refine g_iconst hk 1 dX3_add_69 (by decide) ?_
        refine g_isub hk dX3_add_70 ?_
        refine g_iald hk sh46 dX3_add_71 hi2 (M.1 46 (ix (v5 - 1))) rfl ?_
        obtain ⟨hi5, h⟩ := ck_e h
        refine g_iast hk sh46 dX3_add_72 hi5 ?_
        refine g_iinc (k := 3) hk [(5, .int (v5 + (-1))), (0, .ref (z.2.1 41)), (2, .int v2), (4, .int v4)] dX3_add_73 rfl rfl (by decide) rfl ?_
        refine g_goto hk (tgt := 34) dX3_add_76 (by decide) ?_
        exact g_weak [1, 2, 3, 0] [(0, .ref (z.2.1 41)), (2, .int v2), (4, .int v4), (5, .int (v5 + (-1)))] rfl (ih (upI M 46 (ix v5) (M.1 46 (ix (v5 - 1)))) v2 v4 (v5 + (-1)) h)
set_option maxHeartbeats 4000000 in
set_option maxRecDepth 100000 in
theorem kX3_add (l : Launch) (z : Lay) (M : Mem) (v1 : Int32) (v2 : Int32) (v3 : Int32) (r : Int32 × Mem) (h : xX3_add M v1 v2 v3 = some r) : Con l z yX3_add cX3_add 6 (some .int) 0 [.ref (z.2.1 41), .int v1, .int v2, .int v3] M (some (.int r.1)) r.2 := by
  refine Con.of (by decide) (Nat.le_of_ble_eq_true rfl) ?_
  intro x hl hc
  subst hl
  have hk : okc x z cX3_add RX3 6 0 := hc.1
  show G x z 6 0 [(0, .ref (z.2.1 41)), (1, .int v1), (2, .int v2), (3, .int v3)] [] M
  unfold xX3_add at h
  refine g_aload_n hk 0 dX3_add_0 rfl ?_
  refine gfX3_9 hk dX3_add_1 (M.1 41 0) rfl ?_
  refine g_istore hk [(4, .int (M.1 41 0)), (0, .ref (z.2.1 41)), (1, .int v1), (2, .int v2), (3, .int v3)] dX3_add_4 (by decide) rfl ?_
  refine g_aload_n hk 1 dX3_add_6 rfl ?_
  refine gfX3_19 hk dX3_add_7 ?_
  refine g_iload hk 0 dX3_add_10 rfl ?_
  refine g_iload_n hk 2 dX3_add_12 rfl ?_
  obtain ⟨hi1, h⟩ := ck_e h
  refine g_iast hk sh43 dX3_add_13 hi1 ?_
  refine g_aload_n hk 1 dX3_add_14 rfl ?_
  refine gfX3_22 hk dX3_add_15 ?_
  refine g_iload hk 0 dX3_add_18 rfl ?_
  refine g_iload_n hk 3 dX3_add_20 rfl ?_
  refine g_iast hk sh44 dX3_add_21 hi1 ?_
  refine g_aload_n hk 1 dX3_add_22 rfl ?_
  refine gfX3_25 hk dX3_add_23 ?_
  refine g_iload hk 0 dX3_add_26 rfl ?_
  refine g_iload_n hk 4 dX3_add_28 rfl ?_
  refine g_iast hk sh45 dX3_add_29 hi1 ?_
  refine g_iload hk 0 dX3_add_30 rfl ?_
  refine g_istore hk [(5, .int (M.1 41 0)), (4, .int (M.1 41 0)), (0, .ref (z.2.1 41)), (1, .int v1), (2, .int v2), (3, .int v3)] dX3_add_32 (by decide) rfl ?_
  exact g_weak [2, 4, 1, 0] [(0, .ref (z.2.1 41)), (2, .int v2), (4, .int (M.1 41 0)), (5, .int (M.1 41 0))] rfl (glX3_add_34 hc  fu (upI (upI (upI M 43 (ix (M.1 41 0)) v1) 44 (ix (M.1 41 0)) v2) 45 (ix (M.1 41 0)) v3) v2 (M.1 41 0) (M.1 41 0) h)
set_option maxHeartbeats 4000000 in
set_option maxRecDepth 100000 in
theorem kX3_gangIn (l : Launch) (z : Lay) (M : Mem) (v1 : Int32) (v2 : Int32) (r : Int32) (h : xX3_gangIn M v1 v2 = some r) : Con l z yX3_gangIn cX3_gangIn 3 (some .int) 0 [.ref (z.2.1 41), .int v1, .int v2] M (some (.int r)) M := by
  refine Con.of (by decide) (Nat.le_of_ble_eq_true rfl) ?_
  intro x hl hc
  subst hl
  have hk : okc x z cX3_gangIn RX3 3 0 := hc.1
  show G x z 3 0 [(0, .ref (z.2.1 41)), (1, .int v1), (2, .int v2)] [] M
  unfold xX3_gangIn at h
  refine g_iload_n hk 1 dX3_gangIn_0 rfl ?_
  refine g_aload_n hk 0 dX3_gangIn_1 rfl ?_
  refine gfX3_9 hk dX3_gangIn_2 (M.1 41 0) rfl ?_
  refine g_iconst hk 1 dX3_gangIn_5 (by decide) ?_
  refine g_isub hk dX3_gangIn_6 ?_
  refine g_iload_n hk 2 dX3_gangIn_7 rfl ?_
  refine g_isub hk dX3_gangIn_8 ?_
  refine g_ishr hk dX3_gangIn_9 ?_
  refine g_iconst hk 1 dX3_gangIn_10 (by decide) ?_
  refine g_iand hk dX3_gangIn_11 ?_
  exact g_iret (val := fun q => q) (mem := fun _ => M) hc rfl dX3_gangIn_12 h ret1
set_option maxHeartbeats 4000000 in
set_option maxRecDepth 100000 in
theorem glX3_hasTools_2 {x : Cx} {z : Lay} {r : Int32} {M : Mem} (hc : okm x z cX3_hasTools RX3 3 1 (some .boolean) (some (.int r)) M)  : ∀ (n : Nat) (v1 : Int32) (v2 : Int32), lX3_hasTools_2  n M v1 v2 = some r → G x z 3 2 [(0, .ref (z.2.1 41)), (1, .int v1), (2, .int v2)] [] M := by
  have hk := hc.1
  intro n
  induction n with
  | zero => intro _ _ h; rw [lX3_hasTools_2] at h; cases h
  | succ n ih =>
    intro v1 v2 h
    rw [lX3_hasTools_2] at h
    refine g_iload_n hk 2 dX3_hasTools_2 rfl ?_
    refine g_aload_n hk 0 dX3_hasTools_3 rfl ?_
    refine gfX3_9 hk dX3_hasTools_4 (M.1 41 0) rfl ?_
    refine g_icmpge hk (tgt := 41) dX3_hasTools_7 (by decide) h (fun h => ?_) (fun h => ?_)
    · refine g_iconst hk 1 dX3_hasTools_41 (by decide) ?_
      exact g_zret (val := fun q => q) (mem := fun _ => M) hc rfl dX3_hasTools_42 h ret1 (by decide)
    · refine g_aload_n hk 0 dX3_hasTools_10 rfl ?_
      refine gfX3_25 hk dX3_hasTools_11 ?_
      refine g_iload_n hk 2 dX3_hasTools_14 rfl ?_
      obtain ⟨hi1, h⟩ := ck_e h
      refine g_iald hk sh45 dX3_hasTools_15 hi1 (M.1 45 (ix v2)) rfl ?_
      refine g_aload_n hk 0 dX3_hasTools_16 rfl ?_
      refine gfX3_15 hk dX3_hasTools_17 ?_
      refine g_aload_n hk 0 dX3_hasTools_20 rfl ?_
      refine g_iload_n hk 1 dX3_hasTools_21 rfl ?_
      refine g_iload_n hk 2 dX3_hasTools_22 rfl ?_
      obtain ⟨r1, hr1, h⟩ := bnd h
      refine g_callVi hk [.int v1, .int v2] _ sh41 rfl mtX3_gangIn mlX3_45 (by decide) (by decide) rfl rfl (Nat.le_of_ble_eq_true rfl) dX3_hasTools_23 (kX3_gangIn _ z M v1 v2 r1 hr1) ?_
      obtain ⟨hi2, h⟩ := ck_e h
      refine g_iald hk sh42 dX3_hasTools_26 hi2 (M.1 42 (ix r1)) rfl ?_
      refine g_iconst hk (-1) dX3_hasTools_27 (by decide) ?_
      refine g_ixor hk dX3_hasTools_28 ?_
      refine g_iand hk dX3_hasTools_29 ?_
      refine g_ifeq hk (tgt := 35) dX3_hasTools_30 (by decide) h (fun h => ?_) (fun h => ?_)
      · refine g_iinc (k := 2) hk [(2, .int (v2 + 1)), (0, .ref (z.2.1 41)), (1, .int v1)] dX3_hasTools_35 rfl rfl (by decide) rfl ?_
        refine g_goto hk (tgt := 2) dX3_hasTools_38 (by decide) ?_
        exact g_weak [1, 2, 0] [(0, .ref (z.2.1 41)), (1, .int v1), (2, .int (v2 + 1))] rfl (ih v1 (v2 + 1) h)
      · refine g_iconst hk 0 dX3_hasTools_33 (by decide) ?_
        exact g_zret (val := fun q => q) (mem := fun _ => M) hc rfl dX3_hasTools_34 h ret1 (by decide)
set_option maxHeartbeats 4000000 in
set_option maxRecDepth 100000 in
theorem kX3_hasTools (l : Launch) (z : Lay) (M : Mem) (v1 : Int32) (r : Int32) (h : xX3_hasTools M v1 = some r) : Con l z yX3_hasTools cX3_hasTools 3 (some .boolean) 1 [.ref (z.2.1 41), .int v1] M (some (.int r)) M := by
  refine Con.of (by decide) (Nat.le_of_ble_eq_true rfl) ?_
  intro x hl hc
  subst hl
  have hk : okc x z cX3_hasTools RX3 3 1 := hc.1
  show G x z 3 0 [(0, .ref (z.2.1 41)), (1, .int v1)] [] M
  unfold xX3_hasTools at h
  refine g_iconst hk 0 dX3_hasTools_0 (by decide) ?_
  refine g_istore_n hk [(2, .int 0), (0, .ref (z.2.1 41)), (1, .int v1)] dX3_hasTools_1 rfl (by decide) rfl ?_
  exact g_weak [1, 2, 0] [(0, .ref (z.2.1 41)), (1, .int v1), (2, .int 0)] rfl (glX3_hasTools_2 hc  fu v1 0 h)
set_option maxHeartbeats 4000000 in
set_option maxRecDepth 100000 in
theorem gjX3_weigh_70 {x : Cx} {z : Lay} {r : Int32} {M : Mem} (hc : okm x z cX3_weigh RX3 10 1 (some .int) (some (.int r)) M) (f13 : Mem → Int32 → Int32 → Int32 → Int32 → Int32 → Int32 → Option (Int32)) (hf13 : ∀ (v1 : Int32) (v2 : Int32) (v3 : Int32) (v4 : Int32) (v5 : Int32) (v6 : Int32), f13 M v1 v2 v3 v4 v5 v6 = some r → G x z 10 13 [(0, .ref (z.2.1 41)), (1, .int v1), (2, .int v2), (3, .int v3), (4, .int v4), (5, .int v5), (6, .int v6)] [] M) (v1 : Int32) (v2 : Int32) (v3 : Int32) (v4 : Int32) (v5 : Int32) (v6 : Int32) (v7 : Int32) (v8 : Int32) (h : jX3_weigh_70 f13 M v1 v2 v3 v4 v5 v6 v7 v8 = some r) : G x z 10 70 [(0, .ref (z.2.1 41)), (1, .int v1), (2, .int v2), (3, .int v3), (4, .int v4), (5, .int v5), (6, .int v6), (7, .int v7), (8, .int v8)] [] M := by
  have hk := hc.1
  unfold jX3_weigh_70 at h
  refine g_iconst hk 0 dX3_weigh_70 (by decide) ?_
  refine g_iload hk 8 dX3_weigh_71 rfl ?_
  refine g_aload_n hk 0 dX3_weigh_73 rfl ?_
  refine gfX3_22 hk dX3_weigh_74 ?_
  refine g_iload hk 7 dX3_weigh_77 rfl ?_
  obtain ⟨hi1, h⟩ := ck_e h
  refine g_iald hk sh44 dX3_weigh_79 hi1 (M.1 44 (ix v7)) rfl ?_
  refine g_isub hk dX3_weigh_80 ?_
  refine g_mmax hk mlX3_48 st_max inMath cd_max (by decide) (Nat.le_of_ble_eq_true rfl) dX3_weigh_81 ?_
  refine g_istore hk [(9, .int (mxI 0 (v8 - (M.1 44 (ix v7))))), (0, .ref (z.2.1 41)), (1, .int v1), (2, .int v2), (3, .int v3), (4, .int v4), (5, .int v5), (6, .int v6), (7, .int v7), (8, .int v8)] dX3_weigh_84 (by decide) rfl ?_
  refine g_iload hk 5 dX3_weigh_86 rfl ?_
  refine g_iload hk 0 dX3_weigh_88 rfl ?_
  refine g_mmax hk mlX3_48 st_max inMath cd_max (by decide) (Nat.le_of_ble_eq_true rfl) dX3_weigh_90 ?_
  refine g_istore hk [(4, .int (mxI v4 (mxI 0 (v8 - (M.1 44 (ix v7)))))), (9, .int (mxI 0 (v8 - (M.1 44 (ix v7))))), (0, .ref (z.2.1 41)), (1, .int v1), (2, .int v2), (3, .int v3), (5, .int v5), (6, .int v6), (7, .int v7), (8, .int v8)] dX3_weigh_93 (by decide) rfl ?_
  refine g_iload hk 6 dX3_weigh_95 rfl ?_
  refine g_iload hk 1 dX3_weigh_97 rfl ?_
  refine g_iadd hk dX3_weigh_99 ?_
  refine g_istore hk [(5, .int (v5 + (mxI 0 (v8 - (M.1 44 (ix v7)))))), (4, .int (mxI v4 (mxI 0 (v8 - (M.1 44 (ix v7)))))), (9, .int (mxI 0 (v8 - (M.1 44 (ix v7))))), (0, .ref (z.2.1 41)), (1, .int v1), (2, .int v2), (3, .int v3), (6, .int v6), (7, .int v7), (8, .int v8)] dX3_weigh_100 (by decide) rfl ?_
  refine g_iinc (k := 7) hk [(6, .int (v6 + 1)), (5, .int (v5 + (mxI 0 (v8 - (M.1 44 (ix v7)))))), (4, .int (mxI v4 (mxI 0 (v8 - (M.1 44 (ix v7)))))), (9, .int (mxI 0 (v8 - (M.1 44 (ix v7))))), (0, .ref (z.2.1 41)), (1, .int v1), (2, .int v2), (3, .int v3), (7, .int v7), (8, .int v8)] dX3_weigh_102 rfl rfl (by decide) rfl ?_
  refine g_goto hk (tgt := 13) dX3_weigh_105 (by decide) ?_
  exact g_weak [4, 5, 6, 7, 2, 1, 0] [(0, .ref (z.2.1 41)), (1, .int v1), (2, .int v2), (3, .int v3), (4, .int (mxI v4 (mxI 0 (v8 - (M.1 44 (ix v7)))))), (5, .int (v5 + (mxI 0 (v8 - (M.1 44 (ix v7)))))), (6, .int (v6 + 1))] rfl (hf13 v1 v2 v3 (mxI v4 (mxI 0 (v8 - (M.1 44 (ix v7))))) (v5 + (mxI 0 (v8 - (M.1 44 (ix v7))))) (v6 + 1) h)
set_option maxHeartbeats 4000000 in
set_option maxRecDepth 100000 in
theorem glX3_weigh_13 {x : Cx} {z : Lay} {r : Int32} {M : Mem} (hc : okm x z cX3_weigh RX3 10 1 (some .int) (some (.int r)) M)  : ∀ (n : Nat) (v1 : Int32) (v2 : Int32) (v3 : Int32) (v4 : Int32) (v5 : Int32) (v6 : Int32), lX3_weigh_13  n M v1 v2 v3 v4 v5 v6 = some r → G x z 10 13 [(0, .ref (z.2.1 41)), (1, .int v1), (2, .int v2), (3, .int v3), (4, .int v4), (5, .int v5), (6, .int v6)] [] M := by
  have hk := hc.1
  intro n
  induction n with
  | zero => intro _ _ _ _ _ _ h; rw [lX3_weigh_13] at h; cases h
  | succ n ih =>
    intro v1 v2 v3 v4 v5 v6 h
    rw [lX3_weigh_13] at h
    refine g_iload hk 6 dX3_weigh_13 rfl ?_
    refine g_aload_n hk 0 dX3_weigh_15 rfl ?_
    refine gfX3_9 hk dX3_weigh_16 (M.1 41 0) rfl ?_
    refine g_icmpge hk (tgt := 108) dX3_weigh_19 (by decide) h (fun h => ?_) (fun h => ?_)
    · refine g_iload hk 4 dX3_weigh_108 rfl ?_
      refine g_bipush hk 20 dX3_weigh_110 (by decide) ?_
      refine g_ishl hk dX3_weigh_112 ?_
      refine g_iload hk 5 dX3_weigh_113 rfl ?_
      refine g_bipush hk 8 dX3_weigh_115 (by decide) ?_
      refine g_ishl hk dX3_weigh_117 ?_
      refine g_ior hk dX3_weigh_118 ?_
      refine g_iload_n hk 1 dX3_weigh_119 rfl ?_
      refine g_ior hk dX3_weigh_120 ?_
      exact g_iret (val := fun q => q) (mem := fun _ => M) hc rfl dX3_weigh_121 h ret1
    · refine g_aload_n hk 0 dX3_weigh_22 rfl ?_
      refine gfX3_28 hk dX3_weigh_23 ?_
      refine g_iload hk 6 dX3_weigh_26 rfl ?_
      obtain ⟨hi1, h⟩ := ck_e h
      refine g_iald hk sh46 dX3_weigh_28 hi1 (M.1 46 (ix v6)) rfl ?_
      refine g_istore hk [(7, .int (M.1 46 (ix v6))), (0, .ref (z.2.1 41)), (1, .int v1), (2, .int v2), (3, .int v3), (4, .int v4), (5, .int v5), (6, .int v6)] dX3_weigh_29 (by decide) rfl ?_
      refine g_aload_n hk 1 dX3_weigh_31 rfl ?_
      refine g_iload_n hk 2 dX3_weigh_32 rfl ?_
      refine g_iload hk 0 dX3_weigh_33 rfl ?_
      obtain ⟨r1, hr1, h⟩ := bnd h
      refine g_callVi hk [.int v1, .int (M.1 46 (ix v6))] _ sh41 rfl mtX3_gangIn mlX3_45 (by decide) (by decide) rfl rfl (Nat.le_of_ble_eq_true rfl) dX3_weigh_35 (kX3_gangIn _ z M v1 (M.1 46 (ix v6)) r1 hr1) ?_
      refine g_ifne hk (tgt := 57) dX3_weigh_38 (by decide) h (fun h => ?_) (fun h => ?_)
      · refine g_iload_n hk 4 dX3_weigh_57 rfl ?_
        refine g_aload_n hk 1 dX3_weigh_58 rfl ?_
        refine gfX3_19 hk dX3_weigh_59 ?_
        refine g_iload hk 0 dX3_weigh_62 rfl ?_
        obtain ⟨hi2, h⟩ := ck_e h
        refine g_iald hk sh43 dX3_weigh_64 hi2 (M.1 43 (ix (M.1 46 (ix v6)))) rfl ?_
        refine g_iadd hk dX3_weigh_65 ?_
        refine g_istore_n hk [(3, .int (v3 + (M.1 43 (ix (M.1 46 (ix v6)))))), (7, .int (M.1 46 (ix v6))), (0, .ref (z.2.1 41)), (1, .int v1), (2, .int v2), (4, .int v4), (5, .int v5), (6, .int v6)] dX3_weigh_66 rfl (by decide) rfl ?_
        refine g_iload_n hk 0 dX3_weigh_67 rfl ?_
        refine g_istore hk [(8, .int (v3 + (M.1 43 (ix (M.1 46 (ix v6)))))), (3, .int (v3 + (M.1 43 (ix (M.1 46 (ix v6)))))), (7, .int (M.1 46 (ix v6))), (0, .ref (z.2.1 41)), (1, .int v1), (2, .int v2), (4, .int v4), (5, .int v5), (6, .int v6)] dX3_weigh_68 (by decide) rfl ?_
        exact g_weak [3, 4, 5, 1, 6, 7, 8, 2, 0] [(0, .ref (z.2.1 41)), (1, .int v1), (2, .int v2), (3, .int (v3 + (M.1 43 (ix (M.1 46 (ix v6)))))), (4, .int v4), (5, .int v5), (6, .int v6), (7, .int (M.1 46 (ix v6))), (8, .int (v3 + (M.1 43 (ix (M.1 46 (ix v6))))))] rfl (gjX3_weigh_70 hc (lX3_weigh_13  n) ih v1 v2 (v3 + (M.1 43 (ix (M.1 46 (ix v6))))) v4 v5 v6 (M.1 46 (ix v6)) (v3 + (M.1 43 (ix (M.1 46 (ix v6))))) h)
      · refine g_iload_n hk 3 dX3_weigh_41 rfl ?_
        refine g_aload_n hk 1 dX3_weigh_42 rfl ?_
        refine gfX3_19 hk dX3_weigh_43 ?_
        refine g_iload hk 0 dX3_weigh_46 rfl ?_
        obtain ⟨hi3, h⟩ := ck_e h
        refine g_iald hk sh43 dX3_weigh_48 hi3 (M.1 43 (ix (M.1 46 (ix v6)))) rfl ?_
        refine g_iadd hk dX3_weigh_49 ?_
        refine g_istore_n hk [(2, .int (v2 + (M.1 43 (ix (M.1 46 (ix v6)))))), (7, .int (M.1 46 (ix v6))), (0, .ref (z.2.1 41)), (1, .int v1), (3, .int v3), (4, .int v4), (5, .int v5), (6, .int v6)] dX3_weigh_50 rfl (by decide) rfl ?_
        refine g_iload_n hk 0 dX3_weigh_51 rfl ?_
        refine g_istore hk [(8, .int (v2 + (M.1 43 (ix (M.1 46 (ix v6)))))), (2, .int (v2 + (M.1 43 (ix (M.1 46 (ix v6)))))), (7, .int (M.1 46 (ix v6))), (0, .ref (z.2.1 41)), (1, .int v1), (3, .int v3), (4, .int v4), (5, .int v5), (6, .int v6)] dX3_weigh_52 (by decide) rfl ?_
        refine g_goto hk (tgt := 70) dX3_weigh_54 (by decide) ?_
        exact g_weak [3, 4, 1, 5, 6, 7, 8, 2, 0] [(0, .ref (z.2.1 41)), (1, .int v1), (2, .int (v2 + (M.1 43 (ix (M.1 46 (ix v6)))))), (3, .int v3), (4, .int v4), (5, .int v5), (6, .int v6), (7, .int (M.1 46 (ix v6))), (8, .int (v2 + (M.1 43 (ix (M.1 46 (ix v6))))))] rfl (gjX3_weigh_70 hc (lX3_weigh_13  n) ih v1 (v2 + (M.1 43 (ix (M.1 46 (ix v6))))) v3 v4 v5 v6 (M.1 46 (ix v6)) (v2 + (M.1 43 (ix (M.1 46 (ix v6))))) h)
set_option maxHeartbeats 4000000 in
set_option maxRecDepth 100000 in
theorem kX3_weigh (l : Launch) (z : Lay) (M : Mem) (v1 : Int32) (r : Int32) (h : xX3_weigh M v1 = some r) : Con l z yX3_weigh cX3_weigh 10 (some .int) 1 [.ref (z.2.1 41), .int v1] M (some (.int r)) M := by
  refine Con.of (by decide) (Nat.le_of_ble_eq_true rfl) ?_
  intro x hl hc
  subst hl
  have hk : okc x z cX3_weigh RX3 10 1 := hc.1
  show G x z 10 0 [(0, .ref (z.2.1 41)), (1, .int v1)] [] M
  unfold xX3_weigh at h
  refine g_iconst hk 0 dX3_weigh_0 (by decide) ?_
  refine g_istore_n hk [(2, .int 0), (0, .ref (z.2.1 41)), (1, .int v1)] dX3_weigh_1 rfl (by decide) rfl ?_
  refine g_iconst hk 0 dX3_weigh_2 (by decide) ?_
  refine g_istore_n hk [(3, .int 0), (2, .int 0), (0, .ref (z.2.1 41)), (1, .int v1)] dX3_weigh_3 rfl (by decide) rfl ?_
  refine g_iconst hk 0 dX3_weigh_4 (by decide) ?_
  refine g_istore hk [(4, .int 0), (3, .int 0), (2, .int 0), (0, .ref (z.2.1 41)), (1, .int v1)] dX3_weigh_5 (by decide) rfl ?_
  refine g_iconst hk 0 dX3_weigh_7 (by decide) ?_
  refine g_istore hk [(5, .int 0), (4, .int 0), (3, .int 0), (2, .int 0), (0, .ref (z.2.1 41)), (1, .int v1)] dX3_weigh_8 (by decide) rfl ?_
  refine g_iconst hk 0 dX3_weigh_10 (by decide) ?_
  refine g_istore hk [(6, .int 0), (5, .int 0), (4, .int 0), (3, .int 0), (2, .int 0), (0, .ref (z.2.1 41)), (1, .int v1)] dX3_weigh_11 (by decide) rfl ?_
  exact g_weak [5, 6, 4, 3, 2, 1, 0] [(0, .ref (z.2.1 41)), (1, .int v1), (2, .int 0), (3, .int 0), (4, .int 0), (5, .int 0), (6, .int 0)] rfl (glX3_weigh_13 hc  fu v1 0 0 0 0 0 h)
set_option maxHeartbeats 4000000 in
set_option maxRecDepth 100000 in
theorem glX3_bestPlan_12 {x : Cx} {z : Lay} {r : Int32} {M : Mem} (hc : okm x z cX3_bestPlan RX3 5 2 (some .int) (some (.int r)) M)  : ∀ (n : Nat) (v1 : Int32) (v2 : Int32) (v3 : Int32), lX3_bestPlan_12  n M v1 v2 v3 = some r → G x z 5 12 [(0, .ref (z.2.1 41)), (1, .int v1), (2, .int v2), (3, .int v3)] [] M := by
  have hk := hc.1
  intro n
  induction n with
  | zero => intro _ _ _ h; rw [lX3_bestPlan_12] at h; cases h
  | succ n ih =>
    intro v1 v2 v3 h
    rw [lX3_bestPlan_12] at h
    refine g_iload_n hk 3 dX3_bestPlan_12 rfl ?_
    refine g_iload_n hk 2 dX3_bestPlan_13 rfl ?_
    refine g_icmpge hk (tgt := 56) dX3_bestPlan_14 (by decide) h (fun h => ?_) (fun h => ?_)
    · refine g_iload_n hk 1 dX3_bestPlan_56 rfl ?_
      exact g_iret (val := fun q => q) (mem := fun _ => M) hc rfl dX3_bestPlan_57 h ret1
    · refine g_aload_n hk 0 dX3_bestPlan_17 rfl ?_
      refine g_iload_n hk 3 dX3_bestPlan_18 rfl ?_
      obtain ⟨r1, hr1, h⟩ := bnd h
      refine g_callVi hk [.int v3] _ sh41 rfl mtX3_hasTools mlX3_31 (by decide) (by decide) rfl rfl (Nat.le_of_ble_eq_true rfl) dX3_bestPlan_19 (kX3_hasTools _ z M v3 r1 hr1) ?_
      refine g_ifeq hk (tgt := 50) dX3_bestPlan_22 (by decide) h (fun h => ?_) (fun h => ?_)
      · refine g_iinc (k := 3) hk [(3, .int (v3 + 1)), (0, .ref (z.2.1 41)), (1, .int v1), (2, .int v2)] dX3_bestPlan_50 rfl rfl (by decide) rfl ?_
        refine g_goto hk (tgt := 12) dX3_bestPlan_53 (by decide) ?_
        exact g_weak [1, 2, 3, 0] [(0, .ref (z.2.1 41)), (1, .int v1), (2, .int v2), (3, .int (v3 + 1))] rfl (ih v1 v2 (v3 + 1) h)
      · refine g_aload_n hk 0 dX3_bestPlan_25 rfl ?_
        refine g_iload_n hk 3 dX3_bestPlan_26 rfl ?_
        obtain ⟨r2, hr2, h⟩ := bnd h
        refine g_callVi hk [.int v3] _ sh41 rfl mtX3_weigh mlX3_35 (by decide) (by decide) rfl rfl (Nat.le_of_ble_eq_true rfl) dX3_bestPlan_27 (kX3_weigh _ z M v3 r2 hr2) ?_
        refine g_istore hk [(4, .int r2), (0, .ref (z.2.1 41)), (1, .int v1), (2, .int v2), (3, .int v3)] dX3_bestPlan_30 (by decide) rfl ?_
        refine g_iload_n hk 2 dX3_bestPlan_32 rfl ?_
        refine g_bipush hk (-9) dX3_bestPlan_33 (by decide) ?_
        refine g_icmpne hk (tgt := 43) dX3_bestPlan_35 (by decide) h (fun h => ?_) (fun h => ?_)
        · refine g_iload_n hk 2 dX3_bestPlan_43 rfl ?_
          refine g_iload hk 0 dX3_bestPlan_44 rfl ?_
          refine g_mmin hk mlX3_39 st_min inMath cd_min (by decide) (Nat.le_of_ble_eq_true rfl) dX3_bestPlan_46 ?_
          refine g_istore_n hk [(1, .int (mnI v1 r2)), (4, .int r2), (0, .ref (z.2.1 41)), (2, .int v2), (3, .int v3)] dX3_bestPlan_49 rfl (by decide) rfl ?_
          refine g_iinc (k := 4) hk [(3, .int (v3 + 1)), (1, .int (mnI v1 r2)), (4, .int r2), (0, .ref (z.2.1 41)), (2, .int v2)] dX3_bestPlan_50 rfl rfl (by decide) rfl ?_
          refine g_goto hk (tgt := 12) dX3_bestPlan_53 (by decide) ?_
          exact g_weak [3, 1, 4, 0] [(0, .ref (z.2.1 41)), (1, .int (mnI v1 r2)), (2, .int v2), (3, .int (v3 + 1))] rfl (ih (mnI v1 r2) v2 (v3 + 1) h)
        · refine g_iload hk 0 dX3_bestPlan_38 rfl ?_
          refine g_goto hk (tgt := 49) dX3_bestPlan_40 (by decide) ?_
          refine g_istore_n hk [(1, .int r2), (4, .int r2), (0, .ref (z.2.1 41)), (2, .int v2), (3, .int v3)] dX3_bestPlan_49 rfl (by decide) rfl ?_
          refine g_iinc (k := 4) hk [(3, .int (v3 + 1)), (1, .int r2), (4, .int r2), (0, .ref (z.2.1 41)), (2, .int v2)] dX3_bestPlan_50 rfl rfl (by decide) rfl ?_
          refine g_goto hk (tgt := 12) dX3_bestPlan_53 (by decide) ?_
          exact g_weak [3, 1, 4, 0] [(0, .ref (z.2.1 41)), (1, .int r2), (2, .int v2), (3, .int (v3 + 1))] rfl (ih r2 v2 (v3 + 1) h)
set_option maxHeartbeats 4000000 in
set_option maxRecDepth 100000 in
theorem kX3_bestPlan (l : Launch) (z : Lay) (M : Mem)  (r : Int32) (h : xX3_bestPlan M = some r) : Con l z yX3_bestPlan cX3_bestPlan 5 (some .int) 2 [.ref (z.2.1 41)] M (some (.int r)) M := by
  refine Con.of (by decide) (Nat.le_of_ble_eq_true rfl) ?_
  intro x hl hc
  subst hl
  have hk : okc x z cX3_bestPlan RX3 5 2 := hc.1
  show G x z 5 0 [(0, .ref (z.2.1 41))] [] M
  unfold xX3_bestPlan at h
  refine g_bipush hk (-9) dX3_bestPlan_0 (by decide) ?_
  refine g_istore_n hk [(1, .int (-9)), (0, .ref (z.2.1 41))] dX3_bestPlan_2 rfl (by decide) rfl ?_
  refine g_iconst hk 1 dX3_bestPlan_3 (by decide) ?_
  refine g_aload_n hk 1 dX3_bestPlan_4 rfl ?_
  refine gfX3_9 hk dX3_bestPlan_5 (M.1 41 0) rfl ?_
  refine g_ishl hk dX3_bestPlan_8 ?_
  refine g_istore_n hk [(2, .int (1 <<< ((M.1 41 0) &&& 31))), (1, .int (-9)), (0, .ref (z.2.1 41))] dX3_bestPlan_9 rfl (by decide) rfl ?_
  refine g_iconst hk 0 dX3_bestPlan_10 (by decide) ?_
  refine g_istore_n hk [(3, .int 0), (2, .int (1 <<< ((M.1 41 0) &&& 31))), (1, .int (-9)), (0, .ref (z.2.1 41))] dX3_bestPlan_11 rfl (by decide) rfl ?_
  exact g_weak [3, 2, 1, 0] [(0, .ref (z.2.1 41)), (1, .int (-9)), (2, .int (1 <<< ((M.1 41 0) &&& 31))), (3, .int 0)] rfl (glX3_bestPlan_12 hc  fu (-9) (1 <<< ((M.1 41 0) &&& 31)) 0 h)
set_option maxHeartbeats 4000000 in
set_option maxRecDepth 100000 in
theorem kX3_worstIn (l : Launch) (z : Lay) (M : Mem) (v0 : Int32) (r : Int32) (h : xX3_worstIn v0 = some r) : Con l z yX3_worstIn cX3_worstIn 1 (some .int) 0 [.int v0] M (some (.int r)) M := by
  refine Con.of (by decide) (Nat.le_of_ble_eq_true rfl) ?_
  intro x hl hc
  subst hl
  have hk : okc x z cX3_worstIn RX3 1 0 := hc.1
  show G x z 1 0 [(0, .int v0)] [] M
  unfold xX3_worstIn at h
  refine g_iload_n hk 0 dX3_worstIn_0 rfl ?_
  refine g_bipush hk 20 dX3_worstIn_1 (by decide) ?_
  refine g_ishr hk dX3_worstIn_3 ?_
  exact g_iret (val := fun q => q) (mem := fun _ => M) hc rfl dX3_worstIn_4 h ret1
set_option maxHeartbeats 4000000 in
set_option maxRecDepth 100000 in
theorem kX3_togetherIn (l : Launch) (z : Lay) (M : Mem) (v0 : Int32) (r : Int32) (h : xX3_togetherIn v0 = some r) : Con l z yX3_togetherIn cX3_togetherIn 1 (some .int) 0 [.int v0] M (some (.int r)) M := by
  refine Con.of (by decide) (Nat.le_of_ble_eq_true rfl) ?_
  intro x hl hc
  subst hl
  have hk : okc x z cX3_togetherIn RX3 1 0 := hc.1
  show G x z 1 0 [(0, .int v0)] [] M
  unfold xX3_togetherIn at h
  refine g_iload_n hk 0 dX3_togetherIn_0 rfl ?_
  refine g_bipush hk 8 dX3_togetherIn_1 (by decide) ?_
  refine g_ishr hk dX3_togetherIn_3 ?_
  refine g_sipush hk 4095 dX3_togetherIn_4 (by decide) ?_
  refine g_iand hk dX3_togetherIn_7 ?_
  exact g_iret (val := fun q => q) (mem := fun _ => M) hc rfl dX3_togetherIn_8 h ret1
set_option maxHeartbeats 4000000 in
set_option maxRecDepth 100000 in
theorem kX3_wayIn (l : Launch) (z : Lay) (M : Mem) (v0 : Int32) (r : Int32) (h : xX3_wayIn v0 = some r) : Con l z yX3_wayIn cX3_wayIn 1 (some .int) 0 [.int v0] M (some (.int r)) M := by
  refine Con.of (by decide) (Nat.le_of_ble_eq_true rfl) ?_
  intro x hl hc
  subst hl
  have hk : okc x z cX3_wayIn RX3 1 0 := hc.1
  show G x z 1 0 [(0, .int v0)] [] M
  unfold xX3_wayIn at h
  refine g_iload_n hk 0 dX3_wayIn_0 rfl ?_
  refine g_sipush hk 255 dX3_wayIn_1 (by decide) ?_
  refine g_iand hk dX3_wayIn_4 ?_
  exact g_iret (val := fun q => q) (mem := fun _ => M) hc rfl dX3_wayIn_5 h ret1
set_option maxHeartbeats 4000000 in
set_option maxRecDepth 100000 in
theorem kX4_lay (l : Launch) (z : Lay) (M : Mem) (v1 : Int32) (v2 : Int32) (r : Int32 × Mem) (h : xX4_lay M v1 v2 = some r) : Con l z yX4_lay cX4_lay 4 (some .int) 0 [.ref (z.2.1 47), .int v1, .int v2] M (some (.int r.1)) r.2 := by
  refine Con.of (by decide) (Nat.le_of_ble_eq_true rfl) ?_
  intro x hl hc
  subst hl
  have hk : okc x z cX4_lay RX4 4 0 := hc.1
  show G x z 4 0 [(0, .ref (z.2.1 47)), (1, .int v1), (2, .int v2)] [] M
  unfold xX4_lay at h
  refine g_aload_n hk 0 dX4_lay_0 rfl ?_
  refine gfX4_9 hk dX4_lay_1 ?_
  refine g_iload_n hk 1 dX4_lay_4 rfl ?_
  obtain ⟨hi1, h⟩ := ck_e h
  refine g_iald hk sh48 dX4_lay_5 hi1 (M.1 48 (ix v1)) rfl ?_
  refine g_istore_n hk [(3, .int (M.1 48 (ix v1))), (0, .ref (z.2.1 47)), (1, .int v1), (2, .int v2)] dX4_lay_6 rfl (by decide) rfl ?_
  refine g_aload_n hk 1 dX4_lay_7 rfl ?_
  refine gfX4_9 hk dX4_lay_8 ?_
  refine g_iload_n hk 2 dX4_lay_11 rfl ?_
  refine g_iload_n hk 3 dX4_lay_12 rfl ?_
  refine g_iast hk sh48 dX4_lay_13 hi1 ?_
  refine g_iload_n hk 0 dX4_lay_14 rfl ?_
  exact g_iret (val := fun q => q.1) (mem := fun q => q.2) hc rfl dX4_lay_15 h ret2
set_option maxHeartbeats 4000000 in
set_option maxRecDepth 100000 in
theorem kX4_giveLot (l : Launch) (z : Lay) (M : Mem) (v1 : Int32) (v2 : Int32) (r : Int32 × Mem) (h : xX4_giveLot M v1 v2 = some r) : Con l z yX4_giveLot cX4_giveLot 4 (some .int) 0 [.ref (z.2.1 47), .int v1, .int v2] M (some (.int r.1)) r.2 := by
  refine Con.of (by decide) (Nat.le_of_ble_eq_true rfl) ?_
  intro x hl hc
  subst hl
  have hk : okc x z cX4_giveLot RX4 4 0 := hc.1
  show G x z 4 0 [(0, .ref (z.2.1 47)), (1, .int v1), (2, .int v2)] [] M
  unfold xX4_giveLot at h
  refine g_aload_n hk 0 dX4_giveLot_0 rfl ?_
  refine gfX4_18 hk dX4_giveLot_1 ?_
  refine g_iload_n hk 1 dX4_giveLot_4 rfl ?_
  obtain ⟨hi1, h⟩ := ck_e h
  refine g_iald hk sh50 dX4_giveLot_5 hi1 (M.1 50 (ix v1)) rfl ?_
  refine g_istore_n hk [(3, .int (M.1 50 (ix v1))), (0, .ref (z.2.1 47)), (1, .int v1), (2, .int v2)] dX4_giveLot_6 rfl (by decide) rfl ?_
  refine g_aload_n hk 1 dX4_giveLot_7 rfl ?_
  refine gfX4_18 hk dX4_giveLot_8 ?_
  refine g_iload_n hk 2 dX4_giveLot_11 rfl ?_
  refine g_iload_n hk 3 dX4_giveLot_12 rfl ?_
  refine g_iast hk sh50 dX4_giveLot_13 hi1 ?_
  refine g_iload_n hk 0 dX4_giveLot_14 rfl ?_
  exact g_iret (val := fun q => q.1) (mem := fun q => q.2) hc rfl dX4_giveLot_15 h ret2
set_option maxHeartbeats 4000000 in
set_option maxRecDepth 100000 in
theorem kX4_addCrack (l : Launch) (z : Lay) (M : Mem) (v1 : Int32) (r : Mem) (h : xX4_addCrack M v1 = some r) : Con l z yX4_addCrack cX4_addCrack 2 (none) 0 [.ref (z.2.1 47), .int v1] M (none) r := by
  refine Con.of (by decide) (Nat.le_of_ble_eq_true rfl) ?_
  intro x hl hc
  subst hl
  have hk : okc x z cX4_addCrack RX4 2 0 := hc.1
  show G x z 2 0 [(0, .ref (z.2.1 47)), (1, .int v1)] [] M
  unfold xX4_addCrack at h
  refine g_aload_n hk 0 dX4_addCrack_0 rfl ?_
  refine gfX4_15 hk dX4_addCrack_1 ?_
  refine g_aload_n hk 0 dX4_addCrack_4 rfl ?_
  refine gfX4_18 hk dX4_addCrack_5 ?_
  refine g_iload_n hk 1 dX4_addCrack_8 rfl ?_
  obtain ⟨hi1, h⟩ := ck_e h
  refine g_iald hk sh50 dX4_addCrack_9 hi1 (M.1 50 (ix v1)) rfl ?_
  refine g_dup2 hk dX4_addCrack_10 rfl rfl ?_
  obtain ⟨hi2, h⟩ := ck_e h
  refine g_iald hk sh49 dX4_addCrack_11 hi2 (M.1 49 (ix (M.1 50 (ix v1)))) rfl ?_
  refine g_iconst hk 1 dX4_addCrack_12 (by decide) ?_
  refine g_iadd hk dX4_addCrack_13 ?_
  refine g_iast hk sh49 dX4_addCrack_14 hi2 ?_
  exact g_vret (mem := fun q => q) hc rfl dX4_addCrack_15 h retv
set_option maxHeartbeats 4000000 in
set_option maxRecDepth 100000 in
theorem glX4_milesWith_4 {x : Cx} {z : Lay} {r : Int32} {M : Mem} (hc : okm x z cX4_milesWith RX4 4 0 (some .int) (some (.int r)) M)  : ∀ (n : Nat) (v1 : Int32) (v2 : Int32) (v3 : Int32), lX4_milesWith_4  n M v1 v2 v3 = some r → G x z 4 4 [(0, .ref (z.2.1 47)), (1, .int v1), (2, .int v2), (3, .int v3)] [] M := by
  have hk := hc.1
  intro n
  induction n with
  | zero => intro _ _ _ h; rw [lX4_milesWith_4] at h; cases h
  | succ n ih =>
    intro v1 v2 v3 h
    rw [lX4_milesWith_4] at h
    refine g_iload_n hk 3 dX4_milesWith_4 rfl ?_
    refine g_bipush hk 20 dX4_milesWith_5 (by decide) ?_
    refine g_icmpge hk (tgt := 29) dX4_milesWith_7 (by decide) h (fun h => ?_) (fun h => ?_)
    · refine g_iload_n hk 2 dX4_milesWith_29 rfl ?_
      exact g_iret (val := fun q => q) (mem := fun _ => M) hc rfl dX4_milesWith_30 h ret1
    · refine g_aload_n hk 0 dX4_milesWith_10 rfl ?_
      refine gfX4_18 hk dX4_milesWith_11 ?_
      refine g_iload_n hk 3 dX4_milesWith_14 rfl ?_
      obtain ⟨hi1, h⟩ := ck_e h
      refine g_iald hk sh50 dX4_milesWith_15 hi1 (M.1 50 (ix v3)) rfl ?_
      refine g_iload_n hk 1 dX4_milesWith_16 rfl ?_
      refine g_icmpne hk (tgt := 23) dX4_milesWith_17 (by decide) h (fun h => ?_) (fun h => ?_)
      · refine g_iinc (k := 3) hk [(3, .int (v3 + 1)), (0, .ref (z.2.1 47)), (1, .int v1), (2, .int v2)] dX4_milesWith_23 rfl rfl (by decide) rfl ?_
        refine g_goto hk (tgt := 4) dX4_milesWith_26 (by decide) ?_
        exact g_weak [1, 2, 3, 0] [(0, .ref (z.2.1 47)), (1, .int v1), (2, .int v2), (3, .int (v3 + 1))] rfl (ih v1 v2 (v3 + 1) h)
      · refine g_iinc (k := 2) hk [(2, .int (v2 + 1)), (0, .ref (z.2.1 47)), (1, .int v1), (3, .int v3)] dX4_milesWith_20 rfl rfl (by decide) rfl ?_
        refine g_iinc (k := 3) hk [(3, .int (v3 + 1)), (2, .int (v2 + 1)), (0, .ref (z.2.1 47)), (1, .int v1)] dX4_milesWith_23 rfl rfl (by decide) rfl ?_
        refine g_goto hk (tgt := 4) dX4_milesWith_26 (by decide) ?_
        exact g_weak [2, 3, 1, 0] [(0, .ref (z.2.1 47)), (1, .int v1), (2, .int (v2 + 1)), (3, .int (v3 + 1))] rfl (ih v1 (v2 + 1) (v3 + 1) h)
set_option maxHeartbeats 4000000 in
set_option maxRecDepth 100000 in
theorem kX4_milesWith (l : Launch) (z : Lay) (M : Mem) (v1 : Int32) (r : Int32) (h : xX4_milesWith M v1 = some r) : Con l z yX4_milesWith cX4_milesWith 4 (some .int) 0 [.ref (z.2.1 47), .int v1] M (some (.int r)) M := by
  refine Con.of (by decide) (Nat.le_of_ble_eq_true rfl) ?_
  intro x hl hc
  subst hl
  have hk : okc x z cX4_milesWith RX4 4 0 := hc.1
  show G x z 4 0 [(0, .ref (z.2.1 47)), (1, .int v1)] [] M
  unfold xX4_milesWith at h
  refine g_iconst hk 0 dX4_milesWith_0 (by decide) ?_
  refine g_istore_n hk [(2, .int 0), (0, .ref (z.2.1 47)), (1, .int v1)] dX4_milesWith_1 rfl (by decide) rfl ?_
  refine g_iconst hk 0 dX4_milesWith_2 (by decide) ?_
  refine g_istore_n hk [(3, .int 0), (2, .int 0), (0, .ref (z.2.1 47)), (1, .int v1)] dX4_milesWith_3 rfl (by decide) rfl ?_
  exact g_weak [2, 3, 1, 0] [(0, .ref (z.2.1 47)), (1, .int v1), (2, .int 0), (3, .int 0)] rfl (glX4_milesWith_4 hc  fu v1 0 0 h)
set_option maxHeartbeats 4000000 in
set_option maxRecDepth 100000 in
theorem glX4_worstLot_10 {x : Cx} {z : Lay} {r : Int32} {M : Mem} (hc : okm x z cX4_worstLot RX4 6 1 (some .int) (some (.int r)) M)  : ∀ (n : Nat) (v1 : Int32) (v2 : Int32) (v3 : Int32) (v4 : Int32), lX4_worstLot_10  n M v1 v2 v3 v4 = some r → G x z 6 10 [(0, .ref (z.2.1 47)), (1, .int v1), (2, .int v2), (3, .int v3), (4, .int v4)] [] M := by
  have hk := hc.1
  intro n
  induction n with
  | zero => intro _ _ _ _ h; rw [lX4_worstLot_10] at h; cases h
  | succ n ih =>
    intro v1 v2 v3 v4 h
    rw [lX4_worstLot_10] at h
    refine g_iload hk 4 dX4_worstLot_10 rfl ?_
    refine g_iconst hk 5 dX4_worstLot_12 (by decide) ?_
    refine g_icmpgt hk (tgt := 65) dX4_worstLot_13 (by decide) h (fun h => ?_) (fun h => ?_)
    · refine g_iload_n hk 1 dX4_worstLot_65 rfl ?_
      exact g_iret (val := fun q => q) (mem := fun _ => M) hc rfl dX4_worstLot_66 h ret1
    · refine g_aload_n hk 0 dX4_worstLot_16 rfl ?_
      refine g_iload hk 4 dX4_worstLot_17 rfl ?_
      obtain ⟨r1, hr1, h⟩ := bnd h
      refine g_callVi hk [.int v4] _ sh47 rfl mtX4_milesWith mlX4_21 (by decide) (by decide) rfl rfl (Nat.le_of_ble_eq_true rfl) dX4_worstLot_19 (kX4_milesWith _ z M v4 r1 hr1) ?_
      refine g_istore hk [(5, .int r1), (0, .ref (z.2.1 47)), (1, .int v1), (2, .int v2), (3, .int v3), (4, .int v4)] dX4_worstLot_22 (by decide) rfl ?_
      refine g_iload hk 0 dX4_worstLot_24 rfl ?_
      refine g_ifle hk (tgt := 59) dX4_worstLot_26 (by decide) h (fun h => ?_) (fun h => ?_)
      · refine g_iinc (k := 5) hk [(4, .int (v4 + 1)), (5, .int r1), (0, .ref (z.2.1 47)), (1, .int v1), (2, .int v2), (3, .int v3)] dX4_worstLot_59 rfl rfl (by decide) rfl ?_
        refine g_goto hk (tgt := 10) dX4_worstLot_62 (by decide) ?_
        exact g_weak [2, 3, 4, 5, 0] [(0, .ref (z.2.1 47)), (1, .int v1), (2, .int v2), (3, .int v3), (4, .int (v4 + 1))] rfl (ih v1 v2 v3 (v4 + 1) h)
      · refine g_aload_n hk 1 dX4_worstLot_29 rfl ?_
        refine gfX4_15 hk dX4_worstLot_30 ?_
        refine g_iload hk 5 dX4_worstLot_33 rfl ?_
        obtain ⟨hi1, h⟩ := ck_e h
        refine g_iald hk sh49 dX4_worstLot_35 hi1 (M.1 49 (ix v4)) rfl ?_
        refine g_iload_n hk 4 dX4_worstLot_36 rfl ?_
        refine g_imul hk dX4_worstLot_37 ?_
        refine g_iload_n hk 3 dX4_worstLot_38 rfl ?_
        refine g_iload hk 0 dX4_worstLot_39 rfl ?_
        refine g_imul hk dX4_worstLot_41 ?_
        refine g_icmple hk (tgt := 59) dX4_worstLot_42 (by decide) h (fun h => ?_) (fun h => ?_)
        · refine g_iinc (k := 5) hk [(4, .int (v4 + 1)), (5, .int r1), (0, .ref (z.2.1 47)), (1, .int v1), (2, .int v2), (3, .int v3)] dX4_worstLot_59 rfl rfl (by decide) rfl ?_
          refine g_goto hk (tgt := 10) dX4_worstLot_62 (by decide) ?_
          exact g_weak [2, 3, 4, 5, 0] [(0, .ref (z.2.1 47)), (1, .int v1), (2, .int v2), (3, .int v3), (4, .int (v4 + 1))] rfl (ih v1 v2 v3 (v4 + 1) h)
        · refine g_iload hk 5 dX4_worstLot_45 rfl ?_
          refine g_istore_n hk [(1, .int v4), (5, .int r1), (0, .ref (z.2.1 47)), (2, .int v2), (3, .int v3), (4, .int v4)] dX4_worstLot_47 rfl (by decide) rfl ?_
          refine g_aload_n hk 2 dX4_worstLot_48 rfl ?_
          refine gfX4_15 hk dX4_worstLot_49 ?_
          refine g_iload hk 5 dX4_worstLot_52 rfl ?_
          refine g_iald hk sh49 dX4_worstLot_54 hi1 (M.1 49 (ix v4)) rfl ?_
          refine g_istore_n hk [(2, .int (M.1 49 (ix v4))), (1, .int v4), (5, .int r1), (0, .ref (z.2.1 47)), (3, .int v3), (4, .int v4)] dX4_worstLot_55 rfl (by decide) rfl ?_
          refine g_iload hk 2 dX4_worstLot_56 rfl ?_
          refine g_istore_n hk [(3, .int r1), (2, .int (M.1 49 (ix v4))), (1, .int v4), (5, .int r1), (0, .ref (z.2.1 47)), (4, .int v4)] dX4_worstLot_58 rfl (by decide) rfl ?_
          refine g_iinc (k := 5) hk [(4, .int (v4 + 1)), (3, .int r1), (2, .int (M.1 49 (ix v4))), (1, .int v4), (5, .int r1), (0, .ref (z.2.1 47))] dX4_worstLot_59 rfl rfl (by decide) rfl ?_
          refine g_goto hk (tgt := 10) dX4_worstLot_62 (by decide) ?_
          exact g_weak [5, 3, 2, 1, 0] [(0, .ref (z.2.1 47)), (1, .int v4), (2, .int (M.1 49 (ix v4))), (3, .int r1), (4, .int (v4 + 1))] rfl (ih v4 (M.1 49 (ix v4)) r1 (v4 + 1) h)
set_option maxHeartbeats 4000000 in
set_option maxRecDepth 100000 in
theorem kX4_worstLot (l : Launch) (z : Lay) (M : Mem)  (r : Int32) (h : xX4_worstLot M = some r) : Con l z yX4_worstLot cX4_worstLot 6 (some .int) 1 [.ref (z.2.1 47)] M (some (.int r)) M := by
  refine Con.of (by decide) (Nat.le_of_ble_eq_true rfl) ?_
  intro x hl hc
  subst hl
  have hk : okc x z cX4_worstLot RX4 6 1 := hc.1
  show G x z 6 0 [(0, .ref (z.2.1 47))] [] M
  unfold xX4_worstLot at h
  refine g_bipush hk (-9) dX4_worstLot_0 (by decide) ?_
  refine g_istore_n hk [(1, .int (-9)), (0, .ref (z.2.1 47))] dX4_worstLot_2 rfl (by decide) rfl ?_
  refine g_iconst hk 0 dX4_worstLot_3 (by decide) ?_
  refine g_istore_n hk [(2, .int 0), (1, .int (-9)), (0, .ref (z.2.1 47))] dX4_worstLot_4 rfl (by decide) rfl ?_
  refine g_iconst hk 1 dX4_worstLot_5 (by decide) ?_
  refine g_istore_n hk [(3, .int 1), (2, .int 0), (1, .int (-9)), (0, .ref (z.2.1 47))] dX4_worstLot_6 rfl (by decide) rfl ?_
  refine g_iconst hk 0 dX4_worstLot_7 (by decide) ?_
  refine g_istore hk [(4, .int 0), (3, .int 1), (2, .int 0), (1, .int (-9)), (0, .ref (z.2.1 47))] dX4_worstLot_8 (by decide) rfl ?_
  exact g_weak [4, 3, 2, 1, 0] [(0, .ref (z.2.1 47)), (1, .int (-9)), (2, .int 0), (3, .int 1), (4, .int 0)] rfl (glX4_worstLot_10 hc  fu (-9) 0 1 0 h)
set_option maxHeartbeats 4000000 in
set_option maxRecDepth 100000 in
theorem glX4_isWorstBeyondDoubt_21 {x : Cx} {z : Lay} {r : Int32} {M : Mem} (hc : okm x z cX4_isWorstBeyondDoubt RX4 5 2 (some .boolean) (some (.int r)) M)  : ∀ (n : Nat) (v1 : Int32) (v2 : Int32) (v3 : Int32), lX4_isWorstBeyondDoubt_21  n M v1 v2 v3 = some r → G x z 5 21 [(0, .ref (z.2.1 47)), (1, .int v1), (2, .int v2), (3, .int v3)] [] M := by
  have hk := hc.1
  intro n
  induction n with
  | zero => intro _ _ _ h; rw [lX4_isWorstBeyondDoubt_21] at h; cases h
  | succ n ih =>
    intro v1 v2 v3 h
    rw [lX4_isWorstBeyondDoubt_21] at h
    refine g_iload_n hk 3 dX4_isWorstBeyondDoubt_21 rfl ?_
    refine g_iconst hk 5 dX4_isWorstBeyondDoubt_22 (by decide) ?_
    refine g_icmpgt hk (tgt := 73) dX4_isWorstBeyondDoubt_23 (by decide) h (fun h => ?_) (fun h => ?_)
    · refine g_iconst hk 1 dX4_isWorstBeyondDoubt_73 (by decide) ?_
      exact g_zret (val := fun q => q) (mem := fun _ => M) hc rfl dX4_isWorstBeyondDoubt_74 h ret1 (by decide)
    · refine g_aload_n hk 0 dX4_isWorstBeyondDoubt_26 rfl ?_
      refine g_iload_n hk 3 dX4_isWorstBeyondDoubt_27 rfl ?_
      obtain ⟨r1, hr1, h⟩ := bnd h
      refine g_callVi hk [.int v3] _ sh47 rfl mtX4_milesWith mlX4_21 (by decide) (by decide) rfl rfl (Nat.le_of_ble_eq_true rfl) dX4_isWorstBeyondDoubt_28 (kX4_milesWith _ z M v3 r1 hr1) ?_
      refine g_istore hk [(4, .int r1), (0, .ref (z.2.1 47)), (1, .int v1), (2, .int v2), (3, .int v3)] dX4_isWorstBeyondDoubt_31 (by decide) rfl ?_
      refine g_iload_n hk 4 dX4_isWorstBeyondDoubt_33 rfl ?_
      refine g_iload_n hk 2 dX4_isWorstBeyondDoubt_34 rfl ?_
      refine g_icmpeq hk (tgt := 67) dX4_isWorstBeyondDoubt_35 (by decide) h (fun h => ?_) (fun h => ?_)
      · refine g_iinc (k := 4) hk [(3, .int (v3 + 1)), (4, .int r1), (0, .ref (z.2.1 47)), (1, .int v1), (2, .int v2)] dX4_isWorstBeyondDoubt_67 rfl rfl (by decide) rfl ?_
        refine g_goto hk (tgt := 21) dX4_isWorstBeyondDoubt_70 (by decide) ?_
        exact g_weak [2, 3, 4, 0] [(0, .ref (z.2.1 47)), (1, .int v1), (2, .int v2), (3, .int (v3 + 1))] rfl (ih v1 v2 (v3 + 1) h)
      · refine g_iload hk 0 dX4_isWorstBeyondDoubt_38 rfl ?_
        refine g_ifle hk (tgt := 67) dX4_isWorstBeyondDoubt_40 (by decide) h (fun h => ?_) (fun h => ?_)
        · refine g_iinc (k := 4) hk [(3, .int (v3 + 1)), (4, .int r1), (0, .ref (z.2.1 47)), (1, .int v1), (2, .int v2)] dX4_isWorstBeyondDoubt_67 rfl rfl (by decide) rfl ?_
          refine g_goto hk (tgt := 21) dX4_isWorstBeyondDoubt_70 (by decide) ?_
          exact g_weak [2, 3, 4, 0] [(0, .ref (z.2.1 47)), (1, .int v1), (2, .int v2), (3, .int (v3 + 1))] rfl (ih v1 v2 (v3 + 1) h)
        · refine g_aload_n hk 1 dX4_isWorstBeyondDoubt_43 rfl ?_
          refine gfX4_15 hk dX4_isWorstBeyondDoubt_44 ?_
          refine g_iload_n hk 2 dX4_isWorstBeyondDoubt_47 rfl ?_
          obtain ⟨hi1, h⟩ := ck_e h
          refine g_iald hk sh49 dX4_isWorstBeyondDoubt_48 hi1 (M.1 49 (ix v1)) rfl ?_
          refine g_iload hk 0 dX4_isWorstBeyondDoubt_49 rfl ?_
          refine g_imul hk dX4_isWorstBeyondDoubt_51 ?_
          refine g_iconst hk 2 dX4_isWorstBeyondDoubt_52 (by decide) ?_
          refine g_aload_n hk 1 dX4_isWorstBeyondDoubt_53 rfl ?_
          refine gfX4_15 hk dX4_isWorstBeyondDoubt_54 ?_
          refine g_iload_n hk 4 dX4_isWorstBeyondDoubt_57 rfl ?_
          obtain ⟨hi2, h⟩ := ck_e h
          refine g_iald hk sh49 dX4_isWorstBeyondDoubt_58 hi2 (M.1 49 (ix v3)) rfl ?_
          refine g_imul hk dX4_isWorstBeyondDoubt_59 ?_
          refine g_iload_n hk 3 dX4_isWorstBeyondDoubt_60 rfl ?_
          refine g_imul hk dX4_isWorstBeyondDoubt_61 ?_
          refine g_icmpgt hk (tgt := 67) dX4_isWorstBeyondDoubt_62 (by decide) h (fun h => ?_) (fun h => ?_)
          · refine g_iinc (k := 4) hk [(3, .int (v3 + 1)), (4, .int r1), (0, .ref (z.2.1 47)), (1, .int v1), (2, .int v2)] dX4_isWorstBeyondDoubt_67 rfl rfl (by decide) rfl ?_
            refine g_goto hk (tgt := 21) dX4_isWorstBeyondDoubt_70 (by decide) ?_
            exact g_weak [2, 3, 4, 0] [(0, .ref (z.2.1 47)), (1, .int v1), (2, .int v2), (3, .int (v3 + 1))] rfl (ih v1 v2 (v3 + 1) h)
          · refine g_iconst hk 0 dX4_isWorstBeyondDoubt_65 (by decide) ?_
            exact g_zret (val := fun q => q) (mem := fun _ => M) hc rfl dX4_isWorstBeyondDoubt_66 h ret1 (by decide)
set_option maxHeartbeats 4000000 in
set_option maxRecDepth 100000 in
theorem kX4_isWorstBeyondDoubt (l : Launch) (z : Lay) (M : Mem)  (r : Int32) (h : xX4_isWorstBeyondDoubt M = some r) : Con l z yX4_isWorstBeyondDoubt cX4_isWorstBeyondDoubt 5 (some .boolean) 2 [.ref (z.2.1 47)] M (some (.int r)) M := by
  refine Con.of (by decide) (Nat.le_of_ble_eq_true rfl) ?_
  intro x hl hc
  subst hl
  have hk : okc x z cX4_isWorstBeyondDoubt RX4 5 2 := hc.1
  show G x z 5 0 [(0, .ref (z.2.1 47))] [] M
  unfold xX4_isWorstBeyondDoubt at h
  refine g_aload_n hk 0 dX4_isWorstBeyondDoubt_0 rfl ?_
  obtain ⟨r1, hr1, h⟩ := bnd h
  refine g_callVi hk [] _ sh47 rfl mtX4_worstLot mlX4_25 (by decide) (by decide) rfl rfl (Nat.le_of_ble_eq_true rfl) dX4_isWorstBeyondDoubt_1 (kX4_worstLot _ z M  r1 hr1) ?_
  refine g_istore_n hk [(1, .int r1), (0, .ref (z.2.1 47))] dX4_isWorstBeyondDoubt_4 rfl (by decide) rfl ?_
  refine g_iload_n hk 0 dX4_isWorstBeyondDoubt_5 rfl ?_
  refine g_bipush hk (-9) dX4_isWorstBeyondDoubt_6 (by decide) ?_
  refine g_icmpne hk (tgt := 13) dX4_isWorstBeyondDoubt_8 (by decide) h (fun h => ?_) (fun h => ?_)
  · refine g_aload_n hk 1 dX4_isWorstBeyondDoubt_13 rfl ?_
    refine g_iload_n hk 0 dX4_isWorstBeyondDoubt_14 rfl ?_
    obtain ⟨r2, hr2, h⟩ := bnd h
    refine g_callVi hk [.int r1] _ sh47 rfl mtX4_milesWith mlX4_21 (by decide) (by decide) rfl rfl (Nat.le_of_ble_eq_true rfl) dX4_isWorstBeyondDoubt_15 (kX4_milesWith _ z M r1 r2 hr2) ?_
    refine g_istore_n hk [(2, .int r2), (1, .int r1), (0, .ref (z.2.1 47))] dX4_isWorstBeyondDoubt_18 rfl (by decide) rfl ?_
    refine g_iconst hk 0 dX4_isWorstBeyondDoubt_19 (by decide) ?_
    refine g_istore_n hk [(3, .int 0), (2, .int r2), (1, .int r1), (0, .ref (z.2.1 47))] dX4_isWorstBeyondDoubt_20 rfl (by decide) rfl ?_
    exact g_weak [3, 2, 1, 0] [(0, .ref (z.2.1 47)), (1, .int r1), (2, .int r2), (3, .int 0)] rfl (glX4_isWorstBeyondDoubt_21 hc  fu r1 r2 0 h)
  · refine g_iconst hk 0 dX4_isWorstBeyondDoubt_11 (by decide) ?_
    exact g_zret (val := fun q => q) (mem := fun _ => M) hc rfl dX4_isWorstBeyondDoubt_12 h ret1 (by decide)
