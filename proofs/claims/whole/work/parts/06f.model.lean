set_option maxHeartbeats 4000000 in
set_option maxRecDepth 100000 in
theorem kX10_eyes (l : Launch) (z : Lay) (M : Mem) (v1 : Int32) (v2 : Int32) (r : Int32 × Mem) (h : xX10_eyes M v1 v2 = some r) : Con l z yX10_eyes cX10_eyes 4 (some .int) 2 [.ref (z.2.1 51), .int v1, .int v2] M (some (.int r.1)) r.2 := by
  refine Con.of (by decide) (Nat.le_of_ble_eq_true rfl) ?_
  intro x hl hc
  subst hl
  have hk : okc x z cX10_eyes RX10 4 2 := hc.1
  show G x z 4 0 [(0, .ref (z.2.1 51)), (1, .int v1), (2, .int v2)] [] M
  unfold xX10_eyes at h
  refine g_iload_n hk 1 dX10_eyes_0 rfl ?_
  obtain ⟨r1, hr1, h⟩ := bnd h
  refine g_callSi hk [.int v1] _ mtX10_isMile mlX10_179 (by decide) (by decide) rfl rfl (Nat.le_of_ble_eq_true rfl) dX10_eyes_1 (kX10_isMile _ z M v1 r1 hr1) ?_
  refine g_ifne hk (tgt := 13) dX10_eyes_4 (by decide) h (fun h => ?_) (fun h => ?_)
  · refine g_iload_n hk 2 dX10_eyes_13 rfl ?_
    refine g_iconst hk 2 dX10_eyes_14 (by decide) ?_
    obtain ⟨r2, hr2, h⟩ := bnd h
    refine g_callSi hk [.int v2, .int 2] _ mtX10_isIn mlX10_153 (by decide) (by decide) rfl rfl (Nat.le_of_ble_eq_true rfl) dX10_eyes_15 (kX10_isIn _ z M v2 2 r2 hr2) ?_
    refine g_ifne hk (tgt := 28) dX10_eyes_18 (by decide) h (fun h => ?_) (fun h => ?_)
    · refine g_aload_n hk 0 dX10_eyes_28 rfl ?_
      refine gfX10_96 hk dX10_eyes_29 ?_
      refine g_iload_n hk 1 dX10_eyes_32 rfl ?_
      obtain ⟨hi1, h⟩ := ck_e h
      refine g_iald hk sh76 dX10_eyes_33 hi1 (M.1 76 (ix v1)) rfl ?_
      refine g_ifne hk (tgt := 40) dX10_eyes_34 (by decide) h (fun h => ?_) (fun h => ?_)
      · refine g_aload_n hk 0 dX10_eyes_40 rfl ?_
        refine gfX10_90 hk dX10_eyes_41 ?_
        refine g_iload_n hk 1 dX10_eyes_44 rfl ?_
        refine g_iald hk sh74 dX10_eyes_45 hi1 (M.1 74 (ix v1)) rfl ?_
        refine g_aload_n hk 0 dX10_eyes_46 rfl ?_
        refine gfX10_96 hk dX10_eyes_47 ?_
        refine g_iload_n hk 1 dX10_eyes_50 rfl ?_
        refine g_iald hk sh76 dX10_eyes_51 hi1 (M.1 76 (ix v1)) rfl ?_
        refine g_iadd hk dX10_eyes_52 ?_
        refine g_aload_n hk 0 dX10_eyes_53 rfl ?_
        refine gfX10_93 hk dX10_eyes_54 ?_
        refine g_iload_n hk 1 dX10_eyes_57 rfl ?_
        refine g_iald hk sh75 dX10_eyes_58 hi1 (M.1 75 (ix v1)) rfl ?_
        refine g_aload_n hk 0 dX10_eyes_59 rfl ?_
        refine gfX10_96 hk dX10_eyes_60 ?_
        refine g_iload_n hk 1 dX10_eyes_63 rfl ?_
        refine g_iald hk sh76 dX10_eyes_64 hi1 (M.1 76 (ix v1)) rfl ?_
        refine g_iadd hk dX10_eyes_65 ?_
        refine g_imul hk dX10_eyes_66 ?_
        refine g_aload_n hk 0 dX10_eyes_67 rfl ?_
        refine gfX10_96 hk dX10_eyes_68 ?_
        refine g_iload_n hk 1 dX10_eyes_71 rfl ?_
        refine g_iald hk sh76 dX10_eyes_72 hi1 (M.1 76 (ix v1)) rfl ?_
        refine g_iadd hk dX10_eyes_73 ?_
        refine g_iconst hk 1 dX10_eyes_74 (by decide) ?_
        refine g_isub hk dX10_eyes_75 ?_
        refine g_aload_n hk 0 dX10_eyes_76 rfl ?_
        refine gfX10_96 hk dX10_eyes_77 ?_
        refine g_iload_n hk 1 dX10_eyes_80 rfl ?_
        refine g_iald hk sh76 dX10_eyes_81 hi1 (M.1 76 (ix v1)) rfl ?_
        obtain ⟨hi2, h⟩ := ck_e h
        refine g_idiv hk dX10_eyes_82 (by simpa using hi2) ?_
        refine g_istore_n hk [(3, .int ((((((M.1 74 (ix v1)) + (M.1 76 (ix v1))) * ((M.1 75 (ix v1)) + (M.1 76 (ix v1)))) + (M.1 76 (ix v1))) - 1) / (M.1 76 (ix v1)))), (0, .ref (z.2.1 51)), (1, .int v1), (2, .int v2)] dX10_eyes_83 rfl (by decide) rfl ?_
        refine g_iload_n hk 3 dX10_eyes_84 rfl ?_
        refine g_ifne hk (tgt := 92) dX10_eyes_85 (by decide) h (fun h => ?_) (fun h => ?_)
        · refine g_iload_n hk 0 dX10_eyes_92 rfl ?_
          refine g_aload_n hk 1 dX10_eyes_93 rfl ?_
          refine gfX10_90 hk dX10_eyes_94 ?_
          refine g_iload_n hk 2 dX10_eyes_97 rfl ?_
          refine g_iald hk sh74 dX10_eyes_98 hi1 (M.1 74 (ix v1)) rfl ?_
          refine g_isub hk dX10_eyes_99 ?_
          refine g_aload_n hk 1 dX10_eyes_100 rfl ?_
          refine gfX10_93 hk dX10_eyes_101 ?_
          refine g_iload_n hk 2 dX10_eyes_104 rfl ?_
          refine g_iald hk sh75 dX10_eyes_105 hi1 (M.1 75 (ix v1)) rfl ?_
          refine g_isub hk dX10_eyes_106 ?_
          refine g_aload_n hk 1 dX10_eyes_107 rfl ?_
          refine gfX10_96 hk dX10_eyes_108 ?_
          refine g_iload_n hk 2 dX10_eyes_111 rfl ?_
          refine g_iald hk sh76 dX10_eyes_112 hi1 (M.1 76 (ix v1)) rfl ?_
          refine g_isub hk dX10_eyes_113 ?_
          exact g_iret (val := fun q => q.1) (mem := fun q => q.2) hc rfl dX10_eyes_114 h ret2
        · refine g_iload_n hk 0 dX10_eyes_88 rfl ?_
          refine g_goto hk (tgt := 114) dX10_eyes_89 (by decide) ?_
          exact g_iret (val := fun q => q.1) (mem := fun q => q.2) hc rfl dX10_eyes_114 h ret2
      · refine g_bipush hk (-9) dX10_eyes_37 (by decide) ?_
        exact g_iret (val := fun q => q.1) (mem := fun q => q.2) hc rfl dX10_eyes_39 h ret2
    · refine g_aload_n hk 0 dX10_eyes_21 rfl ?_
      refine g_bipush hk (-2) dX10_eyes_22 (by decide) ?_
      obtain ⟨r3, hr3, h⟩ := bnd h
      refine g_callVi hk [.int (-2)] _ sh51 rfl mtX10_refuse mlX10_149 (by decide) (by decide) rfl rfl (Nat.le_of_ble_eq_true rfl) dX10_eyes_24 (kX10_refuse _ z M (-2) r3 hr3) ?_
      exact g_iret (val := fun q => q.1) (mem := fun q => q.2) hc rfl dX10_eyes_27 h ret2
  · refine g_aload_n hk 0 dX10_eyes_7 rfl ?_
    refine g_iconst hk (-1) dX10_eyes_8 (by decide) ?_
    obtain ⟨r4, hr4, h⟩ := bnd h
    refine g_callVi hk [.int (-1)] _ sh51 rfl mtX10_refuse mlX10_149 (by decide) (by decide) rfl rfl (Nat.le_of_ble_eq_true rfl) dX10_eyes_9 (kX10_refuse _ z M (-1) r4 hr4) ?_
    exact g_iret (val := fun q => q.1) (mem := fun q => q.2) hc rfl dX10_eyes_12 h ret2
set_option maxHeartbeats 4000000 in
set_option maxRecDepth 100000 in
theorem kX10_line (l : Launch) (z : Lay) (M : Mem) (v1 : Int32) (v2 : Int32) (v3 : Int32) (r : Int32 × Mem) (h : xX10_line M v1 v2 v3 = some r) : Con l z yX10_line cX10_line 4 (some .int) 2 [.ref (z.2.1 51), .int v1, .int v2, .int v3] M (some (.int r.1)) r.2 := by
  refine Con.of (by decide) (Nat.le_of_ble_eq_true rfl) ?_
  intro x hl hc
  subst hl
  have hk : okc x z cX10_line RX10 4 2 := hc.1
  show G x z 4 0 [(0, .ref (z.2.1 51)), (1, .int v1), (2, .int v2), (3, .int v3)] [] M
  unfold xX10_line at h
  refine g_iload_n hk 1 dX10_line_0 rfl ?_
  obtain ⟨r1, hr1, h⟩ := bnd h
  refine g_callSi hk [.int v1] _ mtX10_isMile mlX10_179 (by decide) (by decide) rfl rfl (Nat.le_of_ble_eq_true rfl) dX10_line_1 (kX10_isMile _ z M v1 r1 hr1) ?_
  refine g_ifne hk (tgt := 13) dX10_line_4 (by decide) h (fun h => ?_) (fun h => ?_)
  · refine g_iload_n hk 2 dX10_line_13 rfl ?_
    refine g_iflt hk (tgt := 21) dX10_line_14 (by decide) h (fun h => ?_) (fun h => ?_)
    · refine g_aload_n hk 0 dX10_line_21 rfl ?_
      refine g_bipush hk (-4) dX10_line_22 (by decide) ?_
      obtain ⟨r2, hr2, h⟩ := bnd h
      refine g_callVi hk [.int (-4)] _ sh51 rfl mtX10_refuse mlX10_149 (by decide) (by decide) rfl rfl (Nat.le_of_ble_eq_true rfl) dX10_line_24 (kX10_refuse _ z M (-4) r2 hr2) ?_
      exact g_iret (val := fun q => q.1) (mem := fun q => q.2) hc rfl dX10_line_27 h ret2
    · refine g_iload_n hk 3 dX10_line_17 rfl ?_
      refine g_ifge hk (tgt := 28) dX10_line_18 (by decide) h (fun h => ?_) (fun h => ?_)
      · refine g_iload_n hk 2 dX10_line_28 rfl ?_
        refine g_sipush hk 1759 dX10_line_29 (by decide) ?_
        refine g_icmpgt hk (tgt := 49) dX10_line_32 (by decide) h (fun h => ?_) (fun h => ?_)
        · refine g_aload_n hk 0 dX10_line_49 rfl ?_
          refine g_bipush hk (-6) dX10_line_50 (by decide) ?_
          obtain ⟨r3, hr3, h⟩ := bnd h
          refine g_callVi hk [.int (-6)] _ sh51 rfl mtX10_refuse mlX10_149 (by decide) (by decide) rfl rfl (Nat.le_of_ble_eq_true rfl) dX10_line_52 (kX10_refuse _ z M (-6) r3 hr3) ?_
          exact g_iret (val := fun q => q.1) (mem := fun q => q.2) hc rfl dX10_line_55 h ret2
        · refine g_iload_n hk 3 dX10_line_35 rfl ?_
          refine g_iconst hk 1 dX10_line_36 (by decide) ?_
          refine g_icmpgt hk (tgt := 49) dX10_line_37 (by decide) h (fun h => ?_) (fun h => ?_)
          · refine g_aload_n hk 0 dX10_line_49 rfl ?_
            refine g_bipush hk (-6) dX10_line_50 (by decide) ?_
            obtain ⟨r4, hr4, h⟩ := bnd h
            refine g_callVi hk [.int (-6)] _ sh51 rfl mtX10_refuse mlX10_149 (by decide) (by decide) rfl rfl (Nat.le_of_ble_eq_true rfl) dX10_line_52 (kX10_refuse _ z M (-6) r4 hr4) ?_
            exact g_iret (val := fun q => q.1) (mem := fun q => q.2) hc rfl dX10_line_55 h ret2
          · refine g_aload_n hk 0 dX10_line_40 rfl ?_
            refine gfX10_239 hk dX10_line_41 (M.1 51 11) rfl ?_
            refine g_bipush hk 8 dX10_line_44 (by decide) ?_
            refine g_icmpne hk (tgt := 56) dX10_line_46 (by decide) h (fun h => ?_) (fun h => ?_)
            · refine g_aload_n hk 0 dX10_line_56 rfl ?_
              refine gfX10_111 hk dX10_line_57 ?_
              refine g_aload_n hk 0 dX10_line_60 rfl ?_
              refine gfX10_239 hk dX10_line_61 (M.1 51 11) rfl ?_
              refine g_iload_n hk 1 dX10_line_64 rfl ?_
              obtain ⟨hi1, h⟩ := ck_e h
              refine g_iast hk sh81 dX10_line_65 hi1 ?_
              refine g_aload_n hk 0 dX10_line_66 rfl ?_
              refine gfX10_114 hk dX10_line_67 ?_
              refine g_aload_n hk 0 dX10_line_70 rfl ?_
              refine gfX10_239 hk dX10_line_71 (M.1 51 11) rfl ?_
              refine g_iload_n hk 2 dX10_line_74 rfl ?_
              refine g_iast hk sh82 dX10_line_75 hi1 ?_
              refine g_aload_n hk 0 dX10_line_76 rfl ?_
              refine gfX10_117 hk dX10_line_77 ?_
              refine g_aload_n hk 0 dX10_line_80 rfl ?_
              refine gfX10_239 hk dX10_line_81 (M.1 51 11) rfl ?_
              refine g_iload_n hk 3 dX10_line_84 rfl ?_
              refine g_iast hk sh83 dX10_line_85 hi1 ?_
              refine g_aload_n hk 0 dX10_line_86 rfl ?_
              refine g_dup hk dX10_line_87 rfl ?_
              refine gfX10_239 hk dX10_line_88 (M.1 51 11) rfl ?_
              refine g_iconst hk 1 dX10_line_91 (by decide) ?_
              refine g_iadd hk dX10_line_92 ?_
              refine pfX10_239 hk dX10_line_93 ?_
              refine g_aload_n hk 0 dX10_line_96 rfl ?_
              refine gfX10_239 hk dX10_line_97 ((M.1 51 11) + 1) rfl ?_
              refine g_iconst hk 1 dX10_line_100 (by decide) ?_
              refine g_isub hk dX10_line_101 ?_
              exact g_iret (val := fun q => q.1) (mem := fun q => q.2) hc rfl dX10_line_102 h ret2
            · refine g_aload_n hk 0 dX10_line_49 rfl ?_
              refine g_bipush hk (-6) dX10_line_50 (by decide) ?_
              obtain ⟨r5, hr5, h⟩ := bnd h
              refine g_callVi hk [.int (-6)] _ sh51 rfl mtX10_refuse mlX10_149 (by decide) (by decide) rfl rfl (Nat.le_of_ble_eq_true rfl) dX10_line_52 (kX10_refuse _ z M (-6) r5 hr5) ?_
              exact g_iret (val := fun q => q.1) (mem := fun q => q.2) hc rfl dX10_line_55 h ret2
      · refine g_aload_n hk 0 dX10_line_21 rfl ?_
        refine g_bipush hk (-4) dX10_line_22 (by decide) ?_
        obtain ⟨r6, hr6, h⟩ := bnd h
        refine g_callVi hk [.int (-4)] _ sh51 rfl mtX10_refuse mlX10_149 (by decide) (by decide) rfl rfl (Nat.le_of_ble_eq_true rfl) dX10_line_24 (kX10_refuse _ z M (-4) r6 hr6) ?_
        exact g_iret (val := fun q => q.1) (mem := fun q => q.2) hc rfl dX10_line_27 h ret2
  · refine g_aload_n hk 0 dX10_line_7 rfl ?_
    refine g_iconst hk (-1) dX10_line_8 (by decide) ?_
    obtain ⟨r7, hr7, h⟩ := bnd h
    refine g_callVi hk [.int (-1)] _ sh51 rfl mtX10_refuse mlX10_149 (by decide) (by decide) rfl rfl (Nat.le_of_ble_eq_true rfl) dX10_line_9 (kX10_refuse _ z M (-1) r7 hr7) ?_
    exact g_iret (val := fun q => q.1) (mem := fun q => q.2) hc rfl dX10_line_12 h ret2
set_option maxHeartbeats 4000000 in
set_option maxRecDepth 100000 in
theorem kX10_worth (l : Launch) (z : Lay) (M : Mem) (v1 : Int32) (v2 : Int32) (r : Int32) (h : xX10_worth M v1 v2 = some r) : Con l z yX10_worth cX10_worth 5 (some .int) 1 [.ref (z.2.1 51), .int v1, .int v2] M (some (.int r)) M := by
  refine Con.of (by decide) (Nat.le_of_ble_eq_true rfl) ?_
  intro x hl hc
  subst hl
  have hk : okc x z cX10_worth RX10 5 1 := hc.1
  show G x z 5 0 [(0, .ref (z.2.1 51)), (1, .int v1), (2, .int v2)] [] M
  unfold xX10_worth at h
  refine g_aload_n hk 0 dX10_worth_0 rfl ?_
  refine gfX10_132 hk dX10_worth_1 ?_
  refine g_iload_n hk 2 dX10_worth_4 rfl ?_
  obtain ⟨hi1, h⟩ := ck_e h
  refine g_iald hk sh88 dX10_worth_5 hi1 (M.1 88 (ix v2)) rfl ?_
  refine g_istore_n hk [(3, .int (M.1 88 (ix v2))), (0, .ref (z.2.1 51)), (1, .int v1), (2, .int v2)] dX10_worth_6 rfl (by decide) rfl ?_
  refine g_aload_n hk 1 dX10_worth_7 rfl ?_
  refine gfX10_114 hk dX10_worth_8 ?_
  refine g_iload_n hk 2 dX10_worth_11 rfl ?_
  obtain ⟨hi2, h⟩ := ck_e h
  refine g_iald hk sh82 dX10_worth_12 hi2 (M.1 82 (ix v1)) rfl ?_
  refine g_aload_n hk 1 dX10_worth_13 rfl ?_
  refine gfX10_38 hk dX10_worth_14 ?_
  refine g_iload_n hk 0 dX10_worth_17 rfl ?_
  obtain ⟨hi3, h⟩ := ck_e h
  refine g_iald hk sh57 dX10_worth_18 hi3 (M.1 57 (ix (M.1 88 (ix v2)))) rfl ?_
  refine g_isub hk dX10_worth_19 ?_
  refine g_mabs hk mlX10_212 st_abs inMath cd_abs (by decide) (Nat.le_of_ble_eq_true rfl) dX10_worth_20 ?_
  refine g_istore hk [(4, .int (abI ((M.1 82 (ix v1)) - (M.1 57 (ix (M.1 88 (ix v2))))))), (3, .int (M.1 88 (ix v2))), (0, .ref (z.2.1 51)), (1, .int v1), (2, .int v2)] dX10_worth_23 (by decide) rfl ?_
  refine g_aload_n hk 2 dX10_worth_25 rfl ?_
  refine gfX10_111 hk dX10_worth_26 ?_
  refine g_iload_n hk 3 dX10_worth_29 rfl ?_
  refine g_iald hk sh81 dX10_worth_30 hi2 (M.1 81 (ix v1)) rfl ?_
  refine g_aload_n hk 2 dX10_worth_31 rfl ?_
  refine gfX10_35 hk dX10_worth_32 ?_
  refine g_iload_n hk 1 dX10_worth_35 rfl ?_
  refine g_iald hk sh56 dX10_worth_36 hi3 (M.1 56 (ix (M.1 88 (ix v2)))) rfl ?_
  refine g_icmpne hk (tgt := 73) dX10_worth_37 (by decide) h (fun h => ?_) (fun h => ?_)
  · refine g_iconst hk 0 dX10_worth_73 (by decide) ?_
    exact g_iret (val := fun q => q) (mem := fun _ => M) hc rfl dX10_worth_74 h ret1
  · refine g_aload_n hk 2 dX10_worth_40 rfl ?_
    refine gfX10_117 hk dX10_worth_41 ?_
    refine g_iload_n hk 3 dX10_worth_44 rfl ?_
    refine g_iald hk sh83 dX10_worth_45 hi2 (M.1 83 (ix v1)) rfl ?_
    refine g_aload_n hk 2 dX10_worth_46 rfl ?_
    refine gfX10_41 hk dX10_worth_47 ?_
    refine g_iload_n hk 1 dX10_worth_50 rfl ?_
    refine g_iald hk sh58 dX10_worth_51 hi3 (M.1 58 (ix (M.1 88 (ix v2)))) rfl ?_
    refine g_icmpne hk (tgt := 73) dX10_worth_52 (by decide) h (fun h => ?_) (fun h => ?_)
    · refine g_iconst hk 0 dX10_worth_73 (by decide) ?_
      exact g_iret (val := fun q => q) (mem := fun _ => M) hc rfl dX10_worth_74 h ret1
    · refine g_iload hk 0 dX10_worth_55 rfl ?_
      refine g_aload_n hk 2 dX10_worth_57 rfl ?_
      refine gfX10_29 hk dX10_worth_58 (M.1 51 15) rfl ?_
      refine g_icmpgt hk (tgt := 73) dX10_worth_61 (by decide) h (fun h => ?_) (fun h => ?_)
      · refine g_iconst hk 0 dX10_worth_73 (by decide) ?_
        exact g_iret (val := fun q => q) (mem := fun _ => M) hc rfl dX10_worth_74 h ret1
      · refine g_sipush hk 10000 dX10_worth_64 (by decide) ?_
        refine g_iload hk 0 dX10_worth_67 rfl ?_
        refine g_isub hk dX10_worth_69 ?_
        refine g_goto hk (tgt := 74) dX10_worth_70 (by decide) ?_
        exact g_iret (val := fun q => q) (mem := fun _ => M) hc rfl dX10_worth_74 h ret1
set_option maxHeartbeats 4000000 in
set_option maxRecDepth 100000 in
theorem glX10_joins_133 {x : Cx} {z : Lay} {r : Int32 × Mem} (hc : okm x z cX10_joins RX10 6 2 (some .int) (some (.int r.1)) r.2) (f104 : Mem → Int32 → Int32 → Option (Int32 × Mem)) (hf104 : ∀ (M : Mem) (v1 : Int32) (v2 : Int32), f104 M v1 v2 = some r → G x z 6 104 [(0, .ref (z.2.1 51)), (1, .int v1), (2, .int v2)] [] M) (f110 : Mem → Int32 → Int32 → Int32 → Option (Int32 × Mem)) (hf110 : ∀ (M : Mem) (v1 : Int32) (v2 : Int32) (v3 : Int32), f110 M v1 v2 v3 = some r → G x z 6 110 [(0, .ref (z.2.1 51)), (1, .int v1), (2, .int v2), (3, .int v3)] [] M) : ∀ (n : Nat) (M : Mem) (v1 : Int32) (v2 : Int32) (v3 : Int32) (v4 : Int32) (v5 : Int32), lX10_joins_133 f104 f110 n M v1 v2 v3 v4 v5 = some r → G x z 6 133 [(0, .ref (z.2.1 51)), (1, .int v1), (2, .int v2), (3, .int v3), (4, .int v4), (5, .int v5)] [] M := by
  have hk := hc.1
  intro n
  induction n with
  | zero => intro _ _ _ _ _ _ h; rw [lX10_joins_133] at h; cases h
  | succ n ih =>
    intro M v1 v2 v3 v4 v5 h
    rw [lX10_joins_133] at h
    refine g_iload hk 5 dX10_joins_133 rfl ?_
    refine g_aload_n hk 0 dX10_joins_135 rfl ?_
    refine gfX10_242 hk dX10_joins_136 (M.1 51 52) rfl ?_
    refine g_icmpge hk (tgt := 200) dX10_joins_139 (by decide) h (fun h => ?_) (fun h => ?_)
    · refine g_aload_n hk 0 dX10_joins_200 rfl ?_
      refine gfX10_136 hk dX10_joins_201 ?_
      refine g_iload_n hk 2 dX10_joins_204 rfl ?_
      refine g_bipush hk 12 dX10_joins_205 (by decide) ?_
      refine g_ishl hk dX10_joins_207 ?_
      refine g_iload_n hk 3 dX10_joins_208 rfl ?_
      refine g_iadd hk dX10_joins_209 ?_
      refine g_iload hk 4 dX10_joins_210 rfl ?_
      obtain ⟨hi1, h⟩ := ck_e h
      refine g_iast hk sh89 dX10_joins_212 hi1 ?_
      refine g_iinc (k := 3) hk [(3, .int (v3 + 1)), (0, .ref (z.2.1 51)), (1, .int v1), (2, .int v2), (4, .int v4), (5, .int v5)] dX10_joins_213 rfl rfl (by decide) rfl ?_
      refine g_goto hk (tgt := 110) dX10_joins_216 (by decide) ?_
      exact g_weak [1, 2, 3, 0] [(0, .ref (z.2.1 51)), (1, .int v1), (2, .int v2), (3, .int (v3 + 1))] rfl (hf110 (upI M 89 (ix ((v2 <<< (12 &&& 31)) + v3)) v4) v1 v2 (v3 + 1) h)
    · refine g_iload_n hk 3 dX10_joins_142 rfl ?_
      refine g_iload hk 5 dX10_joins_143 rfl ?_
      refine g_ishr hk dX10_joins_145 ?_
      refine g_iconst hk 1 dX10_joins_146 (by decide) ?_
      refine g_iand hk dX10_joins_147 ?_
      refine g_ifne hk (tgt := 194) dX10_joins_148 (by decide) h (fun h => ?_) (fun h => ?_)
      · refine g_iinc (k := 5) hk [(5, .int (v5 + 1)), (0, .ref (z.2.1 51)), (1, .int v1), (2, .int v2), (3, .int v3), (4, .int v4)] dX10_joins_194 rfl rfl (by decide) rfl ?_
        refine g_goto hk (tgt := 133) dX10_joins_197 (by decide) ?_
        exact g_weak [1, 2, 3, 4, 5, 0] [(0, .ref (z.2.1 51)), (1, .int v1), (2, .int v2), (3, .int v3), (4, .int v4), (5, .int (v5 + 1))] rfl (ih M v1 v2 v3 v4 (v5 + 1) h)
      · refine g_aload_n hk 0 dX10_joins_151 rfl ?_
        refine g_iload_n hk 2 dX10_joins_152 rfl ?_
        refine g_iload hk 5 dX10_joins_153 rfl ?_
        obtain ⟨r1, hr1, h⟩ := bnd h
        refine g_callVi hk [.int v2, .int v5] _ sh51 rfl mtX10_worth mlX10_245 (by decide) (by decide) rfl rfl (Nat.le_of_ble_eq_true rfl) dX10_joins_155 (kX10_worth _ z M v2 v5 r1 hr1) ?_
        refine g_ifle hk (tgt := 194) dX10_joins_158 (by decide) h (fun h => ?_) (fun h => ?_)
        · refine g_iinc (k := 5) hk [(5, .int (v5 + 1)), (0, .ref (z.2.1 51)), (1, .int v1), (2, .int v2), (3, .int v3), (4, .int v4)] dX10_joins_194 rfl rfl (by decide) rfl ?_
          refine g_goto hk (tgt := 133) dX10_joins_197 (by decide) ?_
          exact g_weak [1, 2, 3, 4, 5, 0] [(0, .ref (z.2.1 51)), (1, .int v1), (2, .int v2), (3, .int v3), (4, .int v4), (5, .int (v5 + 1))] rfl (ih M v1 v2 v3 v4 (v5 + 1) h)
        · refine g_iload hk 4 dX10_joins_161 rfl ?_
          refine g_aload_n hk 0 dX10_joins_163 rfl ?_
          refine g_iload_n hk 2 dX10_joins_164 rfl ?_
          refine g_iload hk 5 dX10_joins_165 rfl ?_
          obtain ⟨r2, hr2, h⟩ := bnd h
          refine g_callVi hk [.int v2, .int v5] _ sh51 rfl mtX10_worth mlX10_245 (by decide) (by decide) rfl rfl (Nat.le_of_ble_eq_true rfl) dX10_joins_167 (kX10_worth _ z M v2 v5 r2 hr2) ?_
          refine g_aload_n hk 0 dX10_joins_170 rfl ?_
          refine gfX10_136 hk dX10_joins_171 ?_
          refine g_iload_n hk 2 dX10_joins_174 rfl ?_
          refine g_iconst hk 1 dX10_joins_175 (by decide) ?_
          refine g_iadd hk dX10_joins_176 ?_
          refine g_bipush hk 12 dX10_joins_177 (by decide) ?_
          refine g_ishl hk dX10_joins_179 ?_
          refine g_iload_n hk 3 dX10_joins_180 rfl ?_
          refine g_iconst hk 1 dX10_joins_181 (by decide) ?_
          refine g_iload hk 5 dX10_joins_182 rfl ?_
          refine g_ishl hk dX10_joins_184 ?_
          refine g_ior hk dX10_joins_185 ?_
          refine g_iadd hk dX10_joins_186 ?_
          obtain ⟨hi2, h⟩ := ck_e h
          refine g_iald hk sh89 dX10_joins_187 hi2 (M.1 89 (ix (((v2 + 1) <<< (12 &&& 31)) + (v3 ||| (1 <<< (v5 &&& 31)))))) rfl ?_
          refine g_iadd hk dX10_joins_188 ?_
          refine g_mmax hk mlX10_167 st_max inMath cd_max (by decide) (Nat.le_of_ble_eq_true rfl) dX10_joins_189 ?_
          refine g_istore hk [(4, .int (mxI v4 (r2 + (M.1 89 (ix (((v2 + 1) <<< (12 &&& 31)) + (v3 ||| (1 <<< (v5 &&& 31))))))))), (0, .ref (z.2.1 51)), (1, .int v1), (2, .int v2), (3, .int v3), (5, .int v5)] dX10_joins_192 (by decide) rfl ?_
          refine g_iinc (k := 5) hk [(5, .int (v5 + 1)), (4, .int (mxI v4 (r2 + (M.1 89 (ix (((v2 + 1) <<< (12 &&& 31)) + (v3 ||| (1 <<< (v5 &&& 31))))))))), (0, .ref (z.2.1 51)), (1, .int v1), (2, .int v2), (3, .int v3)] dX10_joins_194 rfl rfl (by decide) rfl ?_
          refine g_goto hk (tgt := 133) dX10_joins_197 (by decide) ?_
          exact g_weak [2, 3, 4, 5, 1, 0] [(0, .ref (z.2.1 51)), (1, .int v1), (2, .int v2), (3, .int v3), (4, .int (mxI v4 (r2 + (M.1 89 (ix (((v2 + 1) <<< (12 &&& 31)) + (v3 ||| (1 <<< (v5 &&& 31))))))))), (5, .int (v5 + 1))] rfl (ih M v1 v2 v3 (mxI v4 (r2 + (M.1 89 (ix (((v2 + 1) <<< (12 &&& 31)) + (v3 ||| (1 <<< (v5 &&& 31)))))))) (v5 + 1) h)
set_option maxHeartbeats 4000000 in
set_option maxRecDepth 100000 in
theorem glX10_joins_110 {x : Cx} {z : Lay} {r : Int32 × Mem} (hc : okm x z cX10_joins RX10 6 2 (some .int) (some (.int r.1)) r.2) (f104 : Mem → Int32 → Int32 → Option (Int32 × Mem)) (hf104 : ∀ (M : Mem) (v1 : Int32) (v2 : Int32), f104 M v1 v2 = some r → G x z 6 104 [(0, .ref (z.2.1 51)), (1, .int v1), (2, .int v2)] [] M) : ∀ (n : Nat) (M : Mem) (v1 : Int32) (v2 : Int32) (v3 : Int32), lX10_joins_110 f104 n M v1 v2 v3 = some r → G x z 6 110 [(0, .ref (z.2.1 51)), (1, .int v1), (2, .int v2), (3, .int v3)] [] M := by
  have hk := hc.1
  intro n
  induction n with
  | zero => intro _ _ _ _ h; rw [lX10_joins_110] at h; cases h
  | succ n ih =>
    intro M v1 v2 v3 h
    rw [lX10_joins_110] at h
    refine g_iload_n hk 3 dX10_joins_110 rfl ?_
    refine g_iload_n hk 1 dX10_joins_111 rfl ?_
    refine g_icmpge hk (tgt := 219) dX10_joins_112 (by decide) h (fun h => ?_) (fun h => ?_)
    · refine g_iinc (k := 2) hk [(2, .int (v2 + (-1))), (0, .ref (z.2.1 51)), (1, .int v1), (3, .int v3)] dX10_joins_219 rfl rfl (by decide) rfl ?_
      refine g_goto hk (tgt := 104) dX10_joins_222 (by decide) ?_
      exact g_weak [1, 2, 0] [(0, .ref (z.2.1 51)), (1, .int v1), (2, .int (v2 + (-1)))] rfl (hf104 M v1 (v2 + (-1)) h)
    · refine g_aload_n hk 0 dX10_joins_115 rfl ?_
      refine gfX10_136 hk dX10_joins_116 ?_
      refine g_iload_n hk 2 dX10_joins_119 rfl ?_
      refine g_iconst hk 1 dX10_joins_120 (by decide) ?_
      refine g_iadd hk dX10_joins_121 ?_
      refine g_bipush hk 12 dX10_joins_122 (by decide) ?_
      refine g_ishl hk dX10_joins_124 ?_
      refine g_iload_n hk 3 dX10_joins_125 rfl ?_
      refine g_iadd hk dX10_joins_126 ?_
      obtain ⟨hi1, h⟩ := ck_e h
      refine g_iald hk sh89 dX10_joins_127 hi1 (M.1 89 (ix (((v2 + 1) <<< (12 &&& 31)) + v3))) rfl ?_
      refine g_istore hk [(4, .int (M.1 89 (ix (((v2 + 1) <<< (12 &&& 31)) + v3)))), (0, .ref (z.2.1 51)), (1, .int v1), (2, .int v2), (3, .int v3)] dX10_joins_128 (by decide) rfl ?_
      refine g_iconst hk 0 dX10_joins_130 (by decide) ?_
      refine g_istore hk [(5, .int 0), (4, .int (M.1 89 (ix (((v2 + 1) <<< (12 &&& 31)) + v3)))), (0, .ref (z.2.1 51)), (1, .int v1), (2, .int v2), (3, .int v3)] dX10_joins_131 (by decide) rfl ?_
      exact g_weak [2, 3, 4, 5, 1, 0] [(0, .ref (z.2.1 51)), (1, .int v1), (2, .int v2), (3, .int v3), (4, .int (M.1 89 (ix (((v2 + 1) <<< (12 &&& 31)) + v3)))), (5, .int 0)] rfl (glX10_joins_133 hc f104 hf104 (lX10_joins_110 f104 n) ih fu M v1 v2 v3 (M.1 89 (ix (((v2 + 1) <<< (12 &&& 31)) + v3))) 0 h)
set_option maxHeartbeats 4000000 in
set_option maxRecDepth 100000 in
theorem gjX10_joins_334 {x : Cx} {z : Lay} {r : Int32 × Mem} (hc : okm x z cX10_joins RX10 6 2 (some .int) (some (.int r.1)) r.2) (f229 : Mem → Int32 → Int32 → Option (Int32 × Mem)) (hf229 : ∀ (M : Mem) (v2 : Int32) (v3 : Int32), f229 M v2 v3 = some r → G x z 6 229 [(0, .ref (z.2.1 51)), (2, .int v2), (3, .int v3)] [] M) (M : Mem) (v2 : Int32) (v3 : Int32) (v4 : Int32) (h : jX10_joins_334 f229 M v2 v3 v4 = some r) : G x z 6 334 [(0, .ref (z.2.1 51)), (2, .int v2), (3, .int v3), (4, .int v4)] [] M := by
  have hk := hc.1
  unfold jX10_joins_334 at h
  refine g_iload hk 3 dX10_joins_334 rfl ?_
  refine g_ifge hk (tgt := 342) dX10_joins_336 (by decide) h (fun h => ?_) (fun h => ?_)
  · refine g_aload_n hk 0 dX10_joins_342 rfl ?_
    refine gfX10_139 hk dX10_joins_343 ?_
    refine g_iload_n hk 2 dX10_joins_346 rfl ?_
    refine g_aload_n hk 0 dX10_joins_347 rfl ?_
    refine gfX10_132 hk dX10_joins_348 ?_
    refine g_iload hk 3 dX10_joins_351 rfl ?_
    obtain ⟨hi1, h⟩ := ck_e h
    refine g_iald hk sh88 dX10_joins_353 hi1 (M.1 88 (ix v4)) rfl ?_
    obtain ⟨hi2, h⟩ := ck_e h
    refine g_iast hk sh90 dX10_joins_354 hi2 ?_
    refine g_iload_n hk 1 dX10_joins_355 rfl ?_
    refine g_iconst hk 1 dX10_joins_356 (by decide) ?_
    refine g_iload hk 3 dX10_joins_357 rfl ?_
    refine g_ishl hk dX10_joins_359 ?_
    refine g_ior hk dX10_joins_360 ?_
    refine g_istore_n hk [(2, .int (v2 ||| (1 <<< (v4 &&& 31)))), (0, .ref (z.2.1 51)), (3, .int v3), (4, .int v4)] dX10_joins_361 rfl (by decide) rfl ?_
    refine g_iinc (k := 2) hk [(3, .int (v3 + 1)), (2, .int (v2 ||| (1 <<< (v4 &&& 31)))), (0, .ref (z.2.1 51)), (4, .int v4)] dX10_joins_362 rfl rfl (by decide) rfl ?_
    refine g_goto hk (tgt := 229) dX10_joins_365 (by decide) ?_
    exact g_weak [2, 1, 0] [(0, .ref (z.2.1 51)), (2, .int (v2 ||| (1 <<< (v4 &&& 31)))), (3, .int (v3 + 1))] rfl (hf229 (upI M 90 (ix v3) (M.1 88 (ix v4))) (v2 ||| (1 <<< (v4 &&& 31))) (v3 + 1) h)
  · refine g_goto hk (tgt := 362) dX10_joins_339 (by decide) ?_
    refine g_iinc (k := 2) hk [(3, .int (v3 + 1)), (0, .ref (z.2.1 51)), (2, .int v2), (4, .int v4)] dX10_joins_362 rfl rfl (by decide) rfl ?_
    refine g_goto hk (tgt := 229) dX10_joins_365 (by decide) ?_
    exact g_weak [1, 2, 0] [(0, .ref (z.2.1 51)), (2, .int v2), (3, .int (v3 + 1))] rfl (hf229 M v2 (v3 + 1) h)
set_option maxHeartbeats 4000000 in
set_option maxRecDepth 100000 in
theorem glX10_joins_251 {x : Cx} {z : Lay} {r : Int32 × Mem} (hc : okm x z cX10_joins RX10 6 2 (some .int) (some (.int r.1)) r.2) (f229 : Mem → Int32 → Int32 → Option (Int32 × Mem)) (hf229 : ∀ (M : Mem) (v2 : Int32) (v3 : Int32), f229 M v2 v3 = some r → G x z 6 229 [(0, .ref (z.2.1 51)), (2, .int v2), (3, .int v3)] [] M) : ∀ (n : Nat) (M : Mem) (v2 : Int32) (v3 : Int32) (v4 : Int32) (v5 : Int32), lX10_joins_251 f229 n M v2 v3 v4 v5 = some r → G x z 6 251 [(0, .ref (z.2.1 51)), (2, .int v2), (3, .int v3), (4, .int v4), (5, .int v5)] [] M := by
  have hk := hc.1
  intro n
  induction n with
  | zero => intro _ _ _ _ _ h; rw [lX10_joins_251] at h; cases h
  | succ n ih =>
    intro M v2 v3 v4 v5 h
    rw [lX10_joins_251] at h
    refine g_iload hk 4 dX10_joins_251 rfl ?_
    refine g_aload_n hk 0 dX10_joins_253 rfl ?_
    refine gfX10_242 hk dX10_joins_254 (M.1 51 52) rfl ?_
    refine g_icmpge hk (tgt := 334) dX10_joins_257 (by decide) h (fun h => ?_) (fun h => ?_)
    · exact g_weak [0, 1, 2, 3] [(0, .ref (z.2.1 51)), (2, .int v2), (3, .int v3), (4, .int v4)] rfl (gjX10_joins_334 hc f229 hf229 M v2 v3 v4 h)
    · refine g_iload hk 3 dX10_joins_260 rfl ?_
      refine g_ifge hk (tgt := 334) dX10_joins_262 (by decide) h (fun h => ?_) (fun h => ?_)
      · exact g_weak [0, 1, 2, 3] [(0, .ref (z.2.1 51)), (2, .int v2), (3, .int v3), (4, .int v4)] rfl (gjX10_joins_334 hc f229 hf229 M v2 v3 v4 h)
      · refine g_iload_n hk 1 dX10_joins_265 rfl ?_
        refine g_iload hk 4 dX10_joins_266 rfl ?_
        refine g_ishr hk dX10_joins_268 ?_
        refine g_iconst hk 1 dX10_joins_269 (by decide) ?_
        refine g_iand hk dX10_joins_270 ?_
        refine g_ifne hk (tgt := 328) dX10_joins_271 (by decide) h (fun h => ?_) (fun h => ?_)
        · refine g_iinc (k := 4) hk [(5, .int (v5 + 1)), (0, .ref (z.2.1 51)), (2, .int v2), (3, .int v3), (4, .int v4)] dX10_joins_328 rfl rfl (by decide) rfl ?_
          refine g_goto hk (tgt := 251) dX10_joins_331 (by decide) ?_
          exact g_weak [1, 2, 3, 4, 0] [(0, .ref (z.2.1 51)), (2, .int v2), (3, .int v3), (4, .int v4), (5, .int (v5 + 1))] rfl (ih M v2 v3 v4 (v5 + 1) h)
        · refine g_aload_n hk 0 dX10_joins_274 rfl ?_
          refine g_iload_n hk 2 dX10_joins_275 rfl ?_
          refine g_iload hk 4 dX10_joins_276 rfl ?_
          obtain ⟨r1, hr1, h⟩ := bnd h
          refine g_callVi hk [.int v3, .int v5] _ sh51 rfl mtX10_worth mlX10_245 (by decide) (by decide) rfl rfl (Nat.le_of_ble_eq_true rfl) dX10_joins_278 (kX10_worth _ z M v3 v5 r1 hr1) ?_
          refine g_ifle hk (tgt := 328) dX10_joins_281 (by decide) h (fun h => ?_) (fun h => ?_)
          · refine g_iinc (k := 4) hk [(5, .int (v5 + 1)), (0, .ref (z.2.1 51)), (2, .int v2), (3, .int v3), (4, .int v4)] dX10_joins_328 rfl rfl (by decide) rfl ?_
            refine g_goto hk (tgt := 251) dX10_joins_331 (by decide) ?_
            exact g_weak [1, 2, 3, 4, 0] [(0, .ref (z.2.1 51)), (2, .int v2), (3, .int v3), (4, .int v4), (5, .int (v5 + 1))] rfl (ih M v2 v3 v4 (v5 + 1) h)
          · refine g_aload_n hk 0 dX10_joins_284 rfl ?_
            refine g_iload_n hk 2 dX10_joins_285 rfl ?_
            refine g_iload hk 4 dX10_joins_286 rfl ?_
            obtain ⟨r2, hr2, h⟩ := bnd h
            refine g_callVi hk [.int v3, .int v5] _ sh51 rfl mtX10_worth mlX10_245 (by decide) (by decide) rfl rfl (Nat.le_of_ble_eq_true rfl) dX10_joins_288 (kX10_worth _ z M v3 v5 r2 hr2) ?_
            refine g_aload_n hk 0 dX10_joins_291 rfl ?_
            refine gfX10_136 hk dX10_joins_292 ?_
            refine g_iload_n hk 2 dX10_joins_295 rfl ?_
            refine g_iconst hk 1 dX10_joins_296 (by decide) ?_
            refine g_iadd hk dX10_joins_297 ?_
            refine g_bipush hk 12 dX10_joins_298 (by decide) ?_
            refine g_ishl hk dX10_joins_300 ?_
            refine g_iload_n hk 1 dX10_joins_301 rfl ?_
            refine g_iconst hk 1 dX10_joins_302 (by decide) ?_
            refine g_iload hk 4 dX10_joins_303 rfl ?_
            refine g_ishl hk dX10_joins_305 ?_
            refine g_ior hk dX10_joins_306 ?_
            refine g_iadd hk dX10_joins_307 ?_
            obtain ⟨hi1, h⟩ := ck_e h
            refine g_iald hk sh89 dX10_joins_308 hi1 (M.1 89 (ix (((v3 + 1) <<< (12 &&& 31)) + (v2 ||| (1 <<< (v5 &&& 31)))))) rfl ?_
            refine g_iadd hk dX10_joins_309 ?_
            refine g_aload_n hk 0 dX10_joins_310 rfl ?_
            refine gfX10_136 hk dX10_joins_311 ?_
            refine g_iload_n hk 2 dX10_joins_314 rfl ?_
            refine g_bipush hk 12 dX10_joins_315 (by decide) ?_
            refine g_ishl hk dX10_joins_317 ?_
            refine g_iload_n hk 1 dX10_joins_318 rfl ?_
            refine g_iadd hk dX10_joins_319 ?_
            obtain ⟨hi2, h⟩ := ck_e h
            refine g_iald hk sh89 dX10_joins_320 hi2 (M.1 89 (ix ((v3 <<< (12 &&& 31)) + v2))) rfl ?_
            refine g_icmpne hk (tgt := 328) dX10_joins_321 (by decide) h (fun h => ?_) (fun h => ?_)
            · refine g_iinc (k := 4) hk [(5, .int (v5 + 1)), (0, .ref (z.2.1 51)), (2, .int v2), (3, .int v3), (4, .int v4)] dX10_joins_328 rfl rfl (by decide) rfl ?_
              refine g_goto hk (tgt := 251) dX10_joins_331 (by decide) ?_
              exact g_weak [1, 2, 3, 4, 0] [(0, .ref (z.2.1 51)), (2, .int v2), (3, .int v3), (4, .int v4), (5, .int (v5 + 1))] rfl (ih M v2 v3 v4 (v5 + 1) h)
            · refine g_iload hk 4 dX10_joins_324 rfl ?_
              refine g_istore hk [(4, .int v5), (0, .ref (z.2.1 51)), (2, .int v2), (3, .int v3), (5, .int v5)] dX10_joins_326 (by decide) rfl ?_
              refine g_iinc (k := 4) hk [(5, .int (v5 + 1)), (4, .int v5), (0, .ref (z.2.1 51)), (2, .int v2), (3, .int v3)] dX10_joins_328 rfl rfl (by decide) rfl ?_
              refine g_goto hk (tgt := 251) dX10_joins_331 (by decide) ?_
              exact g_weak [2, 3, 4, 1, 0] [(0, .ref (z.2.1 51)), (2, .int v2), (3, .int v3), (4, .int v5), (5, .int (v5 + 1))] rfl (ih M v2 v3 v5 (v5 + 1) h)
set_option maxHeartbeats 4000000 in
set_option maxRecDepth 100000 in
theorem glX10_joins_229 {x : Cx} {z : Lay} {r : Int32 × Mem} (hc : okm x z cX10_joins RX10 6 2 (some .int) (some (.int r.1)) r.2)  : ∀ (n : Nat) (M : Mem) (v2 : Int32) (v3 : Int32), lX10_joins_229  n M v2 v3 = some r → G x z 6 229 [(0, .ref (z.2.1 51)), (2, .int v2), (3, .int v3)] [] M := by
  have hk := hc.1
  intro n
  induction n with
  | zero => intro _ _ _ h; rw [lX10_joins_229] at h; cases h
  | succ n ih =>
    intro M v2 v3 h
    rw [lX10_joins_229] at h
    refine g_iload_n hk 2 dX10_joins_229 rfl ?_
    refine g_aload_n hk 0 dX10_joins_230 rfl ?_
    refine gfX10_239 hk dX10_joins_231 (M.1 51 11) rfl ?_
    refine g_icmpge hk (tgt := 368) dX10_joins_234 (by decide) h (fun h => ?_) (fun h => ?_)
    · refine g_aload_n hk 0 dX10_joins_368 rfl ?_
      refine gfX10_136 hk dX10_joins_369 ?_
      refine g_iconst hk 0 dX10_joins_372 (by decide) ?_
      refine g_iald hk sh89 dX10_joins_373 (by decide) (M.1 89 0) rfl ?_
      exact g_iret (val := fun q => q.1) (mem := fun q => q.2) hc rfl dX10_joins_374 h ret2
    · refine g_aload_n hk 0 dX10_joins_237 rfl ?_
      refine gfX10_139 hk dX10_joins_238 ?_
      refine g_iload_n hk 2 dX10_joins_241 rfl ?_
      refine g_bipush hk (-9) dX10_joins_242 (by decide) ?_
      obtain ⟨hi1, h⟩ := ck_e h
      refine g_iast hk sh90 dX10_joins_244 hi1 ?_
      refine g_iconst hk (-1) dX10_joins_245 (by decide) ?_
      refine g_istore hk [(4, .int (-1)), (0, .ref (z.2.1 51)), (2, .int v2), (3, .int v3)] dX10_joins_246 (by decide) rfl ?_
      refine g_iconst hk 0 dX10_joins_248 (by decide) ?_
      refine g_istore hk [(5, .int 0), (4, .int (-1)), (0, .ref (z.2.1 51)), (2, .int v2), (3, .int v3)] dX10_joins_249 (by decide) rfl ?_
      exact g_weak [2, 3, 4, 1, 0] [(0, .ref (z.2.1 51)), (2, .int v2), (3, .int v3), (4, .int (-1)), (5, .int 0)] rfl (glX10_joins_251 hc (lX10_joins_229  n) ih fu (upI M 90 (ix v3) (-9)) v2 v3 (-1) 0 h)
set_option maxHeartbeats 4000000 in
set_option maxRecDepth 100000 in
theorem glX10_joins_104 {x : Cx} {z : Lay} {r : Int32 × Mem} (hc : okm x z cX10_joins RX10 6 2 (some .int) (some (.int r.1)) r.2)  : ∀ (n : Nat) (M : Mem) (v1 : Int32) (v2 : Int32), lX10_joins_104  n M v1 v2 = some r → G x z 6 104 [(0, .ref (z.2.1 51)), (1, .int v1), (2, .int v2)] [] M := by
  have hk := hc.1
  intro n
  induction n with
  | zero => intro _ _ _ h; rw [lX10_joins_104] at h; cases h
  | succ n ih =>
    intro M v1 v2 h
    rw [lX10_joins_104] at h
    refine g_iload_n hk 2 dX10_joins_104 rfl ?_
    refine g_iflt hk (tgt := 225) dX10_joins_105 (by decide) h (fun h => ?_) (fun h => ?_)
    · refine g_iconst hk 0 dX10_joins_225 (by decide) ?_
      refine g_istore_n hk [(2, .int 0), (0, .ref (z.2.1 51)), (1, .int v1)] dX10_joins_226 rfl (by decide) rfl ?_
      refine g_iconst hk 0 dX10_joins_227 (by decide) ?_
      refine g_istore_n hk [(3, .int 0), (2, .int 0), (0, .ref (z.2.1 51)), (1, .int v1)] dX10_joins_228 rfl (by decide) rfl ?_
      exact g_weak [2, 1, 0] [(0, .ref (z.2.1 51)), (2, .int 0), (3, .int 0)] rfl (glX10_joins_229 hc  fu M 0 0 h)
    · refine g_iconst hk 0 dX10_joins_108 (by decide) ?_
      refine g_istore_n hk [(3, .int 0), (0, .ref (z.2.1 51)), (1, .int v1), (2, .int v2)] dX10_joins_109 rfl (by decide) rfl ?_
      exact g_weak [1, 2, 3, 0] [(0, .ref (z.2.1 51)), (1, .int v1), (2, .int v2), (3, .int 0)] rfl (glX10_joins_110 hc (lX10_joins_104  n) ih fu M v1 v2 0 h)
set_option maxHeartbeats 4000000 in
set_option maxRecDepth 100000 in
theorem glX10_joins_71 {x : Cx} {z : Lay} {r : Int32 × Mem} (hc : okm x z cX10_joins RX10 6 2 (some .int) (some (.int r.1)) r.2)  : ∀ (n : Nat) (M : Mem) (v1 : Int32) (v2 : Int32), lX10_joins_71  n M v1 v2 = some r → G x z 6 71 [(0, .ref (z.2.1 51)), (1, .int v1), (2, .int v2)] [] M := by
  have hk := hc.1
  intro n
  induction n with
  | zero => intro _ _ _ h; rw [lX10_joins_71] at h; cases h
  | succ n ih =>
    intro M v1 v2 h
    rw [lX10_joins_71] at h
    refine g_iload_n hk 2 dX10_joins_71 rfl ?_
    refine g_iload_n hk 1 dX10_joins_72 rfl ?_
    refine g_icmpge hk (tgt := 97) dX10_joins_73 (by decide) h (fun h => ?_) (fun h => ?_)
    · refine g_aload_n hk 0 dX10_joins_97 rfl ?_
      refine gfX10_239 hk dX10_joins_98 (M.1 51 11) rfl ?_
      refine g_iconst hk 1 dX10_joins_101 (by decide) ?_
      refine g_isub hk dX10_joins_102 ?_
      refine g_istore_n hk [(2, .int ((M.1 51 11) - 1)), (0, .ref (z.2.1 51)), (1, .int v1)] dX10_joins_103 rfl (by decide) rfl ?_
      exact g_weak [1, 2, 0] [(0, .ref (z.2.1 51)), (1, .int v1), (2, .int ((M.1 51 11) - 1))] rfl (glX10_joins_104 hc  fu M v1 ((M.1 51 11) - 1) h)
    · refine g_aload_n hk 0 dX10_joins_76 rfl ?_
      refine gfX10_136 hk dX10_joins_77 ?_
      refine g_aload_n hk 0 dX10_joins_80 rfl ?_
      refine gfX10_239 hk dX10_joins_81 (M.1 51 11) rfl ?_
      refine g_bipush hk 12 dX10_joins_84 (by decide) ?_
      refine g_ishl hk dX10_joins_86 ?_
      refine g_iload_n hk 2 dX10_joins_87 rfl ?_
      refine g_iadd hk dX10_joins_88 ?_
      refine g_iconst hk 0 dX10_joins_89 (by decide) ?_
      obtain ⟨hi1, h⟩ := ck_e h
      refine g_iast hk sh89 dX10_joins_90 hi1 ?_
      refine g_iinc (k := 2) hk [(2, .int (v2 + 1)), (0, .ref (z.2.1 51)), (1, .int v1)] dX10_joins_91 rfl rfl (by decide) rfl ?_
      refine g_goto hk (tgt := 71) dX10_joins_94 (by decide) ?_
      exact g_weak [1, 2, 0] [(0, .ref (z.2.1 51)), (1, .int v1), (2, .int (v2 + 1))] rfl (ih (upI M 89 (ix (((M.1 51 11) <<< (12 &&& 31)) + v2)) 0) v1 (v2 + 1) h)
set_option maxHeartbeats 4000000 in
set_option maxRecDepth 100000 in
theorem glX10_joins_7 {x : Cx} {z : Lay} {r : Int32 × Mem} (hc : okm x z cX10_joins RX10 6 2 (some .int) (some (.int r.1)) r.2)  : ∀ (n : Nat) (M : Mem) (v1 : Int32), lX10_joins_7  n M v1 = some r → G x z 6 7 [(0, .ref (z.2.1 51)), (1, .int v1)] [] M := by
  have hk := hc.1
  intro n
  induction n with
  | zero => intro _ _ h; rw [lX10_joins_7] at h; cases h
  | succ n ih =>
    intro M v1 h
    rw [lX10_joins_7] at h
    refine g_iload_n hk 1 dX10_joins_7 rfl ?_
    refine g_aload_n hk 0 dX10_joins_8 rfl ?_
    refine gfX10_176 hk dX10_joins_9 (M.1 51 5) rfl ?_
    refine g_icmpge hk (tgt := 62) dX10_joins_12 (by decide) h (fun h => ?_) (fun h => ?_)
    · refine g_iconst hk 1 dX10_joins_62 (by decide) ?_
      refine g_aload_n hk 0 dX10_joins_63 rfl ?_
      refine gfX10_242 hk dX10_joins_64 (M.1 51 52) rfl ?_
      refine g_ishl hk dX10_joins_67 ?_
      refine g_istore_n hk [(1, .int (1 <<< ((M.1 51 52) &&& 31))), (0, .ref (z.2.1 51))] dX10_joins_68 rfl (by decide) rfl ?_
      refine g_iconst hk 0 dX10_joins_69 (by decide) ?_
      refine g_istore_n hk [(2, .int 0), (1, .int (1 <<< ((M.1 51 52) &&& 31))), (0, .ref (z.2.1 51))] dX10_joins_70 rfl (by decide) rfl ?_
      exact g_weak [2, 1, 0] [(0, .ref (z.2.1 51)), (1, .int (1 <<< ((M.1 51 52) &&& 31))), (2, .int 0)] rfl (glX10_joins_71 hc  fu M (1 <<< ((M.1 51 52) &&& 31)) 0 h)
    · refine g_aload_n hk 0 dX10_joins_15 rfl ?_
      refine gfX10_242 hk dX10_joins_16 (M.1 51 52) rfl ?_
      refine g_bipush hk 12 dX10_joins_19 (by decide) ?_
      refine g_icmpge hk (tgt := 62) dX10_joins_21 (by decide) h (fun h => ?_) (fun h => ?_)
      · refine g_iconst hk 1 dX10_joins_62 (by decide) ?_
        refine g_aload_n hk 0 dX10_joins_63 rfl ?_
        refine gfX10_242 hk dX10_joins_64 (M.1 51 52) rfl ?_
        refine g_ishl hk dX10_joins_67 ?_
        refine g_istore_n hk [(1, .int (1 <<< ((M.1 51 52) &&& 31))), (0, .ref (z.2.1 51))] dX10_joins_68 rfl (by decide) rfl ?_
        refine g_iconst hk 0 dX10_joins_69 (by decide) ?_
        refine g_istore_n hk [(2, .int 0), (1, .int (1 <<< ((M.1 51 52) &&& 31))), (0, .ref (z.2.1 51))] dX10_joins_70 rfl (by decide) rfl ?_
        exact g_weak [2, 1, 0] [(0, .ref (z.2.1 51)), (1, .int (1 <<< ((M.1 51 52) &&& 31))), (2, .int 0)] rfl (glX10_joins_71 hc  fu M (1 <<< ((M.1 51 52) &&& 31)) 0 h)
      · refine g_aload_n hk 0 dX10_joins_24 rfl ?_
        refine gfX10_56 hk dX10_joins_25 ?_
        refine g_iload_n hk 1 dX10_joins_28 rfl ?_
        obtain ⟨hi1, h⟩ := ck_e h
        refine g_zald hk sh63 dX10_joins_29 hi1 (M.1 63 (ix v1)) rfl ?_
        refine g_ifne hk (tgt := 36) dX10_joins_30 (by decide) h (fun h => ?_) (fun h => ?_)
        · refine g_aload_n hk 0 dX10_joins_36 rfl ?_
          refine gfX10_132 hk dX10_joins_37 ?_
          refine g_aload_n hk 0 dX10_joins_40 rfl ?_
          refine gfX10_242 hk dX10_joins_41 (M.1 51 52) rfl ?_
          refine g_iload_n hk 1 dX10_joins_44 rfl ?_
          obtain ⟨hi2, h⟩ := ck_e h
          refine g_iast hk sh88 dX10_joins_45 hi2 ?_
          refine g_aload_n hk 0 dX10_joins_46 rfl ?_
          refine g_dup hk dX10_joins_47 rfl ?_
          refine gfX10_242 hk dX10_joins_48 (M.1 51 52) rfl ?_
          refine g_iconst hk 1 dX10_joins_51 (by decide) ?_
          refine g_iadd hk dX10_joins_52 ?_
          refine pfX10_242 hk dX10_joins_53 ?_
          refine g_iinc (k := 1) hk [(1, .int (v1 + 1)), (0, .ref (z.2.1 51))] dX10_joins_56 rfl rfl (by decide) rfl ?_
          refine g_goto hk (tgt := 7) dX10_joins_59 (by decide) ?_
          exact g_weak [1, 0] [(0, .ref (z.2.1 51)), (1, .int (v1 + 1))] rfl (ih (upI (upI M 88 (ix (M.1 51 52)) v1) 51 52 ((M.1 51 52) + 1)) (v1 + 1) h)
        · refine g_goto hk (tgt := 56) dX10_joins_33 (by decide) ?_
          refine g_iinc (k := 1) hk [(1, .int (v1 + 1)), (0, .ref (z.2.1 51))] dX10_joins_56 rfl rfl (by decide) rfl ?_
          refine g_goto hk (tgt := 7) dX10_joins_59 (by decide) ?_
          exact g_weak [1, 0] [(0, .ref (z.2.1 51)), (1, .int (v1 + 1))] rfl (ih M (v1 + 1) h)
set_option maxHeartbeats 4000000 in
set_option maxRecDepth 100000 in
theorem kX10_joins (l : Launch) (z : Lay) (M : Mem)  (r : Int32 × Mem) (h : xX10_joins M = some r) : Con l z yX10_joins cX10_joins 6 (some .int) 2 [.ref (z.2.1 51)] M (some (.int r.1)) r.2 := by
  refine Con.of (by decide) (Nat.le_of_ble_eq_true rfl) ?_
  intro x hl hc
  subst hl
  have hk : okc x z cX10_joins RX10 6 2 := hc.1
  show G x z 6 0 [(0, .ref (z.2.1 51))] [] M
  unfold xX10_joins at h
  refine g_aload_n hk 0 dX10_joins_0 rfl ?_
  refine g_iconst hk 0 dX10_joins_1 (by decide) ?_
  refine pfX10_242 hk dX10_joins_2 ?_
  refine g_iconst hk 0 dX10_joins_5 (by decide) ?_
  refine g_istore_n hk [(1, .int 0), (0, .ref (z.2.1 51))] dX10_joins_6 rfl (by decide) rfl ?_
  exact g_weak [1, 0] [(0, .ref (z.2.1 51)), (1, .int 0)] rfl (glX10_joins_7 hc  fu (upI M 51 52 0) 0 h)
set_option maxHeartbeats 4000000 in
set_option maxRecDepth 100000 in
theorem kX10_join (l : Launch) (z : Lay) (M : Mem) (v1 : Int32) (r : Int32 × Mem) (h : xX10_join M v1 = some r) : Con l z yX10_join cX10_join 4 (some .int) 3 [.ref (z.2.1 51), .int v1] M (some (.int r.1)) r.2 := by
  refine Con.of (by decide) (Nat.le_of_ble_eq_true rfl) ?_
  intro x hl hc
  subst hl
  have hk : okc x z cX10_join RX10 4 3 := hc.1
  show G x z 4 0 [(0, .ref (z.2.1 51)), (1, .int v1)] [] M
  unfold xX10_join at h
  refine g_iload_n hk 1 dX10_join_0 rfl ?_
  refine g_iconst hk 2 dX10_join_1 (by decide) ?_
  obtain ⟨r1, hr1, h⟩ := bnd h
  refine g_callSi hk [.int v1, .int 2] _ mtX10_isIn mlX10_153 (by decide) (by decide) rfl rfl (Nat.le_of_ble_eq_true rfl) dX10_join_2 (kX10_isIn _ z M v1 2 r1 hr1) ?_
  refine g_ifne hk (tgt := 15) dX10_join_5 (by decide) h (fun h => ?_) (fun h => ?_)
  · refine g_aload_n hk 0 dX10_join_15 rfl ?_
    obtain ⟨r2, hr2, h⟩ := bnd h
    refine g_callVi hk [] _ sh51 rfl mtX10_joins mlX10_248 (by decide) (by decide) rfl rfl (Nat.le_of_ble_eq_true rfl) dX10_join_16 (kX10_joins _ z M  r2 hr2) ?_
    refine g_istore_n hk [(2, .int r2.1), (0, .ref (z.2.1 51)), (1, .int v1)] dX10_join_19 rfl (by decide) rfl ?_
    refine g_iload_n hk 0 dX10_join_20 rfl ?_
    refine g_sipush hk 9999 dX10_join_21 (by decide) ?_
    refine g_iadd hk dX10_join_24 ?_
    refine g_sipush hk 10000 dX10_join_25 (by decide) ?_
    refine g_idiv hk dX10_join_28 (by decide) ?_
    refine g_istore_n hk [(3, .int ((r2.1 + 9999) / 10000)), (2, .int r2.1), (0, .ref (z.2.1 51)), (1, .int v1)] dX10_join_29 rfl (by decide) rfl ?_
    refine g_iload_n hk 3 dX10_join_30 rfl ?_
    refine g_ifne hk (tgt := 38) dX10_join_31 (by decide) h (fun h => ?_) (fun h => ?_)
    · refine g_sipush hk 10000 dX10_join_38 (by decide) ?_
      refine g_iload_n hk 0 dX10_join_41 rfl ?_
      refine g_imul hk dX10_join_42 ?_
      refine g_iload_n hk 1 dX10_join_43 rfl ?_
      refine g_isub hk dX10_join_44 ?_
      exact g_iret (val := fun q => q.1) (mem := fun q => q.2) hc rfl dX10_join_45 h ret2
    · refine g_iload_n hk 0 dX10_join_34 rfl ?_
      refine g_goto hk (tgt := 45) dX10_join_35 (by decide) ?_
      exact g_iret (val := fun q => q.1) (mem := fun q => q.2) hc rfl dX10_join_45 h ret2
  · refine g_aload_n hk 0 dX10_join_8 rfl ?_
    refine g_bipush hk (-2) dX10_join_9 (by decide) ?_
    obtain ⟨r3, hr3, h⟩ := bnd h
    refine g_callVi hk [.int (-2)] _ sh51 rfl mtX10_refuse mlX10_149 (by decide) (by decide) rfl rfl (Nat.le_of_ble_eq_true rfl) dX10_join_11 (kX10_refuse _ z M (-2) r3 hr3) ?_
    exact g_iret (val := fun q => q.1) (mem := fun q => q.2) hc rfl dX10_join_14 h ret2
set_option maxHeartbeats 4000000 in
set_option maxRecDepth 100000 in
theorem kX10_joined (l : Launch) (z : Lay) (M : Mem) (v1 : Int32) (r : Int32 × Mem) (h : xX10_joined M v1 = some r) : Con l z yX10_joined cX10_joined 3 (some .int) 3 [.ref (z.2.1 51), .int v1] M (some (.int r.1)) r.2 := by
  refine Con.of (by decide) (Nat.le_of_ble_eq_true rfl) ?_
  intro x hl hc
  subst hl
  have hk : okc x z cX10_joined RX10 3 3 := hc.1
  show G x z 3 0 [(0, .ref (z.2.1 51)), (1, .int v1)] [] M
  unfold xX10_joined at h
  refine g_iload_n hk 1 dX10_joined_0 rfl ?_
  refine g_aload_n hk 0 dX10_joined_1 rfl ?_
  refine gfX10_239 hk dX10_joined_2 (M.1 51 11) rfl ?_
  obtain ⟨r1, hr1, h⟩ := bnd h
  refine g_callSi hk [.int v1, .int (M.1 51 11)] _ mtX10_isIn mlX10_153 (by decide) (by decide) rfl rfl (Nat.le_of_ble_eq_true rfl) dX10_joined_5 (kX10_isIn _ z M v1 (M.1 51 11) r1 hr1) ?_
  refine g_ifne hk (tgt := 17) dX10_joined_8 (by decide) h (fun h => ?_) (fun h => ?_)
  · refine g_aload_n hk 0 dX10_joined_17 rfl ?_
    obtain ⟨r2, hr2, h⟩ := bnd h
    refine g_callVi hk [] _ sh51 rfl mtX10_joins mlX10_248 (by decide) (by decide) rfl rfl (Nat.le_of_ble_eq_true rfl) dX10_joined_18 (kX10_joins _ z M  r2 hr2) ?_
    refine g_istore_n hk [(2, .int r2.1), (0, .ref (z.2.1 51)), (1, .int v1)] dX10_joined_21 rfl (by decide) rfl ?_
    refine g_aload_n hk 1 dX10_joined_22 rfl ?_
    refine gfX10_139 hk dX10_joined_23 ?_
    refine g_iload_n hk 2 dX10_joined_26 rfl ?_
    obtain ⟨hi1, h⟩ := ck_e h
    refine g_iald hk sh90 dX10_joined_27 hi1 (r2.2.1 90 (ix v1)) rfl ?_
    exact g_iret (val := fun q => q.1) (mem := fun q => q.2) hc rfl dX10_joined_28 h ret2
  · refine g_aload_n hk 0 dX10_joined_11 rfl ?_
    refine g_iconst hk (-1) dX10_joined_12 (by decide) ?_
    obtain ⟨r3, hr3, h⟩ := bnd h
    refine g_callVi hk [.int (-1)] _ sh51 rfl mtX10_refuse mlX10_149 (by decide) (by decide) rfl rfl (Nat.le_of_ble_eq_true rfl) dX10_joined_13 (kX10_refuse _ z M (-1) r3 hr3) ?_
    exact g_iret (val := fun q => q.1) (mem := fun q => q.2) hc rfl dX10_joined_16 h ret2
set_option maxHeartbeats 4000000 in
set_option maxRecDepth 100000 in
theorem kX10_job (l : Launch) (z : Lay) (M : Mem) (v1 : Int32) (v2 : Int32) (v3 : Int32) (r : Int32 × Mem) (h : xX10_job M v1 v2 v3 = some r) : Con l z yX10_job cX10_job 4 (some .int) 1 [.ref (z.2.1 51), .int v1, .int v2, .int v3] M (some (.int r.1)) r.2 := by
  refine Con.of (by decide) (Nat.le_of_ble_eq_true rfl) ?_
  intro x hl hc
  subst hl
  have hk : okc x z cX10_job RX10 4 1 := hc.1
  show G x z 4 0 [(0, .ref (z.2.1 51)), (1, .int v1), (2, .int v2), (3, .int v3)] [] M
  unfold xX10_job at h
  refine g_iload_n hk 1 dX10_job_0 rfl ?_
  refine g_iconst hk 1 dX10_job_1 (by decide) ?_
  refine g_icmplt hk (tgt := 13) dX10_job_2 (by decide) h (fun h => ?_) (fun h => ?_)
  · refine g_aload_n hk 0 dX10_job_13 rfl ?_
    refine g_bipush hk (-4) dX10_job_14 (by decide) ?_
    obtain ⟨r1, hr1, h⟩ := bnd h
    refine g_callVi hk [.int (-4)] _ sh51 rfl mtX10_refuse mlX10_149 (by decide) (by decide) rfl rfl (Nat.le_of_ble_eq_true rfl) dX10_job_16 (kX10_refuse _ z M (-4) r1 hr1) ?_
    exact g_iret (val := fun q => q.1) (mem := fun q => q.2) hc rfl dX10_job_19 h ret2
  · refine g_iload_n hk 2 dX10_job_5 rfl ?_
    refine g_iflt hk (tgt := 13) dX10_job_6 (by decide) h (fun h => ?_) (fun h => ?_)
    · refine g_aload_n hk 0 dX10_job_13 rfl ?_
      refine g_bipush hk (-4) dX10_job_14 (by decide) ?_
      obtain ⟨r2, hr2, h⟩ := bnd h
      refine g_callVi hk [.int (-4)] _ sh51 rfl mtX10_refuse mlX10_149 (by decide) (by decide) rfl rfl (Nat.le_of_ble_eq_true rfl) dX10_job_16 (kX10_refuse _ z M (-4) r2 hr2) ?_
      exact g_iret (val := fun q => q.1) (mem := fun q => q.2) hc rfl dX10_job_19 h ret2
    · refine g_iload_n hk 3 dX10_job_9 rfl ?_
      refine g_ifge hk (tgt := 20) dX10_job_10 (by decide) h (fun h => ?_) (fun h => ?_)
      · refine g_iload_n hk 1 dX10_job_20 rfl ?_
        refine g_bipush hk 40 dX10_job_21 (by decide) ?_
        refine g_icmpgt hk (tgt := 48) dX10_job_23 (by decide) h (fun h => ?_) (fun h => ?_)
        · refine g_aload_n hk 0 dX10_job_48 rfl ?_
          refine g_bipush hk (-6) dX10_job_49 (by decide) ?_
          obtain ⟨r3, hr3, h⟩ := bnd h
          refine g_callVi hk [.int (-6)] _ sh51 rfl mtX10_refuse mlX10_149 (by decide) (by decide) rfl rfl (Nat.le_of_ble_eq_true rfl) dX10_job_51 (kX10_refuse _ z M (-6) r3 hr3) ?_
          exact g_iret (val := fun q => q.1) (mem := fun q => q.2) hc rfl dX10_job_54 h ret2
        · refine g_iload_n hk 2 dX10_job_26 rfl ?_
          refine g_sipush hk 400 dX10_job_27 (by decide) ?_
          refine g_icmpgt hk (tgt := 48) dX10_job_30 (by decide) h (fun h => ?_) (fun h => ?_)
          · refine g_aload_n hk 0 dX10_job_48 rfl ?_
            refine g_bipush hk (-6) dX10_job_49 (by decide) ?_
            obtain ⟨r4, hr4, h⟩ := bnd h
            refine g_callVi hk [.int (-6)] _ sh51 rfl mtX10_refuse mlX10_149 (by decide) (by decide) rfl rfl (Nat.le_of_ble_eq_true rfl) dX10_job_51 (kX10_refuse _ z M (-6) r4 hr4) ?_
            exact g_iret (val := fun q => q.1) (mem := fun q => q.2) hc rfl dX10_job_54 h ret2
          · refine g_iload_n hk 3 dX10_job_33 rfl ?_
            refine g_bipush hk 15 dX10_job_34 (by decide) ?_
            refine g_icmpgt hk (tgt := 48) dX10_job_36 (by decide) h (fun h => ?_) (fun h => ?_)
            · refine g_aload_n hk 0 dX10_job_48 rfl ?_
              refine g_bipush hk (-6) dX10_job_49 (by decide) ?_
              obtain ⟨r5, hr5, h⟩ := bnd h
              refine g_callVi hk [.int (-6)] _ sh51 rfl mtX10_refuse mlX10_149 (by decide) (by decide) rfl rfl (Nat.le_of_ble_eq_true rfl) dX10_job_51 (kX10_refuse _ z M (-6) r5 hr5) ?_
              exact g_iret (val := fun q => q.1) (mem := fun q => q.2) hc rfl dX10_job_54 h ret2
            · refine g_aload_n hk 0 dX10_job_39 rfl ?_
              refine gfX10_252 hk dX10_job_40 (M.1 51 12) rfl ?_
              refine g_bipush hk 8 dX10_job_43 (by decide) ?_
              refine g_icmpne hk (tgt := 55) dX10_job_45 (by decide) h (fun h => ?_) (fun h => ?_)
              · refine g_aload_n hk 0 dX10_job_55 rfl ?_
                refine gfX10_120 hk dX10_job_56 ?_
                refine g_aload_n hk 0 dX10_job_59 rfl ?_
                refine gfX10_252 hk dX10_job_60 (M.1 51 12) rfl ?_
                refine g_iload_n hk 1 dX10_job_63 rfl ?_
                obtain ⟨hi1, h⟩ := ck_e h
                refine g_iast hk sh84 dX10_job_64 hi1 ?_
                refine g_aload_n hk 0 dX10_job_65 rfl ?_
                refine gfX10_123 hk dX10_job_66 ?_
                refine g_aload_n hk 0 dX10_job_69 rfl ?_
                refine gfX10_252 hk dX10_job_70 (M.1 51 12) rfl ?_
                refine g_iload_n hk 2 dX10_job_73 rfl ?_
                refine g_iast hk sh85 dX10_job_74 hi1 ?_
                refine g_aload_n hk 0 dX10_job_75 rfl ?_
                refine gfX10_126 hk dX10_job_76 ?_
                refine g_aload_n hk 0 dX10_job_79 rfl ?_
                refine gfX10_252 hk dX10_job_80 (M.1 51 12) rfl ?_
                refine g_iload_n hk 3 dX10_job_83 rfl ?_
                refine g_iast hk sh86 dX10_job_84 hi1 ?_
                refine g_aload_n hk 0 dX10_job_85 rfl ?_
                refine g_dup hk dX10_job_86 rfl ?_
                refine gfX10_252 hk dX10_job_87 (M.1 51 12) rfl ?_
                refine g_iconst hk 1 dX10_job_90 (by decide) ?_
                refine g_iadd hk dX10_job_91 ?_
                refine pfX10_252 hk dX10_job_92 ?_
                refine g_aload_n hk 0 dX10_job_95 rfl ?_
                refine gfX10_252 hk dX10_job_96 ((M.1 51 12) + 1) rfl ?_
                refine g_iconst hk 1 dX10_job_99 (by decide) ?_
                refine g_isub hk dX10_job_100 ?_
                exact g_iret (val := fun q => q.1) (mem := fun q => q.2) hc rfl dX10_job_101 h ret2
              · refine g_aload_n hk 0 dX10_job_48 rfl ?_
                refine g_bipush hk (-6) dX10_job_49 (by decide) ?_
                obtain ⟨r6, hr6, h⟩ := bnd h
                refine g_callVi hk [.int (-6)] _ sh51 rfl mtX10_refuse mlX10_149 (by decide) (by decide) rfl rfl (Nat.le_of_ble_eq_true rfl) dX10_job_51 (kX10_refuse _ z M (-6) r6 hr6) ?_
                exact g_iret (val := fun q => q.1) (mem := fun q => q.2) hc rfl dX10_job_54 h ret2
      · refine g_aload_n hk 0 dX10_job_13 rfl ?_
        refine g_bipush hk (-4) dX10_job_14 (by decide) ?_
        obtain ⟨r7, hr7, h⟩ := bnd h
        refine g_callVi hk [.int (-4)] _ sh51 rfl mtX10_refuse mlX10_149 (by decide) (by decide) rfl rfl (Nat.le_of_ble_eq_true rfl) dX10_job_16 (kX10_refuse _ z M (-4) r7 hr7) ?_
        exact g_iret (val := fun q => q.1) (mem := fun q => q.2) hc rfl dX10_job_19 h ret2
set_option maxHeartbeats 4000000 in
set_option maxRecDepth 100000 in
theorem gjX10_gang_19 {x : Cx} {z : Lay} {r : Int32 × Mem} (hc : okm x z cX10_gang RX10 5 1 (some .int) (some (.int r.1)) r.2)  (M : Mem) (v1 : Int32) (v2 : Int32) (s0 : Int32) (h : jX10_gang_19  M v1 v2 s0 = some r) : G x z 5 19 [(0, .ref (z.2.1 51)), (1, .int v1), (2, .int v2)] [.int s0] M := by
  have hk := hc.1
  unfold jX10_gang_19 at h
  refine g_istore_n hk [(3, .int s0), (0, .ref (z.2.1 51)), (1, .int v1), (2, .int v2)] dX10_gang_19 rfl (by decide) rfl ?_
  refine g_iload_n hk 0 dX10_gang_20 rfl ?_
  refine g_ifeq hk (tgt := 30) dX10_gang_21 (by decide) h (fun h => ?_) (fun h => ?_)
  · refine g_aload_n hk 1 dX10_gang_30 rfl ?_
    refine gfX10_129 hk dX10_gang_31 ?_
    refine g_iload_n hk 2 dX10_gang_34 rfl ?_
    obtain ⟨hi1, h⟩ := ck_e h
    refine g_iald hk sh87 dX10_gang_35 hi1 (M.1 87 (ix v1)) rfl ?_
    refine g_istore hk [(4, .int (M.1 87 (ix v1))), (3, .int s0), (0, .ref (z.2.1 51)), (1, .int v1), (2, .int v2)] dX10_gang_36 (by decide) rfl ?_
    refine g_aload_n hk 2 dX10_gang_38 rfl ?_
    refine gfX10_129 hk dX10_gang_39 ?_
    refine g_iload_n hk 3 dX10_gang_42 rfl ?_
    refine g_iload_n hk 4 dX10_gang_43 rfl ?_
    refine g_iast hk sh87 dX10_gang_44 hi1 ?_
    refine g_iload hk 0 dX10_gang_45 rfl ?_
    exact g_iret (val := fun q => q.1) (mem := fun q => q.2) hc rfl dX10_gang_47 h ret2
  · refine g_aload_n hk 1 dX10_gang_24 rfl ?_
    refine g_iload_n hk 0 dX10_gang_25 rfl ?_
    obtain ⟨r1, hr1, h⟩ := bnd h
    refine g_callVi hk [.int s0] _ sh51 rfl mtX10_refuse mlX10_149 (by decide) (by decide) rfl rfl (Nat.le_of_ble_eq_true rfl) dX10_gang_26 (kX10_refuse _ z M s0 r1 hr1) ?_
    exact g_iret (val := fun q => q.1) (mem := fun q => q.2) hc rfl dX10_gang_29 h ret2
set_option maxHeartbeats 4000000 in
set_option maxRecDepth 100000 in
theorem kX10_gang (l : Launch) (z : Lay) (M : Mem) (v1 : Int32) (v2 : Int32) (r : Int32 × Mem) (h : xX10_gang M v1 v2 = some r) : Con l z yX10_gang cX10_gang 5 (some .int) 1 [.ref (z.2.1 51), .int v1, .int v2] M (some (.int r.1)) r.2 := by
  refine Con.of (by decide) (Nat.le_of_ble_eq_true rfl) ?_
  intro x hl hc
  subst hl
  have hk : okc x z cX10_gang RX10 5 1 := hc.1
  show G x z 5 0 [(0, .ref (z.2.1 51)), (1, .int v1), (2, .int v2)] [] M
  unfold xX10_gang at h
  refine g_iload_n hk 1 dX10_gang_0 rfl ?_
  refine g_iconst hk 2 dX10_gang_1 (by decide) ?_
  obtain ⟨r1, hr1, h⟩ := bnd h
  refine g_callSi hk [.int v1, .int 2] _ mtX10_isIn mlX10_153 (by decide) (by decide) rfl rfl (Nat.le_of_ble_eq_true rfl) dX10_gang_2 (kX10_isIn _ z M v1 2 r1 hr1) ?_
  refine g_ifeq hk (tgt := 18) dX10_gang_5 (by decide) h (fun h => ?_) (fun h => ?_)
  · refine g_iconst hk (-1) dX10_gang_18 (by decide) ?_
    exact g_weak [0, 1, 2] [(0, .ref (z.2.1 51)), (1, .int v1), (2, .int v2)] rfl (gjX10_gang_19 hc  M v1 v2 (-1) h)
  · refine g_iload_n hk 2 dX10_gang_8 rfl ?_
    refine g_iconst hk 0 dX10_gang_9 (by decide) ?_
    refine g_bipush hk 15 dX10_gang_10 (by decide) ?_
    obtain ⟨r2, hr2, h⟩ := bnd h
    refine g_callSi hk [.int v2, .int 0, .int 15] _ mtX10_wrong mlX10_160 (by decide) (by decide) rfl rfl (Nat.le_of_ble_eq_true rfl) dX10_gang_12 (kX10_wrong _ z M v2 0 15 r2 hr2) ?_
    refine g_goto hk (tgt := 19) dX10_gang_15 (by decide) ?_
    exact g_weak [0, 1, 2] [(0, .ref (z.2.1 51)), (1, .int v1), (2, .int v2)] rfl (gjX10_gang_19 hc  M v1 v2 r2 h)
set_option maxHeartbeats 4000000 in
set_option maxRecDepth 100000 in
theorem kX10_gangIn (l : Launch) (z : Lay) (M : Mem) (v1 : Int32) (v2 : Int32) (r : Int32) (h : xX10_gangIn M v1 v2 = some r) : Con l z yX10_gangIn cX10_gangIn 3 (some .int) 0 [.ref (z.2.1 51), .int v1, .int v2] M (some (.int r)) M := by
  refine Con.of (by decide) (Nat.le_of_ble_eq_true rfl) ?_
  intro x hl hc
  subst hl
  have hk : okc x z cX10_gangIn RX10 3 0 := hc.1
  show G x z 3 0 [(0, .ref (z.2.1 51)), (1, .int v1), (2, .int v2)] [] M
  unfold xX10_gangIn at h
  refine g_iload_n hk 1 dX10_gangIn_0 rfl ?_
  refine g_aload_n hk 0 dX10_gangIn_1 rfl ?_
  refine gfX10_252 hk dX10_gangIn_2 (M.1 51 12) rfl ?_
  refine g_iconst hk 1 dX10_gangIn_5 (by decide) ?_
  refine g_isub hk dX10_gangIn_6 ?_
  refine g_iload_n hk 2 dX10_gangIn_7 rfl ?_
  refine g_isub hk dX10_gangIn_8 ?_
  refine g_ishr hk dX10_gangIn_9 ?_
  refine g_iconst hk 1 dX10_gangIn_10 (by decide) ?_
  refine g_iand hk dX10_gangIn_11 ?_
  exact g_iret (val := fun q => q) (mem := fun _ => M) hc rfl dX10_gangIn_12 h ret1
set_option maxHeartbeats 4000000 in
set_option maxRecDepth 100000 in
theorem glX10_tries_21 {x : Cx} {z : Lay} {r : Mem} (hc : okm x z cX10_tries RX10 8 1 (none) (none) r)  : ∀ (n : Nat) (M : Mem) (v1 : Int32) (v2 : Int32) (v3 : Int32) (v4 : Int32), lX10_tries_21  n M v1 v2 v3 v4 = some r → G x z 8 21 [(0, .ref (z.2.1 51)), (1, .int v1), (2, .int v2), (3, .int v3), (4, .int v4)] [] M := by
  have hk := hc.1
  intro n
  induction n with
  | zero => intro _ _ _ _ _ h; rw [lX10_tries_21] at h; cases h
  | succ n ih =>
    intro M v1 v2 v3 v4 h
    rw [lX10_tries_21] at h
    refine g_iload hk 4 dX10_tries_21 rfl ?_
    refine g_aload_n hk 0 dX10_tries_23 rfl ?_
    refine gfX10_252 hk dX10_tries_24 (M.1 51 12) rfl ?_
    refine g_icmpge hk (tgt := 125) dX10_tries_27 (by decide) h (fun h => ?_) (fun h => ?_)
    · refine g_aload_n hk 0 dX10_tries_125 rfl ?_
      refine gfX10_255 hk dX10_tries_126 (M.1 51 55) rfl ?_
      refine g_iflt hk (tgt := 157) dX10_tries_129 (by decide) h (fun h => ?_) (fun h => ?_)
      · refine g_aload_n hk 0 dX10_tries_157 rfl ?_
        refine g_iload_n hk 1 dX10_tries_158 rfl ?_
        refine pfX10_255 hk dX10_tries_159 ?_
        refine g_aload_n hk 0 dX10_tries_162 rfl ?_
        refine g_iload_n hk 2 dX10_tries_163 rfl ?_
        refine pfX10_265 hk dX10_tries_164 ?_
        refine g_aload_n hk 0 dX10_tries_167 rfl ?_
        refine g_iload_n hk 3 dX10_tries_168 rfl ?_
        refine pfX10_268 hk dX10_tries_169 ?_
        exact g_vret (mem := fun q => q) hc rfl dX10_tries_172 h retv
      · refine g_iload_n hk 2 dX10_tries_132 rfl ?_
        refine g_aload_n hk 0 dX10_tries_133 rfl ?_
        refine gfX10_265 hk dX10_tries_134 (M.1 51 56) rfl ?_
        refine g_icmpgt hk (tgt := 156) dX10_tries_137 (by decide) h (fun h => ?_) (fun h => ?_)
        · exact g_vret (mem := fun q => q) hc rfl dX10_tries_156 h retv
        · refine g_iload_n hk 2 dX10_tries_140 rfl ?_
          refine g_aload_n hk 0 dX10_tries_141 rfl ?_
          refine gfX10_265 hk dX10_tries_142 (M.1 51 56) rfl ?_
          refine g_icmpne hk (tgt := 157) dX10_tries_145 (by decide) h (fun h => ?_) (fun h => ?_)
          · refine g_aload_n hk 0 dX10_tries_157 rfl ?_
            refine g_iload_n hk 1 dX10_tries_158 rfl ?_
            refine pfX10_255 hk dX10_tries_159 ?_
            refine g_aload_n hk 0 dX10_tries_162 rfl ?_
            refine g_iload_n hk 2 dX10_tries_163 rfl ?_
            refine pfX10_265 hk dX10_tries_164 ?_
            refine g_aload_n hk 0 dX10_tries_167 rfl ?_
            refine g_iload_n hk 3 dX10_tries_168 rfl ?_
            refine pfX10_268 hk dX10_tries_169 ?_
            exact g_vret (mem := fun q => q) hc rfl dX10_tries_172 h retv
          · refine g_iload_n hk 3 dX10_tries_148 rfl ?_
            refine g_aload_n hk 0 dX10_tries_149 rfl ?_
            refine gfX10_268 hk dX10_tries_150 (M.1 51 57) rfl ?_
            refine g_icmplt hk (tgt := 157) dX10_tries_153 (by decide) h (fun h => ?_) (fun h => ?_)
            · refine g_aload_n hk 0 dX10_tries_157 rfl ?_
              refine g_iload_n hk 1 dX10_tries_158 rfl ?_
              refine pfX10_255 hk dX10_tries_159 ?_
              refine g_aload_n hk 0 dX10_tries_162 rfl ?_
              refine g_iload_n hk 2 dX10_tries_163 rfl ?_
              refine pfX10_265 hk dX10_tries_164 ?_
              refine g_aload_n hk 0 dX10_tries_167 rfl ?_
              refine g_iload_n hk 3 dX10_tries_168 rfl ?_
              refine pfX10_268 hk dX10_tries_169 ?_
              exact g_vret (mem := fun q => q) hc rfl dX10_tries_172 h retv
            · exact g_vret (mem := fun q => q) hc rfl dX10_tries_156 h retv
    · refine g_aload_n hk 0 dX10_tries_30 rfl ?_
      refine gfX10_142 hk dX10_tries_31 ?_
      refine g_iload hk 4 dX10_tries_34 rfl ?_
      obtain ⟨hi1, h⟩ := ck_e h
      refine g_iald hk sh91 dX10_tries_36 hi1 (M.1 91 (ix v4)) rfl ?_
      refine g_istore hk [(5, .int (M.1 91 (ix v4))), (0, .ref (z.2.1 51)), (1, .int v1), (2, .int v2), (3, .int v3), (4, .int v4)] dX10_tries_37 (by decide) rfl ?_
      refine g_aload_n hk 1 dX10_tries_39 rfl ?_
      refine g_iload_n hk 2 dX10_tries_40 rfl ?_
      refine g_iload hk 0 dX10_tries_41 rfl ?_
      obtain ⟨r1, hr1, h⟩ := bnd h
      refine g_callVi hk [.int v1, .int (M.1 91 (ix v4))] _ sh51 rfl mtX10_gangIn mlX10_262 (by decide) (by decide) rfl rfl (Nat.le_of_ble_eq_true rfl) dX10_tries_43 (kX10_gangIn _ z M v1 (M.1 91 (ix v4)) r1 hr1) ?_
      refine g_istore hk [(6, .int r1), (5, .int (M.1 91 (ix v4))), (0, .ref (z.2.1 51)), (1, .int v1), (2, .int v2), (3, .int v3), (4, .int v4)] dX10_tries_46 (by decide) rfl ?_
      refine g_aload_n hk 2 dX10_tries_48 rfl ?_
      refine gfX10_126 hk dX10_tries_49 ?_
      refine g_iload hk 1 dX10_tries_52 rfl ?_
      obtain ⟨hi2, h⟩ := ck_e h
      refine g_iald hk sh86 dX10_tries_54 hi2 (M.1 86 (ix (M.1 91 (ix v4)))) rfl ?_
      refine g_aload_n hk 2 dX10_tries_55 rfl ?_
      refine gfX10_129 hk dX10_tries_56 ?_
      refine g_iload hk 0 dX10_tries_59 rfl ?_
      obtain ⟨hi3, h⟩ := ck_e h
      refine g_iald hk sh87 dX10_tries_61 hi3 (M.1 87 (ix r1)) rfl ?_
      refine g_iconst hk (-1) dX10_tries_62 (by decide) ?_
      refine g_ixor hk dX10_tries_63 ?_
      refine g_iand hk dX10_tries_64 ?_
      refine g_ifeq hk (tgt := 69) dX10_tries_65 (by decide) h (fun h => ?_) (fun h => ?_)
      · refine g_aload_n hk 2 dX10_tries_69 rfl ?_
        refine gfX10_145 hk dX10_tries_70 ?_
        refine g_iload hk 0 dX10_tries_73 rfl ?_
        refine g_dup2 hk dX10_tries_75 rfl rfl ?_
        refine g_iald hk sh92 dX10_tries_76 hi3 (M.1 92 (ix r1)) rfl ?_
        refine g_aload_n hk 2 dX10_tries_77 rfl ?_
        refine gfX10_120 hk dX10_tries_78 ?_
        refine g_iload hk 1 dX10_tries_81 rfl ?_
        refine g_iald hk sh84 dX10_tries_83 hi2 (M.1 84 (ix (M.1 91 (ix v4)))) rfl ?_
        refine g_iadd hk dX10_tries_84 ?_
        refine g_iast hk sh92 dX10_tries_85 hi3 ?_
        refine g_iconst hk 0 dX10_tries_86 (by decide) ?_
        refine g_aload_n hk 2 dX10_tries_87 rfl ?_
        refine gfX10_145 hk dX10_tries_88 ?_
        refine g_iload hk 0 dX10_tries_91 rfl ?_
        refine g_iald hk sh92 dX10_tries_93 hi3 ((upI M 92 (ix r1) ((M.1 92 (ix r1)) + (M.1 84 (ix (M.1 91 (ix v4)))))).1 92 (ix r1)) rfl ?_
        refine g_aload_n hk 2 dX10_tries_94 rfl ?_
        refine gfX10_123 hk dX10_tries_95 ?_
        refine g_iload hk 1 dX10_tries_98 rfl ?_
        refine g_iald hk sh85 dX10_tries_100 hi2 (M.1 85 (ix (M.1 91 (ix v4)))) rfl ?_
        refine g_isub hk dX10_tries_101 ?_
        refine g_mmax hk mlX10_167 st_max inMath cd_max (by decide) (Nat.le_of_ble_eq_true rfl) dX10_tries_102 ?_
        refine g_istore hk [(7, .int (mxI 0 (((upI M 92 (ix r1) ((M.1 92 (ix r1)) + (M.1 84 (ix (M.1 91 (ix v4)))))).1 92 (ix r1)) - (M.1 85 (ix (M.1 91 (ix v4))))))), (6, .int r1), (5, .int (M.1 91 (ix v4))), (0, .ref (z.2.1 51)), (1, .int v1), (2, .int v2), (3, .int v3), (4, .int v4)] dX10_tries_105 (by decide) rfl ?_
        refine g_iload_n hk 5 dX10_tries_107 rfl ?_
        refine g_iload hk 0 dX10_tries_108 rfl ?_
        refine g_mmax hk mlX10_167 st_max inMath cd_max (by decide) (Nat.le_of_ble_eq_true rfl) dX10_tries_110 ?_
        refine g_istore_n hk [(2, .int (mxI v2 (mxI 0 (((upI M 92 (ix r1) ((M.1 92 (ix r1)) + (M.1 84 (ix (M.1 91 (ix v4)))))).1 92 (ix r1)) - (M.1 85 (ix (M.1 91 (ix v4)))))))), (7, .int (mxI 0 (((upI M 92 (ix r1) ((M.1 92 (ix r1)) + (M.1 84 (ix (M.1 91 (ix v4)))))).1 92 (ix r1)) - (M.1 85 (ix (M.1 91 (ix v4))))))), (6, .int r1), (5, .int (M.1 91 (ix v4))), (0, .ref (z.2.1 51)), (1, .int v1), (3, .int v3), (4, .int v4)] dX10_tries_113 rfl (by decide) rfl ?_
        refine g_iload_n hk 6 dX10_tries_114 rfl ?_
        refine g_iload hk 1 dX10_tries_115 rfl ?_
        refine g_iadd hk dX10_tries_117 ?_
        refine g_istore_n hk [(3, .int (v3 + (mxI 0 (((upI M 92 (ix r1) ((M.1 92 (ix r1)) + (M.1 84 (ix (M.1 91 (ix v4)))))).1 92 (ix r1)) - (M.1 85 (ix (M.1 91 (ix v4)))))))), (2, .int (mxI v2 (mxI 0 (((upI M 92 (ix r1) ((M.1 92 (ix r1)) + (M.1 84 (ix (M.1 91 (ix v4)))))).1 92 (ix r1)) - (M.1 85 (ix (M.1 91 (ix v4)))))))), (7, .int (mxI 0 (((upI M 92 (ix r1) ((M.1 92 (ix r1)) + (M.1 84 (ix (M.1 91 (ix v4)))))).1 92 (ix r1)) - (M.1 85 (ix (M.1 91 (ix v4))))))), (6, .int r1), (5, .int (M.1 91 (ix v4))), (0, .ref (z.2.1 51)), (1, .int v1), (4, .int v4)] dX10_tries_118 rfl (by decide) rfl ?_
        refine g_iinc (k := 7) hk [(4, .int (v4 + 1)), (3, .int (v3 + (mxI 0 (((upI M 92 (ix r1) ((M.1 92 (ix r1)) + (M.1 84 (ix (M.1 91 (ix v4)))))).1 92 (ix r1)) - (M.1 85 (ix (M.1 91 (ix v4)))))))), (2, .int (mxI v2 (mxI 0 (((upI M 92 (ix r1) ((M.1 92 (ix r1)) + (M.1 84 (ix (M.1 91 (ix v4)))))).1 92 (ix r1)) - (M.1 85 (ix (M.1 91 (ix v4)))))))), (7, .int (mxI 0 (((upI M 92 (ix r1) ((M.1 92 (ix r1)) + (M.1 84 (ix (M.1 91 (ix v4)))))).1 92 (ix r1)) - (M.1 85 (ix (M.1 91 (ix v4))))))), (6, .int r1), (5, .int (M.1 91 (ix v4))), (0, .ref (z.2.1 51)), (1, .int v1)] dX10_tries_119 rfl rfl (by decide) rfl ?_
        refine g_goto hk (tgt := 21) dX10_tries_122 (by decide) ?_
        exact g_weak [6, 7, 2, 1, 0] [(0, .ref (z.2.1 51)), (1, .int v1), (2, .int (mxI v2 (mxI 0 (((upI M 92 (ix r1) ((M.1 92 (ix r1)) + (M.1 84 (ix (M.1 91 (ix v4)))))).1 92 (ix r1)) - (M.1 85 (ix (M.1 91 (ix v4)))))))), (3, .int (v3 + (mxI 0 (((upI M 92 (ix r1) ((M.1 92 (ix r1)) + (M.1 84 (ix (M.1 91 (ix v4)))))).1 92 (ix r1)) - (M.1 85 (ix (M.1 91 (ix v4)))))))), (4, .int (v4 + 1))] rfl (ih (upI M 92 (ix r1) ((M.1 92 (ix r1)) + (M.1 84 (ix (M.1 91 (ix v4)))))) v1 (mxI v2 (mxI 0 (((upI M 92 (ix r1) ((M.1 92 (ix r1)) + (M.1 84 (ix (M.1 91 (ix v4)))))).1 92 (ix r1)) - (M.1 85 (ix (M.1 91 (ix v4))))))) (v3 + (mxI 0 (((upI M 92 (ix r1) ((M.1 92 (ix r1)) + (M.1 84 (ix (M.1 91 (ix v4)))))).1 92 (ix r1)) - (M.1 85 (ix (M.1 91 (ix v4))))))) (v4 + 1) h)
      · exact g_vret (mem := fun q => q) hc rfl dX10_tries_68 h retv
set_option maxHeartbeats 4000000 in
set_option maxRecDepth 100000 in
theorem kX10_tries (l : Launch) (z : Lay) (M : Mem) (v1 : Int32) (r : Mem) (h : xX10_tries M v1 = some r) : Con l z yX10_tries cX10_tries 8 (none) 1 [.ref (z.2.1 51), .int v1] M (none) r := by
  refine Con.of (by decide) (Nat.le_of_ble_eq_true rfl) ?_
  intro x hl hc
  subst hl
  have hk : okc x z cX10_tries RX10 8 1 := hc.1
  show G x z 8 0 [(0, .ref (z.2.1 51)), (1, .int v1)] [] M
  unfold xX10_tries at h
  refine g_aload_n hk 0 dX10_tries_0 rfl ?_
  refine gfX10_145 hk dX10_tries_1 ?_
  refine g_iconst hk 0 dX10_tries_4 (by decide) ?_
  refine g_iconst hk 0 dX10_tries_5 (by decide) ?_
  refine g_iast hk sh92 dX10_tries_6 (by decide) ?_
  show G x z 8 7 [(0, .ref (z.2.1 51)), (1, .int v1)] [] (upI M 92 0 0)
  refine g_aload_n hk 0 dX10_tries_7 rfl ?_
  refine gfX10_145 hk dX10_tries_8 ?_
  refine g_iconst hk 1 dX10_tries_11 (by decide) ?_
  refine g_iconst hk 0 dX10_tries_12 (by decide) ?_
  refine g_iast hk sh92 dX10_tries_13 (by decide) ?_
  show G x z 8 14 [(0, .ref (z.2.1 51)), (1, .int v1)] [] (upI (upI M 92 0 0) 92 1 0)
  refine g_iconst hk 0 dX10_tries_14 (by decide) ?_
  refine g_istore_n hk [(2, .int 0), (0, .ref (z.2.1 51)), (1, .int v1)] dX10_tries_15 rfl (by decide) rfl ?_
  refine g_iconst hk 0 dX10_tries_16 (by decide) ?_
  refine g_istore_n hk [(3, .int 0), (2, .int 0), (0, .ref (z.2.1 51)), (1, .int v1)] dX10_tries_17 rfl (by decide) rfl ?_
  refine g_iconst hk 0 dX10_tries_18 (by decide) ?_
  refine g_istore hk [(4, .int 0), (3, .int 0), (2, .int 0), (0, .ref (z.2.1 51)), (1, .int v1)] dX10_tries_19 (by decide) rfl ?_
  exact g_weak [3, 4, 2, 1, 0] [(0, .ref (z.2.1 51)), (1, .int v1), (2, .int 0), (3, .int 0), (4, .int 0)] rfl (glX10_tries_21 hc  fu (upI (upI M 92 0 0) 92 1 0) v1 0 0 0 h)
set_option maxHeartbeats 4000000 in
set_option maxRecDepth 100000 in
theorem glX10_plans_12 {x : Cx} {z : Lay} {r : Mem} (hc : okm x z cX10_plans RX10 3 2 (none) (none) r) (f2 : Mem → Int32 → Option (Mem)) (hf2 : ∀ (M : Mem) (v1 : Int32), f2 M v1 = some r → G x z 3 2 [(0, .ref (z.2.1 51)), (1, .int v1)] [] M) : ∀ (n : Nat) (M : Mem) (v1 : Int32) (v2 : Int32), lX10_plans_12 f2 n M v1 v2 = some r → G x z 3 12 [(0, .ref (z.2.1 51)), (1, .int v1), (2, .int v2)] [] M := by
  have hk := hc.1
  intro n
  induction n with
  | zero => intro _ _ _ h; rw [lX10_plans_12] at h; cases h
  | succ n ih =>
    intro M v1 v2 h
    rw [lX10_plans_12] at h
    refine g_iload_n hk 2 dX10_plans_12 rfl ?_
    refine g_ifle hk (tgt := 58) dX10_plans_13 (by decide) h (fun h => ?_) (fun h => ?_)
    · refine g_aload_n hk 0 dX10_plans_58 rfl ?_
      refine gfX10_142 hk dX10_plans_59 ?_
      refine g_iload_n hk 2 dX10_plans_62 rfl ?_
      refine g_iload_n hk 1 dX10_plans_63 rfl ?_
      obtain ⟨hi1, h⟩ := ck_e h
      refine g_iast hk sh91 dX10_plans_64 hi1 ?_
      refine g_iinc (k := 1) hk [(1, .int (v1 + 1)), (0, .ref (z.2.1 51)), (2, .int v2)] dX10_plans_65 rfl rfl (by decide) rfl ?_
      refine g_goto hk (tgt := 2) dX10_plans_68 (by decide) ?_
      exact g_weak [1, 0] [(0, .ref (z.2.1 51)), (1, .int (v1 + 1))] rfl (hf2 (upI M 91 (ix v2) v1) (v1 + 1) h)
    · refine g_aload_n hk 0 dX10_plans_16 rfl ?_
      refine gfX10_123 hk dX10_plans_17 ?_
      refine g_aload_n hk 0 dX10_plans_20 rfl ?_
      refine gfX10_142 hk dX10_plans_21 ?_
      refine g_iload_n hk 2 dX10_plans_24 rfl ?_
      refine g_iconst hk 1 dX10_plans_25 (by decide) ?_
      refine g_isub hk dX10_plans_26 ?_
      obtain ⟨hi2, h⟩ := ck_e h
      refine g_iald hk sh91 dX10_plans_27 hi2 (M.1 91 (ix (v2 - 1))) rfl ?_
      obtain ⟨hi3, h⟩ := ck_e h
      refine g_iald hk sh85 dX10_plans_28 hi3 (M.1 85 (ix (M.1 91 (ix (v2 - 1))))) rfl ?_
      refine g_aload_n hk 0 dX10_plans_29 rfl ?_
      refine gfX10_123 hk dX10_plans_30 ?_
      refine g_iload_n hk 1 dX10_plans_33 rfl ?_
      obtain ⟨hi4, h⟩ := ck_e h
      refine g_iald hk sh85 dX10_plans_34 hi4 (M.1 85 (ix v1)) rfl ?_
      refine g_icmple hk (tgt := 58) dX10_plans_35 (by decide) h (fun h => ?_) (fun h => ?_)
      · refine g_aload_n hk 0 dX10_plans_58 rfl ?_
        refine gfX10_142 hk dX10_plans_59 ?_
        refine g_iload_n hk 2 dX10_plans_62 rfl ?_
        refine g_iload_n hk 1 dX10_plans_63 rfl ?_
        obtain ⟨hi5, h⟩ := ck_e h
        refine g_iast hk sh91 dX10_plans_64 hi5 ?_
        refine g_iinc (k := 1) hk [(1, .int (v1 + 1)), (0, .ref (z.2.1 51)), (2, .int v2)] dX10_plans_65 rfl rfl (by decide) rfl ?_
        refine g_goto hk (tgt := 2) dX10_plans_68 (by decide) ?_
        exact g_weak [1, 0] [(0, .ref (z.2.1 51)), (1, .int (v1 + 1))] rfl (hf2 (upI M 91 (ix v2) v1) (v1 + 1) h)
      · refine g_aload_n hk 0 dX10_plans_38 rfl ?_
        refine gfX10_142 hk dX10_plans_39 ?_
        refine g_iload_n hk 2 dX10_plans_42 rfl ?_
        refine g_aload_n hk 0 dX10_plans_43 rfl ?_
        refine gfX10_142 hk dX10_plans_44 ?_
        refine g_iload_n hk 2 dX10_plans_47 rfl ?_
        refine g_iconst hk 1 dX10_plans_48 (by decide) ?_
        refine g_isub hk dX10_plans_49 ?_
        refine g_iald hk sh91 dX10_plans_50 hi2 (M.1 91 (ix (v2 - 1))) rfl ?_
        obtain ⟨hi6, h⟩ := ck_e h
        refine g_iast hk sh91 dX10_plans_51 hi6 ?_
        refine g_iinc (k := 2) hk [(2, .int (v2 + (-1))), (0, .ref (z.2.1 51)), (1, .int v1)] dX10_plans_52 rfl rfl (by decide) rfl ?_
        refine g_goto hk (tgt := 12) dX10_plans_55 (by decide) ?_
        exact g_weak [1, 2, 0] [(0, .ref (z.2.1 51)), (1, .int v1), (2, .int (v2 + (-1)))] rfl (ih (upI M 91 (ix v2) (M.1 91 (ix (v2 - 1)))) v1 (v2 + (-1)) h)
set_option maxHeartbeats 4000000 in
set_option maxRecDepth 100000 in
theorem glX10_plans_78 {x : Cx} {z : Lay} {r : Mem} (hc : okm x z cX10_plans RX10 3 2 (none) (none) r)  : ∀ (n : Nat) (M : Mem) (v1 : Int32), lX10_plans_78  n M v1 = some r → G x z 3 78 [(0, .ref (z.2.1 51)), (1, .int v1)] [] M := by
  have hk := hc.1
  intro n
  induction n with
  | zero => intro _ _ h; rw [lX10_plans_78] at h; cases h
  | succ n ih =>
    intro M v1 h
    rw [lX10_plans_78] at h
    refine g_iload_n hk 1 dX10_plans_78 rfl ?_
    refine g_iconst hk 1 dX10_plans_79 (by decide) ?_
    refine g_aload_n hk 0 dX10_plans_80 rfl ?_
    refine gfX10_252 hk dX10_plans_81 (M.1 51 12) rfl ?_
    refine g_ishl hk dX10_plans_84 ?_
    refine g_icmpge hk (tgt := 99) dX10_plans_85 (by decide) h (fun h => ?_) (fun h => ?_)
    · exact g_vret (mem := fun q => q) hc rfl dX10_plans_99 h retv
    · refine g_aload_n hk 0 dX10_plans_88 rfl ?_
      refine g_iload_n hk 1 dX10_plans_89 rfl ?_
      obtain ⟨r1, hr1, h⟩ := bnd h
      refine g_callVv hk [.int v1] _ sh51 rfl mtX10_tries mlX10_258 (by decide) (by decide) rfl rfl (Nat.le_of_ble_eq_true rfl) dX10_plans_90 (kX10_tries _ z M v1 r1 hr1) ?_
      refine g_iinc (k := 1) hk [(1, .int (v1 + 1)), (0, .ref (z.2.1 51))] dX10_plans_93 rfl rfl (by decide) rfl ?_
      refine g_goto hk (tgt := 78) dX10_plans_96 (by decide) ?_
      exact g_weak [1, 0] [(0, .ref (z.2.1 51)), (1, .int (v1 + 1))] rfl (ih r1 (v1 + 1) h)
set_option maxHeartbeats 4000000 in
set_option maxRecDepth 100000 in
theorem glX10_plans_2 {x : Cx} {z : Lay} {r : Mem} (hc : okm x z cX10_plans RX10 3 2 (none) (none) r)  : ∀ (n : Nat) (M : Mem) (v1 : Int32), lX10_plans_2  n M v1 = some r → G x z 3 2 [(0, .ref (z.2.1 51)), (1, .int v1)] [] M := by
  have hk := hc.1
  intro n
  induction n with
  | zero => intro _ _ h; rw [lX10_plans_2] at h; cases h
  | succ n ih =>
    intro M v1 h
    rw [lX10_plans_2] at h
    refine g_iload_n hk 1 dX10_plans_2 rfl ?_
    refine g_aload_n hk 0 dX10_plans_3 rfl ?_
    refine gfX10_252 hk dX10_plans_4 (M.1 51 12) rfl ?_
    refine g_icmpge hk (tgt := 71) dX10_plans_7 (by decide) h (fun h => ?_) (fun h => ?_)
    · refine g_aload_n hk 0 dX10_plans_71 rfl ?_
      refine g_iconst hk (-1) dX10_plans_72 (by decide) ?_
      refine pfX10_255 hk dX10_plans_73 ?_
      refine g_iconst hk 0 dX10_plans_76 (by decide) ?_
      refine g_istore_n hk [(1, .int 0), (0, .ref (z.2.1 51))] dX10_plans_77 rfl (by decide) rfl ?_
      exact g_weak [1, 0] [(0, .ref (z.2.1 51)), (1, .int 0)] rfl (glX10_plans_78 hc  fu (upI M 51 55 (-1)) 0 h)
    · refine g_iload_n hk 1 dX10_plans_10 rfl ?_
      refine g_istore_n hk [(2, .int v1), (0, .ref (z.2.1 51)), (1, .int v1)] dX10_plans_11 rfl (by decide) rfl ?_
      exact g_weak [1, 2, 0] [(0, .ref (z.2.1 51)), (1, .int v1), (2, .int v1)] rfl (glX10_plans_12 hc (lX10_plans_2  n) ih fu M v1 v1 h)
set_option maxHeartbeats 4000000 in
set_option maxRecDepth 100000 in
theorem kX10_plans (l : Launch) (z : Lay) (M : Mem)  (r : Mem) (h : xX10_plans M = some r) : Con l z yX10_plans cX10_plans 3 (none) 2 [.ref (z.2.1 51)] M (none) r := by
  refine Con.of (by decide) (Nat.le_of_ble_eq_true rfl) ?_
  intro x hl hc
  subst hl
  have hk : okc x z cX10_plans RX10 3 2 := hc.1
  show G x z 3 0 [(0, .ref (z.2.1 51))] [] M
  unfold xX10_plans at h
  refine g_iconst hk 0 dX10_plans_0 (by decide) ?_
  refine g_istore_n hk [(1, .int 0), (0, .ref (z.2.1 51))] dX10_plans_1 rfl (by decide) rfl ?_
  exact g_weak [1, 0] [(0, .ref (z.2.1 51)), (1, .int 0)] rfl (glX10_plans_2 hc  fu M 0 h)
set_option maxHeartbeats 4000000 in
set_option maxRecDepth 100000 in
theorem kX10_plan (l : Launch) (z : Lay) (M : Mem) (v1 : Int32) (r : Int32 × Mem) (h : xX10_plan M v1 = some r) : Con l z yX10_plan cX10_plan 2 (some .int) 3 [.ref (z.2.1 51), .int v1] M (some (.int r.1)) r.2 := by
  refine Con.of (by decide) (Nat.le_of_ble_eq_true rfl) ?_
  intro x hl hc
  subst hl
  have hk : okc x z cX10_plan RX10 2 3 := hc.1
  show G x z 2 0 [(0, .ref (z.2.1 51)), (1, .int v1)] [] M
  unfold xX10_plan at h
  refine g_iload_n hk 1 dX10_plan_0 rfl ?_
  refine g_iconst hk 2 dX10_plan_1 (by decide) ?_
  obtain ⟨r1, hr1, h⟩ := bnd h
  refine g_callSi hk [.int v1, .int 2] _ mtX10_isIn mlX10_153 (by decide) (by decide) rfl rfl (Nat.le_of_ble_eq_true rfl) dX10_plan_2 (kX10_isIn _ z M v1 2 r1 hr1) ?_
  refine g_ifne hk (tgt := 15) dX10_plan_5 (by decide) h (fun h => ?_) (fun h => ?_)
  · refine g_aload_n hk 0 dX10_plan_15 rfl ?_
    obtain ⟨r2, hr2, h⟩ := bnd h
    refine g_callVv hk [] _ sh51 rfl mtX10_plans mlX10_271 (by decide) (by decide) rfl rfl (Nat.le_of_ble_eq_true rfl) dX10_plan_16 (kX10_plans _ z M  r2 hr2) ?_
    refine g_aload_n hk 0 dX10_plan_19 rfl ?_
    refine gfX10_255 hk dX10_plan_20 (r2.1 51 55) rfl ?_
    refine g_ifge hk (tgt := 31) dX10_plan_23 (by decide) h (fun h => ?_) (fun h => ?_)
    · refine g_iload_n hk 1 dX10_plan_31 rfl ?_
      refine g_ifne hk (tgt := 42) dX10_plan_32 (by decide) h (fun h => ?_) (fun h => ?_)
      · refine g_aload_n hk 0 dX10_plan_42 rfl ?_
        refine gfX10_268 hk dX10_plan_43 (r2.1 51 57) rfl ?_
        exact g_iret (val := fun q => q.1) (mem := fun q => q.2) hc rfl dX10_plan_46 h ret2
      · refine g_aload_n hk 0 dX10_plan_35 rfl ?_
        refine gfX10_265 hk dX10_plan_36 (r2.1 51 56) rfl ?_
        refine g_goto hk (tgt := 46) dX10_plan_39 (by decide) ?_
        exact g_iret (val := fun q => q.1) (mem := fun q => q.2) hc rfl dX10_plan_46 h ret2
    · refine g_bipush hk (-9) dX10_plan_26 (by decide) ?_
      refine g_goto hk (tgt := 46) dX10_plan_28 (by decide) ?_
      exact g_iret (val := fun q => q.1) (mem := fun q => q.2) hc rfl dX10_plan_46 h ret2
  · refine g_aload_n hk 0 dX10_plan_8 rfl ?_
    refine g_bipush hk (-2) dX10_plan_9 (by decide) ?_
    obtain ⟨r3, hr3, h⟩ := bnd h
    refine g_callVi hk [.int (-2)] _ sh51 rfl mtX10_refuse mlX10_149 (by decide) (by decide) rfl rfl (Nat.le_of_ble_eq_true rfl) dX10_plan_11 (kX10_refuse _ z M (-2) r3 hr3) ?_
    exact g_iret (val := fun q => q.1) (mem := fun q => q.2) hc rfl dX10_plan_14 h ret2
set_option maxHeartbeats 4000000 in
set_option maxRecDepth 100000 in
theorem kX10_gangOf (l : Launch) (z : Lay) (M : Mem) (v1 : Int32) (r : Int32 × Mem) (h : xX10_gangOf M v1 = some r) : Con l z yX10_gangOf cX10_gangOf 2 (some .int) 3 [.ref (z.2.1 51), .int v1] M (some (.int r.1)) r.2 := by
  refine Con.of (by decide) (Nat.le_of_ble_eq_true rfl) ?_
  intro x hl hc
  subst hl
  have hk : okc x z cX10_gangOf RX10 2 3 := hc.1
  show G x z 2 0 [(0, .ref (z.2.1 51)), (1, .int v1)] [] M
  unfold xX10_gangOf at h
  refine g_iload_n hk 1 dX10_gangOf_0 rfl ?_
  refine g_aload_n hk 0 dX10_gangOf_1 rfl ?_
  refine gfX10_252 hk dX10_gangOf_2 (M.1 51 12) rfl ?_
  obtain ⟨r1, hr1, h⟩ := bnd h
  refine g_callSi hk [.int v1, .int (M.1 51 12)] _ mtX10_isIn mlX10_153 (by decide) (by decide) rfl rfl (Nat.le_of_ble_eq_true rfl) dX10_gangOf_5 (kX10_isIn _ z M v1 (M.1 51 12) r1 hr1) ?_
  refine g_ifne hk (tgt := 17) dX10_gangOf_8 (by decide) h (fun h => ?_) (fun h => ?_)
  · refine g_aload_n hk 0 dX10_gangOf_17 rfl ?_
    obtain ⟨r2, hr2, h⟩ := bnd h
    refine g_callVv hk [] _ sh51 rfl mtX10_plans mlX10_271 (by decide) (by decide) rfl rfl (Nat.le_of_ble_eq_true rfl) dX10_gangOf_18 (kX10_plans _ z M  r2 hr2) ?_
    refine g_aload_n hk 0 dX10_gangOf_21 rfl ?_
    refine gfX10_255 hk dX10_gangOf_22 (r2.1 51 55) rfl ?_
    refine g_ifge hk (tgt := 33) dX10_gangOf_25 (by decide) h (fun h => ?_) (fun h => ?_)
    · refine g_aload_n hk 0 dX10_gangOf_33 rfl ?_
      refine g_aload_n hk 0 dX10_gangOf_34 rfl ?_
      refine gfX10_255 hk dX10_gangOf_35 (r2.1 51 55) rfl ?_
      refine g_iload_n hk 1 dX10_gangOf_38 rfl ?_
      obtain ⟨r3, hr3, h⟩ := bnd h
      refine g_callVi hk [.int (r2.1 51 55), .int v1] _ sh51 rfl mtX10_gangIn mlX10_262 (by decide) (by decide) rfl rfl (Nat.le_of_ble_eq_true rfl) dX10_gangOf_39 (kX10_gangIn _ z r2 (r2.1 51 55) v1 r3 hr3) ?_
      exact g_iret (val := fun q => q.1) (mem := fun q => q.2) hc rfl dX10_gangOf_42 h ret2
    · refine g_bipush hk (-9) dX10_gangOf_28 (by decide) ?_
      refine g_goto hk (tgt := 42) dX10_gangOf_30 (by decide) ?_
      exact g_iret (val := fun q => q.1) (mem := fun q => q.2) hc rfl dX10_gangOf_42 h ret2
  · refine g_aload_n hk 0 dX10_gangOf_11 rfl ?_
    refine g_iconst hk (-1) dX10_gangOf_12 (by decide) ?_
    obtain ⟨r4, hr4, h⟩ := bnd h
    refine g_callVi hk [.int (-1)] _ sh51 rfl mtX10_refuse mlX10_149 (by decide) (by decide) rfl rfl (Nat.le_of_ble_eq_true rfl) dX10_gangOf_13 (kX10_refuse _ z M (-1) r4 hr4) ?_
    exact g_iret (val := fun q => q.1) (mem := fun q => q.2) hc rfl dX10_gangOf_16 h ret2
set_option maxHeartbeats 4000000 in
set_option maxRecDepth 100000 in
theorem gjX10_rail_81 {x : Cx} {z : Lay} {r : Int32 × Mem} (hc : okm x z cX10_rail RX10 6 2 (some .int) (some (.int r.1)) r.2)  (M : Mem) (v1 : Int32) (v2 : Int32) (v3 : Int32) (s0 : Int32) (h : jX10_rail_81  M v1 v2 v3 s0 = some r) : G x z 6 81 [(0, .ref (z.2.1 51)), (1, .int v1), (2, .int v2), (3, .int v3)] [.int s0] M := by
  have hk := hc.1
  unfold jX10_rail_81 at h
  refine g_istore hk [(5, .int s0), (0, .ref (z.2.1 51)), (1, .int v1), (2, .int v2), (3, .int v3)] dX10_rail_81 (by decide) rfl ?_
  refine g_iload_n hk 3 dX10_rail_83 rfl ?_
  refine g_ifne hk (tgt := 97) dX10_rail_84 (by decide) h (fun h => ?_) (fun h => ?_)
  · refine g_aload_n hk 1 dX10_rail_97 rfl ?_
    refine gfX10_102 hk dX10_rail_98 ?_
    refine g_iload_n hk 2 dX10_rail_101 rfl ?_
    refine g_iload_n hk 4 dX10_rail_102 rfl ?_
    obtain ⟨hi1, h⟩ := ck_e h
    refine g_iast hk sh78 dX10_rail_103 hi1 ?_
    refine g_iload hk 0 dX10_rail_104 rfl ?_
    exact g_iret (val := fun q => q.1) (mem := fun q => q.2) hc rfl dX10_rail_106 h ret2
  · refine g_aload_n hk 1 dX10_rail_87 rfl ?_
    refine gfX10_99 hk dX10_rail_88 ?_
    refine g_iload_n hk 2 dX10_rail_91 rfl ?_
    refine g_iload_n hk 4 dX10_rail_92 rfl ?_
    obtain ⟨hi2, h⟩ := ck_e h
    refine g_iast hk sh77 dX10_rail_93 hi2 ?_
    refine g_goto hk (tgt := 104) dX10_rail_94 (by decide) ?_
    refine g_iload hk 0 dX10_rail_104 rfl ?_
    exact g_iret (val := fun q => q.1) (mem := fun q => q.2) hc rfl dX10_rail_106 h ret2
set_option maxHeartbeats 4000000 in
set_option maxRecDepth 100000 in
theorem gjX10_rail_48 {x : Cx} {z : Lay} {r : Int32 × Mem} (hc : okm x z cX10_rail RX10 6 2 (some .int) (some (.int r.1)) r.2)  (M : Mem) (v1 : Int32) (v2 : Int32) (v3 : Int32) (s0 : Int32) (h : jX10_rail_48  M v1 v2 v3 s0 = some r) : G x z 6 48 [(0, .ref (z.2.1 51)), (1, .int v1), (2, .int v2), (3, .int v3)] [.int s0] M := by
  have hk := hc.1
  unfold jX10_rail_48 at h
  refine g_istore hk [(4, .int s0), (0, .ref (z.2.1 51)), (1, .int v1), (2, .int v2), (3, .int v3)] dX10_rail_48 (by decide) rfl ?_
  refine g_iload hk 0 dX10_rail_50 rfl ?_
  refine g_ifeq hk (tgt := 62) dX10_rail_52 (by decide) h (fun h => ?_) (fun h => ?_)
  · refine g_iload_n hk 3 dX10_rail_62 rfl ?_
    refine g_ifne hk (tgt := 75) dX10_rail_63 (by decide) h (fun h => ?_) (fun h => ?_)
    · refine g_aload_n hk 1 dX10_rail_75 rfl ?_
      refine gfX10_102 hk dX10_rail_76 ?_
      refine g_iload_n hk 2 dX10_rail_79 rfl ?_
      obtain ⟨hi1, h⟩ := ck_e h
      refine g_iald hk sh78 dX10_rail_80 hi1 (M.1 78 (ix v1)) rfl ?_
      exact g_weak [1, 2, 3, 4] [(0, .ref (z.2.1 51)), (1, .int v1), (2, .int v2), (3, .int v3)] rfl (gjX10_rail_81 hc  M v1 v2 v3 (M.1 78 (ix v1)) h)
    · refine g_aload_n hk 1 dX10_rail_66 rfl ?_
      refine gfX10_99 hk dX10_rail_67 ?_
      refine g_iload_n hk 2 dX10_rail_70 rfl ?_
      obtain ⟨hi2, h⟩ := ck_e h
      refine g_iald hk sh77 dX10_rail_71 hi2 (M.1 77 (ix v1)) rfl ?_
      refine g_goto hk (tgt := 81) dX10_rail_72 (by decide) ?_
      exact g_weak [1, 2, 3, 4] [(0, .ref (z.2.1 51)), (1, .int v1), (2, .int v2), (3, .int v3)] rfl (gjX10_rail_81 hc  M v1 v2 v3 (M.1 77 (ix v1)) h)
  · refine g_aload_n hk 1 dX10_rail_55 rfl ?_
    refine g_iload hk 0 dX10_rail_56 rfl ?_
    obtain ⟨r1, hr1, h⟩ := bnd h
    refine g_callVi hk [.int s0] _ sh51 rfl mtX10_refuseFar mlX10_164 (by decide) (by decide) rfl rfl (Nat.le_of_ble_eq_true rfl) dX10_rail_58 (kX10_refuseFar _ z M s0 r1 hr1) ?_
    exact g_iret (val := fun q => q.1) (mem := fun q => q.2) hc rfl dX10_rail_61 h ret2
set_option maxHeartbeats 4000000 in
set_option maxRecDepth 100000 in
theorem gjX10_rail_45 {x : Cx} {z : Lay} {r : Int32 × Mem} (hc : okm x z cX10_rail RX10 6 2 (some .int) (some (.int r.1)) r.2)  (M : Mem) (v1 : Int32) (v2 : Int32) (v3 : Int32) (s0 : Int32) (s1 : Int32) (s2 : Int32) (h : jX10_rail_45  M v1 v2 v3 s0 s1 s2 = some r) : G x z 6 45 [(0, .ref (z.2.1 51)), (1, .int v1), (2, .int v2), (3, .int v3)] [.int s2, .int s1, .int s0] M := by
  have hk := hc.1
  unfold jX10_rail_45 at h
  obtain ⟨r1, hr1, h⟩ := bnd h
  refine g_callSi hk [.int s0, .int s1, .int s2] _ mtX10_wrong mlX10_160 (by decide) (by decide) rfl rfl (Nat.le_of_ble_eq_true rfl) dX10_rail_45 (kX10_wrong _ z M s0 s1 s2 r1 hr1) ?_
  exact g_weak [0, 1, 2, 3] [(0, .ref (z.2.1 51)), (1, .int v1), (2, .int v2), (3, .int v3)] rfl (gjX10_rail_48 hc  M v1 v2 v3 r1 h)
set_option maxHeartbeats 4000000 in
set_option maxRecDepth 100000 in
theorem gjX10_rail_35 {x : Cx} {z : Lay} {r : Int32 × Mem} (hc : okm x z cX10_rail RX10 6 2 (some .int) (some (.int r.1)) r.2)  (M : Mem) (v1 : Int32) (v2 : Int32) (v3 : Int32) (s0 : Int32) (s1 : Int32) (h : jX10_rail_35  M v1 v2 v3 s0 s1 = some r) : G x z 6 35 [(0, .ref (z.2.1 51)), (1, .int v1), (2, .int v2), (3, .int v3)] [.int s1, .int s0] M := by
  have hk := hc.1
  unfold jX10_rail_35 at h
  refine g_iload_n hk 2 dX10_rail_35 rfl ?_
  refine g_ifne hk (tgt := 44) dX10_rail_36 (by decide) h (fun h => ?_) (fun h => ?_)
  · refine g_iconst hk 5 dX10_rail_44 (by decide) ?_
    exact g_weak [0, 1, 2, 3] [(0, .ref (z.2.1 51)), (1, .int v1), (2, .int v2), (3, .int v3)] rfl (gjX10_rail_45 hc  M v1 v2 v3 s0 s1 5 h)
  · refine g_bipush hk 50 dX10_rail_39 (by decide) ?_
    refine g_goto hk (tgt := 45) dX10_rail_41 (by decide) ?_
    exact g_weak [0, 1, 2, 3] [(0, .ref (z.2.1 51)), (1, .int v1), (2, .int v2), (3, .int v3)] rfl (gjX10_rail_45 hc  M v1 v2 v3 s0 s1 50 h)
set_option maxHeartbeats 4000000 in
set_option maxRecDepth 100000 in
theorem kX10_rail (l : Launch) (z : Lay) (M : Mem) (v1 : Int32) (v2 : Int32) (v3 : Int32) (r : Int32 × Mem) (h : xX10_rail M v1 v2 v3 = some r) : Con l z yX10_rail cX10_rail 6 (some .int) 2 [.ref (z.2.1 51), .int v1, .int v2, .int v3] M (some (.int r.1)) r.2 := by
  refine Con.of (by decide) (Nat.le_of_ble_eq_true rfl) ?_
  intro x hl hc
  subst hl
  have hk : okc x z cX10_rail RX10 6 2 := hc.1
  show G x z 6 0 [(0, .ref (z.2.1 51)), (1, .int v1), (2, .int v2), (3, .int v3)] [] M
  unfold xX10_rail at h
  refine g_iload_n hk 1 dX10_rail_0 rfl ?_
  obtain ⟨r1, hr1, h⟩ := bnd h
  refine g_callSi hk [.int v1] _ mtX10_isMile mlX10_179 (by decide) (by decide) rfl rfl (Nat.le_of_ble_eq_true rfl) dX10_rail_1 (kX10_isMile _ z M v1 r1 hr1) ?_
  refine g_ifne hk (tgt := 11) dX10_rail_4 (by decide) h (fun h => ?_) (fun h => ?_)
  · refine g_iload_n hk 2 dX10_rail_11 rfl ?_
    refine g_iconst hk 2 dX10_rail_12 (by decide) ?_
    obtain ⟨r2, hr2, h⟩ := bnd h
    refine g_callSi hk [.int v2, .int 2] _ mtX10_isIn mlX10_153 (by decide) (by decide) rfl rfl (Nat.le_of_ble_eq_true rfl) dX10_rail_13 (kX10_isIn _ z M v2 2 r2 hr2) ?_
    refine g_ifne hk (tgt := 24) dX10_rail_16 (by decide) h (fun h => ?_) (fun h => ?_)
    · refine g_iload_n hk 3 dX10_rail_24 rfl ?_
      refine g_iload_n hk 2 dX10_rail_25 rfl ?_
      refine g_ifne hk (tgt := 34) dX10_rail_26 (by decide) h (fun h => ?_) (fun h => ?_)
      · refine g_iconst hk 0 dX10_rail_34 (by decide) ?_
        exact g_weak [0, 1, 2, 3] [(0, .ref (z.2.1 51)), (1, .int v1), (2, .int v2), (3, .int v3)] rfl (gjX10_rail_35 hc  M v1 v2 v3 v3 0 h)
      · refine g_bipush hk (-30) dX10_rail_29 (by decide) ?_
        refine g_goto hk (tgt := 35) dX10_rail_31 (by decide) ?_
        exact g_weak [0, 1, 2, 3] [(0, .ref (z.2.1 51)), (1, .int v1), (2, .int v2), (3, .int v3)] rfl (gjX10_rail_35 hc  M v1 v2 v3 v3 (-30) h)
    · refine g_bipush hk (-2) dX10_rail_19 (by decide) ?_
      refine g_goto hk (tgt := 48) dX10_rail_21 (by decide) ?_
      exact g_weak [0, 1, 2, 3] [(0, .ref (z.2.1 51)), (1, .int v1), (2, .int v2), (3, .int v3)] rfl (gjX10_rail_48 hc  M v1 v2 v3 (-2) h)
  · refine g_iconst hk (-1) dX10_rail_7 (by decide) ?_
    refine g_goto hk (tgt := 48) dX10_rail_8 (by decide) ?_
    exact g_weak [0, 1, 2, 3] [(0, .ref (z.2.1 51)), (1, .int v1), (2, .int v2), (3, .int v3)] rfl (gjX10_rail_48 hc  M v1 v2 v3 (-1) h)
set_option maxHeartbeats 4000000 in
set_option maxRecDepth 100000 in
theorem kX10_heat (l : Launch) (z : Lay) (M : Mem) (v1 : Int32) (r : Int32 × Mem) (h : xX10_heat M v1 = some r) : Con l z yX10_heat cX10_heat 2 (some .int) 2 [.ref (z.2.1 51), .int v1] M (some (.int r.1)) r.2 := by
  refine Con.of (by decide) (Nat.le_of_ble_eq_true rfl) ?_
  intro x hl hc
  subst hl
  have hk : okc x z cX10_heat RX10 2 2 := hc.1
  show G x z 2 0 [(0, .ref (z.2.1 51)), (1, .int v1)] [] M
  unfold xX10_heat at h
  refine g_iload_n hk 1 dX10_heat_0 rfl ?_
  obtain ⟨r1, hr1, h⟩ := bnd h
  refine g_callSi hk [.int v1] _ mtX10_isMile mlX10_179 (by decide) (by decide) rfl rfl (Nat.le_of_ble_eq_true rfl) dX10_heat_1 (kX10_isMile _ z M v1 r1 hr1) ?_
  refine g_ifeq hk (tgt := 15) dX10_heat_4 (by decide) h (fun h => ?_) (fun h => ?_)
  · refine g_aload_n hk 0 dX10_heat_15 rfl ?_
    refine g_iconst hk (-1) dX10_heat_16 (by decide) ?_
    obtain ⟨r2, hr2, h⟩ := bnd h
    refine g_callVi hk [.int (-1)] _ sh51 rfl mtX10_refuse mlX10_149 (by decide) (by decide) rfl rfl (Nat.le_of_ble_eq_true rfl) dX10_heat_17 (kX10_refuse _ z M (-1) r2 hr2) ?_
    exact g_iret (val := fun q => q.1) (mem := fun q => q.2) hc rfl dX10_heat_20 h ret2
  · refine g_aload_n hk 0 dX10_heat_7 rfl ?_
    refine g_iload_n hk 1 dX10_heat_8 rfl ?_
    obtain ⟨r3, hr3, h⟩ := bnd h
    refine g_callVi hk [.int v1] _ sh51 rfl mtX10_heatOf mlX10_215 (by decide) (by decide) rfl rfl (Nat.le_of_ble_eq_true rfl) dX10_heat_9 (kX10_heatOf _ z M v1 r3 hr3) ?_
    refine g_goto hk (tgt := 20) dX10_heat_12 (by decide) ?_
    exact g_iret (val := fun q => q.1) (mem := fun q => q.2) hc rfl dX10_heat_20 h ret2
set_option maxHeartbeats 4000000 in
set_option maxRecDepth 100000 in
theorem glX10_cracks_4 {x : Cx} {z : Lay} {r : Int32} {M : Mem} (hc : okm x z cX10_cracks RX10 4 0 (some .int) (some (.int r)) M)  : ∀ (n : Nat) (v1 : Int32) (v2 : Int32) (v3 : Int32), lX10_cracks_4  n M v1 v2 v3 = some r → G x z 4 4 [(0, .ref (z.2.1 51)), (1, .int v1), (2, .int v2), (3, .int v3)] [] M := by
  have hk := hc.1
  intro n
  induction n with
  | zero => intro _ _ _ h; rw [lX10_cracks_4] at h; cases h
  | succ n ih =>
    intro v1 v2 v3 h
    rw [lX10_cracks_4] at h
    refine g_iload_n hk 3 dX10_cracks_4 rfl ?_
    refine g_aload_n hk 0 dX10_cracks_5 rfl ?_
    refine gfX10_176 hk dX10_cracks_6 (M.1 51 5) rfl ?_
    refine g_icmpge hk (tgt := 46) dX10_cracks_9 (by decide) h (fun h => ?_) (fun h => ?_)
    · refine g_iload_n hk 2 dX10_cracks_46 rfl ?_
      exact g_iret (val := fun q => q) (mem := fun _ => M) hc rfl dX10_cracks_47 h ret1
    · refine g_iload_n hk 2 dX10_cracks_12 rfl ?_
      refine g_aload_n hk 0 dX10_cracks_13 rfl ?_
      refine gfX10_44 hk dX10_cracks_14 ?_
      refine g_iload_n hk 3 dX10_cracks_17 rfl ?_
      obtain ⟨hi1, h⟩ := ck_e h
      refine g_iald hk sh59 dX10_cracks_18 hi1 (M.1 59 (ix v3)) rfl ?_
      refine g_iconst hk 3 dX10_cracks_19 (by decide) ?_
      refine g_icmpne hk (tgt := 37) dX10_cracks_20 (by decide) h (fun h => ?_) (fun h => ?_)
      · refine g_iconst hk 0 dX10_cracks_37 (by decide) ?_
        refine g_iadd hk dX10_cracks_38 ?_
        refine g_istore_n hk [(2, .int (v2 + 0)), (0, .ref (z.2.1 51)), (1, .int v1), (3, .int v3)] dX10_cracks_39 rfl (by decide) rfl ?_
        refine g_iinc (k := 3) hk [(3, .int (v3 + 1)), (2, .int (v2 + 0)), (0, .ref (z.2.1 51)), (1, .int v1)] dX10_cracks_40 rfl rfl (by decide) rfl ?_
        refine g_goto hk (tgt := 4) dX10_cracks_43 (by decide) ?_
        exact g_weak [2, 3, 1, 0] [(0, .ref (z.2.1 51)), (1, .int v1), (2, .int (v2 + 0)), (3, .int (v3 + 1))] rfl (ih v1 (v2 + 0) (v3 + 1) h)
      · refine g_aload_n hk 0 dX10_cracks_23 rfl ?_
        refine gfX10_47 hk dX10_cracks_24 ?_
        refine g_iload_n hk 3 dX10_cracks_27 rfl ?_
        refine g_iald hk sh60 dX10_cracks_28 hi1 (M.1 60 (ix v3)) rfl ?_
        refine g_iload_n hk 1 dX10_cracks_29 rfl ?_
        refine g_icmpne hk (tgt := 37) dX10_cracks_30 (by decide) h (fun h => ?_) (fun h => ?_)
        · refine g_iconst hk 0 dX10_cracks_37 (by decide) ?_
          refine g_iadd hk dX10_cracks_38 ?_
          refine g_istore_n hk [(2, .int (v2 + 0)), (0, .ref (z.2.1 51)), (1, .int v1), (3, .int v3)] dX10_cracks_39 rfl (by decide) rfl ?_
          refine g_iinc (k := 3) hk [(3, .int (v3 + 1)), (2, .int (v2 + 0)), (0, .ref (z.2.1 51)), (1, .int v1)] dX10_cracks_40 rfl rfl (by decide) rfl ?_
          refine g_goto hk (tgt := 4) dX10_cracks_43 (by decide) ?_
          exact g_weak [2, 3, 1, 0] [(0, .ref (z.2.1 51)), (1, .int v1), (2, .int (v2 + 0)), (3, .int (v3 + 1))] rfl (ih v1 (v2 + 0) (v3 + 1) h)
        · refine g_iconst hk 1 dX10_cracks_33 (by decide) ?_
          refine g_goto hk (tgt := 38) dX10_cracks_34 (by decide) ?_
          refine g_iadd hk dX10_cracks_38 ?_
          refine g_istore_n hk [(2, .int (v2 + 1)), (0, .ref (z.2.1 51)), (1, .int v1), (3, .int v3)] dX10_cracks_39 rfl (by decide) rfl ?_
          refine g_iinc (k := 3) hk [(3, .int (v3 + 1)), (2, .int (v2 + 1)), (0, .ref (z.2.1 51)), (1, .int v1)] dX10_cracks_40 rfl rfl (by decide) rfl ?_
          refine g_goto hk (tgt := 4) dX10_cracks_43 (by decide) ?_
          exact g_weak [2, 3, 1, 0] [(0, .ref (z.2.1 51)), (1, .int v1), (2, .int (v2 + 1)), (3, .int (v3 + 1))] rfl (ih v1 (v2 + 1) (v3 + 1) h)
set_option maxHeartbeats 4000000 in
set_option maxRecDepth 100000 in
theorem kX10_cracks (l : Launch) (z : Lay) (M : Mem) (v1 : Int32) (r : Int32) (h : xX10_cracks M v1 = some r) : Con l z yX10_cracks cX10_cracks 4 (some .int) 0 [.ref (z.2.1 51), .int v1] M (some (.int r)) M := by
  refine Con.of (by decide) (Nat.le_of_ble_eq_true rfl) ?_
  intro x hl hc
  subst hl
  have hk : okc x z cX10_cracks RX10 4 0 := hc.1
  show G x z 4 0 [(0, .ref (z.2.1 51)), (1, .int v1)] [] M
  unfold xX10_cracks at h
  refine g_iconst hk 0 dX10_cracks_0 (by decide) ?_
  refine g_istore_n hk [(2, .int 0), (0, .ref (z.2.1 51)), (1, .int v1)] dX10_cracks_1 rfl (by decide) rfl ?_
  refine g_iconst hk 0 dX10_cracks_2 (by decide) ?_
  refine g_istore_n hk [(3, .int 0), (2, .int 0), (0, .ref (z.2.1 51)), (1, .int v1)] dX10_cracks_3 rfl (by decide) rfl ?_
  exact g_weak [2, 3, 1, 0] [(0, .ref (z.2.1 51)), (1, .int v1), (2, .int 0), (3, .int 0)] rfl (glX10_cracks_4 hc  fu v1 0 0 h)
set_option maxHeartbeats 4000000 in
set_option maxRecDepth 100000 in
theorem glX10_milesOf_4 {x : Cx} {z : Lay} {r : Int32} {M : Mem} (hc : okm x z cX10_milesOf RX10 4 0 (some .int) (some (.int r)) M)  : ∀ (n : Nat) (v1 : Int32) (v2 : Int32) (v3 : Int32), lX10_milesOf_4  n M v1 v2 v3 = some r → G x z 4 4 [(0, .ref (z.2.1 51)), (1, .int v1), (2, .int v2), (3, .int v3)] [] M := by
  have hk := hc.1
  intro n
  induction n with
  | zero => intro _ _ _ h; rw [lX10_milesOf_4] at h; cases h
  | succ n ih =>
    intro v1 v2 v3 h
    rw [lX10_milesOf_4] at h
    refine g_iload_n hk 3 dX10_milesOf_4 rfl ?_
    refine g_bipush hk 20 dX10_milesOf_5 (by decide) ?_
    refine g_icmpge hk (tgt := 34) dX10_milesOf_7 (by decide) h (fun h => ?_) (fun h => ?_)
    · refine g_iload_n hk 2 dX10_milesOf_34 rfl ?_
      exact g_iret (val := fun q => q) (mem := fun _ => M) hc rfl dX10_milesOf_35 h ret1
    · refine g_iload_n hk 2 dX10_milesOf_10 rfl ?_
      refine g_aload_n hk 0 dX10_milesOf_11 rfl ?_
      refine gfX10_102 hk dX10_milesOf_12 ?_
      refine g_iload_n hk 3 dX10_milesOf_15 rfl ?_
      obtain ⟨hi1, h⟩ := ck_e h
      refine g_iald hk sh78 dX10_milesOf_16 hi1 (M.1 78 (ix v3)) rfl ?_
      refine g_iload_n hk 1 dX10_milesOf_17 rfl ?_
      refine g_icmpne hk (tgt := 25) dX10_milesOf_18 (by decide) h (fun h => ?_) (fun h => ?_)
      · refine g_iconst hk 0 dX10_milesOf_25 (by decide) ?_
        refine g_iadd hk dX10_milesOf_26 ?_
        refine g_istore_n hk [(2, .int (v2 + 0)), (0, .ref (z.2.1 51)), (1, .int v1), (3, .int v3)] dX10_milesOf_27 rfl (by decide) rfl ?_
        refine g_iinc (k := 3) hk [(3, .int (v3 + 1)), (2, .int (v2 + 0)), (0, .ref (z.2.1 51)), (1, .int v1)] dX10_milesOf_28 rfl rfl (by decide) rfl ?_
        refine g_goto hk (tgt := 4) dX10_milesOf_31 (by decide) ?_
        exact g_weak [2, 3, 1, 0] [(0, .ref (z.2.1 51)), (1, .int v1), (2, .int (v2 + 0)), (3, .int (v3 + 1))] rfl (ih v1 (v2 + 0) (v3 + 1) h)
      · refine g_iconst hk 1 dX10_milesOf_21 (by decide) ?_
        refine g_goto hk (tgt := 26) dX10_milesOf_22 (by decide) ?_
        refine g_iadd hk dX10_milesOf_26 ?_
        refine g_istore_n hk [(2, .int (v2 + 1)), (0, .ref (z.2.1 51)), (1, .int v1), (3, .int v3)] dX10_milesOf_27 rfl (by decide) rfl ?_
        refine g_iinc (k := 3) hk [(3, .int (v3 + 1)), (2, .int (v2 + 1)), (0, .ref (z.2.1 51)), (1, .int v1)] dX10_milesOf_28 rfl rfl (by decide) rfl ?_
        refine g_goto hk (tgt := 4) dX10_milesOf_31 (by decide) ?_
        exact g_weak [2, 3, 1, 0] [(0, .ref (z.2.1 51)), (1, .int v1), (2, .int (v2 + 1)), (3, .int (v3 + 1))] rfl (ih v1 (v2 + 1) (v3 + 1) h)
set_option maxHeartbeats 4000000 in
set_option maxRecDepth 100000 in
theorem kX10_milesOf (l : Launch) (z : Lay) (M : Mem) (v1 : Int32) (r : Int32) (h : xX10_milesOf M v1 = some r) : Con l z yX10_milesOf cX10_milesOf 4 (some .int) 0 [.ref (z.2.1 51), .int v1] M (some (.int r)) M := by
  refine Con.of (by decide) (Nat.le_of_ble_eq_true rfl) ?_
  intro x hl hc
  subst hl
  have hk : okc x z cX10_milesOf RX10 4 0 := hc.1
  show G x z 4 0 [(0, .ref (z.2.1 51)), (1, .int v1)] [] M
  unfold xX10_milesOf at h
  refine g_iconst hk 0 dX10_milesOf_0 (by decide) ?_
  refine g_istore_n hk [(2, .int 0), (0, .ref (z.2.1 51)), (1, .int v1)] dX10_milesOf_1 rfl (by decide) rfl ?_
  refine g_iconst hk 0 dX10_milesOf_2 (by decide) ?_
  refine g_istore_n hk [(3, .int 0), (2, .int 0), (0, .ref (z.2.1 51)), (1, .int v1)] dX10_milesOf_3 rfl (by decide) rfl ?_
  exact g_weak [2, 3, 1, 0] [(0, .ref (z.2.1 51)), (1, .int v1), (2, .int 0), (3, .int 0)] rfl (glX10_milesOf_4 hc  fu v1 0 0 h)
set_option maxHeartbeats 4000000 in
set_option maxRecDepth 100000 in
theorem kX10_lot (l : Launch) (z : Lay) (M : Mem) (v1 : Int32) (v2 : Int32) (r : Int32 × Mem) (h : xX10_lot M v1 v2 = some r) : Con l z yX10_lot cX10_lot 3 (some .int) 1 [.ref (z.2.1 51), .int v1, .int v2] M (some (.int r.1)) r.2 := by
  refine Con.of (by decide) (Nat.le_of_ble_eq_true rfl) ?_
  intro x hl hc
  subst hl
  have hk : okc x z cX10_lot RX10 3 1 := hc.1
  show G x z 3 0 [(0, .ref (z.2.1 51)), (1, .int v1), (2, .int v2)] [] M
  unfold xX10_lot at h
  refine g_iload_n hk 1 dX10_lot_0 rfl ?_
  refine g_bipush hk 6 dX10_lot_1 (by decide) ?_
  obtain ⟨r1, hr1, h⟩ := bnd h
  refine g_callSi hk [.int v1, .int 6] _ mtX10_isIn mlX10_153 (by decide) (by decide) rfl rfl (Nat.le_of_ble_eq_true rfl) dX10_lot_3 (kX10_isIn _ z M v1 6 r1 hr1) ?_
  refine g_ifne hk (tgt := 15) dX10_lot_6 (by decide) h (fun h => ?_) (fun h => ?_)
  · refine g_iload_n hk 2 dX10_lot_15 rfl ?_
    refine g_ifne hk (tgt := 27) dX10_lot_16 (by decide) h (fun h => ?_) (fun h => ?_)
    · refine g_iload_n hk 2 dX10_lot_27 rfl ?_
      refine g_iconst hk 1 dX10_lot_28 (by decide) ?_
      refine g_icmpne hk (tgt := 40) dX10_lot_29 (by decide) h (fun h => ?_) (fun h => ?_)
      · refine g_aload_n hk 0 dX10_lot_40 rfl ?_
        refine g_bipush hk (-2) dX10_lot_41 (by decide) ?_
        obtain ⟨r2, hr2, h⟩ := bnd h
        refine g_callVi hk [.int (-2)] _ sh51 rfl mtX10_refuse mlX10_149 (by decide) (by decide) rfl rfl (Nat.le_of_ble_eq_true rfl) dX10_lot_43 (kX10_refuse _ z M (-2) r2 hr2) ?_
        exact g_iret (val := fun q => q.1) (mem := fun q => q.2) hc rfl dX10_lot_46 h ret2
      · refine g_aload_n hk 0 dX10_lot_32 rfl ?_
        refine g_iload_n hk 1 dX10_lot_33 rfl ?_
        obtain ⟨r3, hr3, h⟩ := bnd h
        refine g_callVi hk [.int v1] _ sh51 rfl mtX10_milesOf mlX10_277 (by decide) (by decide) rfl rfl (Nat.le_of_ble_eq_true rfl) dX10_lot_34 (kX10_milesOf _ z M v1 r3 hr3) ?_
        refine g_goto hk (tgt := 46) dX10_lot_37 (by decide) ?_
        exact g_iret (val := fun q => q.1) (mem := fun q => q.2) hc rfl dX10_lot_46 h ret2
    · refine g_aload_n hk 0 dX10_lot_19 rfl ?_
      refine g_iload_n hk 1 dX10_lot_20 rfl ?_
      obtain ⟨r4, hr4, h⟩ := bnd h
      refine g_callVi hk [.int v1] _ sh51 rfl mtX10_cracks mlX10_274 (by decide) (by decide) rfl rfl (Nat.le_of_ble_eq_true rfl) dX10_lot_21 (kX10_cracks _ z M v1 r4 hr4) ?_
      refine g_goto hk (tgt := 46) dX10_lot_24 (by decide) ?_
      exact g_iret (val := fun q => q.1) (mem := fun q => q.2) hc rfl dX10_lot_46 h ret2
  · refine g_aload_n hk 0 dX10_lot_9 rfl ?_
    refine g_iconst hk (-1) dX10_lot_10 (by decide) ?_
    obtain ⟨r5, hr5, h⟩ := bnd h
    refine g_callVi hk [.int (-1)] _ sh51 rfl mtX10_refuse mlX10_149 (by decide) (by decide) rfl rfl (Nat.le_of_ble_eq_true rfl) dX10_lot_11 (kX10_refuse _ z M (-1) r5 hr5) ?_
    exact g_iret (val := fun q => q.1) (mem := fun q => q.2) hc rfl dX10_lot_14 h ret2
set_option maxHeartbeats 4000000 in
set_option maxRecDepth 100000 in
theorem glX10_worstOf_5 {x : Cx} {z : Lay} {r : Int32} {M : Mem} (hc : okm x z cX10_worstOf RX10 3 1 (some .int) (some (.int r)) M)  : ∀ (n : Nat) (v1 : Int32) (v2 : Int32), lX10_worstOf_5  n M v1 v2 = some r → G x z 3 5 [(0, .ref (z.2.1 51)), (1, .int v1), (2, .int v2)] [] M := by
  have hk := hc.1
  intro n
  induction n with
  | zero => intro _ _ h; rw [lX10_worstOf_5] at h; cases h
  | succ n ih =>
    intro v1 v2 h
    rw [lX10_worstOf_5] at h
    refine g_iload_n hk 2 dX10_worstOf_5 rfl ?_
    refine g_bipush hk 6 dX10_worstOf_6 (by decide) ?_
    refine g_icmpge hk (tgt := 67) dX10_worstOf_8 (by decide) h (fun h => ?_) (fun h => ?_)
    · refine g_iload_n hk 1 dX10_worstOf_67 rfl ?_
      exact g_iret (val := fun q => q) (mem := fun _ => M) hc rfl dX10_worstOf_68 h ret1
    · refine g_aload_n hk 0 dX10_worstOf_11 rfl ?_
      refine g_iload_n hk 2 dX10_worstOf_12 rfl ?_
      obtain ⟨r1, hr1, h⟩ := bnd h
      refine g_callVi hk [.int v2] _ sh51 rfl mtX10_milesOf mlX10_277 (by decide) (by decide) rfl rfl (Nat.le_of_ble_eq_true rfl) dX10_worstOf_13 (kX10_milesOf _ z M v2 r1 hr1) ?_
      refine g_ifeq hk (tgt := 61) dX10_worstOf_16 (by decide) h (fun h => ?_) (fun h => ?_)
      · refine g_iinc (k := 2) hk [(2, .int (v2 + 1)), (0, .ref (z.2.1 51)), (1, .int v1)] dX10_worstOf_61 rfl rfl (by decide) rfl ?_
        refine g_goto hk (tgt := 5) dX10_worstOf_64 (by decide) ?_
        exact g_weak [1, 2, 0] [(0, .ref (z.2.1 51)), (1, .int v1), (2, .int (v2 + 1))] rfl (ih v1 (v2 + 1) h)
      · refine g_aload_n hk 0 dX10_worstOf_19 rfl ?_
        refine g_iload_n hk 2 dX10_worstOf_20 rfl ?_
        obtain ⟨r2, hr2, h⟩ := bnd h
        refine g_callVi hk [.int v2] _ sh51 rfl mtX10_cracks mlX10_274 (by decide) (by decide) rfl rfl (Nat.le_of_ble_eq_true rfl) dX10_worstOf_21 (kX10_cracks _ z M v2 r2 hr2) ?_
        refine g_ifne hk (tgt := 30) dX10_worstOf_24 (by decide) h (fun h => ?_) (fun h => ?_)
        · refine g_iload_n hk 1 dX10_worstOf_30 rfl ?_
          refine g_iflt hk (tgt := 59) dX10_worstOf_31 (by decide) h (fun h => ?_) (fun h => ?_)
          · refine g_iload_n hk 2 dX10_worstOf_59 rfl ?_
            refine g_istore_n hk [(1, .int v2), (0, .ref (z.2.1 51)), (2, .int v2)] dX10_worstOf_60 rfl (by decide) rfl ?_
            refine g_iinc (k := 2) hk [(2, .int (v2 + 1)), (1, .int v2), (0, .ref (z.2.1 51))] dX10_worstOf_61 rfl rfl (by decide) rfl ?_
            refine g_goto hk (tgt := 5) dX10_worstOf_64 (by decide) ?_
            exact g_weak [2, 1, 0] [(0, .ref (z.2.1 51)), (1, .int v2), (2, .int (v2 + 1))] rfl (ih v2 (v2 + 1) h)
          · refine g_aload_n hk 0 dX10_worstOf_34 rfl ?_
            refine g_iload_n hk 2 dX10_worstOf_35 rfl ?_
            obtain ⟨r3, hr3, h⟩ := bnd h
            refine g_callVi hk [.int v2] _ sh51 rfl mtX10_cracks mlX10_274 (by decide) (by decide) rfl rfl (Nat.le_of_ble_eq_true rfl) dX10_worstOf_36 (kX10_cracks _ z M v2 r3 hr3) ?_
            refine g_aload_n hk 0 dX10_worstOf_39 rfl ?_
            refine g_iload_n hk 1 dX10_worstOf_40 rfl ?_
            obtain ⟨r4, hr4, h⟩ := bnd h
            refine g_callVi hk [.int v1] _ sh51 rfl mtX10_milesOf mlX10_277 (by decide) (by decide) rfl rfl (Nat.le_of_ble_eq_true rfl) dX10_worstOf_41 (kX10_milesOf _ z M v1 r4 hr4) ?_
            refine g_imul hk dX10_worstOf_44 ?_
            refine g_aload_n hk 0 dX10_worstOf_45 rfl ?_
            refine g_iload_n hk 1 dX10_worstOf_46 rfl ?_
            obtain ⟨r5, hr5, h⟩ := bnd h
            refine g_callVi hk [.int v1] _ sh51 rfl mtX10_cracks mlX10_274 (by decide) (by decide) rfl rfl (Nat.le_of_ble_eq_true rfl) dX10_worstOf_47 (kX10_cracks _ z M v1 r5 hr5) ?_
            refine g_aload_n hk 0 dX10_worstOf_50 rfl ?_
            refine g_iload_n hk 2 dX10_worstOf_51 rfl ?_
            obtain ⟨r6, hr6, h⟩ := bnd h
            refine g_callVi hk [.int v2] _ sh51 rfl mtX10_milesOf mlX10_277 (by decide) (by decide) rfl rfl (Nat.le_of_ble_eq_true rfl) dX10_worstOf_52 (kX10_milesOf _ z M v2 r6 hr6) ?_
            refine g_imul hk dX10_worstOf_55 ?_
            refine g_icmple hk (tgt := 61) dX10_worstOf_56 (by decide) h (fun h => ?_) (fun h => ?_)
            · refine g_iinc (k := 2) hk [(2, .int (v2 + 1)), (0, .ref (z.2.1 51)), (1, .int v1)] dX10_worstOf_61 rfl rfl (by decide) rfl ?_
              refine g_goto hk (tgt := 5) dX10_worstOf_64 (by decide) ?_
              exact g_weak [1, 2, 0] [(0, .ref (z.2.1 51)), (1, .int v1), (2, .int (v2 + 1))] rfl (ih v1 (v2 + 1) h)
            · refine g_iload_n hk 2 dX10_worstOf_59 rfl ?_
              refine g_istore_n hk [(1, .int v2), (0, .ref (z.2.1 51)), (2, .int v2)] dX10_worstOf_60 rfl (by decide) rfl ?_
              refine g_iinc (k := 2) hk [(2, .int (v2 + 1)), (1, .int v2), (0, .ref (z.2.1 51))] dX10_worstOf_61 rfl rfl (by decide) rfl ?_
              refine g_goto hk (tgt := 5) dX10_worstOf_64 (by decide) ?_
              exact g_weak [2, 1, 0] [(0, .ref (z.2.1 51)), (1, .int v2), (2, .int (v2 + 1))] rfl (ih v2 (v2 + 1) h)
        · refine g_goto hk (tgt := 61) dX10_worstOf_27 (by decide) ?_
          refine g_iinc (k := 2) hk [(2, .int (v2 + 1)), (0, .ref (z.2.1 51)), (1, .int v1)] dX10_worstOf_61 rfl rfl (by decide) rfl ?_
          refine g_goto hk (tgt := 5) dX10_worstOf_64 (by decide) ?_
          exact g_weak [1, 2, 0] [(0, .ref (z.2.1 51)), (1, .int v1), (2, .int (v2 + 1))] rfl (ih v1 (v2 + 1) h)
set_option maxHeartbeats 4000000 in
set_option maxRecDepth 100000 in
theorem kX10_worstOf (l : Launch) (z : Lay) (M : Mem)  (r : Int32) (h : xX10_worstOf M = some r) : Con l z yX10_worstOf cX10_worstOf 3 (some .int) 1 [.ref (z.2.1 51)] M (some (.int r)) M := by
  refine Con.of (by decide) (Nat.le_of_ble_eq_true rfl) ?_
  intro x hl hc
  subst hl
  have hk : okc x z cX10_worstOf RX10 3 1 := hc.1
  show G x z 3 0 [(0, .ref (z.2.1 51))] [] M
  unfold xX10_worstOf at h
  refine g_bipush hk (-9) dX10_worstOf_0 (by decide) ?_
  refine g_istore_n hk [(1, .int (-9)), (0, .ref (z.2.1 51))] dX10_worstOf_2 rfl (by decide) rfl ?_
  refine g_iconst hk 0 dX10_worstOf_3 (by decide) ?_
  refine g_istore_n hk [(2, .int 0), (1, .int (-9)), (0, .ref (z.2.1 51))] dX10_worstOf_4 rfl (by decide) rfl ?_
  exact g_weak [2, 1, 0] [(0, .ref (z.2.1 51)), (1, .int (-9)), (2, .int 0)] rfl (glX10_worstOf_5 hc  fu (-9) 0 h)
set_option maxHeartbeats 4000000 in
set_option maxRecDepth 100000 in
theorem kX10_worst (l : Launch) (z : Lay) (M : Mem)  (r : Int32) (h : xX10_worst M = some r) : Con l z yX10_worst cX10_worst 1 (some .int) 2 [.ref (z.2.1 51)] M (some (.int r)) M := by
  refine Con.of (by decide) (Nat.le_of_ble_eq_true rfl) ?_
  intro x hl hc
  subst hl
  have hk : okc x z cX10_worst RX10 1 2 := hc.1
  show G x z 1 0 [(0, .ref (z.2.1 51))] [] M
  unfold xX10_worst at h
  refine g_aload_n hk 0 dX10_worst_0 rfl ?_
  obtain ⟨r1, hr1, h⟩ := bnd h
  refine g_callVi hk [] _ sh51 rfl mtX10_worstOf mlX10_280 (by decide) (by decide) rfl rfl (Nat.le_of_ble_eq_true rfl) dX10_worst_1 (kX10_worstOf _ z M  r1 hr1) ?_
  exact g_iret (val := fun q => q) (mem := fun _ => M) hc rfl dX10_worst_4 h ret1
set_option maxHeartbeats 4000000 in
set_option maxRecDepth 100000 in
theorem gjX10_sure_79 {x : Cx} {z : Lay} {r : Int32} {M : Mem} (hc : okm x z cX10_sure RX10 4 2 (some .int) (some (.int r)) M)  (v2 : Int32) (h : jX10_sure_79  M v2 = some r) : G x z 4 79 [(2, .int v2)] [] M := by
  have hk := hc.1
  unfold jX10_sure_79 at h
  refine g_iload_n hk 0 dX10_sure_79 rfl ?_
  refine g_ifeq hk (tgt := 87) dX10_sure_80 (by decide) h (fun h => ?_) (fun h => ?_)
  · refine g_iconst hk 0 dX10_sure_87 (by decide) ?_
    exact g_iret (val := fun q => q) (mem := fun _ => M) hc rfl dX10_sure_88 h ret1
  · refine g_iconst hk 1 dX10_sure_83 (by decide) ?_
    refine g_goto hk (tgt := 88) dX10_sure_84 (by decide) ?_
    exact g_iret (val := fun q => q) (mem := fun _ => M) hc rfl dX10_sure_88 h ret1
set_option maxHeartbeats 4000000 in
set_option maxRecDepth 100000 in
theorem glX10_sure_17 {x : Cx} {z : Lay} {r : Int32} {M : Mem} (hc : okm x z cX10_sure RX10 4 2 (some .int) (some (.int r)) M)  : ∀ (n : Nat) (v1 : Int32) (v2 : Int32) (v3 : Int32), lX10_sure_17  n M v1 v2 v3 = some r → G x z 4 17 [(0, .ref (z.2.1 51)), (1, .int v1), (2, .int v2), (3, .int v3)] [] M := by
  have hk := hc.1
  intro n
  induction n with
  | zero => intro _ _ _ h; rw [lX10_sure_17] at h; cases h
  | succ n ih =>
    intro v1 v2 v3 h
    rw [lX10_sure_17] at h
    refine g_iload_n hk 3 dX10_sure_17 rfl ?_
    refine g_bipush hk 6 dX10_sure_18 (by decide) ?_
    refine g_icmpge hk (tgt := 79) dX10_sure_20 (by decide) h (fun h => ?_) (fun h => ?_)
    · exact g_weak [2] [(2, .int v2)] rfl (gjX10_sure_79 hc  v2 h)
    · refine g_iload_n hk 2 dX10_sure_23 rfl ?_
      refine g_ifeq hk (tgt := 79) dX10_sure_24 (by decide) h (fun h => ?_) (fun h => ?_)
      · exact g_weak [2] [(2, .int v2)] rfl (gjX10_sure_79 hc  v2 h)
      · refine g_iload_n hk 3 dX10_sure_27 rfl ?_
        refine g_iload_n hk 1 dX10_sure_28 rfl ?_
        refine g_icmpeq hk (tgt := 67) dX10_sure_29 (by decide) h (fun h => ?_) (fun h => ?_)
        · refine g_iconst hk 1 dX10_sure_67 (by decide) ?_
          refine g_goto hk (tgt := 72) dX10_sure_68 (by decide) ?_
          refine g_istore_n hk [(2, .int 1), (0, .ref (z.2.1 51)), (1, .int v1), (3, .int v3)] dX10_sure_72 rfl (by decide) rfl ?_
          refine g_iinc (k := 3) hk [(3, .int (v3 + 1)), (2, .int 1), (0, .ref (z.2.1 51)), (1, .int v1)] dX10_sure_73 rfl rfl (by decide) rfl ?_
          refine g_goto hk (tgt := 17) dX10_sure_76 (by decide) ?_
          exact g_weak [2, 3, 1, 0] [(0, .ref (z.2.1 51)), (1, .int v1), (2, .int 1), (3, .int (v3 + 1))] rfl (ih v1 1 (v3 + 1) h)
        · refine g_aload_n hk 0 dX10_sure_32 rfl ?_
          refine g_iload_n hk 3 dX10_sure_33 rfl ?_
          obtain ⟨r1, hr1, h⟩ := bnd h
          refine g_callVi hk [.int v3] _ sh51 rfl mtX10_milesOf mlX10_277 (by decide) (by decide) rfl rfl (Nat.le_of_ble_eq_true rfl) dX10_sure_34 (kX10_milesOf _ z M v3 r1 hr1) ?_
          refine g_ifeq hk (tgt := 67) dX10_sure_37 (by decide) h (fun h => ?_) (fun h => ?_)
          · refine g_iconst hk 1 dX10_sure_67 (by decide) ?_
            refine g_goto hk (tgt := 72) dX10_sure_68 (by decide) ?_
            refine g_istore_n hk [(2, .int 1), (0, .ref (z.2.1 51)), (1, .int v1), (3, .int v3)] dX10_sure_72 rfl (by decide) rfl ?_
            refine g_iinc (k := 3) hk [(3, .int (v3 + 1)), (2, .int 1), (0, .ref (z.2.1 51)), (1, .int v1)] dX10_sure_73 rfl rfl (by decide) rfl ?_
            refine g_goto hk (tgt := 17) dX10_sure_76 (by decide) ?_
            exact g_weak [2, 3, 1, 0] [(0, .ref (z.2.1 51)), (1, .int v1), (2, .int 1), (3, .int (v3 + 1))] rfl (ih v1 1 (v3 + 1) h)
          · refine g_aload_n hk 0 dX10_sure_40 rfl ?_
            refine g_iload_n hk 1 dX10_sure_41 rfl ?_
            obtain ⟨r2, hr2, h⟩ := bnd h
            refine g_callVi hk [.int v1] _ sh51 rfl mtX10_cracks mlX10_274 (by decide) (by decide) rfl rfl (Nat.le_of_ble_eq_true rfl) dX10_sure_42 (kX10_cracks _ z M v1 r2 hr2) ?_
            refine g_aload_n hk 0 dX10_sure_45 rfl ?_
            refine g_iload_n hk 3 dX10_sure_46 rfl ?_
            obtain ⟨r3, hr3, h⟩ := bnd h
            refine g_callVi hk [.int v3] _ sh51 rfl mtX10_milesOf mlX10_277 (by decide) (by decide) rfl rfl (Nat.le_of_ble_eq_true rfl) dX10_sure_47 (kX10_milesOf _ z M v3 r3 hr3) ?_
            refine g_imul hk dX10_sure_50 ?_
            refine g_iconst hk 2 dX10_sure_51 (by decide) ?_
            refine g_aload_n hk 0 dX10_sure_52 rfl ?_
            refine g_iload_n hk 3 dX10_sure_53 rfl ?_
            obtain ⟨r4, hr4, h⟩ := bnd h
            refine g_callVi hk [.int v3] _ sh51 rfl mtX10_cracks mlX10_274 (by decide) (by decide) rfl rfl (Nat.le_of_ble_eq_true rfl) dX10_sure_54 (kX10_cracks _ z M v3 r4 hr4) ?_
            refine g_imul hk dX10_sure_57 ?_
            refine g_aload_n hk 0 dX10_sure_58 rfl ?_
            refine g_iload_n hk 1 dX10_sure_59 rfl ?_
            obtain ⟨r5, hr5, h⟩ := bnd h
            refine g_callVi hk [.int v1] _ sh51 rfl mtX10_milesOf mlX10_277 (by decide) (by decide) rfl rfl (Nat.le_of_ble_eq_true rfl) dX10_sure_60 (kX10_milesOf _ z M v1 r5 hr5) ?_
            refine g_imul hk dX10_sure_63 ?_
            refine g_icmple hk (tgt := 71) dX10_sure_64 (by decide) h (fun h => ?_) (fun h => ?_)
            · refine g_iconst hk 0 dX10_sure_71 (by decide) ?_
              refine g_istore_n hk [(2, .int 0), (0, .ref (z.2.1 51)), (1, .int v1), (3, .int v3)] dX10_sure_72 rfl (by decide) rfl ?_
              refine g_iinc (k := 3) hk [(3, .int (v3 + 1)), (2, .int 0), (0, .ref (z.2.1 51)), (1, .int v1)] dX10_sure_73 rfl rfl (by decide) rfl ?_
              refine g_goto hk (tgt := 17) dX10_sure_76 (by decide) ?_
              exact g_weak [2, 3, 1, 0] [(0, .ref (z.2.1 51)), (1, .int v1), (2, .int 0), (3, .int (v3 + 1))] rfl (ih v1 0 (v3 + 1) h)
            · refine g_iconst hk 1 dX10_sure_67 (by decide) ?_
              refine g_goto hk (tgt := 72) dX10_sure_68 (by decide) ?_
              refine g_istore_n hk [(2, .int 1), (0, .ref (z.2.1 51)), (1, .int v1), (3, .int v3)] dX10_sure_72 rfl (by decide) rfl ?_
              refine g_iinc (k := 3) hk [(3, .int (v3 + 1)), (2, .int 1), (0, .ref (z.2.1 51)), (1, .int v1)] dX10_sure_73 rfl rfl (by decide) rfl ?_
              refine g_goto hk (tgt := 17) dX10_sure_76 (by decide) ?_
              exact g_weak [2, 3, 1, 0] [(0, .ref (z.2.1 51)), (1, .int v1), (2, .int 1), (3, .int (v3 + 1))] rfl (ih v1 1 (v3 + 1) h)
set_option maxHeartbeats 4000000 in
set_option maxRecDepth 100000 in
theorem kX10_sure (l : Launch) (z : Lay) (M : Mem)  (r : Int32) (h : xX10_sure M = some r) : Con l z yX10_sure cX10_sure 4 (some .int) 2 [.ref (z.2.1 51)] M (some (.int r)) M := by
  refine Con.of (by decide) (Nat.le_of_ble_eq_true rfl) ?_
  intro x hl hc
  subst hl
  have hk : okc x z cX10_sure RX10 4 2 := hc.1
  show G x z 4 0 [(0, .ref (z.2.1 51))] [] M
  unfold xX10_sure at h
  refine g_aload_n hk 0 dX10_sure_0 rfl ?_
  obtain ⟨r1, hr1, h⟩ := bnd h
  refine g_callVi hk [] _ sh51 rfl mtX10_worstOf mlX10_280 (by decide) (by decide) rfl rfl (Nat.le_of_ble_eq_true rfl) dX10_sure_1 (kX10_worstOf _ z M  r1 hr1) ?_
  refine g_istore_n hk [(1, .int r1), (0, .ref (z.2.1 51))] dX10_sure_4 rfl (by decide) rfl ?_
  refine g_iload_n hk 0 dX10_sure_5 rfl ?_
  refine g_iflt hk (tgt := 13) dX10_sure_6 (by decide) h (fun h => ?_) (fun h => ?_)
  · refine g_iconst hk 0 dX10_sure_13 (by decide) ?_
    refine g_istore_n hk [(2, .int 0), (1, .int r1), (0, .ref (z.2.1 51))] dX10_sure_14 rfl (by decide) rfl ?_
    refine g_iconst hk 0 dX10_sure_15 (by decide) ?_
    refine g_istore_n hk [(3, .int 0), (2, .int 0), (1, .int r1), (0, .ref (z.2.1 51))] dX10_sure_16 rfl (by decide) rfl ?_
    exact g_weak [3, 2, 1, 0] [(0, .ref (z.2.1 51)), (1, .int r1), (2, .int 0), (3, .int 0)] rfl (glX10_sure_17 hc  fu r1 0 0 h)
  · refine g_iconst hk 1 dX10_sure_9 (by decide) ?_
    refine g_goto hk (tgt := 14) dX10_sure_10 (by decide) ?_
    refine g_istore_n hk [(2, .int 1), (1, .int r1), (0, .ref (z.2.1 51))] dX10_sure_14 rfl (by decide) rfl ?_
    refine g_iconst hk 0 dX10_sure_15 (by decide) ?_
    refine g_istore_n hk [(3, .int 0), (2, .int 1), (1, .int r1), (0, .ref (z.2.1 51))] dX10_sure_16 rfl (by decide) rfl ?_
    exact g_weak [3, 2, 1, 0] [(0, .ref (z.2.1 51)), (1, .int r1), (2, .int 1), (3, .int 0)] rfl (glX10_sure_17 hc  fu r1 1 0 h)
set_option maxHeartbeats 4000000 in
set_option maxRecDepth 100000 in
theorem glX10_count_92 {x : Cx} {z : Lay} {r : Int32} {M : Mem} (hc : okm x z cX10_count RX10 4 0 (some .int) (some (.int r)) M)  : ∀ (n : Nat) (v2 : Int32) (v3 : Int32), lX10_count_92  n M v2 v3 = some r → G x z 4 92 [(0, .ref (z.2.1 51)), (2, .int v2), (3, .int v3)] [] M := by
  have hk := hc.1
  intro n
  induction n with
  | zero => intro _ _ h; rw [lX10_count_92] at h; cases h
  | succ n ih =>
    intro v2 v3 h
    rw [lX10_count_92] at h
    refine g_iload_n hk 2 dX10_count_92 rfl ?_
    refine g_aload_n hk 0 dX10_count_93 rfl ?_
    refine gfX10_176 hk dX10_count_94 (M.1 51 5) rfl ?_
    refine g_icmpge hk (tgt := 123) dX10_count_97 (by decide) h (fun h => ?_) (fun h => ?_)
    · refine g_iload_n hk 1 dX10_count_123 rfl ?_
      exact g_iret (val := fun q => q) (mem := fun _ => M) hc rfl dX10_count_124 h ret1
    · refine g_iload_n hk 1 dX10_count_100 rfl ?_
      refine g_aload_n hk 0 dX10_count_101 rfl ?_
      refine gfX10_56 hk dX10_count_102 ?_
      refine g_iload_n hk 2 dX10_count_105 rfl ?_
      obtain ⟨hi1, h⟩ := ck_e h
      refine g_zald hk sh63 dX10_count_106 hi1 (M.1 63 (ix v3)) rfl ?_
      refine g_ifeq hk (tgt := 114) dX10_count_107 (by decide) h (fun h => ?_) (fun h => ?_)
      · refine g_iconst hk 0 dX10_count_114 (by decide) ?_
        refine g_iadd hk dX10_count_115 ?_
        refine g_istore_n hk [(2, .int (v2 + 0)), (0, .ref (z.2.1 51)), (3, .int v3)] dX10_count_116 rfl (by decide) rfl ?_
        refine g_iinc (k := 2) hk [(3, .int (v3 + 1)), (2, .int (v2 + 0)), (0, .ref (z.2.1 51))] dX10_count_117 rfl rfl (by decide) rfl ?_
        refine g_goto hk (tgt := 92) dX10_count_120 (by decide) ?_
        exact g_weak [2, 1, 0] [(0, .ref (z.2.1 51)), (2, .int (v2 + 0)), (3, .int (v3 + 1))] rfl (ih (v2 + 0) (v3 + 1) h)
      · refine g_iconst hk 1 dX10_count_110 (by decide) ?_
        refine g_goto hk (tgt := 115) dX10_count_111 (by decide) ?_
        refine g_iadd hk dX10_count_115 ?_
        refine g_istore_n hk [(2, .int (v2 + 1)), (0, .ref (z.2.1 51)), (3, .int v3)] dX10_count_116 rfl (by decide) rfl ?_
        refine g_iinc (k := 2) hk [(3, .int (v3 + 1)), (2, .int (v2 + 1)), (0, .ref (z.2.1 51))] dX10_count_117 rfl rfl (by decide) rfl ?_
        refine g_goto hk (tgt := 92) dX10_count_120 (by decide) ?_
        exact g_weak [2, 1, 0] [(0, .ref (z.2.1 51)), (2, .int (v2 + 1)), (3, .int (v3 + 1))] rfl (ih (v2 + 1) (v3 + 1) h)
set_option maxHeartbeats 4000000 in
set_option maxRecDepth 100000 in
theorem glX10_count_142 {x : Cx} {z : Lay} {r : Int32} {M : Mem} (hc : okm x z cX10_count RX10 4 0 (some .int) (some (.int r)) M)  : ∀ (n : Nat) (v2 : Int32) (v3 : Int32), lX10_count_142  n M v2 v3 = some r → G x z 4 142 [(0, .ref (z.2.1 51)), (2, .int v2), (3, .int v3)] [] M := by
  have hk := hc.1
  intro n
  induction n with
  | zero => intro _ _ h; rw [lX10_count_142] at h; cases h
  | succ n ih =>
    intro v2 v3 h
    rw [lX10_count_142] at h
    refine g_iload_n hk 2 dX10_count_142 rfl ?_
    refine g_bipush hk 20 dX10_count_143 (by decide) ?_
    refine g_icmpge hk (tgt := 171) dX10_count_145 (by decide) h (fun h => ?_) (fun h => ?_)
    · refine g_iload_n hk 1 dX10_count_171 rfl ?_
      exact g_iret (val := fun q => q) (mem := fun _ => M) hc rfl dX10_count_172 h ret1
    · refine g_iload_n hk 1 dX10_count_148 rfl ?_
      refine g_aload_n hk 0 dX10_count_149 rfl ?_
      refine gfX10_84 hk dX10_count_150 ?_
      refine g_iload_n hk 2 dX10_count_153 rfl ?_
      obtain ⟨hi1, h⟩ := ck_e h
      refine g_iald hk sh72 dX10_count_154 hi1 (M.1 72 (ix v3)) rfl ?_
      refine g_ifle hk (tgt := 162) dX10_count_155 (by decide) h (fun h => ?_) (fun h => ?_)
      · refine g_iconst hk 0 dX10_count_162 (by decide) ?_
        refine g_iadd hk dX10_count_163 ?_
        refine g_istore_n hk [(2, .int (v2 + 0)), (0, .ref (z.2.1 51)), (3, .int v3)] dX10_count_164 rfl (by decide) rfl ?_
        refine g_iinc (k := 2) hk [(3, .int (v3 + 1)), (2, .int (v2 + 0)), (0, .ref (z.2.1 51))] dX10_count_165 rfl rfl (by decide) rfl ?_
        refine g_goto hk (tgt := 142) dX10_count_168 (by decide) ?_
        exact g_weak [2, 1, 0] [(0, .ref (z.2.1 51)), (2, .int (v2 + 0)), (3, .int (v3 + 1))] rfl (ih (v2 + 0) (v3 + 1) h)
      · refine g_iconst hk 1 dX10_count_158 (by decide) ?_
        refine g_goto hk (tgt := 163) dX10_count_159 (by decide) ?_
        refine g_iadd hk dX10_count_163 ?_
        refine g_istore_n hk [(2, .int (v2 + 1)), (0, .ref (z.2.1 51)), (3, .int v3)] dX10_count_164 rfl (by decide) rfl ?_
        refine g_iinc (k := 2) hk [(3, .int (v3 + 1)), (2, .int (v2 + 1)), (0, .ref (z.2.1 51))] dX10_count_165 rfl rfl (by decide) rfl ?_
        refine g_goto hk (tgt := 142) dX10_count_168 (by decide) ?_
        exact g_weak [2, 1, 0] [(0, .ref (z.2.1 51)), (2, .int (v2 + 1)), (3, .int (v3 + 1))] rfl (ih (v2 + 1) (v3 + 1) h)
set_option maxHeartbeats 4000000 in
set_option maxRecDepth 100000 in
theorem gjX10_count_22 {x : Cx} {z : Lay} {r : Int32} {M : Mem} (hc : okm x z cX10_count RX10 4 0 (some .int) (some (.int r)) M)  (v1 : Int32) (h : jX10_count_22  M v1 = some r) : G x z 4 22 [(0, .ref (z.2.1 51)), (1, .int v1)] [] M := by
  have hk := hc.1
  unfold jX10_count_22 at h
  refine g_iconst hk 0 dX10_count_22 (by decide) ?_
  refine g_istore_n hk [(2, .int 0), (0, .ref (z.2.1 51)), (1, .int v1)] dX10_count_23 rfl (by decide) rfl ?_
  refine g_iload_n hk 2 dX10_count_24 rfl ?_
  by_cases e0 : v1 = 0
  · rw [if_pos e0] at h
    refine g_tin hk (tgt := 80) (0) e0 dX10_count_25 (by decide) (by decide) rfl (by decide) ?_
    refine g_aload_n hk 1 dX10_count_80 rfl ?_
    refine gfX10_157 hk dX10_count_81 (M.1 51 4) rfl ?_
    exact g_iret (val := fun q => q) (mem := fun _ => M) hc rfl dX10_count_84 h ret1
  · rw [if_neg e0] at h
    by_cases e1 : v1 = 1
    · rw [if_pos e1] at h
      refine g_tin hk (tgt := 85) (1) e1 dX10_count_25 (by decide) (by decide) rfl (by decide) ?_
      refine g_aload_n hk 1 dX10_count_85 rfl ?_
      refine gfX10_176 hk dX10_count_86 (M.1 51 5) rfl ?_
      exact g_iret (val := fun q => q) (mem := fun _ => M) hc rfl dX10_count_89 h ret1
    · rw [if_neg e1] at h
      by_cases e2 : v1 = 2
      · rw [if_pos e2] at h
        refine g_tin hk (tgt := 90) (2) e2 dX10_count_25 (by decide) (by decide) rfl (by decide) ?_
        refine g_iconst hk 0 dX10_count_90 (by decide) ?_
        refine g_istore_n hk [(3, .int 0), (2, .int 0), (0, .ref (z.2.1 51)), (1, .int v1)] dX10_count_91 rfl (by decide) rfl ?_
        exact g_weak [2, 1, 0] [(0, .ref (z.2.1 51)), (2, .int 0), (3, .int 0)] rfl (glX10_count_92 hc  fu 0 0 h)
      · rw [if_neg e2] at h
        by_cases e3 : v1 = 3
        · rw [if_pos e3] at h
          refine g_tin hk (tgt := 125) (3) e3 dX10_count_25 (by decide) (by decide) rfl (by decide) ?_
          refine g_aload_n hk 1 dX10_count_125 rfl ?_
          refine gfX10_183 hk dX10_count_126 (M.1 51 6) rfl ?_
          exact g_iret (val := fun q => q) (mem := fun _ => M) hc rfl dX10_count_129 h ret1
        · rw [if_neg e3] at h
          by_cases e4 : v1 = 4
          · rw [if_pos e4] at h
            refine g_tin hk (tgt := 130) (4) e4 dX10_count_25 (by decide) (by decide) rfl (by decide) ?_
            refine g_aload_n hk 1 dX10_count_130 rfl ?_
            refine gfX10_197 hk dX10_count_131 (M.1 51 7) rfl ?_
            exact g_iret (val := fun q => q) (mem := fun _ => M) hc rfl dX10_count_134 h ret1
          · rw [if_neg e4] at h
            by_cases e5 : v1 = 5
            · rw [if_pos e5] at h
              refine g_tin hk (tgt := 135) (5) e5 dX10_count_25 (by decide) (by decide) rfl (by decide) ?_
              refine g_aload_n hk 1 dX10_count_135 rfl ?_
              refine gfX10_203 hk dX10_count_136 (M.1 51 8) rfl ?_
              exact g_iret (val := fun q => q) (mem := fun _ => M) hc rfl dX10_count_139 h ret1
            · rw [if_neg e5] at h
              by_cases e6 : v1 = 6
              · rw [if_pos e6] at h
                refine g_tin hk (tgt := 140) (6) e6 dX10_count_25 (by decide) (by decide) rfl (by decide) ?_
                refine g_iconst hk 0 dX10_count_140 (by decide) ?_
                refine g_istore_n hk [(3, .int 0), (2, .int 0), (0, .ref (z.2.1 51)), (1, .int v1)] dX10_count_141 rfl (by decide) rfl ?_
                exact g_weak [2, 1, 0] [(0, .ref (z.2.1 51)), (2, .int 0), (3, .int 0)] rfl (glX10_count_142 hc  fu 0 0 h)
              · rw [if_neg e6] at h
                by_cases e7 : v1 = 7
                · rw [if_pos e7] at h
                  refine g_tin hk (tgt := 173) (7) e7 dX10_count_25 (by decide) (by decide) rfl (by decide) ?_
                  refine g_aload_n hk 1 dX10_count_173 rfl ?_
                  refine gfX10_224 hk dX10_count_174 (M.1 51 10) rfl ?_
                  exact g_iret (val := fun q => q) (mem := fun _ => M) hc rfl dX10_count_177 h ret1
                · rw [if_neg e7] at h
                  by_cases e8 : v1 = 8
                  · rw [if_pos e8] at h
                    refine g_tin hk (tgt := 178) (8) e8 dX10_count_25 (by decide) (by decide) rfl (by decide) ?_
                    refine g_aload_n hk 1 dX10_count_178 rfl ?_
                    refine gfX10_239 hk dX10_count_179 (M.1 51 11) rfl ?_
                    exact g_iret (val := fun q => q) (mem := fun _ => M) hc rfl dX10_count_182 h ret1
                  · rw [if_neg e8] at h
                    by_cases e9 : v1 = 9
                    · rw [if_pos e9] at h
                      refine g_tin hk (tgt := 183) (9) e9 dX10_count_25 (by decide) (by decide) rfl (by decide) ?_
                      refine g_aload_n hk 1 dX10_count_183 rfl ?_
                      refine gfX10_252 hk dX10_count_184 (M.1 51 12) rfl ?_
                      exact g_iret (val := fun q => q) (mem := fun _ => M) hc rfl dX10_count_187 h ret1
                    · rw [if_neg e9] at h
                      refine g_tout hk (tgt := 188) dX10_count_25 (by have q0 := lv_neT e0 (a := 0) rfl; have q1 := lv_neT e1 (a := 1) rfl; have q2 := lv_neT e2 (a := 2) rfl; have q3 := lv_neT e3 (a := 3) rfl; have q4 := lv_neT e4 (a := 4) rfl; have q5 := lv_neT e5 (a := 5) rfl; have q6 := lv_neT e6 (a := 6) rfl; have q7 := lv_neT e7 (a := 7) rfl; have q8 := lv_neT e8 (a := 8) rfl; have q9 := lv_neT e9 (a := 9) rfl; omega) (by decide) ?_
                      refine g_bipush hk (-9) dX10_count_188 (by decide) ?_
                      exact g_iret (val := fun q => q) (mem := fun _ => M) hc rfl dX10_count_190 h ret1
set_option maxHeartbeats 4000000 in
set_option maxRecDepth 100000 in
theorem kX10_count (l : Launch) (z : Lay) (M : Mem) (v1 : Int32) (r : Int32) (h : xX10_count M v1 = some r) : Con l z yX10_count cX10_count 4 (some .int) 0 [.ref (z.2.1 51), .int v1] M (some (.int r)) M := by
  refine Con.of (by decide) (Nat.le_of_ble_eq_true rfl) ?_
  intro x hl hc
  subst hl
  have hk : okc x z cX10_count RX10 4 0 := hc.1
  show G x z 4 0 [(0, .ref (z.2.1 51)), (1, .int v1)] [] M
  unfold xX10_count at h
  refine g_iload_n hk 1 dX10_count_0 rfl ?_
  refine g_bipush hk 10 dX10_count_1 (by decide) ?_
  refine g_icmple hk (tgt := 22) dX10_count_3 (by decide) h (fun h => ?_) (fun h => ?_)
  · exact g_weak [0, 1] [(0, .ref (z.2.1 51)), (1, .int v1)] rfl (gjX10_count_22 hc  v1 h)
  · refine g_iload_n hk 1 dX10_count_6 rfl ?_
    refine g_bipush hk 17 dX10_count_7 (by decide) ?_
    refine g_icmpge hk (tgt := 22) dX10_count_9 (by decide) h (fun h => ?_) (fun h => ?_)
    · exact g_weak [0, 1] [(0, .ref (z.2.1 51)), (1, .int v1)] rfl (gjX10_count_22 hc  v1 h)
    · refine g_aload_n hk 0 dX10_count_12 rfl ?_
      refine gfX10_7 hk dX10_count_13 ?_
      refine g_iload_n hk 1 dX10_count_16 rfl ?_
      refine g_bipush hk 10 dX10_count_17 (by decide) ?_
      refine g_isub hk dX10_count_19 ?_
      obtain ⟨hi1, h⟩ := ck_e h
      refine g_iald hk sh52 dX10_count_20 hi1 (M.1 52 (ix (v1 - 10))) rfl ?_
      exact g_iret (val := fun q => q) (mem := fun _ => M) hc rfl dX10_count_21 h ret1
