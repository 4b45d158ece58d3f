theorem clL_7 : Cond.classLink RL 7 RX9 ∈ tbG := tbG_in (tbl_t (List.mem_of_getElem? (i := 13) (by decide +kernel))) rfl
theorem nsX9 : Cond.instantiable RX9 16 ∈ tbG := tbG_in (tbl_t (List.mem_of_getElem? (i := 14) (by decide +kernel))) rfl
theorem nm_X9 : Cond.instanceMethod yX9_init ∈ tbG := tbG_in (tbl_t (List.mem_of_getElem? (i := 16) (by decide +kernel))) rfl
theorem nc_X9 : Cond.code yX9_init cX9_init 1 none ∈ tbG := tbG_in (tbl_t (List.mem_of_getElem? (i := 17) (by decide +kernel))) rfl
theorem clL_10 : Cond.classLink RL 10 RX10 ∈ tbG := tbG_in (tbl_t (List.mem_of_getElem? (i := 723) (by decide +kernel))) rfl
theorem nsX10 : Cond.instantiable RX10 58 ∈ tbG := tbG_in (tbl_t (List.mem_of_getElem? (i := 724) (by decide +kernel))) rfl
theorem nm_X10 : Cond.instanceMethod yX10_init ∈ tbG := tbG_in (tbl_t (List.mem_of_getElem? (i := 726) (by decide +kernel))) rfl
theorem nc_X10 : Cond.code yX10_init cX10_init 2 none ∈ tbG := tbG_in (tbl_t (List.mem_of_getElem? (i := 727) (by decide +kernel))) rfl
theorem nst9_tab : ∀ w ∈ nst9, w.onTables = true := by
  intro w hw
  simp only [nst9, List.mem_cons, List.not_mem_nil, or_false] at hw
  rcases hw with rfl | rfl | rfl | rfl | rfl | rfl | rfl <;> rfl
theorem nst9_warm {a : Array Value} {s U : State} (hts : ∀ w ∈ lw_tbl, w.before a s = true) (hW : s.WarmedH U.vm) : ∀ w ∈ nst9, va_Nw w U := by
  intro w hw
  have h0 : va_Nw w s := va_Nw.of (nst9_tab w hw) (hts w (nst9_in w hw))
  simp only [nst9, List.mem_cons, List.not_mem_nil, or_false] at hw
  rcases hw with rfl | rfl | rfl | rfl | rfl | rfl | rfl <;> exact va_Nw.warmM hW h0
/-- the numbers of all classes -/
theorem known_all {a : Array Value} {s : State} (htG : ∀ w ∈ tbG, w.before a s = true) : ∃ D : va_G, ∀ (k : Nat) (q : vw_C), vwCl[k]? = some q → u_Kn s q.1 q.2.1 q.2.2 (D.1 k) (D.2 k) := by
  obtain ⟨c0, i0, h0⟩ := u_known (C := RX0) (T := TX0) (N := 6) (n := 6) htG iX0 (htG _ nsX0)
  obtain ⟨c1, i1, h1⟩ := u_known (C := RX1) (T := TX1) (N := 12) (n := 12) htG iX1 (htG _ nsX1)
  obtain ⟨c2, i2, h2⟩ := u_known (C := RX2) (T := TX2) (N := 3) (n := 3) htG iX2 (htG _ nsX2)
  obtain ⟨c3, i3, h3⟩ := u_known (C := RX3) (T := TX3) (N := 6) (n := 6) htG iX3 (htG _ nsX3)
  obtain ⟨c4, i4, h4⟩ := u_known (C := RX4) (T := TX4) (N := 3) (n := 3) htG iX4 (htG _ nsX4)
  obtain ⟨c5, i5, h5⟩ := u_known (C := RX5) (T := TX5) (N := 3) (n := 3) htG iX5 (htG _ nsX5)
  obtain ⟨c6, i6, h6⟩ := u_known (C := RX6) (T := TX6) (N := 6) (n := 6) htG iX6 (htG _ nsX6)
  obtain ⟨c7, i7, h7⟩ := u_known (C := RX7) (T := TX7) (N := 2) (n := 2) htG iX7 (htG _ nsX7)
  obtain ⟨c8, i8, h8⟩ := u_known (C := RX8) (T := TX8) (N := 3) (n := 3) htG iX8 (htG _ nsX8)
  obtain ⟨c9, i9, h9⟩ := u_known (C := RX9) (T := TX9) (N := 16) (n := 16) htG iX9 (htG _ nsX9)
  obtain ⟨c10, i10, h10⟩ := u_known (C := RX10) (T := TX10) (N := 58) (n := 58) htG iX10 (htG _ nsX10)
  refine ⟨(fun k => [c0, c1, c2, c3, c4, c5, c6, c7, c8, c9, c10].getD k 0, fun k => [i0, i1, i2, i3, i4, i5, i6, i7, i8, i9, i10].getD k i0), ?_⟩
  intro k q hq
  match k, hq with
  | 0, hq => cases hq; exact h0
  | 1, hq => cases hq; exact h1
  | 2, hq => cases hq; exact h2
  | 3, hq => cases hq; exact h3
  | 4, hq => cases hq; exact h4
  | 5, hq => cases hq; exact h5
  | 6, hq => cases hq; exact h6
  | 7, hq => cases hq; exact h7
  | 8, hq => cases hq; exact h8
  | 9, hq => cases hq; exact h9
  | 10, hq => cases hq; exact h10
  | k + 11, hq => simp at hq
/-- the static tables at the start -/
theorem tabs_all {a : Array Value} {s : State} (hts : ∀ w ∈ lw_tbl, w.before a s = true) (hgv : (Jvm.Cond.and given_1 narrow_1).before a s = true) : ∃ t0 t1 t2 : Nat,
    (va_Z RX9 "LEAST_SETTINGS" "[I" (.ref t0) (fun q : Nat => s.heap.size ≤ q) s s.heap ∧ va_T .int t0 4 (fun j => .int (tabA j)) (fun q : Nat => s.heap.size ≤ q) s s.heap) ∧
    (va_Z RX9 "MOST_SETTINGS" "[I" (.ref t1) (fun q : Nat => s.heap.size ≤ q) s s.heap ∧ va_T .int t1 4 (fun j => .int (tabB j)) (fun q : Nat => s.heap.size ≤ q) s s.heap) ∧
    (va_Z RX0 "DIGITS" "[J" (.ref t2) (fun q : Nat => s.heap.size ≤ q) s s.heap ∧ va_T .long t2 8 (fun j => .long (tabC j)) (fun q : Nat => s.heap.size ≤ q) s s.heap) := by
  have hs := flat_of_before _ hgv
  have hA : ∀ a : Nat, a < s.heap.size → ¬ (fun q : Nat => s.heap.size ≤ q) a := fun a h => Nat.not_le.mpr h
  have i9 := hts _ (List.mem_filter.mp inX9).1
  have i0 := hts _ (List.mem_filter.mp inX0).1
  have r0 : (Cond.arrayOf (.static RX9 "LEAST_SETTINGS" "[I") .int).before a s = true := hs _ (by decide +kernel)
  have n0 : (Cond.eq (.length (.static RX9 "LEAST_SETTINGS" "[I")) (.int (Int32.ofNat 4))).before a s = true := hs _ (by decide +kernel)
  have v0_0 : (Cond.eq (.elem (.static RX9 "LEAST_SETTINGS" "[I") (.int (Int32.ofNat 0))) (.int (tabA 0))).before a s = true := hs _ (by decide +kernel)
  have v0_1 : (Cond.eq (.elem (.static RX9 "LEAST_SETTINGS" "[I") (.int (Int32.ofNat 1))) (.int (tabA 1))).before a s = true := hs _ (by decide +kernel)
  have v0_2 : (Cond.eq (.elem (.static RX9 "LEAST_SETTINGS" "[I") (.int (Int32.ofNat 2))) (.int (tabA 2))).before a s = true := hs _ (by decide +kernel)
  have v0_3 : (Cond.eq (.elem (.static RX9 "LEAST_SETTINGS" "[I") (.int (Int32.ofNat 3))) (.int (tabA 3))).before a s = true := hs _ (by decide +kernel)
  obtain ⟨t0, e0, T0⟩ := va_Tof (tm := .static RX9 "LEAST_SETTINGS" "[I") (ty := .int) (N := 4) (f := fun j => .int (tabA j)) (A := fun q : Nat => s.heap.size ≤ q) (by decide) r0 (va_eqt n0) (fun j hj => by
    match j, hj with
    | 0, _ => exact va_eqt v0_0
    | 1, _ => exact va_eqt v0_1
    | 2, _ => exact va_eqt v0_2
    | 3, _ => exact va_eqt v0_3
    | j + 4, hj => exact absurd hj (by omega)) hA
  have Z0 := va_Zof (A := fun q : Nat => s.heap.size ≤ q) (hts (.laysStatic RX9 "LEAST_SETTINGS" "[I") (tbl_t (List.mem_of_getElem? (i := 460) (by decide +kernel)))) i9 e0 hA
  have r1 : (Cond.arrayOf (.static RX9 "MOST_SETTINGS" "[I") .int).before a s = true := hs _ (by decide +kernel)
  have n1 : (Cond.eq (.length (.static RX9 "MOST_SETTINGS" "[I")) (.int (Int32.ofNat 4))).before a s = true := hs _ (by decide +kernel)
  have v1_0 : (Cond.eq (.elem (.static RX9 "MOST_SETTINGS" "[I") (.int (Int32.ofNat 0))) (.int (tabB 0))).before a s = true := hs _ (by decide +kernel)
  have v1_1 : (Cond.eq (.elem (.static RX9 "MOST_SETTINGS" "[I") (.int (Int32.ofNat 1))) (.int (tabB 1))).before a s = true := hs _ (by decide +kernel)
  have v1_2 : (Cond.eq (.elem (.static RX9 "MOST_SETTINGS" "[I") (.int (Int32.ofNat 2))) (.int (tabB 2))).before a s = true := hs _ (by decide +kernel)
  have v1_3 : (Cond.eq (.elem (.static RX9 "MOST_SETTINGS" "[I") (.int (Int32.ofNat 3))) (.int (tabB 3))).before a s = true := hs _ (by decide +kernel)
  obtain ⟨t1, e1, T1⟩ := va_Tof (tm := .static RX9 "MOST_SETTINGS" "[I") (ty := .int) (N := 4) (f := fun j => .int (tabB j)) (A := fun q : Nat => s.heap.size ≤ q) (by decide) r1 (va_eqt n1) (fun j hj => by
    match j, hj with
    | 0, _ => exact va_eqt v1_0
    | 1, _ => exact va_eqt v1_1
    | 2, _ => exact va_eqt v1_2
    | 3, _ => exact va_eqt v1_3
    | j + 4, hj => exact absurd hj (by omega)) hA
  have Z1 := va_Zof (A := fun q : Nat => s.heap.size ≤ q) (hts (.laysStatic RX9 "MOST_SETTINGS" "[I") (tbl_t (List.mem_of_getElem? (i := 462) (by decide +kernel)))) i9 e1 hA
  have r2 : (Cond.arrayOf (.static RX0 "DIGITS" "[J") .long).before a s = true := hs _ (by decide +kernel)
  have n2 : (Cond.eq (.length (.static RX0 "DIGITS" "[J")) (.int (Int32.ofNat 8))).before a s = true := hs _ (by decide +kernel)
  have v2_0 : (Cond.eq (.elem (.static RX0 "DIGITS" "[J") (.int (Int32.ofNat 0))) (.long (tabC 0))).before a s = true := hs _ (by decide +kernel)
  have v2_1 : (Cond.eq (.elem (.static RX0 "DIGITS" "[J") (.int (Int32.ofNat 1))) (.long (tabC 1))).before a s = true := hs _ (by decide +kernel)
  have v2_2 : (Cond.eq (.elem (.static RX0 "DIGITS" "[J") (.int (Int32.ofNat 2))) (.long (tabC 2))).before a s = true := hs _ (by decide +kernel)
  have v2_3 : (Cond.eq (.elem (.static RX0 "DIGITS" "[J") (.int (Int32.ofNat 3))) (.long (tabC 3))).before a s = true := hs _ (by decide +kernel)
  have v2_4 : (Cond.eq (.elem (.static RX0 "DIGITS" "[J") (.int (Int32.ofNat 4))) (.long (tabC 4))).before a s = true := hs _ (by decide +kernel)
  have v2_5 : (Cond.eq (.elem (.static RX0 "DIGITS" "[J") (.int (Int32.ofNat 5))) (.long (tabC 5))).before a s = true := hs _ (by decide +kernel)
  have v2_6 : (Cond.eq (.elem (.static RX0 "DIGITS" "[J") (.int (Int32.ofNat 6))) (.long (tabC 6))).before a s = true := hs _ (by decide +kernel)
  have v2_7 : (Cond.eq (.elem (.static RX0 "DIGITS" "[J") (.int (Int32.ofNat 7))) (.long (tabC 7))).before a s = true := hs _ (by decide +kernel)
  obtain ⟨t2, e2, T2⟩ := va_Tof (tm := .static RX0 "DIGITS" "[J") (ty := .long) (N := 8) (f := fun j => .long (tabC j)) (A := fun q : Nat => s.heap.size ≤ q) (by decide) r2 (va_eqt n2) (fun j hj => by
    match j, hj with
    | 0, _ => exact va_eqtl v2_0
    | 1, _ => exact va_eqtl v2_1
    | 2, _ => exact va_eqtl v2_2
    | 3, _ => exact va_eqtl v2_3
    | 4, _ => exact va_eqtl v2_4
    | 5, _ => exact va_eqtl v2_5
    | 6, _ => exact va_eqtl v2_6
    | 7, _ => exact va_eqtl v2_7
    | j + 8, hj => exact absurd hj (by omega)) hA
  have Z2 := va_Zof (A := fun q : Nat => s.heap.size ≤ q) (hts (.laysStatic RX0 "DIGITS" "[J") (tbl_t (List.mem_of_getElem? (i := 591) (by decide +kernel)))) i0 e2 hA
  exact ⟨t0, t1, t2, ⟨Z0, T0⟩, ⟨Z1, T1⟩, Z2, T2⟩
def rows0 : List (Nat → Int32) := [(fun _ => 0), (fun _ => 0), (upd (upd (upd (upd (fun _ => 0) 0 10) 1 30) 2 40) 3 10), (upd (upd (upd (upd (fun _ => 0) 0 10) 1 10) 2 10) 3 10), (fun j => ([99, 30] : List Int32).getD j 0), (fillF (-1) 1001), (fun j => ([40, 10] : List Int32).getD j 0), (fillF (-1) 1001), (fun _ => 0), (fun _ => 0), (fun _ => 0), (fun _ => 0), (fun _ => 0), (fun _ => 0), (fun _ => 0), (fun _ => 0), (fun _ => 0), (fun _ => 0), (fun _ => 0), (fun _ => 0), (fun _ => 0), (fun _ => 0), (fun _ => 0), (fun _ => 0), (fun _ => 0), (fun _ => 0), (fun _ => 0), (fun _ => 0), (fun _ => 0), (fun _ => 0), (fun _ => 0), (fun _ => 0), (fun _ => 0), (fun _ => 0), (fun _ => 0), (fun _ => 0), (fun _ => 0), (fun _ => 0), (fun _ => 0), (fun _ => 0), (fun _ => 0), (fun _ => 0), (upd (upd (fun _ => 0) 0 15) 1 15), (fun _ => 0), (fun _ => 0), (fun _ => 0), (fun _ => 0), (fun _ => 0), (fillF 10 20), (fun _ => 0), (fun _ => 0), (fun j => ([0, 0, 0, 0, 0, 0, 0, 0, 0, 0, 0, 0, 0, 10, 30, 40, 10] : List Int32).getD j 0), (fun _ => 0), (fillF (-1) 1001), (fillF (-1) 1001), (fillF 10 4), (fun _ => 0), (fun _ => 0), (fun _ => 0), (fun _ => 0), (fun _ => 0), (fun _ => 0), (fun _ => 0), (fun _ => 0), (fun _ => 0), (fun _ => 0), (fun _ => 0), (fun _ => 0), (fun _ => 0), (fun _ => 0), (fun _ => 0), (fun _ => 0), (fun _ => 0), (fun _ => 0), (fun _ => 0), (fun _ => 0), (fun _ => 0), (fillF 10 20), (fun _ => 0), (fun _ => 0), (fun _ => 0), (fun _ => 0), (fun _ => 0), (fun _ => 0), (fun _ => 0), (fun _ => 0), (fun _ => 0), (upd (upd (fun _ => 0) 0 15) 1 15), (fun _ => 0), (fun _ => 0), (fun _ => 0), (fun _ => 0), (fun _ => 0)]
def M0 : Mem := (fun k => rows0.getD k (fun _ => 0), fun _ _ => 0)
theorem gro0 : upd (upd (upd (upd (fun _ => (0 : Int32)) 0 10) 1 10) 2 10) 3 10 = fillF 10 4 := by
  rw [fillF_0 10, show upd (fillF 10 0) 0 10 = fillF 10 1 from fillF_s 10 0, show upd (fillF 10 1) 1 10 = fillF 10 2 from fillF_s 10 1, show upd (fillF 10 2) 2 10 = fillF 10 3 from fillF_s 10 2]
  exact fillF_s 10 3
theorem rg0 (j : Nat) (b : Int) (h : 0 ≤ b) : rg ((fun _ => (0 : Int32)) j) 0 b := ⟨Int.le_refl 0, h⟩
theorem Inv_M0 : Inv M0 := by
  have z0 : (0 : Int32) = nI 0 := rfl
  have nn : ∀ {P : Nat → Prop} (i : Nat), i < 0 → P i := fun i h => absurd h (Nat.not_lt_zero i)
  refine ⟨0, 0, 0, 0, 0, 0, 0, rfl, ⟨⟨by decide, by decide, by decide, by decide⟩, ⟨by decide, by decide⟩, by decide, by decide⟩, ⟨⟨z0, by decide, by decide⟩, ⟨rfl, rfl⟩, ⟨by decide, by decide, by decide, by decide⟩, ?_⟩, ⟨gro0, ?_⟩, ⟨⟨z0, by decide, by decide⟩, ⟨z0, by decide, by decide⟩, by decide, ⟨rfl, rfl, rfl, rfl, rfl, rfl, rfl⟩, fun i h => absurd h (Nat.not_lt_zero i)⟩, ⟨fun i h => absurd h (Nat.not_lt_zero i), fun e _ => rg0 e 1000 (by decide), fun i h => absurd h (Nat.not_lt_zero i)⟩, ⟨⟨rfl, fun i _ => rg0 i 5 (by decide)⟩, fun i _ => z0⟩, rfl, ⟨⟨z0, by decide, by decide⟩, ⟨rfl, rfl, rfl, rfl, rfl⟩, fun i h => absurd h (Nat.not_lt_zero i)⟩, ⟨rfl, by decide, fun i _ => rg0 i 30 (by decide)⟩, ⟨⟨z0, by decide, by decide⟩, ⟨rfl, rfl⟩, fun i h => absurd h (Nat.not_lt_zero i)⟩, rfl, ⟨⟨rfl, rfl, rfl⟩, fun i _ => ⟨rg0 i 99 (by decide), rg0 i 99 (by decide), rg0 i 99 (by decide)⟩⟩, ⟨⟨z0, by decide, by decide⟩, ⟨rfl, rfl, rfl⟩, fun i h => absurd h (Nat.not_lt_zero i)⟩, ⟨⟨z0, by decide, by decide⟩, ⟨rfl, rfl, rfl, rfl⟩, fun i h => absurd h (Nat.not_lt_zero i), fun i h => absurd h (Nat.not_lt_zero i)⟩⟩
  · intro i hi
    have e : fillF (-1) 1001 i = -1 := if_pos (by omega)
    show rg (fillF (-1) 1001 i) (-1) 99 ∧ rg (fillF (-1) 1001 i) (-1) 40
    rw [e]
    exact ⟨⟨by decide, by decide⟩, by decide, by decide⟩
  · intro i hi
    have e : fillF 10 4 i = 10 := if_pos hi
    show rg (fillF 10 4 i) 0 50
    rw [e]
    exact ⟨by decide, by decide⟩
theorem RA_I {U : State} {a b : ClassId} (h : va_RA U a .int) (h1 : va_RA U b .int) : a = b := Option.some.inj (Eq.trans (Eq.symm (show U.vm.findClass ("[" ++ FieldType.int.toString) = some a from h)) h1)
theorem RA_B {U : State} {a b : ClassId} (h : va_RA U a .boolean) (h1 : va_RA U b .boolean) : a = b := Option.some.inj (Eq.trans (Eq.symm (show U.vm.findClass ("[" ++ FieldType.boolean.toString) = some a from h)) h1)
theorem RA_J {U : State} {a b : ClassId} (h : va_RA U a .long) (h1 : va_RA U b .long) : a = b := Option.some.inj (Eq.trans (Eq.symm (show U.vm.findClass ("[" ++ FieldType.long.toString) = some a from h)) h1)
def layZ (D : va_G) (h9 h10 : Nat) (u9 u10 : Uc) (cI cB cJ : ClassId) (t0 t1 t2 : Nat) : Lay := (D, fun k => [h9, u9.1 0, u9.1 1, u9.1 2, u9.1 3, u9.1 4, u9.1 5, u9.1 6, u9.1 7, u9.1 8, u9.1 9, u9.1 10, u9.1 11, u9.1 12, u9.1 13, u9.1 14, u9.1 15, u9.1 16, u9.1 17, u9.1 18, u9.1 19, u9.1 20, u9.1 21, u9.1 22, u9.1 23, u9.1 24, u9.1 25, u9.1 26, u9.1 27, u9.1 28, u9.1 29, u9.1 30, u9.1 31, u9.1 32, u9.1 33, u9.1 34, u9.1 35, u9.1 36, u9.1 37, u9.1 38, u9.1 39, u9.1 40, u9.1 41, u9.1 42, u9.1 43, u9.1 44, u9.1 45, u9.1 46, u9.1 47, u9.1 48, u9.1 49, h10, u10.1 0, u10.1 1, u10.1 2, u10.1 3, u10.1 4, u10.1 5, u10.1 6, u10.1 7, u10.1 8, u10.1 9, u10.1 10, u10.1 11, u10.1 12, u10.1 13, u10.1 14, u10.1 15, u10.1 16, u10.1 17, u10.1 18, u10.1 19, u10.1 20, u10.1 21, u10.1 22, u10.1 23, u10.1 24, u10.1 25, u10.1 26, u10.1 27, u10.1 28, u10.1 29, u10.1 30, u10.1 31, u10.1 32, u10.1 33, u10.1 34, u10.1 35, u10.1 36, u10.1 37, u10.1 38, u10.1 39, u10.1 40].getD k 0, fun k => [cI, cB, cJ].getD k 0, fun k => [t0, t1, t2].getD k 0)
set_option maxHeartbeats 8000000 in
set_option maxRecDepth 100000 in
theorem wd0 {D : va_G} {s : State} {h9 h10 : Nat} {u9 u10 : Uc} {cI cB cJ : ClassId} {t0 t1 t2 : Nat} (hK : va_K D vwCl (tyl9 u9 ++ tyl10 u10) s) (hI : va_RA s cI .int) (hB : va_RA s cB .boolean) (hJ : va_RA s cJ .long) : wld9 h9 u9 ++ wld10 h10 u10 (fillF (-1) 1001) (fillF (-1) 1001) (fillF 10 4) (fillF 10 20) = wd (layZ D h9 h10 u9 u10 cI cB cJ t0 t1 t2) M0 := by
  have au9_0 : u9.2 0 = cI := RA_I (hK.2 0 (u9.2 0, .int) rfl).2 hI
  have au9_1 : u9.2 1 = cI := RA_I (hK.2 1 (u9.2 1, .int) rfl).2 hI
  have au9_2 : u9.2 2 = cI := RA_I (hK.2 2 (u9.2 2, .int) rfl).2 hI
  have au9_3 : u9.2 3 = cI := RA_I (hK.2 3 (u9.2 3, .int) rfl).2 hI
  have au9_4 : u9.2 4 = cI := RA_I (hK.2 4 (u9.2 4, .int) rfl).2 hI
  have au9_5 : u9.2 5 = cI := RA_I (hK.2 5 (u9.2 5, .int) rfl).2 hI
  have au9_6 : u9.2 6 = cI := RA_I (hK.2 6 (u9.2 6, .int) rfl).2 hI
  have au9_7 : u9.2 7 = cI := RA_I (hK.2 7 (u9.2 7, .int) rfl).2 hI
  have au9_8 : u9.2 8 = cI := RA_I (hK.2 8 (u9.2 8, .int) rfl).2 hI
  have au9_9 : u9.2 9 = cB := RA_B (hK.2 9 (u9.2 9, .boolean) rfl).2 hB
  have au9_10 : u9.2 10 = cI := RA_I (hK.2 10 (u9.2 10, .int) rfl).2 hI
  have au9_11 : u9.2 11 = cI := RA_I (hK.2 11 (u9.2 11, .int) rfl).2 hI
  have au9_12 : u9.2 12 = cI := RA_I (hK.2 12 (u9.2 12, .int) rfl).2 hI
  have au9_13 : u9.2 13 = cI := RA_I (hK.2 13 (u9.2 13, .int) rfl).2 hI
  have au9_14 : u9.2 14 = cI := RA_I (hK.2 14 (u9.2 14, .int) rfl).2 hI
  have au9_15 : u9.2 15 = cI := RA_I (hK.2 15 (u9.2 15, .int) rfl).2 hI
  have au9_16 : u9.2 16 = cI := RA_I (hK.2 16 (u9.2 16, .int) rfl).2 hI
  have au9_17 : u9.2 17 = cI := RA_I (hK.2 17 (u9.2 17, .int) rfl).2 hI
  have au9_18 : u9.2 18 = cI := RA_I (hK.2 18 (u9.2 18, .int) rfl).2 hI
  have au9_19 : u9.2 19 = cI := RA_I (hK.2 19 (u9.2 19, .int) rfl).2 hI
  have au9_20 : u9.2 20 = cI := RA_I (hK.2 20 (u9.2 20, .int) rfl).2 hI
  have au9_21 : u9.2 21 = cI := RA_I (hK.2 21 (u9.2 21, .int) rfl).2 hI
  have au9_22 : u9.2 22 = cI := RA_I (hK.2 22 (u9.2 22, .int) rfl).2 hI
  have au9_23 : u9.2 23 = cI := RA_I (hK.2 23 (u9.2 23, .int) rfl).2 hI
  have au9_24 : u9.2 24 = cI := RA_I (hK.2 24 (u9.2 24, .int) rfl).2 hI
  have au9_25 : u9.2 25 = cI := RA_I (hK.2 25 (u9.2 25, .int) rfl).2 hI
  have au9_26 : u9.2 26 = cI := RA_I (hK.2 26 (u9.2 26, .int) rfl).2 hI
  have au9_27 : u9.2 27 = cI := RA_I (hK.2 27 (u9.2 27, .int) rfl).2 hI
  have au9_28 : u9.2 28 = cI := RA_I (hK.2 28 (u9.2 28, .int) rfl).2 hI
  have au9_29 : u9.2 29 = cI := RA_I (hK.2 29 (u9.2 29, .int) rfl).2 hI
  have au9_30 : u9.2 30 = cJ := RA_J (hK.2 30 (u9.2 30, .long) rfl).2 hJ
  have au9_31 : u9.2 31 = cJ := RA_J (hK.2 31 (u9.2 31, .long) rfl).2 hJ
  have au9_32 : u9.2 32 = cI := RA_I (hK.2 32 (u9.2 32, .int) rfl).2 hI
  have au9_33 : u9.2 33 = cI := RA_I (hK.2 33 (u9.2 33, .int) rfl).2 hI
  have au9_34 : u9.2 34 = cI := RA_I (hK.2 34 (u9.2 34, .int) rfl).2 hI
  have au9_35 : u9.2 35 = cI := RA_I (hK.2 35 (u9.2 35, .int) rfl).2 hI
  have au9_36 : u9.2 36 = cI := RA_I (hK.2 36 (u9.2 36, .int) rfl).2 hI
  have au9_37 : u9.2 37 = cI := RA_I (hK.2 37 (u9.2 37, .int) rfl).2 hI
  have au9_38 : u9.2 38 = cI := RA_I (hK.2 38 (u9.2 38, .int) rfl).2 hI
  have au9_39 : u9.2 39 = cI := RA_I (hK.2 39 (u9.2 39, .int) rfl).2 hI
  have au10_0 : u10.2 0 = cI := RA_I (hK.2 40 (u10.2 0, .int) rfl).2 hI
  have au10_1 : u10.2 1 = cI := RA_I (hK.2 41 (u10.2 1, .int) rfl).2 hI
  have au10_2 : u10.2 2 = cI := RA_I (hK.2 42 (u10.2 2, .int) rfl).2 hI
  have au10_3 : u10.2 3 = cI := RA_I (hK.2 43 (u10.2 3, .int) rfl).2 hI
  have au10_4 : u10.2 4 = cI := RA_I (hK.2 44 (u10.2 4, .int) rfl).2 hI
  have au10_5 : u10.2 5 = cI := RA_I (hK.2 45 (u10.2 5, .int) rfl).2 hI
  have au10_6 : u10.2 6 = cI := RA_I (hK.2 46 (u10.2 6, .int) rfl).2 hI
  have au10_7 : u10.2 7 = cI := RA_I (hK.2 47 (u10.2 7, .int) rfl).2 hI
  have au10_8 : u10.2 8 = cI := RA_I (hK.2 48 (u10.2 8, .int) rfl).2 hI
  have au10_9 : u10.2 9 = cI := RA_I (hK.2 49 (u10.2 9, .int) rfl).2 hI
  have au10_10 : u10.2 10 = cI := RA_I (hK.2 50 (u10.2 10, .int) rfl).2 hI
  have au10_11 : u10.2 11 = cB := RA_B (hK.2 51 (u10.2 11, .boolean) rfl).2 hB
  have au10_12 : u10.2 12 = cI := RA_I (hK.2 52 (u10.2 12, .int) rfl).2 hI
  have au10_13 : u10.2 13 = cI := RA_I (hK.2 53 (u10.2 13, .int) rfl).2 hI
  have au10_14 : u10.2 14 = cI := RA_I (hK.2 54 (u10.2 14, .int) rfl).2 hI
  have au10_15 : u10.2 15 = cI := RA_I (hK.2 55 (u10.2 15, .int) rfl).2 hI
  have au10_16 : u10.2 16 = cI := RA_I (hK.2 56 (u10.2 16, .int) rfl).2 hI
  have au10_17 : u10.2 17 = cI := RA_I (hK.2 57 (u10.2 17, .int) rfl).2 hI
  have au10_18 : u10.2 18 = cI := RA_I (hK.2 58 (u10.2 18, .int) rfl).2 hI
  have au10_19 : u10.2 19 = cI := RA_I (hK.2 59 (u10.2 19, .int) rfl).2 hI
  have au10_20 : u10.2 20 = cI := RA_I (hK.2 60 (u10.2 20, .int) rfl).2 hI
  have au10_21 : u10.2 21 = cI := RA_I (hK.2 61 (u10.2 21, .int) rfl).2 hI
  have au10_22 : u10.2 22 = cI := RA_I (hK.2 62 (u10.2 22, .int) rfl).2 hI
  have au10_23 : u10.2 23 = cI := RA_I (hK.2 63 (u10.2 23, .int) rfl).2 hI
  have au10_24 : u10.2 24 = cI := RA_I (hK.2 64 (u10.2 24, .int) rfl).2 hI
  have au10_25 : u10.2 25 = cI := RA_I (hK.2 65 (u10.2 25, .int) rfl).2 hI
  have au10_26 : u10.2 26 = cI := RA_I (hK.2 66 (u10.2 26, .int) rfl).2 hI
  have au10_27 : u10.2 27 = cI := RA_I (hK.2 67 (u10.2 27, .int) rfl).2 hI
  have au10_28 : u10.2 28 = cI := RA_I (hK.2 68 (u10.2 28, .int) rfl).2 hI
  have au10_29 : u10.2 29 = cI := RA_I (hK.2 69 (u10.2 29, .int) rfl).2 hI
  have au10_30 : u10.2 30 = cI := RA_I (hK.2 70 (u10.2 30, .int) rfl).2 hI
  have au10_31 : u10.2 31 = cI := RA_I (hK.2 71 (u10.2 31, .int) rfl).2 hI
  have au10_32 : u10.2 32 = cI := RA_I (hK.2 72 (u10.2 32, .int) rfl).2 hI
  have au10_33 : u10.2 33 = cI := RA_I (hK.2 73 (u10.2 33, .int) rfl).2 hI
  have au10_34 : u10.2 34 = cI := RA_I (hK.2 74 (u10.2 34, .int) rfl).2 hI
  have au10_35 : u10.2 35 = cI := RA_I (hK.2 75 (u10.2 35, .int) rfl).2 hI
  have au10_36 : u10.2 36 = cI := RA_I (hK.2 76 (u10.2 36, .int) rfl).2 hI
  have au10_37 : u10.2 37 = cI := RA_I (hK.2 77 (u10.2 37, .int) rfl).2 hI
  have au10_38 : u10.2 38 = cI := RA_I (hK.2 78 (u10.2 38, .int) rfl).2 hI
  have au10_39 : u10.2 39 = cI := RA_I (hK.2 79 (u10.2 39, .int) rfl).2 hI
  have au10_40 : u10.2 40 = cI := RA_I (hK.2 80 (u10.2 40, .int) rfl).2 hI
  simp only [wld9, wld10, au9_0, au9_1, au9_2, au9_3, au9_4, au9_5, au9_6, au9_7, au9_8, au9_9, au9_10, au9_11, au9_12, au9_13, au9_14, au9_15, au9_16, au9_17, au9_18, au9_19, au9_20, au9_21, au9_22, au9_23, au9_24, au9_25, au9_26, au9_27, au9_28, au9_29, au9_30, au9_31, au9_32, au9_33, au9_34, au9_35, au9_36, au9_37, au9_38, au9_39, au10_0, au10_1, au10_2, au10_3, au10_4, au10_5, au10_6, au10_7, au10_8, au10_9, au10_10, au10_11, au10_12, au10_13, au10_14, au10_15, au10_16, au10_17, au10_18, au10_19, au10_20, au10_21, au10_22, au10_23, au10_24, au10_25, au10_26, au10_27, au10_28, au10_29, au10_30, au10_31, au10_32, au10_33, au10_34, au10_35, au10_36, au10_37, au10_38, au10_39, au10_40]
  rfl
