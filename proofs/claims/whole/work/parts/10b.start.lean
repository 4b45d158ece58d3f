set_option maxHeartbeats 8000000 in
set_option maxRecDepth 100000 in
/-- THE LAW, from its entry: two objects are made; what they hold is one memory, for which the invariant stands -/
theorem whole_start {p : Program} {e : Env} {s : State} {m : MethodId} {below : List Frame} {meth : Method} {c : Code} (l : Launch) {b L : Nat} {xs : Nat → Int32} (hL : L ≤ 3584) (C0 : lw_At p s m meth c b L xs) : W p l e room_1 s m #[Value.ref b] below meth c s.heap [] 0 0 (lw_Z below #[Value.ref b] s) (entryFrame m ([Value.ref b] : List Value).toArray 4) := by
  obtain ⟨hx, hb, hr, hml, hown, hts, hX, hbl, hlocks, hgv⟩ := id C0
  have hown : s.vm.findClass RL = some m.cls := hown
  have hb : c.code = cL_law := hb
  have htG : ∀ w ∈ tbG, w.before #[Value.ref b] s = true := fun w hw => hts w (List.mem_filter.mp hw).1
  have hA : ∀ q : Nat, s.heap.size ≤ q → (fun q : Nat => s.heap.size ≤ q) q := fun _ h => h
  obtain ⟨D, hKn⟩ := known_all htG
  obtain ⟨t0, t1, t2, ⟨Z0, T0⟩, ⟨Z1, T1⟩, Z2, T2⟩ := tabs_all hts hgv
  have hS : va_S (fun q : Nat => s.heap.size ≤ q) s.heap s.heap [] := va_S.rf
  have hKc : va_K D vwCl [] s := ⟨hKn, fun k q h => by simp at h⟩
  have hP : va_P D vwCl [] s.heap := fun k q h => by simp at h
  have hD : va_D (fun q : Nat => s.heap.size ≤ q) [] := ⟨fun i j p q h => by simp at h, fun k q h => by simp at h⟩
  have hl := lv_entry ([.ref b]) (n := 4) (Nat.le_of_ble_eq_true rfl)
  rw [lg_entry_eq]
  generalize (lg_sl ([.ref b]) ++ List.replicate (4 - (lg_sl ([.ref b])).length) Slot.unset).toArray = ls at hl ⊢
  have hl : lv_has ls 4 [(0, .ref b)] := hl
  refine va_new (D := D) (cl := vwCl) (ci := 9) (fs := [.int 0, .null, .null, .null, .null, .null, .null, .null, .null, .null, .null, .null, .null, .null, .null, .null]) (C := RX9) (T := TX9) (N := 16) hx hb htG iX9 tyX9 tyX9_ok hown (htG _ clL_7) (htG _ nsX9) (htG _ inX9) hKc hP hD hS hA rfl (fun j hj => by
    match j, hj with
    | 0, _ => rfl
    | 1, _ => rfl
    | 2, _ => rfl
    | 3, _ => rfl
    | 4, _ => rfl
    | 5, _ => rfl
    | 6, _ => rfl
    | 7, _ => rfl
    | 8, _ => rfl
    | 9, _ => rfl
    | 10, _ => rfl
    | 11, _ => rfl
    | 12, _ => rfl
    | 13, _ => rfl
    | 14, _ => rfl
    | 15, _ => rfl
    | j + 16, hj => exact absurd hj (by omega)) (Nat.le_of_ble_eq_true rfl) (Nat.le_of_ble_eq_true rfl) dL_law_0 (fun h9 H hP hD hS => ?_)
  have hPc : va_P D vwCl [(h9, .inr (9, [.int 0, .null, .null, .null, .null, .null, .null, .null, .null, .null, .null, .null, .null, .null, .null, .null]))] H := hP
  have hDc : va_D (fun q : Nat => s.heap.size ≤ q) [(h9, .inr (9, [.int 0, .null, .null, .null, .null, .null, .null, .null, .null, .null, .null, .null, .null, .null, .null, .null]))] := hD
  refine W.widen (k := 1) (n := 16) (by omega) (by omega) ?_
  refine lv_dup hx hb dL_law_3 rfl ?_
  have hFc := va_free (wc := [(h9, .inr (9, [.int 0, .null, .null, .null, .null, .null, .null, .null, .null, .null, .null, .null, .null, .null, .null, .null]))]) hDc hS hA [0] rfl
  refine va_callv (va_runI (As := []) (rest := [.ref h9]) (n := 0) ⟨hx, hb, hml, hown, htG⟩ (kcX9 l D h9 H.size) (cwI 0 htG (tbG_good nc_X9) rfl rfl rfl (htG _ inX9) (htG _ mlL_9) (htG _ nm_X9) rfl ⟨by decide +kernel, by decide +kernel, by decide +kernel⟩ ⟨Nat.le_of_ble_eq_true rfl, Nat.le_of_ble_eq_true rfl⟩) ⟨fun a U g mk q => by obtain ⟨q0, q1, qP, qK, qD, qN⟩ := q; exact ⟨q0, q1, qP, va_K.moved (u := U) (U := U.calling g mk a) (Vm.Alike.refl U.vm) qK, qD, fun w hw => va_Nw.same (nst9_tab w hw) (u := U) (U := U.calling g mk a) rfl (qN w hw)⟩, fun U hU hW => ⟨rfl, by rw [hU], by rw [hU]; exact hPc, va_K.moved hW.alike hKc, hDc.weaken (fun _ _ _ _ => trivial), nst9_warm hts hW⟩⟩ rfl rfl hl.1 rfl (lv_room (Nat.le_of_ble_eq_true rfl)) dL_law_4 ⟨Nat.le_of_ble_eq_true rfl, Nat.le_of_ble_eq_true rfl⟩) hS (fun q _ h => hFc q h) hFc (fun u9 t H1 locs ht hvm hw hB hz1 hk1 hS => ?_)
  obtain ⟨hP1, hK1, hD1⟩ := hB
  rw [ht] at hP1
  have hK1 := va_K.moved hvm.symm hK1
  obtain ⟨hP, hD⟩ := va_join (wr := []) (w1 := wld9 h9 u9) hPc hDc [0] [] rfl rfl rfl (by decide) hk1 hFc hP1 hD1
  have hP : va_P D vwCl (wld9 h9 u9) H1 := hP
  have hD : va_D (fun q : Nat => s.heap.size ≤ q) (wld9 h9 u9) := hD
  have hK9 : va_K D vwCl (tyl9 u9) s := hK1
  refine W.widen (k := 51) (n := 3127) (by omega) (by omega) ?_
  clear hPc hDc hFc hP1 hK1 hD1 hk1 hz1
  refine lv_astore_n (lv' := [(1, .ref h9), (0, .ref b)]) hx hb dL_law_7 rfl hl (by decide) rfl (fun ls hl => ?_)
  refine va_new (D := D) (cl := vwCl) (ci := 10) (fs := [.null, .null, .null, .null, .int 0, .int 0, .int 0, .int 0, .int 0, .int 0, .int 0, .int 0, .int 0, .int 0, .int 0, .int 0, .int 0, .null, .null, .null, .null, .null, .null, .null, .null, .null, .null, .null, .null, .null, .null, .null, .null, .null, .null, .null, .null, .null, .null, .null, .null, .null, .null, .null, .null, .null, .null, .null, .null, .null, .null, .null, .int 0, .null, .null, .int 0, .int 0, .int 0]) (C := RX10) (T := TX10) (N := 58) hx hb htG iX10 tyX10 tyX10_ok hown (htG _ clL_10) (htG _ nsX10) (htG _ inX10) hKc hP hD hS hA rfl (fun j hj => by
    match j, hj with
    | 0, _ => rfl
    | 1, _ => rfl
    | 2, _ => rfl
    | 3, _ => rfl
    | 4, _ => rfl
    | 5, _ => rfl
    | 6, _ => rfl
    | 7, _ => rfl
    | 8, _ => rfl
    | 9, _ => rfl
    | 10, _ => rfl
    | 11, _ => rfl
    | 12, _ => rfl
    | 13, _ => rfl
    | 14, _ => rfl
    | 15, _ => rfl
    | 16, _ => rfl
    | 17, _ => rfl
    | 18, _ => rfl
    | 19, _ => rfl
    | 20, _ => rfl
    | 21, _ => rfl
    | 22, _ => rfl
    | 23, _ => rfl
    | 24, _ => rfl
    | 25, _ => rfl
    | 26, _ => rfl
    | 27, _ => rfl
    | 28, _ => rfl
    | 29, _ => rfl
    | 30, _ => rfl
    | 31, _ => rfl
    | 32, _ => rfl
    | 33, _ => rfl
    | 34, _ => rfl
    | 35, _ => rfl
    | 36, _ => rfl
    | 37, _ => rfl
    | 38, _ => rfl
    | 39, _ => rfl
    | 40, _ => rfl
    | 41, _ => rfl
    | 42, _ => rfl
    | 43, _ => rfl
    | 44, _ => rfl
    | 45, _ => rfl
    | 46, _ => rfl
    | 47, _ => rfl
    | 48, _ => rfl
    | 49, _ => rfl
    | 50, _ => rfl
    | 51, _ => rfl
    | 52, _ => rfl
    | 53, _ => rfl
    | 54, _ => rfl
    | 55, _ => rfl
    | 56, _ => rfl
    | 57, _ => rfl
    | j + 58, hj => exact absurd hj (by omega)) (Nat.le_of_ble_eq_true rfl) (Nat.le_of_ble_eq_true rfl) dL_law_8 (fun h10 H hP hD hS => ?_)
  refine W.widen (k := 52) (n := 3185) (by omega) (by omega) ?_
  refine lv_dup hx hb dL_law_11 rfl ?_
  have hi : [51].map (fun i => (wld9 h9 u9 ++ [(h10, .inr (10, [.null, .null, .null, .null, .int 0, .int 0, .int 0, .int 0, .int 0, .int 0, .int 0, .int 0, .int 0, .int 0, .int 0, .int 0, .int 0, .null, .null, .null, .null, .null, .null, .null, .null, .null, .null, .null, .null, .null, .null, .null, .null, .null, .null, .null, .null, .null, .null, .null, .null, .null, .null, .null, .null, .null, .null, .null, .null, .null, .null, .null, .int 0, .null, .null, .int 0, .int 0, .int 0]))])[i]?) = [(h10, .inr (10, [.null, .null, .null, .null, .int 0, .int 0, .int 0, .int 0, .int 0, .int 0, .int 0, .int 0, .int 0, .int 0, .int 0, .int 0, .int 0, .null, .null, .null, .null, .null, .null, .null, .null, .null, .null, .null, .null, .null, .null, .null, .null, .null, .null, .null, .null, .null, .null, .null, .null, .null, .null, .null, .null, .null, .null, .null, .null, .null, .null, .null, .int 0, .null, .null, .int 0, .int 0, .int 0]))].map some := rfl
  have hi9 : [0, 1, 2, 3, 4, 5, 6, 7, 8, 9, 10, 11, 12, 13, 14, 15, 16, 17, 18, 19, 20, 21, 22, 23, 24, 25, 26, 27, 28, 29, 30, 31, 32, 33, 34, 35, 36, 37, 38, 39, 40, 41, 42, 43, 44, 45, 46, 47, 48, 49, 50].map (fun i => (wld9 h9 u9 ++ [(h10, .inr (10, [.null, .null, .null, .null, .int 0, .int 0, .int 0, .int 0, .int 0, .int 0, .int 0, .int 0, .int 0, .int 0, .int 0, .int 0, .int 0, .null, .null, .null, .null, .null, .null, .null, .null, .null, .null, .null, .null, .null, .null, .null, .null, .null, .null, .null, .null, .null, .null, .null, .null, .null, .null, .null, .null, .null, .null, .null, .null, .null, .null, .null, .int 0, .null, .null, .int 0, .int 0, .int 0]))])[i]?) = (wld9 h9 u9).map some := rfl
  have hPc : va_P D vwCl [(h10, .inr (10, [.null, .null, .null, .null, .int 0, .int 0, .int 0, .int 0, .int 0, .int 0, .int 0, .int 0, .int 0, .int 0, .int 0, .int 0, .int 0, .null, .null, .null, .null, .null, .null, .null, .null, .null, .null, .null, .null, .null, .null, .null, .null, .null, .null, .null, .null, .null, .null, .null, .null, .null, .null, .null, .null, .null, .null, .null, .null, .null, .null, .null, .int 0, .null, .null, .int 0, .int 0, .int 0]))] H := hP.sub [51] rfl
  have hDc : va_D (fun q : Nat => s.heap.size ≤ q) [(h10, .inr (10, [.null, .null, .null, .null, .int 0, .int 0, .int 0, .int 0, .int 0, .int 0, .int 0, .int 0, .int 0, .int 0, .int 0, .int 0, .int 0, .null, .null, .null, .null, .null, .null, .null, .null, .null, .null, .null, .null, .null, .null, .null, .null, .null, .null, .null, .null, .null, .null, .null, .null, .null, .null, .null, .null, .null, .null, .null, .null, .null, .null, .null, .int 0, .null, .null, .int 0, .int 0, .int 0]))] := hD.sub [51] rfl hi
  have hFc := va_free (wc := [(h10, .inr (10, [.null, .null, .null, .null, .int 0, .int 0, .int 0, .int 0, .int 0, .int 0, .int 0, .int 0, .int 0, .int 0, .int 0, .int 0, .int 0, .null, .null, .null, .null, .null, .null, .null, .null, .null, .null, .null, .null, .null, .null, .null, .null, .null, .null, .null, .null, .null, .null, .null, .null, .null, .null, .null, .null, .null, .null, .null, .null, .null, .null, .null, .int 0, .null, .null, .int 0, .int 0, .int 0]))]) hD hS hA [51] hi
  refine va_callv (va_runI (As := []) (rest := [.ref h10]) (n := 0) ⟨hx, hb, hml, hown, htG⟩ (kcX10 l D h10 H.size) (cwI 0 htG (tbG_good nc_X10) rfl rfl rfl (htG _ inX10) (htG _ mlL_12) (htG _ nm_X10) rfl ⟨by decide +kernel, by decide +kernel, by decide +kernel⟩ ⟨Nat.le_of_ble_eq_true rfl, Nat.le_of_ble_eq_true rfl⟩) ⟨fun a U g mk q => by obtain ⟨q0, q1, qP, qK, qD⟩ := q; exact ⟨q0, q1, qP, va_K.moved (u := U) (U := U.calling g mk a) (Vm.Alike.refl U.vm) qK, qD⟩, fun U hU hW => ⟨rfl, by rw [hU], by rw [hU]; exact hPc, va_K.moved hW.alike hKc, hDc.weaken (fun _ _ _ _ => trivial)⟩⟩ rfl rfl hl.1 rfl (lv_room (Nat.le_of_ble_eq_true rfl)) dL_law_12 ⟨Nat.le_of_ble_eq_true rfl, Nat.le_of_ble_eq_true rfl⟩) hS (fun q _ h => hFc q h) hFc (fun u10 t H1 locs ht hvm hw hB hz1 hk1 hS => ?_)
  obtain ⟨hP1, hK1, hD1⟩ := hB
  rw [ht] at hP1
  have hK1 := va_K.moved hvm.symm hK1
  obtain ⟨hP, hD⟩ := va_join (wr := wld9 h9 u9) (w1 := wld10 h10 u10 (fillF (-1) 1001) (fillF (-1) 1001) (fillF 10 4) (fillF 10 20)) hP hD [51] [0, 1, 2, 3, 4, 5, 6, 7, 8, 9, 10, 11, 12, 13, 14, 15, 16, 17, 18, 19, 20, 21, 22, 23, 24, 25, 26, 27, 28, 29, 30, 31, 32, 33, 34, 35, 36, 37, 38, 39, 40, 41, 42, 43, 44, 45, 46, 47, 48, 49, 50] hi hi9 rfl (by decide) hk1 hFc hP1 hD1
  have hK : va_K D vwCl (tyl9 u9 ++ tyl10 u10) s := hK9.app hK1
  have hI : va_RA s (u9.2 0) .int := (hK.2 0 (u9.2 0, .int) rfl).2
  have hB : va_RA s (u9.2 9) .boolean := (hK.2 9 (u9.2 9, .boolean) rfl).2
  have hJ : va_RA s (u9.2 30) .long := (hK.2 30 (u9.2 30, .long) rfl).2
  rw [wd0 (t0 := t0) (t1 := t1) (t2 := t2) hK hI hB hJ] at hP hD
  have hKz : va_K D vwCl (tysZ (layZ D h9 h10 u9 u10 (u9.2 0) (u9.2 9) (u9.2 30) t0 t1 t2)) s := hK.sub [0, 9, 30] rfl
  obtain ⟨z, hz⟩ : ∃ z : Lay, z = (layZ D h9 h10 u9 u10 (u9.2 0) (u9.2 9) (u9.2 30) t0 t1 t2) := ⟨_, rfl⟩
  have hz1 : z.1 = D := by rw [hz]; rfl
  have ha0 : z.2.1 0 = h9 := by rw [hz]; rfl
  have ha1 : z.2.1 51 = h10 := by rw [hz]; rfl
  have hq0 : z.2.2.2 0 = t0 := by rw [hz]; rfl
  have hq1 : z.2.2.2 1 = t1 := by rw [hz]; rfl
  have hq2 : z.2.2.2 2 = t2 := by rw [hz]; rfl
  rw [← hz] at hP hD hKz
  rw [← hz1] at hP hKz
  have hat : ∀ k, k < nC → ∃ q : va_E, (wd z M0)[k]? = some (z.2.1 k, q) := fun k hk => by
    have hk2 : k < shp.length := by rw [shp_len]; exact hk
    exact ⟨_, wd_at (List.getElem?_eq_getElem hk2)⟩
  have hDz : Dz z := fun i j hi hj hij => by
    obtain ⟨q, h1⟩ := hat i hi
    obtain ⟨r, h2⟩ := hat j hj
    exact hD.1 i j _ _ h1 h2 hij
  have hAz : ∀ q, Az z q → s.heap.size ≤ q := fun q hq => by
    obtain ⟨k, hk, rfl⟩ := hq
    obtain ⟨r, h1⟩ := hat k hk
    exact hD.2 k _ h1
  have hSz : Sz z s s.heap := by
    refine ⟨⟨?_, ?_⟩, ⟨?_, ?_⟩, ?_, ?_⟩
    · rw [hq0]; exact Z0.narrow hAz
    · rw [hq0]; exact T0.narrow hAz
    · rw [hq1]; exact Z1.narrow hAz
    · rw [hq1]; exact T1.narrow hAz
    · rw [hq2]; exact Z2.narrow hAz
    · rw [hq2]; exact T2.narrow hAz
  refine W.widen (k := 93) (n := 43160) (by omega) (by omega) ?_
  refine lv_astore_n (lv' := [(2, .ref h10), (1, .ref h9), (0, .ref b)]) hx hb dL_law_15 rfl hl (by decide) rfl (fun ls hl => ?_)
  refine lv_iconst (v := 0) hx hb dL_law_16 (by decide) ?_
  refine lv_istore_n (lv' := [(3, .int (nI 0)), (2, .ref h10), (1, .ref h9), (0, .ref b)]) hx hb dL_law_17 rfl hl (by decide) rfl (fun ls hl => ?_)
  refine va_forget (fun q hq => hS.2.2 q hq) ?_
  have hlz : lv_has ls 4 (LV z b 0) := by
    show lv_has ls 4 [(3, .int (nI 0)), (0, .ref b), (1, .ref (z.2.1 0)), (2, .ref (z.2.1 51))]
    rw [ha0, ha1]
    exact lv_sub hl [0, 3, 2, 1] rfl
  have hok : okl (p, l, e, room_1, s, m, #[Value.ref b], below, meth, c, 93, 43160, lw_Z below #[Value.ref b] s) z b L xs := ⟨⟨hx, hb, hown, htG, hKz, hDz, hSz, hml, Nat.le_of_ble_eq_true rfl, Nat.le_of_ble_eq_true rfl, Nat.le_of_ble_eq_true rfl, Nat.le_of_ble_eq_true rfl⟩, hX, hbl, hAz, hr, hlocks, rfl, rfl, Nat.le_of_ble_eq_true rfl, Nat.le_of_ble_eq_true rfl, rfl⟩
  exact law_loop hok hL (L + 8) 0 M0 (by omega) (by omega) Inv_M0 H1 [] ls hlz hP ⟨hS.1, fun q h1 h2 => hS.2.1 q h1 (fun h3 => absurd h1 (Nat.not_lt.mpr h3)), fun _ h => by cases h⟩
