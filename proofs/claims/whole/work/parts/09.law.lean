/-! THE CLAIM OUT OF ONE WALK OF THE LAW'S BODY. Your part is whole_start (and what it stands on); all else here is the same for every law, but numbers. -/
def R_law : String := "LineWalkersLaw"
def lw_P (b : Addr) (xs : List Int32) (args : Array Value) (s : State) : Prop := args = #[.ref b] ∧ s.IntsAt b xs ∧ xs.length ≤ 3584 ∧ (Jvm.Cond.and given_1 narrow_1).before args s = true
def lw_Q (_ : Array Value) (s : State) (o : Outcome) (t : State) : Prop := o = .returned (some (.int 1)) ∧ Framed s o t [] 600000 7302250
def lw_Z (below : List Frame) (a : Array Value) (s : State) : State → Prop := fun t => ∃ o, t.status = .running ∧ Ended t below o ∧ lw_Q a s o t
/-- the law's own end, with 1 on the stack, nothing written that was there before, its room as the claim has it -/
theorem lw_ret {p : Program} {l : Launch} {e : Env} {s : State} {m : MethodId} {below : List Frame} {meth : Method} {c : Code} {b : Nat} (hx : p.tables.exec = Jvm.exec) (hb : c.code = code) (hr : meth.sig.returnType = ret) (hlocks : meth.locks = false) {pc : Nat} {H : Heap} {ls : Array Slot} (hdg : decode code pc = .ok (.ireturn, 1)) : W p l e room_1 s m #[Value.ref b] below meth c H [] 600000 7302250 (lw_Z below #[Value.ref b] s) (F0 m pc ls [.int 1]) := by
  intro T hT X
  obtain ⟨fs, hret, hrun, hended, hW, hframe⟩ := X.leave (v := some (.int 1)) (hlocks := hlocks) (fun h => by rw [hr] at h; cases h)
  have hmeth' : T.vm.method? m = some meth := X.method'
  refine ⟨T.setFrames fs, ?_, .returned (some (.int 1)), hrun, hended, rfl, ⟨_, rfl⟩, hW, hframe⟩
  jvm_step X.here [X.here.top, hx, hb, hdg, hmeth', hr, ret, narrow_b1]
  (try refine ⟨rfl, ?_⟩); (try refine ⟨rfl, ?_⟩)
  first | (intro acts; rw [hret _ acts rfl rfl rfl]) | rw [hret _ _ rfl rfl rfl]
  exact Steps.refl _
/-- what holds at the law's entry: the machine, the code, the tables' words (any of lw_tbl by 'hts w (by decide +kernel)'), the script of L ints xs at the cell b, what the Statement gives of the start (any of its parts by flat_of_before) -/
def lw_At (p : Program) (s : State) (m : MethodId) (meth : Method) (c : Code) (b L : Nat) (xs : Nat → Int32) : Prop :=
  p.tables.exec = Jvm.exec ∧ c.code = code ∧ meth.sig.returnType = ret ∧ c.maxLocals = 4 ∧ s.vm.findClass R_law = some m.cls ∧ (∀ w ∈ lw_tbl, w.before #[Value.ref b] s = true) ∧ va_X b L xs s s.heap ∧ b < s.heap.size ∧ meth.locks = false ∧ (Jvm.Cond.and given_1 narrow_1).before #[Value.ref b] s = true
/-- what holds in the law's frame -/
def okl (x : Cx) (z : Lay) (b L : Nat) (xs : Nat → Int32) : Prop := okc x z cL_law RL 4 8 ∧ match x with
  | (_, _, _, R, s, _, args, below, meth, _, cells, slots, Q) => va_X b L xs s s.heap ∧ b < s.heap.size ∧ (∀ q, Az z q → s.heap.size ≤ q) ∧ meth.sig.returnType = ret ∧ meth.locks = false ∧ R = room_1 ∧ args = #[Value.ref b] ∧ cells ≤ 600000 ∧ slots ≤ 7302250 ∧ Q = lw_Z below #[Value.ref b] s
def LV (z : Lay) (b i : Nat) : List (Nat × Value) := [(3, .int (nI i)), (0, .ref b), (1, .ref (z.2.1 0)), (2, .ref (z.2.1 51))]
section LAW
variable {x : Cx} {z : Lay} {b L : Nat} {xs : Nat → Int32} {pc : Nat} {lv : List (Nat × Value)} {st : List Value} {M : Mem}
theorem g_slen (h : okl x z b L xs) (hd : decode cL_law pc = .ok (.arraylength, 1)) (kk : G x z 4 (pc + 1) lv (.int (nI L) :: st) M) : G x z 4 pc lv (.ref b :: st) M := by
  obtain ⟨p, l, e, R, s, m, args, below, meth, c, cells, slots, Q⟩ := x
  obtain ⟨⟨hx, hb, hown, hts, hK, hD, hZ, hml, hr1, hr2, hr3, hr4⟩, hX, hbl, hA, -⟩ := h
  intro H locs ls hl hP hS
  exact va_slen hx hb hX hbl (fun q => absurd (hA _ q) (Nat.not_le.mpr hbl)) hS hd (kk H locs ls hl hP hS)
theorem g_sld (h : okl x z b L xs) {k : Nat} (hk : k < L) (hL : L ≤ 3584) (hd : decode cL_law pc = .ok (.iaload, 1)) (kk : G x z 4 (pc + 1) lv (.int (xs k) :: st) M) : G x z 4 pc lv (.int (nI k) :: .ref b :: st) M := by
  obtain ⟨p, l, e, R, s, m, args, below, meth, c, cells, slots, Q⟩ := x
  obtain ⟨⟨hx, hb, hown, hts, hK, hD, hZ, hml, hr1, hr2, hr3, hr4⟩, hX, hbl, hA, -⟩ := h
  intro H locs ls hl hP hS
  have e : (nI k).toNatClampNeg = k := nI_clamp (by omega)
  have := va_sld (rest := st) hx hb hX hbl (fun q => absurd (hA _ q) (Nat.not_le.mpr hbl)) hS (i := nI k) (vp_in_nI hk (by omega)) hd (by rw [e]; exact kk H locs ls hl hP hS)
  exact this
theorem g_arg (h : okl x z b L xs) {i k : Nat} {n : Int} (hL : L ≤ 3584) (hi : i + 7 ≤ L) (hk : k < 7) (hn : Int32.ofInt n = nI k) (d0 : decode cL_law pc = .ok (.aload_n 0, 1)) (d1 : decode cL_law (pc + 1) = .ok (.iload_n 3, 1)) (d2 : decode cL_law (pc + 2) = .ok (.iconst n, 1)) (d3 : decode cL_law (pc + 3) = .ok (.iadd, 1)) (d4 : decode cL_law (pc + 4) = .ok (.iaload, 1)) (kk : G x z 4 (pc + 5) (LV z b i) (.int (xs (i + k)) :: st) M) : G x z 4 pc (LV z b i) st M := by
  refine g_aload_n h.1 1 d0 rfl ?_
  refine g_iload_n h.1 0 d1 rfl ?_
  refine g_iconst h.1 (nI k) d2 hn ?_
  refine g_iadd h.1 d3 ?_
  rw [nI_add]
  exact g_sld h (by omega) hL d4 kk
theorem g_argB (h : okl x z b L xs) {i k : Nat} {n : Int} (hL : L ≤ 3584) (hi : i + 7 ≤ L) (hk : k < 7) (hn : (Int8.ofInt n).toInt32 = nI k) (d0 : decode cL_law pc = .ok (.aload_n 0, 1)) (d1 : decode cL_law (pc + 1) = .ok (.iload_n 3, 1)) (d2 : decode cL_law (pc + 2) = .ok (.bipush n, 2)) (d3 : decode cL_law (pc + 4) = .ok (.iadd, 1)) (d4 : decode cL_law (pc + 5) = .ok (.iaload, 1)) (kk : G x z 4 (pc + 6) (LV z b i) (.int (xs (i + k)) :: st) M) : G x z 4 pc (LV z b i) st M := by
  refine g_aload_n h.1 1 d0 rfl ?_
  refine g_iload_n h.1 0 d1 rfl ?_
  refine g_bipush h.1 (nI k) d2 hn ?_
  refine g_iadd h.1 d3 ?_
  rw [nI_add]
  exact g_sld h (by omega) hL d4 kk
theorem g_eqGo (h : okl x z b L xs) {a : Int32} {off : Int} {tgt : Nat} (hd : decode cL_law pc = .ok (.if_icmp .eq off, 3)) (ht : (pc : Int) + off = (tgt : Int)) (kk : G x z 4 tgt lv st M) : G x z 4 pc lv (.int a :: .int a :: st) M :=
  g_icmpeq (ρ := Unit) (A := some ()) (B := none) (r := ()) h.1 hd ht (if_pos rfl) (fun _ => kk) (fun q => by cases q)
theorem g_tabIn (h : okl x z b L xs) {dflt lo hi off : Int} {offs : Array Int} {len tgt : Nat} {v : Int32} (hd : decode cL_law pc = .ok (.tableswitch dflt lo hi offs, len)) (h1 : ¬ v.toInt < lo) (h2 : ¬ hi < v.toInt) (ho : offs[(v.toInt - lo).toNat]? = some off) (ht : (pc : Int) + off = (tgt : Int)) (kk : G x z 4 tgt lv st M) : G x z 4 pc lv (.int v :: st) M := by
  obtain ⟨p, l, e, R, s, m, args, below, meth, c, cells, slots, Q⟩ := x
  obtain ⟨⟨hx, hb, hown, hts, hK, hD, hZ, hml, hr1, hr2, hr3, hr4⟩, -⟩ := h
  intro H locs ls hl hP hS
  exact lv_tableIn hx hb hd h1 h2 ho ht (kk H locs ls hl hP hS)
theorem g_tabOut (h : okl x z b L xs) {dflt lo hi : Int} {offs : Array Int} {len tgt : Nat} {v : Int32} (hd : decode cL_law pc = .ok (.tableswitch dflt lo hi offs, len)) (h1 : v.toInt < lo ∨ hi < v.toInt) (ht : (pc : Int) + dflt = (tgt : Int)) (kk : G x z 4 tgt lv st M) : G x z 4 pc lv (.int v :: st) M := by
  obtain ⟨p, l, e, R, s, m, args, below, meth, c, cells, slots, Q⟩ := x
  obtain ⟨⟨hx, hb, hown, hts, hK, hD, hZ, hml, hr1, hr2, hr3, hr4⟩, -⟩ := h
  intro H locs ls hl hP hS
  exact lv_tableOut hx hb hd h1 ht (kk H locs ls hl hP hS)
theorem g_lend (h : okl x z b L xs) : G x z 4 1395 lv [] M := by
  refine g_iconst h.1 1 dL_law_1395 (by decide) ?_
  obtain ⟨p, l, e, R, s, m, args, below, meth, c, cells, slots, Q⟩ := x
  obtain ⟨⟨hx, hb, hown, hts, hK, hD, hZ, hml, hr1, hr2, hr3, hr4⟩, hX, hbl, hA, e1, e2, e3, e4, e5, e6, e7⟩ := h
  subst e3; subst e4; subst e7
  intro H locs ls hl hP hS
  refine va_forget (fun q hq => hA _ (hS.2.2 q hq)) ?_
  refine W.widen (k := 600000) (n := 7302250) e5 e6 ?_
  exact lw_ret hx hb e1 e2 dL_law_1396
theorem law_0 (h : okl x z b L xs) (hL : L ≤ 3584) {i : Nat} (hi : i + 7 ≤ L) (hI : Inv M) (kk : ∀ M' : Mem, Inv M' → G x z 4 1389 (LV z b i) [] M') : G x z 4 196 (LV z b i) [] M := by
  obtain ⟨r, M1, e1, M2, e2, hI2⟩ := op_day hI (xs (i + 1)) (xs (i + 2)) (xs (i + 3))
  refine g_aload_n h.1 2 dL_law_196 rfl ?_
  refine g_arg h (k := 1) hL hi (by decide) rfl dL_law_197 dL_law_198 dL_law_199 dL_law_200 dL_law_201 ?_
  refine g_arg h (k := 2) hL hi (by decide) rfl dL_law_202 dL_law_203 dL_law_204 dL_law_205 dL_law_206 ?_
  refine g_arg h (k := 3) hL hi (by decide) rfl dL_law_207 dL_law_208 dL_law_209 dL_law_210 dL_law_211 ?_
  refine g_callVi h.1 [.int (xs (i + 1)), .int (xs (i + 2)), .int (xs (i + 3))] _ sh0 rfl mtX9_day mlL_13 (by decide) (by decide) rfl rfl (Nat.le_of_ble_eq_true rfl) dL_law_212 (kX9_day _ z M (xs (i + 1)) (xs (i + 2)) (xs (i + 3)) (r, M1) e1) ?_
  refine g_aload_n h.1 3 dL_law_215 rfl ?_
  refine g_arg h (k := 1) hL hi (by decide) rfl dL_law_216 dL_law_217 dL_law_218 dL_law_219 dL_law_220 ?_
  refine g_arg h (k := 2) hL hi (by decide) rfl dL_law_221 dL_law_222 dL_law_223 dL_law_224 dL_law_225 ?_
  refine g_arg h (k := 3) hL hi (by decide) rfl dL_law_226 dL_law_227 dL_law_228 dL_law_229 dL_law_230 ?_
  refine g_callVi h.1 [.int (xs (i + 1)), .int (xs (i + 2)), .int (xs (i + 3))] _ sh51 rfl mtX10_day mlL_17 (by decide) (by decide) rfl rfl (Nat.le_of_ble_eq_true rfl) dL_law_231 (kX10_day _ z M1 (xs (i + 1)) (xs (i + 2)) (xs (i + 3)) (r, M2) e2) ?_
  refine g_eqGo h dL_law_234 (tgt := 1389) (by decide) ?_
  exact kk M2 hI2
theorem law_1 (h : okl x z b L xs) (hL : L ≤ 3584) {i : Nat} (hi : i + 7 ≤ L) (hI : Inv M) (kk : ∀ M' : Mem, Inv M' → G x z 4 1389 (LV z b i) [] M') : G x z 4 239 (LV z b i) [] M := by
  obtain ⟨r, M1, e1, M2, e2, hI2⟩ := op_dayOf hI (xs (i + 1)) (xs (i + 2))
  refine g_aload_n h.1 2 dL_law_239 rfl ?_
  refine g_arg h (k := 1) hL hi (by decide) rfl dL_law_240 dL_law_241 dL_law_242 dL_law_243 dL_law_244 ?_
  refine g_arg h (k := 2) hL hi (by decide) rfl dL_law_245 dL_law_246 dL_law_247 dL_law_248 dL_law_249 ?_
  refine g_callVi h.1 [.int (xs (i + 1)), .int (xs (i + 2))] _ sh0 rfl mtX9_dayOf mlL_18 (by decide) (by decide) rfl rfl (Nat.le_of_ble_eq_true rfl) dL_law_250 (kX9_dayOf _ z M (xs (i + 1)) (xs (i + 2)) (r, M1) e1) ?_
  refine g_aload_n h.1 3 dL_law_253 rfl ?_
  refine g_arg h (k := 1) hL hi (by decide) rfl dL_law_254 dL_law_255 dL_law_256 dL_law_257 dL_law_258 ?_
  refine g_arg h (k := 2) hL hi (by decide) rfl dL_law_259 dL_law_260 dL_law_261 dL_law_262 dL_law_263 ?_
  refine g_callVi h.1 [.int (xs (i + 1)), .int (xs (i + 2))] _ sh51 rfl mtX10_dayOf mlL_22 (by decide) (by decide) rfl rfl (Nat.le_of_ble_eq_true rfl) dL_law_264 (kX10_dayOf _ z M1 (xs (i + 1)) (xs (i + 2)) (r, M2) e2) ?_
  refine g_eqGo h dL_law_267 (tgt := 1389) (by decide) ?_
  exact kk M2 hI2
theorem law_2 (h : okl x z b L xs) (hL : L ≤ 3584) {i : Nat} (hi : i + 7 ≤ L) (hI : Inv M) (kk : ∀ M' : Mem, Inv M' → G x z 4 1389 (LV z b i) [] M') : G x z 4 272 (LV z b i) [] M := by
  obtain ⟨r, M1, e1, M2, e2, hI2⟩ := op_growth hI (xs (i + 1)) (xs (i + 2))
  refine g_aload_n h.1 2 dL_law_272 rfl ?_
  refine g_arg h (k := 1) hL hi (by decide) rfl dL_law_273 dL_law_274 dL_law_275 dL_law_276 dL_law_277 ?_
  refine g_arg h (k := 2) hL hi (by decide) rfl dL_law_278 dL_law_279 dL_law_280 dL_law_281 dL_law_282 ?_
  refine g_callVi h.1 [.int (xs (i + 1)), .int (xs (i + 2))] _ sh0 rfl mtX9_growth mlL_23 (by decide) (by decide) rfl rfl (Nat.le_of_ble_eq_true rfl) dL_law_283 (kX9_growth _ z M (xs (i + 1)) (xs (i + 2)) (r, M1) e1) ?_
  refine g_aload_n h.1 3 dL_law_286 rfl ?_
  refine g_arg h (k := 1) hL hi (by decide) rfl dL_law_287 dL_law_288 dL_law_289 dL_law_290 dL_law_291 ?_
  refine g_arg h (k := 2) hL hi (by decide) rfl dL_law_292 dL_law_293 dL_law_294 dL_law_295 dL_law_296 ?_
  refine g_callVi h.1 [.int (xs (i + 1)), .int (xs (i + 2))] _ sh51 rfl mtX10_growth mlL_26 (by decide) (by decide) rfl rfl (Nat.le_of_ble_eq_true rfl) dL_law_297 (kX10_growth _ z M1 (xs (i + 1)) (xs (i + 2)) (r, M2) e2) ?_
  refine g_eqGo h dL_law_300 (tgt := 1389) (by decide) ?_
  exact kk M2 hI2
theorem law_3 (h : okl x z b L xs) (hL : L ≤ 3584) {i : Nat} (hi : i + 7 ≤ L) (hI : Inv M) (kk : ∀ M' : Mem, Inv M' → G x z 4 1389 (LV z b i) [] M') : G x z 4 305 (LV z b i) [] M := by
  obtain ⟨r, M1, e1, M2, e2, hI2⟩ := op_defect hI (xs (i + 1)) (xs (i + 2)) (xs (i + 3)) (xs (i + 4)) (xs (i + 5)) (xs (i + 6))
  refine g_aload_n h.1 2 dL_law_305 rfl ?_
  refine g_arg h (k := 1) hL hi (by decide) rfl dL_law_306 dL_law_307 dL_law_308 dL_law_309 dL_law_310 ?_
  refine g_arg h (k := 2) hL hi (by decide) rfl dL_law_311 dL_law_312 dL_law_313 dL_law_314 dL_law_315 ?_
  refine g_arg h (k := 3) hL hi (by decide) rfl dL_law_316 dL_law_317 dL_law_318 dL_law_319 dL_law_320 ?_
  refine g_arg h (k := 4) hL hi (by decide) rfl dL_law_321 dL_law_322 dL_law_323 dL_law_324 dL_law_325 ?_
  refine g_arg h (k := 5) hL hi (by decide) rfl dL_law_326 dL_law_327 dL_law_328 dL_law_329 dL_law_330 ?_
  refine g_argB h (k := 6) hL hi (by decide) rfl dL_law_331 dL_law_332 dL_law_333 dL_law_335 dL_law_336 ?_
  refine g_callVi h.1 [.int (xs (i + 1)), .int (xs (i + 2)), .int (xs (i + 3)), .int (xs (i + 4)), .int (xs (i + 5)), .int (xs (i + 6))] _ sh0 rfl mtX9_defect mlL_27 (by decide) (by decide) rfl rfl (Nat.le_of_ble_eq_true rfl) dL_law_337 (kX9_defect _ z M (xs (i + 1)) (xs (i + 2)) (xs (i + 3)) (xs (i + 4)) (xs (i + 5)) (xs (i + 6)) (r, M1) e1) ?_
  refine g_aload_n h.1 3 dL_law_340 rfl ?_
  refine g_arg h (k := 1) hL hi (by decide) rfl dL_law_341 dL_law_342 dL_law_343 dL_law_344 dL_law_345 ?_
  refine g_arg h (k := 2) hL hi (by decide) rfl dL_law_346 dL_law_347 dL_law_348 dL_law_349 dL_law_350 ?_
  refine g_arg h (k := 3) hL hi (by decide) rfl dL_law_351 dL_law_352 dL_law_353 dL_law_354 dL_law_355 ?_
  refine g_arg h (k := 4) hL hi (by decide) rfl dL_law_356 dL_law_357 dL_law_358 dL_law_359 dL_law_360 ?_
  refine g_arg h (k := 5) hL hi (by decide) rfl dL_law_361 dL_law_362 dL_law_363 dL_law_364 dL_law_365 ?_
  refine g_argB h (k := 6) hL hi (by decide) rfl dL_law_366 dL_law_367 dL_law_368 dL_law_370 dL_law_371 ?_
  refine g_callVi h.1 [.int (xs (i + 1)), .int (xs (i + 2)), .int (xs (i + 3)), .int (xs (i + 4)), .int (xs (i + 5)), .int (xs (i + 6))] _ sh51 rfl mtX10_defect mlL_31 (by decide) (by decide) rfl rfl (Nat.le_of_ble_eq_true rfl) dL_law_372 (kX10_defect _ z M1 (xs (i + 1)) (xs (i + 2)) (xs (i + 3)) (xs (i + 4)) (xs (i + 5)) (xs (i + 6)) (r, M2) e2) ?_
  refine g_eqGo h dL_law_375 (tgt := 1389) (by decide) ?_
  exact kk M2 hI2
theorem law_4 (h : okl x z b L xs) (hL : L ≤ 3584) {i : Nat} (hi : i + 7 ≤ L) (hI : Inv M) (kk : ∀ M' : Mem, Inv M' → G x z 4 1389 (LV z b i) [] M') : G x z 4 380 (LV z b i) [] M := by
  obtain ⟨r, M1, e1, M2, e2, hI2⟩ := op_look hI (xs (i + 1)) (xs (i + 2)) (xs (i + 3))
  refine g_aload_n h.1 2 dL_law_380 rfl ?_
  refine g_arg h (k := 1) hL hi (by decide) rfl dL_law_381 dL_law_382 dL_law_383 dL_law_384 dL_law_385 ?_
  refine g_arg h (k := 2) hL hi (by decide) rfl dL_law_386 dL_law_387 dL_law_388 dL_law_389 dL_law_390 ?_
  refine g_arg h (k := 3) hL hi (by decide) rfl dL_law_391 dL_law_392 dL_law_393 dL_law_394 dL_law_395 ?_
  refine g_callVi h.1 [.int (xs (i + 1)), .int (xs (i + 2)), .int (xs (i + 3))] _ sh0 rfl mtX9_look mlL_32 (by decide) (by decide) rfl rfl (Nat.le_of_ble_eq_true rfl) dL_law_396 (kX9_look _ z M (xs (i + 1)) (xs (i + 2)) (xs (i + 3)) (r, M1) e1) ?_
  refine g_aload_n h.1 3 dL_law_399 rfl ?_
  refine g_arg h (k := 1) hL hi (by decide) rfl dL_law_400 dL_law_401 dL_law_402 dL_law_403 dL_law_404 ?_
  refine g_arg h (k := 2) hL hi (by decide) rfl dL_law_405 dL_law_406 dL_law_407 dL_law_408 dL_law_409 ?_
  refine g_arg h (k := 3) hL hi (by decide) rfl dL_law_410 dL_law_411 dL_law_412 dL_law_413 dL_law_414 ?_
  refine g_callVi h.1 [.int (xs (i + 1)), .int (xs (i + 2)), .int (xs (i + 3))] _ sh51 rfl mtX10_look mlL_35 (by decide) (by decide) rfl rfl (Nat.le_of_ble_eq_true rfl) dL_law_415 (kX10_look _ z M1 (xs (i + 1)) (xs (i + 2)) (xs (i + 3)) (r, M2) e2) ?_
  refine g_eqGo h dL_law_418 (tgt := 1389) (by decide) ?_
  exact kk M2 hI2
theorem law_5 (h : okl x z b L xs) (hL : L ≤ 3584) {i : Nat} (hi : i + 7 ≤ L) (hI : Inv M) (kk : ∀ M' : Mem, Inv M' → G x z 4 1389 (LV z b i) [] M') : G x z 4 423 (LV z b i) [] M := by
  obtain ⟨r, M1, e1, M2, e2, hI2⟩ := op_span hI (xs (i + 1)) (xs (i + 2))
  refine g_aload_n h.1 2 dL_law_423 rfl ?_
  refine g_arg h (k := 1) hL hi (by decide) rfl dL_law_424 dL_law_425 dL_law_426 dL_law_427 dL_law_428 ?_
  refine g_arg h (k := 2) hL hi (by decide) rfl dL_law_429 dL_law_430 dL_law_431 dL_law_432 dL_law_433 ?_
  refine g_callVi h.1 [.int (xs (i + 1)), .int (xs (i + 2))] _ sh0 rfl mtX9_span mlL_36 (by decide) (by decide) rfl rfl (Nat.le_of_ble_eq_true rfl) dL_law_434 (kX9_span _ z M (xs (i + 1)) (xs (i + 2)) (r, M1) e1) ?_
  refine g_aload_n h.1 3 dL_law_437 rfl ?_
  refine g_arg h (k := 1) hL hi (by decide) rfl dL_law_438 dL_law_439 dL_law_440 dL_law_441 dL_law_442 ?_
  refine g_arg h (k := 2) hL hi (by decide) rfl dL_law_443 dL_law_444 dL_law_445 dL_law_446 dL_law_447 ?_
  refine g_callVi h.1 [.int (xs (i + 1)), .int (xs (i + 2))] _ sh51 rfl mtX10_span mlL_39 (by decide) (by decide) rfl rfl (Nat.le_of_ble_eq_true rfl) dL_law_448 (kX10_span _ z M1 (xs (i + 1)) (xs (i + 2)) (r, M2) e2) ?_
  refine g_eqGo h dL_law_451 (tgt := 1389) (by decide) ?_
  exact kk M2 hI2
theorem law_6 (h : okl x z b L xs) (hL : L ≤ 3584) {i : Nat} (hi : i + 7 ≤ L) (hI : Inv M) (kk : ∀ M' : Mem, Inv M' → G x z 4 1389 (LV z b i) [] M') : G x z 4 456 (LV z b i) [] M := by
  obtain ⟨r, M1, e1, M2, e2, hI2⟩ := op_rule hI (xs (i + 1)) (xs (i + 2)) (xs (i + 3)) (xs (i + 4)) (xs (i + 5))
  refine g_aload_n h.1 2 dL_law_456 rfl ?_
  refine g_arg h (k := 1) hL hi (by decide) rfl dL_law_457 dL_law_458 dL_law_459 dL_law_460 dL_law_461 ?_
  refine g_arg h (k := 2) hL hi (by decide) rfl dL_law_462 dL_law_463 dL_law_464 dL_law_465 dL_law_466 ?_
  refine g_arg h (k := 3) hL hi (by decide) rfl dL_law_467 dL_law_468 dL_law_469 dL_law_470 dL_law_471 ?_
  refine g_arg h (k := 4) hL hi (by decide) rfl dL_law_472 dL_law_473 dL_law_474 dL_law_475 dL_law_476 ?_
  refine g_arg h (k := 5) hL hi (by decide) rfl dL_law_477 dL_law_478 dL_law_479 dL_law_480 dL_law_481 ?_
  refine g_callVi h.1 [.int (xs (i + 1)), .int (xs (i + 2)), .int (xs (i + 3)), .int (xs (i + 4)), .int (xs (i + 5))] _ sh0 rfl mtX9_rule mlL_40 (by decide) (by decide) rfl rfl (Nat.le_of_ble_eq_true rfl) dL_law_482 (kX9_rule _ z M (xs (i + 1)) (xs (i + 2)) (xs (i + 3)) (xs (i + 4)) (xs (i + 5)) (r, M1) e1) ?_
  refine g_aload_n h.1 3 dL_law_485 rfl ?_
  refine g_arg h (k := 1) hL hi (by decide) rfl dL_law_486 dL_law_487 dL_law_488 dL_law_489 dL_law_490 ?_
  refine g_arg h (k := 2) hL hi (by decide) rfl dL_law_491 dL_law_492 dL_law_493 dL_law_494 dL_law_495 ?_
  refine g_arg h (k := 3) hL hi (by decide) rfl dL_law_496 dL_law_497 dL_law_498 dL_law_499 dL_law_500 ?_
  refine g_arg h (k := 4) hL hi (by decide) rfl dL_law_501 dL_law_502 dL_law_503 dL_law_504 dL_law_505 ?_
  refine g_arg h (k := 5) hL hi (by decide) rfl dL_law_506 dL_law_507 dL_law_508 dL_law_509 dL_law_510 ?_
  refine g_callVi h.1 [.int (xs (i + 1)), .int (xs (i + 2)), .int (xs (i + 3)), .int (xs (i + 4)), .int (xs (i + 5))] _ sh51 rfl mtX10_rule mlL_44 (by decide) (by decide) rfl rfl (Nat.le_of_ble_eq_true rfl) dL_law_511 (kX10_rule _ z M1 (xs (i + 1)) (xs (i + 2)) (xs (i + 3)) (xs (i + 4)) (xs (i + 5)) (r, M2) e2) ?_
  refine g_eqGo h dL_law_514 (tgt := 1389) (by decide) ?_
  exact kk M2 hI2
theorem law_7 (h : okl x z b L xs) (hL : L ≤ 3584) {i : Nat} (hi : i + 7 ≤ L) (hI : Inv M) (kk : ∀ M' : Mem, Inv M' → G x z 4 1389 (LV z b i) [] M') : G x z 4 519 (LV z b i) [] M := by
  obtain ⟨r, M1, e1, M2, e2, hI2⟩ := op_force hI (xs (i + 1))
  refine g_aload_n h.1 2 dL_law_519 rfl ?_
  refine g_arg h (k := 1) hL hi (by decide) rfl dL_law_520 dL_law_521 dL_law_522 dL_law_523 dL_law_524 ?_
  refine g_callVi h.1 [.int (xs (i + 1))] _ sh0 rfl mtX9_force mlL_45 (by decide) (by decide) rfl rfl (Nat.le_of_ble_eq_true rfl) dL_law_525 (kX9_force _ z M (xs (i + 1)) (r, M1) e1) ?_
  refine g_aload_n h.1 3 dL_law_528 rfl ?_
  refine g_arg h (k := 1) hL hi (by decide) rfl dL_law_529 dL_law_530 dL_law_531 dL_law_532 dL_law_533 ?_
  refine g_callVi h.1 [.int (xs (i + 1))] _ sh51 rfl mtX10_force mlL_49 (by decide) (by decide) rfl rfl (Nat.le_of_ble_eq_true rfl) dL_law_534 (kX10_force _ z M1 (xs (i + 1)) (r, M2) e2) ?_
  refine g_eqGo h dL_law_537 (tgt := 1389) (by decide) ?_
  exact kk M2 hI2
theorem law_8 (h : okl x z b L xs) (hL : L ≤ 3584) {i : Nat} (hi : i + 7 ≤ L) (hI : Inv M) (kk : ∀ M' : Mem, Inv M' → G x z 4 1389 (LV z b i) [] M') : G x z 4 542 (LV z b i) [] M := by
  obtain ⟨r, M1, e1, M2, e2, hI2⟩ := op_due hI (xs (i + 1))
  refine g_aload_n h.1 2 dL_law_542 rfl ?_
  refine g_arg h (k := 1) hL hi (by decide) rfl dL_law_543 dL_law_544 dL_law_545 dL_law_546 dL_law_547 ?_
  refine g_callVi h.1 [.int (xs (i + 1))] _ sh0 rfl mtX9_due mlL_50 (by decide) (by decide) rfl rfl (Nat.le_of_ble_eq_true rfl) dL_law_548 (kX9_due _ z M (xs (i + 1)) (r, M1) e1) ?_
  refine g_aload_n h.1 3 dL_law_551 rfl ?_
  refine g_arg h (k := 1) hL hi (by decide) rfl dL_law_552 dL_law_553 dL_law_554 dL_law_555 dL_law_556 ?_
  refine g_callVi h.1 [.int (xs (i + 1))] _ sh51 rfl mtX10_due mlL_53 (by decide) (by decide) rfl rfl (Nat.le_of_ble_eq_true rfl) dL_law_557 (kX10_due _ z M1 (xs (i + 1)) (r, M2) e2) ?_
  refine g_eqGo h dL_law_560 (tgt := 1389) (by decide) ?_
  exact kk M2 hI2
theorem law_9 (h : okl x z b L xs) (hL : L ≤ 3584) {i : Nat} (hi : i + 7 ≤ L) (hI : Inv M) (kk : ∀ M' : Mem, Inv M' → G x z 4 1389 (LV z b i) [] M') : G x z 4 565 (LV z b i) [] M := by
  obtain ⟨r, e1, e2⟩ := op_overdue hI 
  refine g_aload_n h.1 2 dL_law_565 rfl ?_
  refine g_callVi h.1 [] _ sh0 rfl mtX9_overdue mlL_54 (by decide) (by decide) rfl rfl (Nat.le_of_ble_eq_true rfl) dL_law_566 (kX9_overdue _ z M  r e1) ?_
  refine g_aload_n h.1 3 dL_law_569 rfl ?_
  refine g_callVi h.1 [] _ sh51 rfl mtX10_overdue mlL_58 (by decide) (by decide) rfl rfl (Nat.le_of_ble_eq_true rfl) dL_law_570 (kX10_overdue _ z M  r e2) ?_
  refine g_eqGo h dL_law_573 (tgt := 1389) (by decide) ?_
  exact kk M hI
theorem law_10 (h : okl x z b L xs) (hL : L ≤ 3584) {i : Nat} (hi : i + 7 ≤ L) (hI : Inv M) (kk : ∀ M' : Mem, Inv M' → G x z 4 1389 (LV z b i) [] M') : G x z 4 578 (LV z b i) [] M := by
  obtain ⟨r, M1, e1, M2, e2, hI2⟩ := op_close hI (xs (i + 1)) (xs (i + 2))
  refine g_aload_n h.1 2 dL_law_578 rfl ?_
  refine g_arg h (k := 1) hL hi (by decide) rfl dL_law_579 dL_law_580 dL_law_581 dL_law_582 dL_law_583 ?_
  refine g_arg h (k := 2) hL hi (by decide) rfl dL_law_584 dL_law_585 dL_law_586 dL_law_587 dL_law_588 ?_
  refine g_callVi h.1 [.int (xs (i + 1)), .int (xs (i + 2))] _ sh0 rfl mtX9_close mlL_59 (by decide) (by decide) rfl rfl (Nat.le_of_ble_eq_true rfl) dL_law_589 (kX9_close _ z M (xs (i + 1)) (xs (i + 2)) (r, M1) e1) ?_
  refine g_aload_n h.1 3 dL_law_592 rfl ?_
  refine g_arg h (k := 1) hL hi (by decide) rfl dL_law_593 dL_law_594 dL_law_595 dL_law_596 dL_law_597 ?_
  refine g_arg h (k := 2) hL hi (by decide) rfl dL_law_598 dL_law_599 dL_law_600 dL_law_601 dL_law_602 ?_
  refine g_callVi h.1 [.int (xs (i + 1)), .int (xs (i + 2))] _ sh51 rfl mtX10_close mlL_62 (by decide) (by decide) rfl rfl (Nat.le_of_ble_eq_true rfl) dL_law_603 (kX10_close _ z M1 (xs (i + 1)) (xs (i + 2)) (r, M2) e2) ?_
  refine g_eqGo h dL_law_606 (tgt := 1389) (by decide) ?_
  exact kk M2 hI2
theorem law_11 (h : okl x z b L xs) (hL : L ≤ 3584) {i : Nat} (hi : i + 7 ≤ L) (hI : Inv M) (kk : ∀ M' : Mem, Inv M' → G x z 4 1389 (LV z b i) [] M') : G x z 4 611 (LV z b i) [] M := by
  obtain ⟨r, M1, e1, M2, e2, hI2⟩ := op_slow hI (xs (i + 1)) (xs (i + 2))
  refine g_aload_n h.1 2 dL_law_611 rfl ?_
  refine g_arg h (k := 1) hL hi (by decide) rfl dL_law_612 dL_law_613 dL_law_614 dL_law_615 dL_law_616 ?_
  refine g_arg h (k := 2) hL hi (by decide) rfl dL_law_617 dL_law_618 dL_law_619 dL_law_620 dL_law_621 ?_
  refine g_callVi h.1 [.int (xs (i + 1)), .int (xs (i + 2))] _ sh0 rfl mtX9_slow mlL_63 (by decide) (by decide) rfl rfl (Nat.le_of_ble_eq_true rfl) dL_law_622 (kX9_slow _ z M (xs (i + 1)) (xs (i + 2)) (r, M1) e1) ?_
  refine g_aload_n h.1 3 dL_law_625 rfl ?_
  refine g_arg h (k := 1) hL hi (by decide) rfl dL_law_626 dL_law_627 dL_law_628 dL_law_629 dL_law_630 ?_
  refine g_arg h (k := 2) hL hi (by decide) rfl dL_law_631 dL_law_632 dL_law_633 dL_law_634 dL_law_635 ?_
  refine g_callVi h.1 [.int (xs (i + 1)), .int (xs (i + 2))] _ sh51 rfl mtX10_slow mlL_66 (by decide) (by decide) rfl rfl (Nat.le_of_ble_eq_true rfl) dL_law_636 (kX10_slow _ z M1 (xs (i + 1)) (xs (i + 2)) (r, M2) e2) ?_
  refine g_eqGo h dL_law_639 (tgt := 1389) (by decide) ?_
  exact kk M2 hI2
theorem law_12 (h : okl x z b L xs) (hL : L ≤ 3584) {i : Nat} (hi : i + 7 ≤ L) (hI : Inv M) (kk : ∀ M' : Mem, Inv M' → G x z 4 1389 (LV z b i) [] M') : G x z 4 644 (LV z b i) [] M := by
  obtain ⟨r, M1, e1, M2, e2, hI2⟩ := op_lift hI (xs (i + 1))
  refine g_aload_n h.1 2 dL_law_644 rfl ?_
  refine g_arg h (k := 1) hL hi (by decide) rfl dL_law_645 dL_law_646 dL_law_647 dL_law_648 dL_law_649 ?_
  refine g_callVi h.1 [.int (xs (i + 1))] _ sh0 rfl mtX9_lift mlL_67 (by decide) (by decide) rfl rfl (Nat.le_of_ble_eq_true rfl) dL_law_650 (kX9_lift _ z M (xs (i + 1)) (r, M1) e1) ?_
  refine g_aload_n h.1 3 dL_law_653 rfl ?_
  refine g_arg h (k := 1) hL hi (by decide) rfl dL_law_654 dL_law_655 dL_law_656 dL_law_657 dL_law_658 ?_
  refine g_callVi h.1 [.int (xs (i + 1))] _ sh51 rfl mtX10_lift mlL_70 (by decide) (by decide) rfl rfl (Nat.le_of_ble_eq_true rfl) dL_law_659 (kX10_lift _ z M1 (xs (i + 1)) (r, M2) e2) ?_
  refine g_eqGo h dL_law_662 (tgt := 1389) (by decide) ?_
  exact kk M2 hI2
theorem law_13 (h : okl x z b L xs) (hL : L ≤ 3584) {i : Nat} (hi : i + 7 ≤ L) (hI : Inv M) (kk : ∀ M' : Mem, Inv M' → G x z 4 1389 (LV z b i) [] M') : G x z 4 667 (LV z b i) [] M := by
  obtain ⟨r, e1, e2⟩ := op_lost hI 
  refine g_aload_n h.1 2 dL_law_667 rfl ?_
  refine g_callVi h.1 [] _ sh0 rfl mtX9_lost mlL_71 (by decide) (by decide) rfl rfl (Nat.le_of_ble_eq_true rfl) dL_law_668 (kX9_lost _ z M  r e1) ?_
  refine g_aload_n h.1 3 dL_law_671 rfl ?_
  refine g_callVi h.1 [] _ sh51 rfl mtX10_lost mlL_74 (by decide) (by decide) rfl rfl (Nat.le_of_ble_eq_true rfl) dL_law_672 (kX10_lost _ z M  r e2) ?_
  refine g_eqGo h dL_law_675 (tgt := 1389) (by decide) ?_
  exact kk M hI
theorem law_14 (h : okl x z b L xs) (hL : L ≤ 3584) {i : Nat} (hi : i + 7 ≤ L) (hI : Inv M) (kk : ∀ M' : Mem, Inv M' → G x z 4 1389 (LV z b i) [] M') : G x z 4 680 (LV z b i) [] M := by
  obtain ⟨r, M1, e1, M2, e2, hI2⟩ := op_set hI (xs (i + 1)) (xs (i + 2))
  refine g_aload_n h.1 2 dL_law_680 rfl ?_
  refine g_arg h (k := 1) hL hi (by decide) rfl dL_law_681 dL_law_682 dL_law_683 dL_law_684 dL_law_685 ?_
  refine g_arg h (k := 2) hL hi (by decide) rfl dL_law_686 dL_law_687 dL_law_688 dL_law_689 dL_law_690 ?_
  refine g_callVi h.1 [.int (xs (i + 1)), .int (xs (i + 2))] _ sh0 rfl mtX9_set mlL_75 (by decide) (by decide) rfl rfl (Nat.le_of_ble_eq_true rfl) dL_law_691 (kX9_set _ z M (xs (i + 1)) (xs (i + 2)) (r, M1) e1) ?_
  refine g_aload_n h.1 3 dL_law_694 rfl ?_
  refine g_arg h (k := 1) hL hi (by decide) rfl dL_law_695 dL_law_696 dL_law_697 dL_law_698 dL_law_699 ?_
  refine g_arg h (k := 2) hL hi (by decide) rfl dL_law_700 dL_law_701 dL_law_702 dL_law_703 dL_law_704 ?_
  refine g_callVi h.1 [.int (xs (i + 1)), .int (xs (i + 2))] _ sh51 rfl mtX10_set mlL_78 (by decide) (by decide) rfl rfl (Nat.le_of_ble_eq_true rfl) dL_law_705 (kX10_set _ z M1 (xs (i + 1)) (xs (i + 2)) (r, M2) e2) ?_
  refine g_eqGo h dL_law_708 (tgt := 1389) (by decide) ?_
  exact kk M2 hI2
theorem law_15 (h : okl x z b L xs) (hL : L ≤ 3584) {i : Nat} (hi : i + 7 ≤ L) (hI : Inv M) (kk : ∀ M' : Mem, Inv M' → G x z 4 1389 (LV z b i) [] M') : G x z 4 713 (LV z b i) [] M := by
  obtain ⟨r, M1, e1, M2, e2, hI2⟩ := op_days hI (xs (i + 1))
  refine g_aload_n h.1 2 dL_law_713 rfl ?_
  refine g_arg h (k := 1) hL hi (by decide) rfl dL_law_714 dL_law_715 dL_law_716 dL_law_717 dL_law_718 ?_
  refine g_callVi h.1 [.int (xs (i + 1))] _ sh0 rfl mtX9_days mlL_79 (by decide) (by decide) rfl rfl (Nat.le_of_ble_eq_true rfl) dL_law_719 (kX9_days _ z M (xs (i + 1)) (r, M1) e1) ?_
  refine g_aload_n h.1 3 dL_law_722 rfl ?_
  refine g_arg h (k := 1) hL hi (by decide) rfl dL_law_723 dL_law_724 dL_law_725 dL_law_726 dL_law_727 ?_
  refine g_callVi h.1 [.int (xs (i + 1))] _ sh51 rfl mtX10_days mlL_82 (by decide) (by decide) rfl rfl (Nat.le_of_ble_eq_true rfl) dL_law_728 (kX10_days _ z M1 (xs (i + 1)) (r, M2) e2) ?_
  refine g_eqGo h dL_law_731 (tgt := 1389) (by decide) ?_
  exact kk M2 hI2
theorem law_16 (h : okl x z b L xs) (hL : L ≤ 3584) {i : Nat} (hi : i + 7 ≤ L) (hI : Inv M) (kk : ∀ M' : Mem, Inv M' → G x z 4 1389 (LV z b i) [] M') : G x z 4 736 (LV z b i) [] M := by
  obtain ⟨r, M1, e1, M2, e2, hI2⟩ := op_train hI (xs (i + 1)) (xs (i + 2))
  refine g_aload_n h.1 2 dL_law_736 rfl ?_
  refine g_arg h (k := 1) hL hi (by decide) rfl dL_law_737 dL_law_738 dL_law_739 dL_law_740 dL_law_741 ?_
  refine g_arg h (k := 2) hL hi (by decide) rfl dL_law_742 dL_law_743 dL_law_744 dL_law_745 dL_law_746 ?_
  refine g_callVi h.1 [.int (xs (i + 1)), .int (xs (i + 2))] _ sh0 rfl mtX9_train mlL_83 (by decide) (by decide) rfl rfl (Nat.le_of_ble_eq_true rfl) dL_law_747 (kX9_train _ z M (xs (i + 1)) (xs (i + 2)) (r, M1) e1) ?_
  refine g_aload_n h.1 3 dL_law_750 rfl ?_
  refine g_arg h (k := 1) hL hi (by decide) rfl dL_law_751 dL_law_752 dL_law_753 dL_law_754 dL_law_755 ?_
  refine g_arg h (k := 2) hL hi (by decide) rfl dL_law_756 dL_law_757 dL_law_758 dL_law_759 dL_law_760 ?_
  refine g_callVi h.1 [.int (xs (i + 1)), .int (xs (i + 2))] _ sh51 rfl mtX10_train mlL_86 (by decide) (by decide) rfl rfl (Nat.le_of_ble_eq_true rfl) dL_law_761 (kX10_train _ z M1 (xs (i + 1)) (xs (i + 2)) (r, M2) e2) ?_
  refine g_eqGo h dL_law_764 (tgt := 1389) (by decide) ?_
  exact kk M2 hI2
theorem law_17 (h : okl x z b L xs) (hL : L ≤ 3584) {i : Nat} (hi : i + 7 ≤ L) (hI : Inv M) (kk : ∀ M' : Mem, Inv M' → G x z 4 1389 (LV z b i) [] M') : G x z 4 769 (LV z b i) [] M := by
  obtain ⟨r, M1, e1, M2, e2, hI2⟩ := op_safe hI (xs (i + 1)) (xs (i + 2)) (xs (i + 3))
  refine g_aload_n h.1 2 dL_law_769 rfl ?_
  refine g_arg h (k := 1) hL hi (by decide) rfl dL_law_770 dL_law_771 dL_law_772 dL_law_773 dL_law_774 ?_
  refine g_arg h (k := 2) hL hi (by decide) rfl dL_law_775 dL_law_776 dL_law_777 dL_law_778 dL_law_779 ?_
  refine g_arg h (k := 3) hL hi (by decide) rfl dL_law_780 dL_law_781 dL_law_782 dL_law_783 dL_law_784 ?_
  refine g_callVi h.1 [.int (xs (i + 1)), .int (xs (i + 2)), .int (xs (i + 3))] _ sh0 rfl mtX9_safe mlL_87 (by decide) (by decide) rfl rfl (Nat.le_of_ble_eq_true rfl) dL_law_785 (kX9_safe _ z M (xs (i + 1)) (xs (i + 2)) (xs (i + 3)) (r, M1) e1) ?_
  refine g_aload_n h.1 3 dL_law_788 rfl ?_
  refine g_arg h (k := 1) hL hi (by decide) rfl dL_law_789 dL_law_790 dL_law_791 dL_law_792 dL_law_793 ?_
  refine g_arg h (k := 2) hL hi (by decide) rfl dL_law_794 dL_law_795 dL_law_796 dL_law_797 dL_law_798 ?_
  refine g_arg h (k := 3) hL hi (by decide) rfl dL_law_799 dL_law_800 dL_law_801 dL_law_802 dL_law_803 ?_
  refine g_callVi h.1 [.int (xs (i + 1)), .int (xs (i + 2)), .int (xs (i + 3))] _ sh51 rfl mtX10_safe mlL_90 (by decide) (by decide) rfl rfl (Nat.le_of_ble_eq_true rfl) dL_law_804 (kX10_safe _ z M1 (xs (i + 1)) (xs (i + 2)) (xs (i + 3)) (r, M2) e2) ?_
  refine g_eqGo h dL_law_807 (tgt := 1389) (by decide) ?_
  exact kk M2 hI2
theorem law_18 (h : okl x z b L xs) (hL : L ≤ 3584) {i : Nat} (hi : i + 7 ≤ L) (hI : Inv M) (kk : ∀ M' : Mem, Inv M' → G x z 4 1389 (LV z b i) [] M') : G x z 4 812 (LV z b i) [] M := by
  obtain ⟨r, M1, e1, M2, e2, hI2⟩ := op_first hI (xs (i + 1)) (xs (i + 2)) (xs (i + 3))
  refine g_aload_n h.1 2 dL_law_812 rfl ?_
  refine g_arg h (k := 1) hL hi (by decide) rfl dL_law_813 dL_law_814 dL_law_815 dL_law_816 dL_law_817 ?_
  refine g_arg h (k := 2) hL hi (by decide) rfl dL_law_818 dL_law_819 dL_law_820 dL_law_821 dL_law_822 ?_
  refine g_arg h (k := 3) hL hi (by decide) rfl dL_law_823 dL_law_824 dL_law_825 dL_law_826 dL_law_827 ?_
  refine g_callVi h.1 [.int (xs (i + 1)), .int (xs (i + 2)), .int (xs (i + 3))] _ sh0 rfl mtX9_first mlL_91 (by decide) (by decide) rfl rfl (Nat.le_of_ble_eq_true rfl) dL_law_828 (kX9_first _ z M (xs (i + 1)) (xs (i + 2)) (xs (i + 3)) (r, M1) e1) ?_
  refine g_aload_n h.1 3 dL_law_831 rfl ?_
  refine g_arg h (k := 1) hL hi (by decide) rfl dL_law_832 dL_law_833 dL_law_834 dL_law_835 dL_law_836 ?_
  refine g_arg h (k := 2) hL hi (by decide) rfl dL_law_837 dL_law_838 dL_law_839 dL_law_840 dL_law_841 ?_
  refine g_arg h (k := 3) hL hi (by decide) rfl dL_law_842 dL_law_843 dL_law_844 dL_law_845 dL_law_846 ?_
  refine g_callVi h.1 [.int (xs (i + 1)), .int (xs (i + 2)), .int (xs (i + 3))] _ sh51 rfl mtX10_first mlL_94 (by decide) (by decide) rfl rfl (Nat.le_of_ble_eq_true rfl) dL_law_847 (kX10_first _ z M1 (xs (i + 1)) (xs (i + 2)) (xs (i + 3)) (r, M2) e2) ?_
  refine g_eqGo h dL_law_850 (tgt := 1389) (by decide) ?_
  exact kk M2 hI2
theorem law_19 (h : okl x z b L xs) (hL : L ≤ 3584) {i : Nat} (hi : i + 7 ≤ L) (hI : Inv M) (kk : ∀ M' : Mem, Inv M' → G x z 4 1389 (LV z b i) [] M') : G x z 4 855 (LV z b i) [] M := by
  obtain ⟨r, M1, e1, M2, e2, hI2⟩ := op_walked hI (xs (i + 1)) (xs (i + 2))
  refine g_aload_n h.1 2 dL_law_855 rfl ?_
  refine g_arg h (k := 1) hL hi (by decide) rfl dL_law_856 dL_law_857 dL_law_858 dL_law_859 dL_law_860 ?_
  refine g_arg h (k := 2) hL hi (by decide) rfl dL_law_861 dL_law_862 dL_law_863 dL_law_864 dL_law_865 ?_
  refine g_callVi h.1 [.int (xs (i + 1)), .int (xs (i + 2))] _ sh0 rfl mtX9_walked mlL_95 (by decide) (by decide) rfl rfl (Nat.le_of_ble_eq_true rfl) dL_law_866 (kX9_walked _ z M (xs (i + 1)) (xs (i + 2)) (r, M1) e1) ?_
  refine g_aload_n h.1 3 dL_law_869 rfl ?_
  refine g_arg h (k := 1) hL hi (by decide) rfl dL_law_870 dL_law_871 dL_law_872 dL_law_873 dL_law_874 ?_
  refine g_arg h (k := 2) hL hi (by decide) rfl dL_law_875 dL_law_876 dL_law_877 dL_law_878 dL_law_879 ?_
  refine g_callVi h.1 [.int (xs (i + 1)), .int (xs (i + 2))] _ sh51 rfl mtX10_walked mlL_98 (by decide) (by decide) rfl rfl (Nat.le_of_ble_eq_true rfl) dL_law_880 (kX10_walked _ z M1 (xs (i + 1)) (xs (i + 2)) (r, M2) e2) ?_
  refine g_eqGo h dL_law_883 (tgt := 1389) (by decide) ?_
  exact kk M2 hI2
theorem law_20 (h : okl x z b L xs) (hL : L ≤ 3584) {i : Nat} (hi : i + 7 ≤ L) (hI : Inv M) (kk : ∀ M' : Mem, Inv M' → G x z 4 1389 (LV z b i) [] M') : G x z 4 888 (LV z b i) [] M := by
  obtain ⟨r, M1, e1, M2, e2, hI2⟩ := op_risk hI (xs (i + 1))
  refine g_aload_n h.1 2 dL_law_888 rfl ?_
  refine g_arg h (k := 1) hL hi (by decide) rfl dL_law_889 dL_law_890 dL_law_891 dL_law_892 dL_law_893 ?_
  refine g_callVi h.1 [.int (xs (i + 1))] _ sh0 rfl mtX9_risk mlL_99 (by decide) (by decide) rfl rfl (Nat.le_of_ble_eq_true rfl) dL_law_894 (kX9_risk _ z M (xs (i + 1)) (r, M1) e1) ?_
  refine g_aload_n h.1 3 dL_law_897 rfl ?_
  refine g_arg h (k := 1) hL hi (by decide) rfl dL_law_898 dL_law_899 dL_law_900 dL_law_901 dL_law_902 ?_
  refine g_callVi h.1 [.int (xs (i + 1))] _ sh51 rfl mtX10_risk mlL_102 (by decide) (by decide) rfl rfl (Nat.le_of_ble_eq_true rfl) dL_law_903 (kX10_risk _ z M1 (xs (i + 1)) (r, M2) e2) ?_
  refine g_eqGo h dL_law_906 (tgt := 1389) (by decide) ?_
  exact kk M2 hI2
theorem law_21 (h : okl x z b L xs) (hL : L ≤ 3584) {i : Nat} (hi : i + 7 ≤ L) (hI : Inv M) (kk : ∀ M' : Mem, Inv M' → G x z 4 1389 (LV z b i) [] M') : G x z 4 911 (LV z b i) [] M := by
  obtain ⟨r, M1, e1, M2, e2, hI2⟩ := op_walks hI (xs (i + 1)) (xs (i + 2))
  refine g_aload_n h.1 2 dL_law_911 rfl ?_
  refine g_arg h (k := 1) hL hi (by decide) rfl dL_law_912 dL_law_913 dL_law_914 dL_law_915 dL_law_916 ?_
  refine g_arg h (k := 2) hL hi (by decide) rfl dL_law_917 dL_law_918 dL_law_919 dL_law_920 dL_law_921 ?_
  refine g_callVi h.1 [.int (xs (i + 1)), .int (xs (i + 2))] _ sh0 rfl mtX9_walks mlL_103 (by decide) (by decide) rfl rfl (Nat.le_of_ble_eq_true rfl) dL_law_922 (kX9_walks _ z M (xs (i + 1)) (xs (i + 2)) (r, M1) e1) ?_
  refine g_aload_n h.1 3 dL_law_925 rfl ?_
  refine g_arg h (k := 1) hL hi (by decide) rfl dL_law_926 dL_law_927 dL_law_928 dL_law_929 dL_law_930 ?_
  refine g_arg h (k := 2) hL hi (by decide) rfl dL_law_931 dL_law_932 dL_law_933 dL_law_934 dL_law_935 ?_
  refine g_callVi h.1 [.int (xs (i + 1)), .int (xs (i + 2))] _ sh51 rfl mtX10_walks mlL_106 (by decide) (by decide) rfl rfl (Nat.le_of_ble_eq_true rfl) dL_law_936 (kX10_walks _ z M1 (xs (i + 1)) (xs (i + 2)) (r, M2) e2) ?_
  refine g_eqGo h dL_law_939 (tgt := 1389) (by decide) ?_
  exact kk M2 hI2
theorem law_22 (h : okl x z b L xs) (hL : L ≤ 3584) {i : Nat} (hi : i + 7 ≤ L) (hI : Inv M) (kk : ∀ M' : Mem, Inv M' → G x z 4 1389 (LV z b i) [] M') : G x z 4 944 (LV z b i) [] M := by
  obtain ⟨r, M1, e1, M2, e2, hI2⟩ := op_doubles hI (xs (i + 1)) (xs (i + 2)) (xs (i + 3)) (xs (i + 4))
  refine g_aload_n h.1 2 dL_law_944 rfl ?_
  refine g_arg h (k := 1) hL hi (by decide) rfl dL_law_945 dL_law_946 dL_law_947 dL_law_948 dL_law_949 ?_
  refine g_arg h (k := 2) hL hi (by decide) rfl dL_law_950 dL_law_951 dL_law_952 dL_law_953 dL_law_954 ?_
  refine g_arg h (k := 3) hL hi (by decide) rfl dL_law_955 dL_law_956 dL_law_957 dL_law_958 dL_law_959 ?_
  refine g_arg h (k := 4) hL hi (by decide) rfl dL_law_960 dL_law_961 dL_law_962 dL_law_963 dL_law_964 ?_
  refine g_callVi h.1 [.int (xs (i + 1)), .int (xs (i + 2)), .int (xs (i + 3)), .int (xs (i + 4))] _ sh0 rfl mtX9_doubles mlL_107 (by decide) (by decide) rfl rfl (Nat.le_of_ble_eq_true rfl) dL_law_965 (kX9_doubles _ z M (xs (i + 1)) (xs (i + 2)) (xs (i + 3)) (xs (i + 4)) (r, M1) e1) ?_
  refine g_aload_n h.1 3 dL_law_968 rfl ?_
  refine g_arg h (k := 1) hL hi (by decide) rfl dL_law_969 dL_law_970 dL_law_971 dL_law_972 dL_law_973 ?_
  refine g_arg h (k := 2) hL hi (by decide) rfl dL_law_974 dL_law_975 dL_law_976 dL_law_977 dL_law_978 ?_
  refine g_arg h (k := 3) hL hi (by decide) rfl dL_law_979 dL_law_980 dL_law_981 dL_law_982 dL_law_983 ?_
  refine g_arg h (k := 4) hL hi (by decide) rfl dL_law_984 dL_law_985 dL_law_986 dL_law_987 dL_law_988 ?_
  refine g_callVi h.1 [.int (xs (i + 1)), .int (xs (i + 2)), .int (xs (i + 3)), .int (xs (i + 4))] _ sh51 rfl mtX10_doubles mlL_111 (by decide) (by decide) rfl rfl (Nat.le_of_ble_eq_true rfl) dL_law_989 (kX10_doubles _ z M1 (xs (i + 1)) (xs (i + 2)) (xs (i + 3)) (xs (i + 4)) (r, M2) e2) ?_
  refine g_eqGo h dL_law_992 (tgt := 1389) (by decide) ?_
  exact kk M2 hI2
theorem law_23 (h : okl x z b L xs) (hL : L ≤ 3584) {i : Nat} (hi : i + 7 ≤ L) (hI : Inv M) (kk : ∀ M' : Mem, Inv M' → G x z 4 1389 (LV z b i) [] M') : G x z 4 997 (LV z b i) [] M := by
  obtain ⟨r, M1, e1, M2, e2, hI2⟩ := op_eyes hI (xs (i + 1)) (xs (i + 2))
  refine g_aload_n h.1 2 dL_law_997 rfl ?_
  refine g_arg h (k := 1) hL hi (by decide) rfl dL_law_998 dL_law_999 dL_law_1000 dL_law_1001 dL_law_1002 ?_
  refine g_arg h (k := 2) hL hi (by decide) rfl dL_law_1003 dL_law_1004 dL_law_1005 dL_law_1006 dL_law_1007 ?_
  refine g_callVi h.1 [.int (xs (i + 1)), .int (xs (i + 2))] _ sh0 rfl mtX9_eyes mlL_112 (by decide) (by decide) rfl rfl (Nat.le_of_ble_eq_true rfl) dL_law_1008 (kX9_eyes _ z M (xs (i + 1)) (xs (i + 2)) (r, M1) e1) ?_
  refine g_aload_n h.1 3 dL_law_1011 rfl ?_
  refine g_arg h (k := 1) hL hi (by decide) rfl dL_law_1012 dL_law_1013 dL_law_1014 dL_law_1015 dL_law_1016 ?_
  refine g_arg h (k := 2) hL hi (by decide) rfl dL_law_1017 dL_law_1018 dL_law_1019 dL_law_1020 dL_law_1021 ?_
  refine g_callVi h.1 [.int (xs (i + 1)), .int (xs (i + 2))] _ sh51 rfl mtX10_eyes mlL_115 (by decide) (by decide) rfl rfl (Nat.le_of_ble_eq_true rfl) dL_law_1022 (kX10_eyes _ z M1 (xs (i + 1)) (xs (i + 2)) (r, M2) e2) ?_
  refine g_eqGo h dL_law_1025 (tgt := 1389) (by decide) ?_
  exact kk M2 hI2
theorem law_24 (h : okl x z b L xs) (hL : L ≤ 3584) {i : Nat} (hi : i + 7 ≤ L) (hI : Inv M) (kk : ∀ M' : Mem, Inv M' → G x z 4 1389 (LV z b i) [] M') : G x z 4 1030 (LV z b i) [] M := by
  obtain ⟨r, M1, e1, M2, e2, hI2⟩ := op_line hI (xs (i + 1)) (xs (i + 2)) (xs (i + 3))
  refine g_aload_n h.1 2 dL_law_1030 rfl ?_
  refine g_arg h (k := 1) hL hi (by decide) rfl dL_law_1031 dL_law_1032 dL_law_1033 dL_law_1034 dL_law_1035 ?_
  refine g_arg h (k := 2) hL hi (by decide) rfl dL_law_1036 dL_law_1037 dL_law_1038 dL_law_1039 dL_law_1040 ?_
  refine g_arg h (k := 3) hL hi (by decide) rfl dL_law_1041 dL_law_1042 dL_law_1043 dL_law_1044 dL_law_1045 ?_
  refine g_callVi h.1 [.int (xs (i + 1)), .int (xs (i + 2)), .int (xs (i + 3))] _ sh0 rfl mtX9_line mlL_116 (by decide) (by decide) rfl rfl (Nat.le_of_ble_eq_true rfl) dL_law_1046 (kX9_line _ z M (xs (i + 1)) (xs (i + 2)) (xs (i + 3)) (r, M1) e1) ?_
  refine g_aload_n h.1 3 dL_law_1049 rfl ?_
  refine g_arg h (k := 1) hL hi (by decide) rfl dL_law_1050 dL_law_1051 dL_law_1052 dL_law_1053 dL_law_1054 ?_
  refine g_arg h (k := 2) hL hi (by decide) rfl dL_law_1055 dL_law_1056 dL_law_1057 dL_law_1058 dL_law_1059 ?_
  refine g_arg h (k := 3) hL hi (by decide) rfl dL_law_1060 dL_law_1061 dL_law_1062 dL_law_1063 dL_law_1064 ?_
  refine g_callVi h.1 [.int (xs (i + 1)), .int (xs (i + 2)), .int (xs (i + 3))] _ sh51 rfl mtX10_line mlL_119 (by decide) (by decide) rfl rfl (Nat.le_of_ble_eq_true rfl) dL_law_1065 (kX10_line _ z M1 (xs (i + 1)) (xs (i + 2)) (xs (i + 3)) (r, M2) e2) ?_
  refine g_eqGo h dL_law_1068 (tgt := 1389) (by decide) ?_
  exact kk M2 hI2
theorem law_25 (h : okl x z b L xs) (hL : L ≤ 3584) {i : Nat} (hi : i + 7 ≤ L) (hI : Inv M) (kk : ∀ M' : Mem, Inv M' → G x z 4 1389 (LV z b i) [] M') : G x z 4 1073 (LV z b i) [] M := by
  obtain ⟨r, M1, e1, M2, e2, hI2⟩ := op_join hI (xs (i + 1))
  refine g_aload_n h.1 2 dL_law_1073 rfl ?_
  refine g_arg h (k := 1) hL hi (by decide) rfl dL_law_1074 dL_law_1075 dL_law_1076 dL_law_1077 dL_law_1078 ?_
  refine g_callVi h.1 [.int (xs (i + 1))] _ sh0 rfl mtX9_join mlL_120 (by decide) (by decide) rfl rfl (Nat.le_of_ble_eq_true rfl) dL_law_1079 (kX9_join _ z M (xs (i + 1)) (r, M1) e1) ?_
  refine g_aload_n h.1 3 dL_law_1082 rfl ?_
  refine g_arg h (k := 1) hL hi (by decide) rfl dL_law_1083 dL_law_1084 dL_law_1085 dL_law_1086 dL_law_1087 ?_
  refine g_callVi h.1 [.int (xs (i + 1))] _ sh51 rfl mtX10_join mlL_123 (by decide) (by decide) rfl rfl (Nat.le_of_ble_eq_true rfl) dL_law_1088 (kX10_join _ z M1 (xs (i + 1)) (r, M2) e2) ?_
  refine g_eqGo h dL_law_1091 (tgt := 1389) (by decide) ?_
  exact kk M2 hI2
theorem law_26 (h : okl x z b L xs) (hL : L ≤ 3584) {i : Nat} (hi : i + 7 ≤ L) (hI : Inv M) (kk : ∀ M' : Mem, Inv M' → G x z 4 1389 (LV z b i) [] M') : G x z 4 1096 (LV z b i) [] M := by
  obtain ⟨r, M1, e1, M2, e2, hI2⟩ := op_joined hI (xs (i + 1))
  refine g_aload_n h.1 2 dL_law_1096 rfl ?_
  refine g_arg h (k := 1) hL hi (by decide) rfl dL_law_1097 dL_law_1098 dL_law_1099 dL_law_1100 dL_law_1101 ?_
  refine g_callVi h.1 [.int (xs (i + 1))] _ sh0 rfl mtX9_joined mlL_124 (by decide) (by decide) rfl rfl (Nat.le_of_ble_eq_true rfl) dL_law_1102 (kX9_joined _ z M (xs (i + 1)) (r, M1) e1) ?_
  refine g_aload_n h.1 3 dL_law_1105 rfl ?_
  refine g_arg h (k := 1) hL hi (by decide) rfl dL_law_1106 dL_law_1107 dL_law_1108 dL_law_1109 dL_law_1110 ?_
  refine g_callVi h.1 [.int (xs (i + 1))] _ sh51 rfl mtX10_joined mlL_127 (by decide) (by decide) rfl rfl (Nat.le_of_ble_eq_true rfl) dL_law_1111 (kX10_joined _ z M1 (xs (i + 1)) (r, M2) e2) ?_
  refine g_eqGo h dL_law_1114 (tgt := 1389) (by decide) ?_
  exact kk M2 hI2
theorem law_27 (h : okl x z b L xs) (hL : L ≤ 3584) {i : Nat} (hi : i + 7 ≤ L) (hI : Inv M) (kk : ∀ M' : Mem, Inv M' → G x z 4 1389 (LV z b i) [] M') : G x z 4 1119 (LV z b i) [] M := by
  obtain ⟨r, M1, e1, M2, e2, hI2⟩ := op_job hI (xs (i + 1)) (xs (i + 2)) (xs (i + 3))
  refine g_aload_n h.1 2 dL_law_1119 rfl ?_
  refine g_arg h (k := 1) hL hi (by decide) rfl dL_law_1120 dL_law_1121 dL_law_1122 dL_law_1123 dL_law_1124 ?_
  refine g_arg h (k := 2) hL hi (by decide) rfl dL_law_1125 dL_law_1126 dL_law_1127 dL_law_1128 dL_law_1129 ?_
  refine g_arg h (k := 3) hL hi (by decide) rfl dL_law_1130 dL_law_1131 dL_law_1132 dL_law_1133 dL_law_1134 ?_
  refine g_callVi h.1 [.int (xs (i + 1)), .int (xs (i + 2)), .int (xs (i + 3))] _ sh0 rfl mtX9_job mlL_128 (by decide) (by decide) rfl rfl (Nat.le_of_ble_eq_true rfl) dL_law_1135 (kX9_job _ z M (xs (i + 1)) (xs (i + 2)) (xs (i + 3)) (r, M1) e1) ?_
  refine g_aload_n h.1 3 dL_law_1138 rfl ?_
  refine g_arg h (k := 1) hL hi (by decide) rfl dL_law_1139 dL_law_1140 dL_law_1141 dL_law_1142 dL_law_1143 ?_
  refine g_arg h (k := 2) hL hi (by decide) rfl dL_law_1144 dL_law_1145 dL_law_1146 dL_law_1147 dL_law_1148 ?_
  refine g_arg h (k := 3) hL hi (by decide) rfl dL_law_1149 dL_law_1150 dL_law_1151 dL_law_1152 dL_law_1153 ?_
  refine g_callVi h.1 [.int (xs (i + 1)), .int (xs (i + 2)), .int (xs (i + 3))] _ sh51 rfl mtX10_job mlL_131 (by decide) (by decide) rfl rfl (Nat.le_of_ble_eq_true rfl) dL_law_1154 (kX10_job _ z M1 (xs (i + 1)) (xs (i + 2)) (xs (i + 3)) (r, M2) e2) ?_
  refine g_eqGo h dL_law_1157 (tgt := 1389) (by decide) ?_
  exact kk M2 hI2
theorem law_28 (h : okl x z b L xs) (hL : L ≤ 3584) {i : Nat} (hi : i + 7 ≤ L) (hI : Inv M) (kk : ∀ M' : Mem, Inv M' → G x z 4 1389 (LV z b i) [] M') : G x z 4 1162 (LV z b i) [] M := by
  obtain ⟨r, M1, e1, M2, e2, hI2⟩ := op_gang hI (xs (i + 1)) (xs (i + 2))
  refine g_aload_n h.1 2 dL_law_1162 rfl ?_
  refine g_arg h (k := 1) hL hi (by decide) rfl dL_law_1163 dL_law_1164 dL_law_1165 dL_law_1166 dL_law_1167 ?_
  refine g_arg h (k := 2) hL hi (by decide) rfl dL_law_1168 dL_law_1169 dL_law_1170 dL_law_1171 dL_law_1172 ?_
  refine g_callVi h.1 [.int (xs (i + 1)), .int (xs (i + 2))] _ sh0 rfl mtX9_gang mlL_132 (by decide) (by decide) rfl rfl (Nat.le_of_ble_eq_true rfl) dL_law_1173 (kX9_gang _ z M (xs (i + 1)) (xs (i + 2)) (r, M1) e1) ?_
  refine g_aload_n h.1 3 dL_law_1176 rfl ?_
  refine g_arg h (k := 1) hL hi (by decide) rfl dL_law_1177 dL_law_1178 dL_law_1179 dL_law_1180 dL_law_1181 ?_
  refine g_arg h (k := 2) hL hi (by decide) rfl dL_law_1182 dL_law_1183 dL_law_1184 dL_law_1185 dL_law_1186 ?_
  refine g_callVi h.1 [.int (xs (i + 1)), .int (xs (i + 2))] _ sh51 rfl mtX10_gang mlL_135 (by decide) (by decide) rfl rfl (Nat.le_of_ble_eq_true rfl) dL_law_1187 (kX10_gang _ z M1 (xs (i + 1)) (xs (i + 2)) (r, M2) e2) ?_
  refine g_eqGo h dL_law_1190 (tgt := 1389) (by decide) ?_
  exact kk M2 hI2
theorem law_29 (h : okl x z b L xs) (hL : L ≤ 3584) {i : Nat} (hi : i + 7 ≤ L) (hI : Inv M) (kk : ∀ M' : Mem, Inv M' → G x z 4 1389 (LV z b i) [] M') : G x z 4 1195 (LV z b i) [] M := by
  obtain ⟨r, M1, e1, M2, e2, hI2⟩ := op_plan hI (xs (i + 1))
  refine g_aload_n h.1 2 dL_law_1195 rfl ?_
  refine g_arg h (k := 1) hL hi (by decide) rfl dL_law_1196 dL_law_1197 dL_law_1198 dL_law_1199 dL_law_1200 ?_
  refine g_callVi h.1 [.int (xs (i + 1))] _ sh0 rfl mtX9_plan mlL_136 (by decide) (by decide) rfl rfl (Nat.le_of_ble_eq_true rfl) dL_law_1201 (kX9_plan _ z M (xs (i + 1)) (r, M1) e1) ?_
  refine g_aload_n h.1 3 dL_law_1204 rfl ?_
  refine g_arg h (k := 1) hL hi (by decide) rfl dL_law_1205 dL_law_1206 dL_law_1207 dL_law_1208 dL_law_1209 ?_
  refine g_callVi h.1 [.int (xs (i + 1))] _ sh51 rfl mtX10_plan mlL_139 (by decide) (by decide) rfl rfl (Nat.le_of_ble_eq_true rfl) dL_law_1210 (kX10_plan _ z M1 (xs (i + 1)) (r, M2) e2) ?_
  refine g_eqGo h dL_law_1213 (tgt := 1389) (by decide) ?_
  exact kk M2 hI2
theorem law_30 (h : okl x z b L xs) (hL : L ≤ 3584) {i : Nat} (hi : i + 7 ≤ L) (hI : Inv M) (kk : ∀ M' : Mem, Inv M' → G x z 4 1389 (LV z b i) [] M') : G x z 4 1218 (LV z b i) [] M := by
  obtain ⟨r, M1, e1, M2, e2, hI2⟩ := op_gangOf hI (xs (i + 1))
  refine g_aload_n h.1 2 dL_law_1218 rfl ?_
  refine g_arg h (k := 1) hL hi (by decide) rfl dL_law_1219 dL_law_1220 dL_law_1221 dL_law_1222 dL_law_1223 ?_
  refine g_callVi h.1 [.int (xs (i + 1))] _ sh0 rfl mtX9_gangOf mlL_140 (by decide) (by decide) rfl rfl (Nat.le_of_ble_eq_true rfl) dL_law_1224 (kX9_gangOf _ z M (xs (i + 1)) (r, M1) e1) ?_
  refine g_aload_n h.1 3 dL_law_1227 rfl ?_
  refine g_arg h (k := 1) hL hi (by decide) rfl dL_law_1228 dL_law_1229 dL_law_1230 dL_law_1231 dL_law_1232 ?_
  refine g_callVi h.1 [.int (xs (i + 1))] _ sh51 rfl mtX10_gangOf mlL_143 (by decide) (by decide) rfl rfl (Nat.le_of_ble_eq_true rfl) dL_law_1233 (kX10_gangOf _ z M1 (xs (i + 1)) (r, M2) e2) ?_
  refine g_eqGo h dL_law_1236 (tgt := 1389) (by decide) ?_
  exact kk M2 hI2
theorem law_31 (h : okl x z b L xs) (hL : L ≤ 3584) {i : Nat} (hi : i + 7 ≤ L) (hI : Inv M) (kk : ∀ M' : Mem, Inv M' → G x z 4 1389 (LV z b i) [] M') : G x z 4 1241 (LV z b i) [] M := by
  obtain ⟨r, M1, e1, M2, e2, hI2⟩ := op_rail hI (xs (i + 1)) (xs (i + 2)) (xs (i + 3))
  refine g_aload_n h.1 2 dL_law_1241 rfl ?_
  refine g_arg h (k := 1) hL hi (by decide) rfl dL_law_1242 dL_law_1243 dL_law_1244 dL_law_1245 dL_law_1246 ?_
  refine g_arg h (k := 2) hL hi (by decide) rfl dL_law_1247 dL_law_1248 dL_law_1249 dL_law_1250 dL_law_1251 ?_
  refine g_arg h (k := 3) hL hi (by decide) rfl dL_law_1252 dL_law_1253 dL_law_1254 dL_law_1255 dL_law_1256 ?_
  refine g_callVi h.1 [.int (xs (i + 1)), .int (xs (i + 2)), .int (xs (i + 3))] _ sh0 rfl mtX9_rail mlL_144 (by decide) (by decide) rfl rfl (Nat.le_of_ble_eq_true rfl) dL_law_1257 (kX9_rail _ z M (xs (i + 1)) (xs (i + 2)) (xs (i + 3)) (r, M1) e1) ?_
  refine g_aload_n h.1 3 dL_law_1260 rfl ?_
  refine g_arg h (k := 1) hL hi (by decide) rfl dL_law_1261 dL_law_1262 dL_law_1263 dL_law_1264 dL_law_1265 ?_
  refine g_arg h (k := 2) hL hi (by decide) rfl dL_law_1266 dL_law_1267 dL_law_1268 dL_law_1269 dL_law_1270 ?_
  refine g_arg h (k := 3) hL hi (by decide) rfl dL_law_1271 dL_law_1272 dL_law_1273 dL_law_1274 dL_law_1275 ?_
  refine g_callVi h.1 [.int (xs (i + 1)), .int (xs (i + 2)), .int (xs (i + 3))] _ sh51 rfl mtX10_rail mlL_147 (by decide) (by decide) rfl rfl (Nat.le_of_ble_eq_true rfl) dL_law_1276 (kX10_rail _ z M1 (xs (i + 1)) (xs (i + 2)) (xs (i + 3)) (r, M2) e2) ?_
  refine g_eqGo h dL_law_1279 (tgt := 1389) (by decide) ?_
  exact kk M2 hI2
theorem law_32 (h : okl x z b L xs) (hL : L ≤ 3584) {i : Nat} (hi : i + 7 ≤ L) (hI : Inv M) (kk : ∀ M' : Mem, Inv M' → G x z 4 1389 (LV z b i) [] M') : G x z 4 1284 (LV z b i) [] M := by
  obtain ⟨r, M1, e1, M2, e2, hI2⟩ := op_heat hI (xs (i + 1))
  refine g_aload_n h.1 2 dL_law_1284 rfl ?_
  refine g_arg h (k := 1) hL hi (by decide) rfl dL_law_1285 dL_law_1286 dL_law_1287 dL_law_1288 dL_law_1289 ?_
  refine g_callVi h.1 [.int (xs (i + 1))] _ sh0 rfl mtX9_heat mlL_148 (by decide) (by decide) rfl rfl (Nat.le_of_ble_eq_true rfl) dL_law_1290 (kX9_heat _ z M (xs (i + 1)) (r, M1) e1) ?_
  refine g_aload_n h.1 3 dL_law_1293 rfl ?_
  refine g_arg h (k := 1) hL hi (by decide) rfl dL_law_1294 dL_law_1295 dL_law_1296 dL_law_1297 dL_law_1298 ?_
  refine g_callVi h.1 [.int (xs (i + 1))] _ sh51 rfl mtX10_heat mlL_151 (by decide) (by decide) rfl rfl (Nat.le_of_ble_eq_true rfl) dL_law_1299 (kX10_heat _ z M1 (xs (i + 1)) (r, M2) e2) ?_
  refine g_eqGo h dL_law_1302 (tgt := 1389) (by decide) ?_
  exact kk M2 hI2
theorem law_33 (h : okl x z b L xs) (hL : L ≤ 3584) {i : Nat} (hi : i + 7 ≤ L) (hI : Inv M) (kk : ∀ M' : Mem, Inv M' → G x z 4 1389 (LV z b i) [] M') : G x z 4 1307 (LV z b i) [] M := by
  obtain ⟨r, M1, e1, M2, e2, hI2⟩ := op_lot hI (xs (i + 1)) (xs (i + 2))
  refine g_aload_n h.1 2 dL_law_1307 rfl ?_
  refine g_arg h (k := 1) hL hi (by decide) rfl dL_law_1308 dL_law_1309 dL_law_1310 dL_law_1311 dL_law_1312 ?_
  refine g_arg h (k := 2) hL hi (by decide) rfl dL_law_1313 dL_law_1314 dL_law_1315 dL_law_1316 dL_law_1317 ?_
  refine g_callVi h.1 [.int (xs (i + 1)), .int (xs (i + 2))] _ sh0 rfl mtX9_lot mlL_152 (by decide) (by decide) rfl rfl (Nat.le_of_ble_eq_true rfl) dL_law_1318 (kX9_lot _ z M (xs (i + 1)) (xs (i + 2)) (r, M1) e1) ?_
  refine g_aload_n h.1 3 dL_law_1321 rfl ?_
  refine g_arg h (k := 1) hL hi (by decide) rfl dL_law_1322 dL_law_1323 dL_law_1324 dL_law_1325 dL_law_1326 ?_
  refine g_arg h (k := 2) hL hi (by decide) rfl dL_law_1327 dL_law_1328 dL_law_1329 dL_law_1330 dL_law_1331 ?_
  refine g_callVi h.1 [.int (xs (i + 1)), .int (xs (i + 2))] _ sh51 rfl mtX10_lot mlL_155 (by decide) (by decide) rfl rfl (Nat.le_of_ble_eq_true rfl) dL_law_1332 (kX10_lot _ z M1 (xs (i + 1)) (xs (i + 2)) (r, M2) e2) ?_
  refine g_eqGo h dL_law_1335 (tgt := 1389) (by decide) ?_
  exact kk M2 hI2
theorem law_34 (h : okl x z b L xs) (hL : L ≤ 3584) {i : Nat} (hi : i + 7 ≤ L) (hI : Inv M) (kk : ∀ M' : Mem, Inv M' → G x z 4 1389 (LV z b i) [] M') : G x z 4 1340 (LV z b i) [] M := by
  obtain ⟨r, e1, e2⟩ := op_worst hI 
  refine g_aload_n h.1 2 dL_law_1340 rfl ?_
  refine g_callVi h.1 [] _ sh0 rfl mtX9_worst mlL_156 (by decide) (by decide) rfl rfl (Nat.le_of_ble_eq_true rfl) dL_law_1341 (kX9_worst _ z M  r e1) ?_
  refine g_aload_n h.1 3 dL_law_1344 rfl ?_
  refine g_callVi h.1 [] _ sh51 rfl mtX10_worst mlL_159 (by decide) (by decide) rfl rfl (Nat.le_of_ble_eq_true rfl) dL_law_1345 (kX10_worst _ z M  r e2) ?_
  refine g_eqGo h dL_law_1348 (tgt := 1389) (by decide) ?_
  exact kk M hI
theorem law_35 (h : okl x z b L xs) (hL : L ≤ 3584) {i : Nat} (hi : i + 7 ≤ L) (hI : Inv M) (kk : ∀ M' : Mem, Inv M' → G x z 4 1389 (LV z b i) [] M') : G x z 4 1353 (LV z b i) [] M := by
  obtain ⟨r, e1, e2⟩ := op_sure hI 
  refine g_aload_n h.1 2 dL_law_1353 rfl ?_
  refine g_callVi h.1 [] _ sh0 rfl mtX9_sure mlL_160 (by decide) (by decide) rfl rfl (Nat.le_of_ble_eq_true rfl) dL_law_1354 (kX9_sure _ z M  r e1) ?_
  refine g_aload_n h.1 3 dL_law_1357 rfl ?_
  refine g_callVi h.1 [] _ sh51 rfl mtX10_sure mlL_163 (by decide) (by decide) rfl rfl (Nat.le_of_ble_eq_true rfl) dL_law_1358 (kX10_sure _ z M  r e2) ?_
  refine g_eqGo h dL_law_1361 (tgt := 1389) (by decide) ?_
  exact kk M hI
theorem law_36 (h : okl x z b L xs) (hL : L ≤ 3584) {i : Nat} (hi : i + 7 ≤ L) (hI : Inv M) (kk : ∀ M' : Mem, Inv M' → G x z 4 1389 (LV z b i) [] M') : G x z 4 1366 (LV z b i) [] M := by
  obtain ⟨r, e1, e2⟩ := op_count hI (xs (i + 1))
  refine g_aload_n h.1 2 dL_law_1366 rfl ?_
  refine g_arg h (k := 1) hL hi (by decide) rfl dL_law_1367 dL_law_1368 dL_law_1369 dL_law_1370 dL_law_1371 ?_
  refine g_callVi h.1 [.int (xs (i + 1))] _ sh0 rfl mtX9_count mlL_164 (by decide) (by decide) rfl rfl (Nat.le_of_ble_eq_true rfl) dL_law_1372 (kX9_count _ z M (xs (i + 1)) r e1) ?_
  refine g_aload_n h.1 3 dL_law_1375 rfl ?_
  refine g_arg h (k := 1) hL hi (by decide) rfl dL_law_1376 dL_law_1377 dL_law_1378 dL_law_1379 dL_law_1380 ?_
  refine g_callVi h.1 [.int (xs (i + 1))] _ sh51 rfl mtX10_count mlL_167 (by decide) (by decide) rfl rfl (Nat.le_of_ble_eq_true rfl) dL_law_1381 (kX10_count _ z M (xs (i + 1)) r e2) ?_
  refine g_eqGo h dL_law_1384 (tgt := 1389) (by decide) ?_
  exact kk M hI
theorem law_case (h : okl x z b L xs) (hL : L ≤ 3584) {i : Nat} (hi : i + 7 ≤ L) (hI : Inv M) (kk : ∀ M' : Mem, Inv M' → G x z 4 1389 (LV z b i) [] M') {o : Nat} (ho : o < 64) : G x z 4 33 (LV z b i) [.int (nI o)] M := by
  have e : (nI o).toInt = o := nI_toInt (by omega)
  by_cases c : 36 < o
  · exact g_tabOut h dL_law_33 (Or.inr (by rw [e]; omega)) (tgt := 1389) (by decide) (kk M hI)
  · match o, ho, c, e with
    | 0, _, _, e => exact g_tabIn h dL_law_33 (by rw [e]; decide) (by rw [e]; decide) (by rw [e]; rfl) (tgt := 196) (by decide) (law_0 h hL hi hI kk)
    | 1, _, _, e => exact g_tabIn h dL_law_33 (by rw [e]; decide) (by rw [e]; decide) (by rw [e]; rfl) (tgt := 239) (by decide) (law_1 h hL hi hI kk)
    | 2, _, _, e => exact g_tabIn h dL_law_33 (by rw [e]; decide) (by rw [e]; decide) (by rw [e]; rfl) (tgt := 272) (by decide) (law_2 h hL hi hI kk)
    | 3, _, _, e => exact g_tabIn h dL_law_33 (by rw [e]; decide) (by rw [e]; decide) (by rw [e]; rfl) (tgt := 305) (by decide) (law_3 h hL hi hI kk)
    | 4, _, _, e => exact g_tabIn h dL_law_33 (by rw [e]; decide) (by rw [e]; decide) (by rw [e]; rfl) (tgt := 380) (by decide) (law_4 h hL hi hI kk)
    | 5, _, _, e => exact g_tabIn h dL_law_33 (by rw [e]; decide) (by rw [e]; decide) (by rw [e]; rfl) (tgt := 423) (by decide) (law_5 h hL hi hI kk)
    | 6, _, _, e => exact g_tabIn h dL_law_33 (by rw [e]; decide) (by rw [e]; decide) (by rw [e]; rfl) (tgt := 456) (by decide) (law_6 h hL hi hI kk)
    | 7, _, _, e => exact g_tabIn h dL_law_33 (by rw [e]; decide) (by rw [e]; decide) (by rw [e]; rfl) (tgt := 519) (by decide) (law_7 h hL hi hI kk)
    | 8, _, _, e => exact g_tabIn h dL_law_33 (by rw [e]; decide) (by rw [e]; decide) (by rw [e]; rfl) (tgt := 542) (by decide) (law_8 h hL hi hI kk)
    | 9, _, _, e => exact g_tabIn h dL_law_33 (by rw [e]; decide) (by rw [e]; decide) (by rw [e]; rfl) (tgt := 565) (by decide) (law_9 h hL hi hI kk)
    | 10, _, _, e => exact g_tabIn h dL_law_33 (by rw [e]; decide) (by rw [e]; decide) (by rw [e]; rfl) (tgt := 578) (by decide) (law_10 h hL hi hI kk)
    | 11, _, _, e => exact g_tabIn h dL_law_33 (by rw [e]; decide) (by rw [e]; decide) (by rw [e]; rfl) (tgt := 611) (by decide) (law_11 h hL hi hI kk)
    | 12, _, _, e => exact g_tabIn h dL_law_33 (by rw [e]; decide) (by rw [e]; decide) (by rw [e]; rfl) (tgt := 644) (by decide) (law_12 h hL hi hI kk)
    | 13, _, _, e => exact g_tabIn h dL_law_33 (by rw [e]; decide) (by rw [e]; decide) (by rw [e]; rfl) (tgt := 667) (by decide) (law_13 h hL hi hI kk)
    | 14, _, _, e => exact g_tabIn h dL_law_33 (by rw [e]; decide) (by rw [e]; decide) (by rw [e]; rfl) (tgt := 680) (by decide) (law_14 h hL hi hI kk)
    | 15, _, _, e => exact g_tabIn h dL_law_33 (by rw [e]; decide) (by rw [e]; decide) (by rw [e]; rfl) (tgt := 713) (by decide) (law_15 h hL hi hI kk)
    | 16, _, _, e => exact g_tabIn h dL_law_33 (by rw [e]; decide) (by rw [e]; decide) (by rw [e]; rfl) (tgt := 736) (by decide) (law_16 h hL hi hI kk)
    | 17, _, _, e => exact g_tabIn h dL_law_33 (by rw [e]; decide) (by rw [e]; decide) (by rw [e]; rfl) (tgt := 769) (by decide) (law_17 h hL hi hI kk)
    | 18, _, _, e => exact g_tabIn h dL_law_33 (by rw [e]; decide) (by rw [e]; decide) (by rw [e]; rfl) (tgt := 812) (by decide) (law_18 h hL hi hI kk)
    | 19, _, _, e => exact g_tabIn h dL_law_33 (by rw [e]; decide) (by rw [e]; decide) (by rw [e]; rfl) (tgt := 855) (by decide) (law_19 h hL hi hI kk)
    | 20, _, _, e => exact g_tabIn h dL_law_33 (by rw [e]; decide) (by rw [e]; decide) (by rw [e]; rfl) (tgt := 888) (by decide) (law_20 h hL hi hI kk)
    | 21, _, _, e => exact g_tabIn h dL_law_33 (by rw [e]; decide) (by rw [e]; decide) (by rw [e]; rfl) (tgt := 911) (by decide) (law_21 h hL hi hI kk)
    | 22, _, _, e => exact g_tabIn h dL_law_33 (by rw [e]; decide) (by rw [e]; decide) (by rw [e]; rfl) (tgt := 944) (by decide) (law_22 h hL hi hI kk)
    | 23, _, _, e => exact g_tabIn h dL_law_33 (by rw [e]; decide) (by rw [e]; decide) (by rw [e]; rfl) (tgt := 997) (by decide) (law_23 h hL hi hI kk)
    | 24, _, _, e => exact g_tabIn h dL_law_33 (by rw [e]; decide) (by rw [e]; decide) (by rw [e]; rfl) (tgt := 1030) (by decide) (law_24 h hL hi hI kk)
    | 25, _, _, e => exact g_tabIn h dL_law_33 (by rw [e]; decide) (by rw [e]; decide) (by rw [e]; rfl) (tgt := 1073) (by decide) (law_25 h hL hi hI kk)
    | 26, _, _, e => exact g_tabIn h dL_law_33 (by rw [e]; decide) (by rw [e]; decide) (by rw [e]; rfl) (tgt := 1096) (by decide) (law_26 h hL hi hI kk)
    | 27, _, _, e => exact g_tabIn h dL_law_33 (by rw [e]; decide) (by rw [e]; decide) (by rw [e]; rfl) (tgt := 1119) (by decide) (law_27 h hL hi hI kk)
    | 28, _, _, e => exact g_tabIn h dL_law_33 (by rw [e]; decide) (by rw [e]; decide) (by rw [e]; rfl) (tgt := 1162) (by decide) (law_28 h hL hi hI kk)
    | 29, _, _, e => exact g_tabIn h dL_law_33 (by rw [e]; decide) (by rw [e]; decide) (by rw [e]; rfl) (tgt := 1195) (by decide) (law_29 h hL hi hI kk)
    | 30, _, _, e => exact g_tabIn h dL_law_33 (by rw [e]; decide) (by rw [e]; decide) (by rw [e]; rfl) (tgt := 1218) (by decide) (law_30 h hL hi hI kk)
    | 31, _, _, e => exact g_tabIn h dL_law_33 (by rw [e]; decide) (by rw [e]; decide) (by rw [e]; rfl) (tgt := 1241) (by decide) (law_31 h hL hi hI kk)
    | 32, _, _, e => exact g_tabIn h dL_law_33 (by rw [e]; decide) (by rw [e]; decide) (by rw [e]; rfl) (tgt := 1284) (by decide) (law_32 h hL hi hI kk)
    | 33, _, _, e => exact g_tabIn h dL_law_33 (by rw [e]; decide) (by rw [e]; decide) (by rw [e]; rfl) (tgt := 1307) (by decide) (law_33 h hL hi hI kk)
    | 34, _, _, e => exact g_tabIn h dL_law_33 (by rw [e]; decide) (by rw [e]; decide) (by rw [e]; rfl) (tgt := 1340) (by decide) (law_34 h hL hi hI kk)
    | 35, _, _, e => exact g_tabIn h dL_law_33 (by rw [e]; decide) (by rw [e]; decide) (by rw [e]; rfl) (tgt := 1353) (by decide) (law_35 h hL hi hI kk)
    | 36, _, _, e => exact g_tabIn h dL_law_33 (by rw [e]; decide) (by rw [e]; decide) (by rw [e]; rfl) (tgt := 1366) (by decide) (law_36 h hL hi hI kk)
    | o + 37, _, c, _ => exact absurd c (by omega)
theorem law_loop (h : okl x z b L xs) (hL : L ≤ 3584) : ∀ (n i : Nat) (M : Mem), i ≤ L + 7 → L + 7 < i + n → Inv M → G x z 4 18 (LV z b i) [] M
  | 0, i, M, h1, h2, hI => absurd h2 (by omega)
  | n + 1, i, M, h1, h2, hI => by
    refine g_iload_n h.1 0 dL_law_18 rfl ?_
    refine g_aload_n h.1 1 dL_law_19 rfl ?_
    refine g_slen h dL_law_20 ?_
    refine g_bipush h.1 7 dL_law_21 (by decide) ?_
    refine g_isub h.1 dL_law_23 ?_
    have e : (nI L - 7).toInt = (L : Int) - 7 := pk_sub_toInt (b := 7) (by omega) (by omega)
    have ei : (nI i).toInt = (i : Int) := nI_toInt (by omega)
    refine g_icmpgt (ρ := Bool) (A := some true) (B := some false) (r := decide (nI L - 7 < nI i)) h.1 dL_law_24 (tgt := 1395) (by decide) (by by_cases c : nI L - 7 < nI i <;> simp [c]) (fun _ => g_lend h) (fun c => ?_)
    have hi : i + 7 ≤ L := by
      have c : ¬ nI L - 7 < nI i := fun z => by rw [decide_eq_true z] at c; cases c
      rw [lt_i, e, ei] at c
      omega
    refine g_aload_n h.1 1 dL_law_27 rfl ?_
    refine g_iload_n h.1 0 dL_law_28 rfl ?_
    refine g_sld h (by omega) hL dL_law_29 ?_
    refine g_bipush h.1 63 dL_law_30 (by decide) ?_
    refine g_iand h.1 dL_law_32 ?_
    obtain ⟨o, ho, eo⟩ := pk_andE (xs i) (m := 63) 6 rfl
    rw [eo]
    refine law_case h hL hi hI (fun M' hI' => ?_) ho
    refine g_iinc h.1 (LV z b (i + 7)) dL_law_1389 (k := 0) rfl (show nI i + Int32.ofInt 7 = nI (i + 7) from nI_add i 7) (by decide) rfl ?_
    refine g_goto h.1 dL_law_1392 (tgt := 18) (by decide) ?_
    exact law_loop h hL n (i + 7) M' (by omega) (by omega) hI'
end LAW
