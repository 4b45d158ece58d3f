theorem oiI : Cond.instanceMethod objectInit ∈ tbG := tbG_in (by decide +kernel) rfl
theorem oiC : Cond.code objectInit ⟨#[0xb1]⟩ 1 none ∈ tbG := tbG_in (by decide +kernel) rfl
theorem acI : Cond.arrayClass .int ∈ tbG := tbG_in (by decide +kernel) rfl
theorem acZ : Cond.arrayClass .boolean ∈ tbG := tbG_in (by decide +kernel) rfl
theorem acJ : Cond.arrayClass .long ∈ tbG := tbG_in (by decide +kernel) rfl
/-- what a constructor's frame has; C, S: the cells and slots that it may make -/
def okBd (x : Cx) (A : Nat → Prop) (cc : ByteArray) (own : String) (nL C S : Nat) : Prop := match x with
  | (p, _, _, R, s, m, args, _, meth, c, _, _, _) => p.tables.exec = Jvm.exec ∧ c.code = cc ∧ s.vm.findClass own = some m.cls ∧ (∀ w ∈ tbG, w.before args s = true) ∧ c.maxLocals = nL ∧ C ≤ R.cells ∧ S ≤ R.slots ∧ (∀ q, s.heap.size ≤ q → A q) ∧ meth.name = "<init>" ∧ 1 ≤ R.frames ∧ 20 ≤ R.locals
def KB (x : Cx) (D : va_G) (A : Nat → Prop) (nL pc : Nat) (lv : List (Nat × Value)) (st : List Value) (ws : va_W) (tys : List (ClassId × FieldType)) (nc ns : Nat) : Prop := match x with
  | (p, l, e, R, s, m, args, below, meth, c, _, _, Q) => ∀ (H : Heap) (locs : List Loc) (ls : Array Slot), lv_has ls nL lv → va_P D vwCl ws H → va_D A ws → va_K D vwCl tys s → va_S A s.heap H locs → W p l e R s m args below meth c H locs nc ns Q (F0 m pc ls st)
section KBR
variable {x : Cx} {D : va_G} {A : Nat → Prop} {cc : ByteArray} {own : String} {nL C S pc : Nat} {lv : List (Nat × Value)} {st : List Value} {ws : va_W} {tys : List (ClassId × FieldType)} {nc ns : Nat}
theorem kb_aload_n (h : okBd x A cc own nL C S) {k : _root_.Fin 4} {v : Nat} (q : Nat) (hd : decode cc pc = .ok (.aload_n k, 1)) (hq : lv[q]? = some ((k : Nat), .ref v)) (kk : KB x D A nL (pc + 1) lv (.ref v :: st) ws tys nc ns) : KB x D A nL pc lv st ws tys nc ns := by
  obtain ⟨p, l, e, R, s, m, args, below, meth, c, cells, slots, Q⟩ := x
  obtain ⟨hx, hb, hown, hts, hml, hC, hS0, hA, hin, hfr, hlo⟩ := h
  intro H locs ls hl hP hD hK hS
  exact lv_aload_n hx hb hd rfl (lv_at hl q hq) (kk H locs ls hl hP hD hK hS)
theorem kb_iload_n (h : okBd x A cc own nL C S) {k : _root_.Fin 4} {v : Int32} (q : Nat) (hd : decode cc pc = .ok (.iload_n k, 1)) (hq : lv[q]? = some ((k : Nat), .int v)) (kk : KB x D A nL (pc + 1) lv (.int v :: st) ws tys nc ns) : KB x D A nL pc lv st ws tys nc ns := by
  obtain ⟨p, l, e, R, s, m, args, below, meth, c, cells, slots, Q⟩ := x
  obtain ⟨hx, hb, hown, hts, hml, hC, hS0, hA, hin, hfr, hlo⟩ := h
  intro H locs ls hl hP hD hK hS
  exact lv_iload_n hx hb hd rfl (lv_at hl q hq) (kk H locs ls hl hP hD hK hS)
theorem kb_iconst (h : okBd x A cc own nL C S) {n : Int} (v : Int32) (hd : decode cc pc = .ok (.iconst n, 1)) (hv : Int32.ofInt n = v) (kk : KB x D A nL (pc + 1) lv (.int v :: st) ws tys nc ns) : KB x D A nL pc lv st ws tys nc ns := by
  obtain ⟨p, l, e, R, s, m, args, below, meth, c, cells, slots, Q⟩ := x
  obtain ⟨hx, hb, hown, hts, hml, hC, hS0, hA, hin, hfr, hlo⟩ := h
  intro H locs ls hl hP hD hK hS
  exact lv_iconst hx hb hd hv (kk H locs ls hl hP hD hK hS)
theorem kb_bipush (h : okBd x A cc own nL C S) {n : Int} (v : Int32) (hd : decode cc pc = .ok (.bipush n, 2)) (hv : (Int8.ofInt n).toInt32 = v) (kk : KB x D A nL (pc + 2) lv (.int v :: st) ws tys nc ns) : KB x D A nL pc lv st ws tys nc ns := by
  obtain ⟨p, l, e, R, s, m, args, below, meth, c, cells, slots, Q⟩ := x
  obtain ⟨hx, hb, hown, hts, hml, hC, hS0, hA, hin, hfr, hlo⟩ := h
  intro H locs ls hl hP hD hK hS
  exact lv_bipush hx hb hd hv (kk H locs ls hl hP hD hK hS)
theorem kb_sipush (h : okBd x A cc own nL C S) {n : Int} (v : Int32) (hd : decode cc pc = .ok (.sipush n, 3)) (hv : (Int16.ofInt n).toInt32 = v) (kk : KB x D A nL (pc + 3) lv (.int v :: st) ws tys nc ns) : KB x D A nL pc lv st ws tys nc ns := by
  obtain ⟨p, l, e, R, s, m, args, below, meth, c, cells, slots, Q⟩ := x
  obtain ⟨hx, hb, hown, hts, hml, hC, hS0, hA, hin, hfr, hlo⟩ := h
  intro H locs ls hl hP hD hK hS
  exact lv_sipush hx hb hd hv (kk H locs ls hl hP hD hK hS)
theorem kb_ldc (h : okBd x A cc own nL C S) {index : Nat} {v : Int32} (hw : Cond.constant own index v ∈ tbG) (hd : decode cc pc = .ok (.ldc index, 2)) (kk : KB x D A nL (pc + 2) lv (.int v :: st) ws tys nc ns) : KB x D A nL pc lv st ws tys nc ns := by
  obtain ⟨p, l, e, R, s, m, args, below, meth, c, cells, slots, Q⟩ := x
  obtain ⟨hx, hb, hown, hts, hml, hC, hS0, hA, hin, hfr, hlo⟩ := h
  intro H locs ls hl hP hD hK hS
  exact lv_ldc hx hb hown (hts _ hw) hd (kk H locs ls hl hP hD hK hS)
theorem kb_dup (h : okBd x A cc own nL C S) {va : Value} (hd : decode cc pc = .ok (.dup, 1)) (hva : va.category = 1) (kk : KB x D A nL (pc + 1) lv (va :: va :: st) ws tys nc ns) : KB x D A nL pc lv (va :: st) ws tys nc ns := by
  obtain ⟨p, l, e, R, s, m, args, below, meth, c, cells, slots, Q⟩ := x
  obtain ⟨hx, hb, hown, hts, hml, hC, hS0, hA, hin, hfr, hlo⟩ := h
  intro H locs ls hl hP hD hK hS
  exact lv_dup hx hb hd hva (kk H locs ls hl hP hD hK hS)
theorem kb_goto (h : okBd x A cc own nL C S) {off : Int} {tgt : Nat} (hd : decode cc pc = .ok (.goto off, 3)) (ht : (pc : Int) + off = (tgt : Int)) (kk : KB x D A nL tgt lv st ws tys nc ns) : KB x D A nL pc lv st ws tys nc ns := by
  obtain ⟨p, l, e, R, s, m, args, below, meth, c, cells, slots, Q⟩ := x
  obtain ⟨hx, hb, hown, hts, hml, hC, hS0, hA, hin, hfr, hlo⟩ := h
  intro H locs ls hl hP hD hK hS
  exact lv_goto hx hb hd ht (kk H locs ls hl hP hD hK hS)
theorem kb_oinit (h : okBd x A cc own nL C S) {idx a : Nat} (hlk : Cond.methodLink own idx objectInit ∈ tbG) (h8 : (st.map fun v => v.category).sum ≤ 8) (hd : decode cc pc = .ok (.invokespecial idx, 3)) (kk : KB x D A nL (pc + 3) lv st ws tys nc ns) : KB x D A nL pc lv (.ref a :: st) ws tys nc ns := by
  obtain ⟨p, l, e, R, s, m, args, below, meth, c, cells, slots, Q⟩ := x
  obtain ⟨hx, hb, hown, hts, hml, hC, hS0, hA, hin, hfr, hlo⟩ := h
  intro H locs ls hl hP hD hK hS
  exact W.objInit hx hb hown (hts _ hlk) (hts _ oiI) (hts _ oiC) rfl (by rw [hml]; exact hl.1) rfl hd hfr (by show 2 * 0 + _ + 12 ≤ R.locals; omega) (W.eq (g2 := F0 m (pc + 3) ls st) rfl (kk H locs ls hl hP hD hK hS))
theorem kb_newa (h : okBd x A cc own nL C S) {atype : ArrayType} {ty : FieldType} (harr : Cond.arrayClass ty ∈ tbG) (hty : newarray.typeOf atype = ty) {n : Int32} (N : Nat) (a0 : vp_A) (ha : ∀ cA : ClassId, vp_cell cA a0 = arrV cA N (fun _ => defaultValue ty)) (hn : ¬ n < 0) (hN : n.toNatClampNeg = N) (hby : N * componentBytes ty ≤ 536870912) (hc : nc + 1 ≤ C) (hs : ns + N ≤ S) (hd : decode cc pc = .ok (.newarray atype, 2)) (ws2 : Nat → ClassId → va_W) (hw : ∀ q cA, ws ++ [(q, .inl (cA, a0))] = ws2 q cA) (tys2 : ClassId → List (ClassId × FieldType)) (ht : ∀ cA, tys ++ [(cA, ty)] = tys2 cA) (nc2 ns2 : Nat) (h1 : nc + 1 = nc2) (h2 : ns + N = ns2) (kk : ∀ (q : Nat) (cA : ClassId), KB x D A nL (pc + 2) lv (.ref q :: st) (ws2 q cA) (tys2 cA) nc2 ns2) : KB x D A nL pc lv (.int n :: st) ws tys nc ns := by
  obtain ⟨p, l, e, R, s, m, args, below, meth, c, cells, slots, Q⟩ := x
  obtain ⟨hx, hb, hown, hts, hml, hC, hS0, hA, hin, hfr, hlo⟩ := h
  intro H locs ls hl hP hD hK hS
  exact va_newa hx hb (by rw [hty]; exact hts _ harr) hty hK hP hD hS hA ha hn hN hby (by omega) (by omega) hd (fun q cA H1 hK hP hD hS => by rw [h1, h2]; exact kk q cA H1 locs ls hl (by rw [← hw]; exact hP) (by rw [← hw]; exact hD) (by rw [← ht]; exact hK) hS)
theorem kb_new (h : okBd x A cc own nL C S) {Cn : String} {TT : u_T} {N ci index : Nat} (hin2 : ∀ w ∈ u_ws Cn TT N, w ∈ tbG) (ty : Nat → FieldType) (hty : ∀ k, k < N → parseFieldDescriptor (TT k).2.2.1 = some (ty k)) (hcl : Cond.classLink own index Cn ∈ tbG) (hinst : Cond.instantiable Cn N ∈ tbG) (hini : Cond.initialized Cn ∈ tbG) (hcc : vwCl[ci]? = some (Cn, TT, N)) (fs : List Value) (hfs : ∀ j, j < N → defaultValue (ty j) = vp_V fs j) (hc : nc + 1 ≤ C) (hs : ns + N ≤ S) (hd : decode cc pc = .ok (.new index, 3)) (kk : ∀ (q : Nat), KB x D A nL (pc + 3) lv (.ref q :: st) (ws ++ [(q, .inr (ci, fs))]) tys (nc + 1) (ns + N)) : KB x D A nL pc lv st ws tys nc ns := by
  obtain ⟨p, l, e, R, s, m, args, below, meth, c, cells, slots, Q⟩ := x
  obtain ⟨hx, hb, hown, hts, hml, hC, hS0, hA, hin, hfr, hlo⟩ := h
  intro H locs ls hl hP hD hK hS
  exact va_new hx hb hts hin2 ty hty hown (hts _ hcl) (hts _ hinst) (hts _ hini) hK hP hD hS hA hcc hfs (by omega) (by omega) hd (fun q H1 hP hD hS => kk q H1 locs ls hl hP hD hK hS)
theorem kb_put (h : okBd x A cc own nL C S) {Cn : String} {TT : u_T} {N ci index a : Nat} (hin2 : ∀ w ∈ u_ws Cn TT N, w ∈ tbG) (ty0 : Nat → FieldType) (hty : ∀ k, k < N → parseFieldDescriptor (TT k).2.2.1 = some (ty0 k)) (hnm : ∀ a, a < N → ∀ b, b < N → a ≠ b → (TT a).2.1 ≠ (TT b).2.1) (q0 : Nat) {fs : List Value} (he : ws[q0]? = some (a, .inr (ci, fs))) (hcc : vwCl[ci]? = some (Cn, TT, N)) (k : Nat) (hk : k < N) (hlk : Cond.fieldLink own index (TT k).1 (TT k).2.1 (TT k).2.2.1 ∈ tbG) (hfin : (TT k).2.2.2 = false) {ty : FieldType} {v : Value} (hdc : parseFieldDescriptor (TT k).2.2.1 = some ty) (hn : narrow ty v = v) (hfit : fits ty v = true) (hl0 : k < fs.length) (hd : decode cc pc = .ok (.putfield index, 3)) (ws' : va_W) (hw : ws.set q0 (a, .inr (ci, fs.set k v)) = ws') (kk : KB x D A nL (pc + 3) lv st ws' tys nc ns) : KB x D A nL pc lv (v :: .ref a :: st) ws tys nc ns := by
  obtain ⟨p, l, e, R, s, m, args, below, meth, c, cells, slots, Q⟩ := x
  obtain ⟨hx, hb, hown, hts, hml, hC, hS0, hA, hin, hfr, hlo⟩ := h
  intro H locs ls hl hP hD hK hS
  exact va_put hx hb hts hin2 ty0 hty hnm hown hK hP hD hS q0 he hcc k hk (hts _ hlk) (fun _ h9 => h9) hfin hdc hn hfit hl0 hd (fun H1 locs1 hP hD hS => kk H1 locs1 ls hl (by rw [← hw]; exact hP) (by rw [← hw]; exact hD) hK hS)
theorem kb_putF (h : okBd x A cc own nL C S) {Cn : String} {TT : u_T} {N ci index a : Nat} (hin2 : ∀ w ∈ u_ws Cn TT N, w ∈ tbG) (ty0 : Nat → FieldType) (hty : ∀ k, k < N → parseFieldDescriptor (TT k).2.2.1 = some (ty0 k)) (hnm : ∀ a, a < N → ∀ b, b < N → a ≠ b → (TT a).2.1 ≠ (TT b).2.1) (q0 : Nat) {fs : List Value} (he : ws[q0]? = some (a, .inr (ci, fs))) (hcc : vwCl[ci]? = some (Cn, TT, N)) (k : Nat) (hk : k < N) (hlk : Cond.fieldLink own index (TT k).1 (TT k).2.1 (TT k).2.2.1 ∈ tbG) (hfin : (TT k).2.2.2 = true) (hdecl : (TT k).1 = own) {ty : FieldType} {v : Value} (hdc : parseFieldDescriptor (TT k).2.2.1 = some ty) (hn : narrow ty v = v) (hfit : fits ty v = true) (hl0 : k < fs.length) (hd : decode cc pc = .ok (.putfield index, 3)) (ws' : va_W) (hw : ws.set q0 (a, .inr (ci, fs.set k v)) = ws') (kk : KB x D A nL (pc + 3) lv st ws' tys nc ns) : KB x D A nL pc lv (v :: .ref a :: st) ws tys nc ns := by
  obtain ⟨p, l, e, R, s, m, args, below, meth, c, cells, slots, Q⟩ := x
  obtain ⟨hx, hb, hown, hts, hml, hC, hS0, hA, hin, hfr, hlo⟩ := h
  intro H locs ls hl hP hD hK hS
  exact va_putF hx hb hts hin2 ty0 hty hnm hown hK hP hD hS q0 he hcc k hk (hts _ hlk) (fun _ h9 => h9) hfin hin hdecl hdc hn hfit hl0 hd (fun H1 locs1 hP hD hS => kk H1 locs1 ls hl (by rw [← hw]; exact hP) (by rw [← hw]; exact hD) hK hS)
theorem kb_iast (h : okBd x A cc own nL C S) (q0 t0 : Nat) {a : Nat} {cA : ClassId} {n : Nat} {f : Nat → Int32} (ha : ws[q0]? = some (a, .inl (cA, n, .inl f))) (ht : tys[t0]? = some (cA, .int)) {i v : Int32} (hi : inB i n = true) (hd : decode cc pc = .ok (.iastore, 1)) (ws2 : va_W) (hw : ws.set q0 (a, .inl (cA, n, .inl (upd f (ix i) v))) = ws2) (kk : KB x D A nL (pc + 1) lv st ws2 tys nc ns) : KB x D A nL pc lv (.int v :: .int i :: .ref a :: st) ws tys nc ns := by
  obtain ⟨p, l, e, R, s, m, args, below, meth, c, cells, slots, Q⟩ := x
  obtain ⟨hx, hb, hown, hts, hml, hC, hS0, hA, hin, hfr, hlo⟩ := h
  intro H locs ls hl hP hD hK hS
  exact va_iast hx hb hK hP hD hS q0 t0 ha ht (inB_vp hi) hd (fun H1 locs1 hP hD hS => kk H1 locs1 ls hl (by rw [← hw]; exact hP) (by rw [← hw]; exact hD) hK hS)
theorem kb_get (h : okBd x A cc own nL C S) {Cn : String} {TT : u_T} {N ci index a : Nat} (hin2 : ∀ w ∈ u_ws Cn TT N, w ∈ tbG) (q0 : Nat) {fs : List Value} (he : ws[q0]? = some (a, .inr (ci, fs))) (hcc : vwCl[ci]? = some (Cn, TT, N)) (k : Nat) (hk : k < N) (hlk : Cond.fieldLink own index (TT k).1 (TT k).2.1 (TT k).2.2.1 ∈ tbG) (v : Value) (hv : fs[k]? = some v) (hd : decode cc pc = .ok (.getfield index, 3)) (kk : KB x D A nL (pc + 3) lv (v :: st) ws tys nc ns) : KB x D A nL pc lv (.ref a :: st) ws tys nc ns := by
  obtain ⟨p, l, e, R, s, m, args, below, meth, c, cells, slots, Q⟩ := x
  obtain ⟨hx, hb, hown, hts, hml, hC, hS0, hA, hin, hfr, hlo⟩ := h
  intro H locs ls hl hP hD hK hS
  exact va_get hx hb hts hin2 hown hK hP q0 he hcc k hk (hts _ hlk) (fun _ h9 => h9) hv hd (kk H locs ls hl hP hD hK hS)
theorem kb_istore_n (h : okBd x A cc own nL C S) {k : _root_.Fin 4} {i : Nat} {v : Int32} (lv2 : List (Nat × Value)) (hd : decode cc pc = .ok (.istore_n k, 1)) (hi : (k : Nat) = i) (hn : i < nL) (hl2 : (i, Value.int v) :: lv.filter (fun q => !(q.1 == i) && !(q.1 + 1 == i && q.2.category == 2)) = lv2) (kk : KB x D A nL (pc + 1) lv2 st ws tys nc ns) : KB x D A nL pc lv (.int v :: st) ws tys nc ns := by
  obtain ⟨p, l, e, R, s, m, args, below, meth, c, cells, slots, Q⟩ := x
  obtain ⟨hx, hb, hown, hts, hml, hC, hS0, hA, hin, hfr, hlo⟩ := h
  intro H locs ls hl hP hD hK hS
  exact lv_istore_n (lv' := lv2) hx hb hd hi hl hn hl2 (fun ls2 hl3 => kk H locs ls2 hl3 hP hD hK hS)
theorem kb_iinc (h : okBd x A cc own nL C S) {i k : Nat} {n : Int} {a v : Int32} (lv2 : List (Nat × Value)) (hd : decode cc pc = .ok (.iinc i n, 3)) (hk : lv[k]? = some (i, .int a)) (hv : a + Int32.ofInt n = v) (hn : i < nL) (hl2 : (i, Value.int v) :: lv.filter (fun q => !(q.1 == i) && !(q.1 + 1 == i && q.2.category == 2)) = lv2) (kk : KB x D A nL (pc + 3) lv2 st ws tys nc ns) : KB x D A nL pc lv st ws tys nc ns := by
  obtain ⟨p, l, e, R, s, m, args, below, meth, c, cells, slots, Q⟩ := x
  obtain ⟨hx, hb, hown, hts, hml, hC, hS0, hA, hin, hfr, hlo⟩ := h
  intro H locs ls hl hP hD hK hS
  exact lv_iinc (lv' := lv2) hx hb hd hl hk hv hn hl2 (fun ls2 hl3 => kk H locs ls2 hl3 hP hD hK hS)
theorem kb_ge (h : okBd x A cc own nL C S) {a b : Int32} {off : Int} {tgt : Nat} (hd : decode cc pc = .ok (.if_icmp .ge off, 3)) (ht : (pc : Int) + off = (tgt : Int)) (kt : b ≤ a → KB x D A nL tgt lv st ws tys nc ns) (kf : ¬ b ≤ a → KB x D A nL (pc + 3) lv st ws tys nc ns) : KB x D A nL pc lv (.int b :: .int a :: st) ws tys nc ns := by
  obtain ⟨p, l, e, R, s, m, args, below, meth, c, cells, slots, Q⟩ := x
  obtain ⟨hx, hb, hown, hts, hml, hC, hS0, hA, hin, hfr, hlo⟩ := h
  intro H locs ls hl hP hD hK hS
  exact lv_icmp_ge hx hb hd ht (fun q => kt q H locs ls hl hP hD hK hS) (fun q => kf q H locs ls hl hP hD hK hS)
theorem kb_gt (h : okBd x A cc own nL C S) {a b : Int32} {off : Int} {tgt : Nat} (hd : decode cc pc = .ok (.if_icmp .gt off, 3)) (ht : (pc : Int) + off = (tgt : Int)) (kt : b < a → KB x D A nL tgt lv st ws tys nc ns) (kf : ¬ b < a → KB x D A nL (pc + 3) lv st ws tys nc ns) : KB x D A nL pc lv (.int b :: .int a :: st) ws tys nc ns := by
  obtain ⟨p, l, e, R, s, m, args, below, meth, c, cells, slots, Q⟩ := x
  obtain ⟨hx, hb, hown, hts, hml, hC, hS0, hA, hin, hfr, hlo⟩ := h
  intro H locs ls hl hP hD hK hS
  exact lv_icmp_gt hx hb hd ht (fun q => kt q H locs ls hl hP hD hK hS) (fun q => kf q H locs ls hl hP hD hK hS)
def fillF (v : Int32) (i : Nat) : Nat → Int32 := fun j => if j < i then v else 0
theorem fillF_0 (v : Int32) : (fun _ => (0 : Int32)) = fillF v 0 := by
  funext j
  show 0 = if j < 0 then v else 0
  rw [if_neg (Nat.not_lt_zero j)]
theorem fillF_s (v : Int32) (i : Nat) : upd (fillF v i) i v = fillF v (i + 1) := by
  funext j
  rw [upd_get]
  show (if j = i then v else if j < i then v else 0) = if j < i + 1 then v else 0
  by_cases c : j = i
  · rw [if_pos c, if_pos (by omega)]
  · rw [if_neg c]
    by_cases c2 : j < i
    · rw [if_pos c2, if_pos (by omega)]
    · rw [if_neg c2, if_neg (by omega)]
end KBR
