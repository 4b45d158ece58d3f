/-! a constructor's contract: the object alone at its start; at its end the object and what it made -/
abbrev Uc : Type := (Nat → Nat) × (Nat → ClassId)
def QK (D : va_G) (WW : Uc → va_W) (TT : Uc → List (ClassId × FieldType)) (A : Nat → Prop) : Array Value → State → Outcome → State → Prop := va_Qv (S := Uc) (fun _ => True) (fun u t => va_P D vwCl (WW u) t.heap ∧ va_K D vwCl (TT u) t ∧ va_D A (WW u)) A
def KCon (l : Launch) (D : va_G) (y : MethodName) (bytes : ByteArray) (maxL : Nat) (rm : Room) (h0 : Nat) (as : List Value) (e0 : va_E) (WW : Uc → va_W) (TT : Uc → List (ClassId × FieldType)) (mc ms : Nat) : Prop :=
  ∀ sz : Nat, Met l y (Cond.code y bytes maxL none :: tbG) rm (va_Pc (.ref h0 :: as) (fun U => U.heap.size = sz ∧ va_P D vwCl [(h0, e0)] U.heap ∧ va_K D vwCl [] U ∧ va_D (fun _ => True) [(h0, e0)])) (QK D WW TT (va_A [(h0, e0)] sz)) mc ms (va_A [(h0, e0)] sz)
def okEd (x : Cx) (D : va_G) (A : Nat → Prop) (WW : Uc → va_W) (TT : Uc → List (ClassId × FieldType)) (mc ms : Nat) : Prop := match x with
  | (_, _, _, _, s, _, args, below, meth, _, _, _, Q) => meth.sig.returnType = none ∧ meth.locks = false ∧ Q = MQ below (QK D WW TT A) args s mc ms A
theorem kb_ret {x : Cx} {D : va_G} {A : Nat → Prop} {cc : ByteArray} {own : String} {nL C S pc : Nat} {lv : List (Nat × Value)} {WW : Uc → va_W} {TT : Uc → List (ClassId × FieldType)} {mc ms : Nat} (h : okBd x A cc own nL C S) (he : okEd x D A WW TT mc ms) (u : Uc) {ws : va_W} {tys : List (ClassId × FieldType)} (h1 : ws = WW u) (h2 : tys = TT u) {nc ns : Nat} (hc : nc = mc) (hs : ns = ms) (hd : decode cc pc = .ok (.return_, 1)) : KB x D A nL pc lv [] ws tys nc ns := by
  subst h1; subst h2; subst hc; subst hs
  obtain ⟨p, l, e, R, s, m, args, below, meth, c, cells, slots, Q⟩ := x
  obtain ⟨hx, hb, hown, hts, hml, hC, hS0, hA, hin, hfr, hlo⟩ := h
  obtain ⟨hr, hlocks, rfl⟩ := he
  intro H locs ls hl hP hD hK hS
  exact W.vret hx hb hr (fun t ht hW => ⟨⟨u, rfl, trivial, by rw [ht]; exact hP, va_K.moved hW.alike hK, hD⟩, hS.F ht⟩) hS.2.2 hd
theorem KCon.of {l : Launch} {D : va_G} {y : MethodName} {bytes : ByteArray} {maxL : Nat} {rm : Room} {h0 : Nat} {as : List Value} {e0 : va_E} {WW : Uc → va_W} {TT : Uc → List (ClassId × FieldType)} {mc ms : Nat} (hy : plainName y.cls = true) (hyn : y.name = "<init>") (hn : (lg_sl (Value.ref h0 :: as)).length ≤ maxL) (hrm : mc ≤ rm.cells ∧ ms ≤ rm.slots ∧ 1 ≤ rm.frames ∧ 20 ≤ rm.locals)
    (body : ∀ (x : Cx) (A : Nat → Prop), x.2.1 = l → okBd x A bytes y.cls maxL mc ms → okEd x D A WW TT mc ms → KB x D A maxL 0 (lv_args 0 (.ref h0 :: as)) [] [(h0, e0)] [] 0 0) : KCon l D y bytes maxL rm h0 as e0 WW TT mc ms := by
  intro sz
  refine Met.ofW (cc := bytes) (maxL := maxL) (ret := none) hy rfl ?_
  intro p e s m args below meth c s₁ B hml hv
  obtain ⟨rfl, hsz, hP, hK, hD0⟩ := hv
  subst hsz
  have hts := atoms_spec (ws := Cond.code y bytes maxL none :: tbG) B.pre
  have hown : s.vm.findClass y.cls = some m.cls := findClass_of_methodNamed B.named
  have hin : meth.name = "<init>" := (name_of_methodNamed B.named B.method).1.trans hyn
  have g := body (p, l, e, rm, s, m, (Value.ref h0 :: as).toArray, below, meth, c, 0, 0, MQ below (QK D WW TT (va_A [(h0, e0)] s.heap.size)) (Value.ref h0 :: as).toArray s mc ms (va_A [(h0, e0)] s.heap.size)) (va_A [(h0, e0)] s.heap.size) rfl
    ⟨B.exec, B.bytes, hown, fun w hw => hts w (List.mem_cons_of_mem _ hw), hml, hrm.1, hrm.2.1, fun q h => Or.inr h, hin, hrm.2.2.1, hrm.2.2.2⟩ ⟨B.returns, B.notSynchronized, rfl⟩
  have hl := lv_entry (Value.ref h0 :: as) (n := maxL) hn
  rw [lg_entry_eq]
  exact g s.heap [] _ hl hP hD0.self hK va_S.rf
theorem a0I (n : Nat) (cA : ClassId) : vp_cell cA (n, .inl (fun _ => 0)) = arrV cA n (fun _ => defaultValue .int) := rfl
theorem a0Z (n : Nat) (cA : ClassId) : vp_cell cA (n, .inl (fun _ => 0)) = arrV cA n (fun _ => defaultValue .boolean) := rfl
theorem a0J (n : Nat) (cA : ClassId) : vp_cell cA (n, .inr (.inl (fun _ => 0))) = arrV cA n (fun _ => defaultValue .long) := rfl
