def okRm (x : Cx) (fr lo : Nat) : Prop := match x with
  | (_, _, _, R, _, _, _, _, _, _, _, _, _) => fr ≤ R.frames ∧ lo ≤ R.locals
def okNst (x : Cx) (w : Cond) : Prop := match x with
  | (_, _, _, _, s, _, _, _, _, _, _, _, _) => va_Nw w s
theorem kb_callN {x : Cx} {D : va_G} {A : Nat → Prop} {cc : ByteArray} {own : String} {nL C S pc : Nat} {lv : List (Nat × Value)} {st : List Value} {ws : va_W} {tys : List (ClassId × FieldType)} {nc ns : Nat} (h : okBd x A cc own nL C S)
    {y : MethodName} {bytes : ByteArray} {maxL n idx : Nat} {rm : Room} {host : String} {as : List Value} {e0 : va_E} {WW : Uc → va_W} {TT : Uc → List (ClassId × FieldType)} {mc ms q : Nat} (kc : KCon x.2.1 D y bytes maxL rm q as e0 WW TT mc ms)
    (hN : okNst x (.methodLinkNest own idx y host)) (hR : okRm x (rm.frames + 1) (8 + (maxL + 11) + rm.locals)) (hco : Cond.code y bytes maxL none ∈ tbG) (hini : Cond.initialized y.cls ∈ tbG) (hinst : Cond.instanceMethod y ∈ tbG) (hyn : y.name = "<init>") (hrc : rm.cells = mc) (hrs : rm.slots = ms)
    (hdd : y.cls ≠ "java/lang/invoke/MethodHandle" ∧ y.cls ≠ "java/lang/invoke/VarHandle" ∧ (parseMethodDescriptor y.desc).map (fun d => d.parameters.length) = some n) (hn : as.length = n) (stk : List Value) (hst : stk = as.reverse ++ .ref q :: st) (h8 : (st.map fun v => v.category).sum ≤ 8) (hd : decode cc pc = .ok (.invokespecial idx, 3)) (hc : nc + mc ≤ C) (hs : ns + ms ≤ S)
    (iC : Nat) (iR : List Nat) (wr : va_W) (h1 : [iC].map (fun i => ws[i]?) = [(q, e0)].map some) (h2 : iR.map (fun i => ws[i]?) = wr.map some) (h3 : va_nd iR = true) (h4 : ∀ i ∈ iR, i ∉ [iC])
    (kk : ∀ u : Uc, KB x D A nL (pc + 3) lv st (wr ++ WW u) (tys ++ TT u) (nc + mc) (ns + ms)) : KB x D A nL pc lv stk ws tys nc ns := by
  subst hst
  obtain ⟨p, l, e, R, s, m, args, below, meth, c, cells, slots, Q⟩ := x
  obtain ⟨hx, hb, hown, hts, hml, hC, hS0, hA, hin, hfr, hlo⟩ := h
  intro H locs ls hl hP hD hK hS
  have e1 : ws[iC]? = some (q, e0) := by simpa using h1
  have hPc : va_P D vwCl [(q, e0)] H := hP.sub [iC] (by simp [e1])
  have hDc : va_D A [(q, e0)] := hD.sub [iC] rfl (by simp [e1])
  have hKc : va_K D vwCl [] s := hK.sub [] rfl
  have hFc := va_free (wc := [(q, e0)]) hD hS hA [iC] h1
  refine va_callv (va_runIN (As := as) (rest := st) (n := n) ⟨hx, hb, hml, hown, hts⟩ (kc H.size) ⟨va_cnB n hts (tbG_good hco) rfl hrc hrs hN (hts _ hini) hdd hR, hyn, hts _ hinst⟩ ⟨fun a U g mk q => by obtain ⟨q0, q1, qP, qK, qD⟩ := q; exact ⟨q0, q1, qP, va_K.moved (u := U) (U := U.calling g mk a) (Vm.Alike.refl U.vm) qK, qD⟩, fun U hU hW => ⟨rfl, by rw [hU], by rw [hU]; exact hPc, va_K.moved hW.alike hKc, hDc.weaken (fun _ _ _ _ => trivial)⟩⟩ rfl hn hl.1 rfl (lv_room h8) hd ⟨by omega, by omega⟩) hS (fun q _ h => hFc q h) hFc (fun u t H1 locs ht hvm hw hB hz1 hk1 hS => ?_)
  obtain ⟨hP1, hK1, hD1⟩ := hB
  rw [ht] at hP1
  have hK1 := va_K.moved hvm.symm hK1
  obtain ⟨hP2, hD2⟩ := va_join (wr := wr) (w1 := WW u) hP hD [iC] iR h1 h2 h3 h4 hk1 hFc hP1 hD1
  exact kk u H1 locs ls hl hP2 hD2 (hK.app hK1) hS
/-- a contract with words of the nest at its start -/
def KConN (l : Launch) (D : va_G) (y : MethodName) (bytes : ByteArray) (maxL : Nat) (rm : Room) (nst : List Cond) (h0 : Nat) (as : List Value) (e0 : va_E) (WW : Uc → va_W) (TT : Uc → List (ClassId × FieldType)) (mc ms : Nat) : Prop :=
  ∀ sz : Nat, Met l y (Cond.code y bytes maxL none :: tbG) rm (va_Pc (.ref h0 :: as) (fun U => U.heap.size = sz ∧ va_P D vwCl [(h0, e0)] U.heap ∧ va_K D vwCl [] U ∧ va_D (fun _ => True) [(h0, e0)] ∧ ∀ w ∈ nst, va_Nw w U)) (QK D WW TT (va_A [(h0, e0)] sz)) mc ms (va_A [(h0, e0)] sz)
theorem KConN.of {l : Launch} {D : va_G} {y : MethodName} {bytes : ByteArray} {maxL : Nat} {rm : Room} {nst : List Cond} {h0 : Nat} {as : List Value} {e0 : va_E} {WW : Uc → va_W} {TT : Uc → List (ClassId × FieldType)} {mc ms : Nat} (hy : plainName y.cls = true) (hyn : y.name = "<init>") (hn : (lg_sl (Value.ref h0 :: as)).length ≤ maxL) (hrm : mc ≤ rm.cells ∧ ms ≤ rm.slots ∧ 1 ≤ rm.frames ∧ 20 ≤ rm.locals)
    (body : ∀ (x : Cx) (A : Nat → Prop), x.2.1 = l → okBd x A bytes y.cls maxL mc ms → okEd x D A WW TT mc ms → okRm x rm.frames rm.locals → (∀ w ∈ nst, okNst x w) → KB x D A maxL 0 (lv_args 0 (.ref h0 :: as)) [] [(h0, e0)] [] 0 0) : KConN l D y bytes maxL rm nst h0 as e0 WW TT mc ms := by
  intro sz
  refine Met.ofW (cc := bytes) (maxL := maxL) (ret := none) hy rfl ?_
  intro p e s m args below meth c s₁ B hml hv
  obtain ⟨rfl, hsz, hP, hK, hD0, hW0⟩ := hv
  subst hsz
  have hts := atoms_spec (ws := Cond.code y bytes maxL none :: tbG) B.pre
  have hown : s.vm.findClass y.cls = some m.cls := findClass_of_methodNamed B.named
  have hin : meth.name = "<init>" := (name_of_methodNamed B.named B.method).1.trans hyn
  have g := body (p, l, e, rm, s, m, (Value.ref h0 :: as).toArray, below, meth, c, 0, 0, MQ below (QK D WW TT (va_A [(h0, e0)] s.heap.size)) (Value.ref h0 :: as).toArray s mc ms (va_A [(h0, e0)] s.heap.size)) (va_A [(h0, e0)] s.heap.size) rfl
    ⟨B.exec, B.bytes, hown, fun w hw => hts w (List.mem_cons_of_mem _ hw), hml, hrm.1, hrm.2.1, fun q h => Or.inr h, hin, hrm.2.2.1, hrm.2.2.2⟩ ⟨B.returns, B.notSynchronized, rfl⟩ ⟨Nat.le_refl _, Nat.le_refl _⟩ (fun w hw => hW0 w hw)
  have hl := lv_entry (Value.ref h0 :: as) (n := maxL) hn
  rw [lg_entry_eq]
  exact g s.heap [] _ hl hP hD0.self hK va_S.rf
