theorem ret2 {α β : Type} {a : α} {m : β} : ∀ q : α × β, some (a, m) = some q → q.1 = a ∧ q.2 = m := fun q e => by cases e; exact ⟨rfl, rfl⟩
theorem ret1 {α β : Type} {a : α} {m : β} : ∀ q : α, some a = some q → q = a ∧ m = m := fun q e => by cases e; exact ⟨rfl, rfl⟩
theorem retv {α : Type} {m : α} : ∀ q : α, some m = some q → q = m := fun q e => by cases e; rfl
/-! calls by the kind of their answer; the loops' fuel -/
def fu : Nat := 5000
section GCK
variable {x : Cx} {z : Lay} {cc : ByteArray} {own : String} {nL lvl pc : Nat} {lv : List (Nat × Value)} {st : List Value} {M : Mem}
theorem g_callVi (hc : okc x z cc own nL lvl) {y : MethodName} {bytes : ByteArray} {maxL : Nat} {ret : Option FieldType} {n k' idx k ci : Nat} {fs : List (Option Nat)} {T : u_T} {N : Nat} {a : Int32} {M' : Mem} (As : List Value) (stk : List Value) (hs : shp[k]? = some (.inr (ci, fs))) (hcl : vwCl[ci]? = some (y.cls, T, N)) (mt : MtV y bytes maxL ret n) (hlk : Cond.methodLink own idx y ∈ tbG) (hk : k' < lvl) (hm : maxL ≤ 14) (hn : As.length = n) (hst : stk = As.reverse ++ .ref (z.2.1 k) :: st) (h8 : (st.map fun v => v.category).sum ≤ 8) (hd : decode cc pc = .ok (.invokevirtual idx, 3)) (hM : Con x.2.1 z y bytes maxL ret k' (.ref (z.2.1 k) :: As) M (some (.int a)) M') (kk : G x z nL (pc + 3) lv (.int a :: st) M') : G x z nL pc lv stk M := g_callV hc As stk hs hcl mt hlk hk hm hn hst h8 hd hM kk
theorem g_callSi (hc : okc x z cc own nL lvl) {y : MethodName} {bytes : ByteArray} {maxL : Nat} {ret : Option FieldType} {n k' idx : Nat} {a : Int32} {M' : Mem} (As : List Value) (stk : List Value) (mt : MtS y bytes maxL ret n) (hlk : Cond.methodLink own idx y ∈ tbG) (hk : k' < lvl) (hm : maxL ≤ 14) (hn : As.length = n) (hst : stk = As.reverse ++ st) (h8 : (st.map fun v => v.category).sum ≤ 8) (hd : decode cc pc = .ok (.invokestatic idx, 3)) (hM : Con x.2.1 z y bytes maxL ret k' As M (some (.int a)) M') (kk : G x z nL (pc + 3) lv (.int a :: st) M') : G x z nL pc lv stk M := g_callS hc As stk mt hlk hk hm hn hst h8 hd hM kk
theorem g_callVl (hc : okc x z cc own nL lvl) {y : MethodName} {bytes : ByteArray} {maxL : Nat} {ret : Option FieldType} {n k' idx k ci : Nat} {fs : List (Option Nat)} {T : u_T} {N : Nat} {a : Int64} {M' : Mem} (As : List Value) (stk : List Value) (hs : shp[k]? = some (.inr (ci, fs))) (hcl : vwCl[ci]? = some (y.cls, T, N)) (mt : MtV y bytes maxL ret n) (hlk : Cond.methodLink own idx y ∈ tbG) (hk : k' < lvl) (hm : maxL ≤ 14) (hn : As.length = n) (hst : stk = As.reverse ++ .ref (z.2.1 k) :: st) (h8 : (st.map fun v => v.category).sum ≤ 8) (hd : decode cc pc = .ok (.invokevirtual idx, 3)) (hM : Con x.2.1 z y bytes maxL ret k' (.ref (z.2.1 k) :: As) M (some (.long a)) M') (kk : G x z nL (pc + 3) lv (.long a :: st) M') : G x z nL pc lv stk M := g_callV hc As stk hs hcl mt hlk hk hm hn hst h8 hd hM kk
theorem g_callSl (hc : okc x z cc own nL lvl) {y : MethodName} {bytes : ByteArray} {maxL : Nat} {ret : Option FieldType} {n k' idx : Nat} {a : Int64} {M' : Mem} (As : List Value) (stk : List Value) (mt : MtS y bytes maxL ret n) (hlk : Cond.methodLink own idx y ∈ tbG) (hk : k' < lvl) (hm : maxL ≤ 14) (hn : As.length = n) (hst : stk = As.reverse ++ st) (h8 : (st.map fun v => v.category).sum ≤ 8) (hd : decode cc pc = .ok (.invokestatic idx, 3)) (hM : Con x.2.1 z y bytes maxL ret k' As M (some (.long a)) M') (kk : G x z nL (pc + 3) lv (.long a :: st) M') : G x z nL pc lv stk M := g_callS hc As stk mt hlk hk hm hn hst h8 hd hM kk
theorem g_callVv (hc : okc x z cc own nL lvl) {y : MethodName} {bytes : ByteArray} {maxL : Nat} {ret : Option FieldType} {n k' idx k ci : Nat} {fs : List (Option Nat)} {T : u_T} {N : Nat}  {M' : Mem} (As : List Value) (stk : List Value) (hs : shp[k]? = some (.inr (ci, fs))) (hcl : vwCl[ci]? = some (y.cls, T, N)) (mt : MtV y bytes maxL ret n) (hlk : Cond.methodLink own idx y ∈ tbG) (hk : k' < lvl) (hm : maxL ≤ 14) (hn : As.length = n) (hst : stk = As.reverse ++ .ref (z.2.1 k) :: st) (h8 : (st.map fun v => v.category).sum ≤ 8) (hd : decode cc pc = .ok (.invokevirtual idx, 3)) (hM : Con x.2.1 z y bytes maxL ret k' (.ref (z.2.1 k) :: As) M (none) M') (kk : G x z nL (pc + 3) lv (st) M') : G x z nL pc lv stk M := g_callV hc As stk hs hcl mt hlk hk hm hn hst h8 hd hM kk
theorem g_callSv (hc : okc x z cc own nL lvl) {y : MethodName} {bytes : ByteArray} {maxL : Nat} {ret : Option FieldType} {n k' idx : Nat}  {M' : Mem} (As : List Value) (stk : List Value) (mt : MtS y bytes maxL ret n) (hlk : Cond.methodLink own idx y ∈ tbG) (hk : k' < lvl) (hm : maxL ≤ 14) (hn : As.length = n) (hst : stk = As.reverse ++ st) (h8 : (st.map fun v => v.category).sum ≤ 8) (hd : decode cc pc = .ok (.invokestatic idx, 3)) (hM : Con x.2.1 z y bytes maxL ret k' As M (none) M') (kk : G x z nL (pc + 3) lv (st) M') : G x z nL pc lv stk M := g_callS hc As stk mt hlk hk hm hn hst h8 hd hM kk
theorem g_callVr (hc : okc x z cc own nL lvl) {y : MethodName} {bytes : ByteArray} {maxL : Nat} {ret : Option FieldType} {n k' idx k ci : Nat} {fs : List (Option Nat)} {T : u_T} {N : Nat} {a : Nat} {M' : Mem} (As : List Value) (stk : List Value) (hs : shp[k]? = some (.inr (ci, fs))) (hcl : vwCl[ci]? = some (y.cls, T, N)) (mt : MtV y bytes maxL ret n) (hlk : Cond.methodLink own idx y ∈ tbG) (hk : k' < lvl) (hm : maxL ≤ 14) (hn : As.length = n) (hst : stk = As.reverse ++ .ref (z.2.1 k) :: st) (h8 : (st.map fun v => v.category).sum ≤ 8) (hd : decode cc pc = .ok (.invokevirtual idx, 3)) (hM : Con x.2.1 z y bytes maxL ret k' (.ref (z.2.1 k) :: As) M (some (.ref a)) M') (kk : G x z nL (pc + 3) lv (.ref a :: st) M') : G x z nL pc lv stk M := g_callV hc As stk hs hcl mt hlk hk hm hn hst h8 hd hM kk
theorem g_callSr (hc : okc x z cc own nL lvl) {y : MethodName} {bytes : ByteArray} {maxL : Nat} {ret : Option FieldType} {n k' idx : Nat} {a : Nat} {M' : Mem} (As : List Value) (stk : List Value) (mt : MtS y bytes maxL ret n) (hlk : Cond.methodLink own idx y ∈ tbG) (hk : k' < lvl) (hm : maxL ≤ 14) (hn : As.length = n) (hst : stk = As.reverse ++ st) (h8 : (st.map fun v => v.category).sum ≤ 8) (hd : decode cc pc = .ok (.invokestatic idx, 3)) (hM : Con x.2.1 z y bytes maxL ret k' As M (some (.ref a)) M') (kk : G x z nL (pc + 3) lv (.ref a :: st) M') : G x z nL pc lv stk M := g_callS hc As stk mt hlk hk hm hn hst h8 hd hM kk
theorem g_tin (hc : okc x z cc own nL lvl) {dflt lo hi : Int} {offs : Array Int} {len : Nat} {a : Int32} {off : Int} {tgt : Nat} (k : Int32) (e : a = k) (hd : decode cc pc = .ok (.tableswitch dflt lo hi offs, len)) (h1 : ¬ k.toInt < lo) (h2 : ¬ hi < k.toInt) (ho : offs[(k.toInt - lo).toNat]? = some off) (ht : (pc : Int) + off = (tgt : Int)) (kk : G x z nL tgt lv st M) : G x z nL pc lv (.int a :: st) M := by
  subst e
  obtain ⟨p, l, e, R, s, m, args, below, meth, c, cells, slots, Q⟩ := x
  obtain ⟨hx, hb, hown, hts, hK, hD, hZ, hml, hr1, hr2, hr3, hr4⟩ := hc
  intro H locs ls hl hP hS
  exact lv_tableIn hx hb hd h1 h2 ho ht (kk H locs ls hl hP hS)
theorem g_tout (hc : okc x z cc own nL lvl) {dflt lo hi : Int} {offs : Array Int} {len : Nat} {a : Int32} {tgt : Nat} (hd : decode cc pc = .ok (.tableswitch dflt lo hi offs, len)) (h : a.toInt < lo ∨ hi < a.toInt) (ht : (pc : Int) + dflt = (tgt : Int)) (kk : G x z nL tgt lv st M) : G x z nL pc lv (.int a :: st) M := by
  obtain ⟨p, l, e, R, s, m, args, below, meth, c, cells, slots, Q⟩ := x
  obtain ⟨hx, hb, hown, hts, hK, hD, hZ, hml, hr1, hr2, hr3, hr4⟩ := hc
  intro H locs ls hl hP hS
  exact lv_tableOut hx hb hd h ht (kk H locs ls hl hP hS)
end GCK
def rdk (w : Int32) : Nat := if w = 0 then 4 else 6
theorem okRd (w : Int32) : okR (rdk w) := by
  unfold rdk okR
  by_cases h : w = 0
  · rw [if_pos h]; exact Or.inl rfl
  · rw [if_neg h]; exact Or.inr rfl
def xX5_tell (M : Mem) (k0 : Nat) (v1 : Int32) (v2 : Int32) : Option (Int32 × Mem) :=
  ck (inB v1 1001) <|
  some ((M.1 (k0 + 1) (ix v1)), (upI M (k0 + 1) (ix v1) v2))
def lX5_counted_28  : Nat → Mem → Nat → Int32 → Int32 → Int32 → Option (Int32)
  | 0, _, _, _, _, _ => none
  | n + 1, M, k0, v1, v2, v3 =>
    if v3 < v1 then
      ck (inB v3 1001) <|
      lX5_counted_28  n M k0 v1 (mxI v2 (M.1 (k0 + 1) (ix v3))) (v3 + 1)
    else
    if v2 = (-1) then
      some (M.1 k0 1)
    else
    some v2
def xX5_counted (M : Mem) (k0 : Nat) (v1 : Int32) : Option (Int32) :=
  ck (inB v1 1001) <|
  if (M.1 (k0 + 1) (ix v1)) = (-1) then
    lX5_counted_28  fu M k0 v1 (-1) (mxI 0 (v1 - 7))
  else
  some (M.1 (k0 + 1) (ix v1))
def xX1_add (M : Mem) (v1 : Int32) (v2 : Int32) (v3 : Int32) (v4 : Int32) : Option (Int32 × Mem) :=
  ck (inB (M.1 8 0) 40) <|
  some ((M.1 8 0), (upI (upI (upI (upI (upI (upI (upI (upI (upI M 9 (ix (M.1 8 0)) v1) 10 (ix (M.1 8 0)) v2) 11 (ix (M.1 8 0)) v3) 12 (ix (M.1 8 0)) v4) 13 (ix (M.1 8 0)) 1) 14 (ix (M.1 8 0)) 0) 15 (ix (M.1 8 0)) 1049) 16 (ix (M.1 8 0)) (-9)) 8 0 ((M.1 8 0) + 1)))
def jX1_cutSpan_96  (M : Mem) (v6 : Int32) (s1 : Int32) (s2 : Int32) : Option (Int32 × Mem) :=
  ck (inB s1 40) <|
  if v6 = 0 then
    ck (isB v6) <|
    some (v6, (upI (upI (upI M 15 (ix s1) s2) 8 1 ((M.1 8 1) + 1)) 8 2 ((M.1 8 2) + 1)))
  else
  ck (isB v6) <|
  some (v6, (upI (upI M 15 (ix s1) s2) 8 1 ((M.1 8 1) + 1)))
def jX1_cutSpan_69  (M : Mem) (v1 : Int32) (v5 : Int32) (v6 : Int32) (s1 : Int32) (s2 : Int32) : Option (Int32 × Mem) :=
  ck (inB s1 40) <|
  if v6 = 0 then
    jX1_cutSpan_96  (upI M 14 (ix s1) s2) v6 v1 v5
  else
  ck (inB v1 40) <|
  jX1_cutSpan_96  (upI M 14 (ix s1) s2) v6 v1 (mnI (M.1 15 (ix v1)) v5)
def jX1_cutSpan_41  (M : Mem) (v1 : Int32) (v4 : Int32) (v5 : Int32) (s0 : Int32) : Option (Int32 × Mem) :=
  if s0 = 0 then
    jX1_cutSpan_69  M v1 v5 s0 v1 v4
  else
  ck (inB v1 40) <|
  jX1_cutSpan_69  M v1 v5 s0 v1 (mxI (M.1 14 (ix v1)) v4)
def jX1_cutSpan_40  (M : Mem) (v1 : Int32) (v4 : Int32) (v5 : Int32) : Option (Int32 × Mem) :=
  jX1_cutSpan_41  M v1 v4 v5 0
def xX1_cutSpan (M : Mem) (v1 : Int32) (v2 : Int32) (v3 : Int32) : Option (Int32 × Mem) :=
  ck (inB v1 40) <|
  if (M.1 15 (ix v1)) < (mxI 0 (v2 - v3)) then
    jX1_cutSpan_40  M v1 (mxI 0 (v2 - v3)) (v2 + v3)
  else
  if (v2 + v3) < (M.1 14 (ix v1)) then
    jX1_cutSpan_40  M v1 (mxI 0 (v2 - v3)) (v2 + v3)
  else
  jX1_cutSpan_41  M v1 (mxI 0 (v2 - v3)) (v2 + v3) 1
def xX1_note (M : Mem) (v1 : Int32) (v2 : Int32) (v3 : Int32) : Option (Mem) :=
  ck (inB v1 40) <|
  if (M.1 16 (ix v1)) = v2 then
    some M
  else
  some (upI (upI M 16 (ix v1) v2) 17 (ix v1) v3)
def xX1_mostGrowth (v0 : Int32) (v1 : Int32) (v2 : Int32) : Option (Int32) :=
  if v1 < 15 then
    some (1 + ((v0 * v2) / 100))
  else
  some (1 + (((v0 * v2) + ((v0 * v2) / 2)) / 100))
def lX1_grow_3  : Nat → Mem → Int32 → Int32 → Int32 → Option (Mem)
  | 0, _, _, _, _ => none
  | n + 1, M, v1, v2, v4 =>
    if v4 < (M.1 8 0) then
      ck (inB v4 40) <|
      if (M.1 13 (ix v4)) = 0 then
        lX1_grow_3  n M v1 v2 (v4 + 1)
      else
      ck (inB (M.1 12 (ix v4)) 4) <|
      (xX1_mostGrowth v1 v2 (M.1 3 (ix (M.1 12 (ix v4))))).bind fun r1 =>
      lX1_grow_3  n (upI M 15 (ix v4) ((M.1 15 (ix v4)) + r1)) v1 v2 (v4 + 1)
    else
    some M
def xX1_grow (M : Mem) (v1 : Int32) (v2 : Int32) : Option (Mem) :=
  lX1_grow_3  fu M v1 v2 0
def lX1_countOpen_4  : Nat → Mem → Int32 → Int32 → Option (Int32)
  | 0, _, _, _ => none
  | n + 1, M, v1, v2 =>
    if v2 < (M.1 8 0) then
      ck (inB v2 40) <|
      if (M.1 13 (ix v2)) = 0 then
        lX1_countOpen_4  n M v1 (v2 + 1)
      else
      lX1_countOpen_4  n M (v1 + 1) (v2 + 1)
    else
    some v1
def xX1_countOpen (M : Mem) : Option (Int32) :=
  lX1_countOpen_4  fu M 0 0
def lX1_countOpenIn_4  : Nat → Mem → Int32 → Int32 → Int32 → Option (Int32)
  | 0, _, _, _, _ => none
  | n + 1, M, v1, v2, v3 =>
    if v3 < (M.1 8 0) then
      ck (inB v3 40) <|
      if (M.1 13 (ix v3)) = 0 then
        lX1_countOpenIn_4  n M v1 v2 (v3 + 1)
      else
      if (M.1 9 (ix v3)) = v1 then
        lX1_countOpenIn_4  n M v1 (v2 + 1) (v3 + 1)
      else
      lX1_countOpenIn_4  n M v1 v2 (v3 + 1)
    else
    some v2
def xX1_countOpenIn (M : Mem) (v1 : Int32) : Option (Int32) :=
  lX1_countOpenIn_4  fu M v1 0 0
def lX1_openOne_4  : Nat → Mem → Int32 → Int32 → Int32 → Option (Int32)
  | 0, _, _, _, _ => none
  | n + 1, M, v1, v2, v3 =>
    if v3 < (M.1 8 0) then
      ck (inB v3 40) <|
      if (M.1 13 (ix v3)) = 0 then
        lX1_openOne_4  n M v1 v2 (v3 + 1)
      else
      if v2 = v1 then
        some v3
      else
      lX1_openOne_4  n M v1 (v2 + 1) (v3 + 1)
    else
    some (-9)
def xX1_openOne (M : Mem) (v1 : Int32) : Option (Int32) :=
  lX1_openOne_4  fu M v1 0 0
def xX6_add (M : Mem) (v1 : Int32) (v2 : Int32) (v3 : Int32) (v4 : Int32) (v5 : Int32) : Option (Int32 × Mem) :=
  ck (inB (M.1 18 0) 30) <|
  some ((M.1 18 0), (upI (upI (upI (upI (upI (upI M 21 (ix (M.1 18 0)) v1) 22 (ix (M.1 18 0)) v2) 23 (ix (M.1 18 0)) v3) 19 (ix (M.1 18 0)) v4) 20 (ix (M.1 18 0)) v5) 18 0 ((M.1 18 0) + 1)))
def xX6_goesBefore (M : Mem) (v1 : Int32) (v2 : Int32) : Option (Int32) :=
  ck (inB v1 30) <|
  ck (inB v2 30) <|
  if (M.1 22 (ix v1)) = (M.1 22 (ix v2)) then
    if (M.1 23 (ix v2)) < (M.1 23 (ix v1)) then
      some 1
    else
    some 0
  else
  if (M.1 22 (ix v2)) < (M.1 22 (ix v1)) then
    some 1
  else
  some 0
def jX6_inForce_54 (f7 : Mem → Int32 → Int32 → Int32 → Int32 → Int32 → Option (Int32)) (M : Mem) (v1 : Int32) (v2 : Int32) (v3 : Int32) (v4 : Int32) (v5 : Int32) (s0 : Int32) : Option (Int32) :=
  if s0 = 0 then
    f7 M v1 v2 v3 v4 (v5 + 1)
  else
  if v4 = (-9) then
    f7 M v1 v2 v3 v5 (v5 + 1)
  else
  (xX6_goesBefore M v4 v5).bind fun r1 =>
  if r1 = 0 then
    f7 M v1 v2 v3 v5 (v5 + 1)
  else
  f7 M v1 v2 v3 v4 (v5 + 1)
def jX6_inForce_53 (f7 : Mem → Int32 → Int32 → Int32 → Int32 → Int32 → Option (Int32)) (M : Mem) (v1 : Int32) (v2 : Int32) (v3 : Int32) (v4 : Int32) (v5 : Int32) : Option (Int32) :=
  jX6_inForce_54 f7 M v1 v2 v3 v4 v5 0
def lX6_inForce_7  : Nat → Mem → Int32 → Int32 → Int32 → Int32 → Int32 → Option (Int32)
  | 0, _, _, _, _, _, _ => none
  | n + 1, M, v1, v2, v3, v4, v5 =>
    if v5 < (M.1 18 0) then
      ck (inB v5 30) <|
      if (M.1 21 (ix v5)) = v1 then
        if v3 < (M.1 23 (ix v5)) then
          jX6_inForce_53 (lX6_inForce_7  n) M v1 v2 v3 v4 v5
        else
        if v2 < (M.1 22 (ix v5)) then
          jX6_inForce_53 (lX6_inForce_7  n) M v1 v2 v3 v4 v5
        else
        jX6_inForce_54 (lX6_inForce_7  n) M v1 v2 v3 v4 v5 1
      else
      jX6_inForce_53 (lX6_inForce_7  n) M v1 v2 v3 v4 v5
    else
    some v4
def xX6_inForce (M : Mem) (v1 : Int32) (v2 : Int32) (v3 : Int32) : Option (Int32) :=
  lX6_inForce_7  fu M v1 v2 v3 (-9) 0
def xX7_standsOn (M : Mem) (v1 : Int32) : Option (Int32) :=
  ck (inB v1 20) <|
  if 0 < (M.1 25 (ix v1)) then
    some 1
  else
  some 0
def lX7_countStanding_4  : Nat → Mem → Int32 → Int32 → Option (Int32)
  | 0, _, _, _ => none
  | n + 1, M, v1, v2 =>
    if v2 < 20 then
      (xX7_standsOn M v2).bind fun r1 =>
      if r1 = 0 then
        lX7_countStanding_4  n M v1 (v2 + 1)
      else
      lX7_countStanding_4  n M (v1 + 1) (v2 + 1)
    else
    some v1
def xX7_countStanding (M : Mem) : Option (Int32) :=
  lX7_countStanding_4  fu M 0 0
def lX7_passDay_2  : Nat → Mem → Int32 → Int32 → Option (Mem)
  | 0, _, _, _ => none
  | n + 1, M, v1, v2 =>
    if v2 < 20 then
      ck (inB v2 20) <|
      lX7_passDay_2  n (upI M 24 0 ((M.1 24 0) + ((M.1 25 (ix v2)) * v1))) v1 (v2 + 1)
    else
    some M
def xX7_passDay (M : Mem) (v1 : Int32) : Option (Mem) :=
  lX7_passDay_2  fu M v1 0
def xX8_add (M : Mem) (v1 : Int32) (v2 : Int32) : Option (Int32 × Mem) :=
  ck (inB (M.1 26 0) 24) <|
  some ((M.1 26 0), (upI (upI (upI M 27 (ix (M.1 26 0)) v1) 28 (ix (M.1 26 0)) v2) 26 0 ((M.1 26 0) + 1)))
def lX8_clearFrom_45 (f6 : Mem → Int32 → Int32 → Int32 → Int32 → Int32 → Int32 → Option (Int32)) : Nat → Mem → Int32 → Int32 → Int32 → Int32 → Int32 → Int32 → Int32 → Int32 → Int32 → Int32 → Option (Int32)
  | 0, _, _, _, _, _, _, _, _, _, _, _ => none
  | n + 1, M, v1, v2, v3, v4, v5, v6, v7, v8, v9, v10 =>
    if v10 < (M.1 26 0) then
      ck (inB v10 24) <|
      if ((M.1 27 (ix v10)) + ((M.1 28 (ix v10)) * v6)) < v8 then
        lX8_clearFrom_45 f6 n M v1 v2 v3 v4 v5 v6 v7 v8 v9 (v10 + 1)
      else
      if v9 < ((M.1 27 (ix v10)) + ((M.1 28 (ix v10)) * v6)) then
        lX8_clearFrom_45 f6 n M v1 v2 v3 v4 v5 v6 v7 v8 v9 (v10 + 1)
      else
      lX8_clearFrom_45 f6 n M v1 v2 v3 v4 (mxI v5 (((((M.1 27 (ix v10)) + ((M.1 28 (ix v10)) * v6)) + 5) + 1) - v7)) v6 v7 v8 v9 (v10 + 1)
    else
    f6 M v1 v2 v3 v4 v5 (v6 + 1)
def lX8_clearFrom_6  : Nat → Mem → Int32 → Int32 → Int32 → Int32 → Int32 → Int32 → Option (Int32)
  | 0, _, _, _, _, _, _, _ => none
  | n + 1, M, v1, v2, v3, v4, v5, v6 =>
    if v2 < v6 then
      some v5
    else
    lX8_clearFrom_45 (lX8_clearFrom_6  n) fu M v1 v2 v3 v4 v5 v6 ((v6 - v1) * v4) ((v3 + ((v6 - v1) * v4)) - 5) ((((v3 + ((v6 - v1) * v4)) + v4) - 1) + 5) 0
def xX8_clearFrom (M : Mem) (v1 : Int32) (v2 : Int32) (v3 : Int32) (v4 : Int32) : Option (Int32) :=
  lX8_clearFrom_6  fu M v1 v2 v3 v4 v3 v1
def lX8_firstSafe_20  : Nat → Mem → Int32 → Int32 → Int32 → Int32 → Int32 → Int32 → Option (Int32)
  | 0, _, _, _, _, _, _, _ => none
  | n + 1, M, v1, v2, v4, v5, v6, v7 =>
    if v7 < 1440 then
      if v5 < v6 then
        some (-9)
      else
      (xX8_clearFrom M v1 v2 v6 v4).bind fun r1 =>
      if r1 = v6 then
        some v6
      else
      lX8_firstSafe_20  n M v1 v2 v4 v5 r1 (v7 + 1)
    else
    some (-9)
def xX8_firstSafe (M : Mem) (v1 : Int32) (v2 : Int32) (v3 : Int32) (v4 : Int32) : Option (Int32) :=
  lX8_firstSafe_20  fu M v1 v2 v4 (1440 - (((v2 - v1) + 1) * v4)) v3 0
def xX2_hasRoom (M : Mem) (v1 : Int32) (v2 : Int32) (v3 : Int32) (v4 : Int32) : Option (Int32) :=
  ck (inB v1 20) <|
  if 99 < ((M.1 32 (ix v1)) + v2) then
    some 0
  else
  if 99 < ((M.1 33 (ix v1)) + v3) then
    some 0
  else
  if 99 < ((M.1 34 (ix v1)) + v4) then
    some 0
  else
  some 1
def xX2_add (M : Mem) (v1 : Int32) (v2 : Int32) (v3 : Int32) (v4 : Int32) : Option (Mem) :=
  ck (inB v1 20) <|
  some (upI (upI (upI M 32 (ix v1) ((M.1 32 (ix v1)) + v2)) 33 (ix v1) ((M.1 33 (ix v1)) + v3)) 34 (ix v1) ((M.1 34 (ix v1)) + v4))
def xX2_estimate (M : Mem) (v1 : Int32) : Option (Int32) :=
  ck (inB v1 20) <|
  if 0 < (M.1 34 (ix v1)) then
    ck (!decide ((M.1 34 (ix v1)) = 0)) <|
    some ((((((M.1 32 (ix v1)) + (M.1 34 (ix v1))) * ((M.1 33 (ix v1)) + (M.1 34 (ix v1)))) + (M.1 34 (ix v1))) - 1) / (M.1 34 (ix v1)))
  else
  some (-9)
def xX2_missed (M : Mem) (v1 : Int32) : Option (Int32) :=
  (xX2_estimate M v1).bind fun r1 =>
  if r1 = (-9) then
    some (-9)
  else
  ck (inB v1 20) <|
  some (((r1 - (M.1 32 (ix v1))) - (M.1 33 (ix v1))) - (M.1 34 (ix v1)))
def xX0_add (M : Mem) (v1 : Int32) (v2 : Int32) (v3 : Int32) : Option (Int32 × Mem) :=
  ck (inB (M.1 35 0) 8) <|
  some ((M.1 35 0), (upI (upI (upI (upI M 36 (ix (M.1 35 0)) v1) 37 (ix (M.1 35 0)) v2) 38 (ix (M.1 35 0)) v3) 35 0 ((M.1 35 0) + 1)))
def jX0_weighPairs_114 (f6 : Mem → Int32 → Int32 → Int32 → Int32 → Int32 → Option (Int32 × Mem)) (M : Mem) (v2 : Int32) (v3 : Int32) (v4 : Int32) (v5 : Int32) (v6 : Int32) (v8 : Int32) (s1 : Int32) (s2 : Int64) : Option (Int32 × Mem) :=
  ck (inB s1 8) <|
  if v5 = 0 then
    if v8 = 0 then
      f6 (upL M 39 (ix s1) s2) v2 v3 v4 0 (v6 + 1)
    else
    f6 (upL M 39 (ix s1) s2) v2 v3 v4 1 (v6 + 1)
  else
  f6 (upL M 39 (ix s1) s2) v2 v3 v4 1 (v6 + 1)
def jX0_weighPairs_78 (f6 : Mem → Int32 → Int32 → Int32 → Int32 → Int32 → Option (Int32 × Mem)) (M : Mem) (v2 : Int32) (v3 : Int32) (v4 : Int32) (v5 : Int32) (v6 : Int32) (v7 : Int32) (s0 : Int32) : Option (Int32 × Mem) :=
  if s0 = 0 then
    jX0_weighPairs_114 f6 M v2 v3 v4 v5 v6 s0 v6 1152921504606846976
  else
  ck (inB v6 8) <|
  jX0_weighPairs_114 f6 M v2 v3 v4 v5 v6 s0 v6 (((Int32.toInt64 v7) * 815730721) + ((Int32.toInt64 v3) * (tabC (ix v6))))
def jX0_weighPairs_77 (f6 : Mem → Int32 → Int32 → Int32 → Int32 → Int32 → Option (Int32 × Mem)) (M : Mem) (v2 : Int32) (v3 : Int32) (v4 : Int32) (v5 : Int32) (v6 : Int32) (v7 : Int32) : Option (Int32 × Mem) :=
  jX0_weighPairs_78 f6 M v2 v3 v4 v5 v6 v7 0
def lX0_weighPairs_6  : Nat → Mem → Int32 → Int32 → Int32 → Int32 → Int32 → Option (Int32 × Mem)
  | 0, _, _, _, _, _, _ => none
  | n + 1, M, v2, v3, v4, v5, v6 =>
    if v6 < (M.1 35 0) then
      ck (inB v6 8) <|
      ck (inB v2 40) <|
      if (M.1 36 (ix v6)) = (M.1 9 (ix v2)) then
        if (M.1 38 (ix v6)) = (M.1 11 (ix v2)) then
          if v4 < (abI ((M.1 37 (ix v6)) - (M.1 10 (ix v2)))) then
            jX0_weighPairs_77 (lX0_weighPairs_6  n) M v2 v3 v4 v5 v6 (abI ((M.1 37 (ix v6)) - (M.1 10 (ix v2))))
          else
          jX0_weighPairs_78 (lX0_weighPairs_6  n) M v2 v3 v4 v5 v6 (abI ((M.1 37 (ix v6)) - (M.1 10 (ix v2)))) 1
        else
        jX0_weighPairs_77 (lX0_weighPairs_6  n) M v2 v3 v4 v5 v6 (abI ((M.1 37 (ix v6)) - (M.1 10 (ix v2))))
      else
      jX0_weighPairs_77 (lX0_weighPairs_6  n) M v2 v3 v4 v5 v6 (abI ((M.1 37 (ix v6)) - (M.1 10 (ix v2))))
    else
    ck (isB v5) <|
    some (v5, M)
def xX0_weighPairs (M : Mem) (v2 : Int32) (v3 : Int32) (v4 : Int32) : Option (Int32 × Mem) :=
  lX0_weighPairs_6  fu M v2 v3 v4 0 0
def lX0_offerDefect_10 (f4 : Mem → Int32 → Option (Mem)) : Nat → Mem → Int32 → Int32 → Option (Mem)
  | 0, _, _, _ => none
  | n + 1, M, v2, v3 =>
    if v3 < (M.1 35 0) then
      if (v2 &&& ((1 <<< (v3 &&& 31)) ^^^ (-1))) = v2 then
        lX0_offerDefect_10 f4 n M v2 (v3 + 1)
      else
      ck (inB v3 8) <|
      if (lg_cmp (M.2 39 (ix v3)) 1152921504606846976) = 0 then
        lX0_offerDefect_10 f4 n M v2 (v3 + 1)
      else
      ck (inB (v2 &&& ((1 <<< (v3 &&& 31)) ^^^ (-1))) 256) <|
      if (lg_cmp (M.2 40 (ix (v2 &&& ((1 <<< (v3 &&& 31)) ^^^ (-1))))) 1152921504606846976) = 0 then
        lX0_offerDefect_10 f4 n M v2 (v3 + 1)
      else
      ck (inB v2 256) <|
      lX0_offerDefect_10 f4 n (upL M 40 (ix v2) (mnL (M.2 40 (ix v2)) ((M.2 40 (ix (v2 &&& ((1 <<< (v3 &&& 31)) ^^^ (-1))))) + (M.2 39 (ix v3))))) v2 (v3 + 1)
    else
    f4 M (v2 + (-1))
def lX0_offerDefect_4  : Nat → Mem → Int32 → Option (Mem)
  | 0, _, _ => none
  | n + 1, M, v2 =>
    if 0 < v2 then
      lX0_offerDefect_10 (lX0_offerDefect_4  n) fu M v2 0
    else
    some M
def xX0_offerDefect (M : Mem) (v1 : Int32) : Option (Mem) :=
  lX0_offerDefect_4  fu M (v1 - 1)
def lX0_weightOfRest_5  : Nat → Mem → Int32 → Int64 → Int32 → Option (Int64)
  | 0, _, _, _, _ => none
  | n + 1, M, v1, v2, v4 =>
    if v4 < (M.1 35 0) then
      if (v1 &&& (1 <<< (v4 &&& 31))) = 0 then
        ck (inB v4 8) <|
        lX0_weightOfRest_5  n M v1 (v2 + (1631461442000 + (12 * (tabC (ix v4))))) (v4 + 1)
      else
      lX0_weightOfRest_5  n M v1 v2 (v4 + 1)
    else
    some v2
def xX0_weightOfRest (M : Mem) (v1 : Int32) : Option (Int64) :=
  lX0_weightOfRest_5  fu M v1 0 0
def lX0_bestJoining_106  : Nat → Mem → Int32 → Int64 → Int32 → Option (Int64 × Mem)
  | 0, _, _, _, _ => none
  | n + 1, M, v3, v5, v7 =>
    if v7 < v3 then
      ck (inB v7 256) <|
      (xX0_weightOfRest M v7).bind fun r1 =>
      lX0_bestJoining_106  n M v3 (mnL v5 ((M.2 40 (ix v7)) + r1)) (v7 + 1)
    else
    some (v5, M)
def lX0_bestJoining_45  : Nat → Mem → Int32 → Int32 → Int32 → Int32 → Option (Int64 × Mem)
  | 0, _, _, _, _, _ => none
  | n + 1, M, v2, v3, v4, v5 =>
    if v5 < (M.1 8 0) then
      if v4 < 12 then
        ck (inB v5 40) <|
        if (M.1 13 (ix v5)) = 0 then
          lX0_bestJoining_45  n M v2 v3 v4 (v5 + 1)
        else
        (xX0_weighPairs M v5 v4 v2).bind fun r1 =>
        if r1.1 = 0 then
          lX0_bestJoining_45  n r1.2 v2 v3 (v4 + 1) (v5 + 1)
        else
        (xX0_offerDefect r1.2 v3).bind fun r2 =>
        lX0_bestJoining_45  n r2 v2 v3 (v4 + 1) (v5 + 1)
      else
      lX0_bestJoining_106  fu M v3 1152921504606846976 0
    else
    lX0_bestJoining_106  fu M v3 1152921504606846976 0
def lX0_bestJoining_17  : Nat → Mem → Int32 → Int32 → Int32 → Option (Int64 × Mem)
  | 0, _, _, _, _ => none
  | n + 1, M, v2, v3, v4 =>
    if v4 < v3 then
      ck (inB v4 256) <|
      lX0_bestJoining_17  n (upL M 40 (ix v4) 1152921504606846976) v2 v3 (v4 + 1)
    else
    lX0_bestJoining_45  fu M v2 v3 0 0
def xX0_bestJoining (M : Mem) (v2 : Int32) : Option (Int64 × Mem) :=
  lX0_bestJoining_17  fu (upL M 40 0 0) v2 (1 <<< ((M.1 35 0) &&& 31)) 1
def xX0_joinedIn (M : Mem) (v1 : Int64) : Option (Int32) :=
  some ((M.1 35 0) - (Int64.toInt32 (v1 / 1631461442000)))
def xX0_yardsIn (v0 : Int64) : Option (Int32) :=
  some (Int64.toInt32 ((v0 - v0 / 1631461442000 * 1631461442000) / 815730721))
def xX0_choiceIn (M : Mem) (v0 : Int64) (v2 : Int32) : Option (Int32) :=
  ck (inB v2 8) <|
  ck (!decide ((tabC (ix v2)) = 0)) <|
  if (Int64.toInt32 (((v0 - v0 / 815730721 * 815730721) / (tabC (ix v2))) - ((v0 - v0 / 815730721 * 815730721) / (tabC (ix v2))) / 13 * 13)) < 12 then
    some (Int64.toInt32 (((v0 - v0 / 815730721 * 815730721) / (tabC (ix v2))) - ((v0 - v0 / 815730721 * 815730721) / (tabC (ix v2))) / 13 * 13))
  else
  some (-9)
def lX3_add_34  : Nat → Mem → Int32 → Int32 → Int32 → Option (Int32 × Mem)
  | 0, _, _, _, _ => none
  | n + 1, M, v2, v4, v5 =>
    if 0 < v5 then
      ck (inB (v5 - 1) 8) <|
      ck (inB (M.1 46 (ix (v5 - 1))) 8) <|
      if v2 < (M.1 44 (ix (M.1 46 (ix (v5 - 1))))) then
        ck (inB v5 8) <|
        lX3_add_34  n (upI M 46 (ix v5) (M.1 46 (ix (v5 - 1)))) v2 v4 (v5 + (-1))
      else
      ck (inB v5 8) <|
      some (v4, (upI (upI M 46 (ix v5) v4) 41 0 ((M.1 41 0) + 1)))
    else
    ck (inB v5 8) <|
    some (v4, (upI (upI M 46 (ix v5) v4) 41 0 ((M.1 41 0) + 1)))
def xX3_add (M : Mem) (v1 : Int32) (v2 : Int32) (v3 : Int32) : Option (Int32 × Mem) :=
  ck (inB (M.1 41 0) 8) <|
  lX3_add_34  fu (upI (upI (upI M 43 (ix (M.1 41 0)) v1) 44 (ix (M.1 41 0)) v2) 45 (ix (M.1 41 0)) v3) v2 (M.1 41 0) (M.1 41 0)
def xX3_gangIn (M : Mem) (v1 : Int32) (v2 : Int32) : Option (Int32) :=
  some ((v1 >>> ((((M.1 41 0) - 1) - v2) &&& 31)) &&& 1)
def lX3_hasTools_2  : Nat → Mem → Int32 → Int32 → Option (Int32)
  | 0, _, _, _ => none
  | n + 1, M, v1, v2 =>
    if v2 < (M.1 41 0) then
      ck (inB v2 8) <|
      (xX3_gangIn M v1 v2).bind fun r1 =>
      ck (inB r1 2) <|
      if ((M.1 45 (ix v2)) &&& ((M.1 42 (ix r1)) ^^^ (-1))) = 0 then
        lX3_hasTools_2  n M v1 (v2 + 1)
      else
      some 0
    else
    some 1
def xX3_hasTools (M : Mem) (v1 : Int32) : Option (Int32) :=
  lX3_hasTools_2  fu M v1 0
def jX3_weigh_70 (f13 : Mem → Int32 → Int32 → Int32 → Int32 → Int32 → Int32 → Option (Int32)) (M : Mem) (v1 : Int32) (v2 : Int32) (v3 : Int32) (v4 : Int32) (v5 : Int32) (v6 : Int32) (v7 : Int32) (v8 : Int32) : Option (Int32) :=
  ck (inB v7 8) <|
  f13 M v1 v2 v3 (mxI v4 (mxI 0 (v8 - (M.1 44 (ix v7))))) (v5 + (mxI 0 (v8 - (M.1 44 (ix v7))))) (v6 + 1)
def lX3_weigh_13  : Nat → Mem → Int32 → Int32 → Int32 → Int32 → Int32 → Int32 → Option (Int32)
  | 0, _, _, _, _, _, _, _ => none
  | n + 1, M, v1, v2, v3, v4, v5, v6 =>
    if v6 < (M.1 41 0) then
      ck (inB v6 8) <|
      (xX3_gangIn M v1 (M.1 46 (ix v6))).bind fun r1 =>
      if r1 = 0 then
        ck (inB (M.1 46 (ix v6)) 8) <|
        jX3_weigh_70 (lX3_weigh_13  n) M v1 (v2 + (M.1 43 (ix (M.1 46 (ix v6))))) v3 v4 v5 v6 (M.1 46 (ix v6)) (v2 + (M.1 43 (ix (M.1 46 (ix v6)))))
      else
      ck (inB (M.1 46 (ix v6)) 8) <|
      jX3_weigh_70 (lX3_weigh_13  n) M v1 v2 (v3 + (M.1 43 (ix (M.1 46 (ix v6))))) v4 v5 v6 (M.1 46 (ix v6)) (v3 + (M.1 43 (ix (M.1 46 (ix v6)))))
    else
    some (((v4 <<< (20 &&& 31)) ||| (v5 <<< (8 &&& 31))) ||| v1)
def xX3_weigh (M : Mem) (v1 : Int32) : Option (Int32) :=
  lX3_weigh_13  fu M v1 0 0 0 0 0
def lX3_bestPlan_12  : Nat → Mem → Int32 → Int32 → Int32 → Option (Int32)
  | 0, _, _, _, _ => none
  | n + 1, M, v1, v2, v3 =>
    if v3 < v2 then
      (xX3_hasTools M v3).bind fun r1 =>
      if r1 = 0 then
        lX3_bestPlan_12  n M v1 v2 (v3 + 1)
      else
      (xX3_weigh M v3).bind fun r2 =>
      if v1 = (-9) then
        lX3_bestPlan_12  n M r2 v2 (v3 + 1)
      else
      lX3_bestPlan_12  n M (mnI v1 r2) v2 (v3 + 1)
    else
    some v1
def xX3_bestPlan (M : Mem) : Option (Int32) :=
  lX3_bestPlan_12  fu M (-9) (1 <<< ((M.1 41 0) &&& 31)) 0
def xX3_worstIn (v0 : Int32) : Option (Int32) :=
  some (v0 >>> (20 &&& 31))
def xX3_togetherIn (v0 : Int32) : Option (Int32) :=
  some ((v0 >>> (8 &&& 31)) &&& 4095)
def xX3_wayIn (v0 : Int32) : Option (Int32) :=
  some (v0 &&& 255)
def xX4_lay (M : Mem) (v1 : Int32) (v2 : Int32) : Option (Int32 × Mem) :=
  ck (inB v1 20) <|
  some ((M.1 48 (ix v1)), (upI M 48 (ix v1) v2))
def xX4_giveLot (M : Mem) (v1 : Int32) (v2 : Int32) : Option (Int32 × Mem) :=
  ck (inB v1 20) <|
  some ((M.1 50 (ix v1)), (upI M 50 (ix v1) v2))
def xX4_addCrack (M : Mem) (v1 : Int32) : Option (Mem) :=
  ck (inB v1 20) <|
  ck (inB (M.1 50 (ix v1)) 6) <|
  some (upI M 49 (ix (M.1 50 (ix v1))) ((M.1 49 (ix (M.1 50 (ix v1)))) + 1))
def lX4_milesWith_4  : Nat → Mem → Int32 → Int32 → Int32 → Option (Int32)
  | 0, _, _, _, _ => none
  | n + 1, M, v1, v2, v3 =>
    if v3 < 20 then
      ck (inB v3 20) <|
      if (M.1 50 (ix v3)) = v1 then
        lX4_milesWith_4  n M v1 (v2 + 1) (v3 + 1)
      else
      lX4_milesWith_4  n M v1 v2 (v3 + 1)
    else
    some v2
def xX4_milesWith (M : Mem) (v1 : Int32) : Option (Int32) :=
  lX4_milesWith_4  fu M v1 0 0
def lX4_worstLot_10  : Nat → Mem → Int32 → Int32 → Int32 → Int32 → Option (Int32)
  | 0, _, _, _, _, _ => none
  | n + 1, M, v1, v2, v3, v4 =>
    if 5 < v4 then
      some v1
    else
    (xX4_milesWith M v4).bind fun r1 =>
    if 0 < r1 then
      ck (inB v4 6) <|
      if (v2 * r1) < ((M.1 49 (ix v4)) * v3) then
        lX4_worstLot_10  n M v4 (M.1 49 (ix v4)) r1 (v4 + 1)
      else
      lX4_worstLot_10  n M v1 v2 v3 (v4 + 1)
    else
    lX4_worstLot_10  n M v1 v2 v3 (v4 + 1)
def xX4_worstLot (M : Mem) : Option (Int32) :=
  lX4_worstLot_10  fu M (-9) 0 1 0
def lX4_isWorstBeyondDoubt_21  : Nat → Mem → Int32 → Int32 → Int32 → Option (Int32)
  | 0, _, _, _, _ => none
  | n + 1, M, v1, v2, v3 =>
    if 5 < v3 then
      some 1
    else
    (xX4_milesWith M v3).bind fun r1 =>
    if v3 = v1 then
      lX4_isWorstBeyondDoubt_21  n M v1 v2 (v3 + 1)
    else
    if 0 < r1 then
      ck (inB v1 6) <|
      ck (inB v3 6) <|
      if ((2 * (M.1 49 (ix v3))) * v2) < ((M.1 49 (ix v1)) * r1) then
        lX4_isWorstBeyondDoubt_21  n M v1 v2 (v3 + 1)
      else
      some 0
    else
    lX4_isWorstBeyondDoubt_21  n M v1 v2 (v3 + 1)
def xX4_isWorstBeyondDoubt (M : Mem) : Option (Int32) :=
  (xX4_worstLot M).bind fun r1 =>
  if r1 = (-9) then
    some 0
  else
  (xX4_milesWith M r1).bind fun r2 =>
  lX4_isWorstBeyondDoubt_21  fu M r1 r2 0
def xX9_isDay (v0 : Int32) : Option (Int32) :=
  if v0 < 0 then
    some 0
  else
  if 1000 < v0 then
    some 0
  else
  some 1
def xX9_refuse (M : Mem) (v1 : Int32) : Option (Int32 × Mem) :=
  ck (inB (-v1) 7) <|
  some (v1, (upI M 1 (ix (-v1)) ((M.1 1 (ix (-v1))) + 1)))
def xX9_refuseAsTold (M : Mem) (v1 : Int32) : Option (Int32 × Mem) :=
  (xX9_refuse M v1).bind fun r1 =>
  some ((1000000000 - r1.1), r1.2)
def xX9_readingsOf (M : Mem) (v1 : Int32) : Option (Nat) :=
  if v1 = 0 then
    some 4
  else
  some 6
theorem rdk_e {M : Mem} {w : Int32} {r : Nat} (h : xX9_readingsOf M w = some r) : r = rdk w := by
  unfold xX9_readingsOf at h
  unfold rdk
  split at h <;> cases h
  · rw [if_pos (by assumption)]
  · rw [if_neg (by assumption)]
def xX9_day (M : Mem) (v1 : Int32) (v2 : Int32) (v3 : Int32) : Option (Int32 × Mem) :=
  (xX9_isDay v1).bind fun r1 =>
  if r1 = 0 then
    (xX9_refuseAsTold M (-1)).bind fun r9 =>
    some (r9.1, r9.2)
  else
  if v2 < 0 then
    (xX9_refuseAsTold M (-2)).bind fun r2 =>
    some (r2.1, r2.2)
  else
  if 1 < v2 then
    (xX9_refuseAsTold M (-2)).bind fun r8 =>
    some (r8.1, r8.2)
  else
  if v1 < (M.1 0 0) then
    (xX9_refuseAsTold M (-3)).bind fun r7 =>
    some (r7.1, r7.2)
  else
  (xX9_readingsOf M v2).bind fun r3 =>
  if v3 < (-1) then
    (xX9_refuseAsTold M (-4)).bind fun r6 =>
    some (r6.1, r6.2)
  else
  if (M.1 (rdk v2) 0) < v3 then
    (xX9_refuseAsTold M (-6)).bind fun r5 =>
    some (r5.1, r5.2)
  else
  (xX5_tell M (rdk v2) v1 v3).bind fun r4 =>
  some (r4.1, r4.2)
def xX9_dayOf (M : Mem) (v1 : Int32) (v2 : Int32) : Option (Int32 × Mem) :=
  (xX9_isDay v1).bind fun r1 =>
  if r1 = 0 then
    (xX9_refuse M (-1)).bind fun r6 =>
    some (r6.1, r6.2)
  else
  if v2 < 0 then
    (xX9_refuse M (-2)).bind fun r2 =>
    some (r2.1, r2.2)
  else
  if 1 < v2 then
    (xX9_refuse M (-2)).bind fun r5 =>
    some (r5.1, r5.2)
  else
  (xX9_readingsOf M v2).bind fun r3 =>
  (xX5_counted M (rdk v2) v1).bind fun r4 =>
  some (r4, M)
def xX9_isKind (v0 : Int32) : Option (Int32) :=
  if v0 < 0 then
    some 0
  else
  if v0 < 4 then
    some 1
  else
  some 0
def xX9_growth (M : Mem) (v1 : Int32) (v2 : Int32) : Option (Int32 × Mem) :=
  (xX9_isKind v1).bind fun r1 =>
  if r1 = 0 then
    (xX9_refuse M (-1)).bind fun r4 =>
    some (r4.1, r4.2)
  else
  if v2 < 0 then
    (xX9_refuse M (-4)).bind fun r3 =>
    some (r3.1, r3.2)
  else
  if 50 < v2 then
    (xX9_refuse M (-6)).bind fun r2 =>
    some (r2.1, r2.2)
  else
  ck (inB v1 4) <|
  some ((M.1 3 (ix v1)), (upI M 3 (ix v1) v2))
def xX9_isMile (v0 : Int32) : Option (Int32) :=
  if v0 < 0 then
    some 0
  else
  if v0 < 20 then
    some 1
  else
  some 0
def xX9_ruleFor (M : Mem) (v1 : Int32) : Option (Int32) :=
  ck (inB v1 40) <|
  (xX6_inForce M (M.1 12 (ix v1)) (M.1 15 (ix v1)) (M.1 0 0)).bind fun r1 =>
  some r1
def xX9_defect (M : Mem) (v1 : Int32) (v2 : Int32) (v3 : Int32) (v4 : Int32) (v5 : Int32) (v6 : Int32) : Option (Int32 × Mem) :=
  (xX9_isMile v1).bind fun r1 =>
  if r1 = 0 then
    (xX9_refuse M (-1)).bind fun r2 =>
    some (r2.1, r2.2)
  else
  (xX9_isKind v4).bind fun r3 =>
  if r3 = 0 then
    (xX9_refuse M (-1)).bind fun r19 =>
    some (r19.1, r19.2)
  else
  if v2 < 0 then
    (xX9_refuse M (-4)).bind fun r4 =>
    some (r4.1, r4.2)
  else
  if v3 < 0 then
    (xX9_refuse M (-4)).bind fun r5 =>
    some (r5.1, r5.2)
  else
  if v5 < 0 then
    (xX9_refuse M (-4)).bind fun r6 =>
    some (r6.1, r6.2)
  else
  if v6 < 0 then
    (xX9_refuse M (-4)).bind fun r18 =>
    some (r18.1, r18.2)
  else
  if 1759 < v2 then
    (xX9_refuse M (-6)).bind fun r7 =>
    some (r7.1, r7.2)
  else
  if 1 < v3 then
    (xX9_refuse M (-6)).bind fun r8 =>
    some (r8.1, r8.2)
  else
  if 999 < v5 then
    (xX9_refuse M (-6)).bind fun r9 =>
    some (r9.1, r9.2)
  else
  if 50 < v6 then
    (xX9_refuse M (-6)).bind fun r17 =>
    some (r17.1, r17.2)
  else
  if (M.1 8 0) < 40 then
    if (M.1 8 1) < 120 then
      (xX1_add M v1 v2 v3 v4).bind fun r11 =>
      (xX1_cutSpan r11.2 r11.1 v5 v6).bind fun r12 =>
      (xX9_ruleFor r12.2 r11.1).bind fun r13 =>
      (xX1_note r12.2 r11.1 r13 (r12.2.1 0 0)).bind fun r14 =>
      if v4 = 3 then
        (xX4_addCrack r14 v1).bind fun r15 =>
        some (r11.1, r15)
      else
      some (r11.1, r14)
    else
    (xX9_refuse M (-6)).bind fun r16 =>
    some (r16.1, r16.2)
  else
  (xX9_refuse M (-6)).bind fun r10 =>
  some (r10.1, r10.2)
def xX9_isDefect (M : Mem) (v1 : Int32) : Option (Int32) :=
  if v1 < 0 then
    some 0
  else
  if v1 < (M.1 8 0) then
    some 1
  else
  some 0
def xX9_refusalOfOpenDefect (M : Mem) (v1 : Int32) : Option (Int32) :=
  (xX9_isDefect M v1).bind fun r1 =>
  if r1 = 0 then
    some (-1)
  else
  ck (inB v1 40) <|
  if (M.1 13 (ix v1)) = 0 then
    some (-3)
  else
  some 0
def xX9_look (M : Mem) (v1 : Int32) (v2 : Int32) (v3 : Int32) : Option (Int32 × Mem) :=
  (xX9_refusalOfOpenDefect M v1).bind fun r1 =>
  if r1 = 0 then
    if v2 < 0 then
      (xX9_refuse M (-4)).bind fun r2 =>
      some (r2.1, r2.2)
    else
    if v3 < 0 then
      (xX9_refuse M (-4)).bind fun r9 =>
      some (r9.1, r9.2)
    else
    if 999 < v2 then
      (xX9_refuse M (-6)).bind fun r3 =>
      some (r3.1, r3.2)
    else
    if 50 < v3 then
      (xX9_refuse M (-6)).bind fun r4 =>
      some (r4.1, r4.2)
    else
    if (M.1 8 1) < 120 then
      (xX1_cutSpan M v1 v2 v3).bind fun r5 =>
      (xX9_ruleFor r5.2 v1).bind fun r6 =>
      (xX1_note r5.2 v1 r6 (r5.2.1 0 0)).bind fun r7 =>
      if r5.1 = 0 then
        some (0, r7)
      else
      some (1, r7)
    else
    (xX9_refuse M (-6)).bind fun r8 =>
    some (r8.1, r8.2)
  else
  (xX9_refuse M r1).bind fun r10 =>
  some (r10.1, r10.2)
def xX9_span (M : Mem) (v1 : Int32) (v2 : Int32) : Option (Int32 × Mem) :=
  (xX9_isDefect M v1).bind fun r1 =>
  if r1 = 0 then
    (xX9_refuse M (-1)).bind fun r5 =>
    some (r5.1, r5.2)
  else
  if v2 < 0 then
    (xX9_refuse M (-2)).bind fun r2 =>
    some (r2.1, r2.2)
  else
  if 1 < v2 then
    (xX9_refuse M (-2)).bind fun r4 =>
    some (r4.1, r4.2)
  else
  ck (inB v1 40) <|
  if (M.1 13 (ix v1)) = 0 then
    (xX9_refuse M (-3)).bind fun r3 =>
    some (r3.1, r3.2)
  else
  if v2 = 0 then
    some ((M.1 14 (ix v1)), M)
  else
  some ((M.1 15 (ix v1)), M)
def xX9_rule (M : Mem) (v1 : Int32) (v2 : Int32) (v3 : Int32) (v4 : Int32) (v5 : Int32) : Option (Int32 × Mem) :=
  (xX9_isKind v1).bind fun r1 =>
  if r1 = 0 then
    (xX9_refuse M (-1)).bind fun r12 =>
    some (r12.1, r12.2)
  else
  if v4 < 0 then
    (xX9_refuse M (-2)).bind fun r2 =>
    some (r2.1, r2.2)
  else
  if 3 < v4 then
    (xX9_refuse M (-2)).bind fun r11 =>
    some (r11.1, r11.2)
  else
  if v2 < 0 then
    (xX9_refuse M (-4)).bind fun r3 =>
    some (r3.1, r3.2)
  else
  if v3 < (M.1 0 0) then
    (xX9_refuse M (-4)).bind fun r4 =>
    some (r4.1, r4.2)
  else
  if v5 < 0 then
    (xX9_refuse M (-4)).bind fun r10 =>
    some (r10.1, r10.2)
  else
  if 999 < v2 then
    (xX9_refuse M (-6)).bind fun r5 =>
    some (r5.1, r5.2)
  else
  if 1000 < v3 then
    (xX9_refuse M (-6)).bind fun r6 =>
    some (r6.1, r6.2)
  else
  if 60 < v5 then
    (xX9_refuse M (-6)).bind fun r7 =>
    some (r7.1, r7.2)
  else
  if (M.1 18 0) < 30 then
    (xX6_add M v1 v2 v3 v4 v5).bind fun r8 =>
    some (r8.1, r8.2)
  else
  (xX9_refuse M (-6)).bind fun r9 =>
  some (r9.1, r9.2)
def xX9_force (M : Mem) (v1 : Int32) : Option (Int32 × Mem) :=
  (xX9_refusalOfOpenDefect M v1).bind fun r1 =>
  if r1 = 0 then
    (xX9_ruleFor M v1).bind fun r2 =>
    some (r2, M)
  else
  (xX9_refuse M r1).bind fun r3 =>
  some (r3.1, r3.2)
def xX9_dueDay (M : Mem) (v1 : Int32) : Option (Int32) :=
  (xX9_ruleFor M v1).bind fun r1 =>
  if r1 = (-9) then
    some (-9)
  else
  ck (inB v1 40) <|
  if (M.1 16 (ix v1)) = r1 then
    ck (inB r1 30) <|
    some ((M.1 17 (ix v1)) + (M.1 20 (ix r1)))
  else
  ck (inB r1 30) <|
  some ((M.1 0 0) + (M.1 20 (ix r1)))
def xX9_due (M : Mem) (v1 : Int32) : Option (Int32 × Mem) :=
  (xX9_refusalOfOpenDefect M v1).bind fun r1 =>
  if r1 = 0 then
    (xX9_dueDay M v1).bind fun r2 =>
    some (r2, M)
  else
  (xX9_refuse M r1).bind fun r3 =>
  some (r3.1, r3.2)
def xX9_isOverdue (M : Mem) (v1 : Int32) : Option (Int32) :=
  (xX9_dueDay M v1).bind fun r1 =>
  if r1 = (-9) then
    some 0
  else
  if r1 < (M.1 0 0) then
    some 1
  else
  some 0
def lX9_overdue_4  : Nat → Mem → Int32 → Int32 → Option (Int32)
  | 0, _, _, _ => none
  | n + 1, M, v1, v2 =>
    if v2 < (M.1 8 0) then
      ck (inB v2 40) <|
      if (M.1 13 (ix v2)) = 0 then
        lX9_overdue_4  n M v1 (v2 + 1)
      else
      (xX9_isOverdue M v2).bind fun r1 =>
      if r1 = 0 then
        lX9_overdue_4  n M v1 (v2 + 1)
      else
      lX9_overdue_4  n M (v1 + 1) (v2 + 1)
    else
    some v1
def xX9_overdue (M : Mem) : Option (Int32) :=
  lX9_overdue_4  fu M 0 0
def jX9_close_31  (M : Mem) (v1 : Int32) (v2 : Int32) : Option (Int32 × Mem) :=
  ck (inB v1 40) <|
  if (M.1 13 (ix v1)) = 0 then
    (xX9_refuse M (-3)).bind fun r2 =>
    some (r2.1, r2.2)
  else
  if v2 = 3 then
    (xX4_lay (upI M 13 (ix v1) 0) (M.1 9 (ix v1)) (M.1 2 3)).bind fun r1 =>
    some (1, r1.2)
  else
  some (1, (upI M 13 (ix v1) 0))
def xX9_close (M : Mem) (v1 : Int32) (v2 : Int32) : Option (Int32 × Mem) :=
  (xX9_isDefect M v1).bind fun r1 =>
  if r1 = 0 then
    (xX9_refuse M (-1)).bind fun r3 =>
    some (r3.1, r3.2)
  else
  if v2 = 2 then
    jX9_close_31  M v1 v2
  else
  if v2 = 3 then
    jX9_close_31  M v1 v2
  else
  (xX9_refuse M (-2)).bind fun r2 =>
  some (r2.1, r2.2)
def xX9_slow (M : Mem) (v1 : Int32) (v2 : Int32) : Option (Int32 × Mem) :=
  (xX9_isMile v1).bind fun r1 =>
  if r1 = 0 then
    (xX9_refuse M (-1)).bind fun r6 =>
    some (r6.1, r6.2)
  else
  (xX7_standsOn M v1).bind fun r2 =>
  if r2 = 0 then
    if v2 < 1 then
      (xX9_refuse M (-4)).bind fun r4 =>
      some (r4.1, r4.2)
    else
    if 30 < v2 then
      (xX9_refuse M (-6)).bind fun r3 =>
      some (r3.1, r3.2)
    else
    ck (inB v1 20) <|
    some (1, (upI M 25 (ix v1) v2))
  else
  (xX9_refuse M (-3)).bind fun r5 =>
  some (r5.1, r5.2)
def lX9_needsAct_2  : Nat → Mem → Int32 → Int32 → Option (Int32)
  | 0, _, _, _ => none
  | n + 1, M, v1, v2 =>
    if v2 < (M.1 8 0) then
      ck (inB v2 40) <|
      if (M.1 13 (ix v2)) = 0 then
        lX9_needsAct_2  n M v1 (v2 + 1)
      else
      if (M.1 9 (ix v2)) = v1 then
        (xX9_ruleFor M v2).bind fun r1 =>
        if r1 = (-9) then
          lX9_needsAct_2  n M v1 (v2 + 1)
        else
        ck (inB r1 30) <|
        if 0 < (M.1 19 (ix r1)) then
          some 1
        else
        lX9_needsAct_2  n M v1 (v2 + 1)
      else
      lX9_needsAct_2  n M v1 (v2 + 1)
    else
    some 0
def xX9_needsAct (M : Mem) (v1 : Int32) : Option (Int32) :=
  lX9_needsAct_2  fu M v1 0
def xX9_heatOf (M : Mem) (v1 : Int32) : Option (Int32) :=
  ck (inB v1 20) <|
  some (abI ((M.1 2 3) - (M.1 48 (ix v1))))
def xX9_lift (M : Mem) (v1 : Int32) : Option (Int32 × Mem) :=
  (xX9_isMile v1).bind fun r1 =>
  if r1 = 0 then
    (xX9_refuse M (-1)).bind fun r6 =>
    some (r6.1, r6.2)
  else
  (xX7_standsOn M v1).bind fun r2 =>
  if r2 = 0 then
    (xX9_refuse M (-3)).bind fun r5 =>
    some (r5.1, r5.2)
  else
  (xX9_needsAct M v1).bind fun r3 =>
  if r3 = 0 then
    (xX9_heatOf M v1).bind fun r4 =>
    if 20 < r4 then
      some (0, M)
    else
    ck (inB v1 20) <|
    some (1, (upI M 25 (ix v1) 0))
  else
  some (0, M)
def xX9_lost (M : Mem) : Option (Int32) :=
  some (M.1 24 0)
def xX9_set (M : Mem) (v1 : Int32) (v2 : Int32) : Option (Int32 × Mem) :=
  if v1 < 0 then
    (xX9_refuseAsTold M (-2)).bind fun r1 =>
    some (r1.1, r1.2)
  else
  if 3 < v1 then
    (xX9_refuseAsTold M (-2)).bind fun r4 =>
    some (r4.1, r4.2)
  else
  ck (inB v1 4) <|
  if v2 < (tabA (ix v1)) then
    (xX9_refuseAsTold M (-4)).bind fun r3 =>
    some (r3.1, r3.2)
  else
  if (tabB (ix v1)) < v2 then
    (xX9_refuseAsTold M (-6)).bind fun r2 =>
    some (r2.1, r2.2)
  else
  some ((M.1 2 (ix v1)), (upI M 2 (ix v1) v2))
def xX9_passDay (M : Mem) : Option (Mem) :=
  (xX5_counted M 4 (M.1 0 0)).bind fun r1 =>
  (xX5_counted M 6 (M.1 0 0)).bind fun r2 =>
  (xX1_grow M r1 r2).bind fun r3 =>
  (xX7_passDay r3 (r3.1 2 0)).bind fun r4 =>
  some (upI r4 0 0 ((r4.1 0 0) + 1))
def lX9_days_33  : Nat → Mem → Int32 → Int32 → Option (Int32 × Mem)
  | 0, _, _, _ => none
  | n + 1, M, v1, v2 =>
    if v2 < v1 then
      (xX9_passDay M).bind fun r1 =>
      lX9_days_33  n r1 v1 (v2 + 1)
    else
    some ((M.1 0 0), M)
def xX9_days (M : Mem) (v1 : Int32) : Option (Int32 × Mem) :=
  if v1 < 1 then
    (xX9_refuse M (-4)).bind fun r2 =>
    some (r2.1, r2.2)
  else
  if (1000 - (M.1 0 0)) < v1 then
    (xX9_refuse M (-6)).bind fun r1 =>
    some (r1.1, r1.2)
  else
  lX9_days_33  fu M v1 0
def xX9_train (M : Mem) (v1 : Int32) (v2 : Int32) : Option (Int32 × Mem) :=
  if v1 < 0 then
    (xX9_refuse M (-4)).bind fun r1 =>
    some (r1.1, r1.2)
  else
  if v2 < 1 then
    (xX9_refuse M (-4)).bind fun r6 =>
    some (r6.1, r6.2)
  else
  if 1439 < v1 then
    (xX9_refuse M (-6)).bind fun r2 =>
    some (r2.1, r2.2)
  else
  if 9 < v2 then
    (xX9_refuse M (-6)).bind fun r3 =>
    some (r3.1, r3.2)
  else
  if (M.1 26 0) < 24 then
    (xX8_add M v1 v2).bind fun r4 =>
    some (r4.1, r4.2)
  else
  (xX9_refuse M (-6)).bind fun r5 =>
  some (r5.1, r5.2)
def xX9_isRange (v0 : Int32) (v1 : Int32) : Option (Int32) :=
  (xX9_isMile v0).bind fun r1 =>
  if r1 = 0 then
    some 0
  else
  (xX9_isMile v1).bind fun r2 =>
  if r2 = 0 then
    some 0
  else
  if v1 < v0 then
    some 0
  else
  some 1
def xX9_refusalOfWalk (v0 : Int32) (v1 : Int32) (v2 : Int32) : Option (Int32) :=
  (xX9_isRange v0 v1).bind fun r1 =>
  if r1 = 0 then
    some (-1)
  else
  if v2 < 0 then
    some (-4)
  else
  if v2 < 1440 then
    some 0
  else
  some (-6)
def xX9_safe (M : Mem) (v1 : Int32) (v2 : Int32) (v3 : Int32) : Option (Int32 × Mem) :=
  (xX9_refusalOfWalk v1 v2 v3).bind fun r1 =>
  if r1 = 0 then
    (xX8_clearFrom M v1 v2 v3 (M.1 2 1)).bind fun r2 =>
    if r2 = v3 then
      some (1, M)
    else
    some (0, M)
  else
  (xX9_refuse M r1).bind fun r3 =>
  some (r3.1, r3.2)
def xX9_first (M : Mem) (v1 : Int32) (v2 : Int32) (v3 : Int32) : Option (Int32 × Mem) :=
  (xX9_refusalOfWalk v1 v2 v3).bind fun r1 =>
  if r1 = 0 then
    (xX8_firstSafe M v1 v2 v3 (M.1 2 1)).bind fun r2 =>
    some (r2, M)
  else
  (xX9_refuse M r1).bind fun r3 =>
  some (r3.1, r3.2)
def lX9_walked_16  : Nat → Mem → Int32 → Int32 → Int32 → Option (Int32 × Mem)
  | 0, _, _, _, _ => none
  | n + 1, M, v1, v2, v3 =>
    if v2 < v3 then
      some (((v2 - v1) + 1), M)
    else
    ck (inB v3 20) <|
    lX9_walked_16  n (upI M 29 (ix v3) (M.1 0 0)) v1 v2 (v3 + 1)
def xX9_walked (M : Mem) (v1 : Int32) (v2 : Int32) : Option (Int32 × Mem) :=
  (xX9_isRange v1 v2).bind fun r1 =>
  if r1 = 0 then
    (xX9_refuse M (-1)).bind fun r2 =>
    some (r2.1, r2.2)
  else
  lX9_walked_16  fu M v1 v2 v1
def xX9_riskOf (M : Mem) (v1 : Int32) : Option (Int32) :=
  ck (inB v1 20) <|
  (xX1_countOpenIn M v1).bind fun r1 =>
  some (((M.1 0 0) - (M.1 29 (ix v1))) * (1 + r1))
def xX9_risk (M : Mem) (v1 : Int32) : Option (Int32 × Mem) :=
  (xX9_isMile v1).bind fun r1 =>
  if r1 = 0 then
    (xX9_refuse M (-1)).bind fun r3 =>
    some (r3.1, r3.2)
  else
  (xX9_riskOf M v1).bind fun r2 =>
  some (r2, M)
def lX9_addUpRisks_2  : Nat → Mem → Int32 → Option (Mem)
  | 0, _, _ => none
  | n + 1, M, v1 =>
    if v1 < 20 then
      ck (inB v1 21) <|
      (xX9_riskOf M v1).bind fun r1 =>
      ck (inB (v1 + 1) 21) <|
      lX9_addUpRisks_2  n (upI M 30 (ix (v1 + 1)) ((M.1 30 (ix v1)) + r1)) (v1 + 1)
    else
    some M
def xX9_addUpRisks (M : Mem) : Option (Mem) :=
  lX9_addUpRisks_2  fu M 0
def xX9_riskOfRange (M : Mem) (v1 : Int32) (v2 : Int32) : Option (Int32) :=
  ck (inB (v1 + v2) 21) <|
  ck (inB v1 21) <|
  some ((M.1 30 (ix (v1 + v2))) - (M.1 30 (ix v1)))
def lX9_walks_73 (f56 : Mem → Int32 → Int32 → Int32 → Int32 → Int32 → Int32 → Option (Int32 × Mem)) : Nat → Mem → Int32 → Int32 → Int32 → Int32 → Int32 → Int32 → Int32 → Option (Int32 × Mem)
  | 0, _, _, _, _, _, _, _, _ => none
  | n + 1, M, v1, v2, v3, v4, v5, v6, v7 =>
    if 20 < (v7 + v1) then
      f56 M v1 v2 v3 v4 v5 (v6 + 1)
    else
    (xX9_riskOfRange M v6 v1).bind fun r1 =>
    (xX9_riskOfRange M v7 v1).bind fun r2 =>
    if v3 < (r1 + r2) then
      lX9_walks_73 f56 n M v1 v2 (r1 + r2) v6 v7 v6 (v7 + 1)
    else
    lX9_walks_73 f56 n M v1 v2 v3 v4 v5 v6 (v7 + 1)
def lX9_walks_56  : Nat → Mem → Int32 → Int32 → Int32 → Int32 → Int32 → Int32 → Option (Int32 × Mem)
  | 0, _, _, _, _, _, _, _ => none
  | n + 1, M, v1, v2, v3, v4, v5, v6 =>
    if 20 < (v6 + (2 * v1)) then
      if v2 = 0 then
        some (v3, M)
      else
      if v2 = 1 then
        some (v4, M)
      else
      some (v5, M)
    else
    lX9_walks_73 (lX9_walks_56  n) fu M v1 v2 v3 v4 v5 v6 (v6 + v1)
def xX9_walks (M : Mem) (v1 : Int32) (v2 : Int32) : Option (Int32 × Mem) :=
  if v2 < 0 then
    (xX9_refuse M (-2)).bind fun r1 =>
    some (r1.1, r1.2)
  else
  if 2 < v2 then
    (xX9_refuse M (-2)).bind fun r5 =>
    some (r5.1, r5.2)
  else
  if v1 < 1 then
    (xX9_refuse M (-4)).bind fun r4 =>
    some (r4.1, r4.2)
  else
  if 10 < v1 then
    (xX9_refuse M (-6)).bind fun r3 =>
    some (r3.1, r3.2)
  else
  (xX9_addUpRisks M).bind fun r2 =>
  lX9_walks_56  fu r2 v1 v2 (-1) 0 0 0
def xX9_doubles (M : Mem) (v1 : Int32) (v2 : Int32) (v3 : Int32) (v4 : Int32) : Option (Int32 × Mem) :=
  (xX9_isMile v1).bind fun r1 =>
  if r1 = 0 then
    (xX9_refuse M (-1)).bind fun r11 =>
    some (r11.1, r11.2)
  else
  if v2 < 0 then
    (xX9_refuse M (-4)).bind fun r2 =>
    some (r2.1, r2.2)
  else
  if v3 < 0 then
    (xX9_refuse M (-4)).bind fun r3 =>
    some (r3.1, r3.2)
  else
  if v4 < 0 then
    (xX9_refuse M (-4)).bind fun r10 =>
    some (r10.1, r10.2)
  else
  if 99 < v2 then
    (xX9_refuse M (-6)).bind fun r4 =>
    some (r4.1, r4.2)
  else
  if 99 < v3 then
    (xX9_refuse M (-6)).bind fun r5 =>
    some (r5.1, r5.2)
  else
  if 99 < v4 then
    (xX9_refuse M (-6)).bind fun r6 =>
    some (r6.1, r6.2)
  else
  (xX2_hasRoom M v1 v2 v3 v4).bind fun r7 =>
  if r7 = 0 then
    (xX9_refuse M (-6)).bind fun r9 =>
    some (r9.1, r9.2)
  else
  (xX2_add M v1 v2 v3 v4).bind fun r8 =>
  some (1, r8)
def xX9_eyes (M : Mem) (v1 : Int32) (v2 : Int32) : Option (Int32 × Mem) :=
  (xX9_isMile v1).bind fun r1 =>
  if r1 = 0 then
    (xX9_refuse M (-1)).bind fun r6 =>
    some (r6.1, r6.2)
  else
  if v2 < 0 then
    (xX9_refuse M (-2)).bind fun r2 =>
    some (r2.1, r2.2)
  else
  if 1 < v2 then
    (xX9_refuse M (-2)).bind fun r5 =>
    some (r5.1, r5.2)
  else
  if v2 = 0 then
    (xX2_estimate M v1).bind fun r4 =>
    some (r4, M)
  else
  (xX2_missed M v1).bind fun r3 =>
  some (r3, M)
def xX9_line (M : Mem) (v1 : Int32) (v2 : Int32) (v3 : Int32) : Option (Int32 × Mem) :=
  (xX9_isMile v1).bind fun r1 =>
  if r1 = 0 then
    (xX9_refuse M (-1)).bind fun r8 =>
    some (r8.1, r8.2)
  else
  if v2 < 0 then
    (xX9_refuse M (-4)).bind fun r2 =>
    some (r2.1, r2.2)
  else
  if v3 < 0 then
    (xX9_refuse M (-4)).bind fun r7 =>
    some (r7.1, r7.2)
  else
  if 1759 < v2 then
    (xX9_refuse M (-6)).bind fun r3 =>
    some (r3.1, r3.2)
  else
  if 1 < v3 then
    (xX9_refuse M (-6)).bind fun r4 =>
    some (r4.1, r4.2)
  else
  if (M.1 35 0) < 8 then
    (xX0_add M v1 v2 v3).bind fun r5 =>
    some (r5.1, r5.2)
  else
  (xX9_refuse M (-6)).bind fun r6 =>
  some (r6.1, r6.2)
def xX9_join (M : Mem) (v1 : Int32) : Option (Int32 × Mem) :=
  if v1 < 0 then
    (xX9_refuse M (-2)).bind fun r1 =>
    some (r1.1, r1.2)
  else
  if 1 < v1 then
    (xX9_refuse M (-2)).bind fun r5 =>
    some (r5.1, r5.2)
  else
  (xX0_bestJoining M (M.1 2 2)).bind fun r2 =>
  if v1 = 0 then
    (xX0_joinedIn r2.2 r2.1).bind fun r4 =>
    some (r4, r2.2)
  else
  (xX0_yardsIn r2.1).bind fun r3 =>
  some (r3, r2.2)
def xX9_joined (M : Mem) (v1 : Int32) : Option (Int32 × Mem) :=
  if v1 < 0 then
    (xX9_refuse M (-1)).bind fun r1 =>
    some (r1.1, r1.2)
  else
  if v1 < (M.1 35 0) then
    (xX0_bestJoining M (M.1 2 2)).bind fun r2 =>
    (xX0_choiceIn r2.2 r2.1 v1).bind fun r3 =>
    (xX1_openOne r2.2 r3).bind fun r4 =>
    some (r4, r2.2)
  else
  (xX9_refuse M (-1)).bind fun r5 =>
  some (r5.1, r5.2)
def xX9_job (M : Mem) (v1 : Int32) (v2 : Int32) (v3 : Int32) : Option (Int32 × Mem) :=
  if v1 < 1 then
    (xX9_refuse M (-4)).bind fun r1 =>
    some (r1.1, r1.2)
  else
  if v2 < 0 then
    (xX9_refuse M (-4)).bind fun r2 =>
    some (r2.1, r2.2)
  else
  if v3 < 0 then
    (xX9_refuse M (-4)).bind fun r8 =>
    some (r8.1, r8.2)
  else
  if 40 < v1 then
    (xX9_refuse M (-6)).bind fun r3 =>
    some (r3.1, r3.2)
  else
  if 400 < v2 then
    (xX9_refuse M (-6)).bind fun r4 =>
    some (r4.1, r4.2)
  else
  if 15 < v3 then
    (xX9_refuse M (-6)).bind fun r5 =>
    some (r5.1, r5.2)
  else
  if (M.1 41 0) < 8 then
    (xX3_add M v1 v2 v3).bind fun r6 =>
    some (r6.1, r6.2)
  else
  (xX9_refuse M (-6)).bind fun r7 =>
  some (r7.1, r7.2)
def xX9_gang (M : Mem) (v1 : Int32) (v2 : Int32) : Option (Int32 × Mem) :=
  if v1 < 0 then
    (xX9_refuse M (-1)).bind fun r1 =>
    some (r1.1, r1.2)
  else
  if 1 < v1 then
    (xX9_refuse M (-1)).bind fun r4 =>
    some (r4.1, r4.2)
  else
  if v2 < 0 then
    (xX9_refuse M (-4)).bind fun r3 =>
    some (r3.1, r3.2)
  else
  if 15 < v2 then
    (xX9_refuse M (-6)).bind fun r2 =>
    some (r2.1, r2.2)
  else
  ck (inB v1 2) <|
  some ((M.1 42 (ix v1)), (upI M 42 (ix v1) v2))
def xX9_plan (M : Mem) (v1 : Int32) : Option (Int32 × Mem) :=
  if v1 < 0 then
    (xX9_refuse M (-2)).bind fun r1 =>
    some (r1.1, r1.2)
  else
  if 1 < v1 then
    (xX9_refuse M (-2)).bind fun r5 =>
    some (r5.1, r5.2)
  else
  (xX3_bestPlan M).bind fun r2 =>
  if r2 = (-9) then
    some ((-9), M)
  else
  if v1 = 0 then
    (xX3_worstIn r2).bind fun r4 =>
    some (r4, M)
  else
  (xX3_togetherIn r2).bind fun r3 =>
  some (r3, M)
def xX9_gangOf (M : Mem) (v1 : Int32) : Option (Int32 × Mem) :=
  if v1 < 0 then
    (xX9_refuse M (-1)).bind fun r1 =>
    some (r1.1, r1.2)
  else
  if v1 < (M.1 41 0) then
    (xX3_bestPlan M).bind fun r2 =>
    if r2 = (-9) then
      some ((-9), M)
    else
    (xX3_wayIn r2).bind fun r3 =>
    (xX3_gangIn M r3 v1).bind fun r4 =>
    some (r4, M)
  else
  (xX9_refuse M (-1)).bind fun r5 =>
  some (r5.1, r5.2)
def jX9_rail_61  (M : Mem) (v1 : Int32) (v2 : Int32) (v3 : Int32) (s0 : Int32) (s1 : Int32) : Option (Int32 × Mem) :=
  if s1 < s0 then
    (xX9_refuseAsTold M (-6)).bind fun r3 =>
    some (r3.1, r3.2)
  else
  if v2 = 0 then
    (xX4_lay M v1 v3).bind fun r2 =>
    some (r2.1, r2.2)
  else
  (xX4_giveLot M v1 v3).bind fun r1 =>
  some (r1.1, r1.2)
def jX9_rail_40  (M : Mem) (v1 : Int32) (v2 : Int32) (v3 : Int32) (s0 : Int32) (s1 : Int32) : Option (Int32 × Mem) :=
  if s0 < s1 then
    (xX9_refuseAsTold M (-4)).bind fun r1 =>
    some (r1.1, r1.2)
  else
  if v2 = 0 then
    jX9_rail_61  M v1 v2 v3 v3 50
  else
  jX9_rail_61  M v1 v2 v3 v3 5
def xX9_rail (M : Mem) (v1 : Int32) (v2 : Int32) (v3 : Int32) : Option (Int32 × Mem) :=
  (xX9_isMile v1).bind fun r1 =>
  if r1 = 0 then
    (xX9_refuseAsTold M (-1)).bind fun r4 =>
    some (r4.1, r4.2)
  else
  if v2 < 0 then
    (xX9_refuseAsTold M (-2)).bind fun r2 =>
    some (r2.1, r2.2)
  else
  if 1 < v2 then
    (xX9_refuseAsTold M (-2)).bind fun r3 =>
    some (r3.1, r3.2)
  else
  if v2 = 0 then
    jX9_rail_40  M v1 v2 v3 v3 (-30)
  else
  jX9_rail_40  M v1 v2 v3 v3 0
def xX9_heat (M : Mem) (v1 : Int32) : Option (Int32 × Mem) :=
  (xX9_isMile v1).bind fun r1 =>
  if r1 = 0 then
    (xX9_refuse M (-1)).bind fun r3 =>
    some (r3.1, r3.2)
  else
  (xX9_heatOf M v1).bind fun r2 =>
  some (r2, M)
def xX9_lot (M : Mem) (v1 : Int32) (v2 : Int32) : Option (Int32 × Mem) :=
  if v1 < 0 then
    (xX9_refuse M (-1)).bind fun r1 =>
    some (r1.1, r1.2)
  else
  if 5 < v1 then
    (xX9_refuse M (-1)).bind fun r5 =>
    some (r5.1, r5.2)
  else
  if v2 < 0 then
    (xX9_refuse M (-2)).bind fun r2 =>
    some (r2.1, r2.2)
  else
  if 1 < v2 then
    (xX9_refuse M (-2)).bind fun r4 =>
    some (r4.1, r4.2)
  else
  if v2 = 0 then
    ck (inB v1 6) <|
    some ((M.1 49 (ix v1)), M)
  else
  (xX4_milesWith M v1).bind fun r3 =>
  some (r3, M)
def xX9_worst (M : Mem) : Option (Int32) :=
  (xX4_worstLot M).bind fun r1 =>
  some r1
def xX9_sure (M : Mem) : Option (Int32) :=
  (xX4_isWorstBeyondDoubt M).bind fun r1 =>
  if r1 = 0 then
    some 0
  else
  some 1
def jX9_count_22  (M : Mem) (v1 : Int32) : Option (Int32) :=
  if v1 = 0 then
    some (M.1 0 0)
  else
  if v1 = 1 then
    some (M.1 8 0)
  else
  if v1 = 2 then
    (xX1_countOpen M).bind fun r1 =>
    some r1
  else
  if v1 = 3 then
    some (M.1 8 1)
  else
  if v1 = 4 then
    some (M.1 8 2)
  else
  if v1 = 5 then
    some (M.1 18 0)
  else
  if v1 = 6 then
    (xX7_countStanding M).bind fun r2 =>
    some r2
  else
  if v1 = 7 then
    some (M.1 26 0)
  else
  if v1 = 8 then
    some (M.1 35 0)
  else
  if v1 = 9 then
    some (M.1 41 0)
  else
  some (-9)
def xX9_count (M : Mem) (v1 : Int32) : Option (Int32) :=
  if v1 < 11 then
    jX9_count_22  M v1
  else
  if 16 < v1 then
    jX9_count_22  M v1
  else
  ck (inB (v1 - 10) 7) <|
  some (M.1 1 (ix (v1 - 10)))
def xX10_refuse (M : Mem) (v1 : Int32) : Option (Int32 × Mem) :=
  ck (inB (-v1) 7) <|
  some (v1, (upI M 52 (ix (-v1)) ((M.1 52 (ix (-v1))) + 1)))
def xX10_refuseFar (M : Mem) (v1 : Int32) : Option (Int32 × Mem) :=
  (xX10_refuse M v1).bind fun r1 =>
  some ((1000000000 - r1.1), r1.2)
def xX10_isIn (v0 : Int32) (v1 : Int32) : Option (Int32) :=
  if v0 < 0 then
    some 0
  else
  if v0 < v1 then
    some 1
  else
  some 0
def xX10_wrong (v0 : Int32) (v1 : Int32) (v2 : Int32) : Option (Int32) :=
  if v0 < v1 then
    some (-4)
  else
  if v2 < v0 then
    some (-6)
  else
  some 0
def jX10_day_89  (M : Mem) (v1 : Int32) (v2 : Int32) (v3 : Int32) (s0 : Int32) : Option (Int32 × Mem) :=
  if v2 = 0 then
    ck (inB v1 1001) <|
    some (s0, (upI M 53 (ix v1) v3))
  else
  ck (inB v1 1001) <|
  some (s0, (upI M 54 (ix v1) v3))
def jX10_day_56  (M : Mem) (v1 : Int32) (v2 : Int32) (v3 : Int32) (s0 : Int32) : Option (Int32 × Mem) :=
  if s0 = 0 then
    if v2 = 0 then
      ck (inB v1 1001) <|
      jX10_day_89  M v1 v2 v3 (M.1 53 (ix v1))
    else
    ck (inB v1 1001) <|
    jX10_day_89  M v1 v2 v3 (M.1 54 (ix v1))
  else
  (xX10_refuseFar M s0).bind fun r1 =>
  some (r1.1, r1.2)
def jX10_day_53  (M : Mem) (v1 : Int32) (v2 : Int32) (v3 : Int32) (s0 : Int32) (s1 : Int32) (s2 : Int32) : Option (Int32 × Mem) :=
  (xX10_wrong s0 s1 s2).bind fun r1 =>
  jX10_day_56  M v1 v2 v3 r1
def xX10_day (M : Mem) (v1 : Int32) (v2 : Int32) (v3 : Int32) : Option (Int32 × Mem) :=
  (xX10_isIn v1 1001).bind fun r1 =>
  if r1 = 0 then
    jX10_day_56  M v1 v2 v3 (-1)
  else
  (xX10_isIn v2 2).bind fun r2 =>
  if r2 = 0 then
    jX10_day_56  M v1 v2 v3 (-2)
  else
  if v1 < (M.1 51 4) then
    jX10_day_56  M v1 v2 v3 (-3)
  else
  if v2 = 0 then
    jX10_day_53  M v1 v2 v3 v3 (-1) 99
  else
  jX10_day_53  M v1 v2 v3 v3 (-1) 40
def lX10_counts_39  : Nat → Mem → Int32 → Int32 → Int32 → Int32 → Option (Int32)
  | 0, _, _, _, _, _ => none
  | n + 1, M, v1, v2, v4, v5 =>
    if v5 < v1 then
      if v2 = 0 then
        ck (inB v5 1001) <|
        lX10_counts_39  n M v1 v2 (mxI v4 (M.1 53 (ix v5))) (v5 + 1)
      else
      ck (inB v5 1001) <|
      lX10_counts_39  n M v1 v2 (mxI v4 (M.1 54 (ix v5))) (v5 + 1)
    else
    if v4 < 0 then
      if v2 = 0 then
        some 30
      else
      some 10
    else
    some v4
def jX10_counts_19  (M : Mem) (v1 : Int32) (v2 : Int32) (s0 : Int32) : Option (Int32) :=
  if s0 < 0 then
    lX10_counts_39  fu M v1 v2 (-1) (mxI 0 (v1 - 7))
  else
  some s0
def xX10_counts (M : Mem) (v1 : Int32) (v2 : Int32) : Option (Int32) :=
  if v2 = 0 then
    ck (inB v1 1001) <|
    jX10_counts_19  M v1 v2 (M.1 53 (ix v1))
  else
  ck (inB v1 1001) <|
  jX10_counts_19  M v1 v2 (M.1 54 (ix v1))
def xX10_dayOf (M : Mem) (v1 : Int32) (v2 : Int32) : Option (Int32 × Mem) :=
  (xX10_isIn v1 1001).bind fun r1 =>
  if r1 = 0 then
    (xX10_refuse M (-1)).bind fun r5 =>
    some (r5.1, r5.2)
  else
  (xX10_isIn v2 2).bind fun r2 =>
  if r2 = 0 then
    (xX10_refuse M (-2)).bind fun r3 =>
    some (r3.1, r3.2)
  else
  (xX10_counts M v1 v2).bind fun r4 =>
  some (r4, M)
def jX10_growth_19  (M : Mem) (v1 : Int32) (v2 : Int32) (s0 : Int32) : Option (Int32 × Mem) :=
  if s0 = 0 then
    ck (inB v1 4) <|
    some ((M.1 55 (ix v1)), (upI M 55 (ix v1) v2))
  else
  (xX10_refuse M s0).bind fun r1 =>
  some (r1.1, r1.2)
def xX10_growth (M : Mem) (v1 : Int32) (v2 : Int32) : Option (Int32 × Mem) :=
  (xX10_isIn v1 4).bind fun r1 =>
  if r1 = 0 then
    jX10_growth_19  M v1 v2 (-1)
  else
  (xX10_wrong v2 0 50).bind fun r2 =>
  jX10_growth_19  M v1 v2 r2
def xX10_isMile (v0 : Int32) : Option (Int32) :=
  (xX10_isIn v0 20).bind fun r1 =>
  ck (isB r1) <|
  some r1
def xX10_isDefect (M : Mem) (v1 : Int32) : Option (Int32) :=
  (xX10_isIn v1 (M.1 51 5)).bind fun r1 =>
  ck (isB r1) <|
  some r1
def lX10_forceOf_5  : Nat → Mem → Int32 → Int32 → Int32 → Option (Int32)
  | 0, _, _, _, _ => none
  | n + 1, M, v1, v2, v3 =>
    if v3 < (M.1 51 8) then
      ck (inB v3 30) <|
      ck (inB v1 40) <|
      if (M.1 67 (ix v3)) = (M.1 59 (ix v1)) then
        if (M.1 51 4) < (M.1 69 (ix v3)) then
          lX10_forceOf_5  n M v1 v2 (v3 + 1)
        else
        if (M.1 62 (ix v1)) < (M.1 68 (ix v3)) then
          lX10_forceOf_5  n M v1 v2 (v3 + 1)
        else
        if v2 < 0 then
          lX10_forceOf_5  n M v1 v3 (v3 + 1)
        else
        ck (inB v2 30) <|
        if (M.1 68 (ix v2)) < (M.1 68 (ix v3)) then
          lX10_forceOf_5  n M v1 v3 (v3 + 1)
        else
        if (M.1 68 (ix v3)) = (M.1 68 (ix v2)) then
          if (M.1 69 (ix v3)) < (M.1 69 (ix v2)) then
            lX10_forceOf_5  n M v1 v2 (v3 + 1)
          else
          lX10_forceOf_5  n M v1 v3 (v3 + 1)
        else
        lX10_forceOf_5  n M v1 v2 (v3 + 1)
      else
      lX10_forceOf_5  n M v1 v2 (v3 + 1)
    else
    some v2
def xX10_forceOf (M : Mem) (v1 : Int32) : Option (Int32) :=
  lX10_forceOf_5  fu M v1 (-9) 0
def jX10_looksAt_99  (M : Mem) (v1 : Int32) (v6 : Int32) (s1 : Int32) (s2 : Int32) : Option (Int32 × Mem) :=
  ck (inB s1 40) <|
  ck (inB (M.1 51 6) 120) <|
  (xX10_forceOf (upI (upI (upI M 62 (ix s1) s2) 64 (ix (M.1 51 6)) v1) 65 (ix (M.1 51 6)) (M.1 51 4)) v1).bind fun r1 =>
  if v6 = 0 then
    ck (isB v6) <|
    some (v6, (upI (upI (upI (upI (upI (upI M 62 (ix s1) s2) 64 (ix (M.1 51 6)) v1) 65 (ix (M.1 51 6)) (M.1 51 4)) 66 (ix (M.1 51 6)) r1) 51 6 ((M.1 51 6) + 1)) 51 7 ((M.1 51 7) + 1)))
  else
  ck (isB v6) <|
  some (v6, (upI (upI (upI (upI (upI (upI M 62 (ix s1) s2) 64 (ix (M.1 51 6)) v1) 65 (ix (M.1 51 6)) (M.1 51 4)) 66 (ix (M.1 51 6)) r1) 51 6 ((M.1 51 6) + 1)) 51 7 ((M.1 51 7) + 0)))
def jX10_looksAt_72  (M : Mem) (v1 : Int32) (v5 : Int32) (v6 : Int32) (s1 : Int32) (s2 : Int32) : Option (Int32 × Mem) :=
  ck (inB s1 40) <|
  if v6 = 0 then
    jX10_looksAt_99  (upI M 61 (ix s1) s2) v1 v6 v1 v5
  else
  ck (inB v1 40) <|
  jX10_looksAt_99  (upI M 61 (ix s1) s2) v1 v6 v1 (mnI (M.1 62 (ix v1)) v5)
def jX10_looksAt_44  (M : Mem) (v1 : Int32) (v4 : Int32) (v5 : Int32) (s0 : Int32) : Option (Int32 × Mem) :=
  if s0 = 0 then
    jX10_looksAt_72  M v1 v5 s0 v1 v4
  else
  ck (inB v1 40) <|
  jX10_looksAt_72  M v1 v5 s0 v1 (mxI (M.1 61 (ix v1)) v4)
def xX10_looksAt (M : Mem) (v1 : Int32) (v2 : Int32) (v3 : Int32) : Option (Int32 × Mem) :=
  ck (inB v1 40) <|
  if (mnI (M.1 62 (ix v1)) (v2 + v3)) < (mxI (M.1 61 (ix v1)) (mxI 0 (v2 - v3))) then
    jX10_looksAt_44  M v1 (mxI 0 (v2 - v3)) (v2 + v3) 0
  else
  jX10_looksAt_44  M v1 (mxI 0 (v2 - v3)) (v2 + v3) 1
def xX10_defect (M : Mem) (v1 : Int32) (v2 : Int32) (v3 : Int32) (v4 : Int32) (v5 : Int32) (v6 : Int32) : Option (Int32 × Mem) :=
  (xX10_isMile v1).bind fun r1 =>
  if r1 = 0 then
    (xX10_refuse M (-1)).bind fun r2 =>
    some (r2.1, r2.2)
  else
  (xX10_isIn v4 4).bind fun r3 =>
  if r3 = 0 then
    (xX10_refuse M (-1)).bind fun r15 =>
    some (r15.1, r15.2)
  else
  if v2 < 0 then
    (xX10_refuse M (-4)).bind fun r4 =>
    some (r4.1, r4.2)
  else
  if v3 < 0 then
    (xX10_refuse M (-4)).bind fun r5 =>
    some (r5.1, r5.2)
  else
  if v5 < 0 then
    (xX10_refuse M (-4)).bind fun r6 =>
    some (r6.1, r6.2)
  else
  if v6 < 0 then
    (xX10_refuse M (-4)).bind fun r14 =>
    some (r14.1, r14.2)
  else
  if 1759 < v2 then
    (xX10_refuse M (-6)).bind fun r7 =>
    some (r7.1, r7.2)
  else
  if 1 < v3 then
    (xX10_refuse M (-6)).bind fun r8 =>
    some (r8.1, r8.2)
  else
  if 999 < v5 then
    (xX10_refuse M (-6)).bind fun r9 =>
    some (r9.1, r9.2)
  else
  if 50 < v6 then
    (xX10_refuse M (-6)).bind fun r10 =>
    some (r10.1, r10.2)
  else
  if (M.1 51 5) = 40 then
    (xX10_refuse M (-6)).bind fun r11 =>
    some (r11.1, r11.2)
  else
  if (M.1 51 6) = 120 then
    (xX10_refuse M (-6)).bind fun r13 =>
    some (r13.1, r13.2)
  else
  ck (inB (M.1 51 5) 40) <|
  ck (inB v1 20) <|
  (xX10_looksAt (upI (upI (upI (upI (upI (upI (upI (upI (upI M 56 (ix (M.1 51 5)) v1) 57 (ix (M.1 51 5)) v2) 58 (ix (M.1 51 5)) v3) 59 (ix (M.1 51 5)) v4) 60 (ix (M.1 51 5)) (M.1 78 (ix v1))) 63 (ix (M.1 51 5)) 1) 61 (ix (M.1 51 5)) 0) 62 (ix (M.1 51 5)) 10000000) 51 5 ((M.1 51 5) + 1)) (((M.1 51 5) + 1) - 1) v5 v6).bind fun r12 =>
  some (((r12.2.1 51 5) - 1), r12.2)
def xX10_look (M : Mem) (v1 : Int32) (v2 : Int32) (v3 : Int32) : Option (Int32 × Mem) :=
  (xX10_isDefect M v1).bind fun r1 =>
  if r1 = 0 then
    (xX10_refuse M (-1)).bind fun r9 =>
    some (r9.1, r9.2)
  else
  ck (inB v1 40) <|
  if (M.1 63 (ix v1)) = 0 then
    (xX10_refuse M (-3)).bind fun r8 =>
    some (r8.1, r8.2)
  else
  if v2 < 0 then
    (xX10_refuse M (-4)).bind fun r2 =>
    some (r2.1, r2.2)
  else
  if v3 < 0 then
    (xX10_refuse M (-4)).bind fun r7 =>
    some (r7.1, r7.2)
  else
  if 999 < v2 then
    (xX10_refuse M (-6)).bind fun r3 =>
    some (r3.1, r3.2)
  else
  if 50 < v3 then
    (xX10_refuse M (-6)).bind fun r4 =>
    some (r4.1, r4.2)
  else
  if (M.1 51 6) = 120 then
    (xX10_refuse M (-6)).bind fun r6 =>
    some (r6.1, r6.2)
  else
  (xX10_looksAt M v1 v2 v3).bind fun r5 =>
  if r5.1 = 0 then
    some (0, r5.2)
  else
  some (1, r5.2)
def jX10_span_40  (M : Mem) (v1 : Int32) (v2 : Int32) (s0 : Int32) : Option (Int32 × Mem) :=
  if s0 = 0 then
    if v2 = 0 then
      ck (inB v1 40) <|
      some ((M.1 61 (ix v1)), M)
    else
    ck (inB v1 40) <|
    some ((M.1 62 (ix v1)), M)
  else
  (xX10_refuse M s0).bind fun r1 =>
  some (r1.1, r1.2)
def xX10_span (M : Mem) (v1 : Int32) (v2 : Int32) : Option (Int32 × Mem) :=
  (xX10_isDefect M v1).bind fun r1 =>
  if r1 = 0 then
    jX10_span_40  M v1 v2 (-1)
  else
  (xX10_isIn v2 2).bind fun r2 =>
  if r2 = 0 then
    jX10_span_40  M v1 v2 (-2)
  else
  ck (inB v1 40) <|
  if (M.1 63 (ix v1)) = 0 then
    jX10_span_40  M v1 v2 (-3)
  else
  jX10_span_40  M v1 v2 0
def xX10_rule (M : Mem) (v1 : Int32) (v2 : Int32) (v3 : Int32) (v4 : Int32) (v5 : Int32) : Option (Int32 × Mem) :=
  (xX10_isIn v1 4).bind fun r1 =>
  if r1 = 0 then
    (xX10_refuse M (-1)).bind fun r11 =>
    some (r11.1, r11.2)
  else
  (xX10_isIn v4 4).bind fun r2 =>
  if r2 = 0 then
    (xX10_refuse M (-2)).bind fun r10 =>
    some (r10.1, r10.2)
  else
  if v2 < 0 then
    (xX10_refuse M (-4)).bind fun r3 =>
    some (r3.1, r3.2)
  else
  if v3 < (M.1 51 4) then
    (xX10_refuse M (-4)).bind fun r4 =>
    some (r4.1, r4.2)
  else
  if v5 < 0 then
    (xX10_refuse M (-4)).bind fun r9 =>
    some (r9.1, r9.2)
  else
  if 999 < v2 then
    (xX10_refuse M (-6)).bind fun r5 =>
    some (r5.1, r5.2)
  else
  if 1000 < v3 then
    (xX10_refuse M (-6)).bind fun r6 =>
    some (r6.1, r6.2)
  else
  if 60 < v5 then
    (xX10_refuse M (-6)).bind fun r7 =>
    some (r7.1, r7.2)
  else
  if (M.1 51 8) = 30 then
    (xX10_refuse M (-6)).bind fun r8 =>
    some (r8.1, r8.2)
  else
  ck (inB (M.1 51 8) 30) <|
  some ((((M.1 51 8) + 1) - 1), (upI (upI (upI (upI (upI (upI M 67 (ix (M.1 51 8)) v1) 68 (ix (M.1 51 8)) v2) 69 (ix (M.1 51 8)) v3) 70 (ix (M.1 51 8)) v4) 71 (ix (M.1 51 8)) v5) 51 8 ((M.1 51 8) + 1)))
def xX10_wrongOpen (M : Mem) (v1 : Int32) : Option (Int32) :=
  (xX10_isDefect M v1).bind fun r1 =>
  if r1 = 0 then
    some (-1)
  else
  ck (inB v1 40) <|
  if (M.1 63 (ix v1)) = 0 then
    some (-3)
  else
  some 0
def xX10_force (M : Mem) (v1 : Int32) : Option (Int32 × Mem) :=
  (xX10_wrongOpen M v1).bind fun r1 =>
  if r1 = 0 then
    (xX10_forceOf M v1).bind fun r2 =>
    some (r2, M)
  else
  (xX10_refuse M r1).bind fun r3 =>
  some (r3.1, r3.2)
def jX10_dueOf_69 (f29 : Mem → Int32 → Int32 → Int32 → Int32 → Int32 → Option (Int32)) (M : Mem) (v1 : Int32) (v2 : Int32) (v3 : Int32) (v5 : Int32) (s0 : Int32) : Option (Int32) :=
  if s0 = 0 then
    f29 M v1 v2 v3 s0 (v5 + (-1))
  else
  ck (inB v5 120) <|
  f29 M v1 v2 (M.1 65 (ix v5)) s0 (v5 + (-1))
def lX10_dueOf_29  : Nat → Mem → Int32 → Int32 → Int32 → Int32 → Int32 → Option (Int32)
  | 0, _, _, _, _, _, _ => none
  | n + 1, M, v1, v2, v3, v4, v5 =>
    if v5 < 0 then
      ck (inB v2 30) <|
      some (v3 + (M.1 71 (ix v2)))
    else
    if v4 = 0 then
      ck (inB v2 30) <|
      some (v3 + (M.1 71 (ix v2)))
    else
    ck (inB v5 120) <|
    if (M.1 64 (ix v5)) = v1 then
      if (M.1 66 (ix v5)) = v2 then
        jX10_dueOf_69 (lX10_dueOf_29  n) M v1 v2 v3 v5 1
      else
      jX10_dueOf_69 (lX10_dueOf_29  n) M v1 v2 v3 v5 0
    else
    lX10_dueOf_29  n M v1 v2 v3 v4 (v5 + (-1))
def xX10_dueOf (M : Mem) (v1 : Int32) : Option (Int32) :=
  (xX10_forceOf M v1).bind fun r1 =>
  if r1 < 0 then
    some (-9)
  else
  lX10_dueOf_29  fu M v1 r1 (M.1 51 4) 1 ((M.1 51 6) - 1)
def xX10_due (M : Mem) (v1 : Int32) : Option (Int32 × Mem) :=
  (xX10_wrongOpen M v1).bind fun r1 =>
  if r1 = 0 then
    (xX10_dueOf M v1).bind fun r2 =>
    some (r2, M)
  else
  (xX10_refuse M r1).bind fun r3 =>
  some (r3.1, r3.2)
def lX10_overdue_4  : Nat → Mem → Int32 → Int32 → Option (Int32)
  | 0, _, _, _ => none
  | n + 1, M, v1, v2 =>
    if v2 < (M.1 51 5) then
      ck (inB v2 40) <|
      if (M.1 63 (ix v2)) = 0 then
        lX10_overdue_4  n M (v1 + 0) (v2 + 1)
      else
      (xX10_dueOf M v2).bind fun r1 =>
      if r1 < 0 then
        lX10_overdue_4  n M (v1 + 0) (v2 + 1)
      else
      (xX10_dueOf M v2).bind fun r2 =>
      if r2 < (M.1 51 4) then
        lX10_overdue_4  n M (v1 + 1) (v2 + 1)
      else
      lX10_overdue_4  n M (v1 + 0) (v2 + 1)
    else
    some v1
def xX10_overdue (M : Mem) : Option (Int32) :=
  lX10_overdue_4  fu M 0 0
def jX10_close_42  (M : Mem) (v1 : Int32) (v2 : Int32) (s0 : Int32) : Option (Int32 × Mem) :=
  if s0 = 0 then
    ck (inB v1 40) <|
    if v2 = 3 then
      ck (inB (M.1 56 (ix v1)) 20) <|
      some (1, (upI (upI M 63 (ix v1) 0) 77 (ix (M.1 56 (ix v1))) (M.1 51 16)))
    else
    some (1, (upI M 63 (ix v1) 0))
  else
  (xX10_refuse M s0).bind fun r1 =>
  some (r1.1, r1.2)
def jX10_close_27  (M : Mem) (v1 : Int32) (v2 : Int32) : Option (Int32 × Mem) :=
  ck (inB v1 40) <|
  if (M.1 63 (ix v1)) = 0 then
    jX10_close_42  M v1 v2 (-3)
  else
  jX10_close_42  M v1 v2 0
def xX10_close (M : Mem) (v1 : Int32) (v2 : Int32) : Option (Int32 × Mem) :=
  (xX10_isDefect M v1).bind fun r1 =>
  if r1 = 0 then
    jX10_close_42  M v1 v2 (-1)
  else
  if v2 = 2 then
    jX10_close_27  M v1 v2
  else
  if v2 = 3 then
    jX10_close_27  M v1 v2
  else
  jX10_close_42  M v1 v2 (-2)
def jX10_slow_32  (M : Mem) (v1 : Int32) (v2 : Int32) (s0 : Int32) : Option (Int32 × Mem) :=
  if s0 = 0 then
    ck (inB v1 20) <|
    some (1, (upI M 72 (ix v1) v2))
  else
  (xX10_refuse M s0).bind fun r1 =>
  some (r1.1, r1.2)
def xX10_slow (M : Mem) (v1 : Int32) (v2 : Int32) : Option (Int32 × Mem) :=
  (xX10_isMile v1).bind fun r1 =>
  if r1 = 0 then
    jX10_slow_32  M v1 v2 (-1)
  else
  ck (inB v1 20) <|
  if 0 < (M.1 72 (ix v1)) then
    jX10_slow_32  M v1 v2 (-3)
  else
  (xX10_wrong v2 1 30).bind fun r2 =>
  jX10_slow_32  M v1 v2 r2
def xX10_heatOf (M : Mem) (v1 : Int32) : Option (Int32) :=
  ck (inB v1 20) <|
  some (abI ((M.1 51 16) - (M.1 77 (ix v1))))
def lX10_lift_56  : Nat → Mem → Int32 → Int32 → Int32 → Option (Int32 × Mem)
  | 0, _, _, _, _ => none
  | n + 1, M, v1, v3, v4 =>
    if v4 < (M.1 51 5) then
      if v3 = 0 then
        lX10_lift_56  n M v1 0 (v4 + 1)
      else
      ck (inB v4 40) <|
      if (M.1 63 (ix v4)) = 0 then
        lX10_lift_56  n M v1 1 (v4 + 1)
      else
      if (M.1 56 (ix v4)) = v1 then
        (xX10_forceOf M v4).bind fun r1 =>
        if r1 < 0 then
          lX10_lift_56  n M v1 1 (v4 + 1)
        else
        (xX10_forceOf M v4).bind fun r2 =>
        ck (inB r2 30) <|
        if (M.1 70 (ix r2)) = 0 then
          lX10_lift_56  n M v1 1 (v4 + 1)
        else
        lX10_lift_56  n M v1 0 (v4 + 1)
      else
      lX10_lift_56  n M v1 1 (v4 + 1)
    else
    if v3 = 0 then
      some (0, M)
    else
    ck (inB v1 20) <|
    some (1, (upI M 72 (ix v1) 0))
def jX10_lift_26  (M : Mem) (v1 : Int32) (s0 : Int32) : Option (Int32 × Mem) :=
  if s0 = 0 then
    (xX10_heatOf M v1).bind fun r1 =>
    if 20 < r1 then
      lX10_lift_56  fu M v1 0 0
    else
    lX10_lift_56  fu M v1 1 0
  else
  (xX10_refuse M s0).bind fun r2 =>
  some (r2.1, r2.2)
def xX10_lift (M : Mem) (v1 : Int32) : Option (Int32 × Mem) :=
  (xX10_isMile v1).bind fun r1 =>
  if r1 = 0 then
    jX10_lift_26  M v1 (-1)
  else
  ck (inB v1 20) <|
  if (M.1 72 (ix v1)) = 0 then
    jX10_lift_26  M v1 (-3)
  else
  jX10_lift_26  M v1 0
def xX10_lost (M : Mem) : Option (Int32) :=
  some (M.1 51 9)
def jX10_set_120  (M : Mem) (v1 : Int32) (v2 : Int32) (s0 : Int32) : Option (Int32 × Mem) :=
  if v1 = 0 then
    some (s0, (upI M 51 13 v2))
  else
  if v1 = 1 then
    some (s0, (upI M 51 14 v2))
  else
  if v1 = 2 then
    some (s0, (upI M 51 15 v2))
  else
  some (s0, (upI M 51 16 v2))
def jX10_set_70  (M : Mem) (v1 : Int32) (v2 : Int32) (s0 : Int32) : Option (Int32 × Mem) :=
  if s0 = 0 then
    if v1 = 0 then
      jX10_set_120  M v1 v2 (M.1 51 13)
    else
    if v1 = 1 then
      jX10_set_120  M v1 v2 (M.1 51 14)
    else
    if v1 = 2 then
      jX10_set_120  M v1 v2 (M.1 51 15)
    else
    jX10_set_120  M v1 v2 (M.1 51 16)
  else
  (xX10_refuseFar M s0).bind fun r1 =>
  some (r1.1, r1.2)
def jX10_set_67  (M : Mem) (v1 : Int32) (v2 : Int32) (s0 : Int32) (s1 : Int32) (s2 : Int32) : Option (Int32 × Mem) :=
  (xX10_wrong s0 s1 s2).bind fun r1 =>
  jX10_set_70  M v1 v2 r1
def jX10_set_35  (M : Mem) (v1 : Int32) (v2 : Int32) (s0 : Int32) (s1 : Int32) : Option (Int32 × Mem) :=
  if v1 = 0 then
    jX10_set_67  M v1 v2 s0 s1 99
  else
  if v1 = 1 then
    jX10_set_67  M v1 v2 s0 s1 60
  else
  if v1 = 2 then
    jX10_set_67  M v1 v2 s0 s1 200
  else
  jX10_set_67  M v1 v2 s0 s1 50
def xX10_set (M : Mem) (v1 : Int32) (v2 : Int32) : Option (Int32 × Mem) :=
  (xX10_isIn v1 4).bind fun r1 =>
  if r1 = 0 then
    jX10_set_70  M v1 v2 (-2)
  else
  if v1 = 1 then
    jX10_set_35  M v1 v2 v2 10
  else
  if v1 = 3 then
    jX10_set_35  M v1 v2 v2 (-30)
  else
  jX10_set_35  M v1 v2 v2 0
def xX10_grows (M : Mem) (v1 : Int32) : Option (Int32) :=
  (xX10_counts M (M.1 51 4) 0).bind fun r1 =>
  ck (inB v1 4) <|
  (xX10_counts M (M.1 51 4) 1).bind fun r2 =>
  if r2 < 15 then
    some (1 + ((r1 * (M.1 55 (ix v1))) / 100))
  else
  some (1 + (((r1 * (M.1 55 (ix v1))) + ((r1 * (M.1 55 (ix v1))) / 2)) / 100))
def lX10_days_83 (f26 : Mem → Int32 → Int32 → Option (Int32 × Mem)) : Nat → Mem → Int32 → Int32 → Int32 → Option (Int32 × Mem)
  | 0, _, _, _, _ => none
  | n + 1, M, v1, v3, v4 =>
    if v4 < 20 then
      ck (inB v4 20) <|
      lX10_days_83 f26 n (upI M 51 9 ((M.1 51 9) + ((M.1 72 (ix v4)) * (M.1 51 13)))) v1 v3 (v4 + 1)
    else
    f26 (upI M 51 4 ((M.1 51 4) + 1)) v1 (v3 + 1)
def lX10_days_34 (f26 : Mem → Int32 → Int32 → Option (Int32 × Mem)) : Nat → Mem → Int32 → Int32 → Int32 → Option (Int32 × Mem)
  | 0, _, _, _, _ => none
  | n + 1, M, v1, v3, v4 =>
    if v4 < (M.1 51 5) then
      ck (inB v4 40) <|
      if (M.1 63 (ix v4)) = 0 then
        lX10_days_34 f26 n M v1 v3 (v4 + 1)
      else
      (xX10_grows M (M.1 59 (ix v4))).bind fun r1 =>
      lX10_days_34 f26 n (upI M 62 (ix v4) ((M.1 62 (ix v4)) + r1)) v1 v3 (v4 + 1)
    else
    lX10_days_83 f26 fu M v1 v3 0
def lX10_days_26  : Nat → Mem → Int32 → Int32 → Option (Int32 × Mem)
  | 0, _, _, _ => none
  | n + 1, M, v1, v3 =>
    if v3 < v1 then
      lX10_days_34 (lX10_days_26  n) fu M v1 v3 0
    else
    some ((M.1 51 4), M)
def xX10_days (M : Mem) (v1 : Int32) : Option (Int32 × Mem) :=
  (xX10_wrong v1 1 (1000 - (M.1 51 4))).bind fun r1 =>
  if r1 = 0 then
    lX10_days_26  fu M v1 0
  else
  (xX10_refuse M r1).bind fun r2 =>
  some (r2.1, r2.2)
def xX10_train (M : Mem) (v1 : Int32) (v2 : Int32) : Option (Int32 × Mem) :=
  if v1 < 0 then
    (xX10_refuse M (-4)).bind fun r1 =>
    some (r1.1, r1.2)
  else
  if v2 < 1 then
    (xX10_refuse M (-4)).bind fun r5 =>
    some (r5.1, r5.2)
  else
  if v1 < 1440 then
    if 9 < v2 then
      (xX10_refuse M (-6)).bind fun r3 =>
      some (r3.1, r3.2)
    else
    if (M.1 51 10) = 24 then
      (xX10_refuse M (-6)).bind fun r4 =>
      some (r4.1, r4.2)
    else
    ck (inB (M.1 51 10) 24) <|
    some ((((M.1 51 10) + 1) - 1), (upI (upI (upI M 79 (ix (M.1 51 10)) v1) 80 (ix (M.1 51 10)) v2) 51 10 ((M.1 51 10) + 1)))
  else
  (xX10_refuse M (-6)).bind fun r2 =>
  some (r2.1, r2.2)
def lX10_isSafe_25 (f3 : Mem → Int32 → Int32 → Int32 → Int32 → Option (Int32)) : Nat → Mem → Int32 → Int32 → Int32 → Int32 → Int32 → Int32 → Option (Int32)
  | 0, _, _, _, _, _, _, _ => none
  | n + 1, M, v1, v2, v3, v4, v5, v6 =>
    if v6 < (M.1 51 10) then
      ck (inB v6 24) <|
      if ((M.1 79 (ix v6)) + ((M.1 80 (ix v6)) * v4)) < (v5 - 5) then
        lX10_isSafe_25 f3 n M v1 v2 v3 v4 v5 (v6 + 1)
      else
      if ((v5 + (M.1 51 14)) + 4) < ((M.1 79 (ix v6)) + ((M.1 80 (ix v6)) * v4)) then
        lX10_isSafe_25 f3 n M v1 v2 v3 v4 v5 (v6 + 1)
      else
      some 0
    else
    f3 M v1 v2 v3 (v4 + 1)
def lX10_isSafe_3  : Nat → Mem → Int32 → Int32 → Int32 → Int32 → Option (Int32)
  | 0, _, _, _, _, _ => none
  | n + 1, M, v1, v2, v3, v4 =>
    if v2 < v4 then
      some 1
    else
    lX10_isSafe_25 (lX10_isSafe_3  n) fu M v1 v2 v3 v4 (v3 + ((v4 - v1) * (M.1 51 14))) 0
def xX10_isSafe (M : Mem) (v1 : Int32) (v2 : Int32) (v3 : Int32) : Option (Int32) :=
  lX10_isSafe_3  fu M v1 v2 v3 v1
def xX10_wrongWalk (v0 : Int32) (v1 : Int32) (v2 : Int32) : Option (Int32) :=
  (xX10_isMile v0).bind fun r1 =>
  if r1 = 0 then
    some (-1)
  else
  (xX10_isMile v1).bind fun r2 =>
  if r2 = 0 then
    some (-1)
  else
  if v1 < v0 then
    some (-1)
  else
  (xX10_wrong v2 0 1439).bind fun r3 =>
  some r3
def xX10_safe (M : Mem) (v1 : Int32) (v2 : Int32) (v3 : Int32) : Option (Int32 × Mem) :=
  (xX10_wrongWalk v1 v2 v3).bind fun r1 =>
  if r1 = 0 then
    (xX10_isSafe M v1 v2 v3).bind fun r2 =>
    if r2 = 0 then
      some (0, M)
    else
    some (1, M)
  else
  (xX10_refuse M r1).bind fun r3 =>
  some (r3.1, r3.2)
def lX10_first_23  : Nat → Mem → Int32 → Int32 → Int32 → Option (Int32 × Mem)
  | 0, _, _, _, _ => none
  | n + 1, M, v1, v2, v5 =>
    if 1440 < (v5 + (((v2 - v1) + 1) * (M.1 51 14))) then
      some ((-9), M)
    else
    (xX10_isSafe M v1 v2 v5).bind fun r1 =>
    if r1 = 0 then
      lX10_first_23  n M v1 v2 (v5 + 1)
    else
    some (v5, M)
def xX10_first (M : Mem) (v1 : Int32) (v2 : Int32) (v3 : Int32) : Option (Int32 × Mem) :=
  (xX10_wrongWalk v1 v2 v3).bind fun r1 =>
  if r1 = 0 then
    lX10_first_23  fu M v1 v2 v3
  else
  (xX10_refuse M r1).bind fun r2 =>
  some (r2.1, r2.2)
def lX10_walked_20  : Nat → Mem → Int32 → Int32 → Int32 → Option (Int32 × Mem)
  | 0, _, _, _, _ => none
  | n + 1, M, v1, v2, v4 =>
    if v2 < v4 then
      some (((v2 - v1) + 1), M)
    else
    ck (inB v4 20) <|
    lX10_walked_20  n (upI M 73 (ix v4) (M.1 51 4)) v1 v2 (v4 + 1)
def xX10_walked (M : Mem) (v1 : Int32) (v2 : Int32) : Option (Int32 × Mem) :=
  (xX10_wrongWalk v1 v2 0).bind fun r1 =>
  if r1 = 0 then
    lX10_walked_20  fu M v1 v2 v1
  else
  (xX10_refuse M r1).bind fun r2 =>
  some (r2.1, r2.2)
def lX10_riskOf_4  : Nat → Mem → Int32 → Int32 → Int32 → Option (Int32)
  | 0, _, _, _, _ => none
  | n + 1, M, v1, v2, v3 =>
    if v3 < (M.1 51 5) then
      ck (inB v3 40) <|
      if (M.1 63 (ix v3)) = 0 then
        lX10_riskOf_4  n M v1 (v2 + 0) (v3 + 1)
      else
      if (M.1 56 (ix v3)) = v1 then
        lX10_riskOf_4  n M v1 (v2 + 1) (v3 + 1)
      else
      lX10_riskOf_4  n M v1 (v2 + 0) (v3 + 1)
    else
    ck (inB v1 20) <|
    some (((M.1 51 4) - (M.1 73 (ix v1))) * (1 + v2))
def xX10_riskOf (M : Mem) (v1 : Int32) : Option (Int32) :=
  lX10_riskOf_4  fu M v1 0 0
def xX10_risk (M : Mem) (v1 : Int32) : Option (Int32 × Mem) :=
  (xX10_isMile v1).bind fun r1 =>
  if r1 = 0 then
    (xX10_refuse M (-1)).bind fun r2 =>
    some (r2.1, r2.2)
  else
  (xX10_riskOf M v1).bind fun r3 =>
  some (r3, M)
def lX10_riskFrom_5  : Nat → Mem → Int32 → Int32 → Int32 → Int32 → Option (Int32)
  | 0, _, _, _, _, _ => none
  | n + 1, M, v1, v2, v3, v4 =>
    if v4 < (v1 + v2) then
      (xX10_riskOf M v4).bind fun r1 =>
      lX10_riskFrom_5  n M v1 v2 (v3 + r1) (v4 + 1)
    else
    some v3
def xX10_riskFrom (M : Mem) (v1 : Int32) (v2 : Int32) : Option (Int32) :=
  lX10_riskFrom_5  fu M v1 v2 0 v1
def lX10_walks_60 (f43 : Mem → Int32 → Int32 → Int32 → Int32 → Int32 → Int32 → Option (Int32 × Mem)) : Nat → Mem → Int32 → Int32 → Int32 → Int32 → Int32 → Int32 → Int32 → Option (Int32 × Mem)
  | 0, _, _, _, _, _, _, _, _ => none
  | n + 1, M, v1, v2, v4, v5, v6, v7, v8 =>
    if 20 < (v8 + v1) then
      f43 M v1 v2 v4 v5 v6 (v7 + 1)
    else
    (xX10_riskFrom M v7 v1).bind fun r1 =>
    (xX10_riskFrom M v8 v1).bind fun r2 =>
    if v4 < (r1 + r2) then
      lX10_walks_60 f43 n M v1 v2 (r1 + r2) v7 v8 v7 (v8 + 1)
    else
    lX10_walks_60 f43 n M v1 v2 v4 v5 v6 v7 (v8 + 1)
def lX10_walks_43  : Nat → Mem → Int32 → Int32 → Int32 → Int32 → Int32 → Int32 → Option (Int32 × Mem)
  | 0, _, _, _, _, _, _, _ => none
  | n + 1, M, v1, v2, v4, v5, v6, v7 =>
    if 20 < (v7 + (2 * v1)) then
      if v2 = 0 then
        some (v4, M)
      else
      if v2 = 1 then
        some (v5, M)
      else
      some (v6, M)
    else
    lX10_walks_60 (lX10_walks_43  n) fu M v1 v2 v4 v5 v6 v7 (v7 + v1)
def jX10_walks_20  (M : Mem) (v1 : Int32) (v2 : Int32) (s0 : Int32) : Option (Int32 × Mem) :=
  if s0 = 0 then
    lX10_walks_43  fu M v1 v2 (-1) 0 0 0
  else
  (xX10_refuse M s0).bind fun r1 =>
  some (r1.1, r1.2)
def xX10_walks (M : Mem) (v1 : Int32) (v2 : Int32) : Option (Int32 × Mem) :=
  (xX10_isIn v2 3).bind fun r1 =>
  if r1 = 0 then
    jX10_walks_20  M v1 v2 (-2)
  else
  (xX10_wrong v1 1 10).bind fun r2 =>
  jX10_walks_20  M v1 v2 r2
def xX10_doubles (M : Mem) (v1 : Int32) (v2 : Int32) (v3 : Int32) (v4 : Int32) : Option (Int32 × Mem) :=
  (xX10_isMile v1).bind fun r1 =>
  if r1 = 0 then
    (xX10_refuse M (-1)).bind fun r8 =>
    some (r8.1, r8.2)
  else
  if v2 < 0 then
    (xX10_refuse M (-4)).bind fun r2 =>
    some (r2.1, r2.2)
  else
  if v3 < 0 then
    (xX10_refuse M (-4)).bind fun r3 =>
    some (r3.1, r3.2)
  else
  if v4 < 0 then
    (xX10_refuse M (-4)).bind fun r7 =>
    some (r7.1, r7.2)
  else
  ck (inB v1 20) <|
  if (99 - (M.1 74 (ix v1))) < v2 then
    (xX10_refuse M (-6)).bind fun r4 =>
    some (r4.1, r4.2)
  else
  if (99 - (M.1 75 (ix v1))) < v3 then
    (xX10_refuse M (-6)).bind fun r5 =>
    some (r5.1, r5.2)
  else
  if (99 - (M.1 76 (ix v1))) < v4 then
    (xX10_refuse M (-6)).bind fun r6 =>
    some (r6.1, r6.2)
  else
  some (1, (upI (upI (upI M 74 (ix v1) ((M.1 74 (ix v1)) + v2)) 75 (ix v1) ((M.1 75 (ix v1)) + v3)) 76 (ix v1) ((M.1 76 (ix v1)) + v4)))
def xX10_eyes (M : Mem) (v1 : Int32) (v2 : Int32) : Option (Int32 × Mem) :=
  (xX10_isMile v1).bind fun r1 =>
  if r1 = 0 then
    (xX10_refuse M (-1)).bind fun r4 =>
    some (r4.1, r4.2)
  else
  (xX10_isIn v2 2).bind fun r2 =>
  if r2 = 0 then
    (xX10_refuse M (-2)).bind fun r3 =>
    some (r3.1, r3.2)
  else
  ck (inB v1 20) <|
  if (M.1 76 (ix v1)) = 0 then
    some ((-9), M)
  else
  ck (!decide ((M.1 76 (ix v1)) = 0)) <|
  if v2 = 0 then
    some (((((((M.1 74 (ix v1)) + (M.1 76 (ix v1))) * ((M.1 75 (ix v1)) + (M.1 76 (ix v1)))) + (M.1 76 (ix v1))) - 1) / (M.1 76 (ix v1))), M)
  else
  some ((((((((((M.1 74 (ix v1)) + (M.1 76 (ix v1))) * ((M.1 75 (ix v1)) + (M.1 76 (ix v1)))) + (M.1 76 (ix v1))) - 1) / (M.1 76 (ix v1))) - (M.1 74 (ix v1))) - (M.1 75 (ix v1))) - (M.1 76 (ix v1))), M)
def xX10_line (M : Mem) (v1 : Int32) (v2 : Int32) (v3 : Int32) : Option (Int32 × Mem) :=
  (xX10_isMile v1).bind fun r1 =>
  if r1 = 0 then
    (xX10_refuse M (-1)).bind fun r7 =>
    some (r7.1, r7.2)
  else
  if v2 < 0 then
    (xX10_refuse M (-4)).bind fun r2 =>
    some (r2.1, r2.2)
  else
  if v3 < 0 then
    (xX10_refuse M (-4)).bind fun r6 =>
    some (r6.1, r6.2)
  else
  if 1759 < v2 then
    (xX10_refuse M (-6)).bind fun r3 =>
    some (r3.1, r3.2)
  else
  if 1 < v3 then
    (xX10_refuse M (-6)).bind fun r4 =>
    some (r4.1, r4.2)
  else
  if (M.1 51 11) = 8 then
    (xX10_refuse M (-6)).bind fun r5 =>
    some (r5.1, r5.2)
  else
  ck (inB (M.1 51 11) 8) <|
  some ((((M.1 51 11) + 1) - 1), (upI (upI (upI (upI M 81 (ix (M.1 51 11)) v1) 82 (ix (M.1 51 11)) v2) 83 (ix (M.1 51 11)) v3) 51 11 ((M.1 51 11) + 1)))
def xX10_worth (M : Mem) (v1 : Int32) (v2 : Int32) : Option (Int32) :=
  ck (inB v2 12) <|
  ck (inB v1 8) <|
  ck (inB (M.1 88 (ix v2)) 40) <|
  if (M.1 81 (ix v1)) = (M.1 56 (ix (M.1 88 (ix v2)))) then
    if (M.1 83 (ix v1)) = (M.1 58 (ix (M.1 88 (ix v2)))) then
      if (M.1 51 15) < (abI ((M.1 82 (ix v1)) - (M.1 57 (ix (M.1 88 (ix v2)))))) then
        some 0
      else
      some (10000 - (abI ((M.1 82 (ix v1)) - (M.1 57 (ix (M.1 88 (ix v2)))))))
    else
    some 0
  else
  some 0
def lX10_joins_133 (f104 : Mem → Int32 → Int32 → Option (Int32 × Mem)) (f110 : Mem → Int32 → Int32 → Int32 → Option (Int32 × Mem)) : Nat → Mem → Int32 → Int32 → Int32 → Int32 → Int32 → Option (Int32 × Mem)
  | 0, _, _, _, _, _, _ => none
  | n + 1, M, v1, v2, v3, v4, v5 =>
    if v5 < (M.1 51 52) then
      if ((v3 >>> (v5 &&& 31)) &&& 1) = 0 then
        (xX10_worth M v2 v5).bind fun r1 =>
        if 0 < r1 then
          (xX10_worth M v2 v5).bind fun r2 =>
          ck (inB (((v2 + 1) <<< (12 &&& 31)) + (v3 ||| (1 <<< (v5 &&& 31)))) 36864) <|
          lX10_joins_133 f104 f110 n M v1 v2 v3 (mxI v4 (r2 + (M.1 89 (ix (((v2 + 1) <<< (12 &&& 31)) + (v3 ||| (1 <<< (v5 &&& 31)))))))) (v5 + 1)
        else
        lX10_joins_133 f104 f110 n M v1 v2 v3 v4 (v5 + 1)
      else
      lX10_joins_133 f104 f110 n M v1 v2 v3 v4 (v5 + 1)
    else
    ck (inB ((v2 <<< (12 &&& 31)) + v3) 36864) <|
    f110 (upI M 89 (ix ((v2 <<< (12 &&& 31)) + v3)) v4) v1 v2 (v3 + 1)
def lX10_joins_110 (f104 : Mem → Int32 → Int32 → Option (Int32 × Mem)) : Nat → Mem → Int32 → Int32 → Int32 → Option (Int32 × Mem)
  | 0, _, _, _, _ => none
  | n + 1, M, v1, v2, v3 =>
    if v3 < v1 then
      ck (inB (((v2 + 1) <<< (12 &&& 31)) + v3) 36864) <|
      lX10_joins_133 f104 (lX10_joins_110 f104 n) fu M v1 v2 v3 (M.1 89 (ix (((v2 + 1) <<< (12 &&& 31)) + v3))) 0
    else
    f104 M v1 (v2 + (-1))
def jX10_joins_334 (f229 : Mem → Int32 → Int32 → Option (Int32 × Mem)) (M : Mem) (v2 : Int32) (v3 : Int32) (v4 : Int32) : Option (Int32 × Mem) :=
  if v4 < 0 then
    f229 M v2 (v3 + 1)
  else
  ck (inB v4 12) <|
  ck (inB v3 8) <|
  f229 (upI M 90 (ix v3) (M.1 88 (ix v4))) (v2 ||| (1 <<< (v4 &&& 31))) (v3 + 1)
def lX10_joins_251 (f229 : Mem → Int32 → Int32 → Option (Int32 × Mem)) : Nat → Mem → Int32 → Int32 → Int32 → Int32 → Option (Int32 × Mem)
  | 0, _, _, _, _, _ => none
  | n + 1, M, v2, v3, v4, v5 =>
    if v5 < (M.1 51 52) then
      if v4 < 0 then
        if ((v2 >>> (v5 &&& 31)) &&& 1) = 0 then
          (xX10_worth M v3 v5).bind fun r1 =>
          if 0 < r1 then
            (xX10_worth M v3 v5).bind fun r2 =>
            ck (inB (((v3 + 1) <<< (12 &&& 31)) + (v2 ||| (1 <<< (v5 &&& 31)))) 36864) <|
            ck (inB ((v3 <<< (12 &&& 31)) + v2) 36864) <|
            if (r2 + (M.1 89 (ix (((v3 + 1) <<< (12 &&& 31)) + (v2 ||| (1 <<< (v5 &&& 31))))))) = (M.1 89 (ix ((v3 <<< (12 &&& 31)) + v2))) then
              lX10_joins_251 f229 n M v2 v3 v5 (v5 + 1)
            else
            lX10_joins_251 f229 n M v2 v3 v4 (v5 + 1)
          else
          lX10_joins_251 f229 n M v2 v3 v4 (v5 + 1)
        else
        lX10_joins_251 f229 n M v2 v3 v4 (v5 + 1)
      else
      jX10_joins_334 f229 M v2 v3 v4
    else
    jX10_joins_334 f229 M v2 v3 v4
def lX10_joins_229  : Nat → Mem → Int32 → Int32 → Option (Int32 × Mem)
  | 0, _, _, _ => none
  | n + 1, M, v2, v3 =>
    if v3 < (M.1 51 11) then
      ck (inB v3 8) <|
      lX10_joins_251 (lX10_joins_229  n) fu (upI M 90 (ix v3) (-9)) v2 v3 (-1) 0
    else
    some ((M.1 89 0), M)
def lX10_joins_104  : Nat → Mem → Int32 → Int32 → Option (Int32 × Mem)
  | 0, _, _, _ => none
  | n + 1, M, v1, v2 =>
    if v2 < 0 then
      lX10_joins_229  fu M 0 0
    else
    lX10_joins_110 (lX10_joins_104  n) fu M v1 v2 0
def lX10_joins_71  : Nat → Mem → Int32 → Int32 → Option (Int32 × Mem)
  | 0, _, _, _ => none
  | n + 1, M, v1, v2 =>
    if v2 < v1 then
      ck (inB (((M.1 51 11) <<< (12 &&& 31)) + v2) 36864) <|
      lX10_joins_71  n (upI M 89 (ix (((M.1 51 11) <<< (12 &&& 31)) + v2)) 0) v1 (v2 + 1)
    else
    lX10_joins_104  fu M v1 ((M.1 51 11) - 1)
def lX10_joins_7  : Nat → Mem → Int32 → Option (Int32 × Mem)
  | 0, _, _ => none
  | n + 1, M, v1 =>
    if v1 < (M.1 51 5) then
      if (M.1 51 52) < 12 then
        ck (inB v1 40) <|
        if (M.1 63 (ix v1)) = 0 then
          lX10_joins_7  n M (v1 + 1)
        else
        ck (inB (M.1 51 52) 12) <|
        lX10_joins_7  n (upI (upI M 88 (ix (M.1 51 52)) v1) 51 52 ((M.1 51 52) + 1)) (v1 + 1)
      else
      lX10_joins_71  fu M (1 <<< ((M.1 51 52) &&& 31)) 0
    else
    lX10_joins_71  fu M (1 <<< ((M.1 51 52) &&& 31)) 0
def xX10_joins (M : Mem) : Option (Int32 × Mem) :=
  lX10_joins_7  fu (upI M 51 52 0) 0
def xX10_join (M : Mem) (v1 : Int32) : Option (Int32 × Mem) :=
  (xX10_isIn v1 2).bind fun r1 =>
  if r1 = 0 then
    (xX10_refuse M (-2)).bind fun r3 =>
    some (r3.1, r3.2)
  else
  (xX10_joins M).bind fun r2 =>
  if v1 = 0 then
    some (((r2.1 + 9999) / 10000), r2.2)
  else
  some (((10000 * ((r2.1 + 9999) / 10000)) - r2.1), r2.2)
def xX10_joined (M : Mem) (v1 : Int32) : Option (Int32 × Mem) :=
  (xX10_isIn v1 (M.1 51 11)).bind fun r1 =>
  if r1 = 0 then
    (xX10_refuse M (-1)).bind fun r3 =>
    some (r3.1, r3.2)
  else
  (xX10_joins M).bind fun r2 =>
  ck (inB v1 8) <|
  some ((r2.2.1 90 (ix v1)), r2.2)
def xX10_job (M : Mem) (v1 : Int32) (v2 : Int32) (v3 : Int32) : Option (Int32 × Mem) :=
  if v1 < 1 then
    (xX10_refuse M (-4)).bind fun r1 =>
    some (r1.1, r1.2)
  else
  if v2 < 0 then
    (xX10_refuse M (-4)).bind fun r2 =>
    some (r2.1, r2.2)
  else
  if v3 < 0 then
    (xX10_refuse M (-4)).bind fun r7 =>
    some (r7.1, r7.2)
  else
  if 40 < v1 then
    (xX10_refuse M (-6)).bind fun r3 =>
    some (r3.1, r3.2)
  else
  if 400 < v2 then
    (xX10_refuse M (-6)).bind fun r4 =>
    some (r4.1, r4.2)
  else
  if 15 < v3 then
    (xX10_refuse M (-6)).bind fun r5 =>
    some (r5.1, r5.2)
  else
  if (M.1 51 12) = 8 then
    (xX10_refuse M (-6)).bind fun r6 =>
    some (r6.1, r6.2)
  else
  ck (inB (M.1 51 12) 8) <|
  some ((((M.1 51 12) + 1) - 1), (upI (upI (upI (upI M 84 (ix (M.1 51 12)) v1) 85 (ix (M.1 51 12)) v2) 86 (ix (M.1 51 12)) v3) 51 12 ((M.1 51 12) + 1)))
def jX10_gang_19  (M : Mem) (v1 : Int32) (v2 : Int32) (s0 : Int32) : Option (Int32 × Mem) :=
  if s0 = 0 then
    ck (inB v1 2) <|
    some ((M.1 87 (ix v1)), (upI M 87 (ix v1) v2))
  else
  (xX10_refuse M s0).bind fun r1 =>
  some (r1.1, r1.2)
def xX10_gang (M : Mem) (v1 : Int32) (v2 : Int32) : Option (Int32 × Mem) :=
  (xX10_isIn v1 2).bind fun r1 =>
  if r1 = 0 then
    jX10_gang_19  M v1 v2 (-1)
  else
  (xX10_wrong v2 0 15).bind fun r2 =>
  jX10_gang_19  M v1 v2 r2
def xX10_gangIn (M : Mem) (v1 : Int32) (v2 : Int32) : Option (Int32) :=
  some ((v1 >>> ((((M.1 51 12) - 1) - v2) &&& 31)) &&& 1)
def lX10_tries_21  : Nat → Mem → Int32 → Int32 → Int32 → Int32 → Option (Mem)
  | 0, _, _, _, _, _ => none
  | n + 1, M, v1, v2, v3, v4 =>
    if v4 < (M.1 51 12) then
      ck (inB v4 8) <|
      (xX10_gangIn M v1 (M.1 91 (ix v4))).bind fun r1 =>
      ck (inB (M.1 91 (ix v4)) 8) <|
      ck (inB r1 2) <|
      if ((M.1 86 (ix (M.1 91 (ix v4)))) &&& ((M.1 87 (ix r1)) ^^^ (-1))) = 0 then
        lX10_tries_21  n (upI M 92 (ix r1) ((M.1 92 (ix r1)) + (M.1 84 (ix (M.1 91 (ix v4)))))) v1 (mxI v2 (mxI 0 (((upI M 92 (ix r1) ((M.1 92 (ix r1)) + (M.1 84 (ix (M.1 91 (ix v4)))))).1 92 (ix r1)) - (M.1 85 (ix (M.1 91 (ix v4))))))) (v3 + (mxI 0 (((upI M 92 (ix r1) ((M.1 92 (ix r1)) + (M.1 84 (ix (M.1 91 (ix v4)))))).1 92 (ix r1)) - (M.1 85 (ix (M.1 91 (ix v4))))))) (v4 + 1)
      else
      some M
    else
    if (M.1 51 55) < 0 then
      some (upI (upI (upI M 51 55 v1) 51 56 v2) 51 57 v3)
    else
    if (M.1 51 56) < v2 then
      some M
    else
    if v2 = (M.1 51 56) then
      if v3 < (M.1 51 57) then
        some (upI (upI (upI M 51 55 v1) 51 56 v2) 51 57 v3)
      else
      some M
    else
    some (upI (upI (upI M 51 55 v1) 51 56 v2) 51 57 v3)
def xX10_tries (M : Mem) (v1 : Int32) : Option (Mem) :=
  lX10_tries_21  fu (upI (upI M 92 0 0) 92 1 0) v1 0 0 0
def lX10_plans_12 (f2 : Mem → Int32 → Option (Mem)) : Nat → Mem → Int32 → Int32 → Option (Mem)
  | 0, _, _, _ => none
  | n + 1, M, v1, v2 =>
    if 0 < v2 then
      ck (inB (v2 - 1) 8) <|
      ck (inB (M.1 91 (ix (v2 - 1))) 8) <|
      ck (inB v1 8) <|
      if (M.1 85 (ix v1)) < (M.1 85 (ix (M.1 91 (ix (v2 - 1))))) then
        ck (inB v2 8) <|
        lX10_plans_12 f2 n (upI M 91 (ix v2) (M.1 91 (ix (v2 - 1)))) v1 (v2 + (-1))
      else
      ck (inB v2 8) <|
      f2 (upI M 91 (ix v2) v1) (v1 + 1)
    else
    ck (inB v2 8) <|
    f2 (upI M 91 (ix v2) v1) (v1 + 1)
def lX10_plans_78  : Nat → Mem → Int32 → Option (Mem)
  | 0, _, _ => none
  | n + 1, M, v1 =>
    if v1 < (1 <<< ((M.1 51 12) &&& 31)) then
      (xX10_tries M v1).bind fun r1 =>
      lX10_plans_78  n r1 (v1 + 1)
    else
    some M
def lX10_plans_2  : Nat → Mem → Int32 → Option (Mem)
  | 0, _, _ => none
  | n + 1, M, v1 =>
    if v1 < (M.1 51 12) then
      lX10_plans_12 (lX10_plans_2  n) fu M v1 v1
    else
    lX10_plans_78  fu (upI M 51 55 (-1)) 0
def xX10_plans (M : Mem) : Option (Mem) :=
  lX10_plans_2  fu M 0
def xX10_plan (M : Mem) (v1 : Int32) : Option (Int32 × Mem) :=
  (xX10_isIn v1 2).bind fun r1 =>
  if r1 = 0 then
    (xX10_refuse M (-2)).bind fun r3 =>
    some (r3.1, r3.2)
  else
  (xX10_plans M).bind fun r2 =>
  if (r2.1 51 55) < 0 then
    some ((-9), r2)
  else
  if v1 = 0 then
    some ((r2.1 51 56), r2)
  else
  some ((r2.1 51 57), r2)
def xX10_gangOf (M : Mem) (v1 : Int32) : Option (Int32 × Mem) :=
  (xX10_isIn v1 (M.1 51 12)).bind fun r1 =>
  if r1 = 0 then
    (xX10_refuse M (-1)).bind fun r4 =>
    some (r4.1, r4.2)
  else
  (xX10_plans M).bind fun r2 =>
  if (r2.1 51 55) < 0 then
    some ((-9), r2)
  else
  (xX10_gangIn r2 (r2.1 51 55) v1).bind fun r3 =>
  some (r3, r2)
def jX10_rail_81  (M : Mem) (v1 : Int32) (v2 : Int32) (v3 : Int32) (s0 : Int32) : Option (Int32 × Mem) :=
  if v2 = 0 then
    ck (inB v1 20) <|
    some (s0, (upI M 77 (ix v1) v3))
  else
  ck (inB v1 20) <|
  some (s0, (upI M 78 (ix v1) v3))
def jX10_rail_48  (M : Mem) (v1 : Int32) (v2 : Int32) (v3 : Int32) (s0 : Int32) : Option (Int32 × Mem) :=
  if s0 = 0 then
    if v2 = 0 then
      ck (inB v1 20) <|
      jX10_rail_81  M v1 v2 v3 (M.1 77 (ix v1))
    else
    ck (inB v1 20) <|
    jX10_rail_81  M v1 v2 v3 (M.1 78 (ix v1))
  else
  (xX10_refuseFar M s0).bind fun r1 =>
  some (r1.1, r1.2)
def jX10_rail_45  (M : Mem) (v1 : Int32) (v2 : Int32) (v3 : Int32) (s0 : Int32) (s1 : Int32) (s2 : Int32) : Option (Int32 × Mem) :=
  (xX10_wrong s0 s1 s2).bind fun r1 =>
  jX10_rail_48  M v1 v2 v3 r1
def jX10_rail_35  (M : Mem) (v1 : Int32) (v2 : Int32) (v3 : Int32) (s0 : Int32) (s1 : Int32) : Option (Int32 × Mem) :=
  if v2 = 0 then
    jX10_rail_45  M v1 v2 v3 s0 s1 50
  else
  jX10_rail_45  M v1 v2 v3 s0 s1 5
def xX10_rail (M : Mem) (v1 : Int32) (v2 : Int32) (v3 : Int32) : Option (Int32 × Mem) :=
  (xX10_isMile v1).bind fun r1 =>
  if r1 = 0 then
    jX10_rail_48  M v1 v2 v3 (-1)
  else
  (xX10_isIn v2 2).bind fun r2 =>
  if r2 = 0 then
    jX10_rail_48  M v1 v2 v3 (-2)
  else
  if v2 = 0 then
    jX10_rail_35  M v1 v2 v3 v3 (-30)
  else
  jX10_rail_35  M v1 v2 v3 v3 0
def xX10_heat (M : Mem) (v1 : Int32) : Option (Int32 × Mem) :=
  (xX10_isMile v1).bind fun r1 =>
  if r1 = 0 then
    (xX10_refuse M (-1)).bind fun r2 =>
    some (r2.1, r2.2)
  else
  (xX10_heatOf M v1).bind fun r3 =>
  some (r3, M)
def lX10_cracks_4  : Nat → Mem → Int32 → Int32 → Int32 → Option (Int32)
  | 0, _, _, _, _ => none
  | n + 1, M, v1, v2, v3 =>
    if v3 < (M.1 51 5) then
      ck (inB v3 40) <|
      if (M.1 59 (ix v3)) = 3 then
        if (M.1 60 (ix v3)) = v1 then
          lX10_cracks_4  n M v1 (v2 + 1) (v3 + 1)
        else
        lX10_cracks_4  n M v1 (v2 + 0) (v3 + 1)
      else
      lX10_cracks_4  n M v1 (v2 + 0) (v3 + 1)
    else
    some v2
def xX10_cracks (M : Mem) (v1 : Int32) : Option (Int32) :=
  lX10_cracks_4  fu M v1 0 0
def lX10_milesOf_4  : Nat → Mem → Int32 → Int32 → Int32 → Option (Int32)
  | 0, _, _, _, _ => none
  | n + 1, M, v1, v2, v3 =>
    if v3 < 20 then
      ck (inB v3 20) <|
      if (M.1 78 (ix v3)) = v1 then
        lX10_milesOf_4  n M v1 (v2 + 1) (v3 + 1)
      else
      lX10_milesOf_4  n M v1 (v2 + 0) (v3 + 1)
    else
    some v2
def xX10_milesOf (M : Mem) (v1 : Int32) : Option (Int32) :=
  lX10_milesOf_4  fu M v1 0 0
def xX10_lot (M : Mem) (v1 : Int32) (v2 : Int32) : Option (Int32 × Mem) :=
  (xX10_isIn v1 6).bind fun r1 =>
  if r1 = 0 then
    (xX10_refuse M (-1)).bind fun r5 =>
    some (r5.1, r5.2)
  else
  if v2 = 0 then
    (xX10_cracks M v1).bind fun r4 =>
    some (r4, M)
  else
  if v2 = 1 then
    (xX10_milesOf M v1).bind fun r3 =>
    some (r3, M)
  else
  (xX10_refuse M (-2)).bind fun r2 =>
  some (r2.1, r2.2)
def lX10_worstOf_5  : Nat → Mem → Int32 → Int32 → Option (Int32)
  | 0, _, _, _ => none
  | n + 1, M, v1, v2 =>
    if v2 < 6 then
      (xX10_milesOf M v2).bind fun r1 =>
      if r1 = 0 then
        lX10_worstOf_5  n M v1 (v2 + 1)
      else
      (xX10_cracks M v2).bind fun r2 =>
      if r2 = 0 then
        lX10_worstOf_5  n M v1 (v2 + 1)
      else
      if v1 < 0 then
        lX10_worstOf_5  n M v2 (v2 + 1)
      else
      (xX10_cracks M v2).bind fun r3 =>
      (xX10_milesOf M v1).bind fun r4 =>
      (xX10_cracks M v1).bind fun r5 =>
      (xX10_milesOf M v2).bind fun r6 =>
      if (r5 * r6) < (r3 * r4) then
        lX10_worstOf_5  n M v2 (v2 + 1)
      else
      lX10_worstOf_5  n M v1 (v2 + 1)
    else
    some v1
def xX10_worstOf (M : Mem) : Option (Int32) :=
  lX10_worstOf_5  fu M (-9) 0
def xX10_worst (M : Mem) : Option (Int32) :=
  (xX10_worstOf M).bind fun r1 =>
  some r1
def jX10_sure_79  (M : Mem) (v2 : Int32) : Option (Int32) :=
  if v2 = 0 then
    some 0
  else
  some 1
def lX10_sure_17  : Nat → Mem → Int32 → Int32 → Int32 → Option (Int32)
  | 0, _, _, _, _ => none
  | n + 1, M, v1, v2, v3 =>
    if v3 < 6 then
      if v2 = 0 then
        jX10_sure_79  M v2
      else
      if v3 = v1 then
        lX10_sure_17  n M v1 1 (v3 + 1)
      else
      (xX10_milesOf M v3).bind fun r1 =>
      if r1 = 0 then
        lX10_sure_17  n M v1 1 (v3 + 1)
      else
      (xX10_cracks M v1).bind fun r2 =>
      (xX10_milesOf M v3).bind fun r3 =>
      (xX10_cracks M v3).bind fun r4 =>
      (xX10_milesOf M v1).bind fun r5 =>
      if ((2 * r4) * r5) < (r2 * r3) then
        lX10_sure_17  n M v1 1 (v3 + 1)
      else
      lX10_sure_17  n M v1 0 (v3 + 1)
    else
    jX10_sure_79  M v2
def xX10_sure (M : Mem) : Option (Int32) :=
  (xX10_worstOf M).bind fun r1 =>
  if r1 < 0 then
    lX10_sure_17  fu M r1 0 0
  else
  lX10_sure_17  fu M r1 1 0
def lX10_count_92  : Nat → Mem → Int32 → Int32 → Option (Int32)
  | 0, _, _, _ => none
  | n + 1, M, v2, v3 =>
    if v3 < (M.1 51 5) then
      ck (inB v3 40) <|
      if (M.1 63 (ix v3)) = 0 then
        lX10_count_92  n M (v2 + 0) (v3 + 1)
      else
      lX10_count_92  n M (v2 + 1) (v3 + 1)
    else
    some v2
def lX10_count_142  : Nat → Mem → Int32 → Int32 → Option (Int32)
  | 0, _, _, _ => none
  | n + 1, M, v2, v3 =>
    if v3 < 20 then
      ck (inB v3 20) <|
      if 0 < (M.1 72 (ix v3)) then
        lX10_count_142  n M (v2 + 1) (v3 + 1)
      else
      lX10_count_142  n M (v2 + 0) (v3 + 1)
    else
    some v2
def jX10_count_22  (M : Mem) (v1 : Int32) : Option (Int32) :=
  if v1 = 0 then
    some (M.1 51 4)
  else
  if v1 = 1 then
    some (M.1 51 5)
  else
  if v1 = 2 then
    lX10_count_92  fu M 0 0
  else
  if v1 = 3 then
    some (M.1 51 6)
  else
  if v1 = 4 then
    some (M.1 51 7)
  else
  if v1 = 5 then
    some (M.1 51 8)
  else
  if v1 = 6 then
    lX10_count_142  fu M 0 0
  else
  if v1 = 7 then
    some (M.1 51 10)
  else
  if v1 = 8 then
    some (M.1 51 11)
  else
  if v1 = 9 then
    some (M.1 51 12)
  else
  some (-9)
def xX10_count (M : Mem) (v1 : Int32) : Option (Int32) :=
  if 10 < v1 then
    if v1 < 17 then
      ck (inB (v1 - 10) 7) <|
      some (M.1 52 (ix (v1 - 10)))
    else
    jX10_count_22  M v1
  else
  jX10_count_22  M v1
