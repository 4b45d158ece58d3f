/-! memory: ints and longs by cell and place; upI, upL change one place -/
abbrev Mem : Type := (Nat → Nat → Int32) × (Nat → Nat → Int64)
def upI (M : Mem) (k i : Nat) (v : Int32) : Mem := (fun q => cond (Nat.beq q k) (upd (M.1 k) i v) (M.1 q), M.2)
def upL (M : Mem) (k i : Nat) (v : Int64) : Mem := (M.1, fun q => cond (Nat.beq q k) (vp_updL (M.2 k) i v) (M.2 q))
theorem upI_row (M : Mem) (k i : Nat) (v : Int32) : (upI M k i v).1 k = upd (M.1 k) i v := by
  show cond (Nat.beq k k) _ _ = _
  rw [Nat.beq_refl]; rfl
theorem upI_ne (M : Mem) {k q : Nat} (i : Nat) (v : Int32) (h : q ≠ k) : (upI M k i v).1 q = M.1 q := by
  show cond (Nat.beq q k) _ _ = _
  cases hb : Nat.beq q k with
  | false => rfl
  | true => exact absurd (Nat.eq_of_beq_eq_true hb) h
theorem upL_row (M : Mem) (k i : Nat) (v : Int64) : (upL M k i v).2 k = vp_updL (M.2 k) i v := by
  show cond (Nat.beq k k) _ _ = _
  rw [Nat.beq_refl]; rfl
theorem upL_ne (M : Mem) {k q : Nat} (i : Nat) (v : Int64) (h : q ≠ k) : (upL M k i v).2 q = M.2 q := by
  show cond (Nat.beq q k) _ _ = _
  cases hb : Nat.beq q k with
  | false => rfl
  | true => exact absurd (Nat.eq_of_beq_eq_true hb) h
theorem upI_2 (M : Mem) (k i : Nat) (v : Int32) : (upI M k i v).2 = M.2 := rfl
theorem upL_1 (M : Mem) (k i : Nat) (v : Int64) : (upL M k i v).1 = M.1 := rfl
/-- a cell's shape: an array (kind 0 int, 1 boolean, 2 long; length), or an object (class, fields: none an int, some k the cell k) -/
abbrev Sh : Type := (Nat × Nat) ⊕ (Nat × List (Option Nat))
/-- the layout: class and slot numbers; addresses; array classes by kind; the static tables' cells -/
abbrev Lay : Type := va_G × (Nat → Nat) × (Nat → ClassId) × (Nat → Nat)
def fldV (z : Lay) (v : Int32) (f : Option Nat) : Value := match f with
  | none => .int v
  | some k => .ref (z.2.1 k)
def flds (z : Lay) (r : Nat → Int32) : Nat → List (Option Nat) → List Value
  | _, [] => []
  | j, f :: t => fldV z (r j) f :: flds z r (j + 1) t
def mkE (z : Lay) (s : Sh) (r : Nat → Int32) (q : Nat → Int64) : va_E := match s with
  | .inl a => cond (Nat.beq a.1 2) (.inl (z.2.2.1 2, a.2, .inr (.inl q))) (.inl (z.2.2.1 a.1, a.2, .inl r))
  | .inr o => .inr (o.1, flds z r 0 o.2)
def wdF (z : Lay) (M : Mem) : Nat → List Sh → va_W
  | _, [] => []
  | k, s :: t => (z.2.1 k, mkE z s (M.1 k) (M.2 k)) :: wdF z M (k + 1) t
theorem flds_at (z : Lay) (r : Nat → Int32) : ∀ (fs : List (Option Nat)) (b j : Nat) (f : Option Nat), fs[j]? = some f → (flds z r b fs)[j]? = some (fldV z (r (b + j)) f)
  | [], _, j, _, h => by simp at h
  | g :: t, b, 0, f, h => by simp at h; subst h; rfl
  | g :: t, b, j + 1, f, h => by
    have := flds_at z r t (b + 1) j f (by simpa using h)
    rw [show b + (j + 1) = b + 1 + j by omega]
    simpa [flds] using this
theorem flds_len (z : Lay) (r : Nat → Int32) : ∀ (fs : List (Option Nat)) (b : Nat), (flds z r b fs).length = fs.length
  | [], _ => rfl
  | g :: t, b => by simp [flds, flds_len z r t (b + 1)]
theorem flds_cong (z : Lay) (r q : Nat → Int32) : ∀ (fs : List (Option Nat)) (b : Nat), (∀ j, b ≤ j → r j = q j) → flds z r b fs = flds z q b fs
  | [], _, _ => rfl
  | g :: t, b, h => by
    simp only [flds]
    rw [h b (Nat.le_refl b), flds_cong z r q t (b + 1) (fun j hj => h j (by omega))]
theorem flds_set (z : Lay) (r : Nat → Int32) (v : Int32) : ∀ (fs : List (Option Nat)) (b j : Nat), fs[j]? = some none → (flds z r b fs).set j (.int v) = flds z (upd r (b + j) v) b fs
  | [], _, j, h => by simp at h
  | g :: t, b, 0, h => by
    simp at h; subst h
    simp only [flds, List.set_cons_zero]
    rw [flds_cong z r (upd r (b + 0) v) t (b + 1) (fun j hj => by simp [upd]; omega)]
    simp [fldV, upd]
  | g :: t, b, j + 1, h => by
    simp only [flds, List.set_cons_succ]
    rw [flds_set z r v t (b + 1) j (by simpa using h), show b + (j + 1) = b + 1 + j by omega]
    simp only [upd]; rw [if_neg (by omega)]
theorem wdF_at (z : Lay) (M : Mem) : ∀ (l : List Sh) (b k : Nat) (s : Sh), l[k]? = some s → (wdF z M b l)[k]? = some (z.2.1 (b + k), mkE z s (M.1 (b + k)) (M.2 (b + k)))
  | [], _, k, _, h => by simp at h
  | g :: t, b, 0, s, h => by simp at h; subst h; rfl
  | g :: t, b, k + 1, s, h => by
    have := wdF_at z M t (b + 1) k s (by simpa using h)
    rw [show b + (k + 1) = b + 1 + k by omega]
    simpa [wdF] using this
theorem wdF_of (z : Lay) (M : Mem) : ∀ (l : List Sh) (b k : Nat) (q : Nat × va_E), (wdF z M b l)[k]? = some q → ∃ s, l[k]? = some s ∧ q = (z.2.1 (b + k), mkE z s (M.1 (b + k)) (M.2 (b + k)))
  | [], _, k, _, h => by simp [wdF] at h
  | g :: t, b, 0, q, h => by simp [wdF] at h; exact ⟨g, by simp, h.symm⟩
  | g :: t, b, k + 1, q, h => by
    obtain ⟨s, h1, h2⟩ := wdF_of z M t (b + 1) k q (by simpa [wdF] using h)
    exact ⟨s, by simpa using h1, by rw [show b + (k + 1) = b + 1 + k by omega]; exact h2⟩
theorem wdF_cong (z : Lay) (M M' : Mem) : ∀ (l : List Sh) (b : Nat), (∀ j, b ≤ j → M'.1 j = M.1 j ∧ M'.2 j = M.2 j) → wdF z M b l = wdF z M' b l
  | [], _, _ => rfl
  | g :: t, b, h => by
    simp only [wdF]
    rw [(h b (Nat.le_refl b)).1, (h b (Nat.le_refl b)).2, wdF_cong z M M' t (b + 1) (fun j hj => h j (by omega))]
theorem wdF_set (z : Lay) (M M' : Mem) (e : va_E) : ∀ (l : List Sh) (b k : Nat) (s : Sh), l[k]? = some s → (∀ j, j ≠ b + k → M'.1 j = M.1 j ∧ M'.2 j = M.2 j) → e = mkE z s (M'.1 (b + k)) (M'.2 (b + k)) → (wdF z M b l).set k (z.2.1 (b + k), e) = wdF z M' b l
  | [], _, k, _, h, _, _ => by simp at h
  | g :: t, b, 0, s, h, hM, he => by
    simp at h; subst h
    simp only [wdF, List.set_cons_zero]
    rw [wdF_cong z M M' t (b + 1) (fun j hj => hM j (by omega)), he]
    rfl
  | g :: t, b, k + 1, s, h, hM, he => by
    simp only [wdF, List.set_cons_succ]
    rw [(hM b (by omega)).1, (hM b (by omega)).2]
    rw [show b + (k + 1) = b + 1 + k by omega] at he hM ⊢
    rw [wdF_set z M M' e t (b + 1) k s (by simpa using h) hM he]
def shp : List Sh := [.inr (9, [none, some 1, some 2, some 3, some 4, some 6, some 8, some 18, some 24, some 26, some 29, some 30, some 31, some 35, some 41, some 47]),
  .inl (0, 7),
  .inl (0, 4),
  .inl (0, 4),
  .inr (5, [none, none, some 5]),
  .inl (0, 1001),
  .inr (5, [none, none, some 7]),
  .inl (0, 1001),
  .inr (1, [none, none, none, some 9, some 10, some 11, some 12, some 13, some 14, some 15, some 16, some 17]),
  .inl (0, 40),
  .inl (0, 40),
  .inl (0, 40),
  .inl (0, 40),
  .inl (1, 40),
  .inl (0, 40),
  .inl (0, 40),
  .inl (0, 40),
  .inl (0, 40),
  .inr (6, [none, some 19, some 20, some 21, some 22, some 23]),
  .inl (0, 30),
  .inl (0, 30),
  .inl (0, 30),
  .inl (0, 30),
  .inl (0, 30),
  .inr (7, [none, some 25]),
  .inl (0, 20),
  .inr (8, [none, some 27, some 28]),
  .inl (0, 24),
  .inl (0, 24),
  .inl (0, 20),
  .inl (0, 21),
  .inr (2, [some 32, some 33, some 34]),
  .inl (0, 20),
  .inl (0, 20),
  .inl (0, 20),
  .inr (0, [none, some 36, some 37, some 38, some 39, some 40]),
  .inl (0, 8),
  .inl (0, 8),
  .inl (0, 8),
  .inl (2, 8),
  .inl (2, 256),
  .inr (3, [none, some 42, some 43, some 44, some 45, some 46]),
  .inl (0, 2),
  .inl (0, 8),
  .inl (0, 8),
  .inl (0, 8),
  .inl (0, 8),
  .inr (4, [some 48, some 49, some 50]),
  .inl (0, 20),
  .inl (0, 6),
  .inl (0, 20),
  .inr (10, [some 52, some 53, some 54, some 55, none, none, none, none, none, none, none, none, none, none, none, none, none, some 56, some 57, some 58, some 59, some 60, some 61, some 62, some 63, some 64, some 65, some 66, some 67, some 68, some 69, some 70, some 71, some 72, some 73, some 74, some 75, some 76, some 77, some 78, some 79, some 80, some 81, some 82, some 83, some 84, some 85, some 86, some 87, some 88, some 89, some 90, none, some 91, some 92, none, none, none]),
  .inl (0, 7),
  .inl (0, 1001),
  .inl (0, 1001),
  .inl (0, 4),
  .inl (0, 40),
  .inl (0, 40),
  .inl (0, 40),
  .inl (0, 40),
  .inl (0, 40),
  .inl (0, 40),
  .inl (0, 40),
  .inl (1, 40),
  .inl (0, 120),
  .inl (0, 120),
  .inl (0, 120),
  .inl (0, 30),
  .inl (0, 30),
  .inl (0, 30),
  .inl (0, 30),
  .inl (0, 30),
  .inl (0, 20),
  .inl (0, 20),
  .inl (0, 20),
  .inl (0, 20),
  .inl (0, 20),
  .inl (0, 20),
  .inl (0, 20),
  .inl (0, 24),
  .inl (0, 24),
  .inl (0, 8),
  .inl (0, 8),
  .inl (0, 8),
  .inl (0, 8),
  .inl (0, 8),
  .inl (0, 8),
  .inl (0, 2),
  .inl (0, 12),
  .inl (0, 36864),
  .inl (0, 8),
  .inl (0, 8),
  .inl (0, 2)]
def nC : Nat := 93
theorem shp_len : shp.length = nC := rfl
def wd (z : Lay) (M : Mem) : va_W := wdF z M 0 shp
theorem wd_at {z : Lay} {M : Mem} {k : Nat} {s : Sh} (h : shp[k]? = some s) : (wd z M)[k]? = some (z.2.1 k, mkE z s (M.1 k) (M.2 k)) := by
  have := wdF_at z M shp 0 k s h
  rwa [Nat.zero_add] at this
theorem wd_setI {z : Lay} {M : Mem} {k i : Nat} {v : Int32} {s : Sh} {e : va_E} (h : shp[k]? = some s) (he : e = mkE z s (upd (M.1 k) i v) (M.2 k)) : (wd z M).set k (z.2.1 k, e) = wd z (upI M k i v) := by
  have := wdF_set z M (upI M k i v) e shp 0 k s h (fun j hj => ⟨upI_ne M i v (by omega), rfl⟩) (by rw [Nat.zero_add, upI_row]; exact he)
  rwa [Nat.zero_add] at this
theorem wd_setL {z : Lay} {M : Mem} {k i : Nat} {v : Int64} {s : Sh} {e : va_E} (h : shp[k]? = some s) (he : e = mkE z s (M.1 k) (vp_updL (M.2 k) i v)) : (wd z M).set k (z.2.1 k, e) = wd z (upL M k i v) := by
  have := wdF_set z M (upL M k i v) e shp 0 k s h (fun j hj => ⟨rfl, upL_ne M i v (by omega)⟩) (by rw [Nat.zero_add, upL_row]; exact he)
  rwa [Nat.zero_add] at this
/-- the cells that a method may change -/
def Az (z : Lay) : Nat → Prop := fun q => ∃ k, k < nC ∧ q = z.2.1 k
def Dz (z : Lay) : Prop := ∀ i j, i < nC → j < nC → z.2.1 i = z.2.1 j → i = j
theorem lt_of_shp {k : Nat} {s : Sh} (h : shp[k]? = some s) : k < nC := by
  have := (List.getElem?_eq_some_iff.mp h).1
  rwa [shp_len] at this
theorem Dz.D {z : Lay} (h : Dz z) (M : Mem) : va_D (Az z) (wd z M) := by
  refine ⟨fun i j p q hi hj hpq => ?_, fun k q hk => ?_⟩
  · obtain ⟨s, h1, rfl⟩ := wdF_of z M shp 0 i p hi
    obtain ⟨t, h2, rfl⟩ := wdF_of z M shp 0 j q hj
    simp only [Nat.zero_add] at hpq
    exact h i j (lt_of_shp h1) (lt_of_shp h2) hpq
  · obtain ⟨s, h1, rfl⟩ := wdF_of z M shp 0 k q hk
    exact ⟨k, lt_of_shp h1, by simp⟩
def tysZ (z : Lay) : List (ClassId × FieldType) := [(z.2.2.1 0, .int), (z.2.2.1 1, .boolean), (z.2.2.1 2, .long)]
/-! the static tables -/
def tabA (j : Nat) : Int32 := match j with
  | 0 => 0
  | 1 => 10
  | 2 => 0
  | _ => -30
def tabB (j : Nat) : Int32 := match j with
  | 0 => 99
  | 1 => 60
  | 2 => 200
  | _ => 50
def tabC (j : Nat) : Int64 := match j with
  | 0 => 62748517
  | 1 => 4826809
  | 2 => 371293
  | 3 => 28561
  | 4 => 2197
  | 5 => 169
  | 6 => 13
  | _ => 1
def Sz (z : Lay) (U : State) (H : Heap) : Prop :=
  (va_Z RX9 "LEAST_SETTINGS" "[I" (.ref (z.2.2.2 0)) (Az z) U H ∧ va_T .int (z.2.2.2 0) 4 (fun j => .int (tabA j)) (Az z) U H) ∧
  (va_Z RX9 "MOST_SETTINGS" "[I" (.ref (z.2.2.2 1)) (Az z) U H ∧ va_T .int (z.2.2.2 1) 4 (fun j => .int (tabB j)) (Az z) U H) ∧
  (va_Z RX0 "DIGITS" "[J" (.ref (z.2.2.2 2)) (Az z) U H ∧ va_T .long (z.2.2.2 2) 8 (fun j => .long (tabC j)) (Az z) U H)
theorem Sz.moved {z : Lay} {u U : State} {H : Heap} (hvm : u.vm.Alike U.vm) (h : Sz z u H) : Sz z U H :=
  ⟨⟨va_Z.moved hvm h.1.1, va_T.moved hvm h.1.2⟩, ⟨va_Z.moved hvm h.2.1.1, va_T.moved hvm h.2.1.2⟩, ⟨va_Z.moved hvm h.2.2.1, va_T.moved hvm h.2.2.2⟩⟩
theorem Sz.kept {z : Lay} {U : State} {H H1 : Heap} (h : Sz z U H) (hq : ∀ a : Nat, a < H.size → ¬ Az z a → H1[a]? = H[a]?) : Sz z U H1 :=
  ⟨⟨h.1.1.kept hq, h.1.2.kept hq⟩, ⟨h.2.1.1.kept hq, h.2.1.2.kept hq⟩, ⟨h.2.2.1.kept hq, h.2.2.2.kept hq⟩⟩
/-- the world of a call -/
def Wz (z : Lay) (M : Mem) (U : State) : Prop := va_P z.1 vwCl (wd z M) U.heap ∧ va_K z.1 vwCl (tysZ z) U ∧ Dz z ∧ Sz z U U.heap
def RQ (z : Lay) (v : Option Value) (M : Mem) : Array Value → State → Outcome → State → Prop := fun _ st oc t => oc = .returned v ∧ va_P z.1 vwCl (wd z M) t.heap ∧ va_F (Az z) st t
/-! the words of every method: the good ones of the tables -/
def tbG : List Cond := lw_tbl.filter goodWord
theorem tbG_in {w : Cond} (h : w ∈ lw_tbl) (hg : goodWord w = true) : w ∈ tbG := List.mem_filter.mpr ⟨h, hg⟩
theorem tbl_t {w : Cond} (h : w ∈ tables_1) : w ∈ lw_tbl := List.mem_append_right _ h
theorem tbG_good {c : Cond} (h : c ∈ tbG) : GoodIn tbG (c :: tbG) := by
  have key : ∀ w ∈ tbG, w ∈ tbG ∧ ((w.onTables && w.keeps) = true ∨ ∃ ty, w = .arrayClass ty) := fun w hw => ⟨hw, good_of_word (List.mem_filter.mp hw).2⟩
  intro w hw
  rcases List.mem_cons.mp hw with rfl | hw
  · exact key _ h
  · exact key w hw
/-! the room by levels -/
def rml (k : Nat) : Room := { frames := k, cells := 0, slots := 0, locals := 33 * k }
abbrev Cx : Type := Program × Launch × Env × Room × State × MethodId × Array Value × List Frame × Method × Code × Nat × Nat × (State → Prop)
/-- what a frame of a method of ours has: the machine, its code, its class, the words, the tables of classes, the layout apart, the static tables, its locals, its room -/
def okc (x : Cx) (z : Lay) (cc : ByteArray) (own : String) (nL lvl : Nat) : Prop := match x with
  | (p, _, _, R, s, m, args, _, _, c, cells, slots, _) => p.tables.exec = Jvm.exec ∧ c.code = cc ∧ s.vm.findClass own = some m.cls ∧ (∀ w ∈ tbG, w.before args s = true) ∧ va_K z.1 vwCl (tysZ z) s ∧ Dz z ∧ Sz z s s.heap ∧ c.maxLocals = nL ∧ (lvl ≤ R.frames ∧ 33 * lvl ≤ R.locals ∧ cells ≤ R.cells ∧ slots ≤ R.slots)
/-- a method's frame: beside okc, its end: it answers v and leaves the memory M' -/
def okm (x : Cx) (z : Lay) (cc : ByteArray) (own : String) (nL lvl : Nat) (ret : Option FieldType) (v : Option Value) (M : Mem) : Prop := okc x z cc own nL lvl ∧ match x with
  | (_, _, _, _, s, _, args, below, meth, _, cells, slots, Q) => meth.sig.returnType = ret ∧ meth.locks = false ∧ cells = 0 ∧ slots = 0 ∧ Q = MQ below (RQ z v M) args s 0 0 (Az z)
/-- the judgement -/
def G (x : Cx) (z : Lay) (nL pc : Nat) (lv : List (Nat × Value)) (st : List Value) (M : Mem) : Prop := match x with
  | (p, l, e, R, s, m, args, below, meth, c, cells, slots, Q) => ∀ (H : Heap) (locs : List Loc) (ls : Array Slot), lv_has ls nL lv → va_P z.1 vwCl (wd z M) H → va_S (Az z) s.heap H locs → W p l e R s m args below meth c H locs cells slots Q (F0 m pc ls st)
/-- a method's contract: called with these arguments in the memory M it answers v and leaves M' -/
def Con (l : Launch) (z : Lay) (y : MethodName) (bytes : ByteArray) (maxL : Nat) (ret : Option FieldType) (k : Nat) (as : List Value) (M : Mem) (v : Option Value) (M' : Mem) : Prop :=
  Met l y (Cond.code y bytes maxL ret :: tbG) (rml k) (fun va U => va = as.toArray ∧ Wz z M U) (RQ z v M') 0 0 (Az z)
theorem Con.of {l : Launch} {z : Lay} {y : MethodName} {bytes : ByteArray} {maxL : Nat} {ret : Option FieldType} {k : Nat} {as : List Value} {M : Mem} {v : Option Value} {M' : Mem} (hy : plainName y.cls = true) (hn : (lg_sl as).length ≤ maxL)
    (body : ∀ x : Cx, x.2.1 = l → okm x z bytes y.cls maxL k ret v M' → G x z maxL 0 (lv_args 0 as) [] M) : Con l z y bytes maxL ret k as M v M' := by
  refine Met.ofW (cc := bytes) (maxL := maxL) (ret := ret) hy rfl ?_
  intro p e s m args below meth c s₁ B hml hv
  obtain ⟨rfl, hP, hK, hD, hZ⟩ := hv
  have hts := atoms_spec (ws := Cond.code y bytes maxL ret :: tbG) B.pre
  have hown : s.vm.findClass y.cls = some m.cls := findClass_of_methodNamed B.named
  have g := body (p, l, e, rml k, s, m, as.toArray, below, meth, c, 0, 0, MQ below (RQ z v M') as.toArray s 0 0 (Az z)) rfl
    ⟨⟨B.exec, B.bytes, hown, fun w hw => hts w (List.mem_cons_of_mem _ hw), hK, hD, hZ, hml, Nat.le_refl _, Nat.le_refl _, Nat.le_refl _, Nat.le_refl _⟩, B.returns, B.notSynchronized, rfl, rfl, rfl⟩
  have hl := lv_entry as (n := maxL) hn
  rw [lg_entry_eq]
  exact g s.heap [] _ hl hP va_S.rf
/-! the function side: a test of an index or divisor, a call's answer -/
def ck {α : Type} (b : Bool) (o : Option α) : Option α := match b with
  | true => o
  | false => none
theorem ck_t {α : Type} {b : Bool} {o : Option α} (h : b = true) : ck b o = o := by subst h; rfl
theorem ck_e {α : Type} {b : Bool} {o : Option α} {r : α} (h : ck b o = some r) : b = true ∧ o = some r := by
  cases b with
  | false => cases h
  | true => exact ⟨rfl, h⟩
theorem bnd {α β : Type} {o : Option α} {f : α → Option β} {r : β} (h : o.bind f = some r) : ∃ a, o = some a ∧ f a = some r := by
  cases o with
  | none => cases h
  | some a => exact ⟨a, rfl, h⟩
theorem ite_e {α : Type} {c : Prop} [Decidable c] {a b : Option α} {r : α} (h : (if c then a else b) = some r) : (c ∧ a = some r) ∨ (¬ c ∧ b = some r) := by
  by_cases hc : c
  · rw [if_pos hc] at h; exact Or.inl ⟨hc, h⟩
  · rw [if_neg hc] at h; exact Or.inr ⟨hc, h⟩
abbrev ix (i : Int32) : Nat := i.toNatClampNeg
def inB (i : Int32) (n : Nat) : Bool := decide (¬ (i < 0 ∨ n ≤ i.toNatClampNeg))
theorem inB_vp {i : Int32} {n : Nat} (h : inB i n = true) : vp_in i n := of_decide_eq_true (p := ¬ (i < 0 ∨ n ≤ i.toNatClampNeg)) h
theorem inB_of {i : Int32} {n : Nat} (h : vp_in i n) : inB i n = true := decide_eq_true (p := ¬ (i < 0 ∨ n ≤ i.toNatClampNeg)) h
def isB (v : Int32) : Bool := decide (v = 0 ∨ v = 1)
theorem isB_n {v : Int32} (h : isB v = true) : narrow .boolean (.int v) = .int v := by
  rcases of_decide_eq_true h with rfl | rfl <;> rfl
def mxI (x y : Int32) : Int32 := if x < y then y else x
def mnI (x y : Int32) : Int32 := if y < x then y else x
def abI (x : Int32) : Int32 := if 0 ≤ x then x else 0 - x
def mnL (x y : Int64) : Int64 := if y < x then y else x
section GR
variable {x : Cx} {z : Lay} {cc : ByteArray} {own : String} {nL lvl pc : Nat} {lv : List (Nat × Value)} {st : List Value} {M : Mem}
theorem g_iconst (hc : okc x z cc own nL lvl) {n : Int} (v : Int32) (hd : decode cc pc = .ok (.iconst n, 1)) (hv : Int32.ofInt n = v) (kk : G x z nL (pc + 1) lv (.int v :: st) M) : G x z nL pc lv st M := by
  obtain ⟨p, l, e, R, s, m, args, below, meth, c, cells, slots, Q⟩ := x
  obtain ⟨hx, hb, hown, hts, hK, hD, hZ, hml, hr1, hr2, hr3, hr4⟩ := hc
  intro H locs ls hl hP hS
  exact lv_iconst hx hb hd hv (kk H locs ls hl hP hS)
theorem g_bipush (hc : okc x z cc own nL lvl) {n : Int} (v : Int32) (hd : decode cc pc = .ok (.bipush n, 2)) (hv : (Int8.ofInt n).toInt32 = v) (kk : G x z nL (pc + 2) lv (.int v :: st) M) : G x z nL pc lv st M := by
  obtain ⟨p, l, e, R, s, m, args, below, meth, c, cells, slots, Q⟩ := x
  obtain ⟨hx, hb, hown, hts, hK, hD, hZ, hml, hr1, hr2, hr3, hr4⟩ := hc
  intro H locs ls hl hP hS
  exact lv_bipush hx hb hd hv (kk H locs ls hl hP hS)
theorem g_sipush (hc : okc x z cc own nL lvl) {n : Int} (v : Int32) (hd : decode cc pc = .ok (.sipush n, 3)) (hv : (Int16.ofInt n).toInt32 = v) (kk : G x z nL (pc + 3) lv (.int v :: st) M) : G x z nL pc lv st M := by
  obtain ⟨p, l, e, R, s, m, args, below, meth, c, cells, slots, Q⟩ := x
  obtain ⟨hx, hb, hown, hts, hK, hD, hZ, hml, hr1, hr2, hr3, hr4⟩ := hc
  intro H locs ls hl hP hS
  exact lv_sipush hx hb hd hv (kk H locs ls hl hP hS)
theorem g_lconst (hc : okc x z cc own nL lvl) {n : Fin 2} (v : Int64) (hd : decode cc pc = .ok (.lconst n, 1)) (hv : Int64.ofNat (n : Nat) = v) (kk : G x z nL (pc + 1) lv (.long v :: st) M) : G x z nL pc lv st M := by
  obtain ⟨p, l, e, R, s, m, args, below, meth, c, cells, slots, Q⟩ := x
  obtain ⟨hx, hb, hown, hts, hK, hD, hZ, hml, hr1, hr2, hr3, hr4⟩ := hc
  intro H locs ls hl hP hS
  exact lv_lconst hx hb hd hv (kk H locs ls hl hP hS)
theorem g_ldc (hc : okc x z cc own nL lvl) {index : Nat} {v : Int32} (hw : Cond.constant own index v ∈ tbG) (hd : decode cc pc = .ok (.ldc index, 2)) (kk : G x z nL (pc + 2) lv (.int v :: st) M) : G x z nL pc lv st M := by
  obtain ⟨p, l, e, R, s, m, args, below, meth, c, cells, slots, Q⟩ := x
  obtain ⟨hx, hb, hown, hts, hK, hD, hZ, hml, hr1, hr2, hr3, hr4⟩ := hc
  intro H locs ls hl hP hS
  exact lv_ldc hx hb hown (hts _ hw) hd (kk H locs ls hl hP hS)
theorem g_ldcw (hc : okc x z cc own nL lvl) {index : Nat} {v : Int32} (hw : Cond.constant own index v ∈ tbG) (hd : decode cc pc = .ok (.ldc_w index, 3)) (kk : G x z nL (pc + 3) lv (.int v :: st) M) : G x z nL pc lv st M := by
  obtain ⟨p, l, e, R, s, m, args, below, meth, c, cells, slots, Q⟩ := x
  obtain ⟨hx, hb, hown, hts, hK, hD, hZ, hml, hr1, hr2, hr3, hr4⟩ := hc
  intro H locs ls hl hP hS
  exact lv_ldcw hx hb hown (hts _ hw) hd (kk H locs ls hl hP hS)
theorem g_ldc2 (hc : okc x z cc own nL lvl) {index : Nat} {v : Int64} (hw : Cond.constantLong own index v ∈ tbG) (hd : decode cc pc = .ok (.ldc2_w index, 3)) (kk : G x z nL (pc + 3) lv (.long v :: st) M) : G x z nL pc lv st M := by
  obtain ⟨p, l, e, R, s, m, args, below, meth, c, cells, slots, Q⟩ := x
  obtain ⟨hx, hb, hown, hts, hK, hD, hZ, hml, hr1, hr2, hr3, hr4⟩ := hc
  intro H locs ls hl hP hS
  exact lv_ldc2 hx hb hown (hts _ hw) hd (kk H locs ls hl hP hS)
theorem g_iload_n (hc : okc x z cc own nL lvl) {k : Fin 4} {v : Int32} (q : Nat) (hd : decode cc pc = .ok (.iload_n k, 1)) (hq : lv[q]? = some ((k : Nat), .int v)) (kk : G x z nL (pc + 1) lv (.int v :: st) M) : G x z nL pc lv st M := by
  obtain ⟨p, l, e, R, s, m, args, below, meth, c, cells, slots, Q⟩ := x
  obtain ⟨hx, hb, hown, hts, hK, hD, hZ, hml, hr1, hr2, hr3, hr4⟩ := hc
  intro H locs ls hl hP hS
  exact lv_iload_n hx hb hd rfl (lv_at hl q hq) (kk H locs ls hl hP hS)
theorem g_iload (hc : okc x z cc own nL lvl) {i : Nat} {v : Int32} (q : Nat) (hd : decode cc pc = .ok (.iload i, 2)) (hq : lv[q]? = some (i, .int v)) (kk : G x z nL (pc + 2) lv (.int v :: st) M) : G x z nL pc lv st M := by
  obtain ⟨p, l, e, R, s, m, args, below, meth, c, cells, slots, Q⟩ := x
  obtain ⟨hx, hb, hown, hts, hK, hD, hZ, hml, hr1, hr2, hr3, hr4⟩ := hc
  intro H locs ls hl hP hS
  exact lv_iload hx hb hd (lv_at hl q hq) (kk H locs ls hl hP hS)
theorem g_istore_n (hc : okc x z cc own nL lvl) {k : Fin 4} {i : Nat} {v : Int32} (lv' : List (Nat × Value)) (hd : decode cc pc = .ok (.istore_n k, 1)) (hi : (k : Nat) = i) (hn : i < nL) (hl' : (i, Value.int v) :: lv.filter (fun q => !(q.1 == i) && !(q.1 + 1 == i && q.2.category == 2)) = lv') (kk : G x z nL (pc + 1) lv' st M) : G x z nL pc lv (.int v :: st) M := by
  obtain ⟨p, l, e, R, s, m, args, below, meth, c, cells, slots, Q⟩ := x
  obtain ⟨hx, hb, hown, hts, hK, hD, hZ, hml, hr1, hr2, hr3, hr4⟩ := hc
  intro H locs ls hl hP hS
  exact lv_istore_n (lv' := lv') hx hb hd hi hl hn hl' (fun ls2 hl2 => kk H locs ls2 hl2 hP hS)
theorem g_istore (hc : okc x z cc own nL lvl) {i : Nat} {v : Int32} (lv' : List (Nat × Value)) (hd : decode cc pc = .ok (.istore i, 2)) (hn : i < nL) (hl' : (i, Value.int v) :: lv.filter (fun q => !(q.1 == i) && !(q.1 + 1 == i && q.2.category == 2)) = lv') (kk : G x z nL (pc + 2) lv' st M) : G x z nL pc lv (.int v :: st) M := by
  obtain ⟨p, l, e, R, s, m, args, below, meth, c, cells, slots, Q⟩ := x
  obtain ⟨hx, hb, hown, hts, hK, hD, hZ, hml, hr1, hr2, hr3, hr4⟩ := hc
  intro H locs ls hl hP hS
  exact lv_istore (lv' := lv') hx hb hd hl hn hl' (fun ls2 hl2 => kk H locs ls2 hl2 hP hS)
theorem g_lload_n (hc : okc x z cc own nL lvl) {k : Fin 4} {v : Int64} (q : Nat) (hd : decode cc pc = .ok (.lload_n k, 1)) (hq : lv[q]? = some ((k : Nat), .long v)) (kk : G x z nL (pc + 1) lv (.long v :: st) M) : G x z nL pc lv st M := by
  obtain ⟨p, l, e, R, s, m, args, below, meth, c, cells, slots, Q⟩ := x
  obtain ⟨hx, hb, hown, hts, hK, hD, hZ, hml, hr1, hr2, hr3, hr4⟩ := hc
  intro H locs ls hl hP hS
  exact lv_lload_n hx hb hd rfl (lv_at hl q hq) (kk H locs ls hl hP hS)
theorem g_lload (hc : okc x z cc own nL lvl) {i : Nat} {v : Int64} (q : Nat) (hd : decode cc pc = .ok (.lload i, 2)) (hq : lv[q]? = some (i, .long v)) (kk : G x z nL (pc + 2) lv (.long v :: st) M) : G x z nL pc lv st M := by
  obtain ⟨p, l, e, R, s, m, args, below, meth, c, cells, slots, Q⟩ := x
  obtain ⟨hx, hb, hown, hts, hK, hD, hZ, hml, hr1, hr2, hr3, hr4⟩ := hc
  intro H locs ls hl hP hS
  exact lv_lload hx hb hd (lv_at hl q hq) (kk H locs ls hl hP hS)
theorem g_lstore_n (hc : okc x z cc own nL lvl) {k : Fin 4} {i : Nat} {v : Int64} (lv' : List (Nat × Value)) (hd : decode cc pc = .ok (.lstore_n k, 1)) (hi : (k : Nat) = i) (hn : i + 1 < nL) (hl' : (i, Value.long v) :: lv.filter (fun q => !(q.1 == i) && (!(q.1 == i + 1) && !(q.1 + 1 == i && q.2.category == 2))) = lv') (kk : G x z nL (pc + 1) lv' st M) : G x z nL pc lv (.long v :: st) M := by
  obtain ⟨p, l, e, R, s, m, args, below, meth, c, cells, slots, Q⟩ := x
  obtain ⟨hx, hb, hown, hts, hK, hD, hZ, hml, hr1, hr2, hr3, hr4⟩ := hc
  intro H locs ls hl hP hS
  exact lv_lstore_n (lv' := lv') hx hb hd hi hl hn hl' (fun ls2 hl2 => kk H locs ls2 hl2 hP hS)
theorem g_lstore (hc : okc x z cc own nL lvl) {i : Nat} {v : Int64} (lv' : List (Nat × Value)) (hd : decode cc pc = .ok (.lstore i, 2)) (hn : i + 1 < nL) (hl' : (i, Value.long v) :: lv.filter (fun q => !(q.1 == i) && (!(q.1 == i + 1) && !(q.1 + 1 == i && q.2.category == 2))) = lv') (kk : G x z nL (pc + 2) lv' st M) : G x z nL pc lv (.long v :: st) M := by
  obtain ⟨p, l, e, R, s, m, args, below, meth, c, cells, slots, Q⟩ := x
  obtain ⟨hx, hb, hown, hts, hK, hD, hZ, hml, hr1, hr2, hr3, hr4⟩ := hc
  intro H locs ls hl hP hS
  exact lv_lstore (lv' := lv') hx hb hd hl hn hl' (fun ls2 hl2 => kk H locs ls2 hl2 hP hS)
theorem g_aload_n (hc : okc x z cc own nL lvl) {k : Fin 4} {v : Nat} (q : Nat) (hd : decode cc pc = .ok (.aload_n k, 1)) (hq : lv[q]? = some ((k : Nat), .ref v)) (kk : G x z nL (pc + 1) lv (.ref v :: st) M) : G x z nL pc lv st M := by
  obtain ⟨p, l, e, R, s, m, args, below, meth, c, cells, slots, Q⟩ := x
  obtain ⟨hx, hb, hown, hts, hK, hD, hZ, hml, hr1, hr2, hr3, hr4⟩ := hc
  intro H locs ls hl hP hS
  exact lv_aload_n hx hb hd rfl (lv_at hl q hq) (kk H locs ls hl hP hS)
theorem g_aload (hc : okc x z cc own nL lvl) {i : Nat} {v : Nat} (q : Nat) (hd : decode cc pc = .ok (.aload i, 2)) (hq : lv[q]? = some (i, .ref v)) (kk : G x z nL (pc + 2) lv (.ref v :: st) M) : G x z nL pc lv st M := by
  obtain ⟨p, l, e, R, s, m, args, below, meth, c, cells, slots, Q⟩ := x
  obtain ⟨hx, hb, hown, hts, hK, hD, hZ, hml, hr1, hr2, hr3, hr4⟩ := hc
  intro H locs ls hl hP hS
  exact lv_aload hx hb hd (lv_at hl q hq) (kk H locs ls hl hP hS)
theorem g_astore_n (hc : okc x z cc own nL lvl) {k : Fin 4} {i : Nat} {v : Nat} (lv' : List (Nat × Value)) (hd : decode cc pc = .ok (.astore_n k, 1)) (hi : (k : Nat) = i) (hn : i < nL) (hl' : (i, Value.ref v) :: lv.filter (fun q => !(q.1 == i) && !(q.1 + 1 == i && q.2.category == 2)) = lv') (kk : G x z nL (pc + 1) lv' st M) : G x z nL pc lv (.ref v :: st) M := by
  obtain ⟨p, l, e, R, s, m, args, below, meth, c, cells, slots, Q⟩ := x
  obtain ⟨hx, hb, hown, hts, hK, hD, hZ, hml, hr1, hr2, hr3, hr4⟩ := hc
  intro H locs ls hl hP hS
  exact lv_astore_n (lv' := lv') hx hb hd hi hl hn hl' (fun ls2 hl2 => kk H locs ls2 hl2 hP hS)
theorem g_astore (hc : okc x z cc own nL lvl) {i : Nat} {v : Nat} (lv' : List (Nat × Value)) (hd : decode cc pc = .ok (.astore i, 2)) (hn : i < nL) (hl' : (i, Value.ref v) :: lv.filter (fun q => !(q.1 == i) && !(q.1 + 1 == i && q.2.category == 2)) = lv') (kk : G x z nL (pc + 2) lv' st M) : G x z nL pc lv (.ref v :: st) M := by
  obtain ⟨p, l, e, R, s, m, args, below, meth, c, cells, slots, Q⟩ := x
  obtain ⟨hx, hb, hown, hts, hK, hD, hZ, hml, hr1, hr2, hr3, hr4⟩ := hc
  intro H locs ls hl hP hS
  exact lv_astore (lv' := lv') hx hb hd hl hn hl' (fun ls2 hl2 => kk H locs ls2 hl2 hP hS)
theorem g_iinc (hc : okc x z cc own nL lvl) {i k : Nat} {n : Int} {a v : Int32} (lv' : List (Nat × Value)) (hd : decode cc pc = .ok (.iinc i n, 3)) (hk : lv[k]? = some (i, .int a)) (hv : a + Int32.ofInt n = v) (hn : i < nL) (hl' : (i, Value.int v) :: lv.filter (fun q => !(q.1 == i) && !(q.1 + 1 == i && q.2.category == 2)) = lv') (kk : G x z nL (pc + 3) lv' st M) : G x z nL pc lv st M := by
  obtain ⟨p, l, e, R, s, m, args, below, meth, c, cells, slots, Q⟩ := x
  obtain ⟨hx, hb, hown, hts, hK, hD, hZ, hml, hr1, hr2, hr3, hr4⟩ := hc
  intro H locs ls hl hP hS
  exact lv_iinc (lv' := lv') hx hb hd hl hk hv hn hl' (fun ls2 hl2 => kk H locs ls2 hl2 hP hS)
theorem g_iadd (hc : okc x z cc own nL lvl) {a b : Int32} (hd : decode cc pc = .ok (.iadd, 1)) (kk : G x z nL (pc + 1) lv (.int (a + b) :: st) M) : G x z nL pc lv (.int b :: .int a :: st) M := by
  obtain ⟨p, l, e, R, s, m, args, below, meth, c, cells, slots, Q⟩ := x
  obtain ⟨hx, hb, hown, hts, hK, hD, hZ, hml, hr1, hr2, hr3, hr4⟩ := hc
  intro H locs ls hl hP hS
  exact lv_iadd hx hb hd (kk H locs ls hl hP hS)
theorem g_isub (hc : okc x z cc own nL lvl) {a b : Int32} (hd : decode cc pc = .ok (.isub, 1)) (kk : G x z nL (pc + 1) lv (.int (a - b) :: st) M) : G x z nL pc lv (.int b :: .int a :: st) M := by
  obtain ⟨p, l, e, R, s, m, args, below, meth, c, cells, slots, Q⟩ := x
  obtain ⟨hx, hb, hown, hts, hK, hD, hZ, hml, hr1, hr2, hr3, hr4⟩ := hc
  intro H locs ls hl hP hS
  exact lv_isub hx hb hd (kk H locs ls hl hP hS)
theorem g_imul (hc : okc x z cc own nL lvl) {a b : Int32} (hd : decode cc pc = .ok (.imul, 1)) (kk : G x z nL (pc + 1) lv (.int (a * b) :: st) M) : G x z nL pc lv (.int b :: .int a :: st) M := by
  obtain ⟨p, l, e, R, s, m, args, below, meth, c, cells, slots, Q⟩ := x
  obtain ⟨hx, hb, hown, hts, hK, hD, hZ, hml, hr1, hr2, hr3, hr4⟩ := hc
  intro H locs ls hl hP hS
  exact lv_imul hx hb hd (kk H locs ls hl hP hS)
theorem g_iand (hc : okc x z cc own nL lvl) {a b : Int32} (hd : decode cc pc = .ok (.iand, 1)) (kk : G x z nL (pc + 1) lv (.int (a &&& b) :: st) M) : G x z nL pc lv (.int b :: .int a :: st) M := by
  obtain ⟨p, l, e, R, s, m, args, below, meth, c, cells, slots, Q⟩ := x
  obtain ⟨hx, hb, hown, hts, hK, hD, hZ, hml, hr1, hr2, hr3, hr4⟩ := hc
  intro H locs ls hl hP hS
  exact lv_iand hx hb hd (kk H locs ls hl hP hS)
theorem g_ior (hc : okc x z cc own nL lvl) {a b : Int32} (hd : decode cc pc = .ok (.ior, 1)) (kk : G x z nL (pc + 1) lv (.int (a ||| b) :: st) M) : G x z nL pc lv (.int b :: .int a :: st) M := by
  obtain ⟨p, l, e, R, s, m, args, below, meth, c, cells, slots, Q⟩ := x
  obtain ⟨hx, hb, hown, hts, hK, hD, hZ, hml, hr1, hr2, hr3, hr4⟩ := hc
  intro H locs ls hl hP hS
  exact lv_ior hx hb hd (kk H locs ls hl hP hS)
theorem g_ixor (hc : okc x z cc own nL lvl) {a b : Int32} (hd : decode cc pc = .ok (.ixor, 1)) (kk : G x z nL (pc + 1) lv (.int (a ^^^ b) :: st) M) : G x z nL pc lv (.int b :: .int a :: st) M := by
  obtain ⟨p, l, e, R, s, m, args, below, meth, c, cells, slots, Q⟩ := x
  obtain ⟨hx, hb, hown, hts, hK, hD, hZ, hml, hr1, hr2, hr3, hr4⟩ := hc
  intro H locs ls hl hP hS
  exact lv_ixor hx hb hd (kk H locs ls hl hP hS)
theorem g_ishl (hc : okc x z cc own nL lvl) {a b : Int32} (hd : decode cc pc = .ok (.ishl, 1)) (kk : G x z nL (pc + 1) lv (.int (a <<< (b &&& 31)) :: st) M) : G x z nL pc lv (.int b :: .int a :: st) M := by
  obtain ⟨p, l, e, R, s, m, args, below, meth, c, cells, slots, Q⟩ := x
  obtain ⟨hx, hb, hown, hts, hK, hD, hZ, hml, hr1, hr2, hr3, hr4⟩ := hc
  intro H locs ls hl hP hS
  exact lv_ishl hx hb hd (kk H locs ls hl hP hS)
theorem g_ishr (hc : okc x z cc own nL lvl) {a b : Int32} (hd : decode cc pc = .ok (.ishr, 1)) (kk : G x z nL (pc + 1) lv (.int (a >>> (b &&& 31)) :: st) M) : G x z nL pc lv (.int b :: .int a :: st) M := by
  obtain ⟨p, l, e, R, s, m, args, below, meth, c, cells, slots, Q⟩ := x
  obtain ⟨hx, hb, hown, hts, hK, hD, hZ, hml, hr1, hr2, hr3, hr4⟩ := hc
  intro H locs ls hl hP hS
  exact lv_ishr hx hb hd (kk H locs ls hl hP hS)
theorem g_ladd (hc : okc x z cc own nL lvl) {a b : Int64} (hd : decode cc pc = .ok (.ladd, 1)) (kk : G x z nL (pc + 1) lv (.long (a + b) :: st) M) : G x z nL pc lv (.long b :: .long a :: st) M := by
  obtain ⟨p, l, e, R, s, m, args, below, meth, c, cells, slots, Q⟩ := x
  obtain ⟨hx, hb, hown, hts, hK, hD, hZ, hml, hr1, hr2, hr3, hr4⟩ := hc
  intro H locs ls hl hP hS
  exact lv_ladd hx hb hd (kk H locs ls hl hP hS)
theorem g_lsub (hc : okc x z cc own nL lvl) {a b : Int64} (hd : decode cc pc = .ok (.lsub, 1)) (kk : G x z nL (pc + 1) lv (.long (a - b) :: st) M) : G x z nL pc lv (.long b :: .long a :: st) M := by
  obtain ⟨p, l, e, R, s, m, args, below, meth, c, cells, slots, Q⟩ := x
  obtain ⟨hx, hb, hown, hts, hK, hD, hZ, hml, hr1, hr2, hr3, hr4⟩ := hc
  intro H locs ls hl hP hS
  exact lv_lsub hx hb hd (kk H locs ls hl hP hS)
theorem g_lmul (hc : okc x z cc own nL lvl) {a b : Int64} (hd : decode cc pc = .ok (.lmul, 1)) (kk : G x z nL (pc + 1) lv (.long (a * b) :: st) M) : G x z nL pc lv (.long b :: .long a :: st) M := by
  obtain ⟨p, l, e, R, s, m, args, below, meth, c, cells, slots, Q⟩ := x
  obtain ⟨hx, hb, hown, hts, hK, hD, hZ, hml, hr1, hr2, hr3, hr4⟩ := hc
  intro H locs ls hl hP hS
  exact lv_lmul hx hb hd (kk H locs ls hl hP hS)
theorem g_idiv (hc : okc x z cc own nL lvl) {a b : Int32} (hd : decode cc pc = .ok (.idiv, 1)) (hne : ¬ b = 0) (kk : G x z nL (pc + 1) lv (.int (a / b) :: st) M) : G x z nL pc lv (.int b :: .int a :: st) M := by
  obtain ⟨p, l, e, R, s, m, args, below, meth, c, cells, slots, Q⟩ := x
  obtain ⟨hx, hb, hown, hts, hK, hD, hZ, hml, hr1, hr2, hr3, hr4⟩ := hc
  intro H locs ls hl hP hS
  exact lv_idiv hx hb hd hne (kk H locs ls hl hP hS)
theorem g_irem (hc : okc x z cc own nL lvl) {a b : Int32} (hd : decode cc pc = .ok (.irem, 1)) (hne : ¬ b = 0) (kk : G x z nL (pc + 1) lv (.int (a - a / b * b) :: st) M) : G x z nL pc lv (.int b :: .int a :: st) M := by
  obtain ⟨p, l, e, R, s, m, args, below, meth, c, cells, slots, Q⟩ := x
  obtain ⟨hx, hb, hown, hts, hK, hD, hZ, hml, hr1, hr2, hr3, hr4⟩ := hc
  intro H locs ls hl hP hS
  exact lv_irem hx hb hd hne (kk H locs ls hl hP hS)
theorem g_ldiv (hc : okc x z cc own nL lvl) {a b : Int64} (hd : decode cc pc = .ok (.ldiv, 1)) (hne : ¬ b = 0) (kk : G x z nL (pc + 1) lv (.long (a / b) :: st) M) : G x z nL pc lv (.long b :: .long a :: st) M := by
  obtain ⟨p, l, e, R, s, m, args, below, meth, c, cells, slots, Q⟩ := x
  obtain ⟨hx, hb, hown, hts, hK, hD, hZ, hml, hr1, hr2, hr3, hr4⟩ := hc
  intro H locs ls hl hP hS
  exact lv_ldiv hx hb hd hne (kk H locs ls hl hP hS)
theorem g_lrem (hc : okc x z cc own nL lvl) {a b : Int64} (hd : decode cc pc = .ok (.lrem, 1)) (hne : ¬ b = 0) (kk : G x z nL (pc + 1) lv (.long (a - a / b * b) :: st) M) : G x z nL pc lv (.long b :: .long a :: st) M := by
  obtain ⟨p, l, e, R, s, m, args, below, meth, c, cells, slots, Q⟩ := x
  obtain ⟨hx, hb, hown, hts, hK, hD, hZ, hml, hr1, hr2, hr3, hr4⟩ := hc
  intro H locs ls hl hP hS
  exact lv_lrem hx hb hd hne (kk H locs ls hl hP hS)
theorem g_ineg (hc : okc x z cc own nL lvl) {a : Int32} (hd : decode cc pc = .ok (.ineg, 1)) (kk : G x z nL (pc + 1) lv (.int (-a) :: st) M) : G x z nL pc lv (.int a :: st) M := by
  obtain ⟨p, l, e, R, s, m, args, below, meth, c, cells, slots, Q⟩ := x
  obtain ⟨hx, hb, hown, hts, hK, hD, hZ, hml, hr1, hr2, hr3, hr4⟩ := hc
  intro H locs ls hl hP hS
  exact lv_ineg hx hb hd (kk H locs ls hl hP hS)
theorem g_i2l (hc : okc x z cc own nL lvl) {a : Int32} (hd : decode cc pc = .ok (.i2l, 1)) (kk : G x z nL (pc + 1) lv (.long a.toInt64 :: st) M) : G x z nL pc lv (.int a :: st) M := by
  obtain ⟨p, l, e, R, s, m, args, below, meth, c, cells, slots, Q⟩ := x
  obtain ⟨hx, hb, hown, hts, hK, hD, hZ, hml, hr1, hr2, hr3, hr4⟩ := hc
  intro H locs ls hl hP hS
  exact lv_i2l hx hb hd rfl (kk H locs ls hl hP hS)
theorem g_l2i (hc : okc x z cc own nL lvl) {a : Int64} (hd : decode cc pc = .ok (.l2i, 1)) (kk : G x z nL (pc + 1) lv (.int a.toInt32 :: st) M) : G x z nL pc lv (.long a :: st) M := by
  obtain ⟨p, l, e, R, s, m, args, below, meth, c, cells, slots, Q⟩ := x
  obtain ⟨hx, hb, hown, hts, hK, hD, hZ, hml, hr1, hr2, hr3, hr4⟩ := hc
  intro H locs ls hl hP hS
  exact lv_l2i hx hb hd rfl (kk H locs ls hl hP hS)
theorem g_lcmp (hc : okc x z cc own nL lvl) {a b : Int64} (hd : decode cc pc = .ok (.lcmp, 1)) (kk : G x z nL (pc + 1) lv (.int (lg_cmp a b) :: st) M) : G x z nL pc lv (.long b :: .long a :: st) M := by
  obtain ⟨p, l, e, R, s, m, args, below, meth, c, cells, slots, Q⟩ := x
  obtain ⟨hx, hb, hown, hts, hK, hD, hZ, hml, hr1, hr2, hr3, hr4⟩ := hc
  intro H locs ls hl hP hS
  exact W.lcmp hx hb hd (kk H locs ls hl hP hS)
theorem g_dup (hc : okc x z cc own nL lvl) {va : Value} (hd : decode cc pc = .ok (.dup, 1)) (hva : va.category = 1) (kk : G x z nL (pc + 1) lv (va :: va :: st) M) : G x z nL pc lv (va :: st) M := by
  obtain ⟨p, l, e, R, s, m, args, below, meth, c, cells, slots, Q⟩ := x
  obtain ⟨hx, hb, hown, hts, hK, hD, hZ, hml, hr1, hr2, hr3, hr4⟩ := hc
  intro H locs ls hl hP hS
  exact lv_dup hx hb hd hva (kk H locs ls hl hP hS)
theorem g_pop (hc : okc x z cc own nL lvl) {va : Value} (hd : decode cc pc = .ok (.pop, 1)) (hva : va.category = 1) (kk : G x z nL (pc + 1) lv st M) : G x z nL pc lv (va :: st) M := by
  obtain ⟨p, l, e, R, s, m, args, below, meth, c, cells, slots, Q⟩ := x
  obtain ⟨hx, hb, hown, hts, hK, hD, hZ, hml, hr1, hr2, hr3, hr4⟩ := hc
  intro H locs ls hl hP hS
  exact lv_pop hx hb hd hva (kk H locs ls hl hP hS)
theorem g_dup2 (hc : okc x z cc own nL lvl) {va vb : Value} (hd : decode cc pc = .ok (.dup2, 1)) (hva : va.category = 1) (hvb : vb.category = 1) (kk : G x z nL (pc + 1) lv (va :: vb :: va :: vb :: st) M) : G x z nL pc lv (va :: vb :: st) M := by
  obtain ⟨p, l, e, R, s, m, args, below, meth, c, cells, slots, Q⟩ := x
  obtain ⟨hx, hb, hown, hts, hK, hD, hZ, hml, hr1, hr2, hr3, hr4⟩ := hc
  intro H locs ls hl hP hS
  exact lv_dup2_11 hx hb hd hva hvb (kk H locs ls hl hP hS)
theorem g_goto (hc : okc x z cc own nL lvl) {off : Int} {tgt : Nat} (hd : decode cc pc = .ok (.goto off, 3)) (ht : (pc : Int) + off = (tgt : Int)) (kk : G x z nL tgt lv st M) : G x z nL pc lv st M := by
  obtain ⟨p, l, e, R, s, m, args, below, meth, c, cells, slots, Q⟩ := x
  obtain ⟨hx, hb, hown, hts, hK, hD, hZ, hml, hr1, hr2, hr3, hr4⟩ := hc
  intro H locs ls hl hP hS
  exact lv_goto hx hb hd ht (kk H locs ls hl hP hS)
theorem g_ifeq (hc : okc x z cc own nL lvl) {ρ : Type} {A B : Option ρ} {r : ρ} {a : Int32} {off : Int} {tgt : Nat} (hd : decode cc pc = .ok (.ifCond .eq off, 3)) (ht : (pc : Int) + off = (tgt : Int)) (h : (if a = 0 then A else B) = some r) (kt : A = some r → G x z nL tgt lv st M) (kf : B = some r → G x z nL (pc + 3) lv st M) : G x z nL pc lv (.int a :: st) M := by
  obtain ⟨p, l, e, R, s, m, args, below, meth, c, cells, slots, Q⟩ := x
  obtain ⟨hx, hb, hown, hts, hK, hD, hZ, hml, hr1, hr2, hr3, hr4⟩ := hc
  intro H locs ls hl hP hS
  refine lv_if_eq hx hb hd ht (fun c1 => ?_) (fun c1 => ?_)
  · exact kt (by rw [if_pos c1] at h; exact h) H locs ls hl hP hS
  · exact kf (by rw [if_neg c1] at h; exact h) H locs ls hl hP hS
theorem g_ifne (hc : okc x z cc own nL lvl) {ρ : Type} {A B : Option ρ} {r : ρ} {a : Int32} {off : Int} {tgt : Nat} (hd : decode cc pc = .ok (.ifCond .ne off, 3)) (ht : (pc : Int) + off = (tgt : Int)) (h : (if a = 0 then B else A) = some r) (kt : A = some r → G x z nL tgt lv st M) (kf : B = some r → G x z nL (pc + 3) lv st M) : G x z nL pc lv (.int a :: st) M := by
  obtain ⟨p, l, e, R, s, m, args, below, meth, c, cells, slots, Q⟩ := x
  obtain ⟨hx, hb, hown, hts, hK, hD, hZ, hml, hr1, hr2, hr3, hr4⟩ := hc
  intro H locs ls hl hP hS
  refine lv_if_ne hx hb hd ht (fun c1 => ?_) (fun c1 => ?_)
  · exact kt (by rw [if_neg c1] at h; exact h) H locs ls hl hP hS
  · exact kf (by rw [if_pos c1] at h; exact h) H locs ls hl hP hS
theorem g_iflt (hc : okc x z cc own nL lvl) {ρ : Type} {A B : Option ρ} {r : ρ} {a : Int32} {off : Int} {tgt : Nat} (hd : decode cc pc = .ok (.ifCond .lt off, 3)) (ht : (pc : Int) + off = (tgt : Int)) (h : (if a < 0 then A else B) = some r) (kt : A = some r → G x z nL tgt lv st M) (kf : B = some r → G x z nL (pc + 3) lv st M) : G x z nL pc lv (.int a :: st) M := by
  obtain ⟨p, l, e, R, s, m, args, below, meth, c, cells, slots, Q⟩ := x
  obtain ⟨hx, hb, hown, hts, hK, hD, hZ, hml, hr1, hr2, hr3, hr4⟩ := hc
  intro H locs ls hl hP hS
  refine lv_if_lt hx hb hd ht (fun c1 => ?_) (fun c1 => ?_)
  · exact kt (by rw [if_pos c1] at h; exact h) H locs ls hl hP hS
  · exact kf (by rw [if_neg c1] at h; exact h) H locs ls hl hP hS
theorem g_ifge (hc : okc x z cc own nL lvl) {ρ : Type} {A B : Option ρ} {r : ρ} {a : Int32} {off : Int} {tgt : Nat} (hd : decode cc pc = .ok (.ifCond .ge off, 3)) (ht : (pc : Int) + off = (tgt : Int)) (h : (if a < 0 then B else A) = some r) (kt : A = some r → G x z nL tgt lv st M) (kf : B = some r → G x z nL (pc + 3) lv st M) : G x z nL pc lv (.int a :: st) M := by
  obtain ⟨p, l, e, R, s, m, args, below, meth, c, cells, slots, Q⟩ := x
  obtain ⟨hx, hb, hown, hts, hK, hD, hZ, hml, hr1, hr2, hr3, hr4⟩ := hc
  intro H locs ls hl hP hS
  refine lv_if_ge hx hb hd ht (fun c1 => ?_) (fun c1 => ?_)
  · exact kt (by rw [if_neg (Int32.not_lt.mpr c1)] at h; exact h) H locs ls hl hP hS
  · exact kf (by rw [if_pos (Int32.not_le.mp c1)] at h; exact h) H locs ls hl hP hS
theorem g_ifgt (hc : okc x z cc own nL lvl) {ρ : Type} {A B : Option ρ} {r : ρ} {a : Int32} {off : Int} {tgt : Nat} (hd : decode cc pc = .ok (.ifCond .gt off, 3)) (ht : (pc : Int) + off = (tgt : Int)) (h : (if 0 < a then A else B) = some r) (kt : A = some r → G x z nL tgt lv st M) (kf : B = some r → G x z nL (pc + 3) lv st M) : G x z nL pc lv (.int a :: st) M := by
  obtain ⟨p, l, e, R, s, m, args, below, meth, c, cells, slots, Q⟩ := x
  obtain ⟨hx, hb, hown, hts, hK, hD, hZ, hml, hr1, hr2, hr3, hr4⟩ := hc
  intro H locs ls hl hP hS
  refine lv_if_gt hx hb hd ht (fun c1 => ?_) (fun c1 => ?_)
  · exact kt (by rw [if_pos c1] at h; exact h) H locs ls hl hP hS
  · exact kf (by rw [if_neg c1] at h; exact h) H locs ls hl hP hS
theorem g_ifle (hc : okc x z cc own nL lvl) {ρ : Type} {A B : Option ρ} {r : ρ} {a : Int32} {off : Int} {tgt : Nat} (hd : decode cc pc = .ok (.ifCond .le off, 3)) (ht : (pc : Int) + off = (tgt : Int)) (h : (if 0 < a then B else A) = some r) (kt : A = some r → G x z nL tgt lv st M) (kf : B = some r → G x z nL (pc + 3) lv st M) : G x z nL pc lv (.int a :: st) M := by
  obtain ⟨p, l, e, R, s, m, args, below, meth, c, cells, slots, Q⟩ := x
  obtain ⟨hx, hb, hown, hts, hK, hD, hZ, hml, hr1, hr2, hr3, hr4⟩ := hc
  intro H locs ls hl hP hS
  refine lv_if_le hx hb hd ht (fun c1 => ?_) (fun c1 => ?_)
  · exact kt (by rw [if_neg (Int32.not_lt.mpr c1)] at h; exact h) H locs ls hl hP hS
  · exact kf (by rw [if_pos (Int32.not_le.mp c1)] at h; exact h) H locs ls hl hP hS
theorem g_icmpeq (hc : okc x z cc own nL lvl) {ρ : Type} {A B : Option ρ} {r : ρ} {a b : Int32} {off : Int} {tgt : Nat} (hd : decode cc pc = .ok (.if_icmp .eq off, 3)) (ht : (pc : Int) + off = (tgt : Int)) (h : (if a = b then A else B) = some r) (kt : A = some r → G x z nL tgt lv st M) (kf : B = some r → G x z nL (pc + 3) lv st M) : G x z nL pc lv (.int b :: .int a :: st) M := by
  obtain ⟨p, l, e, R, s, m, args, below, meth, c, cells, slots, Q⟩ := x
  obtain ⟨hx, hb, hown, hts, hK, hD, hZ, hml, hr1, hr2, hr3, hr4⟩ := hc
  intro H locs ls hl hP hS
  refine lv_icmp_eq hx hb hd ht (fun c1 => ?_) (fun c1 => ?_)
  · exact kt (by rw [if_pos c1] at h; exact h) H locs ls hl hP hS
  · exact kf (by rw [if_neg c1] at h; exact h) H locs ls hl hP hS
theorem g_icmpne (hc : okc x z cc own nL lvl) {ρ : Type} {A B : Option ρ} {r : ρ} {a b : Int32} {off : Int} {tgt : Nat} (hd : decode cc pc = .ok (.if_icmp .ne off, 3)) (ht : (pc : Int) + off = (tgt : Int)) (h : (if a = b then B else A) = some r) (kt : A = some r → G x z nL tgt lv st M) (kf : B = some r → G x z nL (pc + 3) lv st M) : G x z nL pc lv (.int b :: .int a :: st) M := by
  obtain ⟨p, l, e, R, s, m, args, below, meth, c, cells, slots, Q⟩ := x
  obtain ⟨hx, hb, hown, hts, hK, hD, hZ, hml, hr1, hr2, hr3, hr4⟩ := hc
  intro H locs ls hl hP hS
  refine lv_icmp_ne hx hb hd ht (fun c1 => ?_) (fun c1 => ?_)
  · exact kt (by rw [if_neg c1] at h; exact h) H locs ls hl hP hS
  · exact kf (by rw [if_pos c1] at h; exact h) H locs ls hl hP hS
theorem g_icmplt (hc : okc x z cc own nL lvl) {ρ : Type} {A B : Option ρ} {r : ρ} {a b : Int32} {off : Int} {tgt : Nat} (hd : decode cc pc = .ok (.if_icmp .lt off, 3)) (ht : (pc : Int) + off = (tgt : Int)) (h : (if a < b then A else B) = some r) (kt : A = some r → G x z nL tgt lv st M) (kf : B = some r → G x z nL (pc + 3) lv st M) : G x z nL pc lv (.int b :: .int a :: st) M := by
  obtain ⟨p, l, e, R, s, m, args, below, meth, c, cells, slots, Q⟩ := x
  obtain ⟨hx, hb, hown, hts, hK, hD, hZ, hml, hr1, hr2, hr3, hr4⟩ := hc
  intro H locs ls hl hP hS
  refine lv_icmp_lt hx hb hd ht (fun c1 => ?_) (fun c1 => ?_)
  · exact kt (by rw [if_pos c1] at h; exact h) H locs ls hl hP hS
  · exact kf (by rw [if_neg c1] at h; exact h) H locs ls hl hP hS
theorem g_icmpge (hc : okc x z cc own nL lvl) {ρ : Type} {A B : Option ρ} {r : ρ} {a b : Int32} {off : Int} {tgt : Nat} (hd : decode cc pc = .ok (.if_icmp .ge off, 3)) (ht : (pc : Int) + off = (tgt : Int)) (h : (if a < b then B else A) = some r) (kt : A = some r → G x z nL tgt lv st M) (kf : B = some r → G x z nL (pc + 3) lv st M) : G x z nL pc lv (.int b :: .int a :: st) M := by
  obtain ⟨p, l, e, R, s, m, args, below, meth, c, cells, slots, Q⟩ := x
  obtain ⟨hx, hb, hown, hts, hK, hD, hZ, hml, hr1, hr2, hr3, hr4⟩ := hc
  intro H locs ls hl hP hS
  refine lv_icmp_ge hx hb hd ht (fun c1 => ?_) (fun c1 => ?_)
  · exact kt (by rw [if_neg (Int32.not_lt.mpr c1)] at h; exact h) H locs ls hl hP hS
  · exact kf (by rw [if_pos (Int32.not_le.mp c1)] at h; exact h) H locs ls hl hP hS
theorem g_icmpgt (hc : okc x z cc own nL lvl) {ρ : Type} {A B : Option ρ} {r : ρ} {a b : Int32} {off : Int} {tgt : Nat} (hd : decode cc pc = .ok (.if_icmp .gt off, 3)) (ht : (pc : Int) + off = (tgt : Int)) (h : (if b < a then A else B) = some r) (kt : A = some r → G x z nL tgt lv st M) (kf : B = some r → G x z nL (pc + 3) lv st M) : G x z nL pc lv (.int b :: .int a :: st) M := by
  obtain ⟨p, l, e, R, s, m, args, below, meth, c, cells, slots, Q⟩ := x
  obtain ⟨hx, hb, hown, hts, hK, hD, hZ, hml, hr1, hr2, hr3, hr4⟩ := hc
  intro H locs ls hl hP hS
  refine lv_icmp_gt hx hb hd ht (fun c1 => ?_) (fun c1 => ?_)
  · exact kt (by rw [if_pos c1] at h; exact h) H locs ls hl hP hS
  · exact kf (by rw [if_neg c1] at h; exact h) H locs ls hl hP hS
theorem g_icmple (hc : okc x z cc own nL lvl) {ρ : Type} {A B : Option ρ} {r : ρ} {a b : Int32} {off : Int} {tgt : Nat} (hd : decode cc pc = .ok (.if_icmp .le off, 3)) (ht : (pc : Int) + off = (tgt : Int)) (h : (if b < a then B else A) = some r) (kt : A = some r → G x z nL tgt lv st M) (kf : B = some r → G x z nL (pc + 3) lv st M) : G x z nL pc lv (.int b :: .int a :: st) M := by
  obtain ⟨p, l, e, R, s, m, args, below, meth, c, cells, slots, Q⟩ := x
  obtain ⟨hx, hb, hown, hts, hK, hD, hZ, hml, hr1, hr2, hr3, hr4⟩ := hc
  intro H locs ls hl hP hS
  refine lv_icmp_le hx hb hd ht (fun c1 => ?_) (fun c1 => ?_)
  · exact kt (by rw [if_neg (Int32.not_lt.mpr c1)] at h; exact h) H locs ls hl hP hS
  · exact kf (by rw [if_pos (Int32.not_le.mp c1)] at h; exact h) H locs ls hl hP hS
theorem g_getI (hc : okc x z cc own nL lvl) {k ci j idx N : Nat} {fs : List (Option Nat)} {C : String} {T : u_T} (hs : shp[k]? = some (.inr (ci, fs))) (hcl : vwCl[ci]? = some (C, T, N)) (hin : ∀ w ∈ u_ws C T N, w ∈ tbG) (hjN : j < N) (hlk : Cond.fieldLink own idx (T j).1 (T j).2.1 (T j).2.2.1 ∈ tbG) (hj : fs[j]? = some none) (hd : decode cc pc = .ok (.getfield idx, 3)) (v : Int32) (hv : M.1 k j = v) (kk : G x z nL (pc + 3) lv (.int v :: st) M) : G x z nL pc lv (.ref (z.2.1 k) :: st) M := by
  obtain ⟨p, l, e, R, s, m, args, below, meth, c, cells, slots, Q⟩ := x
  obtain ⟨hx, hb, hown, hts, hK, hD, hZ, hml, hr1, hr2, hr3, hr4⟩ := hc
  intro H locs ls hl hP hS
  subst hv
  exact va_get (D := z.1) (ci := ci) (v := .int (M.1 k j)) (C := C) (T := T) (N := N) hx hb hts hin hown hK hP k (wd_at hs) hcl j hjN (hts _ hlk) (fun _ h9 => h9) (by have := flds_at z (M.1 k) fs 0 j none hj; rwa [Nat.zero_add] at this) hd (kk H locs ls hl hP hS)
theorem g_getR (hc : okc x z cc own nL lvl) {k ci j idx N : Nat} {fs : List (Option Nat)} {C : String} {T : u_T} (hs : shp[k]? = some (.inr (ci, fs))) (hcl : vwCl[ci]? = some (C, T, N)) (hin : ∀ w ∈ u_ws C T N, w ∈ tbG) (hjN : j < N) (hlk : Cond.fieldLink own idx (T j).1 (T j).2.1 (T j).2.2.1 ∈ tbG) {q : Nat} (hj : fs[j]? = some (some q)) (hd : decode cc pc = .ok (.getfield idx, 3)) (kk : G x z nL (pc + 3) lv (.ref (z.2.1 q) :: st) M) : G x z nL pc lv (.ref (z.2.1 k) :: st) M := by
  obtain ⟨p, l, e, R, s, m, args, below, meth, c, cells, slots, Q⟩ := x
  obtain ⟨hx, hb, hown, hts, hK, hD, hZ, hml, hr1, hr2, hr3, hr4⟩ := hc
  intro H locs ls hl hP hS
  exact va_get (D := z.1) (ci := ci) (v := .ref (z.2.1 q)) (C := C) (T := T) (N := N) hx hb hts hin hown hK hP k (wd_at hs) hcl j hjN (hts _ hlk) (fun _ h9 => h9) (by have := flds_at z (M.1 k) fs 0 j (some q) hj; rwa [Nat.zero_add] at this) hd (kk H locs ls hl hP hS)
theorem g_putI (hc : okc x z cc own nL lvl) {k ci j idx N : Nat} {fs : List (Option Nat)} {C : String} {T : u_T} (hs : shp[k]? = some (.inr (ci, fs))) (hcl : vwCl[ci]? = some (C, T, N)) (hin : ∀ w ∈ u_ws C T N, w ∈ tbG) (hjN : j < N) (hlk : Cond.fieldLink own idx (T j).1 (T j).2.1 (T j).2.2.1 ∈ tbG) (ty0 : Nat → FieldType) (hty : ∀ k, k < N → parseFieldDescriptor (T k).2.2.1 = some (ty0 k)) (hnm : ∀ a, a < N → ∀ b, b < N → a ≠ b → (T a).2.1 ≠ (T b).2.1) (hfin : (T j).2.2.2 = false) (hdsc : parseFieldDescriptor (T j).2.2.1 = some .int) (hj : fs[j]? = some none) (hd : decode cc pc = .ok (.putfield idx, 3)) {v : Int32} (kk : G x z nL (pc + 3) lv st (upI M k j v)) : G x z nL pc lv (.int v :: .ref (z.2.1 k) :: st) M := by
  obtain ⟨p, l, e, R, s, m, args, below, meth, c, cells, slots, Q⟩ := x
  obtain ⟨hx, hb, hown, hts, hK, hD, hZ, hml, hr1, hr2, hr3, hr4⟩ := hc
  intro H locs ls hl hP hS
  refine va_put (D := z.1) (ci := ci) (v := .int v) (ty := .int) (C := C) (T := T) (N := N) hx hb hts hin ty0 hty hnm hown hK hP (hD.D M) hS k (wd_at hs) hcl j hjN (hts _ hlk) (fun _ h9 => h9) hfin hdsc rfl rfl (by rw [flds_len]; exact (List.getElem?_eq_some_iff.mp hj).1) hd (fun H1 locs1 hP1 hD1 hS1 => ?_)
  rw [wd_setI (i := j) (v := v) hs (by show Sum.inr (ci, _) = Sum.inr (ci, _); rw [flds_set z (M.1 k) v fs 0 j hj, Nat.zero_add])] at hP1
  exact kk H1 locs1 ls hl hP1 hS1
theorem g_iald (hc : okc x z cc own nL lvl) {k n : Nat} {i : Int32} (hs : shp[k]? = some (.inl (0, n))) (hd : decode cc pc = .ok (.iaload, 1)) (hi : inB i n = true) (v : Int32) (hv : M.1 k (ix i) = v) (kk : G x z nL (pc + 1) lv (.int v :: st) M) : G x z nL pc lv (.int i :: .ref (z.2.1 k) :: st) M := by
  obtain ⟨p, l, e, R, s, m, args, below, meth, c, cells, slots, Q⟩ := x
  obtain ⟨hx, hb, hown, hts, hK, hD, hZ, hml, hr1, hr2, hr3, hr4⟩ := hc
  intro H locs ls hl hP hS
  subst hv
  exact va_iald (D := z.1) (f := M.1 k) hx hb hK hP k 0 (wd_at hs) rfl (inB_vp hi) hd (kk H locs ls hl hP hS)
theorem g_zald (hc : okc x z cc own nL lvl) {k n : Nat} {i : Int32} (hs : shp[k]? = some (.inl (1, n))) (hd : decode cc pc = .ok (.baload, 1)) (hi : inB i n = true) (v : Int32) (hv : M.1 k (ix i) = v) (kk : G x z nL (pc + 1) lv (.int v :: st) M) : G x z nL pc lv (.int i :: .ref (z.2.1 k) :: st) M := by
  obtain ⟨p, l, e, R, s, m, args, below, meth, c, cells, slots, Q⟩ := x
  obtain ⟨hx, hb, hown, hts, hK, hD, hZ, hml, hr1, hr2, hr3, hr4⟩ := hc
  intro H locs ls hl hP hS
  subst hv
  exact va_zald (D := z.1) (f := M.1 k) hx hb hK hP k 1 (wd_at hs) rfl (inB_vp hi) hd (kk H locs ls hl hP hS)
theorem g_lald (hc : okc x z cc own nL lvl) {k n : Nat} {i : Int32} (hs : shp[k]? = some (.inl (2, n))) (hd : decode cc pc = .ok (.laload, 1)) (hi : inB i n = true) (v : Int64) (hv : M.2 k (ix i) = v) (kk : G x z nL (pc + 1) lv (.long v :: st) M) : G x z nL pc lv (.int i :: .ref (z.2.1 k) :: st) M := by
  obtain ⟨p, l, e, R, s, m, args, below, meth, c, cells, slots, Q⟩ := x
  obtain ⟨hx, hb, hown, hts, hK, hD, hZ, hml, hr1, hr2, hr3, hr4⟩ := hc
  intro H locs ls hl hP hS
  subst hv
  exact va_lald (D := z.1) (f := M.2 k) hx hb hK hP k 2 (wd_at hs) rfl (inB_vp hi) hd (kk H locs ls hl hP hS)
theorem g_iast (hc : okc x z cc own nL lvl) {k n : Nat} {i v : Int32} (hs : shp[k]? = some (.inl (0, n))) (hd : decode cc pc = .ok (.iastore, 1)) (hi : inB i n = true) (kk : G x z nL (pc + 1) lv st (upI M k (ix i) v)) : G x z nL pc lv (.int v :: .int i :: .ref (z.2.1 k) :: st) M := by
  obtain ⟨p, l, e, R, s, m, args, below, meth, c, cells, slots, Q⟩ := x
  obtain ⟨hx, hb, hown, hts, hK, hD, hZ, hml, hr1, hr2, hr3, hr4⟩ := hc
  intro H locs ls hl hP hS
  refine va_iast (D := z.1) (f := M.1 k) hx hb hK hP (hD.D M) hS k 0 (wd_at hs) rfl (inB_vp hi) hd (fun H1 locs1 hP1 hD1 hS1 => ?_)
  have e0 : (wd z M).set k (z.2.1 k, .inl (z.2.2.1 0, n, .inl (upd (M.1 k) (ix i) v))) = wd z (upI M k (ix i) v) := wd_setI hs rfl
  rw [e0] at hP1
  exact kk H1 locs1 ls hl hP1 hS1
theorem g_zast (hc : okc x z cc own nL lvl) {k n : Nat} {i v : Int32} (w : Int32) (hs : shp[k]? = some (.inl (1, n))) (hd : decode cc pc = .ok (.bastore, 1)) (hi : inB i n = true) (hw : vp_nar .boolean v = w) (kk : G x z nL (pc + 1) lv st (upI M k (ix i) w)) : G x z nL pc lv (.int v :: .int i :: .ref (z.2.1 k) :: st) M := by
  obtain ⟨p, l, e, R, s, m, args, below, meth, c, cells, slots, Q⟩ := x
  obtain ⟨hx, hb, hown, hts, hK, hD, hZ, hml, hr1, hr2, hr3, hr4⟩ := hc
  intro H locs ls hl hP hS
  subst hw
  refine va_zast (D := z.1) (f := M.1 k) hx hb hK hP (hD.D M) hS k 1 (wd_at hs) rfl (inB_vp hi) hd (fun H1 locs1 hP1 hD1 hS1 => ?_)
  have e0 : (wd z M).set k (z.2.1 k, .inl (z.2.2.1 1, n, .inl (upd (M.1 k) (ix i) (vp_nar .boolean v)))) = wd z (upI M k (ix i) (vp_nar .boolean v)) := wd_setI hs rfl
  rw [e0] at hP1
  exact kk H1 locs1 ls hl hP1 hS1
theorem g_last (hc : okc x z cc own nL lvl) {k n : Nat} {i : Int32} {v : Int64} (hs : shp[k]? = some (.inl (2, n))) (hd : decode cc pc = .ok (.lastore, 1)) (hi : inB i n = true) (kk : G x z nL (pc + 1) lv st (upL M k (ix i) v)) : G x z nL pc lv (.long v :: .int i :: .ref (z.2.1 k) :: st) M := by
  obtain ⟨p, l, e, R, s, m, args, below, meth, c, cells, slots, Q⟩ := x
  obtain ⟨hx, hb, hown, hts, hK, hD, hZ, hml, hr1, hr2, hr3, hr4⟩ := hc
  intro H locs ls hl hP hS
  refine va_last (D := z.1) (f := M.2 k) hx hb hK hP (hD.D M) hS k 2 (wd_at hs) rfl (inB_vp hi) hd (fun H1 locs1 hP1 hD1 hS1 => ?_)
  have e0 : (wd z M).set k (z.2.1 k, .inl (z.2.2.1 2, n, .inr (.inl (vp_updL (M.2 k) (ix i) v)))) = wd z (upL M k (ix i) v) := wd_setL hs rfl
  rw [e0] at hP1
  exact kk H1 locs1 ls hl hP1 hS1
theorem g_gets0 (hc : okc x z cc own nL lvl) {idx : Nat} (hlk : Cond.fieldLink own idx RX9 "LEAST_SETTINGS" "[I" ∈ tbG) (hd : decode cc pc = .ok (.getstatic idx, 3)) (kk : G x z nL (pc + 3) lv (.ref (z.2.2.2 0) :: st) M) : G x z nL pc lv st M := by
  obtain ⟨p, l, e, R, s, m, args, below, meth, c, cells, slots, Q⟩ := x
  obtain ⟨hx, hb, hown, hts, hK, hD, hZ, hml, hr1, hr2, hr3, hr4⟩ := hc
  intro H locs ls hl hP hS
  exact va_gets hx hb hZ.1.1 hS hown (hts _ hlk) (fun _ h9 => h9) hd (kk H locs ls hl hP hS)
theorem g_tab0 (hc : okc x z cc own nL lvl) {i : Int32} (hd : decode cc pc = .ok (.iaload, 1)) (hi : inB i 4 = true) (kk : G x z nL (pc + 1) lv (.int (tabA (ix i)) :: st) M) : G x z nL pc lv (.int i :: .ref (z.2.2.2 0) :: st) M := by
  obtain ⟨p, l, e, R, s, m, args, below, meth, c, cells, slots, Q⟩ := x
  obtain ⟨hx, hb, hown, hts, hK, hD, hZ, hml, hr1, hr2, hr3, hr4⟩ := hc
  intro H locs ls hl hP hS
  exact va_ti hx hb hZ.1.2 hS (inB_vp hi) rfl hd (kk H locs ls hl hP hS)
theorem g_gets1 (hc : okc x z cc own nL lvl) {idx : Nat} (hlk : Cond.fieldLink own idx RX9 "MOST_SETTINGS" "[I" ∈ tbG) (hd : decode cc pc = .ok (.getstatic idx, 3)) (kk : G x z nL (pc + 3) lv (.ref (z.2.2.2 1) :: st) M) : G x z nL pc lv st M := by
  obtain ⟨p, l, e, R, s, m, args, below, meth, c, cells, slots, Q⟩ := x
  obtain ⟨hx, hb, hown, hts, hK, hD, hZ, hml, hr1, hr2, hr3, hr4⟩ := hc
  intro H locs ls hl hP hS
  exact va_gets hx hb hZ.2.1.1 hS hown (hts _ hlk) (fun _ h9 => h9) hd (kk H locs ls hl hP hS)
theorem g_tab1 (hc : okc x z cc own nL lvl) {i : Int32} (hd : decode cc pc = .ok (.iaload, 1)) (hi : inB i 4 = true) (kk : G x z nL (pc + 1) lv (.int (tabB (ix i)) :: st) M) : G x z nL pc lv (.int i :: .ref (z.2.2.2 1) :: st) M := by
  obtain ⟨p, l, e, R, s, m, args, below, meth, c, cells, slots, Q⟩ := x
  obtain ⟨hx, hb, hown, hts, hK, hD, hZ, hml, hr1, hr2, hr3, hr4⟩ := hc
  intro H locs ls hl hP hS
  exact va_ti hx hb hZ.2.1.2 hS (inB_vp hi) rfl hd (kk H locs ls hl hP hS)
theorem g_gets2 (hc : okc x z cc own nL lvl) {idx : Nat} (hlk : Cond.fieldLink own idx RX0 "DIGITS" "[J" ∈ tbG) (hd : decode cc pc = .ok (.getstatic idx, 3)) (kk : G x z nL (pc + 3) lv (.ref (z.2.2.2 2) :: st) M) : G x z nL pc lv st M := by
  obtain ⟨p, l, e, R, s, m, args, below, meth, c, cells, slots, Q⟩ := x
  obtain ⟨hx, hb, hown, hts, hK, hD, hZ, hml, hr1, hr2, hr3, hr4⟩ := hc
  intro H locs ls hl hP hS
  exact va_gets hx hb hZ.2.2.1 hS hown (hts _ hlk) (fun _ h9 => h9) hd (kk H locs ls hl hP hS)
theorem g_tab2 (hc : okc x z cc own nL lvl) {i : Int32} (hd : decode cc pc = .ok (.laload, 1)) (hi : inB i 8 = true) (kk : G x z nL (pc + 1) lv (.long (tabC (ix i)) :: st) M) : G x z nL pc lv (.int i :: .ref (z.2.2.2 2) :: st) M := by
  obtain ⟨p, l, e, R, s, m, args, below, meth, c, cells, slots, Q⟩ := x
  obtain ⟨hx, hb, hown, hts, hK, hD, hZ, hml, hr1, hr2, hr3, hr4⟩ := hc
  intro H locs ls hl hP hS
  exact va_tl hx hb hZ.2.2.2 hS (inB_vp hi) rfl hd (kk H locs ls hl hP hS)
theorem g_mmax (hc : okc x z cc own nL lvl) {idx : Nat} {a b : Int32} (hlk : Cond.methodLink own idx Lib.Math.max.name ∈ tbG) (h1 : Cond.static Lib.Math.max.name ∈ tbG) (h2 : Cond.initialized "java/lang/Math" ∈ tbG) (h3 : Cond.code Lib.Math.max.name Lib.Math.max.code 2 (some .int) ∈ tbG) (h4 : 1 ≤ lvl) (h5 : (st.map fun v => v.category).sum ≤ 8) (hd : decode cc pc = .ok (.invokestatic idx, 3)) (kk : G x z nL (pc + 3) lv (.int (mxI a b) :: st) M) : G x z nL pc lv (.int b :: .int a :: st) M := by
  obtain ⟨p, l, e, R, s, m, args, below, meth, c, cells, slots, Q⟩ := x
  obtain ⟨hx, hb, hown, hts, hK, hD, hZ, hml, hr1, hr2, hr3, hr4⟩ := hc
  intro H locs ls hl hP hS
  exact va_mmax hx hb (by rw [hl.1]; exact hml) hown (hts _ hlk) (hts _ h1) (hts _ h2) (hts _ h3) (Nat.le_trans h4 hr1) (by have : 33 * 1 ≤ 33 * lvl := Nat.mul_le_mul_left 33 h4; omega) hr3 hr4 hd (kk H locs ls hl hP hS)
theorem g_mmin (hc : okc x z cc own nL lvl) {idx : Nat} {a b : Int32} (hlk : Cond.methodLink own idx Lib.Math.min.name ∈ tbG) (h1 : Cond.static Lib.Math.min.name ∈ tbG) (h2 : Cond.initialized "java/lang/Math" ∈ tbG) (h3 : Cond.code Lib.Math.min.name Lib.Math.min.code 2 (some .int) ∈ tbG) (h4 : 1 ≤ lvl) (h5 : (st.map fun v => v.category).sum ≤ 8) (hd : decode cc pc = .ok (.invokestatic idx, 3)) (kk : G x z nL (pc + 3) lv (.int (mnI a b) :: st) M) : G x z nL pc lv (.int b :: .int a :: st) M := by
  obtain ⟨p, l, e, R, s, m, args, below, meth, c, cells, slots, Q⟩ := x
  obtain ⟨hx, hb, hown, hts, hK, hD, hZ, hml, hr1, hr2, hr3, hr4⟩ := hc
  intro H locs ls hl hP hS
  exact va_mmin hx hb (by rw [hl.1]; exact hml) hown (hts _ hlk) (hts _ h1) (hts _ h2) (hts _ h3) (Nat.le_trans h4 hr1) (by have : 33 * 1 ≤ 33 * lvl := Nat.mul_le_mul_left 33 h4; omega) hr3 hr4 hd (kk H locs ls hl hP hS)
theorem g_mabs (hc : okc x z cc own nL lvl) {idx : Nat} {a : Int32} (hlk : Cond.methodLink own idx Lib.Math.abs.name ∈ tbG) (h1 : Cond.static Lib.Math.abs.name ∈ tbG) (h2 : Cond.initialized "java/lang/Math" ∈ tbG) (h3 : Cond.code Lib.Math.abs.name Lib.Math.abs.code 1 (some .int) ∈ tbG) (h4 : 1 ≤ lvl) (h5 : (st.map fun v => v.category).sum ≤ 8) (hd : decode cc pc = .ok (.invokestatic idx, 3)) (kk : G x z nL (pc + 3) lv (.int (abI a) :: st) M) : G x z nL pc lv (.int a :: st) M := by
  obtain ⟨p, l, e, R, s, m, args, below, meth, c, cells, slots, Q⟩ := x
  obtain ⟨hx, hb, hown, hts, hK, hD, hZ, hml, hr1, hr2, hr3, hr4⟩ := hc
  intro H locs ls hl hP hS
  exact va_mabs hx hb (by rw [hl.1]; exact hml) hown (hts _ hlk) (hts _ h1) (hts _ h2) (hts _ h3) (Nat.le_trans h4 hr1) (by have : 33 * 1 ≤ 33 * lvl := Nat.mul_le_mul_left 33 h4; omega) hr3 hr4 hd (kk H locs ls hl hP hS)
theorem g_mminL (hc : okc x z cc own nL lvl) {idx : Nat} {a b : Int64} (hlk : Cond.methodLink own idx Lib.MathLoose.min_long.x ∈ tbG) (h1 : Cond.static Lib.MathLoose.min_long.x ∈ tbG) (h2 : Cond.initialized "java/lang/Math" ∈ tbG) (h3 : Cond.code Lib.MathLoose.min_long.x Lib.MathLoose.min_long.code 4 (some .long) ∈ tbG) (h4 : 1 ≤ lvl) (h5 : (st.map fun v => v.category).sum ≤ 8) (hd : decode cc pc = .ok (.invokestatic idx, 3)) (kk : G x z nL (pc + 3) lv (.long (mnL a b) :: st) M) : G x z nL pc lv (.long b :: .long a :: st) M := by
  obtain ⟨p, l, e, R, s, m, args, below, meth, c, cells, slots, Q⟩ := x
  obtain ⟨hx, hb, hown, hts, hK, hD, hZ, hml, hr1, hr2, hr3, hr4⟩ := hc
  intro H locs ls hl hP hS
  exact va_mmin_long hx hb (by rw [hl.1]; exact hml) hown (hts _ hlk) (hts _ h1) (hts _ h2) (hts _ h3) (Nat.le_trans h4 hr1) (by have : 33 * 1 ≤ 33 * lvl := Nat.mul_le_mul_left 33 h4; omega) hr3 hr4 hd (kk H locs ls hl hP hS)
end GR
/-- what the tables say of a method that is called on an object -/
def MtV (y : MethodName) (bytes : ByteArray) (maxL : Nat) (ret : Option FieldType) (n : Nat) : Prop :=
  Cond.instanceMethod y ∈ tbG ∧ Cond.selects y.cls y y ∈ tbG ∧ Cond.initialized y.cls ∈ tbG ∧ Cond.code y bytes maxL ret ∈ tbG ∧ (y.cls ≠ "java/lang/invoke/MethodHandle" ∧ y.cls ≠ "java/lang/invoke/VarHandle") ∧ (parseMethodDescriptor y.desc).map (fun d => d.parameters.length) = some n
def MtS (y : MethodName) (bytes : ByteArray) (maxL : Nat) (ret : Option FieldType) (n : Nat) : Prop :=
  Cond.static y ∈ tbG ∧ Cond.initialized y.cls ∈ tbG ∧ Cond.code y bytes maxL ret ∈ tbG ∧ (y.cls ≠ "java/lang/invoke/MethodHandle" ∧ y.cls ≠ "java/lang/invoke/VarHandle") ∧ (parseMethodDescriptor y.desc).map (fun d => d.parameters.length) = some n
theorem Wz.blind (z : Lay) (M : Mem) (as : List Value) : FrameBlind (fun va U => va = as.toArray ∧ Wz z M U) := by
  intro a U g mk h
  obtain ⟨h0, h1, h2, h3, h4⟩ := h
  exact ⟨h0, h1, va_K.moved (u := U) (U := U.calling g mk a) (Vm.Alike.refl U.vm) h2, h3, Sz.moved (u := U) (U := U.calling g mk a) (Vm.Alike.refl U.vm) h4⟩
theorem Wz.at {z : Lay} {M : Mem} {s : State} {H : Heap} {locs : List Loc} (hK : va_K z.1 vwCl (tysZ z) s) (hD : Dz z) (hZ : Sz z s s.heap) (hP : va_P z.1 vwCl (wd z M) H) (hS : va_S (Az z) s.heap H locs) {U : State} (hU : U.heap = H) (hW : s.WarmedH U.vm) : Wz z M U :=
  ⟨by rw [hU]; exact hP, va_K.moved hW.alike hK, hD, by rw [hU]; exact Sz.moved hW.alike (hZ.kept (fun a h1 h2 => hS.2.1 a h1 h2))⟩
theorem G.run {p : Program} {l : Launch} {e : Env} {R : Room} {s : State} {m : MethodId} {args : Array Value} {below : List Frame} {meth : Method} {c : Code} {cells slots : Nat} {Q : State → Prop} {z : Lay} {nL pc : Nat} {lv : List (Nat × Value)} {st st0 : List Value} {M' : Mem} {v : Option Value} {a : Array Value}
    {H : Heap} {locs : List Loc} {ls : Array Slot} (hr : va_Run p l e R s m args below meth c H locs cells slots 0 0 (F0 m pc ls st0) st (RQ z v M' a) (Az z)) (hl : lv_has ls nL lv) (hS : va_S (Az z) s.heap H locs)
    (kk : G (p, l, e, R, s, m, args, below, meth, c, cells, slots, Q) z nL (pc + 3) lv (v.toList ++ st) M') : W p l e R s m args below meth c H locs cells slots Q (F0 m pc ls st0) := by
  intro T hT X
  obtain ⟨v', st₀, t, T', L, h0, X', hL, e1, e2, ⟨hv, hp, hz, hk⟩, stp⟩ := hr T hT X
  cases hv
  rw [h0] at hz hk
  obtain ⟨t2, a1, b1⟩ := kk T'.heap (locs ++ L) ls hl (by rw [e1]; exact hp)
    ⟨Nat.le_trans hS.1 (by rw [e1]; exact hz), fun q h1 h2 => by rw [e1, hk q (Nat.lt_of_lt_of_le h1 hS.1) h2]; exact hS.2.1 q h1 h2, fun q hq => by
      rcases List.mem_append.mp hq with h | h
      · exact hS.2.2 q h
      · exact hL q h⟩ T' rfl X'
  exact ⟨t2, stp t2 a1, b1⟩
section GC
variable {x : Cx} {z : Lay} {cc : ByteArray} {own : String} {nL lvl pc : Nat} {lv : List (Nat × Value)} {st : List Value} {M : Mem}
theorem g_callV (hc : okc x z cc own nL lvl) {y : MethodName} {bytes : ByteArray} {maxL : Nat} {ret : Option FieldType} {n k' idx k ci : Nat} {fs : List (Option Nat)} {T : u_T} {N : Nat} {v : Option Value} {M' : Mem} (As : List Value) (stk : List Value) (hs : shp[k]? = some (.inr (ci, fs))) (hcl : vwCl[ci]? = some (y.cls, T, N)) (mt : MtV y bytes maxL ret n) (hlk : Cond.methodLink own idx y ∈ tbG) (hk : k' < lvl) (hm : maxL ≤ 14) (hn : As.length = n) (hst : stk = As.reverse ++ .ref (z.2.1 k) :: st) (h8 : (st.map fun v => v.category).sum ≤ 8) (hd : decode cc pc = .ok (.invokevirtual idx, 3)) (hM : Con x.2.1 z y bytes maxL ret k' (.ref (z.2.1 k) :: As) M v M') (kk : G x z nL (pc + 3) lv (v.toList ++ st) M') : G x z nL pc lv stk M := by
  obtain ⟨p, l, e, R, s, m, args, below, meth, c, cells, slots, Q⟩ := x
  obtain ⟨hx, hb, hown, hts, hK, hD, hZ, hml, hr1, hr2, hr3, hr4⟩ := hc
  intro H locs ls hl hP hS
  subst hst
  obtain ⟨t1, t2, t3, t4, t5, t6⟩ := mt
  have hq : ∀ sig, parseMethodDescriptor y.desc = some sig → n = sig.parameters.length := fun sig h => by rw [h] at t6; exact (Option.some.inj t6).symm
  have h33 : 33 * (k' + 1) ≤ 33 * lvl := Nat.mul_le_mul_left 33 hk
  exact G.run (va_runV (As := As) (rest := st) (n := n) ⟨hx, hb, hml, hown, hts⟩ hM ⟨⟨rfl, rfl, Nat.le_trans hk hr1, by show 8 + (maxL + 11) + 33 * k' ≤ _; omega, pay_in hts (tbG_good t4), List.mem_cons_self, hts _ t4, hts _ t3, t5, hq, hts _ hlk⟩, hts _ t1, hts _ t2⟩ ⟨Wz.blind z M _, va_recv hK hP (ci := ci) (q0 := k) hcl (wd_at hs), fun U hU hW => ⟨rfl, Wz.at hK hD hZ hP hS hU hW⟩⟩ rfl hn hl.1 rfl (lv_room h8) hd ⟨by omega, by omega⟩) hl hS kk
theorem g_callS (hc : okc x z cc own nL lvl) {y : MethodName} {bytes : ByteArray} {maxL : Nat} {ret : Option FieldType} {n k' idx : Nat} {v : Option Value} {M' : Mem} (As : List Value) (stk : List Value) (mt : MtS y bytes maxL ret n) (hlk : Cond.methodLink own idx y ∈ tbG) (hk : k' < lvl) (hm : maxL ≤ 14) (hn : As.length = n) (hst : stk = As.reverse ++ st) (h8 : (st.map fun v => v.category).sum ≤ 8) (hd : decode cc pc = .ok (.invokestatic idx, 3)) (hM : Con x.2.1 z y bytes maxL ret k' As M v M') (kk : G x z nL (pc + 3) lv (v.toList ++ st) M') : G x z nL pc lv stk M := by
  obtain ⟨p, l, e, R, s, m, args, below, meth, c, cells, slots, Q⟩ := x
  obtain ⟨hx, hb, hown, hts, hK, hD, hZ, hml, hr1, hr2, hr3, hr4⟩ := hc
  intro H locs ls hl hP hS
  subst hst
  obtain ⟨t1, t3, t4, t5, t6⟩ := mt
  have hq : ∀ sig, parseMethodDescriptor y.desc = some sig → n = sig.parameters.length := fun sig h => by rw [h] at t6; exact (Option.some.inj t6).symm
  have h33 : 33 * (k' + 1) ≤ 33 * lvl := Nat.mul_le_mul_left 33 hk
  exact G.run (va_runS (As := As) (rest := st) (n := n) ⟨hx, hb, hml, hown, hts⟩ hM ⟨⟨rfl, rfl, Nat.le_trans hk hr1, by show 8 + (maxL + 11) + 33 * k' ≤ _; omega, pay_in hts (tbG_good t4), List.mem_cons_self, hts _ t4, hts _ t3, t5, hq, hts _ hlk⟩, hts _ t1⟩ ⟨Wz.blind z M _, fun U hU hW => ⟨rfl, Wz.at hK hD hZ hP hS hU hW⟩⟩ rfl hn hl.1 rfl (lv_room h8) hd ⟨by omega, by omega⟩) hl hS kk
/-- fewer locals are remembered, or in another order -/
theorem g_weak (ks : List Nat) (lv' : List (Nat × Value)) (h : lv_pick lv ks = lv') (kk : G x z nL pc lv' st M) : G x z nL pc lv st M := by
  obtain ⟨p, l, e, R, s, m, args, below, meth, c, cells, slots, Q⟩ := x
  intro H locs ls hl hP hS
  exact kk H locs ls (lv_sub hl ks h) hP hS
theorem g_iret {ret : Option FieldType} {ρ : Type} {o : Option ρ} {r : ρ} {val : ρ → Int32} {mem : ρ → Mem} (hc : okm x z cc own nL lvl ret (some (.int (val r))) (mem r)) (hret : ret = some .int) (hd : decode cc pc = .ok (.ireturn, 1)) (h : o = some r) {a : Int32} (h1 : ∀ r, o = some r → val r = a ∧ mem r = M) : G x z nL pc lv [.int a] M := by
  obtain ⟨h2, h3⟩ := h1 r h
  subst h2; subst h3
  obtain ⟨p, l, e, R, s, m, args, below, meth, c, cells, slots, Q⟩ := x
  obtain ⟨⟨hx, hb, hown, hts, hK, hD, hZ, hml, hr1, hr2, hr3, hr4⟩, hr, hlocks, rfl, rfl, rfl⟩ := hc
  intro H locs ls hl hP hS
  exact W.iret hx hb (hr.trans hret) (fun t ht hW => ⟨rfl, by rw [ht]; exact hP, hS.F ht⟩) hS.2.2 hd
theorem g_zret {ret : Option FieldType} {ρ : Type} {o : Option ρ} {r : ρ} {val : ρ → Int32} {mem : ρ → Mem} (hc : okm x z cc own nL lvl ret (some (.int (val r))) (mem r)) (hret : ret = some .boolean) (hd : decode cc pc = .ok (.ireturn, 1)) (h : o = some r) {a : Int32} (h1 : ∀ r, o = some r → val r = a ∧ mem r = M) (ha : isB a = true) : G x z nL pc lv [.int a] M := by
  obtain ⟨h2, h3⟩ := h1 r h
  subst h2; subst h3
  obtain ⟨p, l, e, R, s, m, args, below, meth, c, cells, slots, Q⟩ := x
  obtain ⟨⟨hx, hb, hown, hts, hK, hD, hZ, hml, hr1, hr2, hr3, hr4⟩, hr, hlocks, rfl, rfl, rfl⟩ := hc
  intro H locs ls hl hP hS
  exact W.zret hx hb (hr.trans hret) (isB_n ha) (fun t ht hW => ⟨rfl, by rw [ht]; exact hP, hS.F ht⟩) hS.2.2 hd
theorem g_lret {ret : Option FieldType} {ρ : Type} {o : Option ρ} {r : ρ} {val : ρ → Int64} {mem : ρ → Mem} (hc : okm x z cc own nL lvl ret (some (.long (val r))) (mem r)) (hret : ret = some .long) (hd : decode cc pc = .ok (.lreturn, 1)) (h : o = some r) {a : Int64} (h1 : ∀ r, o = some r → val r = a ∧ mem r = M) : G x z nL pc lv [.long a] M := by
  obtain ⟨h2, h3⟩ := h1 r h
  subst h2; subst h3
  obtain ⟨p, l, e, R, s, m, args, below, meth, c, cells, slots, Q⟩ := x
  obtain ⟨⟨hx, hb, hown, hts, hK, hD, hZ, hml, hr1, hr2, hr3, hr4⟩, hr, hlocks, rfl, rfl, rfl⟩ := hc
  intro H locs ls hl hP hS
  exact W.lret hx hb (hr.trans hret) (fun t ht hW => ⟨rfl, by rw [ht]; exact hP, hS.F ht⟩) hS.2.2 hd
theorem g_vret {ret : Option FieldType} {ρ : Type} {o : Option ρ} {r : ρ} {mem : ρ → Mem} (hc : okm x z cc own nL lvl ret none (mem r)) (hret : ret = none) (hd : decode cc pc = .ok (.return_, 1)) (h : o = some r) (h1 : ∀ r, o = some r → mem r = M) : G x z nL pc lv [] M := by
  have h3 := h1 r h
  subst h3
  obtain ⟨p, l, e, R, s, m, args, below, meth, c, cells, slots, Q⟩ := x
  obtain ⟨⟨hx, hb, hown, hts, hK, hD, hZ, hml, hr1, hr2, hr3, hr4⟩, hr, hlocks, rfl, rfl, rfl⟩ := hc
  intro H locs ls hl hP hS
  exact W.vret hx hb (hr.trans hret) (fun t ht hW => ⟨rfl, by rw [ht]; exact hP, hS.F ht⟩) hS.2.2 hd
theorem g_aret {ret : Option FieldType} {ρ : Type} {o : Option ρ} {r : ρ} {val : ρ → Nat} {mem : ρ → Mem} {C : String} (hc : okm x z cc own nL lvl ret (some (.ref (z.2.1 (val r)))) (mem r)) (hret : ret = some (.object C)) (hd : decode cc pc = .ok (.areturn, 1)) (h : o = some r) {a : Nat} (h1 : ∀ r, o = some r → val r = a ∧ mem r = M) : G x z nL pc lv [.ref (z.2.1 a)] M := by
  obtain ⟨h2, h3⟩ := h1 r h
  subst h2; subst h3
  obtain ⟨p, l, e, R, s, m, args, below, meth, c, cells, slots, Q⟩ := x
  obtain ⟨⟨hx, hb, hown, hts, hK, hD, hZ, hml, hr1, hr2, hr3, hr4⟩, hr, hlocks, rfl, rfl, rfl⟩ := hc
  intro H locs ls hl hP hS
  exact W.aret hx hb (hr.trans hret) (Or.inl ⟨_, rfl⟩) (Or.inr ⟨_, rfl⟩) (fun t ht hW => ⟨rfl, by rw [ht]; exact hP, hS.F ht⟩) hS.2.2 hd
end GC
