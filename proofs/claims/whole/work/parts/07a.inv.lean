/-! LEVEL 2: the invariant between the class's cells (0..50) and the reference's (51..92) -/
theorem upI_get (M : Mem) (k i : Nat) (v : Int32) (q : Nat) : (upI M k i v).1 q = if q = k then upd (M.1 k) i v else M.1 q := by
  by_cases h : q = k
  · rw [if_pos h, h, upI_row]
  · rw [if_neg h, upI_ne M i v h]
theorem upd_get (f : Nat → Int32) (k : Nat) (x : Int32) (j : Nat) : upd f k x j = if j = k then x else f j := rfl
theorem ixN {j : Nat} (h : j < 2 ^ 31) : ix (nI j) = j := nI_clamp h
theorem inN {j n : Nat} (h : j < n) (hn : n < 2 ^ 31) : inB (nI j) n = true := inB_of (vp_in_nI h hn)
/-- a number between -/
def rg (x : Int32) (a b : Int) : Prop := a ≤ x.toInt ∧ x.toInt ≤ b
theorem rg_nI {n : Nat} {a b : Int} (h : n < 2 ^ 31) (h1 : a ≤ n) (h2 : (n : Int) ≤ b) : rg (nI n) a b := by
  unfold rg; rw [nI_toInt h]; exact ⟨h1, h2⟩
theorem rg_of {x : Int32} {b : Nat} (h : rg x 0 b) : ∃ m : Nat, m ≤ b ∧ x = nI m := by
  refine ⟨x.toInt.toNat, by have := h.1; have := h.2; omega, ?_⟩
  apply Int32.toInt_inj.mp
  have h3 := h.1
  have h4 : x.toInt < 2147483648 := by have := Int32.toInt_lt x; omega
  rw [nI_toInt (by omega)]
  omega
/-- how many of the first n have p -/
def cnt (p : Nat → Bool) : Nat → Nat
  | 0 => 0
  | n + 1 => cnt p n + (if p n then 1 else 0)
theorem cnt_le (p : Nat → Bool) : ∀ n, cnt p n ≤ n
  | 0 => Nat.le_refl 0
  | n + 1 => by have := cnt_le p n; simp only [cnt]; split <;> omega
theorem cnt_cong {p q : Nat → Bool} : ∀ {n : Nat}, (∀ i, i < n → p i = q i) → cnt p n = cnt q n
  | 0, _ => rfl
  | n + 1, h => by simp only [cnt]; rw [cnt_cong (fun i hi => h i (by omega)), h n (by omega)]
/-- since when a rule is noted: down the looks -/
def since (la ld nt : Nat → Int32) (e r : Int32) : Nat → Int32 → Int32
  | 0, t => t
  | k + 1, t => if la k = e then (if nt k = r then since la ld nt e r k (ld k) else t) else since la ld nt e r k t
/-- one job put into its place among those ahead of it, by dues -/
def insF (du : Nat → Int32) (j : Nat) : Nat → (Nat → Int32) → (Nat → Int32)
  | 0, f => upd f 0 (nI j)
  | p + 1, f => if du j < du (ix (f p)) then insF du j p (upd f (p + 1) (f p)) else upd f (p + 1) (nI j)
def ordF (du : Nat → Int32) : Nat → (Nat → Int32) → (Nat → Int32)
  | 0, f => f
  | j + 1, f => insF du j j (ordF du j f)
def Gref (M : Mem) : Prop := M.1 1 = M.1 52
def Gset (M : Mem) : Prop := (M.1 2 0 = M.1 51 13 ∧ M.1 2 1 = M.1 51 14 ∧ M.1 2 2 = M.1 51 15 ∧ M.1 2 3 = M.1 51 16) ∧ rg (M.1 51 14) 10 60 ∧ rg (M.1 51 15) 0 200
def Gday (M : Mem) (d : Nat) : Prop := (M.1 0 0 = nI d ∧ M.1 51 4 = nI d ∧ d ≤ 1000) ∧ (M.1 5 = M.1 53 ∧ M.1 7 = M.1 54) ∧ (M.1 4 0 = 99 ∧ M.1 4 1 = 30 ∧ M.1 6 0 = 40 ∧ M.1 6 1 = 10) ∧ ∀ i, i ≤ 1000 → rg (M.1 53 i) (-1) 99 ∧ rg (M.1 54 i) (-1) 40
def Ggro (M : Mem) : Prop := M.1 3 = M.1 55 ∧ ∀ i, i < 4 → rg (M.1 55 i) 0 50
def Gdef (M : Mem) (d n k : Nat) : Prop := (M.1 8 0 = nI n ∧ M.1 51 5 = nI n ∧ n ≤ 40) ∧ (M.1 8 1 = nI k ∧ M.1 51 6 = nI k ∧ k ≤ 120) ∧ M.1 8 2 = M.1 51 7 ∧ (M.1 9 = M.1 56 ∧ M.1 10 = M.1 57 ∧ M.1 11 = M.1 58 ∧ M.1 12 = M.1 59 ∧ M.1 13 = M.1 63 ∧ M.1 14 = M.1 61 ∧ M.1 15 = M.1 62) ∧
  ∀ i, i < n → rg (M.1 56 i) 0 19 ∧ rg (M.1 57 i) 0 1759 ∧ rg (M.1 59 i) 0 3 ∧ 0 ≤ (M.1 61 i).toInt ∧ (M.1 61 i).toInt ≤ (M.1 62 i).toInt ∧ (M.1 62 i).toInt ≤ 1049 + 75 * d
def Gdue (M : Mem) (n k : Nat) : Prop := (∀ i, i < k → rg (M.1 64 i) 0 (n - 1)) ∧ (∀ e, e < 40 → rg (M.1 17 e) 0 1000) ∧ ∀ e, e < n → ∀ r : Int32, ¬ r = -9 → ∀ t : Int32, since (M.1 64) (M.1 65) (M.1 66) (nI e) r k t = if M.1 16 e = r then M.1 17 e else t
def Gcrk (M : Mem) (n : Nat) : Prop := (M.1 50 = M.1 78 ∧ ∀ i, i < 20 → rg (M.1 78 i) 0 5) ∧ ∀ i, i < 6 → M.1 49 i = nI (cnt (fun e => decide (M.1 59 e = 3) && decide (M.1 60 e = nI i)) n)
def Grai (M : Mem) : Prop := M.1 48 = M.1 77
def Grul (M : Mem) (q : Nat) : Prop := (M.1 18 0 = nI q ∧ M.1 51 8 = nI q ∧ q ≤ 30) ∧ (M.1 19 = M.1 70 ∧ M.1 20 = M.1 71 ∧ M.1 21 = M.1 67 ∧ M.1 22 = M.1 68 ∧ M.1 23 = M.1 69) ∧ ∀ i, i < q → rg (M.1 70 i) 0 3 ∧ rg (M.1 71 i) 0 60
def Gslo (M : Mem) : Prop := M.1 25 = M.1 72 ∧ M.1 24 0 = M.1 51 9 ∧ ∀ i, i < 20 → rg (M.1 72 i) 0 30
def Gtra (M : Mem) (t : Nat) : Prop := (M.1 26 0 = nI t ∧ M.1 51 10 = nI t ∧ t ≤ 24) ∧ (M.1 27 = M.1 79 ∧ M.1 28 = M.1 80) ∧ ∀ i, i < t → rg (M.1 79 i) 0 1439 ∧ rg (M.1 80 i) 1 9
def Gwal (M : Mem) : Prop := M.1 29 = M.1 73
def Gfin (M : Mem) : Prop := (M.1 32 = M.1 74 ∧ M.1 33 = M.1 75 ∧ M.1 34 = M.1 76) ∧ ∀ i, i < 20 → rg (M.1 74 i) 0 99 ∧ rg (M.1 75 i) 0 99 ∧ rg (M.1 76 i) 0 99
def Glin (M : Mem) (l : Nat) : Prop := (M.1 35 0 = nI l ∧ M.1 51 11 = nI l ∧ l ≤ 8) ∧ (M.1 36 = M.1 81 ∧ M.1 37 = M.1 82 ∧ M.1 38 = M.1 83) ∧ ∀ i, i < l → rg (M.1 82 i) 0 1759
def Ggan (M : Mem) (j : Nat) : Prop := (M.1 41 0 = nI j ∧ M.1 51 12 = nI j ∧ j ≤ 8) ∧ (M.1 42 = M.1 87 ∧ M.1 43 = M.1 84 ∧ M.1 44 = M.1 85 ∧ M.1 45 = M.1 86) ∧ (∀ i, i < j → rg (M.1 84 i) 1 40 ∧ rg (M.1 85 i) 0 400) ∧ ∀ i, i < j → M.1 46 i = ordF (M.1 85) j (fun _ => 0) i
def Inv (M : Mem) : Prop := ∃ d n k q t l j : Nat, Gref M ∧ Gset M ∧ Gday M d ∧ Ggro M ∧ Gdef M d n k ∧ Gdue M n k ∧ Gcrk M n ∧ Grai M ∧ Grul M q ∧ Gslo M ∧ Gtra M t ∧ Gwal M ∧ Gfin M ∧ Glin M l ∧ Ggan M j
/-! what is to be shown of a call -/
def Fin (r : Int32) (o : Option (Int32 × Mem)) : Prop := ∃ M2, o = some (r, M2) ∧ Inv M2
def Eqv (o : Option (Int32 × Mem)) (f : Mem → Option (Int32 × Mem)) : Prop := ∃ r M1, o = some (r, M1) ∧ Fin r (f M1)
theorem Eqv_some {r : Int32} {M1 : Mem} {f : Mem → Option (Int32 × Mem)} (h : Fin r (f M1)) : Eqv (some (r, M1)) f := ⟨r, M1, rfl, h⟩
theorem Eqv_ite {c : Prop} [Decidable c] {A B : Option (Int32 × Mem)} {f : Mem → Option (Int32 × Mem)} (h1 : c → Eqv A f) (h2 : ¬ c → Eqv B f) : Eqv (if c then A else B) f := by
  by_cases h : c
  · rw [if_pos h]; exact h1 h
  · rw [if_neg h]; exact h2 h
theorem Fin_some {r : Int32} {M2 : Mem} (h : Inv M2) : Fin r (some (r, M2)) := ⟨M2, rfl, h⟩
theorem Fin_eq {r s : Int32} {M2 : Mem} (e : s = r) (h : Inv M2) : Fin r (some (s, M2)) := by subst e; exact ⟨M2, rfl, h⟩
/-! small helpers of both, as tests in the caller's own words -/
section HB
variable {α : Type} (f : Int32 → Option α)
theorem b_isDay (v : Int32) : (xX9_isDay v).bind f = if v < 0 then f 0 else if 1000 < v then f 0 else f 1 := by
  unfold xX9_isDay; split
  · rfl
  · split <;> rfl
theorem b_isKind (v : Int32) : (xX9_isKind v).bind f = if v < 0 then f 0 else if v < 4 then f 1 else f 0 := by
  unfold xX9_isKind; split
  · rfl
  · split <;> rfl
theorem b_isMile (v : Int32) : (xX9_isMile v).bind f = if v < 0 then f 0 else if v < 20 then f 1 else f 0 := by
  unfold xX9_isMile; split
  · rfl
  · split <;> rfl
theorem b_isDefect (M : Mem) (v : Int32) : (xX9_isDefect M v).bind f = if v < 0 then f 0 else if v < M.1 8 0 then f 1 else f 0 := by
  unfold xX9_isDefect; split
  · rfl
  · split <;> rfl
theorem b_isIn (v w : Int32) : (xX10_isIn v w).bind f = if v < 0 then f 0 else if v < w then f 1 else f 0 := by
  unfold xX10_isIn; split
  · rfl
  · split <;> rfl
theorem b_wrong (v lo hi : Int32) : (xX10_wrong v lo hi).bind f = if v < lo then f (-4) else if hi < v then f (-6) else f 0 := by
  unfold xX10_wrong; split
  · rfl
  · split <;> rfl
theorem b_isMile10 (v : Int32) : (xX10_isMile v).bind f = if v < 0 then f 0 else if v < 20 then f 1 else f 0 := by
  unfold xX10_isMile; rw [b_isIn]; split
  · rfl
  · split <;> rfl
theorem b_isDefect10 (M : Mem) (v : Int32) : (xX10_isDefect M v).bind f = if v < 0 then f 0 else if v < M.1 51 5 then f 1 else f 0 := by
  unfold xX10_isDefect; rw [b_isIn]; split
  · rfl
  · split <;> rfl
end HB
theorem some_b {α β : Type} (a : α) (f : α → Option β) : (some a).bind f = f a := rfl
theorem r9_1 (M : Mem) : xX9_refuse M (-1) = some (-1, upI M 1 1 (M.1 1 1 + 1)) := rfl
theorem r9_2 (M : Mem) : xX9_refuse M (-2) = some (-2, upI M 1 2 (M.1 1 2 + 1)) := rfl
theorem r9_3 (M : Mem) : xX9_refuse M (-3) = some (-3, upI M 1 3 (M.1 1 3 + 1)) := rfl
theorem r9_4 (M : Mem) : xX9_refuse M (-4) = some (-4, upI M 1 4 (M.1 1 4 + 1)) := rfl
theorem r9_6 (M : Mem) : xX9_refuse M (-6) = some (-6, upI M 1 6 (M.1 1 6 + 1)) := rfl
theorem r10_1 (M : Mem) : xX10_refuse M (-1) = some (-1, upI M 52 1 (M.1 52 1 + 1)) := rfl
theorem r10_2 (M : Mem) : xX10_refuse M (-2) = some (-2, upI M 52 2 (M.1 52 2 + 1)) := rfl
theorem r10_3 (M : Mem) : xX10_refuse M (-3) = some (-3, upI M 52 3 (M.1 52 3 + 1)) := rfl
theorem r10_4 (M : Mem) : xX10_refuse M (-4) = some (-4, upI M 52 4 (M.1 52 4 + 1)) := rfl
theorem r10_6 (M : Mem) : xX10_refuse M (-6) = some (-6, upI M 52 6 (M.1 52 6 + 1)) := rfl
theorem Inv_ref {M : Mem} (h : Inv M) (c : Nat) : Inv (upI (upI M 1 c (M.1 1 c + 1)) 52 c ((upI M 1 c (M.1 1 c + 1)).1 52 c + 1)) := by
  obtain ⟨d, n, k, q, t, l, j, h1, h2, h3, h4, h5, h6, h7, h8, h9, h10, h11, h12, h13, h14, h15⟩ := h
  refine ⟨d, n, k, q, t, l, j, ?_, h2, h3, h4, h5, h6, h7, h8, h9, h10, h11, h12, h13, h14, h15⟩
  show upd (M.1 1) c (M.1 1 c + 1) = upd (M.1 52) c (M.1 52 c + 1)
  rw [show M.1 1 = M.1 52 from h1]
/-! comparisons of 32-bit numbers, as whole numbers -/
theorem lt_i (a b : Int32) : a < b ↔ a.toInt < b.toInt := Int32.lt_iff_toInt_lt
theorem le_i (a b : Int32) : a ≤ b ↔ a.toInt ≤ b.toInt := Int32.le_iff_toInt_le
theorem eq_i (a b : Int32) : a = b ↔ a.toInt = b.toInt := Int32.toInt_inj.symm
theorem n_lt2 (v : Int32) : (v < 2) = ¬ (1 < v) := by rw [lt_i, lt_i]; exact propext (by rw [show (2 : Int32).toInt = 2 from rfl, show (1 : Int32).toInt = 1 from rfl]; omega)
theorem n_lt3 (v : Int32) : (v < 3) = ¬ (2 < v) := by rw [lt_i, lt_i]; exact propext (by rw [show (3 : Int32).toInt = 3 from rfl, show (2 : Int32).toInt = 2 from rfl]; omega)
theorem n_lt4 (v : Int32) : (v < 4) = ¬ (3 < v) := by rw [lt_i, lt_i]; exact propext (by rw [show (4 : Int32).toInt = 4 from rfl, show (3 : Int32).toInt = 3 from rfl]; omega)
theorem n_lt6 (v : Int32) : (v < 6) = ¬ (5 < v) := by rw [lt_i, lt_i]; exact propext (by rw [show (6 : Int32).toInt = 6 from rfl, show (5 : Int32).toInt = 5 from rfl]; omega)
theorem n_lt1001 (v : Int32) : (v < 1001) = ¬ (1000 < v) := by rw [lt_i, lt_i]; exact propext (by rw [show (1001 : Int32).toInt = 1001 from rfl, show (1000 : Int32).toInt = 1000 from rfl]; omega)
theorem n_lt1440 (v : Int32) : (v < 1440) = ¬ (1439 < v) := by rw [lt_i, lt_i]; exact propext (by rw [show (1440 : Int32).toInt = 1440 from rfl, show (1439 : Int32).toInt = 1439 from rfl]; omega)
