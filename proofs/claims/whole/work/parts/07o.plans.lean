/-! the model's scratch of plans: order, busy hours, best way -/
def PS (M : Mem) (f g : Nat → Int32) (a b c : Int32) : Mem := sR (sR (sR M 51 (upd (upd (upd (M.1 51) 55 a) 56 b) 57 c)) 91 f) 92 g
theorem PS_inv {M : Mem} {f g : Nat → Int32} {a b c : Int32} (h : Inv M) : Inv (PS M f g a b c) := h
theorem PS_91 (M : Mem) (f g : Nat → Int32) (a b c : Int32) (i : Nat) (v : Int32) : upI (PS M f g a b c) 91 i v = PS M (upd f i v) g a b c := by
  rw [upI_sR]
  show sR (PS M f g a b c) 91 (upd f i v) = _
  unfold PS
  rw [sR_comm _ _ _ (by decide), sR_sR]
theorem PS_92 (M : Mem) (f g : Nat → Int32) (a b c : Int32) (i : Nat) (v : Int32) : upI (PS M f g a b c) 92 i v = PS M f (upd g i v) a b c := by
  rw [upI_sR]
  show sR (PS M f g a b c) 92 (upd g i v) = _
  unfold PS
  rw [sR_sR]
theorem PS_51 (M : Mem) (f g : Nat → Int32) (a b c : Int32) (r : Nat → Int32) : sR (PS M f g a b c) 51 r = sR (sR (sR M 51 r) 91 f) 92 g := by
  unfold PS
  rw [sR_comm _ _ _ (show (92 : Nat) ≠ 51 by decide), sR_comm _ _ _ (show (91 : Nat) ≠ 51 by decide), sR_sR]
theorem PS_51a (M : Mem) (f g : Nat → Int32) (a b c a' : Int32) : upI (PS M f g a b c) 51 55 a' = PS M f g a' b c := by
  rw [upI_sR, PS_51]
  unfold PS
  congr 3
  funext e
  show upd (upd (upd (upd (M.1 51) 55 a) 56 b) 57 c) 55 a' e = _
  simp only [upd_get]
  by_cases h1 : e = 55
  · subst h1; rfl
  · simp only [if_neg h1]
theorem PS_51b (M : Mem) (f g : Nat → Int32) (a b c b' : Int32) : upI (PS M f g a b c) 51 56 b' = PS M f g a b' c := by
  rw [upI_sR, PS_51]
  unfold PS
  congr 3
  funext e
  show upd (upd (upd (upd (M.1 51) 55 a) 56 b) 57 c) 56 b' e = _
  simp only [upd_get]
  by_cases h1 : e = 56
  · subst h1; rfl
  · simp only [if_neg h1]
theorem PS_51c (M : Mem) (f g : Nat → Int32) (a b c c' : Int32) : upI (PS M f g a b c) 51 57 c' = PS M f g a b c' := by
  rw [upI_sR, PS_51]
  unfold PS
  congr 3
  funext e
  show upd (upd (upd (upd (M.1 51) 55 a) 56 b) 57 c) 57 c' e = _
  simp only [upd_get]
  by_cases h1 : e = 57
  · subst h1; rfl
  · simp only [if_neg h1]
theorem PS_self (M : Mem) : PS M (M.1 91) (M.1 92) (M.1 51 55) (M.1 51 56) (M.1 51 57) = M := by
  unfold PS
  rw [show upd (upd (upd (M.1 51) 55 (M.1 51 55)) 56 (M.1 51 56)) 57 (M.1 51 57) = M.1 51 from by
    funext e
    simp only [upd_get]
    split
    · rename_i h; rw [h]
    · split
      · rename_i h; rw [h]
      · split
        · rename_i h; rw [h]
        · rfl]
  rw [sR_self, sR_self, sR_self]
/-! the model puts the jobs in order -/
theorem ord10i {M : Mem} {g : Nat → Int32} {a b c : Int32} {j : Nat} (hj : j < 8) (F : Mem → Int32 → Option Mem) : ∀ (m p : Nat) (f : Nat → Int32), p ≤ j → p < m → (∀ i, i < p → ∃ e, e < 8 ∧ f i = nI e) → lX10_plans_12 F m (PS M f g a b c) (nI j) (nI p) = F (PS M (insF (M.1 85) j p f) g a b c) (nI (j + 1))
  | 0, p, f, h1, h2, h3 => absurd h2 (Nat.not_lt_zero _)
  | m + 1, 0, f, h1, h2, h3 => by
    rw [lX10_plans_12, if_neg (by decide), ck_t (inN (show 0 < 8 by omega) (by omega)), ixN (by omega), PS_91, nI_1]
    rfl
  | m + 1, p + 1, f, h1, h2, h3 => by
    obtain ⟨e, he, q⟩ := h3 p (by omega)
    rw [lX10_plans_12, if_pos (ps (by omega) (by omega)), show nI (p + 1) - 1 = nI p from pk_sub (b := 1) (by omega), ck_t (inN (show p < 8 by omega) (by omega)), ck_t (inN hj (by omega)), ixN (show p < 2 ^ 31 by omega), ixN (show p + 1 < 2 ^ 31 by omega), ixN (show j < 2 ^ 31 by omega), PS_91, PS_91, pk_m1, nI_1]
    show ck (inB (f p) 8) (if M.1 85 j < M.1 85 (ix (f p)) then ck (inB (nI (p + 1)) 8) (lX10_plans_12 F m (PS M (upd f (p + 1) (f p)) g a b c) (nI j) (nI p)) else ck (inB (nI (p + 1)) 8) (F (PS M (upd f (p + 1) (nI j)) g a b c) (nI (j + 1)))) = F (PS M (if M.1 85 j < M.1 85 (ix (f p)) then insF (M.1 85) j p (upd f (p + 1) (f p)) else upd f (p + 1) (nI j)) g a b c) (nI (j + 1))
    rw [ck_t (inN (show p + 1 < 8 by omega) (by omega)), ck_t (inN (show p + 1 < 8 by omega) (by omega)), q, ck_t (inN he (by omega))]
    by_cases d : M.1 85 j < M.1 85 (ix (nI e))
    · rw [if_pos d, if_pos d, ← q, ord10i hj F m p _ (by omega) (by omega) (fun i hi => by rw [upd_get, if_neg (by omega)]; exact h3 i (by omega))]
    · rw [if_neg d, if_neg d]
theorem ord10 {M : Mem} {g f : Nat → Int32} {a b c : Int32} {j : Nat} (hj : j ≤ 8) (e12 : M.1 51 12 = nI j) : ∀ (m i : Nat), i ≤ j → j - i < m → lX10_plans_2 m (PS M (ordF (M.1 85) i f) g a b c) (nI i) = lX10_plans_78 fu (PS M (ordF (M.1 85) j f) g (-1) b c) 0
  | 0, i, h1, h2 => absurd h2 (Nat.not_lt_zero _)
  | m + 1, i, h1, h2 => by
    rw [lX10_plans_2, show (PS M (ordF (M.1 85) i f) g a b c).1 51 12 = nI j from e12]
    by_cases h : i < j
    · rw [if_pos (nI_lt h (by omega)), ord10i (by omega) (lX10_plans_2 m) fu i _ (Nat.le_refl i) (by rw [fu_v]; omega) (fun x hx => by
        obtain ⟨e, he, q⟩ := (ord_perm (du := M.1 85) (f := f) i).1 x hx
        exact ⟨e, by omega, q⟩)]
      exact ord10 hj e12 m (i + 1) (by omega) (by omega)
    · have e : i = j := by omega
      subst e
      rw [if_neg (nI_nlt (by omega) (by omega)), PS_51a]
/-! a way to share the jobs -/
def gI (j : Nat) (w e : Int32) : Int32 := (w >>> (((nI j - 1) - e) &&& 31)) &&& 1
def gN (j w e : Nat) : Nat := ix (gI j (nI w) (nI e))
theorem gI_eq (j w e : Nat) : gI j (nI w) (nI e) = nI (gN j w e) ∧ gN j w e < 2 := by
  obtain ⟨b, hb, q⟩ := pk_andE (nI w >>> (((nI j - 1) - nI e) &&& 31)) (m := 1) 1 rfl
  have q' : gI j (nI w) (nI e) = nI b := q
  unfold gN
  rw [q', ixN (by omega)]
  exact ⟨rfl, by omega⟩
def wt (g O hr du : Nat → Nat) : Nat → Nat → Nat → Nat → Nat → Nat → Nat × Nat
  | _, 0, _, _, h, s => (h, s)
  | i, k + 1, t0, t1, h, s => if g (O i) = 0 then wt g O hr du (i + 1) k (t0 + hr (O i)) t1 (max h (t0 + hr (O i) - du (O i))) (s + (t0 + hr (O i) - du (O i))) else wt g O hr du (i + 1) k t0 (t1 + hr (O i)) (max h (t1 + hr (O i) - du (O i))) (s + (t1 + hr (O i) - du (O i)))
def Pc (M : Mem) (j : Nat) (O hr du : Nat → Nat) : Prop := j ≤ 8 ∧ (∀ i, i < j → O i < j) ∧ (∀ e, e < j → ∃ i, i < j ∧ O i = e) ∧ ∀ e, e < j → M.1 84 e = nI (hr e) ∧ hr e ≤ 40 ∧ M.1 85 e = nI (du e) ∧ du e ≤ 400
theorem wt_le {M : Mem} {j : Nat} {g O hr du : Nat → Nat} (p : Pc M j O hr du) : ∀ (k i t0 t1 h s : Nat), i + k ≤ j → t0 ≤ 40 * i → t1 ≤ 40 * i → h ≤ 40 * i → s ≤ 320 * i → (wt g O hr du i k t0 t1 h s).1 ≤ 320 ∧ (wt g O hr du i k t0 t1 h s).2 ≤ 2560
  | 0, i, t0, t1, h, s, hk, h1, h2, h3, h4 => by
    have := p.1
    exact ⟨by show h ≤ 320; omega, by show s ≤ 2560; omega⟩
  | k + 1, i, t0, t1, h, s, hk, h1, h2, h3, h4 => by
    have p1 := p.1
    have := (p.2.2.2 (O i) (p.2.1 i (by omega))).2.1
    rw [wt]
    by_cases c : g (O i) = 0
    · rw [if_pos c]
      exact wt_le p k (i + 1) _ _ _ _ (by omega) (by omega) (by omega) (by omega) (by omega)
    · rw [if_neg c]
      exact wt_le p k (i + 1) _ _ _ _ (by omega) (by omega) (by omega) (by omega) (by omega)
theorem mxS0 {a b : Nat} (ha : a < 2 ^ 30) (hb : b < 2 ^ 30) : mxI 0 (nI a - nI b) = nI (a - b) := by
  rw [eq_i, mx_i, pk_sub_toInt ha hb, nI_toInt (by omega), show (0 : Int32).toInt = 0 from rfl]
  omega
theorem nI_or {a b : Nat} (ha : a < 2 ^ 31) (hb : b < 2 ^ 31) : nI a ||| nI b = nI (a ||| b) := by
  apply Int32.toBitVec_inj.mp
  apply BitVec.eq_of_toNat_eq
  rw [Int32.toBitVec_or, BitVec.toNat_or, pk_tn (by omega), pk_tn (by omega), pk_tn (Nat.lt_of_lt_of_le (Nat.or_lt_two_pow ha hb) (by decide))]
def pkN (h s w : Nat) : Nat := h * 2 ^ 20 + s * 2 ^ 8 + w
theorem pk_pack {h s w : Nat} (hh : h ≤ 320) (hs : s ≤ 2560) (hw : w < 256) : ((nI h <<< (20 &&& 31)) ||| (nI s <<< (8 &&& 31))) ||| nI w = nI (pkN h s w) := by
  rw [show nI h <<< (20 &&& 31) = nI (h * 2 ^ 20) from pk_shlN _ 20 rfl (by omega), show nI s <<< (8 &&& 31) = nI (s * 2 ^ 8) from pk_shlN _ 8 rfl (by omega)]
  have e1 : h * 2 ^ 20 ||| s * 2 ^ 8 = h * 2 ^ 20 + s * 2 ^ 8 := by
    rw [Nat.mul_comm h, Nat.two_pow_add_eq_or_of_lt (by omega)]
  have e2 : (h * 2 ^ 20 + s * 2 ^ 8) ||| w = h * 2 ^ 20 + s * 2 ^ 8 + w := by
    rw [show h * 2 ^ 20 + s * 2 ^ 8 = 2 ^ 8 * (h * 2 ^ 12 + s) by omega, Nat.two_pow_add_eq_or_of_lt (by omega)]
  rw [nI_or (by omega) (by omega), e1, nI_or (by omega) (by omega), e2]; rfl
theorem pk_h {h s w : Nat} (hh : h ≤ 320) (hs : s ≤ 2560) (hw : w < 256) : nI (pkN h s w) >>> (20 &&& 31) = nI h ∧ (nI (pkN h s w) >>> (8 &&& 31)) &&& 4095 = nI s ∧ nI (pkN h s w) &&& 255 = nI w := by
  unfold pkN
  refine ⟨?_, ?_, ?_⟩
  · rw [pk_shrN (by omega) _ 20 rfl]; congr 1; omega
  · rw [pk_shrN (by omega) _ 8 rfl, pk_andN (by omega) 12 rfl]; congr 1; omega
  · rw [pk_andN (by omega) 8 rfl]; congr 1; omega
def C9 (M : Mem) (j : Nat) (O : Nat → Nat) : Prop := M.1 41 0 = nI j ∧ M.1 43 = M.1 84 ∧ M.1 44 = M.1 85 ∧ M.1 45 = M.1 86 ∧ M.1 42 = M.1 87 ∧ ∀ i, i < j → M.1 46 i = nI (O i)
theorem gIn9 {M : Mem} {j : Nat} {O : Nat → Nat} (c : C9 M j O) (w e : Nat) : xX3_gangIn M (nI w) (nI e) = some (nI (gN j w e)) := by
  unfold xX3_gangIn
  rw [c.1]
  exact congrArg some (gI_eq j w e).1
theorem weigh9 {M : Mem} {j : Nat} {O hr du : Nat → Nat} (p : Pc M j O hr du) (c : C9 M j O) {w : Nat} (hw : w < 256) : ∀ (f i t0 t1 h s : Nat), i ≤ j → j - i < f → t0 ≤ 40 * i → t1 ≤ 40 * i → h ≤ 40 * i → s ≤ 320 * i → lX3_weigh_13 f M (nI w) (nI t0) (nI t1) (nI h) (nI s) (nI i) = some (nI (pkN (wt (gN j w) O hr du i (j - i) t0 t1 h s).1 (wt (gN j w) O hr du i (j - i) t0 t1 h s).2 w))
  | 0, i, t0, t1, h, s, h1, h2, h3, h4, h5, h6 => absurd h2 (Nat.not_lt_zero _)
  | f + 1, i, t0, t1, h, s, h1, h2, h3, h4, h5, h6 => by
    have p1 := p.1
    rw [lX3_weigh_13, c.1]
    by_cases hi : i < j
    · have hO := p.2.1 i hi
      obtain ⟨e1, b1, e2, b2⟩ := p.2.2.2 (O i) hO
      obtain ⟨q1, q2⟩ := gI_eq j w (O i)
      rw [if_pos (nI_lt hi (by omega)), ck_t (inN (show i < 8 by omega) (by omega)), ixN (show i < 2 ^ 31 by omega), c.2.2.2.2.2 i hi, gIn9 c, some_b, ck_t (inN (show O i < 8 by omega) (by omega)), ck_t (inN (show O i < 8 by omega) (by omega)), ixN (show O i < 2 ^ 31 by omega), c.2.1, e1, nI_add, nI_add, show j - i = (j - (i + 1)) + 1 by omega]
      unfold jX3_weigh_70
      rw [ck_t (inN (show O i < 8 by omega) (by omega)), ck_t (inN (show O i < 8 by omega) (by omega)), ixN (show O i < 2 ^ 31 by omega), c.2.2.1, e2, mxS0 (by omega) (by omega), mxS0 (by omega) (by omega), mxN (by omega) (by omega), mxN (by omega) (by omega), nI_add, nI_add, nI_1, wt]
      by_cases hg : gN j w (O i) = 0
      · rw [if_pos (by rw [hg]; rfl), if_pos hg]
        exact weigh9 p c hw f (i + 1) _ _ _ _ (by omega) (by omega) (by omega) (by omega) (by omega) (by omega)
      · rw [if_neg (nz (by omega) hg), if_neg hg]
        exact weigh9 p c hw f (i + 1) _ _ _ _ (by omega) (by omega) (by omega) (by omega) (by omega) (by omega)
    · rw [if_neg (nI_nlt (by omega) (by omega)), show j - i = 0 by omega, pk_pack (by omega) (by omega) hw]; rfl
def tA (p : Nat → Bool) : Nat → Nat → Bool
  | _, 0 => true
  | i, k + 1 => if p i then tA p (i + 1) k else false
theorem tA_iff (p : Nat → Bool) : ∀ (k i : Nat), tA p i k = true ↔ ∀ e, i ≤ e → e < i + k → p e = true
  | 0, i => ⟨fun _ e h1 h2 => absurd h2 (by omega), fun _ => rfl⟩
  | k + 1, i => by
    rw [tA]
    cases hp : p i with
    | false =>
      rw [if_neg (by decide)]
      exact ⟨(fun h => by cases h), (fun h => by have := h i (by omega) (by omega); rw [hp] at this; cases this)⟩
    | true =>
      rw [if_pos rfl, tA_iff p k (i + 1)]
      refine ⟨fun h e h1 h2 => ?_, fun h e h1 h2 => h e (by omega) (by omega)⟩
      by_cases h0 : e = i
      · rw [h0, hp]
      · exact h e (by omega) (by omega)
def tl (M : Mem) (j w e : Nat) : Bool := decide ((M.1 86 e) &&& ((M.1 87 (gN j w e)) ^^^ (-1)) = 0)
theorem tools9 {M : Mem} {j : Nat} {O : Nat → Nat} (hj : j ≤ 8) (c : C9 M j O) (w : Nat) : ∀ (f i : Nat), i ≤ j → j - i < f → lX3_hasTools_2 f M (nI w) (nI i) = some (if tA (tl M j w) i (j - i) then 1 else 0)
  | 0, i, h1, h2 => absurd h2 (Nat.not_lt_zero _)
  | f + 1, i, h1, h2 => by
    rw [lX3_hasTools_2, c.1]
    by_cases hi : i < j
    · obtain ⟨q1, q2⟩ := gI_eq j w i
      rw [if_pos (nI_lt hi (by omega)), ck_t (inN (show i < 8 by omega) (by omega)), ixN (show i < 2 ^ 31 by omega), gIn9 c, some_b, ck_t (inN q2 (by omega)), ixN (show gN j w i < 2 ^ 31 by omega), c.2.2.2.1, c.2.2.2.2.1, nI_1, show j - i = (j - (i + 1)) + 1 by omega, tA]
      by_cases ht : (M.1 86 i) &&& ((M.1 87 (gN j w i)) ^^^ (-1)) = 0
      · rw [if_pos ht, show tl M j w i = true from decide_eq_true ht, if_pos rfl]
        exact tools9 hj c w f (i + 1) (by omega) (by omega)
      · rw [if_neg ht, show tl M j w i = false from decide_eq_false ht]; rfl
    · rw [if_neg (nI_nlt (by omega) (by omega)), show j - i = 0 by omega]; rfl
/-! the best way -/
def bM (hs : Nat → Nat × Nat) (w : Nat) : Option (Nat × Nat × Nat) → Option (Nat × Nat × Nat)
  | none => some ((hs w).1, (hs w).2, w)
  | some (h, s, u) => if (hs w).1 < h ∨ ((hs w).1 = h ∧ (hs w).2 < s) then some ((hs w).1, (hs w).2, w) else some (h, s, u)
def bN (ok : Nat → Bool) (hs : Nat → Nat × Nat) (w : Nat) (o : Option (Nat × Nat × Nat)) : Option (Nat × Nat × Nat) := if ok w then bM hs w o else o
def bS (ok : Nat → Bool) (hs : Nat → Nat × Nat) : Nat → Nat → Option (Nat × Nat × Nat) → Option (Nat × Nat × Nat)
  | _, 0, o => o
  | w, k + 1, o => bS ok hs (w + 1) k (bN ok hs w o)
def bC : Option (Nat × Nat × Nat) → Int32
  | none => -9
  | some (h, s, u) => nI (pkN h s u)
def bk2 (w : Nat) (o : Option (Nat × Nat × Nat)) : Prop := ∀ h s u, o = some (h, s, u) → u < w ∧ h ≤ 320 ∧ s ≤ 2560
theorem bk_step {ok : Nat → Bool} {hs : Nat → Nat × Nat} {w : Nat} (hb : (hs w).1 ≤ 320 ∧ (hs w).2 ≤ 2560) {o : Option (Nat × Nat × Nat)} (h : bk2 w o) : bk2 (w + 1) (bN ok hs w o) := by
  intro x y z q
  unfold bN at q
  by_cases c : ok w = true
  · rw [if_pos c] at q
    cases o with
    | none =>
      simp only [bM] at q
      injection q with q
      injection q with q1 q2
      injection q2 with q2 q3
      subst q1; subst q2; subst q3
      exact ⟨by omega, hb.1, hb.2⟩
    | some t =>
      obtain ⟨h', s', u'⟩ := t
      simp only [bM] at q
      split at q
      · injection q with q
        injection q with q1 q2
        injection q2 with q2 q3
        subst q1; subst q2; subst q3
        exact ⟨by omega, hb.1, hb.2⟩
      · have := h x y z q
        exact ⟨by omega, this.2⟩
  · rw [if_neg c] at q
    have := h x y z q
    exact ⟨by omega, this.2⟩
theorem bS_ok {ok : Nat → Bool} {hs : Nat → Nat × Nat} (hb : ∀ w, w < 256 → (hs w).1 ≤ 320 ∧ (hs w).2 ≤ 2560) : ∀ (k w : Nat) (o : Option (Nat × Nat × Nat)), w + k ≤ 256 → bk2 w o → bk2 (w + k) (bS ok hs w k o)
  | 0, w, o, _, h => h
  | k + 1, w, o, hk, h => by
    have := bS_ok (ok := ok) hb k (w + 1) (bN ok hs w o) (by omega) (bk_step (hb w (by omega)) h)
    rw [show w + (k + 1) = w + 1 + k by omega]
    exact this
def okW (M : Mem) (j w : Nat) : Bool := tA (tl M j w) 0 j
def hsW (O hr du : Nat → Nat) (j w : Nat) : Nat × Nat := wt (gN j w) O hr du 0 j 0 0 0 0
theorem hsW_le {M : Mem} {j : Nat} {O hr du : Nat → Nat} (p : Pc M j O hr du) (w : Nat) : (hsW O hr du j w).1 ≤ 320 ∧ (hsW O hr du j w).2 ≤ 2560 := wt_le p j 0 0 0 0 0 (by omega) (by omega) (by omega) (by omega) (by omega)
theorem best9 {M : Mem} {j : Nat} {O hr du : Nat → Nat} (p : Pc M j O hr du) (c : C9 M j O) {N : Nat} (hN : N ≤ 256) : ∀ (f w : Nat) (o : Option (Nat × Nat × Nat)), w ≤ N → N - w < f → bk2 w o → lX3_bestPlan_12 f M (bC o) (nI N) (nI w) = some (bC (bS (okW M j) (hsW O hr du j) w (N - w) o))
  | 0, w, o, h1, h2, h3 => absurd h2 (Nat.not_lt_zero _)
  | f + 1, w, o, h1, h2, h3 => by
    rw [lX3_bestPlan_12]
    by_cases hw : w < N
    · have hle := hsW_le p w
      have ih := best9 p c hN f (w + 1) _ (by omega) (by omega) (bk_step (ok := okW M j) hle h3)
      rw [if_pos (nI_lt hw (by omega)), show xX3_hasTools M (nI w) = _ from tools9 p.1 c w fu 0 (by omega) (by rw [fu_v]; have := p.1; omega), some_b, show xX3_weigh M (nI w) = _ from weigh9 p c (show w < 256 by omega) fu 0 0 0 0 0 (by omega) (by rw [fu_v]; have := p.1; omega) (by omega) (by omega) (by omega) (by omega), some_b, nI_1, show N - w = (N - (w + 1)) + 1 by omega, bS, ← ih]
      show (if (if okW M j w = true then (1 : Int32) else 0) = 0 then _ else if bC o = -9 then lX3_bestPlan_12 f M (nI (pkN (hsW O hr du j w).1 (hsW O hr du j w).2 w)) (nI N) (nI (w + 1)) else lX3_bestPlan_12 f M (mnI (bC o) (nI (pkN (hsW O hr du j w).1 (hsW O hr du j w).2 w))) (nI N) (nI (w + 1))) = _
      unfold bN
      cases hk : okW M j w with
      | false => rfl
      | true =>
        rw [if_pos rfl, if_neg (by decide), if_pos rfl]
        cases o with
        | none => rfl
        | some t =>
          obtain ⟨h, s, u⟩ := t
          obtain ⟨b1, b2, b3⟩ := h3 h s u rfl
          show (if nI (pkN h s u) = -9 then _ else lX3_bestPlan_12 f M (mnI (nI (pkN h s u)) (nI (pkN (hsW O hr du j w).1 (hsW O hr du j w).2 w))) (nI N) (nI (w + 1))) = _
          rw [if_neg (nI_ne9 (by unfold pkN; omega))]
          have hq : (nI (pkN (hsW O hr du j w).1 (hsW O hr du j w).2 w) < nI (pkN h s u)) ↔ ((hsW O hr du j w).1 < h ∨ ((hsW O hr du j w).1 = h ∧ (hsW O hr du j w).2 < s)) := by
            rw [nI_ltI (by unfold pkN; omega) (by unfold pkN; omega)]
            unfold pkN
            omega
          unfold mnI
          by_cases hc : (hsW O hr du j w).1 < h ∨ ((hsW O hr du j w).1 = h ∧ (hsW O hr du j w).2 < s)
          · rw [if_pos (hq.mpr hc)]; simp only [bM, if_pos hc]; rfl
          · rw [if_neg (fun z => hc (hq.mp z))]; simp only [bM, if_neg hc]; rfl
    · rw [if_neg (nI_nlt (by omega) (by omega)), show N - w = 0 by omega]; rfl
def Rp (a b c : Int32) : Option (Nat × Nat × Nat) → Prop
  | none => a = -1
  | some (h, s, u) => a = nI u ∧ b = nI h ∧ c = nI s
theorem try10 {M : Mem} {j : Nat} {O hr du : Nat → Nat} (p : Pc M j O hr du) (e12 : M.1 51 12 = nI j) {fo : Nat → Int32} (hfo : ∀ i, i < j → fo i = nI (O i)) {w : Nat} (hw : w < 256) {a b c : Int32} {o : Option (Nat × Nat × Nat)} (hR : Rp a b c o) (hk : bk2 w o) : ∀ (f i t0 t1 h s : Nat) (g : Nat → Int32), i ≤ j → j - i < f → t0 ≤ 40 * i → t1 ≤ 40 * i → h ≤ 40 * i → s ≤ 320 * i → g 0 = nI t0 → g 1 = nI t1 → ∃ g' a' b' c', lX10_tries_21 f (PS M fo g a b c) (nI w) (nI h) (nI s) (nI i) = some (PS M fo g' a' b' c') ∧ Rp a' b' c' (if tA (fun x => tl M j w (O x)) i (j - i) then bM (fun _ => wt (gN j w) O hr du i (j - i) t0 t1 h s) w o else o)
  | 0, i, t0, t1, h, s, g, h1, h2, h3, h4, h5, h6, h7, h8 => absurd h2 (Nat.not_lt_zero _)
  | f + 1, i, t0, t1, h, s, g, h1, h2, h3, h4, h5, h6, h7, h8 => by
    have p1 := p.1
    rw [lX10_tries_21, show (PS M fo g a b c).1 51 12 = nI j from e12]
    by_cases hi : i < j
    · have hO := p.2.1 i hi
      obtain ⟨e1, b1, e2, b2⟩ := p.2.2.2 (O i) hO
      obtain ⟨q1, q2⟩ := gI_eq j w (O i)
      have hgi : xX10_gangIn (PS M fo g a b c) (nI w) (nI (O i)) = some (nI (gN j w (O i))) := by
        unfold xX10_gangIn
        rw [show (PS M fo g a b c).1 51 12 = nI j from e12]
        exact congrArg some q1
      rw [if_pos (nI_lt hi (by omega)), ck_t (inN (show i < 8 by omega) (by omega)), ixN (show i < 2 ^ 31 by omega), show (PS M fo g a b c).1 91 i = nI (O i) from hfo i hi, hgi, some_b, ck_t (inN (show O i < 8 by omega) (by omega)), ck_t (inN q2 (by omega)), ixN (show O i < 2 ^ 31 by omega), ixN (show gN j w (O i) < 2 ^ 31 by omega), PS_92, nI_1, show j - i = (j - (i + 1)) + 1 by omega, tA]
      show ∃ g' a' b' c', (if (M.1 86 (O i)) &&& ((M.1 87 (gN j w (O i))) ^^^ (-1)) = 0 then lX10_tries_21 f (PS M fo (upd g (gN j w (O i)) (g (gN j w (O i)) + M.1 84 (O i))) a b c) (nI w) (mxI (nI h) (mxI 0 (upd g (gN j w (O i)) (g (gN j w (O i)) + M.1 84 (O i)) (gN j w (O i)) - M.1 85 (O i)))) (nI s + mxI 0 (upd g (gN j w (O i)) (g (gN j w (O i)) + M.1 84 (O i)) (gN j w (O i)) - M.1 85 (O i))) (nI (i + 1)) else some (PS M fo g a b c)) = some (PS M fo g' a' b' c') ∧ _
      by_cases ht : (M.1 86 (O i)) &&& ((M.1 87 (gN j w (O i))) ^^^ (-1)) = 0
      · rw [if_pos ht, show tl M j w (O i) = true from decide_eq_true ht, if_pos rfl, wt, upd_get, if_pos rfl, e1, e2]
        by_cases hg : gN j w (O i) = 0
        · rw [if_pos hg, hg, h7, nI_add, mxS0 (by omega) (by omega), mxN (by omega) (by omega), nI_add]
          exact try10 p e12 hfo hw hR hk f (i + 1) _ _ _ _ _ (by omega) (by omega) (by omega) (by omega) (by omega) (by omega) (by rw [upd_get, if_pos rfl]) (by rw [upd_get, if_neg (by omega), h8])
        · rw [if_neg hg, show gN j w (O i) = 1 by omega, h8, nI_add, mxS0 (by omega) (by omega), mxN (by omega) (by omega), nI_add]
          exact try10 p e12 hfo hw hR hk f (i + 1) _ _ _ _ _ (by omega) (by omega) (by omega) (by omega) (by omega) (by omega) (by rw [upd_get, if_neg (by omega), h7]) (by rw [upd_get, if_pos rfl])
      · rw [if_neg ht, show tl M j w (O i) = false from decide_eq_false ht]
        exact ⟨g, a, b, c, rfl, hR⟩
    · rw [if_neg (nI_nlt (by omega) (by omega)), show j - i = 0 by omega]
      show ∃ g' a' b' c', (if a < 0 then some (upI (upI (upI (PS M fo g a b c) 51 55 (nI w)) 51 56 (nI h)) 51 57 (nI s)) else if b < nI h then some (PS M fo g a b c) else if nI h = b then (if nI s < c then some (upI (upI (upI (PS M fo g a b c) 51 55 (nI w)) 51 56 (nI h)) 51 57 (nI s)) else some (PS M fo g a b c)) else some (upI (upI (upI (PS M fo g a b c) 51 55 (nI w)) 51 56 (nI h)) 51 57 (nI s))) = some (PS M fo g' a' b' c') ∧ Rp a' b' c' (bM (fun _ => (h, s)) w o)
      rw [PS_51a, PS_51b, PS_51c]
      cases o with
      | none =>
        have ha : a = -1 := hR
        rw [ha, if_pos (by decide)]
        exact ⟨g, _, _, _, rfl, rfl, rfl, rfl⟩
      | some t =>
        obtain ⟨h', s', u⟩ := t
        obtain ⟨k1, k2, k3⟩ := hk h' s' u rfl
        obtain ⟨ra, rb, rc⟩ : a = nI u ∧ b = nI h' ∧ c = nI s' := hR
        rw [ra, rb, rc, if_neg (nng (by omega))]
        by_cases c1 : h' < h
        · rw [if_pos (nI_lt c1 (by omega))]
          simp only [bM, if_neg (show ¬ (h < h' ∨ (h = h' ∧ s < s')) by omega)]
          exact ⟨g, _, _, _, rfl, rfl, rfl, rfl⟩
        · rw [if_neg (nI_nlt (by omega) (by omega))]
          by_cases c2 : h = h'
          · rw [if_pos (by rw [c2])]
            by_cases c3 : s < s'
            · rw [if_pos (nI_lt c3 (by omega))]
              simp only [bM, if_pos (show (h < h' ∨ (h = h' ∧ s < s')) by omega)]
              exact ⟨g, _, _, _, rfl, rfl, rfl, rfl⟩
            · rw [if_neg (nI_nlt (by omega) (by omega))]
              simp only [bM, if_neg (show ¬ (h < h' ∨ (h = h' ∧ s < s')) by omega)]
              exact ⟨g, _, _, _, rfl, rfl, rfl, rfl⟩
          · rw [if_neg (nI_inj (by omega) (by omega) c2)]
            simp only [bM, if_pos (show (h < h' ∨ (h = h' ∧ s < s')) by omega)]
            exact ⟨g, _, _, _, rfl, rfl, rfl, rfl⟩
theorem ok_O {M : Mem} {j : Nat} {O hr du : Nat → Nat} (p : Pc M j O hr du) (w : Nat) : tA (fun x => tl M j w (O x)) 0 j = okW M j w := by
  unfold okW
  rw [Bool.eq_iff_iff, tA_iff, tA_iff]
  refine ⟨fun h e _ he => ?_, fun h e _ he => h (O e) (by omega) (by have := p.2.1 e (by omega); omega)⟩
  obtain ⟨i, hi, rfl⟩ := p.2.2.1 e (by omega)
  exact h i (by omega) (by omega)
theorem bM_cong {hs hs' : Nat → Nat × Nat} {w : Nat} (h : hs w = hs' w) (o : Option (Nat × Nat × Nat)) : bM hs w o = bM hs' w o := by
  cases o with
  | none => simp only [bM, h]
  | some t => obtain ⟨x, y, z⟩ := t; simp only [bM, h]
theorem shl1 {j : Nat} (hj : j ≤ 8) : (1 : Int32) <<< (nI j &&& 31) = nI (2 ^ j) := by
  match j, hj with
  | 0, _ => rfl
  | 1, _ => rfl
  | 2, _ => rfl
  | 3, _ => rfl
  | 4, _ => rfl
  | 5, _ => rfl
  | 6, _ => rfl
  | 7, _ => rfl
  | 8, _ => rfl
theorem ways10 {M : Mem} {j : Nat} {O hr du : Nat → Nat} (p : Pc M j O hr du) (e12 : M.1 51 12 = nI j) {fo : Nat → Int32} (hfo : ∀ i, i < j → fo i = nI (O i)) : ∀ (f w : Nat) (o : Option (Nat × Nat × Nat)) (g : Nat → Int32) (a b c : Int32), w ≤ 2 ^ j → 2 ^ j - w < f → bk2 w o → Rp a b c o → ∃ g' a' b' c', lX10_plans_78 f (PS M fo g a b c) (nI w) = some (PS M fo g' a' b' c') ∧ Rp a' b' c' (bS (okW M j) (hsW O hr du j) w (2 ^ j - w) o)
  | 0, w, o, g, a, b, c, h1, h2, h3, h4 => absurd h2 (Nat.not_lt_zero _)
  | f + 1, w, o, g, a, b, c, h1, h2, h3, h4 => by
    have hN : 2 ^ j ≤ 2 ^ 8 := Nat.pow_le_pow_right (by decide) p.1
    rw [lX10_plans_78, show (PS M fo g a b c).1 51 12 = nI j from e12, shl1 p.1]
    by_cases hw : w < 2 ^ j
    · rw [if_pos (nI_lt hw (by omega))]
      unfold xX10_tries
      rw [PS_92, PS_92]
      obtain ⟨g', a', b', c', q, r⟩ := try10 p e12 hfo (show w < 256 by omega) h4 h3 fu 0 0 0 0 0 (upd (upd g 0 0) 1 0) (by omega) (by rw [fu_v]; have := p.1; omega) (by omega) (by omega) (by omega) (by omega) rfl rfl
      rw [show lX10_tries_21 fu (PS M fo (upd (upd g 0 0) 1 0) a b c) (nI w) 0 0 0 = _ from q, some_b, nI_1, show 2 ^ j - w = (2 ^ j - (w + 1)) + 1 by omega, bS]
      rw [Nat.sub_zero, ok_O p, bM_cong (hs := fun _ => wt (gN j w) O hr du 0 j 0 0 0 0) (hs' := hsW O hr du j) (w := w) rfl] at r
      exact ways10 p e12 hfo f (w + 1) _ g' a' b' c' (by omega) (by omega) (bk_step (hsW_le p w) h3) r
    · rw [if_neg (nI_nlt (by omega) (by omega)), show 2 ^ j - w = 0 by omega]
      exact ⟨g, a, b, c, rfl, h4⟩
/-! both find the same -/
theorem plan_of {M : Mem} (hI : Inv M) : ∃ (j : Nat) (o : Option (Nat × Nat × Nat)) (f g : Nat → Int32) (a b c : Int32), j ≤ 8 ∧ M.1 41 0 = nI j ∧ M.1 51 12 = nI j ∧ xX3_bestPlan M = some (bC o) ∧ xX10_plans M = some (PS M f g a b c) ∧ Rp a b c o ∧ bk2 256 o := by
  obtain ⟨d, n, k, q, t, l, j, g1, g2, g3, g4, g5, g6, g7, g8, g9, g10, g11, g12, g13, g14, g15⟩ := hI
  obtain ⟨⟨r0, r01, r02⟩, ⟨r1, r2, r3, r4⟩, r5, r6⟩ := g15
  have hp := ord_perm (du := M.1 85) (f := M.1 91) j
  have hN : 2 ^ j ≤ 2 ^ 8 := Nat.pow_le_pow_right (by decide) r02
  have hO : ∀ i, i < j → ordF (M.1 85) j (M.1 91) i = nI (ix (ordF (M.1 85) j (M.1 91) i)) ∧ ix (ordF (M.1 85) j (M.1 91) i) < j := fun i hi => by
    obtain ⟨e, he, q⟩ := hp.1 i hi
    rw [q, ixN (by omega)]
    exact ⟨rfl, he⟩
  have p : Pc M j (fun i => ix (ordF (M.1 85) j (M.1 91) i)) (fun e => ix (M.1 84 e)) (fun e => ix (M.1 85 e)) := by
    refine ⟨r02, fun i hi => (hO i hi).2, fun e he => ?_, fun e he => ?_⟩
    · obtain ⟨i, hi, q⟩ := hp.2 e he
      exact ⟨i, hi, by show ix (ordF (M.1 85) j (M.1 91) i) = e; rw [q, ixN (by omega)]⟩
    · obtain ⟨x, hx, ex⟩ := rg_of (x := M.1 84 e) (b := 40) ⟨by have := (r5 e he).1.1; omega, (r5 e he).1.2⟩
      obtain ⟨y, hy, ey⟩ := rg_of (x := M.1 85 e) (b := 400) (r5 e he).2
      show M.1 84 e = nI (ix (M.1 84 e)) ∧ ix (M.1 84 e) ≤ 40 ∧ M.1 85 e = nI (ix (M.1 85 e)) ∧ ix (M.1 85 e) ≤ 400
      rw [ex, ey, ixN (by omega), ixN (by omega)]
      exact ⟨rfl, hx, rfl, hy⟩
  have c : C9 M j (fun i => ix (ordF (M.1 85) j (M.1 91) i)) := ⟨r0, r2, r3, r4, r1, fun i hi => by
    rw [r6 i hi]
    exact (ord_cong (f' := M.1 91) j r02 (fun _ _ => rfl) i hi).trans (hO i hi).1⟩
  have hb := best9 p c (N := 2 ^ j) (by omega) fu 0 none (Nat.zero_le _) (by rw [fu_v]; omega) (fun _ _ _ z => by cases z)
  obtain ⟨g', a', b', c', w1, w2⟩ := ways10 p r01 (fo := ordF (M.1 85) j (M.1 91)) (fun i hi => (hO i hi).1) fu 0 none (M.1 92) (-1) (M.1 51 56) (M.1 51 57) (Nat.zero_le _) (by rw [fu_v]; omega) (fun _ _ _ z => by cases z) rfl
  refine ⟨j, bS (okW M j) (hsW (fun i => ix (ordF (M.1 85) j (M.1 91) i)) (fun e => ix (M.1 84 e)) (fun e => ix (M.1 85 e)) j) 0 (2 ^ j - 0) none, ordF (M.1 85) j (M.1 91), g', a', b', c', r02, r0, r01, ?_, ?_, w2, ?_⟩
  · unfold xX3_bestPlan
    rw [r0, shl1 r02]
    exact hb
  · unfold xX10_plans
    have := ord10 (M := M) (f := M.1 91) (g := M.1 92) (a := M.1 51 55) (b := M.1 51 56) (c := M.1 51 57) r02 r01 fu 0 (by omega) (by rw [fu_v]; omega)
    rw [show ordF (M.1 85) 0 (M.1 91) = M.1 91 from rfl, PS_self] at this
    exact this.trans w1
  · have z := bS_ok (ok := okW M j) (hs := hsW (fun i => ix (ordF (M.1 85) j (M.1 91) i)) (fun e => ix (M.1 84 e)) (fun e => ix (M.1 85 e)) j) (fun w _ => hsW_le p w) (2 ^ j - 0) 0 none (by omega) (fun _ _ _ z => by cases z)
    intro x y u e
    have := z x y u e
    exact ⟨by omega, this.2⟩
set_option maxHeartbeats 4000000 in
theorem op_plan {M : Mem} (hI : Inv M) (a : Int32) : Eqv (xX9_plan M a) (fun M1 => xX10_plan M1 a) := by
  obtain ⟨d, n, k, q, t, l, j, g1, g2, g3, g4, g5, g6, g7, g8, g9, g10, g11, g12, g13, g14, g15⟩ := id hI
  unfold xX9_plan xX10_plan
  simp only [b_isDay, b_isKind, b_isMile, b_isDefect, b_isIn, b_wrong, b_isMile10, b_isDefect10, r9_1, r9_2, r9_3, r9_4, r9_6, r10_1, r10_2, r10_3, r10_4, r10_6, t9_1, t9_2, t9_3, t9_4, t9_6, t10_1, t10_2, t10_3, t10_4, t10_6, some_b, i10, i00, im1, im2, im3, im4, im6, if_true, if_false, n_lt2 a, ite_not]
  refine Eqv_ite (fun h1 => ?_) (fun h1 => ?_)
  · refine Eqv_some ?_
    simp +decide only [h1, if_true, if_false, ite_not, not_true_eq_false, not_false_eq_true, upI_get, upd_get, n_lt2 a, ite_not]
    exact Fin_some (Inv_ref hI 2)
  refine Eqv_ite (fun h2 => ?_) (fun h2 => ?_)
  · refine Eqv_some ?_
    simp +decide only [h1, h2, if_true, if_false, ite_not, not_true_eq_false, not_false_eq_true, upI_get, upd_get, n_lt2 a, ite_not]
    exact Fin_some (Inv_ref hI 2)
  obtain ⟨j', o, f, g, x, y, z, p1, p2, p3, p4, p5, p6, p7⟩ := plan_of hI
  rw [p4, some_b]
  cases o with
  | none =>
    have hx : x = -1 := p6
    rw [show bC none = -9 from rfl, if_pos rfl]
    refine Eqv_some ?_
    simp +decide only [h1, h2, if_true, if_false, ite_not, not_true_eq_false, not_false_eq_true, upI_get, upd_get, n_lt2 a]
    rw [p5, some_b, show (PS M f g x y z).1 51 55 = -1 from hx, if_pos (by decide)]
    exact Fin_some (PS_inv hI)
  | some w =>
    obtain ⟨h, s, u⟩ := w
    obtain ⟨q1, q2, q3⟩ := p7 h s u rfl
    obtain ⟨ra, rb, rc⟩ : x = nI u ∧ y = nI h ∧ z = nI s := p6
    obtain ⟨k1, k2, k3⟩ := pk_h q2 q3 q1
    rw [show bC (some (h, s, u)) = nI (pkN h s u) from rfl, if_neg (nI_ne9 (by unfold pkN; omega))]
    unfold xX3_worstIn xX3_togetherIn
    rw [k1, k2, some_b, some_b]
    rcases bit_of h1 h2 with rfl | rfl
    · rw [if_pos rfl]
      refine Eqv_some ?_
      simp +decide only [h1, h2, if_true, if_false, ite_not, not_true_eq_false, not_false_eq_true, upI_get, upd_get]
      rw [p5, some_b, show (PS M f g x y z).1 51 55 = nI u from ra, if_neg (nng (by omega)), show (PS M f g x y z).1 51 56 = nI h from rb]
      exact Fin_some (PS_inv hI)
    · rw [if_neg (by decide)]
      refine Eqv_some ?_
      simp +decide only [h1, h2, if_true, if_false, ite_not, not_true_eq_false, not_false_eq_true, upI_get, upd_get]
      rw [p5, some_b, show (PS M f g x y z).1 51 55 = nI u from ra, if_neg (nng (by omega)), show (PS M f g x y z).1 51 57 = nI s from rc]
      exact Fin_some (PS_inv hI)
set_option maxHeartbeats 4000000 in
theorem op_gangOf {M : Mem} (hI : Inv M) (a : Int32) : Eqv (xX9_gangOf M a) (fun M1 => xX10_gangOf M1 a) := by
  obtain ⟨d, n, k, q, t, l, j, g1, g2, g3, g4, g5, g6, g7, g8, g9, g10, g11, g12, g13, g14, g15⟩ := id hI
  unfold xX9_gangOf xX10_gangOf
  simp only [b_isDay, b_isKind, b_isMile, b_isDefect, b_isIn, b_wrong, b_isMile10, b_isDefect10, r9_1, r9_2, r9_3, r9_4, r9_6, r10_1, r10_2, r10_3, r10_4, r10_6, t9_1, t9_2, t9_3, t9_4, t9_6, t10_1, t10_2, t10_3, t10_4, t10_6, some_b, i10, i00, im1, im2, im3, im4, im6, if_true, if_false, g15.1.1, g15.1.2.1]
  refine Eqv_ite (fun h1 => ?_) (fun h1 => ?_)
  · refine Eqv_some ?_
    simp +decide only [h1, if_true, if_false, ite_not, not_true_eq_false, not_false_eq_true, upI_get, upd_get, g15.1.1, g15.1.2.1]
    exact Fin_some (Inv_ref hI 1)
  refine Eqv_itn (fun h2 => ?_) (fun h2 => ?_)
  · refine Eqv_some ?_
    simp +decide only [h1, h2, if_true, if_false, ite_not, not_true_eq_false, not_false_eq_true, upI_get, upd_get, g15.1.1, g15.1.2.1]
    exact Fin_some (Inv_ref hI 1)
  obtain ⟨j', o, f, g, x, y, z, p1, p2, p3, p4, p5, p6, p7⟩ := plan_of hI
  rw [p4, some_b]
  cases o with
  | none =>
    have hx : x = -1 := p6
    rw [show bC none = -9 from rfl, if_pos rfl]
    refine Eqv_some ?_
    simp +decide only [h1, h2, if_true, if_false, ite_not, not_true_eq_false, not_false_eq_true, upI_get, upd_get, g15.1.1, g15.1.2.1]
    rw [p5, some_b, show (PS M f g x y z).1 51 55 = -1 from hx, if_pos (by decide)]
    exact Fin_some (PS_inv hI)
  | some w =>
    obtain ⟨h, s, u⟩ := w
    obtain ⟨q1, q2, q3⟩ := p7 h s u rfl
    obtain ⟨ra, rb, rc⟩ : x = nI u ∧ y = nI h ∧ z = nI s := p6
    obtain ⟨k1, k2, k3⟩ := pk_h q2 q3 q1
    rw [show bC (some (h, s, u)) = nI (pkN h s u) from rfl, if_neg (nI_ne9 (by unfold pkN; omega))]
    unfold xX3_wayIn xX3_gangIn
    rw [k3, some_b, some_b, p2]
    refine Eqv_some ?_
    simp +decide only [h1, h2, if_true, if_false, ite_not, not_true_eq_false, not_false_eq_true, upI_get, upd_get, g15.1.1, g15.1.2.1]
    rw [p5, some_b, show (PS M f g x y z).1 51 55 = nI u from ra, if_neg (nng (by omega))]
    unfold xX10_gangIn
    rw [show (PS M f g x y z).1 51 12 = nI j' from p3, some_b]
    exact Fin_some (PS_inv hI)
