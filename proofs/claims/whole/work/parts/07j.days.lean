/-! days: one day of the class, one day of the reference; they don't meet -/
theorem upI_upI (M : Mem) (k i : Nat) (a b : Int32) : upI (upI M k i a) k i b = upI M k i b := by
  rw [upI_sR, upI_sR M k i a, upI_sR M k i b, sR_sR, sR_row, upd_upd]
def mg (T C g : Int32) : Int32 := if C < 15 then 1 + T * g / 100 else 1 + (T * g + T * g / 2) / 100
theorem mg_eq (T C g : Int32) : xX1_mostGrowth T C g = some (mg T C g) := by
  unfold xX1_mostGrowth mg; split <;> rfl
theorem mg_rg {T C g : Int32} (hT : rg T 0 99) (hg : rg g 0 50) : rg (mg T C g) 1 75 := by
  obtain ⟨a, ha, rfl⟩ := rg_of (b := 99) hT
  obtain ⟨b, hb, rfl⟩ := rg_of (b := 50) hg
  have h1 : a * b ≤ 99 * 50 := Nat.mul_le_mul ha hb
  unfold mg
  rw [pk_mul, show (100 : Int32) = nI 100 from rfl, show (1 : Int32) = nI 1 from rfl, show (2 : Int32) = nI 2 from rfl, pk_div (by omega) (by omega) (by omega), pk_div (by omega) (by omega) (by omega), nI_add, nI_add, pk_div (by omega) (by omega) (by omega), nI_add]
  split
  · exact rg_nI (by omega) (by omega) (by omega)
  · exact rg_nI (by omega) (by omega) (by omega)
def gF (o am : Nat → Int32) : Nat → Nat → (Nat → Int32) → (Nat → Int32)
  | _, 0, f => f
  | i, k + 1, f => gF o am (i + 1) k (if o i = 0 then f else upd f i (f i + am i))
def lsm (mn : Nat → Int32) (tr : Int32) : Nat → Nat → Int32 → Int32
  | _, 0, a => a
  | i, k + 1, a => lsm mn tr (i + 1) k (a + mn i * tr)
def amX (M : Mem) (d : Nat) : Nat → Int32 := fun i => mg (cv (M.1 5) (M.1 4 1) d) (cv (M.1 7) (M.1 6 1) d) (M.1 3 (ix (M.1 12 i)))
def amM (M : Mem) (d : Nat) : Nat → Int32 := fun i => mg (cv (M.1 53) 30 d) (cv (M.1 54) 10 d) (M.1 55 (ix (M.1 59 i)))
def cs (n d : Nat) (M : Mem) : Mem := upI (upI (sR M 15 (gF (M.1 13) (amX M d) 0 n (M.1 15))) 24 0 (lsm (M.1 25) (M.1 2 0) 0 20 (M.1 24 0))) 0 0 (nI (d + 1))
def ms (n d : Nat) (M : Mem) : Mem := upI (upI (sR M 62 (gF (M.1 63) (amM M d) 0 n (M.1 62))) 51 9 (lsm (M.1 72) (M.1 51 13) 0 20 (M.1 51 9))) 51 4 (nI (d + 1))
def WX (M : Mem) (d n : Nat) : Prop := M.1 0 0 = nI d ∧ M.1 8 0 = nI n ∧ n ≤ 40 ∧ ∀ i, i < n → rg (M.1 12 i) 0 3
def WM (M : Mem) (d n : Nat) : Prop := M.1 51 4 = nI d ∧ M.1 51 5 = nI n ∧ n ≤ 40 ∧ (∀ i, i < n → rg (M.1 59 i) 0 3) ∧ ∀ i, i ≤ 1000 → -1 ≤ (M.1 53 i).toInt ∧ -1 ≤ (M.1 54 i).toInt
theorem grow_loop {M0 : Mem} {n : Nat} (T C : Int32) (am : Nat → Int32) (ham : ∀ i, am i = mg T C (M0.1 3 (ix (M0.1 12 i)))) (h0 : M0.1 8 0 = nI n) (hn : n ≤ 40) (hk : ∀ i, i < n → rg (M0.1 12 i) 0 3) : ∀ (m i : Nat) (f : Nat → Int32), i ≤ n → n - i < m → lX1_grow_3 m (sR M0 15 f) T C (nI i) = some (sR M0 15 (gF (M0.1 13) am i (n - i) f))
  | 0, i, f, h1, h2 => absurd h2 (Nat.not_lt_zero _)
  | m + 1, i, f, h1, h2 => by
    rw [lX1_grow_3]
    rw [show (sR M0 15 f).1 8 0 = nI n from h0]
    by_cases h : i < n
    · rw [if_pos (nI_lt h (by omega)), ck_t (inN (show i < 40 by omega) (by omega)), ixN (by omega), nI_1, show n - i = (n - (i + 1)) + 1 by omega]
      rw [show (sR M0 15 f).1 13 i = M0.1 13 i from rfl, show (sR M0 15 f).1 12 i = M0.1 12 i from rfl]
      show _ = some (sR M0 15 (gF (M0.1 13) am (i + 1) (n - (i + 1)) (if M0.1 13 i = 0 then f else upd f i (f i + am i))))
      by_cases c : M0.1 13 i = 0
      · rw [if_pos c, if_pos c, grow_loop T C am ham h0 hn hk m (i + 1) f (by omega) (by omega)]
      · obtain ⟨w, hw, ew⟩ := rg_of (b := 3) (hk i h)
        rw [if_neg c, if_neg c, ew, ck_t (inN (show w < 4 by omega) (by omega)), mg_eq, some_b, show (sR M0 15 f).1 15 i = f i from rfl, show (sR M0 15 f).1 3 (ix (nI w)) = M0.1 3 (ix (M0.1 12 i)) from by rw [ew]; rfl, ← ham i, upI_sR, sR_sR]
        rw [show (sR M0 15 f).1 15 = f from rfl]
        exact grow_loop T C am ham h0 hn hk m (i + 1) _ (by omega) (by omega)
    · rw [if_neg (nI_nlt (by omega) (by omega)), show n - i = 0 by omega]; rfl
theorem pass_loop (M0 : Mem) (tr : Int32) : ∀ (m i : Nat) (a : Int32), i ≤ 20 → 20 - i < m → lX7_passDay_2 m (upI M0 24 0 a) tr (nI i) = some (upI M0 24 0 (lsm (M0.1 25) tr i (20 - i) a))
  | 0, i, a, h1, h2 => absurd h2 (Nat.not_lt_zero _)
  | m + 1, i, a, h1, h2 => by
    rw [lX7_passDay_2]
    by_cases h : i < 20
    · rw [if_pos (lt20 h), ck_t (inN h (by omega)), ixN (by omega), nI_1, upI_upI, pass_loop M0 tr m (i + 1) _ (by omega) (by omega), show 20 - i = (20 - (i + 1)) + 1 by omega]; rfl
    · rw [if_neg (show ¬ nI i < (20 : Int32) from nI_nlt (b := 20) (by omega) (by omega)), show 20 - i = 0 by omega]; rfl
theorem cs_eq {M : Mem} {d n : Nat} (h : WX M d n) (hd : d ≤ 1000) : xX9_passDay M = some (cs n d M) := by
  obtain ⟨h1, h2, h3, h4⟩ := h
  unfold xX9_passDay xX1_grow xX7_passDay
  rw [h1, cX_eq M 4 d hd, some_b, cX_eq M 6 d hd, some_b]
  have g := grow_loop (M0 := M) (cv (M.1 (4 + 1)) (M.1 4 1) d) (cv (M.1 (6 + 1)) (M.1 6 1) d) (amX M d) (fun i => rfl) h2 h3 h4 fu 0 (M.1 15) (by omega) (by rw [fu_v]; omega)
  rw [sR_self] at g
  rw [show (lX1_grow_3 fu M (cv (M.1 (4 + 1)) (M.1 4 1) d) (cv (M.1 (6 + 1)) (M.1 6 1) d) 0) = _ from g, some_b]
  have p := pass_loop (sR M 15 (gF (M.1 13) (amX M d) 0 n (M.1 15))) (M.1 2 0) fu 0 (M.1 24 0) (by omega) (by rw [fu_v]; omega)
  rw [show upI (sR M 15 (gF (M.1 13) (amX M d) 0 n (M.1 15))) 24 0 (M.1 24 0) = sR M 15 (gF (M.1 13) (amX M d) 0 n (M.1 15)) from by
    rw [upI_sR, show upd ((sR M 15 (gF (M.1 13) (amX M d) 0 n (M.1 15))).1 24) 0 (M.1 24 0) = (sR M 15 (gF (M.1 13) (amX M d) 0 n (M.1 15))).1 24 from by
      funext z; rw [upd_get]; split
      · rename_i hz; rw [hz]; rfl
      · rfl]
    exact sR_self _ 24] at p
  rw [Nat.sub_zero, show lX7_passDay_2 fu (sR M 15 (gF (M.1 13) (amX M d) 0 n (M.1 15))) ((sR M 15 (gF (M.1 13) (amX M d) 0 n (M.1 15))).1 2 0) 0 = _ from p, some_b]
  show some (upI (upI (sR M 15 (gF (M.1 13) (amX M d) 0 n (M.1 15))) 24 0 (lsm (M.1 25) (M.1 2 0) 0 20 (M.1 24 0))) 0 0 (M.1 0 0 + 1)) = some (cs n d M)
  rw [h1, nI_1]; rfl
theorem grows_eq {M : Mem} {d n : Nat} (h : WM M d n) (hd : d ≤ 1000) {w : Nat} (hw : w < 4) : xX10_grows M (nI w) = some (mg (cv (M.1 53) 30 d) (cv (M.1 54) 10 d) (M.1 55 w)) := by
  obtain ⟨h1, h2, h3, h4, h5⟩ := h
  unfold xX10_grows
  rw [h1, cM_eq M 0 (M.1 53) rfl (fun i hi => (h5 i hi).1) d hd, some_b, ck_t (inN hw (by omega)), ixN (by omega), cM_eq M 1 (M.1 54) rfl (fun i hi => (h5 i hi).2) d hd, some_b, show (if (0 : Int32) = 0 then (30 : Int32) else 10) = 30 from rfl, show (if (1 : Int32) = 0 then (30 : Int32) else 10) = 10 from rfl]
  unfold mg
  split <;> rfl
theorem mdef_loop {M0 : Mem} {d n : Nat} (h : WM M0 d n) (hd : d ≤ 1000) (F : Mem → Int32 → Int32 → Option (Int32 × Mem)) (v1 v3 : Int32) : ∀ (m i : Nat) (f : Nat → Int32), i ≤ n → n - i < m → lX10_days_34 F m (sR M0 62 f) v1 v3 (nI i) = lX10_days_83 F fu (sR M0 62 (gF (M0.1 63) (amM M0 d) i (n - i) f)) v1 v3 0
  | 0, i, f, h1, h2 => absurd h2 (Nat.not_lt_zero _)
  | m + 1, i, f, h1, h2 => by
    have hn := h.2.2.1
    rw [lX10_days_34]
    rw [show (sR M0 62 f).1 51 5 = nI n from h.2.1]
    by_cases hi : i < n
    · rw [if_pos (nI_lt hi (by omega)), ck_t (inN (show i < 40 by omega) (by omega)), ixN (by omega), nI_1, show n - i = (n - (i + 1)) + 1 by omega]
      rw [show (sR M0 62 f).1 63 i = M0.1 63 i from rfl, show (sR M0 62 f).1 59 i = M0.1 59 i from rfl]
      show _ = lX10_days_83 F fu (sR M0 62 (gF (M0.1 63) (amM M0 d) (i + 1) (n - (i + 1)) (if M0.1 63 i = 0 then f else upd f i (f i + amM M0 d i)))) v1 v3 0
      by_cases c : M0.1 63 i = 0
      · rw [if_pos c, if_pos c, mdef_loop h hd F v1 v3 m (i + 1) f (by omega) (by omega)]
      · obtain ⟨w, hw, ew⟩ := rg_of (b := 3) (h.2.2.2.1 i hi)
        rw [if_neg c, if_neg c, ew, grows_eq (M := sR M0 62 f) (d := d) (n := n) h hd (show w < 4 by omega), some_b]
        rw [show (sR M0 62 f).1 62 i = f i from rfl, upI_sR, sR_sR, show (sR M0 62 f).1 62 = f from rfl]
        rw [show mg (cv ((sR M0 62 f).1 53) 30 d) (cv ((sR M0 62 f).1 54) 10 d) ((sR M0 62 f).1 55 w) = amM M0 d i from by unfold amM; rw [ew, ixN (by omega)]; rfl]
        exact mdef_loop h hd F v1 v3 m (i + 1) _ (by omega) (by omega)
    · rw [if_neg (nI_nlt (by omega) (by omega)), show n - i = 0 by omega]; rfl
theorem mlost_loop (M0 : Mem) (F : Mem → Int32 → Int32 → Option (Int32 × Mem)) (v1 v3 : Int32) : ∀ (m i : Nat) (a : Int32), i ≤ 20 → 20 - i < m → lX10_days_83 F m (upI M0 51 9 a) v1 v3 (nI i) = F (upI (upI M0 51 9 (lsm (M0.1 72) (M0.1 51 13) i (20 - i) a)) 51 4 (M0.1 51 4 + 1)) v1 (v3 + 1)
  | 0, i, a, h1, h2 => absurd h2 (Nat.not_lt_zero _)
  | m + 1, i, a, h1, h2 => by
    rw [lX10_days_83]
    by_cases h : i < 20
    · rw [if_pos (lt20 h), ck_t (inN h (by omega)), ixN (by omega), nI_1, upI_upI, mlost_loop M0 F v1 v3 m (i + 1) _ (by omega) (by omega), show 20 - i = (20 - (i + 1)) + 1 by omega]; rfl
    · rw [if_neg (show ¬ nI i < (20 : Int32) from nI_nlt (b := 20) (by omega) (by omega)), show 20 - i = 0 by omega]; rfl
theorem ms_eq {M : Mem} {d n : Nat} (h : WM M d n) (hd : d ≤ 1000) (F : Mem → Int32 → Int32 → Option (Int32 × Mem)) (v1 v3 : Int32) : lX10_days_34 F fu M v1 v3 0 = F (ms n d M) v1 (v3 + 1) := by
  have hn := h.2.2.1
  have a := mdef_loop h hd F v1 v3 fu 0 (M.1 62) (by omega) (by rw [fu_v]; omega)
  rw [sR_self] at a
  rw [show lX10_days_34 F fu M v1 v3 0 = _ from a]
  have p := mlost_loop (sR M 62 (gF (M.1 63) (amM M d) 0 (n - 0) (M.1 62))) F v1 v3 fu 0 (M.1 51 9) (by omega) (by rw [fu_v]; omega)
  rw [show upI (sR M 62 (gF (M.1 63) (amM M d) 0 (n - 0) (M.1 62))) 51 9 (M.1 51 9) = sR M 62 (gF (M.1 63) (amM M d) 0 (n - 0) (M.1 62)) from by
    rw [upI_sR, show upd ((sR M 62 (gF (M.1 63) (amM M d) 0 (n - 0) (M.1 62))).1 51) 9 (M.1 51 9) = (sR M 62 (gF (M.1 63) (amM M d) 0 (n - 0) (M.1 62))).1 51 from by
      funext z; rw [upd_get]; split
      · rename_i hz; rw [hz]; rfl
      · rfl]
    exact sR_self _ 51] at p
  rw [show lX10_days_83 F fu (sR M 62 (gF (M.1 63) (amM M d) 0 (n - 0) (M.1 62))) v1 v3 0 = _ from p, Nat.sub_zero, Nat.sub_zero]
  unfold ms
  rw [show (sR M 62 (gF (M.1 63) (amM M d) 0 n (M.1 62))).1 51 4 = nI d from h.1, nI_1]
  rfl
theorem WX_cs {M : Mem} {d n : Nat} (h : WX M d n) : WX (cs n d M) (d + 1) n := ⟨rfl, h.2.1, h.2.2.1, h.2.2.2⟩
theorem WM_ms {M : Mem} {d n : Nat} (h : WM M d n) : WM (ms n d M) (d + 1) n := ⟨rfl, h.2.1, h.2.2.1, h.2.2.2.1, h.2.2.2.2⟩
def csN (n : Nat) : Nat → Nat → Mem → Mem
  | _, 0, M => M
  | d, k + 1, M => csN n (d + 1) k (cs n d M)
def msN (n : Nat) : Nat → Nat → Mem → Mem
  | _, 0, M => M
  | d, k + 1, M => msN n (d + 1) k (ms n d M)
theorem WX_now {n : Nat} : ∀ (k d : Nat) (M : Mem), WX M d n → WX (csN n d k M) (d + k) n
  | 0, d, M, h => h
  | k + 1, d, M, h => by rw [show d + (k + 1) = d + 1 + k by omega]; exact WX_now k (d + 1) _ (WX_cs h)
theorem WM_now {n : Nat} : ∀ (k d : Nat) (M : Mem), WM M d n → WM (msN n d k M) (d + k) n
  | 0, d, M, h => h
  | k + 1, d, M, h => by rw [show d + (k + 1) = d + 1 + k by omega]; exact WM_now k (d + 1) _ (WM_ms h)
theorem daysX {n N : Nat} (hN : N ≤ 1000) : ∀ (m i d : Nat) (M : Mem), i ≤ N → N - i < m → WX M d n → d + (N - i) ≤ 1000 → lX9_days_33 m M (nI N) (nI i) = some (nI (d + (N - i)), csN n d (N - i) M)
  | 0, i, d, M, h1, h2, _, _ => absurd h2 (Nat.not_lt_zero _)
  | m + 1, i, d, M, h1, h2, hW, hd => by
    rw [lX9_days_33]
    by_cases h : i < N
    · rw [if_pos (nI_lt h (by omega)), cs_eq hW (by omega), some_b, nI_1, daysX hN m (i + 1) (d + 1) _ (by omega) (by omega) (WX_cs hW) (by omega), show N - i = (N - (i + 1)) + 1 by omega, show d + 1 + (N - (i + 1)) = d + (N - (i + 1) + 1) by omega]; rfl
    · rw [if_neg (nI_nlt (by omega) (by omega)), show N - i = 0 by omega, hW.1]; rfl
theorem daysM {n N : Nat} (hN : N ≤ 1000) : ∀ (m i d : Nat) (M : Mem), i ≤ N → N - i < m → WM M d n → d + (N - i) ≤ 1000 → lX10_days_26 m M (nI N) (nI i) = some (nI (d + (N - i)), msN n d (N - i) M)
  | 0, i, d, M, h1, h2, _, _ => absurd h2 (Nat.not_lt_zero _)
  | m + 1, i, d, M, h1, h2, hW, hd => by
    rw [lX10_days_26]
    by_cases h : i < N
    · rw [if_pos (nI_lt h (by omega)), ms_eq hW (by omega), nI_1, daysM hN m (i + 1) (d + 1) _ (by omega) (by omega) (WM_ms hW) (by omega), show N - i = (N - (i + 1)) + 1 by omega, show d + 1 + (N - (i + 1)) = d + (N - (i + 1) + 1) by omega]; rfl
    · rw [if_neg (nI_nlt (by omega) (by omega)), show N - i = 0 by omega, hW.1]; rfl
theorem cs_row (n d : Nat) (M : Mem) {q : Nat} (h1 : q ≠ 15) (h2 : q ≠ 24) (h3 : q ≠ 0) : (cs n d M).1 q = M.1 q := by
  unfold cs; rw [upI_ne _ _ _ h3, upI_ne _ _ _ h2, sR_ne _ _ h1]
theorem ms_row (n d : Nat) (M : Mem) {q : Nat} (h1 : q ≠ 62) (h2 : q ≠ 51) : (ms n d M).1 q = M.1 q := by
  unfold ms; rw [upI_ne _ _ _ h2, upI_ne _ _ _ h2, sR_ne _ _ h1]
theorem cs15 (n d : Nat) (M : Mem) : (cs n d M).1 15 = gF (M.1 13) (amX M d) 0 n (M.1 15) := by
  unfold cs; rw [upI_ne _ _ _ (by decide), upI_ne _ _ _ (by decide), sR_row]
theorem cs24 (n d : Nat) (M : Mem) : (cs n d M).1 24 = upd (M.1 24) 0 (lsm (M.1 25) (M.1 2 0) 0 20 (M.1 24 0)) := by
  unfold cs; rw [upI_ne _ _ _ (by decide), upI_row, sR_ne _ _ (by decide)]
theorem cs0 (n d : Nat) (M : Mem) : (cs n d M).1 0 = upd (M.1 0) 0 (nI (d + 1)) := by
  unfold cs; rw [upI_row, upI_ne _ _ _ (by decide), sR_ne _ _ (by decide)]
theorem ms62 (n d : Nat) (M : Mem) : (ms n d M).1 62 = gF (M.1 63) (amM M d) 0 n (M.1 62) := by
  unfold ms; rw [upI_ne _ _ _ (by decide), upI_ne _ _ _ (by decide), sR_row]
theorem ms51 (n d : Nat) (M : Mem) : (ms n d M).1 51 = upd (upd (M.1 51) 9 (lsm (M.1 72) (M.1 51 13) 0 20 (M.1 51 9))) 4 (nI (d + 1)) := by
  unfold ms; rw [upI_row, upI_row, sR_ne _ _ (by decide)]
theorem amX_ms (n d d' : Nat) (M : Mem) : amX (ms n d M) d' = amX M d' := by
  unfold amX
  rw [ms_row n d M (by decide) (by decide), ms_row n d M (by decide) (by decide), ms_row n d M (by decide) (by decide), ms_row n d M (by decide) (by decide), ms_row n d M (by decide) (by decide), ms_row n d M (by decide) (by decide)]
theorem amM_cs (n d d' : Nat) (M : Mem) : amM (cs n d' M) d = amM M d := by
  unfold amM
  rw [cs_row n d' M (by decide) (by decide) (by decide), cs_row n d' M (by decide) (by decide) (by decide), cs_row n d' M (by decide) (by decide) (by decide), cs_row n d' M (by decide) (by decide) (by decide)]
theorem cs_2 (n d : Nat) (M : Mem) : (cs n d M).2 = M.2 := by unfold cs; rw [upI_2, upI_2]; rfl
theorem ms_2 (n d : Nat) (M : Mem) : (ms n d M).2 = M.2 := by unfold ms; rw [upI_2, upI_2]; rfl
theorem cs_ms (n d d' : Nat) (M : Mem) : ms n d (cs n d' M) = cs n d' (ms n d M) := by
  refine Prod.ext (funext fun q => ?_) (by rw [ms_2, cs_2, cs_2, ms_2])
  by_cases c1 : q = 15
  · rw [c1, ms_row n d _ (by decide) (by decide), cs15, cs15, amX_ms, ms_row n d _ (by decide) (by decide), ms_row n d _ (by decide) (by decide)]
  by_cases c2 : q = 24
  · rw [c2, ms_row n d _ (by decide) (by decide), cs24, cs24, ms_row n d _ (by decide) (by decide), ms_row n d _ (by decide) (by decide), ms_row n d _ (by decide) (by decide)]
  by_cases c3 : q = 0
  · rw [c3, ms_row n d _ (by decide) (by decide), cs0, cs0, ms_row n d _ (by decide) (by decide)]
  by_cases c4 : q = 62
  · rw [c4, cs_row n d' _ (by decide) (by decide) (by decide), ms62, ms62, amM_cs, cs_row n d' _ (by decide) (by decide) (by decide), cs_row n d' _ (by decide) (by decide) (by decide)]
  by_cases c5 : q = 51
  · rw [c5, cs_row n d' _ (by decide) (by decide) (by decide), ms51, ms51, cs_row n d' _ (by decide) (by decide) (by decide), cs_row n d' _ (by decide) (by decide) (by decide)]
  rw [ms_row n d _ c4 c5, cs_row n d' _ c1 c2 c3, cs_row n d' _ c1 c2 c3, ms_row n d _ c4 c5]
theorem csN_ms (n d : Nat) : ∀ (k d' : Nat) (M : Mem), ms n d (csN n d' k M) = csN n d' k (ms n d M)
  | 0, d', M => rfl
  | k + 1, d', M => by
    show ms n d (csN n (d' + 1) k (cs n d' M)) = csN n (d' + 1) k (cs n d' (ms n d M))
    rw [csN_ms n d k (d' + 1), cs_ms]
theorem cv_rg {f : Nat → Int32} {o : Int32} {d : Nat} (hd : d ≤ 1000) (hf : ∀ i, i ≤ 1000 → rg (f i) (-1) 99) (ho : rg o 0 99) : rg (cv f o d) 0 99 := by
  have hm : ∀ (k i : Nat) (b : Int32), rg b (-1) 99 → i + k ≤ 1001 → rg (mxr f i k b) (-1) 99 := by
    intro k
    induction k with
    | zero => intro i b hb _; exact hb
    | succ k ih =>
      intro i b hb hi
      refine ih (i + 1) _ ?_ (by omega)
      unfold rg
      rw [mx_i]
      obtain ⟨z1, z2⟩ := hf i (by omega)
      obtain ⟨z3, z4⟩ := hb
      omega
  have key : ∀ x : Int32, rg x (-1) 99 → ¬ x = -1 → rg x 0 99 := by
    intro x hx hne
    rw [eq_i, show (-1 : Int32).toInt = -1 from rfl] at hne
    exact ⟨by have := hx.1; omega, hx.2⟩
  unfold cv
  split
  · split
    · exact ho
    · rename_i h2
      exact key _ (hm _ _ _ ⟨by decide, by decide⟩ (by omega)) h2
  · rename_i h1
    exact key _ (hf d hd) h1
theorem gF_at (o am : Nat → Int32) : ∀ (k i : Nat) (f : Nat → Int32) (e : Nat), gF o am i k f e = if i ≤ e ∧ e < i + k ∧ ¬ o e = 0 then f e + am e else f e
  | 0, i, f, e => by rw [if_neg (by omega)]; rfl
  | k + 1, i, f, e => by
    show gF o am (i + 1) k (if o i = 0 then f else upd f i (f i + am i)) e = _
    rw [gF_at o am k (i + 1)]
    by_cases c : e = i
    · subst c
      rw [if_neg (by omega)]
      by_cases c2 : o e = 0
      · rw [if_pos c2, if_neg (fun z => z.2.2 c2)]
      · rw [if_neg c2, pk_us, if_pos ⟨by omega, by omega, c2⟩]
    · have e1 : (if o i = 0 then f else upd f i (f i + am i)) e = f e := by
        split
        · rfl
        · exact pk_un c
      rw [e1]
      by_cases c3 : i + 1 ≤ e ∧ e < i + 1 + k ∧ ¬ o e = 0
      · rw [if_pos c3, if_pos ⟨by omega, by omega, c3.2.2⟩]
      · rw [if_neg c3, if_neg (fun z => c3 ⟨by omega, by omega, z.2.2⟩)]
theorem day_Inv {M : Mem} {d n k q t l j : Nat} (hd : d + 1 ≤ 1000) (g : Gref M ∧ Gset M ∧ Gday M d ∧ Ggro M ∧ Gdef M d n k ∧ Gdue M n k ∧ Gcrk M n ∧ Grai M ∧ Grul M q ∧ Gslo M ∧ Gtra M t ∧ Gwal M ∧ Gfin M ∧ Glin M l ∧ Ggan M j) :
    (Gref (ms n d (cs n d M)) ∧ Gset (ms n d (cs n d M)) ∧ Gday (ms n d (cs n d M)) (d + 1) ∧ Ggro (ms n d (cs n d M)) ∧ Gdef (ms n d (cs n d M)) (d + 1) n k ∧ Gdue (ms n d (cs n d M)) n k ∧ Gcrk (ms n d (cs n d M)) n ∧ Grai (ms n d (cs n d M)) ∧ Grul (ms n d (cs n d M)) q ∧ Gslo (ms n d (cs n d M)) ∧ Gtra (ms n d (cs n d M)) t ∧ Gwal (ms n d (cs n d M)) ∧ Gfin (ms n d (cs n d M)) ∧ Glin (ms n d (cs n d M)) l ∧ Ggan (ms n d (cs n d M)) j) := by
  obtain ⟨g1, g2, g3, g4, g5, g6, g7, g8, g9, g10, g11, g12, g13, g14, g15⟩ := g
  refine ⟨g1, g2, ⟨⟨rfl, rfl, hd⟩, g3.2⟩, g4, ?_, g6, g7, g8, g9, ?_, g11, g12, g13, g14, g15⟩
  · obtain ⟨⟨n1, n2, n3⟩, ⟨k1, k2, k3⟩, q1, ⟨e9, e10, e11, e12, e13, e14, e15⟩, hdr⟩ := id g5
    have eam : amX M d = amM M d := by
      funext i
      unfold amX amM
      rw [g3.2.1.1, g3.2.1.2, g3.2.2.1.2.1, g3.2.2.1.2.2.2, g4.1, e12]
    refine ⟨⟨n1, n2, n3⟩, ⟨k1, k2, k3⟩, q1, ⟨e9, e10, e11, e12, e13, e14, ?_⟩, fun e he => ⟨(hdr e he).1, (hdr e he).2.1, (hdr e he).2.2.1, ?_⟩⟩
    · show gF (M.1 13) (amX M d) 0 n (M.1 15) = gF (M.1 63) (amM M d) 0 n (M.1 62)
      rw [eam, e13, e15]
    · show 0 ≤ (M.1 61 e).toInt ∧ (M.1 61 e).toInt ≤ (gF (M.1 63) (amM M d) 0 n (M.1 62) e).toInt ∧ (gF (M.1 63) (amM M d) 0 n (M.1 62) e).toInt ≤ 1049 + 75 * ((d + 1 : Nat) : Int)
      rw [gF_at]
      obtain ⟨s1, s2, s3⟩ := (hdr e he).2.2.2
      by_cases c : 0 ≤ e ∧ e < 0 + n ∧ ¬ M.1 63 e = 0
      · rw [if_pos c]
        obtain ⟨w, hw, ew⟩ := rg_of (b := 3) (hdr e he).2.2.1
        have hm : rg (amM M d e) 1 75 := by
          unfold amM
          rw [ew, ixN (by omega)]
          exact mg_rg (cv_rg (by omega) (fun i hi => (g3.2.2.2 i hi).1) ⟨by decide, by decide⟩) (g4.2 w (by omega))
        have := hm.1; have := hm.2
        rw [Int32.toInt_add, Int.bmod_eq_of_le (by omega) (by omega)]
        omega
      · rw [if_neg c]; omega
  · refine ⟨g10.1, ?_, g10.2.2⟩
    show lsm (M.1 25) (M.1 2 0) 0 20 (M.1 24 0) = lsm (M.1 72) (M.1 51 13) 0 20 (M.1 51 9)
    rw [g10.1, g2.1.1, g10.2.1]
theorem days_Inv {n k q t l j : Nat} : ∀ (N d : Nat) (M : Mem), d + N ≤ 1000 → (Gref M ∧ Gset M ∧ Gday M d ∧ Ggro M ∧ Gdef M d n k ∧ Gdue M n k ∧ Gcrk M n ∧ Grai M ∧ Grul M q ∧ Gslo M ∧ Gtra M t ∧ Gwal M ∧ Gfin M ∧ Glin M l ∧ Ggan M j) → Inv (msN n d N (csN n d N M))
  | 0, d, M, _, g => ⟨d, n, k, q, t, l, j, g⟩
  | N + 1, d, M, hd, g => by
    show Inv (msN n (d + 1) N (ms n d (csN n (d + 1) N (cs n d M))))
    rw [csN_ms]
    exact days_Inv N (d + 1) _ (by omega) (day_Inv (by omega) g)
theorem csN_row {n : Nat} {q : Nat} (h1 : q ≠ 15) (h2 : q ≠ 24) (h3 : q ≠ 0) : ∀ (k d : Nat) (M : Mem), (csN n d k M).1 q = M.1 q
  | 0, d, M => rfl
  | k + 1, d, M => by
    show (csN n (d + 1) k (cs n d M)).1 q = _
    rw [csN_row h1 h2 h3 k (d + 1)]
    unfold cs
    rw [upI_ne _ _ _ h3, upI_ne _ _ _ h2, sR_ne _ _ h1]
set_option maxHeartbeats 4000000 in
theorem op_days {M : Mem} (hI : Inv M) (a : Int32) : Eqv (xX9_days M a) (fun M1 => xX10_days M1 a) := by
  obtain ⟨d, n, k, q, t, l, j, g1, g2, g3, g4, g5, g6, g7, g8, g9, g10, g11, g12, g13, g14, g15⟩ := id hI
  unfold xX9_days xX10_days
  simp only [b_isDay, b_isKind, b_isMile, b_isDefect, b_isIn, b_wrong, b_isMile10, b_isDefect10, r9_1, r9_2, r9_3, r9_4, r9_6, r10_1, r10_2, r10_3, r10_4, r10_6, t9_1, t9_2, t9_3, t9_4, t9_6, t10_1, t10_2, t10_3, t10_4, t10_6, some_b, i10, i00, im1, im2, im3, im4, im6, if_true, if_false, g3.1.1, g3.1.2.1]
  refine Eqv_ite (fun h1 => ?_) (fun h1 => ?_)
  · refine Eqv_some ?_
    simp +decide only [h1, if_true, if_false, ite_not, not_true_eq_false, not_false_eq_true, upI_get, upd_get, g3.1.1, g3.1.2.1]
    exact Fin_some (Inv_ref hI 4)
  refine Eqv_ite (fun h2 => ?_) (fun h2 => ?_)
  · refine Eqv_some ?_
    simp +decide only [h1, if_true, if_false, ite_not, not_true_eq_false, not_false_eq_true, upI_get, upd_get, g3.1.1, g3.1.2.1, h2]
    exact Fin_some (Inv_ref hI 6)
  have hd := g3.1.2.2
  have e1 : (1000 : Int32) - nI d = nI (1000 - d) := by
    rw [show (1000 : Int32) = nI 1000 from rfl, pk_sub (by omega)]
  rw [e1] at h2
  obtain ⟨N, hN, rfl⟩ : ∃ N : Nat, N ≤ 1000 - d ∧ a = nI N := by
    refine rg_of (b := 1000 - d) ⟨?_, ?_⟩
    · rw [lt_i, show (1 : Int32).toInt = 1 from rfl] at h1; omega
    · rw [lt_i, nI_toInt (by omega)] at h2; omega
  have wx : WX M d n := ⟨g3.1.1, g5.1.1, g5.1.2.2, fun i hi => by rw [g5.2.2.2.1.2.2.2.1]; exact (g5.2.2.2.2 i hi).2.2.1⟩
  have wm : WM M d n := ⟨g3.1.2.1, g5.1.2.1, g5.1.2.2, fun i hi => (g5.2.2.2.2 i hi).2.2.1, fun i hi => ⟨(g3.2.2.2 i hi).1.1, (g3.2.2.2 i hi).2.1⟩⟩
  have kX : lX9_days_33 fu M (nI N) 0 = some (nI (d + (N - 0)), csN n d (N - 0) M) := daysX (by omega) fu 0 d M (by omega) (by rw [fu_v]; omega) wx (by omega)
  have r51 : (csN n d N M).1 51 = M.1 51 := csN_row (by decide) (by decide) (by decide) N d M
  have wm2 : WM (csN n d N M) d n := by
    unfold WM
    rw [r51, csN_row (q := 59) (by decide) (by decide) (by decide) N d M, csN_row (q := 53) (by decide) (by decide) (by decide) N d M, csN_row (q := 54) (by decide) (by decide) (by decide) N d M]
    exact wm
  have kM : lX10_days_26 fu (csN n d N M) (nI N) 0 = some (nI (d + (N - 0)), msN n d (N - 0) (csN n d N M)) := daysM (by omega) fu 0 d _ (by omega) (by rw [fu_v]; omega) wm2 (by omega)
  rw [Nat.sub_zero] at kX kM
  rw [kX]
  refine Eqv_some ?_
  simp +decide only [h1, if_false, r51, g3.1.2.1, e1, h2, i00, if_true]
  rw [kM]
  exact Fin_some (days_Inv N d M (by omega) ⟨g1, g2, g3, g4, g5, g6, g7, g8, g9, g10, g11, g12, g13, g14, g15⟩)
