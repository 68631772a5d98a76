/-! the class's answers -/
theorem z_lt {x : Int32} (h : x < 0) : x.toInt < 0 := by have h1 := (tI_lt x 0).mp h; have h7 : (0 : Int32).toInt = 0 := (by decide); omega
theorem z_nlt {x : Int32} (h : ¬ x < 0) : 0 ≤ x.toInt := by
  rcases Int.lt_or_le x.toInt 0 with q | q
  · exact absurd ((tI_lt x 0).mpr (by have h7 : (0 : Int32).toInt = 0 := (by decide); omega)) h
  · exact q
theorem n_le {k : Nat} {x : Int32} (hk : k < 2 ^ 31) : nI k ≤ x ↔ (k : Int) ≤ x.toInt := by rw [tI_le, nI_toInt hk]
theorem x_le {k : Nat} {x : Int32} (hk : k < 2 ^ 31) : x ≤ nI k ↔ x.toInt ≤ (k : Int) := by rw [tI_le, nI_toInt hk]
theorem x_lt {k : Nat} {x : Int32} (hk : k < 2 ^ 31) : x < nI k ↔ x.toInt < (k : Int) := by rw [tI_lt, nI_toInt hk]
theorem n_lt {k : Nat} {x : Int32} (hk : k < 2 ^ 31) : nI k < x ↔ (k : Int) < x.toInt := by rw [tI_lt, nI_toInt hk]
theorem wth_iff {x : Int32} {a b : Nat} (ha : a < 2 ^ 31) (hb : b < 2 ^ 31) : wth x (nI a) (nI b) = decide ((a : Int) ≤ x.toInt ∧ x.toInt ≤ b) := decide_eq_decide.mpr (by rw [n_le ha, x_le hb])
theorem e0_iff {x : Int32} : x = 0 ↔ x.toInt = 0 := by
  constructor
  · intro h; rw [h]; decide
  · intro h; exact Int32.toInt_inj.mp (by rw [h]; decide)
theorem en_iff {x : Int32} {k : Nat} (hk : k < 2 ^ 31) : x = nI k ↔ x.toInt = k := by
  constructor
  · intro h; rw [h, nI_toInt hk]
  · intro h; exact Int32.toInt_inj.mp (by rw [h, nI_toInt hk])
/-- Euclid's steps, n of them at most -/
def eu : Nat → Nat → Nat → Nat
  | 0, a, _ => a
  | n + 1, a, b => if b = 0 then a else eu n b (a % b)
theorem eu_s {n a b i : Nat} (h : i < n) (hb : ¬ b = 0) : eu (n - (i + 1)) b (a % b) = eu (n - i) a b := by
  rw [show n - i = (n - (i + 1)) + 1 by omega, eu, if_neg hb]
theorem eu_z {n a b : Nat} (hb : b = 0) : eu n a b = a := by
  cases n with
  | zero => rfl
  | succ n => rw [eu, if_pos hb]
theorem eu_e {n a b i : Nat} (h : n ≤ i) : eu (n - i) a b = a := by rw [show n - i = 0 by omega]; rfl
theorem eu_gcd : ∀ k n a b : Nat, b < 2 ^ k → 2 * k ≤ n → eu (n + 2) a b = Nat.gcd a b
  | 0, n, a, b, h, _ => by
    have hb : b = 0 := by omega
    rw [eu_z hb, hb, Nat.gcd_zero_right]
  | k + 1, n, a, b, h, hn => by
    by_cases hb : b = 0
    · rw [eu_z hb, hb, Nat.gcd_zero_right]
    · rw [eu, if_neg hb]
      have hr := Nat.mod_lt a (show 0 < b by omega)
      by_cases hr0 : a % b = 0
      · rw [eu_z hr0, Nat.gcd_comm, Nat.gcd_rec, hr0, Nat.gcd_zero_left]
      · rw [show n + 1 = n + 1 from rfl, eu, if_neg hr0]
        obtain ⟨m, rfl⟩ : ∃ m, n = m + 2 := ⟨n - 2, by omega⟩
        have hlt : b % (a % b) < 2 ^ k := by
          have h1 := Nat.mod_lt b (show 0 < a % b by omega)
          have h2 := Nat.div_add_mod b (a % b)
          have h3 : 1 ≤ b / (a % b) := (Nat.one_le_div_iff (by omega)).mpr (by omega)
          have h4 := Nat.mul_le_mul (Nat.le_refl (a % b)) h3
          rw [Nat.pow_succ] at h
          omega
        rw [eu_gcd k m (a % b) (b % (a % b)) hlt (by omega), Nat.gcd_comm, ← Nat.gcd_rec, Nat.gcd_comm, Nat.gcd_comm a b, Nat.gcd_rec b a, Nat.gcd_comm]
def ceggL (hh fS fU : Nat → Nat) (fK : Nat → Int32) (ib e : Nat) : List Int32 := [nI (hh e), zI (ib.testBit e), nI (fS e), nI (fU e), fK e]
def ceggR (E : Nat) (hh fS fU : Nat → Nat) (fK : Nat → Int32) (ib : Nat) (x w : Int32) : Int32 := if isE E x then swA (ceggL hh fS fU fK ib (ix x)) (-102) w else -101
def tnth (t : Bool) (n : Nat) : Nat := cond t n (10 - n)
def cspC (tb tr : Nat) (fB fW : Nat → Nat) (fi : Nat) (x : Int32) (t : Bool) : Bool := cbS fB fW (ix x) fi (tnth t tb) (tnth t tr)
def cspOK (E tb tr : Nat) (fB fW : Nat → Nat) (fi ib sn : Nat) (x : Int32) (t : Bool) : Bool := isE E x && (ib.testBit (ix x) && (cspC tb tr fB fW fi x t && decide (sn < 8)))
def cspR (E tb tr : Nat) (fB fW : Nat → Nat) (fi ib sn : Nat) (x : Int32) (t : Bool) : Int32 := if isE E x then (if ib.testBit (ix x) then (if cspC tb tr fB fW fi x t then (if sn < 8 then nI (sn + 1) else -104) else -103) else -103) else -101
def kbS (fB fW : Nat → Nat) (fi : Nat) (x : Int32) (b : Bool) : Bool := cbS fB fW (ix x) fi (cond b 1 0) (cond b 0 1)
def cstS (E : Nat) (fB fW : Nat → Nat) (fi ib : Nat) (x w : Int32) : Bool := isE E x && (wth w (nI 0) (nI 2) && (ib.testBit (ix x) && (!decide (w = nI 2) && kbS fB fW fi x (decide (w = nI 1)))))
def ccrOK (E : Nat) (fB fW : Nat → Nat) (fi ib : Nat) (x : Int32) (b : Bool) : Bool := isE E x && (ib.testBit (ix x) && kbS fB fW fi x b)
def clkR (E : Nat) (fB fW : Nat → Nat) (fi : Nat) (x p : Int32) : Int64 := if isE E x then (if wth p (nI 0) (nI 1) then lN (low (smB fB fW (ix x) fi) (smN fW fi) p) else -102) else -101
def ctQ (tb tr b r t : Nat) (k : Nat) : Bool := decide (0 < b * tb ^ k + r * tr ^ k ∧ (b * tb ^ k + r * tr ^ k) * t ≤ b * tb ^ k * 10)
def ctR (E tb tr : Nat) (fB fW : Nat → Nat) (fi : Nat) (x t : Int32) : Int32 := if isE E x then (if wth t (nI 1) (nI 9) then trn (ctQ tb tr (smB fB fW (ix x) fi) (smN fW fi - smB fB fW (ix x) fi) (ix t)) 6 0 else -102) else -101
theorem ctQ_a {tb tr b r t k : Nat} (h : b * tb ^ k + r * tr ^ k ≤ 0) : ctQ tb tr b r t k = false := decide_eq_false (by omega)
theorem ctQ_b {tb tr b r t k : Nat} (h : b * tb ^ k * 10 < (b * tb ^ k + r * tr ^ k) * t) : ctQ tb tr b r t k = false := decide_eq_false (by omega)
theorem ctQ_t {tb tr b r t k : Nat} (h : ¬ b * tb ^ k + r * tr ^ k ≤ 0) (h2 : ¬ b * tb ^ k * 10 < (b * tb ^ k + r * tr ^ k) * t) : ctQ tb tr b r t k = true := decide_eq_true (by omega)
theorem pow9 {x k : Nat} (hx : x ≤ 9) (hk : k ≤ 5) : x ^ k ≤ 59049 := Nat.le_trans (Nat.pow_le_pow_left hx k) (Nat.pow_le_pow_right (by decide) hk)
def crkR (E fa : Nat) (fB fW : Nat → Nat) (fi ib : Nat) (x p : Int32) : Int64 := if isE E x then (if wth p (nI 0) (nI 1) then (if ib.testBit (ix x) then lN (low ((smN fW fi - smB fB fW (ix x) fi) * fa) (smN fW fi * 10) p) else -103) else -102) else -101
def cftN (fB : Nat → Nat) (fi E : Nat) (q : Int32) : Int32 := if q = 0 then nI fi else if q = nI 1 then nI (srB fB (2 ^ E - 1) fi) else nI (srN fB (2 ^ E - 1) fi)
def cftR (fB : Nat → Nat) (fi E : Nat) (q : Int32) : Int32 := if wth q (nI 0) (nI 2) then (if E = 0 then -103 else cftN fB fi E q) else -102
def cmI (tb tr b : Nat) : Nat × Nat → Nat → Nat × Nat := fun s e => (if decide (drV (drS s.2) 10 < mTn tb tr b e) = b.testBit e then s.1 + 1 else s.1, drS s.2)
theorem cmI_sd (tb tr b : Nat) (s : Nat × Nat) (h : s.2 < 2147483648) : ∀ i, (fo (cmI tb tr b) s i).2 < 2147483648
  | 0 => h
  | _ + 1 => drS_lt _
theorem cmI_le (tb tr b : Nat) (s : Nat × Nat) : ∀ i, (fo (cmI tb tr b) s i).1 ≤ s.1 + i
  | 0 => Nat.le_refl _
  | i + 1 => by
    have h := cmI_le tb tr b s i
    have h5 : (fo (cmI tb tr b) s (i + 1)).1 ≤ (fo (cmI tb tr b) s i).1 + 1 := by
      show (if _ then _ else _) ≤ _
      split
      · exact Nat.le_refl _
      · exact Nat.le_succ _
    omega
def cmO (tb tr E : Nat) (fB : Nat → Nat) (fi : Nat) : Nat × Nat → Nat → Nat × Nat := fun s _ => (s.1 + (fo (cmI tb tr (fB (drV (drS s.2) fi))) (0, drS s.2) E).1, (fo (cmI tb tr (fB (drV (drS s.2) fi))) (0, drS s.2) E).2)
theorem cmO_sd (tb tr E : Nat) (fB : Nat → Nat) (fi : Nat) (s : Nat × Nat) (h : s.2 < 2147483648) : ∀ i, (fo (cmO tb tr E fB fi) s i).2 < 2147483648
  | 0 => h
  | i + 1 => cmI_sd tb tr (fB (drV (drS (fo (cmO tb tr E fB fi) s i).2) fi)) (0, drS (fo (cmO tb tr E fB fi) s i).2) (drS_lt _) E
theorem cmO_le (tb tr E : Nat) (fB : Nat → Nat) (fi : Nat) (s : Nat × Nat) : ∀ i, (fo (cmO tb tr E fB fi) s i).1 ≤ s.1 + i * E
  | 0 => by rw [Nat.zero_mul]; exact Nat.le_refl _
  | i + 1 => by
    have h := cmO_le tb tr E fB fi s i
    have h2 := cmI_le tb tr (fB (drV (drS (fo (cmO tb tr E fB fi) s i).2) fi)) (0, drS (fo (cmO tb tr E fB fi) s i).2) E
    show (fo (cmO tb tr E fB fi) s i).1 + _ ≤ _
    rw [Nat.add_mul]
    dsimp only at h2
    omega
def cmN (tb tr E : Nat) (fB : Nat → Nat) (fi t sd : Nat) (q : Int32) : Int32 := if q = 0 then nI (fo (cmO tb tr E fB fi) (0, sd) t).1 else nI (fo (cmO tb tr E fB fi) (0, sd) t).2
def cmR (tb tr E : Nat) (fB : Nat → Nat) (fi : Nat) (t sd q : Int32) : Int32 := if morB t sd q then (if E = 0 then -103 else cmN tb tr E fB fi (ix t) (ix sd) q) else -102
theorem rdH_lt {cp hh : Nat → Nat} (hcp : ∀ k, cp k < 128) (hh0 : ∀ k, hh k < 1000) : ∀ n k, fo (rdH cp) hh n k < 1000
  | 0, k => hh0 k
  | n + 1, k => by
    have h := rdH_lt hcp hh0 n k
    show updN (fo (rdH cp) hh n) n (cp (7 + n) - 48) k < 1000
    unfold updN; split
    · have := hcp (7 + n); omega
    · exact h
theorem rdH_at {cp hh : Nat → Nat} : ∀ n k, k < n → fo (rdH cp) hh n k = cp (7 + k) - 48
  | 0, k, h => by omega
  | n + 1, k, h => by
    show updN (fo (rdH cp) hh n) n (cp (7 + n) - 48) k = _
    by_cases hk : k = n
    · rw [hk, updN_s]
    · rw [updN_n hk]; exact rdH_at n k (by omega)
theorem hbP_le {hh : Nat → Nat} {E b : Nat} (h : ∀ k, k < E → hh k ≤ 4) : ∀ i, i ≤ E → fo (hbF hh b) 1 i ≤ 4 ^ i
  | 0, _ => Nat.le_refl _
  | i + 1, hi => by
    have h1 := hbP_le (b := b) h i (by omega)
    show hbF hh b (fo (hbF hh b) 1 i) i ≤ 4 ^ (i + 1)
    have h2 := h i (by omega)
    have h3 := Nat.mul_le_mul h1 h2
    rw [Nat.pow_succ]
    show (if b.testBit i then fo (hbF hh b) 1 i * hh i else fo (hbF hh b) 1 i) ≤ 4 ^ i * 4
    split <;> omega
theorem rdH_hb {cp : Nat → Nat} {n : Nat} (hcp : ∀ k, cp k < 128) (hk : kOK cp n = true) (hh : Nat → Nat) : ∀ b, b < 64 → hbP (fo (rdH cp) hh (cp 0 - 48)) (cp 0 - 48) b < 2 ^ 63 := by
  intro b _
  obtain ⟨⟨d1, d2, d3, d4, d5, d6, d7, d8, d9, d10, d11⟩, hn7, hn9⟩ := kOK_d hcp hk
  have h1 := hbP_le (hh := fo (rdH cp) hh (cp 0 - 48)) (E := cp 0 - 48) (b := b) (fun k hk => by
    rw [rdH_at _ _ hk]
    have := d11 (7 + k) (by omega) (by omega)
    omega) (cp 0 - 48) (Nat.le_refl _)
  have h2 : 4 ^ (cp 0 - 48) ≤ 4 ^ 6 := Nat.pow_le_pow_right (by decide) (by omega)
  exact Nat.lt_of_le_of_lt (Nat.le_trans h1 h2) (by decide)
set_option maxHeartbeats 4000000 in
set_option maxRecDepth 100000 in
/-- BoiledEggs.isPart  -/
theorem k_X10_isPart (l : Launch) (g : GG) (xp : Int32)  : Met l yX10_isPart wsX10_isPart ({ frames := 0, cells := 0, slots := 0, locals := 0 }) (pS g [.int xp] []) (vp_Si (fun r => r = (zI (wth xp (nI 0) (nI 1))))) 0 0 noF := by
  refine metS (cc := cX10_isPart) (maxL := 1) (ret := (some .boolean)) (by decide) rfl (Nat.le_of_ble_eq_true rfl) ?_
  intro p e s m below meth c hx hb hr hts hown hlocks hml hC hP ls hl
  have hl : lv_has ls 1 [(0, .int xp)] := hl
  have hown : s.vm.findClass RX10 = some m.cls := hown
  have hts : ∀ w ∈ wsX10_isPart, w.before ([.int xp] : List Value).toArray s = true := hts
  refine lv_iload_n hx hb dX10_isPart_0 rfl (lv_at hl 0 rfl) ?_
  refine lv_if_eq (tgt := 9) hx hb dX10_isPart_1 (by decide) (fun c1 => ?_) (fun c1 => ?_)
  ·refine lv_iconst (v := nI 1) hx hb dX10_isPart_9 (by decide) ?_
   refine lv_goto (tgt := 14) hx hb dX10_isPart_10 (by decide) ?_
   exact retSz hx hb hr hlocks (by decide) (zI_1 (by rw [wth_iff (by decide) (by decide), e0_iff.mp c1]; decide)) dX10_isPart_14
  ·refine lv_iload_n hx hb dX10_isPart_4 rfl (lv_at hl 0 rfl) ?_
   refine lv_iconst (v := nI 1) hx hb dX10_isPart_5 (by decide) ?_
   refine lv_icmp_ne (tgt := 13) hx hb dX10_isPart_6 (by decide) (fun c6 => ?_) (fun c6 => ?_)
   ·refine lv_iconst (v := nI 0) hx hb dX10_isPart_13 (by decide) ?_
    exact retSz hx hb hr hlocks (by decide) (zI_0 (by rw [wth_iff (by decide) (by decide)]; have h1 : ¬ xp.toInt = 0 := fun h => c1 (e0_iff.mpr h); have h2 : ¬ xp.toInt = ((1 : Nat) : Int) := fun h => c6 ((en_iff (by decide)).mpr h); exact decide_eq_false (by omega))) dX10_isPart_14
   ·refine lv_iconst (v := nI 1) hx hb dX10_isPart_9 (by decide) ?_
    refine lv_goto (tgt := 14) hx hb dX10_isPart_10 (by decide) ?_
    exact retSz hx hb hr hlocks (by decide) (zI_1 (by rw [c6]; decide)) dX10_isPart_14

set_option maxHeartbeats 4000000 in
set_option maxRecDepth 100000 in
/-- BoiledEggs.isRawNumber  -/
theorem k_X10_isRawNumber (l : Launch) (g : GG) (xp : Int32)  : Met l yX10_isRawNumber wsX10_isRawNumber ({ frames := 0, cells := 0, slots := 0, locals := 0 }) (pS g [.int xp] []) (vp_Si (fun r => r = (zI (wth xp (nI 1) (nI 6))))) 0 0 noF := by
  refine metS (cc := cX10_isRawNumber) (maxL := 1) (ret := (some .boolean)) (by decide) rfl (Nat.le_of_ble_eq_true rfl) ?_
  intro p e s m below meth c hx hb hr hts hown hlocks hml hC hP ls hl
  have hl : lv_has ls 1 [(0, .int xp)] := hl
  have hown : s.vm.findClass RX10 = some m.cls := hown
  have hts : ∀ w ∈ wsX10_isRawNumber, w.before ([.int xp] : List Value).toArray s = true := hts
  refine lv_iload_n hx hb dX10_isRawNumber_0 rfl (lv_at hl 0 rfl) ?_
  refine lv_iconst (v := nI 1) hx hb dX10_isRawNumber_1 (by decide) ?_
  refine lv_icmp_lt (tgt := 15) hx hb dX10_isRawNumber_2 (by decide) (fun c2 => ?_) (fun c2 => ?_)
  ·refine lv_iconst (v := nI 0) hx hb dX10_isRawNumber_15 (by decide) ?_
   exact retSz hx hb hr hlocks (by decide) (zI_0 (decide_eq_false (fun h9 => absurd h9.1 (Int32.not_le.mpr c2)))) dX10_isRawNumber_16
  ·refine lv_iload_n hx hb dX10_isRawNumber_5 rfl (lv_at hl 0 rfl) ?_
   refine lv_bipush (v := nI 6) hx hb dX10_isRawNumber_6 (by decide) ?_
   refine lv_icmp_gt (tgt := 15) hx hb dX10_isRawNumber_8 (by decide) (fun c8 => ?_) (fun c8 => ?_)
   ·refine lv_iconst (v := nI 0) hx hb dX10_isRawNumber_15 (by decide) ?_
    exact retSz hx hb hr hlocks (by decide) (zI_0 (decide_eq_false (fun h9 => absurd h9.2 (Int32.not_le.mpr c8)))) dX10_isRawNumber_16
   ·refine lv_iconst (v := nI 1) hx hb dX10_isRawNumber_11 (by decide) ?_
    refine lv_goto (tgt := 16) hx hb dX10_isRawNumber_12 (by decide) ?_
    exact retSz hx hb hr hlocks (by decide) (zI_1 (decide_eq_true ⟨Int32.not_lt.mp c2, Int32.not_lt.mp c8⟩)) dX10_isRawNumber_16

set_option maxHeartbeats 4000000 in
set_option maxRecDepth 100000 in
/-- BoiledEggs.isKind  -/
theorem k_X10_isKind (l : Launch) (g : GG) (xp : Int32)  : Met l yX10_isKind wsX10_isKind ({ frames := 0, cells := 0, slots := 0, locals := 0 }) (pS g [.int xp] []) (vp_Si (fun r => r = (zI (wth xp (nI 0) (nI 4))))) 0 0 noF := by
  refine metS (cc := cX10_isKind) (maxL := 1) (ret := (some .boolean)) (by decide) rfl (Nat.le_of_ble_eq_true rfl) ?_
  intro p e s m below meth c hx hb hr hts hown hlocks hml hC hP ls hl
  have hl : lv_has ls 1 [(0, .int xp)] := hl
  have hown : s.vm.findClass RX10 = some m.cls := hown
  have hts : ∀ w ∈ wsX10_isKind, w.before ([.int xp] : List Value).toArray s = true := hts
  refine lv_iload_n hx hb dX10_isKind_0 rfl (lv_at hl 0 rfl) ?_
  refine lv_if_lt (tgt := 13) hx hb dX10_isKind_1 (by decide) (fun c1 => ?_) (fun c1 => ?_)
  ·refine lv_iconst (v := nI 0) hx hb dX10_isKind_13 (by decide) ?_
   exact retSz hx hb hr hlocks (by decide) (zI_0 (by rw [wth_iff (by decide) (by decide)]; have := z_lt c1; exact decide_eq_false (by omega))) dX10_isKind_14
  ·refine lv_iload_n hx hb dX10_isKind_4 rfl (lv_at hl 0 rfl) ?_
   refine lv_iconst (v := nI 5) hx hb dX10_isKind_5 (by decide) ?_
   refine lv_icmp_ge (tgt := 13) hx hb dX10_isKind_6 (by decide) (fun c6 => ?_) (fun c6 => ?_)
   ·refine lv_iconst (v := nI 0) hx hb dX10_isKind_13 (by decide) ?_
    exact retSz hx hb hr hlocks (by decide) (zI_0 (by rw [wth_iff (by decide) (by decide)]; have := (n_le (by decide)).mp c6; exact decide_eq_false (by omega))) dX10_isKind_14
   ·refine lv_iconst (v := nI 1) hx hb dX10_isKind_9 (by decide) ?_
    refine lv_goto (tgt := 14) hx hb dX10_isKind_10 (by decide) ?_
    exact retSz hx hb hr hlocks (by decide) (zI_1 (by rw [wth_iff (by decide) (by decide)]; have := z_nlt c1; have h2 : ¬ ((5 : Nat) : Int) ≤ xp.toInt := fun h => c6 ((n_le (by decide)).mpr h); exact decide_eq_true (by omega))) dX10_isKind_14

set_option maxHeartbeats 4000000 in
set_option maxRecDepth 100000 in
/-- BoiledEggs.with  -/
theorem k_X10_with (l : Launch) (g : GG) (xh : Int64) (xv : Int64)  : Met l yX10_with wsX10_with ({ frames := 0, cells := 0, slots := 0, locals := 0 }) (pS g [.long xh, .long xv] []) (vp_Sl (fun r => r = (mixH xh xv))) 0 0 noF := by
  refine metS (cc := cX10_with) (maxL := 4) (ret := (some .long)) (by decide) rfl (Nat.le_of_ble_eq_true rfl) ?_
  intro p e s m below meth c hx hb hr hts hown hlocks hml hC hP ls hl
  have hl : lv_has ls 4 [(0, .long xh), (2, .long xv)] := hl
  have hown : s.vm.findClass RX10 = some m.cls := hown
  have hts : ∀ w ∈ wsX10_with, w.before ([.long xh, .long xv] : List Value).toArray s = true := hts
  have k313 := hts (.constantLong RX10 313 (31)) (by decide +kernel)
  refine lv_ldc2 hx hb hown k313 dX10_with_0 ?_
  refine top_l (y := lN 31) (by decide) ?_
  refine lv_lload_n hx hb dX10_with_3 rfl (lv_at hl 0 rfl) ?_
  refine lv_lmul hx hb dX10_with_4 ?_
  refine lv_lload_n hx hb dX10_with_5 rfl (lv_at hl 1 rfl) ?_
  refine lv_ladd hx hb dX10_with_6 ?_
  exact retSl hx hb hr hlocks (rfl) dX10_with_7

set_option maxHeartbeats 4000000 in
set_option maxRecDepth 100000 in
/-- BoiledEggs.commonDivisor  -/
theorem k_X10_commonDivisor (l : Launch) (g : GG) (xa : Nat) (xb : Nat) (ha0 : xa < 2 ^ 63) (hb0 : xb < 2 ^ 63) : Met l yX10_commonDivisor wsX10_commonDivisor ({ frames := 0, cells := 0, slots := 0, locals := 0 }) (pS g [.long (lN xa), .long (lN xb)] []) (vp_Sl (fun r => r = (lN (eu 100 xa xb)))) 0 0 noF := by
  refine metS (cc := cX10_commonDivisor) (maxL := 11) (ret := (some .long)) (by decide) rfl (Nat.le_of_ble_eq_true rfl) ?_
  intro p e s m below meth c hx hb hr hts hown hlocks hml hC hP ls hl
  have hl : lv_has ls 11 [(0, .long (lN xa)), (2, .long (lN xb))] := hl
  have hown : s.vm.findClass RX10 = some m.cls := hown
  have hts : ∀ w ∈ wsX10_commonDivisor, w.before ([.long (lN xa), .long (lN xb)] : List Value).toArray s = true := hts
  refine lv_lload_n hx hb dX10_commonDivisor_0 rfl (lv_at hl 0 rfl) ?_
  refine lv_lstore (lv' := [(4, .long (lN xa)), (0, .long (lN xa)), (2, .long (lN xb))]) hx hb dX10_commonDivisor_1 hl (by decide) rfl (fun ls hl => ?_)
  refine lv_lload_n hx hb dX10_commonDivisor_3 rfl (lv_at hl 2 rfl) ?_
  refine lv_lstore (lv' := [(6, .long (lN xb)), (4, .long (lN xa)), (0, .long (lN xa)), (2, .long (lN xb))]) hx hb dX10_commonDivisor_4 hl (by decide) rfl (fun ls hl => ?_)
  refine lv_iconst (v := nI 0) hx hb dX10_commonDivisor_6 (by decide) ?_
  refine lv_istore (lv' := [(8, .int (nI 0)), (6, .long (lN xb)), (4, .long (lN xa)), (0, .long (lN xa)), (2, .long (lN xb))]) hx hb dX10_commonDivisor_7 hl (by decide) rfl (fun ls hl => ?_)
  have hL9 : ∀ (n_9 : Nat) (i : Nat) (u : Nat) (v : Nat), 100 - i < n_9 → (i ≤ 100) → (u < 2 ^ 63) → (v < 2 ^ 63) → (eu (100 - i) u v = eu 100 xa xb) → ∀ ls : Array Slot, lv_has ls 11 [(0, .long (lN xa)), (2, .long (lN xb)), (4, .long (lN u)), (6, .long (lN v)), (8, .int (nI i))] → W p l e ({ frames := 0, cells := 0, slots := 0, locals := 0 }) s m ([.long (lN xa), .long (lN xb)] : List Value).toArray below meth c s.heap [] 0 0 (MQ below (vp_Sl (fun r => r = (lN (eu 100 xa xb)))) ([.long (lN xa), .long (lN xb)] : List Value).toArray s 0 0 noF) (F0 m 9 ls []) := by
   intro n_9
   induction n_9 with
   | zero => intro i u v hn_9; exact absurd hn_9 (Nat.not_lt_zero _)
   | succ n_9 ih9 =>
    intro i u v hn_9 hi hu hv hf ls hl
    refine lv_iload hx hb dX10_commonDivisor_9 (lv_at hl 4 rfl) ?_
    refine lv_bipush (v := nI 100) hx hb dX10_commonDivisor_11 (by decide) ?_
    refine lv_icmp_ge (tgt := 44) hx hb dX10_commonDivisor_13 (by decide) (fun c13 => ?_) (fun c13 => ?_)
    ·have c13 : 100 ≤ i := (nI_leI (a := 100) (b := i) (by omega) (by omega)).mp c13
     refine lv_lload hx hb dX10_commonDivisor_44 (lv_at hl 2 rfl) ?_
     exact retSl hx hb hr hlocks (by rw [← hf, eu_e (by omega)]) dX10_commonDivisor_46
    ·have c13 : ¬ 100 ≤ i := fun h9 => c13 ((nI_leI (a := 100) (b := i) (by omega) (by omega)).mpr h9)
     refine lv_lload hx hb dX10_commonDivisor_16 (lv_at hl 3 rfl) ?_
     refine lv_lconst (v := lN 0) hx hb dX10_commonDivisor_18 (by decide) ?_
     refine lc_eq (tgt := 44) hx hb dX10_commonDivisor_19 dX10_commonDivisor_20 (by decide) (fun c19 => ?_) (fun c19 => ?_)
     ·have c19 : v = 0 := (pk_lEQ (a := v) (b := 0) (by omega) (by omega)).mp c19
      refine lv_lload hx hb dX10_commonDivisor_44 (lv_at hl 2 rfl) ?_
      exact retSl hx hb hr hlocks (by rw [← hf, eu_z c19]) dX10_commonDivisor_46
     ·have c19 : ¬ v = 0 := fun h9 => c19 ((pk_lEQ (a := v) (b := 0) (by omega) (by omega)).mpr h9)
      refine lv_lload hx hb dX10_commonDivisor_23 (lv_at hl 2 rfl) ?_
      refine lv_lload hx hb dX10_commonDivisor_25 (lv_at hl 3 rfl) ?_
      refine lv_lrem hx hb dX10_commonDivisor_27 (fun h9 => c19 ((pk_lEQ (by omega) (by decide)).mp h9)) ?_
      refine top_l (y := lN (u % v)) (pk_lRem hu (by omega) hv) ?_
      refine lv_lstore (lv' := [(9, .long (lN (u % v))), (0, .long (lN xa)), (2, .long (lN xb)), (4, .long (lN u)), (6, .long (lN v)), (8, .int (nI i))]) hx hb dX10_commonDivisor_28 hl (by decide) rfl (fun ls hl => ?_)
      refine lv_lload hx hb dX10_commonDivisor_30 (lv_at hl 4 rfl) ?_
      refine lv_lstore (lv' := [(4, .long (lN v)), (9, .long (lN (u % v))), (0, .long (lN xa)), (2, .long (lN xb)), (6, .long (lN v)), (8, .int (nI i))]) hx hb dX10_commonDivisor_32 hl (by decide) rfl (fun ls hl => ?_)
      refine lv_lload hx hb dX10_commonDivisor_34 (lv_at hl 1 rfl) ?_
      refine lv_lstore (lv' := [(6, .long (lN (u % v))), (4, .long (lN v)), (9, .long (lN (u % v))), (0, .long (lN xa)), (2, .long (lN xb)), (8, .int (nI i))]) hx hb dX10_commonDivisor_36 hl (by decide) rfl (fun ls hl => ?_)
      refine lv_iinc (v := nI (i + 1)) (lv' := [(8, .int (nI (i + 1))), (6, .long (lN (u % v))), (4, .long (lN v)), (9, .long (lN (u % v))), (0, .long (lN xa)), (2, .long (lN xb))]) hx hb dX10_commonDivisor_38 hl (k := 5) rfl (iinc1 _) (by decide) rfl (fun ls hl => ?_)
      refine lv_goto (tgt := 9) hx hb dX10_commonDivisor_41 (by decide) ?_
      exact ih9 (i + 1) v (u % v) (by omega) (by omega) (hv) (Nat.lt_of_lt_of_le (Nat.mod_lt _ (by omega)) (by omega)) (by rw [← hf]; exact eu_s (by omega) c19) ls (lv_sub hl [4, 5, 2, 1, 0] rfl)
  exact hL9 _ 0 xa xb (Nat.lt_succ_self _) (Nat.zero_le _) (ha0) (hb0) (rfl) ls (lv_sub hl [3, 4, 2, 1, 0] rfl)

set_option maxHeartbeats 4000000 in
set_option maxRecDepth 100000 in
/-- BoiledEggs.inLowestTerms  -/
theorem k_X10_inLowestTerms (l : Launch) (g : GG) (xa : Nat) (xb : Nat) (xp : Int32) (ha0 : xa < 2 ^ 48) (hb0 : xb < 2 ^ 48) (hp0 : 0 < xb) : Met l yX10_inLowestTerms wsX10_inLowestTerms ({ frames := 1, cells := 0, slots := 0, locals := 30 }) (pS g [.long (lN xa), .long (lN xb), .int xp] []) (vp_Sl (fun r => r = (lN (low xa xb xp)))) 0 0 noF := by
  refine metS (cc := cX10_inLowestTerms) (maxL := 9) (ret := (some .long)) (by decide) rfl (Nat.le_of_ble_eq_true rfl) ?_
  intro p e s m below meth c hx hb hr hts hown hlocks hml hC hP ls hl
  have hl : lv_has ls 9 [(0, .long (lN xa)), (2, .long (lN xb)), (4, .int xp)] := hl
  have hown : s.vm.findClass RX10 = some m.cls := hown
  have hts : ∀ w ∈ wsX10_inLowestTerms, w.before ([.long (lN xa), .long (lN xb), .int xp] : List Value).toArray s = true := hts
  have hg : eu 100 xa xb = Nat.gcd xa xb := eu_gcd 48 98 xa xb hb0 (by decide)
  have hg0 : 0 < Nat.gcd xa xb := Nat.gcd_pos_of_pos_right _ hp0
  have hgl : Nat.gcd xa xb ≤ xb := Nat.gcd_le_right _ hp0
  refine lv_lload_n hx hb dX10_inLowestTerms_0 rfl (lv_at hl 0 rfl) ?_
  refine lv_lload_n hx hb dX10_inLowestTerms_1 rfl (lv_at hl 1 rfl) ?_
  refine goSl (T := lN (eu 100 xa xb)) (va_runS (As := [.long (lN xa), .long (lN xb)]) (rest := []) ⟨hx, hb, hml, hown, hts⟩ (k_X10_commonDivisor l g xa xb (by first | assumption | exact Nat.zero_le _ | omega) (by first | assumption | exact Nat.zero_le _ | omega)) (va_cwS 2 hts gX10_inLowestTerms_X10_commonDivisor rfl rfl rfl hdX10_commonDivisor ⟨Nat.le_of_ble_eq_true rfl, Nat.le_of_ble_eq_true rfl⟩) (preSS hC (hP.sub [] rfl)) rfl rfl hl.1 rfl (lv_room (Nat.le_of_ble_eq_true rfl)) dX10_inLowestTerms_2 ⟨Nat.le_of_ble_eq_true rfl, Nat.le_of_ble_eq_true rfl⟩) ?_
  refine top_l (y := lN (Nat.gcd xa xb)) (by rw [hg]) ?_
  refine lv_lstore (lv' := [(5, .long (lN (Nat.gcd xa xb))), (0, .long (lN xa)), (2, .long (lN xb)), (4, .int xp)]) hx hb dX10_inLowestTerms_5 hl (by decide) rfl (fun ls hl => ?_)
  have hJ17 : ∀ ls : Array Slot, lv_has ls 9 [(0, .long (lN xa)), (2, .long (lN xb)), (4, .int xp), (5, .long (lN (Nat.gcd xa xb)))] → W p l e ({ frames := 1, cells := 0, slots := 0, locals := 30 }) s m ([.long (lN xa), .long (lN xb), .int xp] : List Value).toArray below meth c s.heap [] 0 0 (MQ below (vp_Sl (fun r => r = (lN (low xa xb xp)))) ([.long (lN xa), .long (lN xb), .int xp] : List Value).toArray s 0 0 noF) (F0 m 17 ls [.long (lN (if xp = 0 then xa else xb))]) := by
   intro  ls hl
   refine lv_lstore (lv' := [(7, .long (lN (if xp = 0 then xa else xb))), (0, .long (lN xa)), (2, .long (lN xb)), (4, .int xp), (5, .long (lN (Nat.gcd xa xb)))]) hx hb dX10_inLowestTerms_17 hl (by decide) rfl (fun ls hl => ?_)
   refine lv_lload hx hb dX10_inLowestTerms_19 (lv_at hl 4 rfl) ?_
   refine lv_lconst (v := lN 0) hx hb dX10_inLowestTerms_21 (by decide) ?_
   refine lc_ne (tgt := 31) hx hb dX10_inLowestTerms_22 dX10_inLowestTerms_23 (by decide) (fun _ => ?_) (fun hz => absurd hz (fun h9 => (show ¬ Nat.gcd xa xb = 0 by omega) ((pk_lEQ (by omega) (by decide)).mp h9)))
   refine lv_lload hx hb dX10_inLowestTerms_31 (lv_at hl 0 rfl) ?_
   refine lv_lload hx hb dX10_inLowestTerms_33 (lv_at hl 4 rfl) ?_
   refine lv_ldiv hx hb dX10_inLowestTerms_35 (fun h9 => (show ¬ Nat.gcd xa xb = 0 by omega) ((pk_lEQ (by omega) (by decide)).mp h9)) ?_
   refine top_l (y := lN ((if xp = 0 then xa else xb) / Nat.gcd xa xb)) (pk_lDiv (by split <;> omega) hg0 (by omega)) ?_
   exact retSl hx hb hr hlocks (by rw [low]; split <;> rfl) dX10_inLowestTerms_36
  refine lv_iload hx hb dX10_inLowestTerms_7 (lv_at hl 3 rfl) ?_
  refine lv_if_ne (tgt := 16) hx hb dX10_inLowestTerms_9 (by decide) (fun c9 => ?_) (fun c9 => ?_)
  ·refine lv_lload_n hx hb dX10_inLowestTerms_16 rfl (lv_at hl 2 rfl) ?_
   refine top_l (y := lN (if xp = 0 then xa else xb)) (by first | rw [if_pos c9] | rw [if_neg c9]) ?_
   exact hJ17   ls (lv_sub hl [1, 2, 3, 0] rfl)
  ·refine lv_lload_n hx hb dX10_inLowestTerms_12 rfl (lv_at hl 1 rfl) ?_
   refine lv_goto (tgt := 17) hx hb dX10_inLowestTerms_13 (by decide) ?_
   refine top_l (y := lN (if xp = 0 then xa else xb)) (by first | rw [if_pos c9] | rw [if_neg c9]) ?_
   exact hJ17   ls (lv_sub hl [1, 2, 3, 0] rfl)

set_option maxHeartbeats 4000000 in
set_option maxRecDepth 100000 in
/-- BoiledEggs.hasKitchen  -/
theorem k_X10_hasKitchen (l : Launch) (g : GG) (oM : Nat) (oP : Nat) (oH : Nat) (oT : Nat) (oK : Nat) (oR : Nat) (oD : Nat) (aT : Nat) (tC : Nat) (tK : Nat) (iK : Int32) (kR : Nat) (bD : Nat) (aH : Nat) (nE : Nat) (nB : Nat) (nTb : Nat) (nTr : Nat) (nFa : Nat) (hE : nE ≤ 6) : Met l yX10_hasKitchen wsX10_hasKitchen ({ frames := 0, cells := 0, slots := 0, locals := 0 }) (pS g [.ref oM] [(oM, .inr (10, [.ref oP, .ref oH, .ref oT, .ref oK, .ref oR, .ref oD, .ref aT, .int (nI tC), .int (nI tK), .int iK, .int (nI kR), .int (nI bD)])), (oH, .inr (6, [.ref aH, .int (nI nE), .int (nI nB), .int (nI nTb), .int (nI nTr), .int (nI nFa)]))]) (vp_Si (fun r => r = (zI (decide (0 < nE))))) 0 0 noF := by
  refine metS (cc := cX10_hasKitchen) (maxL := 1) (ret := (some .boolean)) (by decide) rfl (Nat.le_of_ble_eq_true rfl) ?_
  intro p e s m below meth c hx hb hr hts hown hlocks hml hC hP ls hl
  have hl : lv_has ls 1 [(0, .ref oM)] := hl
  have hown : s.vm.findClass RX10 = some m.cls := hown
  have hts : ∀ w ∈ wsX10_hasKitchen, w.before ([.ref oM] : List Value).toArray s = true := hts
  have hinX10 := (by decide +kernel : ∀ w ∈ u_ws RX10 TX10 12, w ∈ wsX10_hasKitchen)
  have f19 := hts (.fieldLink RX10 19 "BoiledEggs" "home" "LBoiledEggs$Kitchen;") (by decide +kernel)
  have hinX6 := (by decide +kernel : ∀ w ∈ u_ws RX6 TX6 6, w ∈ wsX10_hasKitchen)
  have f90 := va_Nw.use (A := ([.ref oM] : List Value).toArray) rfl (hC.2.1 (.fieldLinkNest RX10 90 "BoiledEggs$Kitchen" "eggs" "I" "BoiledEggs") (by decide +kernel))
  refine lv_aload_n hx hb dX10_hasKitchen_0 rfl (lv_at hl 0 rfl) ?_
  refine va_get (D := g.1) (ci := 10) (v := .ref oH) (C := RX10) (T := TX10) (N := 12) hx hb hts hinX10 hown hC.1 hP 0 rfl rfl 1 (by decide) f19 (fun _ h9 => h9) rfl dX10_hasKitchen_1 ?_
  refine va_getN (D := g.1) (ci := 6) (v := .int (nI nE)) (C := RX6) (T := TX6) (N := 6) hx hb hts hinX6 hown hC.1 hP 1 rfl rfl 1 (by decide) f90 (fun _ h9 => h9) rfl dX10_hasKitchen_4 ?_
  refine lv_if_le (tgt := 14) hx hb dX10_hasKitchen_7 (by decide) (fun c7 => ?_) (fun c7 => ?_)
  ·have c7 : nE ≤ 0 := (nI_leI (a := nE) (b := 0) (by omega) (by omega)).mp c7
   refine lv_iconst (v := nI 0) hx hb dX10_hasKitchen_14 (by decide) ?_
   exact retSz hx hb hr hlocks (by decide) (by first | exact zI_1 (decide_eq_true (by omega)) | exact zI_0 (decide_eq_false (by omega))) dX10_hasKitchen_15
  ·have c7 : ¬ nE ≤ 0 := fun h9 => c7 ((nI_leI (a := nE) (b := 0) (by omega) (by omega)).mpr h9)
   refine lv_iconst (v := nI 1) hx hb dX10_hasKitchen_10 (by decide) ?_
   refine lv_goto (tgt := 15) hx hb dX10_hasKitchen_11 (by decide) ?_
   exact retSz hx hb hr hlocks (by decide) (by first | exact zI_1 (decide_eq_true (by omega)) | exact zI_0 (decide_eq_false (by omega))) dX10_hasKitchen_15

set_option maxHeartbeats 4000000 in
set_option maxRecDepth 100000 in
/-- BoiledEggs.isEgg  -/
theorem k_X10_isEgg (l : Launch) (g : GG) (oM : Nat) (oP : Nat) (oH : Nat) (oT : Nat) (oK : Nat) (oR : Nat) (oD : Nat) (aT : Nat) (tC : Nat) (tK : Nat) (iK : Int32) (kR : Nat) (bD : Nat) (aH : Nat) (nE : Nat) (nB : Nat) (nTb : Nat) (nTr : Nat) (nFa : Nat) (xe : Int32) (hE : nE ≤ 6) : Met l yX10_isEgg wsX10_isEgg ({ frames := 0, cells := 0, slots := 0, locals := 0 }) (pS g [.ref oM, .int xe] [(oM, .inr (10, [.ref oP, .ref oH, .ref oT, .ref oK, .ref oR, .ref oD, .ref aT, .int (nI tC), .int (nI tK), .int iK, .int (nI kR), .int (nI bD)])), (oH, .inr (6, [.ref aH, .int (nI nE), .int (nI nB), .int (nI nTb), .int (nI nTr), .int (nI nFa)]))]) (vp_Si (fun r => r = (zI (isE nE xe)))) 0 0 noF := by
  refine metS (cc := cX10_isEgg) (maxL := 2) (ret := (some .boolean)) (by decide) rfl (Nat.le_of_ble_eq_true rfl) ?_
  intro p e s m below meth c hx hb hr hts hown hlocks hml hC hP ls hl
  have hl : lv_has ls 2 [(0, .ref oM), (1, .int xe)] := hl
  have hown : s.vm.findClass RX10 = some m.cls := hown
  have hts : ∀ w ∈ wsX10_isEgg, w.before ([.ref oM, .int xe] : List Value).toArray s = true := hts
  have hinX10 := (by decide +kernel : ∀ w ∈ u_ws RX10 TX10 12, w ∈ wsX10_isEgg)
  have f19 := hts (.fieldLink RX10 19 "BoiledEggs" "home" "LBoiledEggs$Kitchen;") (by decide +kernel)
  have hinX6 := (by decide +kernel : ∀ w ∈ u_ws RX6 TX6 6, w ∈ wsX10_isEgg)
  have f90 := va_Nw.use (A := ([.ref oM, .int xe] : List Value).toArray) rfl (hC.2.1 (.fieldLinkNest RX10 90 "BoiledEggs$Kitchen" "eggs" "I" "BoiledEggs") (by decide +kernel))
  refine lv_iload_n hx hb dX10_isEgg_0 rfl (lv_at hl 1 rfl) ?_
  refine lv_if_lt (tgt := 19) hx hb dX10_isEgg_1 (by decide) (fun c1 => ?_) (fun c1 => ?_)
  ·refine lv_iconst (v := nI 0) hx hb dX10_isEgg_19 (by decide) ?_
   exact retSz hx hb hr hlocks (by decide) (zI_0 (decide_eq_false (by have := z_lt c1; omega))) dX10_isEgg_20
  ·refine lv_iload_n hx hb dX10_isEgg_4 rfl (lv_at hl 1 rfl) ?_
   refine lv_aload_n hx hb dX10_isEgg_5 rfl (lv_at hl 0 rfl) ?_
   refine va_get (D := g.1) (ci := 10) (v := .ref oH) (C := RX10) (T := TX10) (N := 12) hx hb hts hinX10 hown hC.1 hP 0 rfl rfl 1 (by decide) f19 (fun _ h9 => h9) rfl dX10_isEgg_6 ?_
   refine va_getN (D := g.1) (ci := 6) (v := .int (nI nE)) (C := RX6) (T := TX6) (N := 6) hx hb hts hinX6 hown hC.1 hP 1 rfl rfl 1 (by decide) f90 (fun _ h9 => h9) rfl dX10_isEgg_9 ?_
   refine lv_icmp_ge (tgt := 19) hx hb dX10_isEgg_12 (by decide) (fun c12 => ?_) (fun c12 => ?_)
   ·refine lv_iconst (v := nI 0) hx hb dX10_isEgg_19 (by decide) ?_
    exact retSz hx hb hr hlocks (by decide) (zI_0 (decide_eq_false (by have := (n_le (by omega)).mp c12; omega))) dX10_isEgg_20
   ·refine lv_iconst (v := nI 1) hx hb dX10_isEgg_15 (by decide) ?_
    refine lv_goto (tgt := 20) hx hb dX10_isEgg_16 (by decide) ?_
    exact retSz hx hb hr hlocks (by decide) (zI_1 (decide_eq_true (by have := z_nlt c1; have h2 : ¬ (nE : Int) ≤ xe.toInt := fun h => c12 ((n_le (by omega)).mpr h); omega))) dX10_isEgg_20

set_option maxHeartbeats 4000000 in
set_option maxRecDepth 100000 in
/-- BoiledEggs.mayBreak  -/
theorem k_X10_mayBreak (l : Launch) (g : GG) (oM : Nat) (oP : Nat) (oH : Nat) (oT : Nat) (oK : Nat) (oR : Nat) (oD : Nat) (aT : Nat) (tC : Nat) (tK : Nat) (iK : Int32) (kR : Nat) (bD : Nat) (aH : Nat) (nE : Nat) (nB : Nat) (nTb : Nat) (nTr : Nat) (nFa : Nat) (hE : nE ≤ 6) (hb0 : bD < 1000) : Met l yX10_mayBreak wsX10_mayBreak ({ frames := 1, cells := 0, slots := 0, locals := 20 }) (pS g [.ref oM] [(oM, .inr (10, [.ref oP, .ref oH, .ref oT, .ref oK, .ref oR, .ref oD, .ref aT, .int (nI tC), .int (nI tK), .int iK, .int (nI kR), .int (nI bD)])), (oH, .inr (6, [.ref aH, .int (nI nE), .int (nI nB), .int (nI nTb), .int (nI nTr), .int (nI nFa)]))]) (vp_Si (fun r => r = (zI (decide (0 < nE ∧ bD < 60))))) 0 0 noF := by
  refine metS (cc := cX10_mayBreak) (maxL := 1) (ret := (some .boolean)) (by decide) rfl (Nat.le_of_ble_eq_true rfl) ?_
  intro p e s m below meth c hx hb hr hts hown hlocks hml hC hP ls hl
  have hl : lv_has ls 1 [(0, .ref oM)] := hl
  have hown : s.vm.findClass RX10 = some m.cls := hown
  have hts : ∀ w ∈ wsX10_mayBreak, w.before ([.ref oM] : List Value).toArray s = true := hts
  have hinX10 := (by decide +kernel : ∀ w ∈ u_ws RX10 TX10 12, w ∈ wsX10_mayBreak)
  have f188 := hts (.fieldLink RX10 188 "BoiledEggs" "breakingsDone" "I") (by decide +kernel)
  refine lv_aload_n hx hb dX10_mayBreak_0 rfl (lv_at hl 0 rfl) ?_
  refine goSi (T := zI (decide (0 < nE))) (va_runV (As := []) (rest := []) ⟨hx, hb, hml, hown, hts⟩ (k_X10_hasKitchen l g oM oP oH oT oK oR oD aT tC tK iK kR bD aH nE nB nTb nTr nFa (by first | assumption | exact Nat.zero_le _ | omega)) (cwV 0 hts gX10_mayBreak_X10_hasKitchen rfl rfl rfl ⟨rfl, hdX10_hasKitchen⟩ ⟨Nat.le_of_ble_eq_true rfl, Nat.le_of_ble_eq_true rfl⟩) (preVS hC (hP.sub [0, 1] rfl) (va_recv hC.1 hP (ci := 10) (q0 := 0) rfl rfl)) rfl rfl hl.1 rfl (lv_room (Nat.le_of_ble_eq_true rfl)) dX10_mayBreak_1 ⟨Nat.le_of_ble_eq_true rfl, Nat.le_of_ble_eq_true rfl⟩) ?_
  refine lv_if_eq (tgt := 20) hx hb dX10_mayBreak_4 (by decide) (fun c4 => ?_) (fun c4 => ?_)
  ·have c4 := zI_f.mp c4
   have h1 := of_decide_eq_false c4
   refine lv_iconst (v := nI 0) hx hb dX10_mayBreak_20 (by decide) ?_
   exact retSz hx hb hr hlocks (by decide) (by first | exact zI_1 (decide_eq_true (by omega)) | exact zI_0 (decide_eq_false (by omega))) dX10_mayBreak_21
  ·have c4 := zI_t.mp c4
   have h1 := of_decide_eq_true c4
   refine lv_aload_n hx hb dX10_mayBreak_7 rfl (lv_at hl 0 rfl) ?_
   refine va_get (D := g.1) (ci := 10) (v := .int (nI bD)) (C := RX10) (T := TX10) (N := 12) hx hb hts hinX10 hown hC.1 hP 0 rfl rfl 11 (by decide) f188 (fun _ h9 => h9) rfl dX10_mayBreak_8 ?_
   refine lv_bipush (v := nI 60) hx hb dX10_mayBreak_11 (by decide) ?_
   refine lv_icmp_ge (tgt := 20) hx hb dX10_mayBreak_13 (by decide) (fun c13 => ?_) (fun c13 => ?_)
   ·have c13 : 60 ≤ bD := (nI_leI (a := 60) (b := bD) (by omega) (by omega)).mp c13
    refine lv_iconst (v := nI 0) hx hb dX10_mayBreak_20 (by decide) ?_
    exact retSz hx hb hr hlocks (by decide) (by first | exact zI_1 (decide_eq_true (by omega)) | exact zI_0 (decide_eq_false (by omega))) dX10_mayBreak_21
   ·have c13 : ¬ 60 ≤ bD := fun h9 => c13 ((nI_leI (a := 60) (b := bD) (by omega) (by omega)).mpr h9)
    refine lv_iconst (v := nI 1) hx hb dX10_mayBreak_16 (by decide) ?_
    refine lv_goto (tgt := 21) hx hb dX10_mayBreak_17 (by decide) ?_
    exact retSz hx hb hr hlocks (by decide) (by first | exact zI_1 (decide_eq_true (by omega)) | exact zI_0 (decide_eq_false (by omega))) dX10_mayBreak_21

set_option maxHeartbeats 4000000 in
set_option maxRecDepth 100000 in
/-- BoiledEggs.letter  -/
theorem k_X10_letter (l : Launch) (g : GG) (sz : Nat) (oM : Nat) (oP : Nat) (oH : Nat) (oT : Nat) (oK : Nat) (oR : Nat) (oD : Nat) (aT : Nat) (tC : Nat) (tK : Nat) (iK : Int32) (kR : Nat) (bD : Nat) (aC : Nat) (cN : Nat) (cp : Nat → Nat) (xc : Int32) (hn0 : cN ≤ 14) : Met l yX10_letter wsX10_letter ({ frames := 2, cells := 0, slots := 0, locals := 41 }) (pM g sz [.ref oM, .int xc] [(oM, .inr (10, [.ref oP, .ref oH, .ref oT, .ref oK, .ref oR, .ref oD, .ref aT, .int (nI tC), .int (nI tK), .int iK, .int (nI kR), .int (nI bD)])), (oP, .inr (7, [.ref aC, .int (nI cN)])), (aC, .inl (g.2.1, 14, .inl (fun j => nI (cp j))))]) (qMi g (fun r (_ : Unit) => r = ltR xc cN) (fun (_ : Unit) => [(oM, .inr (10, [.ref oP, .ref oH, .ref oT, .ref oK, .ref oR, .ref oD, .ref aT, .int (nI tC), .int (nI tK), .int iK, .int (nI kR), .int (nI bD)])), (oP, .inr (7, [.ref aC, .int (nI (cond (ltB xc cN) (cN + 1) cN))])), (aC, .inl (g.2.1, 14, .inl (fun j => nI (cond (ltB xc cN) (updN cp cN (ix xc)) cp j))))]) (va_A [(oM, .inr (10, [.ref oP, .ref oH, .ref oT, .ref oK, .ref oR, .ref oD, .ref aT, .int (nI tC), .int (nI tK), .int iK, .int (nI kR), .int (nI bD)])), (oP, .inr (7, [.ref aC, .int (nI cN)])), (aC, .inl (g.2.1, 14, .inl (fun j => nI (cp j))))] sz)) 0 0 (va_A [(oM, .inr (10, [.ref oP, .ref oH, .ref oT, .ref oK, .ref oR, .ref oD, .ref aT, .int (nI tC), .int (nI tK), .int iK, .int (nI kR), .int (nI bD)])), (oP, .inr (7, [.ref aC, .int (nI cN)])), (aC, .inl (g.2.1, 14, .inl (fun j => nI (cp j))))] sz) := by
  refine metM (Qf := fun A => (qMi g (fun r (_ : Unit) => r = ltR xc cN) (fun (_ : Unit) => [(oM, .inr (10, [.ref oP, .ref oH, .ref oT, .ref oK, .ref oR, .ref oD, .ref aT, .int (nI tC), .int (nI tK), .int iK, .int (nI kR), .int (nI bD)])), (oP, .inr (7, [.ref aC, .int (nI (cond (ltB xc cN) (cN + 1) cN))])), (aC, .inl (g.2.1, 14, .inl (fun j => nI (cond (ltB xc cN) (updN cp cN (ix xc)) cp j))))]) A)) (cc := cX10_letter) (maxL := 2) (ret := (some .int)) (by decide) rfl (Nat.le_of_ble_eq_true rfl) ?_
  intro p e s m below meth c hx hb hr hts hown hlocks hml hin0 hC A hA hP hD hS ls hl
  have hl : lv_has ls 2 [(0, .ref oM), (1, .int xc)] := hl
  have hown : s.vm.findClass RX10 = some m.cls := hown
  have hts : ∀ w ∈ wsX10_letter, w.before ([.ref oM, .int xc] : List Value).toArray s = true := hts
  have hinX10 := (by decide +kernel : ∀ w ∈ u_ws RX10 TX10 12, w ∈ wsX10_letter)
  have f10 := hts (.fieldLink RX10 10 "BoiledEggs" "page" "LBoiledEggs$Page;") (by decide +kernel)
  refine lv_iload_n hx hb dX10_letter_0 rfl (lv_at hl 1 rfl) ?_
  refine lv_bipush (v := nI 32) hx hb dX10_letter_1 (by decide) ?_
  refine lv_icmp_lt (tgt := 12) hx hb dX10_letter_3 (by decide) (fun c3 => ?_) (fun c3 => ?_)
  ·have hz : wth xc (nI 32) (nI 126) = false := decide_eq_false (fun h9 => absurd h9.1 (Int32.not_le.mpr c3))
   refine lv_bipush (v := (-102)) hx hb dX10_letter_12 (by decide) ?_
   exact retMi (w := [(oM, .inr (10, [.ref oP, .ref oH, .ref oT, .ref oK, .ref oR, .ref oD, .ref aT, .int (nI tC), .int (nI tK), .int iK, .int (nI kR), .int (nI bD)])), (oP, .inr (7, [.ref aC, .int (nI cN)])), (aC, .inl (g.2.1, 14, .inl (fun j => nI (cp j))))]) hx hb hr hlocks (hP.sub [0, 1, 2] rfl) (hD.sub [0, 1, 2] (by decide) rfl) hS () (by rw [show ltB xc cN = false by rw [ltB, hz]; rfl] <;> rfl) (by rw [ltR, if_neg (by rw [hz]; decide)]) dX10_letter_14
  ·refine lv_iload_n hx hb dX10_letter_6 rfl (lv_at hl 1 rfl) ?_
   refine lv_bipush (v := nI 126) hx hb dX10_letter_7 (by decide) ?_
   refine lv_icmp_le (tgt := 15) hx hb dX10_letter_9 (by decide) (fun c9 => ?_) (fun c9 => ?_)
   ·have c8 : wth xc (nI 32) (nI 126) = true := decide_eq_true ⟨Int32.not_lt.mp c3, c9⟩
    obtain ⟨k, hk, rfl⟩ := wth_n c8
    refine lv_aload_n hx hb dX10_letter_15 rfl (lv_at hl 0 rfl) ?_
    refine va_get (D := g.1) (ci := 10) (v := .ref oP) (C := RX10) (T := TX10) (N := 12) hx hb hts hinX10 hown hC.1 hP 0 rfl rfl 0 (by decide) f10 (fun _ h9 => h9) rfl dX10_letter_16 ?_
    refine goSi (T := zI (decide (14 ≤ cN))) (va_runV (As := []) (rest := []) ⟨hx, hb, hml, hown, hts⟩ (k_X7_isFull l g oP aC cN (by first | assumption | exact Nat.zero_le _ | omega)) (cwV 0 hts gX10_letter_X7_isFull rfl rfl rfl ⟨rfl, hdX7_isFull⟩ ⟨Nat.le_of_ble_eq_true rfl, Nat.le_of_ble_eq_true rfl⟩) (preVS hC (hP.sub [1] rfl) (va_recv hC.1 hP (ci := 7) (q0 := 1) rfl rfl)) rfl rfl hl.1 rfl (lv_room (Nat.le_of_ble_eq_true rfl)) dX10_letter_19 ⟨Nat.le_of_ble_eq_true rfl, Nat.le_of_ble_eq_true rfl⟩) ?_
    refine lv_if_eq (tgt := 28) hx hb dX10_letter_22 (by decide) (fun c22 => ?_) (fun c22 => ?_)
    ·have c22 := zI_f.mp c22
     have c20 := of_decide_eq_false c22
     refine lv_aload_n hx hb dX10_letter_28 rfl (lv_at hl 0 rfl) ?_
     refine va_get (D := g.1) (ci := 10) (v := .ref oP) (C := RX10) (T := TX10) (N := 12) hx hb hts hinX10 hown hC.1 hP 0 rfl rfl 0 (by decide) f10 (fun _ h9 => h9) rfl dX10_letter_29 ?_
     refine lv_iload_n hx hb dX10_letter_32 rfl (lv_at hl 1 rfl) ?_
     refine goMi (S := Unit) (wr := [(oM, .inr (10, [.ref oP, .ref oH, .ref oT, .ref oK, .ref oR, .ref oD, .ref aT, .int (nI tC), .int (nI tK), .int iK, .int (nI kR), .int (nI bD)]))]) (va_runV (As := [.int (nI k)]) (rest := []) ⟨hx, hb, hml, hown, hts⟩ (k_X7_append l g _ oP aC cN cp k (by first | assumption | exact Nat.zero_le _ | omega)) (cwV 1 hts gX10_letter_X7_append rfl rfl rfl ⟨rfl, hdX7_append⟩ ⟨Nat.le_of_ble_eq_true rfl, Nat.le_of_ble_eq_true rfl⟩) (preVM hC (hP.sub [1, 2] rfl) (hD.sub [1, 2] (by decide) rfl) (va_recv hC.1 hP (ci := 7) (q0 := 1) rfl rfl)) rfl rfl hl.1 rfl (lv_room (Nat.le_of_ble_eq_true rfl)) dX10_letter_33 ⟨Nat.le_of_ble_eq_true rfl, Nat.le_of_ble_eq_true rfl⟩) hP hD hS hA [1, 2] [0] rfl rfl (by decide) (by decide) (fun r_9 _ H locs hw_9 hP hD hS => ?_)
     subst hw_9
     have hP : va_P g.1 vwCl [(oM, .inr (10, [.ref oP, .ref oH, .ref oT, .ref oK, .ref oR, .ref oD, .ref aT, .int (nI tC), .int (nI tK), .int iK, .int (nI kR), .int (nI bD)])), (oP, .inr (7, [.ref aC, .int (nI (cN + 1))])), (aC, .inl (g.2.1, 14, .inl (fun j => nI (updN cp cN k j))))] H := hP
     have hD : va_D A [(oM, .inr (10, [.ref oP, .ref oH, .ref oT, .ref oK, .ref oR, .ref oD, .ref aT, .int (nI tC), .int (nI tK), .int iK, .int (nI kR), .int (nI bD)])), (oP, .inr (7, [.ref aC, .int (nI (cN + 1))])), (aC, .inl (g.2.1, 14, .inl (fun j => nI (updN cp cN k j))))] := hD
     exact retMi (w := [(oM, .inr (10, [.ref oP, .ref oH, .ref oT, .ref oK, .ref oR, .ref oD, .ref aT, .int (nI tC), .int (nI tK), .int iK, .int (nI kR), .int (nI bD)])), (oP, .inr (7, [.ref aC, .int (nI (cN + 1))])), (aC, .inl (g.2.1, 14, .inl (fun j => nI (updN cp cN k j))))]) hx hb hr hlocks (hP.sub [0, 1, 2] rfl) (hD.sub [0, 1, 2] (by decide) rfl) hS () (by rw [show ltB (nI k) cN = true by rw [ltB, c8, decide_eq_true (by omega)]; rfl, ix_nI (by omega)] <;> rfl) (by rw [ltR, if_pos c8, if_neg (by omega)]) dX10_letter_36
    ·have c22 := zI_t.mp c22
     have c20 := of_decide_eq_true c22
     refine lv_bipush (v := (-104)) hx hb dX10_letter_25 (by decide) ?_
     exact retMi (w := [(oM, .inr (10, [.ref oP, .ref oH, .ref oT, .ref oK, .ref oR, .ref oD, .ref aT, .int (nI tC), .int (nI tK), .int iK, .int (nI kR), .int (nI bD)])), (oP, .inr (7, [.ref aC, .int (nI cN)])), (aC, .inl (g.2.1, 14, .inl (fun j => nI (cp j))))]) hx hb hr hlocks (hP.sub [0, 1, 2] rfl) (hD.sub [0, 1, 2] (by decide) rfl) hS () (by rw [show ltB (nI k) cN = false by rw [ltB, decide_eq_false (by omega), Bool.and_false]] <;> rfl) (by rw [ltR, if_pos c8, if_pos (by omega)]) dX10_letter_27
   ·have hz : wth xc (nI 32) (nI 126) = false := decide_eq_false (fun h9 => c9 h9.2)
    refine lv_bipush (v := (-102)) hx hb dX10_letter_12 (by decide) ?_
    exact retMi (w := [(oM, .inr (10, [.ref oP, .ref oH, .ref oT, .ref oK, .ref oR, .ref oD, .ref aT, .int (nI tC), .int (nI tK), .int iK, .int (nI kR), .int (nI bD)])), (oP, .inr (7, [.ref aC, .int (nI cN)])), (aC, .inl (g.2.1, 14, .inl (fun j => nI (cp j))))]) hx hb hr hlocks (hP.sub [0, 1, 2] rfl) (hD.sub [0, 1, 2] (by decide) rfl) hS () (by rw [show ltB xc cN = false by rw [ltB, hz]; rfl] <;> rfl) (by rw [ltR, if_neg (by rw [hz]; decide)]) dX10_letter_14

set_option maxHeartbeats 4000000 in
set_option maxRecDepth 100000 in
/-- BoiledEggs.blank  -/
theorem k_X10_blank (l : Launch) (g : GG) (sz : Nat) (oM : Nat) (oP : Nat) (oH : Nat) (oT : Nat) (oK : Nat) (oR : Nat) (oD : Nat) (aT : Nat) (tC : Nat) (tK : Nat) (iK : Int32) (kR : Nat) (bD : Nat) (aC : Nat) (cN : Nat)  : Met l yX10_blank wsX10_blank ({ frames := 1, cells := 0, slots := 0, locals := 21 }) (pM g sz [.ref oM] [(oM, .inr (10, [.ref oP, .ref oH, .ref oT, .ref oK, .ref oR, .ref oD, .ref aT, .int (nI tC), .int (nI tK), .int iK, .int (nI kR), .int (nI bD)])), (oP, .inr (7, [.ref aC, .int (nI cN)]))]) (qMi g (fun r (_ : Unit) => r = nI cN) (fun (_ : Unit) => [(oM, .inr (10, [.ref oP, .ref oH, .ref oT, .ref oK, .ref oR, .ref oD, .ref aT, .int (nI tC), .int (nI tK), .int iK, .int (nI kR), .int (nI bD)])), (oP, .inr (7, [.ref aC, .int (nI 0)]))]) (va_A [(oM, .inr (10, [.ref oP, .ref oH, .ref oT, .ref oK, .ref oR, .ref oD, .ref aT, .int (nI tC), .int (nI tK), .int iK, .int (nI kR), .int (nI bD)])), (oP, .inr (7, [.ref aC, .int (nI cN)]))] sz)) 0 0 (va_A [(oM, .inr (10, [.ref oP, .ref oH, .ref oT, .ref oK, .ref oR, .ref oD, .ref aT, .int (nI tC), .int (nI tK), .int iK, .int (nI kR), .int (nI bD)])), (oP, .inr (7, [.ref aC, .int (nI cN)]))] sz) := by
  refine metM (Qf := fun A => (qMi g (fun r (_ : Unit) => r = nI cN) (fun (_ : Unit) => [(oM, .inr (10, [.ref oP, .ref oH, .ref oT, .ref oK, .ref oR, .ref oD, .ref aT, .int (nI tC), .int (nI tK), .int iK, .int (nI kR), .int (nI bD)])), (oP, .inr (7, [.ref aC, .int (nI 0)]))]) A)) (cc := cX10_blank) (maxL := 1) (ret := (some .int)) (by decide) rfl (Nat.le_of_ble_eq_true rfl) ?_
  intro p e s m below meth c hx hb hr hts hown hlocks hml hin0 hC A hA hP hD hS ls hl
  have hl : lv_has ls 1 [(0, .ref oM)] := hl
  have hown : s.vm.findClass RX10 = some m.cls := hown
  have hts : ∀ w ∈ wsX10_blank, w.before ([.ref oM] : List Value).toArray s = true := hts
  have hinX10 := (by decide +kernel : ∀ w ∈ u_ws RX10 TX10 12, w ∈ wsX10_blank)
  have f10 := hts (.fieldLink RX10 10 "BoiledEggs" "page" "LBoiledEggs$Page;") (by decide +kernel)
  refine lv_aload_n hx hb dX10_blank_0 rfl (lv_at hl 0 rfl) ?_
  refine va_get (D := g.1) (ci := 10) (v := .ref oP) (C := RX10) (T := TX10) (N := 12) hx hb hts hinX10 hown hC.1 hP 0 rfl rfl 0 (by decide) f10 (fun _ h9 => h9) rfl dX10_blank_1 ?_
  refine goMi (S := Unit) (wr := [(oM, .inr (10, [.ref oP, .ref oH, .ref oT, .ref oK, .ref oR, .ref oD, .ref aT, .int (nI tC), .int (nI tK), .int iK, .int (nI kR), .int (nI bD)]))]) (va_runV (As := []) (rest := []) ⟨hx, hb, hml, hown, hts⟩ (k_X7_clear l g _ oP aC cN ) (cwV 0 hts gX10_blank_X7_clear rfl rfl rfl ⟨rfl, hdX7_clear⟩ ⟨Nat.le_of_ble_eq_true rfl, Nat.le_of_ble_eq_true rfl⟩) (preVM hC (hP.sub [1] rfl) (hD.sub [1] (by decide) rfl) (va_recv hC.1 hP (ci := 7) (q0 := 1) rfl rfl)) rfl rfl hl.1 rfl (lv_room (Nat.le_of_ble_eq_true rfl)) dX10_blank_4 ⟨Nat.le_of_ble_eq_true rfl, Nat.le_of_ble_eq_true rfl⟩) hP hD hS hA [1] [0] rfl rfl (by decide) (by decide) (fun r_9 _ H locs hw_9 hP hD hS => ?_)
  subst hw_9
  have hP : va_P g.1 vwCl [(oM, .inr (10, [.ref oP, .ref oH, .ref oT, .ref oK, .ref oR, .ref oD, .ref aT, .int (nI tC), .int (nI tK), .int iK, .int (nI kR), .int (nI bD)])), (oP, .inr (7, [.ref aC, .int (nI 0)]))] H := hP
  have hD : va_D A [(oM, .inr (10, [.ref oP, .ref oH, .ref oT, .ref oK, .ref oR, .ref oD, .ref aT, .int (nI tC), .int (nI tK), .int iK, .int (nI kR), .int (nI bD)])), (oP, .inr (7, [.ref aC, .int (nI 0)]))] := hD
  exact retMi (w := [(oM, .inr (10, [.ref oP, .ref oH, .ref oT, .ref oK, .ref oR, .ref oD, .ref aT, .int (nI tC), .int (nI tK), .int iK, .int (nI kR), .int (nI bD)])), (oP, .inr (7, [.ref aC, .int (nI 0)]))]) hx hb hr hlocks (hP.sub [0, 1] rfl) (hD.sub [0, 1] (by decide) rfl) hS () (rfl) (rfl) dX10_blank_7

set_option maxHeartbeats 4000000 in
set_option maxRecDepth 100000 in
/-- BoiledEggs.fault  -/
theorem k_X10_fault (l : Launch) (g : GG) (oM : Nat) (oP : Nat) (oH : Nat) (oT : Nat) (oK : Nat) (oR : Nat) (oD : Nat) (aT : Nat) (tC : Nat) (tK : Nat) (iK : Int32) (kR : Nat) (bD : Nat) (aC : Nat) (cN : Nat) (cp : Nat → Nat) (hn0 : cN ≤ 14) : Met l yX10_fault wsX10_fault ({ frames := 4, cells := 0, slots := 0, locals := 87 }) (pS g [.ref oM] [(oM, .inr (10, [.ref oP, .ref oH, .ref oT, .ref oK, .ref oR, .ref oD, .ref aT, .int (nI tC), .int (nI tK), .int iK, .int (nI kR), .int (nI bD)])), (oP, .inr (7, [.ref aC, .int (nI cN)])), (aC, .inl (g.2.1, 14, .inl (fun j => nI (cp j))))]) (vp_Si (fun r => r = (nI (ff (mGood cp) cN 0)))) 0 0 noF := by
  refine metS (cc := cX10_fault) (maxL := 1) (ret := (some .int)) (by decide) rfl (Nat.le_of_ble_eq_true rfl) ?_
  intro p e s m below meth c hx hb hr hts hown hlocks hml hC hP ls hl
  have hl : lv_has ls 1 [(0, .ref oM)] := hl
  have hown : s.vm.findClass RX10 = some m.cls := hown
  have hts : ∀ w ∈ wsX10_fault, w.before ([.ref oM] : List Value).toArray s = true := hts
  have hinX10 := (by decide +kernel : ∀ w ∈ u_ws RX10 TX10 12, w ∈ wsX10_fault)
  have f10 := hts (.fieldLink RX10 10 "BoiledEggs" "page" "LBoiledEggs$Page;") (by decide +kernel)
  refine lv_aload_n hx hb dX10_fault_0 rfl (lv_at hl 0 rfl) ?_
  refine va_get (D := g.1) (ci := 10) (v := .ref oP) (C := RX10) (T := TX10) (N := 12) hx hb hts hinX10 hown hC.1 hP 0 rfl rfl 0 (by decide) f10 (fun _ h9 => h9) rfl dX10_fault_1 ?_
  refine goSi (T := nI (ff (mGood cp) cN 0)) (va_runV (As := []) (rest := []) ⟨hx, hb, hml, hown, hts⟩ (k_X7_firstFault l g oP aC cN cp (by first | assumption | exact Nat.zero_le _ | omega)) (cwV 0 hts gX10_fault_X7_firstFault rfl rfl rfl ⟨rfl, hdX7_firstFault⟩ ⟨Nat.le_of_ble_eq_true rfl, Nat.le_of_ble_eq_true rfl⟩) (preVS hC (hP.sub [1, 2] rfl) (va_recv hC.1 hP (ci := 7) (q0 := 1) rfl rfl)) rfl rfl hl.1 rfl (lv_room (Nat.le_of_ble_eq_true rfl)) dX10_fault_4 ⟨Nat.le_of_ble_eq_true rfl, Nat.le_of_ble_eq_true rfl⟩) ?_
  exact retSi hx hb hr hlocks (rfl) dX10_fault_7

set_option maxHeartbeats 4000000 in
set_option maxRecDepth 100000 in
/-- BoiledEggs.kitchen  -/
theorem k_X10_kitchen (l : Launch) (g : GG) (sz : Nat) (oM : Nat) (oP : Nat) (oH : Nat) (oT : Nat) (oK : Nat) (oR : Nat) (oD : Nat) (aT : Nat) (tC : Nat) (tK : Nat) (iK : Int32) (kR : Nat) (bD : Nat) (aC : Nat) (cN : Nat) (aH : Nat) (nE : Nat) (nB : Nat) (nTb : Nat) (nTr : Nat) (nFa : Nat) (aB : Nat) (aW : Nat) (aS : Nat) (aU : Nat) (aK : Nat) (fi : Nat) (ib : Nat) (sn : Nat) (cp : Nat → Nat) (hh : Nat → Nat) (fB : Nat → Nat) (fW : Nat → Nat) (fS : Nat → Nat) (fU : Nat → Nat) (fK : Nat → Int32) (hn0 : cN ≤ 14) (hcp : ∀ k, cp k < 128) (hh0 : ∀ k, hh k < 1000) : Met l yX10_kitchen wsX10_kitchen ({ frames := 5, cells := 0, slots := 0, locals := 107 }) (pM g sz [.ref oM] [(oM, .inr (10, [.ref oP, .ref oH, .ref oT, .ref oK, .ref oR, .ref oD, .ref aT, .int (nI tC), .int (nI tK), .int iK, .int (nI kR), .int (nI bD)])), (oP, .inr (7, [.ref aC, .int (nI cN)])), (aC, .inl (g.2.1, 14, .inl (fun j => nI (cp j)))), (oH, .inr (6, [.ref aH, .int (nI nE), .int (nI nB), .int (nI nTb), .int (nI nTr), .int (nI nFa)])), (aH, .inl (g.2.1, 6, .inl (fun j => nI (hh j)))), (oT, .inr (8, [.ref aB, .ref aW, .ref aS, .ref aU, .ref aK, .int (nI fi), .int (nI ib), .int (nI sn)])), (aB, .inl (g.2.1, 20, .inl (fun j => nI (fB j)))), (aW, .inl (g.2.2.1, 20, .inr (.inl (fun j => lN (fW j))))), (aS, .inl (g.2.1, 6, .inl (fun j => nI (fS j)))), (aU, .inl (g.2.1, 6, .inl (fun j => nI (fU j)))), (aK, .inl (g.2.1, 6, .inl fK))]) (qMi g (fun r (_ : Unit) => r = if kOK cp cN then nI (cp 0 - 48) else -103) (fun (_ : Unit) => [(oM, .inr (10, [.ref oP, .ref oH, .ref oT, .ref oK, .ref oR, .ref oD, .ref aT, .int (nI (cond (kOK cp cN) (0) (tC))), .int (nI tK), .int (cond (kOK cp cN) (nI 0) iK), .int (nI (cond (kOK cp cN) (kR + 1) (kR))), .int (nI bD)])), (oP, .inr (7, [.ref aC, .int (nI (cond (kOK cp cN) (0) (cN)))])), (aC, .inl (g.2.1, 14, .inl (fun j => nI (cp j)))), (oH, .inr (6, [.ref aH, .int (nI (cond (kOK cp cN) (cp 0 - 48) (nE))), .int (nI (cond (kOK cp cN) (cp 1 - 48) (nB))), .int (nI (cond (kOK cp cN) (cp 3 - 48) (nTb))), .int (nI (cond (kOK cp cN) (cp 4 - 48) (nTr))), .int (nI (cond (kOK cp cN) (cp 5 - 48) (nFa)))])), (aH, .inl (g.2.1, 6, .inl (fun j => nI ((cond (kOK cp cN) (fo (rdH cp) hh (cp 0 - 48)) hh) j)))), (oT, .inr (8, [.ref aB, .ref aW, .ref aS, .ref aU, .ref aK, .int (nI (cond (kOK cp cN) ((bgS (fo (rdH cp) hh (cp 0 - 48)) (cp 0 - 48) (cp 1 - 48) fB fW (2 ^ (cp 0 - 48))).2.2) (fi))), .int (nI (cond (kOK cp cN) (2 ^ (cp 0 - 48) - 1) (ib))), .int (nI (cond (kOK cp cN) (0) (sn)))])), (aB, .inl (g.2.1, 20, .inl (fun j => nI (cond (kOK cp cN) (bgS (fo (rdH cp) hh (cp 0 - 48)) (cp 0 - 48) (cp 1 - 48) fB fW (2 ^ (cp 0 - 48))).1 fB j)))), (aW, .inl (g.2.2.1, 20, .inr (.inl (fun j => lN (cond (kOK cp cN) (bgS (fo (rdH cp) hh (cp 0 - 48)) (cp 0 - 48) (cp 1 - 48) fB fW (2 ^ (cp 0 - 48))).2.1 fW j))))), (aS, .inl (g.2.1, 6, .inl (fun j => nI (cond (kOK cp cN) (fo zF fS 6) fS j)))), (aU, .inl (g.2.1, 6, .inl (fun j => nI (cond (kOK cp cN) (fo zF fU 6) fU j)))), (aK, .inl (g.2.1, 6, .inl (cond (kOK cp cN) (fo nF fK 6) fK)))]) (va_A [(oM, .inr (10, [.ref oP, .ref oH, .ref oT, .ref oK, .ref oR, .ref oD, .ref aT, .int (nI tC), .int (nI tK), .int iK, .int (nI kR), .int (nI bD)])), (oP, .inr (7, [.ref aC, .int (nI cN)])), (aC, .inl (g.2.1, 14, .inl (fun j => nI (cp j)))), (oH, .inr (6, [.ref aH, .int (nI nE), .int (nI nB), .int (nI nTb), .int (nI nTr), .int (nI nFa)])), (aH, .inl (g.2.1, 6, .inl (fun j => nI (hh j)))), (oT, .inr (8, [.ref aB, .ref aW, .ref aS, .ref aU, .ref aK, .int (nI fi), .int (nI ib), .int (nI sn)])), (aB, .inl (g.2.1, 20, .inl (fun j => nI (fB j)))), (aW, .inl (g.2.2.1, 20, .inr (.inl (fun j => lN (fW j))))), (aS, .inl (g.2.1, 6, .inl (fun j => nI (fS j)))), (aU, .inl (g.2.1, 6, .inl (fun j => nI (fU j)))), (aK, .inl (g.2.1, 6, .inl fK))] sz)) 0 0 (va_A [(oM, .inr (10, [.ref oP, .ref oH, .ref oT, .ref oK, .ref oR, .ref oD, .ref aT, .int (nI tC), .int (nI tK), .int iK, .int (nI kR), .int (nI bD)])), (oP, .inr (7, [.ref aC, .int (nI cN)])), (aC, .inl (g.2.1, 14, .inl (fun j => nI (cp j)))), (oH, .inr (6, [.ref aH, .int (nI nE), .int (nI nB), .int (nI nTb), .int (nI nTr), .int (nI nFa)])), (aH, .inl (g.2.1, 6, .inl (fun j => nI (hh j)))), (oT, .inr (8, [.ref aB, .ref aW, .ref aS, .ref aU, .ref aK, .int (nI fi), .int (nI ib), .int (nI sn)])), (aB, .inl (g.2.1, 20, .inl (fun j => nI (fB j)))), (aW, .inl (g.2.2.1, 20, .inr (.inl (fun j => lN (fW j))))), (aS, .inl (g.2.1, 6, .inl (fun j => nI (fS j)))), (aU, .inl (g.2.1, 6, .inl (fun j => nI (fU j)))), (aK, .inl (g.2.1, 6, .inl fK))] sz) := by
  refine metM (Qf := fun A => (qMi g (fun r (_ : Unit) => r = if kOK cp cN then nI (cp 0 - 48) else -103) (fun (_ : Unit) => [(oM, .inr (10, [.ref oP, .ref oH, .ref oT, .ref oK, .ref oR, .ref oD, .ref aT, .int (nI (cond (kOK cp cN) (0) (tC))), .int (nI tK), .int (cond (kOK cp cN) (nI 0) iK), .int (nI (cond (kOK cp cN) (kR + 1) (kR))), .int (nI bD)])), (oP, .inr (7, [.ref aC, .int (nI (cond (kOK cp cN) (0) (cN)))])), (aC, .inl (g.2.1, 14, .inl (fun j => nI (cp j)))), (oH, .inr (6, [.ref aH, .int (nI (cond (kOK cp cN) (cp 0 - 48) (nE))), .int (nI (cond (kOK cp cN) (cp 1 - 48) (nB))), .int (nI (cond (kOK cp cN) (cp 3 - 48) (nTb))), .int (nI (cond (kOK cp cN) (cp 4 - 48) (nTr))), .int (nI (cond (kOK cp cN) (cp 5 - 48) (nFa)))])), (aH, .inl (g.2.1, 6, .inl (fun j => nI ((cond (kOK cp cN) (fo (rdH cp) hh (cp 0 - 48)) hh) j)))), (oT, .inr (8, [.ref aB, .ref aW, .ref aS, .ref aU, .ref aK, .int (nI (cond (kOK cp cN) ((bgS (fo (rdH cp) hh (cp 0 - 48)) (cp 0 - 48) (cp 1 - 48) fB fW (2 ^ (cp 0 - 48))).2.2) (fi))), .int (nI (cond (kOK cp cN) (2 ^ (cp 0 - 48) - 1) (ib))), .int (nI (cond (kOK cp cN) (0) (sn)))])), (aB, .inl (g.2.1, 20, .inl (fun j => nI (cond (kOK cp cN) (bgS (fo (rdH cp) hh (cp 0 - 48)) (cp 0 - 48) (cp 1 - 48) fB fW (2 ^ (cp 0 - 48))).1 fB j)))), (aW, .inl (g.2.2.1, 20, .inr (.inl (fun j => lN (cond (kOK cp cN) (bgS (fo (rdH cp) hh (cp 0 - 48)) (cp 0 - 48) (cp 1 - 48) fB fW (2 ^ (cp 0 - 48))).2.1 fW j))))), (aS, .inl (g.2.1, 6, .inl (fun j => nI (cond (kOK cp cN) (fo zF fS 6) fS j)))), (aU, .inl (g.2.1, 6, .inl (fun j => nI (cond (kOK cp cN) (fo zF fU 6) fU j)))), (aK, .inl (g.2.1, 6, .inl (cond (kOK cp cN) (fo nF fK 6) fK)))]) A)) (cc := cX10_kitchen) (maxL := 1) (ret := (some .int)) (by decide) rfl (Nat.le_of_ble_eq_true rfl) ?_
  intro p e s m below meth c hx hb hr hts hown hlocks hml hin0 hC A hA hP hD hS ls hl
  have hl : lv_has ls 1 [(0, .ref oM)] := hl
  have hown : s.vm.findClass RX10 = some m.cls := hown
  have hts : ∀ w ∈ wsX10_kitchen, w.before ([.ref oM] : List Value).toArray s = true := hts
  have hinX10 := (by decide +kernel : ∀ w ∈ u_ws RX10 TX10 12, w ∈ wsX10_kitchen)
  have f10 := hts (.fieldLink RX10 10 "BoiledEggs" "page" "LBoiledEggs$Page;") (by decide +kernel)
  have f19 := hts (.fieldLink RX10 19 "BoiledEggs" "home" "LBoiledEggs$Kitchen;") (by decide +kernel)
  have f26 := hts (.fieldLink RX10 26 "BoiledEggs" "told" "LBoiledEggs$Told;") (by decide +kernel)
  have f79 := hts (.fieldLink RX10 79 "BoiledEggs" "trierCount" "I") (by decide +kernel)
  have f83 := hts (.fieldLink RX10 83 "BoiledEggs" "isKept" "Z") (by decide +kernel)
  have f87 := hts (.fieldLink RX10 87 "BoiledEggs" "kitchensRead" "I") (by decide +kernel)
  have hinX6 := (by decide +kernel : ∀ w ∈ u_ws RX6 TX6 6, w ∈ wsX10_kitchen)
  have f90 := va_Nw.use (A := ([.ref oM] : List Value).toArray) rfl (hC.2.1 (.fieldLinkNest RX10 90 "BoiledEggs$Kitchen" "eggs" "I" "BoiledEggs") (by decide +kernel))
  refine lv_aload_n hx hb dX10_kitchen_0 rfl (lv_at hl 0 rfl) ?_
  refine va_get (D := g.1) (ci := 10) (v := .ref oP) (C := RX10) (T := TX10) (N := 12) hx hb hts hinX10 hown hC.1 hP 0 rfl rfl 0 (by decide) f10 (fun _ h9 => h9) rfl dX10_kitchen_1 ?_
  refine goSi (T := zI (kOK cp cN)) (va_runV (As := []) (rest := []) ⟨hx, hb, hml, hown, hts⟩ (k_X7_isWholeKitchen l g oP aC cN cp (by first | assumption | exact Nat.zero_le _ | omega) (by first | assumption | exact Nat.zero_le _ | omega)) (cwV 0 hts gX10_kitchen_X7_isWholeKitchen rfl rfl rfl ⟨rfl, hdX7_isWholeKitchen⟩ ⟨Nat.le_of_ble_eq_true rfl, Nat.le_of_ble_eq_true rfl⟩) (preVS hC (hP.sub [1, 2] rfl) (va_recv hC.1 hP (ci := 7) (q0 := 1) rfl rfl)) rfl rfl hl.1 rfl (lv_room (Nat.le_of_ble_eq_true rfl)) dX10_kitchen_4 ⟨Nat.le_of_ble_eq_true rfl, Nat.le_of_ble_eq_true rfl⟩) ?_
  refine lv_if_ne (tgt := 13) hx hb dX10_kitchen_7 (by decide) (fun c7 => ?_) (fun c7 => ?_)
  ·have c7 := zI_t.mp c7
   obtain ⟨⟨d1, d2, d3, d4, d5, d6, d7, d8, d9, d10, d11⟩, hn7, hn9⟩ := kOK_d hcp c7
   have hr0 := rdH_lt hcp hh0
   have hrb := rdH_hb hcp c7 hh
   refine lv_aload_n hx hb dX10_kitchen_13 rfl (lv_at hl 0 rfl) ?_
   refine va_get (D := g.1) (ci := 10) (v := .ref oH) (C := RX10) (T := TX10) (N := 12) hx hb hts hinX10 hown hC.1 hP 0 rfl rfl 1 (by decide) f19 (fun _ h9 => h9) rfl dX10_kitchen_14 ?_
   refine lv_aload_n hx hb dX10_kitchen_17 rfl (lv_at hl 0 rfl) ?_
   refine va_get (D := g.1) (ci := 10) (v := .ref oP) (C := RX10) (T := TX10) (N := 12) hx hb hts hinX10 hown hC.1 hP 0 rfl rfl 0 (by decide) f10 (fun _ h9 => h9) rfl dX10_kitchen_18 ?_
   refine goMv (S := Unit) (wr := [(oM, .inr (10, [.ref oP, .ref oH, .ref oT, .ref oK, .ref oR, .ref oD, .ref aT, .int (nI tC), .int (nI tK), .int iK, .int (nI kR), .int (nI bD)])), (oT, .inr (8, [.ref aB, .ref aW, .ref aS, .ref aU, .ref aK, .int (nI fi), .int (nI ib), .int (nI sn)])), (aB, .inl (g.2.1, 20, .inl (fun j => nI (fB j)))), (aW, .inl (g.2.2.1, 20, .inr (.inl (fun j => lN (fW j))))), (aS, .inl (g.2.1, 6, .inl (fun j => nI (fS j)))), (aU, .inl (g.2.1, 6, .inl (fun j => nI (fU j)))), (aK, .inl (g.2.1, 6, .inl fK))]) (va_runV (As := [.ref oP]) (rest := []) ⟨hx, hb, hml, hown, hts⟩ (k_X6_readFrom l g _ oH aH nE nB nTb nTr nFa oP aC cN hh cp (by first | assumption | exact Nat.zero_le _ | omega) (by first | assumption | exact Nat.zero_le _ | omega) (by first | assumption | exact Nat.zero_le _ | omega)) (cwV 1 hts gX10_kitchen_X6_readFrom rfl rfl rfl ⟨rfl, hdX6_readFrom⟩ ⟨Nat.le_of_ble_eq_true rfl, Nat.le_of_ble_eq_true rfl⟩) (preVM hC (hP.sub [3, 4, 1, 2] rfl) (hD.sub [3, 4, 1, 2] (by decide) rfl) (va_recv hC.1 hP (ci := 6) (q0 := 3) rfl rfl)) rfl rfl hl.1 rfl (lv_room (Nat.le_of_ble_eq_true rfl)) dX10_kitchen_21 ⟨Nat.le_of_ble_eq_true rfl, Nat.le_of_ble_eq_true rfl⟩) hP hD hS hA [3, 4, 1, 2] [0, 5, 6, 7, 8, 9, 10] rfl rfl (by decide) (by decide) (fun _ H locs hw_9 hP hD hS => ?_)
   have hP : va_P g.1 vwCl [(oM, .inr (10, [.ref oP, .ref oH, .ref oT, .ref oK, .ref oR, .ref oD, .ref aT, .int (nI tC), .int (nI tK), .int iK, .int (nI kR), .int (nI bD)])), (oT, .inr (8, [.ref aB, .ref aW, .ref aS, .ref aU, .ref aK, .int (nI fi), .int (nI ib), .int (nI sn)])), (aB, .inl (g.2.1, 20, .inl (fun j => nI (fB j)))), (aW, .inl (g.2.2.1, 20, .inr (.inl (fun j => lN (fW j))))), (aS, .inl (g.2.1, 6, .inl (fun j => nI (fS j)))), (aU, .inl (g.2.1, 6, .inl (fun j => nI (fU j)))), (aK, .inl (g.2.1, 6, .inl fK)), (oH, .inr (6, [.ref aH, .int (nI (cp 0 - 48)), .int (nI (cp 1 - 48)), .int (nI (cp 3 - 48)), .int (nI (cp 4 - 48)), .int (nI (cp 5 - 48))])), (aH, .inl (g.2.1, 6, .inl (fun j => nI (fo (rdH cp) hh (cp 0 - 48) j)))), (oP, .inr (7, [.ref aC, .int (nI cN)])), (aC, .inl (g.2.1, 14, .inl (fun j => nI (cp j))))] H := hP
   have hD : va_D A [(oM, .inr (10, [.ref oP, .ref oH, .ref oT, .ref oK, .ref oR, .ref oD, .ref aT, .int (nI tC), .int (nI tK), .int iK, .int (nI kR), .int (nI bD)])), (oT, .inr (8, [.ref aB, .ref aW, .ref aS, .ref aU, .ref aK, .int (nI fi), .int (nI ib), .int (nI sn)])), (aB, .inl (g.2.1, 20, .inl (fun j => nI (fB j)))), (aW, .inl (g.2.2.1, 20, .inr (.inl (fun j => lN (fW j))))), (aS, .inl (g.2.1, 6, .inl (fun j => nI (fS j)))), (aU, .inl (g.2.1, 6, .inl (fun j => nI (fU j)))), (aK, .inl (g.2.1, 6, .inl fK)), (oH, .inr (6, [.ref aH, .int (nI (cp 0 - 48)), .int (nI (cp 1 - 48)), .int (nI (cp 3 - 48)), .int (nI (cp 4 - 48)), .int (nI (cp 5 - 48))])), (aH, .inl (g.2.1, 6, .inl (fun j => nI (fo (rdH cp) hh (cp 0 - 48) j)))), (oP, .inr (7, [.ref aC, .int (nI cN)])), (aC, .inl (g.2.1, 14, .inl (fun j => nI (cp j))))] := hD
   refine lv_aload_n hx hb dX10_kitchen_24 rfl (lv_at hl 0 rfl) ?_
   refine va_get (D := g.1) (ci := 10) (v := .ref oP) (C := RX10) (T := TX10) (N := 12) hx hb hts hinX10 hown hC.1 hP 0 rfl rfl 0 (by decide) f10 (fun _ h9 => h9) rfl dX10_kitchen_25 ?_
   refine goMi (S := Unit) (wr := [(oM, .inr (10, [.ref oP, .ref oH, .ref oT, .ref oK, .ref oR, .ref oD, .ref aT, .int (nI tC), .int (nI tK), .int iK, .int (nI kR), .int (nI bD)])), (oT, .inr (8, [.ref aB, .ref aW, .ref aS, .ref aU, .ref aK, .int (nI fi), .int (nI ib), .int (nI sn)])), (aB, .inl (g.2.1, 20, .inl (fun j => nI (fB j)))), (aW, .inl (g.2.2.1, 20, .inr (.inl (fun j => lN (fW j))))), (aS, .inl (g.2.1, 6, .inl (fun j => nI (fS j)))), (aU, .inl (g.2.1, 6, .inl (fun j => nI (fU j)))), (aK, .inl (g.2.1, 6, .inl fK)), (oH, .inr (6, [.ref aH, .int (nI (cp 0 - 48)), .int (nI (cp 1 - 48)), .int (nI (cp 3 - 48)), .int (nI (cp 4 - 48)), .int (nI (cp 5 - 48))])), (aH, .inl (g.2.1, 6, .inl (fun j => nI (fo (rdH cp) hh (cp 0 - 48) j)))), (aC, .inl (g.2.1, 14, .inl (fun j => nI (cp j))))]) (va_runV (As := []) (rest := []) ⟨hx, hb, hml, hown, hts⟩ (k_X7_clear l g _ oP aC cN ) (cwV 0 hts gX10_kitchen_X7_clear rfl rfl rfl ⟨rfl, hdX7_clear⟩ ⟨Nat.le_of_ble_eq_true rfl, Nat.le_of_ble_eq_true rfl⟩) (preVM hC (hP.sub [9] rfl) (hD.sub [9] (by decide) rfl) (va_recv hC.1 hP (ci := 7) (q0 := 9) rfl rfl)) rfl rfl hl.1 rfl (lv_room (Nat.le_of_ble_eq_true rfl)) dX10_kitchen_28 ⟨Nat.le_of_ble_eq_true rfl, Nat.le_of_ble_eq_true rfl⟩) hP hD hS hA [9] [0, 1, 2, 3, 4, 5, 6, 7, 8, 10] rfl rfl (by decide) (by decide) (fun r_9 _ H locs hw_9 hP hD hS => ?_)
   subst hw_9
   have hP : va_P g.1 vwCl [(oM, .inr (10, [.ref oP, .ref oH, .ref oT, .ref oK, .ref oR, .ref oD, .ref aT, .int (nI tC), .int (nI tK), .int iK, .int (nI kR), .int (nI bD)])), (oT, .inr (8, [.ref aB, .ref aW, .ref aS, .ref aU, .ref aK, .int (nI fi), .int (nI ib), .int (nI sn)])), (aB, .inl (g.2.1, 20, .inl (fun j => nI (fB j)))), (aW, .inl (g.2.2.1, 20, .inr (.inl (fun j => lN (fW j))))), (aS, .inl (g.2.1, 6, .inl (fun j => nI (fS j)))), (aU, .inl (g.2.1, 6, .inl (fun j => nI (fU j)))), (aK, .inl (g.2.1, 6, .inl fK)), (oH, .inr (6, [.ref aH, .int (nI (cp 0 - 48)), .int (nI (cp 1 - 48)), .int (nI (cp 3 - 48)), .int (nI (cp 4 - 48)), .int (nI (cp 5 - 48))])), (aH, .inl (g.2.1, 6, .inl (fun j => nI (fo (rdH cp) hh (cp 0 - 48) j)))), (aC, .inl (g.2.1, 14, .inl (fun j => nI (cp j)))), (oP, .inr (7, [.ref aC, .int (nI 0)]))] H := hP
   have hD : va_D A [(oM, .inr (10, [.ref oP, .ref oH, .ref oT, .ref oK, .ref oR, .ref oD, .ref aT, .int (nI tC), .int (nI tK), .int iK, .int (nI kR), .int (nI bD)])), (oT, .inr (8, [.ref aB, .ref aW, .ref aS, .ref aU, .ref aK, .int (nI fi), .int (nI ib), .int (nI sn)])), (aB, .inl (g.2.1, 20, .inl (fun j => nI (fB j)))), (aW, .inl (g.2.2.1, 20, .inr (.inl (fun j => lN (fW j))))), (aS, .inl (g.2.1, 6, .inl (fun j => nI (fS j)))), (aU, .inl (g.2.1, 6, .inl (fun j => nI (fU j)))), (aK, .inl (g.2.1, 6, .inl fK)), (oH, .inr (6, [.ref aH, .int (nI (cp 0 - 48)), .int (nI (cp 1 - 48)), .int (nI (cp 3 - 48)), .int (nI (cp 4 - 48)), .int (nI (cp 5 - 48))])), (aH, .inl (g.2.1, 6, .inl (fun j => nI (fo (rdH cp) hh (cp 0 - 48) j)))), (aC, .inl (g.2.1, 14, .inl (fun j => nI (cp j)))), (oP, .inr (7, [.ref aC, .int (nI 0)]))] := hD
   refine lv_pop hx hb dX10_kitchen_31 rfl ?_
   refine lv_aload_n hx hb dX10_kitchen_32 rfl (lv_at hl 0 rfl) ?_
   refine va_get (D := g.1) (ci := 10) (v := .ref oT) (C := RX10) (T := TX10) (N := 12) hx hb hts hinX10 hown hC.1 hP 0 rfl rfl 2 (by decide) f26 (fun _ h9 => h9) rfl dX10_kitchen_33 ?_
   refine lv_aload_n hx hb dX10_kitchen_36 rfl (lv_at hl 0 rfl) ?_
   refine va_get (D := g.1) (ci := 10) (v := .ref oH) (C := RX10) (T := TX10) (N := 12) hx hb hts hinX10 hown hC.1 hP 0 rfl rfl 1 (by decide) f19 (fun _ h9 => h9) rfl dX10_kitchen_37 ?_
   refine goMv (S := Unit) (wr := [(oM, .inr (10, [.ref oP, .ref oH, .ref oT, .ref oK, .ref oR, .ref oD, .ref aT, .int (nI tC), .int (nI tK), .int iK, .int (nI kR), .int (nI bD)])), (aC, .inl (g.2.1, 14, .inl (fun j => nI (cp j)))), (oP, .inr (7, [.ref aC, .int (nI 0)]))]) (va_runV (As := [.ref oH]) (rest := []) ⟨hx, hb, hml, hown, hts⟩ (k_X8_begin l g _ oT aB aW aS aU aK fi ib sn oH aH (cp 0 - 48) (cp 1 - 48) (cp 3 - 48) (cp 4 - 48) (cp 5 - 48) fB fW fS fU fK (fo (rdH cp) hh (cp 0 - 48)) (by omega) (by omega) (hr0 _) (hrb)) (cwV 1 hts gX10_kitchen_X8_begin rfl rfl rfl ⟨rfl, hdX8_begin⟩ ⟨Nat.le_of_ble_eq_true rfl, Nat.le_of_ble_eq_true rfl⟩) (preVM hC (hP.sub [1, 2, 3, 4, 5, 6, 7, 8] rfl) (hD.sub [1, 2, 3, 4, 5, 6, 7, 8] (by decide) rfl) (va_recv hC.1 hP (ci := 8) (q0 := 1) rfl rfl)) rfl rfl hl.1 rfl (lv_room (Nat.le_of_ble_eq_true rfl)) dX10_kitchen_40 ⟨Nat.le_of_ble_eq_true rfl, Nat.le_of_ble_eq_true rfl⟩) hP hD hS hA [1, 2, 3, 4, 5, 6, 7, 8] [0, 9, 10] rfl rfl (by decide) (by decide) (fun _ H locs hw_9 hP hD hS => ?_)
   have hP : va_P g.1 vwCl [(oM, .inr (10, [.ref oP, .ref oH, .ref oT, .ref oK, .ref oR, .ref oD, .ref aT, .int (nI tC), .int (nI tK), .int iK, .int (nI kR), .int (nI bD)])), (aC, .inl (g.2.1, 14, .inl (fun j => nI (cp j)))), (oP, .inr (7, [.ref aC, .int (nI 0)])), (oT, .inr (8, [.ref aB, .ref aW, .ref aS, .ref aU, .ref aK, .int (nI ((bgS (fo (rdH cp) hh (cp 0 - 48)) (cp 0 - 48) (cp 1 - 48) fB fW (2 ^ (cp 0 - 48))).2.2)), .int (nI (2 ^ (cp 0 - 48) - 1)), .int (nI 0)])), (aB, .inl (g.2.1, 20, .inl (fun j => nI ((bgS (fo (rdH cp) hh (cp 0 - 48)) (cp 0 - 48) (cp 1 - 48) fB fW (2 ^ (cp 0 - 48))).1 j)))), (aW, .inl (g.2.2.1, 20, .inr (.inl (fun j => lN ((bgS (fo (rdH cp) hh (cp 0 - 48)) (cp 0 - 48) (cp 1 - 48) fB fW (2 ^ (cp 0 - 48))).2.1 j))))), (aS, .inl (g.2.1, 6, .inl (fun j => nI (fo zF fS 6 j)))), (aU, .inl (g.2.1, 6, .inl (fun j => nI (fo zF fU 6 j)))), (aK, .inl (g.2.1, 6, .inl (fo nF fK 6))), (oH, .inr (6, [.ref aH, .int (nI (cp 0 - 48)), .int (nI (cp 1 - 48)), .int (nI (cp 3 - 48)), .int (nI (cp 4 - 48)), .int (nI (cp 5 - 48))])), (aH, .inl (g.2.1, 6, .inl (fun j => nI ((fo (rdH cp) hh (cp 0 - 48)) j))))] H := hP
   have hD : va_D A [(oM, .inr (10, [.ref oP, .ref oH, .ref oT, .ref oK, .ref oR, .ref oD, .ref aT, .int (nI tC), .int (nI tK), .int iK, .int (nI kR), .int (nI bD)])), (aC, .inl (g.2.1, 14, .inl (fun j => nI (cp j)))), (oP, .inr (7, [.ref aC, .int (nI 0)])), (oT, .inr (8, [.ref aB, .ref aW, .ref aS, .ref aU, .ref aK, .int (nI ((bgS (fo (rdH cp) hh (cp 0 - 48)) (cp 0 - 48) (cp 1 - 48) fB fW (2 ^ (cp 0 - 48))).2.2)), .int (nI (2 ^ (cp 0 - 48) - 1)), .int (nI 0)])), (aB, .inl (g.2.1, 20, .inl (fun j => nI ((bgS (fo (rdH cp) hh (cp 0 - 48)) (cp 0 - 48) (cp 1 - 48) fB fW (2 ^ (cp 0 - 48))).1 j)))), (aW, .inl (g.2.2.1, 20, .inr (.inl (fun j => lN ((bgS (fo (rdH cp) hh (cp 0 - 48)) (cp 0 - 48) (cp 1 - 48) fB fW (2 ^ (cp 0 - 48))).2.1 j))))), (aS, .inl (g.2.1, 6, .inl (fun j => nI (fo zF fS 6 j)))), (aU, .inl (g.2.1, 6, .inl (fun j => nI (fo zF fU 6 j)))), (aK, .inl (g.2.1, 6, .inl (fo nF fK 6))), (oH, .inr (6, [.ref aH, .int (nI (cp 0 - 48)), .int (nI (cp 1 - 48)), .int (nI (cp 3 - 48)), .int (nI (cp 4 - 48)), .int (nI (cp 5 - 48))])), (aH, .inl (g.2.1, 6, .inl (fun j => nI ((fo (rdH cp) hh (cp 0 - 48)) j))))] := hD
   refine lv_aload_n hx hb dX10_kitchen_43 rfl (lv_at hl 0 rfl) ?_
   refine lv_iconst (v := nI 0) hx hb dX10_kitchen_44 (by decide) ?_
   refine va_put (D := g.1) (ci := 10) (v := .int (nI 0)) (ty := .int) (C := RX10) (T := TX10) (N := 12) hx hb hts hinX10 tyX10 tyX10_ok nmX10 hown hC.1 hP hD hS 0 rfl rfl 7 (by decide) f79 (fun _ h9 => h9) rfl (by decide +kernel) rfl rfl (Nat.le_of_ble_eq_true rfl) dX10_kitchen_45 (fun H locs hP hD hS => ?_)
   have hP : va_P g.1 vwCl [(oM, .inr (10, [.ref oP, .ref oH, .ref oT, .ref oK, .ref oR, .ref oD, .ref aT, .int (nI 0), .int (nI tK), .int iK, .int (nI kR), .int (nI bD)])), (aC, .inl (g.2.1, 14, .inl (fun j => nI (cp j)))), (oP, .inr (7, [.ref aC, .int (nI 0)])), (oT, .inr (8, [.ref aB, .ref aW, .ref aS, .ref aU, .ref aK, .int (nI ((bgS (fo (rdH cp) hh (cp 0 - 48)) (cp 0 - 48) (cp 1 - 48) fB fW (2 ^ (cp 0 - 48))).2.2)), .int (nI (2 ^ (cp 0 - 48) - 1)), .int (nI 0)])), (aB, .inl (g.2.1, 20, .inl (fun j => nI ((bgS (fo (rdH cp) hh (cp 0 - 48)) (cp 0 - 48) (cp 1 - 48) fB fW (2 ^ (cp 0 - 48))).1 j)))), (aW, .inl (g.2.2.1, 20, .inr (.inl (fun j => lN ((bgS (fo (rdH cp) hh (cp 0 - 48)) (cp 0 - 48) (cp 1 - 48) fB fW (2 ^ (cp 0 - 48))).2.1 j))))), (aS, .inl (g.2.1, 6, .inl (fun j => nI (fo zF fS 6 j)))), (aU, .inl (g.2.1, 6, .inl (fun j => nI (fo zF fU 6 j)))), (aK, .inl (g.2.1, 6, .inl (fo nF fK 6))), (oH, .inr (6, [.ref aH, .int (nI (cp 0 - 48)), .int (nI (cp 1 - 48)), .int (nI (cp 3 - 48)), .int (nI (cp 4 - 48)), .int (nI (cp 5 - 48))])), (aH, .inl (g.2.1, 6, .inl (fun j => nI ((fo (rdH cp) hh (cp 0 - 48)) j))))] H := hP
   have hD : va_D A [(oM, .inr (10, [.ref oP, .ref oH, .ref oT, .ref oK, .ref oR, .ref oD, .ref aT, .int (nI 0), .int (nI tK), .int iK, .int (nI kR), .int (nI bD)])), (aC, .inl (g.2.1, 14, .inl (fun j => nI (cp j)))), (oP, .inr (7, [.ref aC, .int (nI 0)])), (oT, .inr (8, [.ref aB, .ref aW, .ref aS, .ref aU, .ref aK, .int (nI ((bgS (fo (rdH cp) hh (cp 0 - 48)) (cp 0 - 48) (cp 1 - 48) fB fW (2 ^ (cp 0 - 48))).2.2)), .int (nI (2 ^ (cp 0 - 48) - 1)), .int (nI 0)])), (aB, .inl (g.2.1, 20, .inl (fun j => nI ((bgS (fo (rdH cp) hh (cp 0 - 48)) (cp 0 - 48) (cp 1 - 48) fB fW (2 ^ (cp 0 - 48))).1 j)))), (aW, .inl (g.2.2.1, 20, .inr (.inl (fun j => lN ((bgS (fo (rdH cp) hh (cp 0 - 48)) (cp 0 - 48) (cp 1 - 48) fB fW (2 ^ (cp 0 - 48))).2.1 j))))), (aS, .inl (g.2.1, 6, .inl (fun j => nI (fo zF fS 6 j)))), (aU, .inl (g.2.1, 6, .inl (fun j => nI (fo zF fU 6 j)))), (aK, .inl (g.2.1, 6, .inl (fo nF fK 6))), (oH, .inr (6, [.ref aH, .int (nI (cp 0 - 48)), .int (nI (cp 1 - 48)), .int (nI (cp 3 - 48)), .int (nI (cp 4 - 48)), .int (nI (cp 5 - 48))])), (aH, .inl (g.2.1, 6, .inl (fun j => nI ((fo (rdH cp) hh (cp 0 - 48)) j))))] := hD
   refine lv_aload_n hx hb dX10_kitchen_48 rfl (lv_at hl 0 rfl) ?_
   refine lv_iconst (v := nI 0) hx hb dX10_kitchen_49 (by decide) ?_
   refine va_put (D := g.1) (ci := 10) (v := .int (nI 0)) (ty := .boolean) (C := RX10) (T := TX10) (N := 12) hx hb hts hinX10 tyX10 tyX10_ok nmX10 hown hC.1 hP hD hS 0 rfl rfl 9 (by decide) f83 (fun _ h9 => h9) rfl (by decide +kernel) rfl rfl (Nat.le_of_ble_eq_true rfl) dX10_kitchen_50 (fun H locs hP hD hS => ?_)
   have hP : va_P g.1 vwCl [(oM, .inr (10, [.ref oP, .ref oH, .ref oT, .ref oK, .ref oR, .ref oD, .ref aT, .int (nI 0), .int (nI tK), .int (nI 0), .int (nI kR), .int (nI bD)])), (aC, .inl (g.2.1, 14, .inl (fun j => nI (cp j)))), (oP, .inr (7, [.ref aC, .int (nI 0)])), (oT, .inr (8, [.ref aB, .ref aW, .ref aS, .ref aU, .ref aK, .int (nI ((bgS (fo (rdH cp) hh (cp 0 - 48)) (cp 0 - 48) (cp 1 - 48) fB fW (2 ^ (cp 0 - 48))).2.2)), .int (nI (2 ^ (cp 0 - 48) - 1)), .int (nI 0)])), (aB, .inl (g.2.1, 20, .inl (fun j => nI ((bgS (fo (rdH cp) hh (cp 0 - 48)) (cp 0 - 48) (cp 1 - 48) fB fW (2 ^ (cp 0 - 48))).1 j)))), (aW, .inl (g.2.2.1, 20, .inr (.inl (fun j => lN ((bgS (fo (rdH cp) hh (cp 0 - 48)) (cp 0 - 48) (cp 1 - 48) fB fW (2 ^ (cp 0 - 48))).2.1 j))))), (aS, .inl (g.2.1, 6, .inl (fun j => nI (fo zF fS 6 j)))), (aU, .inl (g.2.1, 6, .inl (fun j => nI (fo zF fU 6 j)))), (aK, .inl (g.2.1, 6, .inl (fo nF fK 6))), (oH, .inr (6, [.ref aH, .int (nI (cp 0 - 48)), .int (nI (cp 1 - 48)), .int (nI (cp 3 - 48)), .int (nI (cp 4 - 48)), .int (nI (cp 5 - 48))])), (aH, .inl (g.2.1, 6, .inl (fun j => nI ((fo (rdH cp) hh (cp 0 - 48)) j))))] H := hP
   have hD : va_D A [(oM, .inr (10, [.ref oP, .ref oH, .ref oT, .ref oK, .ref oR, .ref oD, .ref aT, .int (nI 0), .int (nI tK), .int (nI 0), .int (nI kR), .int (nI bD)])), (aC, .inl (g.2.1, 14, .inl (fun j => nI (cp j)))), (oP, .inr (7, [.ref aC, .int (nI 0)])), (oT, .inr (8, [.ref aB, .ref aW, .ref aS, .ref aU, .ref aK, .int (nI ((bgS (fo (rdH cp) hh (cp 0 - 48)) (cp 0 - 48) (cp 1 - 48) fB fW (2 ^ (cp 0 - 48))).2.2)), .int (nI (2 ^ (cp 0 - 48) - 1)), .int (nI 0)])), (aB, .inl (g.2.1, 20, .inl (fun j => nI ((bgS (fo (rdH cp) hh (cp 0 - 48)) (cp 0 - 48) (cp 1 - 48) fB fW (2 ^ (cp 0 - 48))).1 j)))), (aW, .inl (g.2.2.1, 20, .inr (.inl (fun j => lN ((bgS (fo (rdH cp) hh (cp 0 - 48)) (cp 0 - 48) (cp 1 - 48) fB fW (2 ^ (cp 0 - 48))).2.1 j))))), (aS, .inl (g.2.1, 6, .inl (fun j => nI (fo zF fS 6 j)))), (aU, .inl (g.2.1, 6, .inl (fun j => nI (fo zF fU 6 j)))), (aK, .inl (g.2.1, 6, .inl (fo nF fK 6))), (oH, .inr (6, [.ref aH, .int (nI (cp 0 - 48)), .int (nI (cp 1 - 48)), .int (nI (cp 3 - 48)), .int (nI (cp 4 - 48)), .int (nI (cp 5 - 48))])), (aH, .inl (g.2.1, 6, .inl (fun j => nI ((fo (rdH cp) hh (cp 0 - 48)) j))))] := hD
   refine lv_aload_n hx hb dX10_kitchen_53 rfl (lv_at hl 0 rfl) ?_
   refine lv_dup hx hb dX10_kitchen_54 rfl ?_
   refine va_get (D := g.1) (ci := 10) (v := .int (nI kR)) (C := RX10) (T := TX10) (N := 12) hx hb hts hinX10 hown hC.1 hP 0 rfl rfl 10 (by decide) f87 (fun _ h9 => h9) rfl dX10_kitchen_55 ?_
   refine lv_iconst (v := nI 1) hx hb dX10_kitchen_58 (by decide) ?_
   refine lv_iadd hx hb dX10_kitchen_59 ?_
   refine top_i (y := nI (kR + 1)) (nI_add _ _) ?_
   refine va_put (D := g.1) (ci := 10) (v := .int (nI (kR + 1))) (ty := .int) (C := RX10) (T := TX10) (N := 12) hx hb hts hinX10 tyX10 tyX10_ok nmX10 hown hC.1 hP hD hS 0 rfl rfl 10 (by decide) f87 (fun _ h9 => h9) rfl (by decide +kernel) rfl rfl (Nat.le_of_ble_eq_true rfl) dX10_kitchen_60 (fun H locs hP hD hS => ?_)
   have hP : va_P g.1 vwCl [(oM, .inr (10, [.ref oP, .ref oH, .ref oT, .ref oK, .ref oR, .ref oD, .ref aT, .int (nI 0), .int (nI tK), .int (nI 0), .int (nI (kR + 1)), .int (nI bD)])), (aC, .inl (g.2.1, 14, .inl (fun j => nI (cp j)))), (oP, .inr (7, [.ref aC, .int (nI 0)])), (oT, .inr (8, [.ref aB, .ref aW, .ref aS, .ref aU, .ref aK, .int (nI ((bgS (fo (rdH cp) hh (cp 0 - 48)) (cp 0 - 48) (cp 1 - 48) fB fW (2 ^ (cp 0 - 48))).2.2)), .int (nI (2 ^ (cp 0 - 48) - 1)), .int (nI 0)])), (aB, .inl (g.2.1, 20, .inl (fun j => nI ((bgS (fo (rdH cp) hh (cp 0 - 48)) (cp 0 - 48) (cp 1 - 48) fB fW (2 ^ (cp 0 - 48))).1 j)))), (aW, .inl (g.2.2.1, 20, .inr (.inl (fun j => lN ((bgS (fo (rdH cp) hh (cp 0 - 48)) (cp 0 - 48) (cp 1 - 48) fB fW (2 ^ (cp 0 - 48))).2.1 j))))), (aS, .inl (g.2.1, 6, .inl (fun j => nI (fo zF fS 6 j)))), (aU, .inl (g.2.1, 6, .inl (fun j => nI (fo zF fU 6 j)))), (aK, .inl (g.2.1, 6, .inl (fo nF fK 6))), (oH, .inr (6, [.ref aH, .int (nI (cp 0 - 48)), .int (nI (cp 1 - 48)), .int (nI (cp 3 - 48)), .int (nI (cp 4 - 48)), .int (nI (cp 5 - 48))])), (aH, .inl (g.2.1, 6, .inl (fun j => nI ((fo (rdH cp) hh (cp 0 - 48)) j))))] H := hP
   have hD : va_D A [(oM, .inr (10, [.ref oP, .ref oH, .ref oT, .ref oK, .ref oR, .ref oD, .ref aT, .int (nI 0), .int (nI tK), .int (nI 0), .int (nI (kR + 1)), .int (nI bD)])), (aC, .inl (g.2.1, 14, .inl (fun j => nI (cp j)))), (oP, .inr (7, [.ref aC, .int (nI 0)])), (oT, .inr (8, [.ref aB, .ref aW, .ref aS, .ref aU, .ref aK, .int (nI ((bgS (fo (rdH cp) hh (cp 0 - 48)) (cp 0 - 48) (cp 1 - 48) fB fW (2 ^ (cp 0 - 48))).2.2)), .int (nI (2 ^ (cp 0 - 48) - 1)), .int (nI 0)])), (aB, .inl (g.2.1, 20, .inl (fun j => nI ((bgS (fo (rdH cp) hh (cp 0 - 48)) (cp 0 - 48) (cp 1 - 48) fB fW (2 ^ (cp 0 - 48))).1 j)))), (aW, .inl (g.2.2.1, 20, .inr (.inl (fun j => lN ((bgS (fo (rdH cp) hh (cp 0 - 48)) (cp 0 - 48) (cp 1 - 48) fB fW (2 ^ (cp 0 - 48))).2.1 j))))), (aS, .inl (g.2.1, 6, .inl (fun j => nI (fo zF fS 6 j)))), (aU, .inl (g.2.1, 6, .inl (fun j => nI (fo zF fU 6 j)))), (aK, .inl (g.2.1, 6, .inl (fo nF fK 6))), (oH, .inr (6, [.ref aH, .int (nI (cp 0 - 48)), .int (nI (cp 1 - 48)), .int (nI (cp 3 - 48)), .int (nI (cp 4 - 48)), .int (nI (cp 5 - 48))])), (aH, .inl (g.2.1, 6, .inl (fun j => nI ((fo (rdH cp) hh (cp 0 - 48)) j))))] := hD
   refine lv_aload_n hx hb dX10_kitchen_63 rfl (lv_at hl 0 rfl) ?_
   refine va_get (D := g.1) (ci := 10) (v := .ref oH) (C := RX10) (T := TX10) (N := 12) hx hb hts hinX10 hown hC.1 hP 0 rfl rfl 1 (by decide) f19 (fun _ h9 => h9) rfl dX10_kitchen_64 ?_
   refine va_getN (D := g.1) (ci := 6) (v := .int (nI (cp 0 - 48))) (C := RX6) (T := TX6) (N := 6) hx hb hts hinX6 hown hC.1 hP 9 rfl rfl 1 (by decide) f90 (fun _ h9 => h9) rfl dX10_kitchen_67 ?_
   exact retMi (w := [(oM, .inr (10, [.ref oP, .ref oH, .ref oT, .ref oK, .ref oR, .ref oD, .ref aT, .int (nI 0), .int (nI tK), .int (nI 0), .int (nI (kR + 1)), .int (nI bD)])), (oP, .inr (7, [.ref aC, .int (nI 0)])), (aC, .inl (g.2.1, 14, .inl (fun j => nI (cp j)))), (oH, .inr (6, [.ref aH, .int (nI (cp 0 - 48)), .int (nI (cp 1 - 48)), .int (nI (cp 3 - 48)), .int (nI (cp 4 - 48)), .int (nI (cp 5 - 48))])), (aH, .inl (g.2.1, 6, .inl (fun j => nI ((fo (rdH cp) hh (cp 0 - 48)) j)))), (oT, .inr (8, [.ref aB, .ref aW, .ref aS, .ref aU, .ref aK, .int (nI ((bgS (fo (rdH cp) hh (cp 0 - 48)) (cp 0 - 48) (cp 1 - 48) fB fW (2 ^ (cp 0 - 48))).2.2)), .int (nI (2 ^ (cp 0 - 48) - 1)), .int (nI 0)])), (aB, .inl (g.2.1, 20, .inl (fun j => nI ((bgS (fo (rdH cp) hh (cp 0 - 48)) (cp 0 - 48) (cp 1 - 48) fB fW (2 ^ (cp 0 - 48))).1 j)))), (aW, .inl (g.2.2.1, 20, .inr (.inl (fun j => lN ((bgS (fo (rdH cp) hh (cp 0 - 48)) (cp 0 - 48) (cp 1 - 48) fB fW (2 ^ (cp 0 - 48))).2.1 j))))), (aS, .inl (g.2.1, 6, .inl (fun j => nI (fo zF fS 6 j)))), (aU, .inl (g.2.1, 6, .inl (fun j => nI (fo zF fU 6 j)))), (aK, .inl (g.2.1, 6, .inl (fo nF fK 6)))]) hx hb hr hlocks (hP.sub [0, 2, 1, 9, 10, 3, 4, 5, 6, 7, 8] rfl) (hD.sub [0, 2, 1, 9, 10, 3, 4, 5, 6, 7, 8] (by decide) rfl) hS () (by rw [c7] <;> rfl) (by rw [if_pos c7]) dX10_kitchen_70
  ·have c7 := zI_f.mp c7
   refine lv_bipush (v := (-103)) hx hb dX10_kitchen_10 (by decide) ?_
   exact retMi (w := [(oM, .inr (10, [.ref oP, .ref oH, .ref oT, .ref oK, .ref oR, .ref oD, .ref aT, .int (nI tC), .int (nI tK), .int iK, .int (nI kR), .int (nI bD)])), (oP, .inr (7, [.ref aC, .int (nI cN)])), (aC, .inl (g.2.1, 14, .inl (fun j => nI (cp j)))), (oH, .inr (6, [.ref aH, .int (nI nE), .int (nI nB), .int (nI nTb), .int (nI nTr), .int (nI nFa)])), (aH, .inl (g.2.1, 6, .inl (fun j => nI (hh j)))), (oT, .inr (8, [.ref aB, .ref aW, .ref aS, .ref aU, .ref aK, .int (nI fi), .int (nI ib), .int (nI sn)])), (aB, .inl (g.2.1, 20, .inl (fun j => nI (fB j)))), (aW, .inl (g.2.2.1, 20, .inr (.inl (fun j => lN (fW j))))), (aS, .inl (g.2.1, 6, .inl (fun j => nI (fS j)))), (aU, .inl (g.2.1, 6, .inl (fun j => nI (fU j)))), (aK, .inl (g.2.1, 6, .inl fK))]) hx hb hr hlocks (hP.sub [0, 1, 2, 3, 4, 5, 6, 7, 8, 9, 10] rfl) (hD.sub [0, 1, 2, 3, 4, 5, 6, 7, 8, 9, 10] (by decide) rfl) hS () (by rw [c7] <;> rfl) (by rw [if_neg (by rw [c7]; decide)]) dX10_kitchen_12

set_option maxHeartbeats 4000000 in
set_option maxRecDepth 100000 in
/-- BoiledEggs.egg  -/
theorem k_X10_egg (l : Launch) (g : GG) (oM : Nat) (oP : Nat) (oH : Nat) (oT : Nat) (oK : Nat) (oR : Nat) (oD : Nat) (aT : Nat) (tC : Nat) (tK : Nat) (iK : Int32) (kR : Nat) (bD : Nat) (aH : Nat) (nE : Nat) (nB : Nat) (nTb : Nat) (nTr : Nat) (nFa : Nat) (aB : Nat) (aW : Nat) (aS : Nat) (aU : Nat) (aK : Nat) (fi : Nat) (ib : Nat) (sn : Nat) (hh : Nat → Nat) (fS : Nat → Nat) (fU : Nat → Nat) (fK : Nat → Int32) (xe : Int32) (xw : Int32) (hE : nE ≤ 6) (hib : ib < 64) : Met l yX10_egg wsX10_egg ({ frames := 2, cells := 0, slots := 0, locals := 42 }) (pS g [.ref oM, .int xe, .int xw] [(oM, .inr (10, [.ref oP, .ref oH, .ref oT, .ref oK, .ref oR, .ref oD, .ref aT, .int (nI tC), .int (nI tK), .int iK, .int (nI kR), .int (nI bD)])), (oH, .inr (6, [.ref aH, .int (nI nE), .int (nI nB), .int (nI nTb), .int (nI nTr), .int (nI nFa)])), (aH, .inl (g.2.1, 6, .inl (fun j => nI (hh j)))), (oT, .inr (8, [.ref aB, .ref aW, .ref aS, .ref aU, .ref aK, .int (nI fi), .int (nI ib), .int (nI sn)])), (aS, .inl (g.2.1, 6, .inl (fun j => nI (fS j)))), (aU, .inl (g.2.1, 6, .inl (fun j => nI (fU j)))), (aK, .inl (g.2.1, 6, .inl fK))]) (vp_Si (fun r => r = (ceggR nE hh fS fU fK ib xe xw))) 0 0 noF := by
  refine metS (cc := cX10_egg) (maxL := 3) (ret := (some .int)) (by decide) rfl (Nat.le_of_ble_eq_true rfl) ?_
  intro p e s m below meth c hx hb hr hts hown hlocks hml hC hP ls hl
  have hl : lv_has ls 3 [(0, .ref oM), (1, .int xe), (2, .int xw)] := hl
  have hown : s.vm.findClass RX10 = some m.cls := hown
  have hts : ∀ w ∈ wsX10_egg, w.before ([.ref oM, .int xe, .int xw] : List Value).toArray s = true := hts
  have hinX10 := (by decide +kernel : ∀ w ∈ u_ws RX10 TX10 12, w ∈ wsX10_egg)
  have f19 := hts (.fieldLink RX10 19 "BoiledEggs" "home" "LBoiledEggs$Kitchen;") (by decide +kernel)
  have hinX6 := (by decide +kernel : ∀ w ∈ u_ws RX6 TX6 6, w ∈ wsX10_egg)
  have f97 := va_Nw.use (A := ([.ref oM, .int xe, .int xw] : List Value).toArray) rfl (hC.2.1 (.fieldLinkNest RX10 97 "BoiledEggs$Kitchen" "habits" "[I" "BoiledEggs") (by decide +kernel))
  have f26 := hts (.fieldLink RX10 26 "BoiledEggs" "told" "LBoiledEggs$Told;") (by decide +kernel)
  have hinX8 := (by decide +kernel : ∀ w ∈ u_ws RX8 TX8 8, w ∈ wsX10_egg)
  have f104 := va_Nw.use (A := ([.ref oM, .int xe, .int xw] : List Value).toArray) rfl (hC.2.1 (.fieldLinkNest RX10 104 "BoiledEggs$Told" "spins" "[I" "BoiledEggs") (by decide +kernel))
  have f107 := va_Nw.use (A := ([.ref oM, .int xe, .int xw] : List Value).toArray) rfl (hC.2.1 (.fieldLinkNest RX10 107 "BoiledEggs$Told" "turned" "[I" "BoiledEggs") (by decide +kernel))
  have f110 := va_Nw.use (A := ([.ref oM, .int xe, .int xw] : List Value).toArray) rfl (hC.2.1 (.fieldLinkNest RX10 110 "BoiledEggs$Told" "known" "[I" "BoiledEggs") (by decide +kernel))
  refine lv_aload_n hx hb dX10_egg_0 rfl (lv_at hl 0 rfl) ?_
  refine lv_iload_n hx hb dX10_egg_1 rfl (lv_at hl 1 rfl) ?_
  refine goSi (T := zI (isE nE xe)) (va_runV (As := [.int xe]) (rest := []) ⟨hx, hb, hml, hown, hts⟩ (k_X10_isEgg l g oM oP oH oT oK oR oD aT tC tK iK kR bD aH nE nB nTb nTr nFa xe (by first | assumption | exact Nat.zero_le _ | omega)) (cwV 1 hts gX10_egg_X10_isEgg rfl rfl rfl ⟨rfl, hdX10_isEgg⟩ ⟨Nat.le_of_ble_eq_true rfl, Nat.le_of_ble_eq_true rfl⟩) (preVS hC (hP.sub [0, 1] rfl) (va_recv hC.1 hP (ci := 10) (q0 := 0) rfl rfl)) rfl rfl hl.1 rfl (lv_room (Nat.le_of_ble_eq_true rfl)) dX10_egg_2 ⟨Nat.le_of_ble_eq_true rfl, Nat.le_of_ble_eq_true rfl⟩) ?_
  refine lv_if_ne (tgt := 11) hx hb dX10_egg_5 (by decide) (fun c5 => ?_) (fun c5 => ?_)
  ·have c5 := zI_t.mp c5
   obtain ⟨k, hk, rfl⟩ := isE_t c5
   have hx9 : ix (nI k) = k := ix_nI (by omega)
   refine lv_iload_n hx hb dX10_egg_11 rfl (lv_at hl 2 rfl) ?_
   rcases sw_cases xw 5 (by decide) with ⟨k9, hk9, c12⟩ | c12
   ·have hk9 : k9 = 0 ∨ k9 = 1 ∨ k9 = 2 ∨ k9 = 3 ∨ k9 = 4 := by omega
    rcases hk9 with rfl | rfl | rfl | rfl | rfl
    ·subst c12
     refine lv_tableIn (off := 36) (tgt := 48) hx hb dX10_egg_12 (by decide) (by decide) (by decide) (by decide) ?_
     refine lv_aload_n hx hb dX10_egg_48 rfl (lv_at hl 0 rfl) ?_
     refine va_get (D := g.1) (ci := 10) (v := .ref oH) (C := RX10) (T := TX10) (N := 12) hx hb hts hinX10 hown hC.1 hP 0 rfl rfl 1 (by decide) f19 (fun _ h9 => h9) rfl dX10_egg_49 ?_
     refine va_getN (D := g.1) (ci := 6) (v := .ref aH) (C := RX6) (T := TX6) (N := 6) hx hb hts hinX6 hown hC.1 hP 1 rfl rfl 0 (by decide) f97 (fun _ h9 => h9) rfl dX10_egg_52 ?_
     refine lv_iload_n hx hb dX10_egg_55 rfl (lv_at hl 1 rfl) ?_
     refine ald_i (f := fun j => nI (hh j)) (j := k) hx hb hC hP 2 rfl (by omega) (by decide) dX10_egg_56 ?_
     exact retSi hx hb hr hlocks (by rw [ceggR, if_pos c5, hx9] <;> rfl) dX10_egg_57
    ·subst c12
     refine lv_tableIn (off := 46) (tgt := 58) hx hb dX10_egg_12 (by decide) (by decide) (by decide) (by decide) ?_
     refine lv_aload_n hx hb dX10_egg_58 rfl (lv_at hl 0 rfl) ?_
     refine va_get (D := g.1) (ci := 10) (v := .ref oT) (C := RX10) (T := TX10) (N := 12) hx hb hts hinX10 hown hC.1 hP 0 rfl rfl 2 (by decide) f26 (fun _ h9 => h9) rfl dX10_egg_59 ?_
     refine lv_iload_n hx hb dX10_egg_62 rfl (lv_at hl 1 rfl) ?_
     refine goSi (T := zI (ib.testBit k)) (va_runV (As := [.int (nI k)]) (rest := []) ⟨hx, hb, hml, hown, hts⟩ (k_X8_isInBox l g oT aB aW aS aU aK fi ib sn k (by first | assumption | exact Nat.zero_le _ | omega) (by first | assumption | exact Nat.zero_le _ | omega)) (cwV 1 hts gX10_egg_X8_isInBox rfl rfl rfl ⟨rfl, hdX8_isInBox⟩ ⟨Nat.le_of_ble_eq_true rfl, Nat.le_of_ble_eq_true rfl⟩) (preVS hC (hP.sub [3] rfl) (va_recv hC.1 hP (ci := 8) (q0 := 3) rfl rfl)) rfl rfl hl.1 rfl (lv_room (Nat.le_of_ble_eq_true rfl)) dX10_egg_63 ⟨Nat.le_of_ble_eq_true rfl, Nat.le_of_ble_eq_true rfl⟩) ?_
     refine lv_if_eq (tgt := 73) hx hb dX10_egg_66 (by decide) (fun c66 => ?_) (fun c66 => ?_)
     ·have c66 := zI_f.mp c66
      refine lv_iconst (v := nI 0) hx hb dX10_egg_73 (by decide) ?_
      exact retSi hx hb hr hlocks (by rw [ceggR, if_pos c5, hx9]; show _ = zI (ib.testBit k); rw [c66]; rfl) dX10_egg_74
     ·have c66 := zI_t.mp c66
      refine lv_iconst (v := nI 1) hx hb dX10_egg_69 (by decide) ?_
      refine lv_goto (tgt := 74) hx hb dX10_egg_70 (by decide) ?_
      exact retSi hx hb hr hlocks (by rw [ceggR, if_pos c5, hx9]; show _ = zI (ib.testBit k); rw [c66]; rfl) dX10_egg_74
    ·subst c12
     refine lv_tableIn (off := 63) (tgt := 75) hx hb dX10_egg_12 (by decide) (by decide) (by decide) (by decide) ?_
     refine lv_aload_n hx hb dX10_egg_75 rfl (lv_at hl 0 rfl) ?_
     refine va_get (D := g.1) (ci := 10) (v := .ref oT) (C := RX10) (T := TX10) (N := 12) hx hb hts hinX10 hown hC.1 hP 0 rfl rfl 2 (by decide) f26 (fun _ h9 => h9) rfl dX10_egg_76 ?_
     refine va_getN (D := g.1) (ci := 8) (v := .ref aS) (C := RX8) (T := TX8) (N := 8) hx hb hts hinX8 hown hC.1 hP 3 rfl rfl 2 (by decide) f104 (fun _ h9 => h9) rfl dX10_egg_79 ?_
     refine lv_iload_n hx hb dX10_egg_82 rfl (lv_at hl 1 rfl) ?_
     refine ald_i (f := fun j => nI (fS j)) (j := k) hx hb hC hP 4 rfl (by omega) (by decide) dX10_egg_83 ?_
     exact retSi hx hb hr hlocks (by rw [ceggR, if_pos c5, hx9] <;> rfl) dX10_egg_84
    ·subst c12
     refine lv_tableIn (off := 73) (tgt := 85) hx hb dX10_egg_12 (by decide) (by decide) (by decide) (by decide) ?_
     refine lv_aload_n hx hb dX10_egg_85 rfl (lv_at hl 0 rfl) ?_
     refine va_get (D := g.1) (ci := 10) (v := .ref oT) (C := RX10) (T := TX10) (N := 12) hx hb hts hinX10 hown hC.1 hP 0 rfl rfl 2 (by decide) f26 (fun _ h9 => h9) rfl dX10_egg_86 ?_
     refine va_getN (D := g.1) (ci := 8) (v := .ref aU) (C := RX8) (T := TX8) (N := 8) hx hb hts hinX8 hown hC.1 hP 3 rfl rfl 3 (by decide) f107 (fun _ h9 => h9) rfl dX10_egg_89 ?_
     refine lv_iload_n hx hb dX10_egg_92 rfl (lv_at hl 1 rfl) ?_
     refine ald_i (f := fun j => nI (fU j)) (j := k) hx hb hC hP 5 rfl (by omega) (by decide) dX10_egg_93 ?_
     exact retSi hx hb hr hlocks (by rw [ceggR, if_pos c5, hx9] <;> rfl) dX10_egg_94
    ·subst c12
     refine lv_tableIn (off := 83) (tgt := 95) hx hb dX10_egg_12 (by decide) (by decide) (by decide) (by decide) ?_
     refine lv_aload_n hx hb dX10_egg_95 rfl (lv_at hl 0 rfl) ?_
     refine va_get (D := g.1) (ci := 10) (v := .ref oT) (C := RX10) (T := TX10) (N := 12) hx hb hts hinX10 hown hC.1 hP 0 rfl rfl 2 (by decide) f26 (fun _ h9 => h9) rfl dX10_egg_96 ?_
     refine va_getN (D := g.1) (ci := 8) (v := .ref aK) (C := RX8) (T := TX8) (N := 8) hx hb hts hinX8 hown hC.1 hP 3 rfl rfl 4 (by decide) f110 (fun _ h9 => h9) rfl dX10_egg_99 ?_
     refine lv_iload_n hx hb dX10_egg_102 rfl (lv_at hl 1 rfl) ?_
     refine ald_i (f := fK) (j := k) hx hb hC hP 6 rfl (by omega) (by decide) dX10_egg_103 ?_
     exact retSi hx hb hr hlocks (by rw [ceggR, if_pos c5, hx9] <;> rfl) dX10_egg_104
   ·refine lv_tableOut (tgt := 105) hx hb dX10_egg_12 (by omega) (by decide) ?_
    refine lv_bipush (v := (-102)) hx hb dX10_egg_105 (by decide) ?_
    exact retSi hx hb hr hlocks (by rw [ceggR, if_pos c5, hx9]; exact (if_pos c12).symm) dX10_egg_107
  ·have c5 := zI_f.mp c5
   refine lv_bipush (v := (-101)) hx hb dX10_egg_8 (by decide) ?_
   exact retSi hx hb hr hlocks (by rw [ceggR, if_neg (by rw [c5]; decide)]) dX10_egg_10

set_option maxHeartbeats 4000000 in
set_option maxRecDepth 100000 in
/-- BoiledEggs.spin  -/
theorem k_X10_spin (l : Launch) (g : GG) (sz : Nat) (oM : Nat) (oP : Nat) (oH : Nat) (oT : Nat) (oK : Nat) (oR : Nat) (oD : Nat) (aT : Nat) (tC : Nat) (tK : Nat) (iK : Int32) (kR : Nat) (bD : Nat) (aH : Nat) (nE : Nat) (nB : Nat) (nTb : Nat) (nTr : Nat) (nFa : Nat) (aB : Nat) (aW : Nat) (aS : Nat) (aU : Nat) (aK : Nat) (fi : Nat) (ib : Nat) (sn : Nat) (fB : Nat → Nat) (fW : Nat → Nat) (fS : Nat → Nat) (fU : Nat → Nat) (xe : Int32) (xt : Bool) (hE : nE ≤ 6) (hib : ib < 64) (hf0 : fi ≤ 20) (hB : ∀ j, fB j < 64) (ha0 : smN fW fi < 2 ^ 42) (htb : nTb ≤ 9) (htr : nTr ≤ 9) (hsn : sn ≤ 8) : Met l yX10_spin wsX10_spin ({ frames := 3, cells := 0, slots := 0, locals := 70 }) (pM g sz [.ref oM, .int xe, .int (zI xt)] [(oM, .inr (10, [.ref oP, .ref oH, .ref oT, .ref oK, .ref oR, .ref oD, .ref aT, .int (nI tC), .int (nI tK), .int iK, .int (nI kR), .int (nI bD)])), (oH, .inr (6, [.ref aH, .int (nI nE), .int (nI nB), .int (nI nTb), .int (nI nTr), .int (nI nFa)])), (oT, .inr (8, [.ref aB, .ref aW, .ref aS, .ref aU, .ref aK, .int (nI fi), .int (nI ib), .int (nI sn)])), (aB, .inl (g.2.1, 20, .inl (fun j => nI (fB j)))), (aW, .inl (g.2.2.1, 20, .inr (.inl (fun j => lN (fW j))))), (aS, .inl (g.2.1, 6, .inl (fun j => nI (fS j)))), (aU, .inl (g.2.1, 6, .inl (fun j => nI (fU j))))]) (qMi g (fun r (_ : Unit) => r = cspR nE nTb nTr fB fW fi ib sn xe xt) (fun (_ : Unit) => [(oM, .inr (10, [.ref oP, .ref oH, .ref oT, .ref oK, .ref oR, .ref oD, .ref aT, .int (nI tC), .int (nI tK), .int iK, .int (nI kR), .int (nI bD)])), (oH, .inr (6, [.ref aH, .int (nI nE), .int (nI nB), .int (nI nTb), .int (nI nTr), .int (nI nFa)])), (oT, .inr (8, [.ref aB, .ref aW, .ref aS, .ref aU, .ref aK, .int (nI (cond (cspOK nE nTb nTr fB fW fi ib sn xe xt) ((wgS (ix xe) (tnth xt nTb) (tnth xt nTr) fB fW fi).2.2) (fi))), .int (nI ib), .int (nI (cond (cspOK nE nTb nTr fB fW fi ib sn xe xt) (sn + 1) (sn)))])), (aB, .inl (g.2.1, 20, .inl (fun j => nI (cond (cspOK nE nTb nTr fB fW fi ib sn xe xt) (wgS (ix xe) (tnth xt nTb) (tnth xt nTr) fB fW fi).1 fB j)))), (aW, .inl (g.2.2.1, 20, .inr (.inl (fun j => lN (cond (cspOK nE nTb nTr fB fW fi ib sn xe xt) (wgS (ix xe) (tnth xt nTb) (tnth xt nTr) fB fW fi).2.1 fW j))))), (aS, .inl (g.2.1, 6, .inl (fun j => nI (cond (cspOK nE nTb nTr fB fW fi ib sn xe xt) (sp1 fS (ix xe)) fS j)))), (aU, .inl (g.2.1, 6, .inl (fun j => nI (cond (cspOK nE nTb nTr fB fW fi ib sn xe xt) (cond xt (updN fU (ix xe) (fU (ix xe) + 1)) fU) fU j))))]) (va_A [(oM, .inr (10, [.ref oP, .ref oH, .ref oT, .ref oK, .ref oR, .ref oD, .ref aT, .int (nI tC), .int (nI tK), .int iK, .int (nI kR), .int (nI bD)])), (oH, .inr (6, [.ref aH, .int (nI nE), .int (nI nB), .int (nI nTb), .int (nI nTr), .int (nI nFa)])), (oT, .inr (8, [.ref aB, .ref aW, .ref aS, .ref aU, .ref aK, .int (nI fi), .int (nI ib), .int (nI sn)])), (aB, .inl (g.2.1, 20, .inl (fun j => nI (fB j)))), (aW, .inl (g.2.2.1, 20, .inr (.inl (fun j => lN (fW j))))), (aS, .inl (g.2.1, 6, .inl (fun j => nI (fS j)))), (aU, .inl (g.2.1, 6, .inl (fun j => nI (fU j))))] sz)) 0 0 (va_A [(oM, .inr (10, [.ref oP, .ref oH, .ref oT, .ref oK, .ref oR, .ref oD, .ref aT, .int (nI tC), .int (nI tK), .int iK, .int (nI kR), .int (nI bD)])), (oH, .inr (6, [.ref aH, .int (nI nE), .int (nI nB), .int (nI nTb), .int (nI nTr), .int (nI nFa)])), (oT, .inr (8, [.ref aB, .ref aW, .ref aS, .ref aU, .ref aK, .int (nI fi), .int (nI ib), .int (nI sn)])), (aB, .inl (g.2.1, 20, .inl (fun j => nI (fB j)))), (aW, .inl (g.2.2.1, 20, .inr (.inl (fun j => lN (fW j))))), (aS, .inl (g.2.1, 6, .inl (fun j => nI (fS j)))), (aU, .inl (g.2.1, 6, .inl (fun j => nI (fU j))))] sz) := by
  refine metM (Qf := fun A => (qMi g (fun r (_ : Unit) => r = cspR nE nTb nTr fB fW fi ib sn xe xt) (fun (_ : Unit) => [(oM, .inr (10, [.ref oP, .ref oH, .ref oT, .ref oK, .ref oR, .ref oD, .ref aT, .int (nI tC), .int (nI tK), .int iK, .int (nI kR), .int (nI bD)])), (oH, .inr (6, [.ref aH, .int (nI nE), .int (nI nB), .int (nI nTb), .int (nI nTr), .int (nI nFa)])), (oT, .inr (8, [.ref aB, .ref aW, .ref aS, .ref aU, .ref aK, .int (nI (cond (cspOK nE nTb nTr fB fW fi ib sn xe xt) ((wgS (ix xe) (tnth xt nTb) (tnth xt nTr) fB fW fi).2.2) (fi))), .int (nI ib), .int (nI (cond (cspOK nE nTb nTr fB fW fi ib sn xe xt) (sn + 1) (sn)))])), (aB, .inl (g.2.1, 20, .inl (fun j => nI (cond (cspOK nE nTb nTr fB fW fi ib sn xe xt) (wgS (ix xe) (tnth xt nTb) (tnth xt nTr) fB fW fi).1 fB j)))), (aW, .inl (g.2.2.1, 20, .inr (.inl (fun j => lN (cond (cspOK nE nTb nTr fB fW fi ib sn xe xt) (wgS (ix xe) (tnth xt nTb) (tnth xt nTr) fB fW fi).2.1 fW j))))), (aS, .inl (g.2.1, 6, .inl (fun j => nI (cond (cspOK nE nTb nTr fB fW fi ib sn xe xt) (sp1 fS (ix xe)) fS j)))), (aU, .inl (g.2.1, 6, .inl (fun j => nI (cond (cspOK nE nTb nTr fB fW fi ib sn xe xt) (cond xt (updN fU (ix xe) (fU (ix xe) + 1)) fU) fU j))))]) A)) (cc := cX10_spin) (maxL := 5) (ret := (some .int)) (by decide) rfl (Nat.le_of_ble_eq_true rfl) ?_
  intro p e s m below meth c hx hb hr hts hown hlocks hml hin0 hC A hA hP hD hS ls hl
  have hl : lv_has ls 5 [(0, .ref oM), (1, .int xe), (2, .int (zI xt))] := hl
  have hown : s.vm.findClass RX10 = some m.cls := hown
  have hts : ∀ w ∈ wsX10_spin, w.before ([.ref oM, .int xe, .int (zI xt)] : List Value).toArray s = true := hts
  have hinX10 := (by decide +kernel : ∀ w ∈ u_ws RX10 TX10 12, w ∈ wsX10_spin)
  have f19 := hts (.fieldLink RX10 19 "BoiledEggs" "home" "LBoiledEggs$Kitchen;") (by decide +kernel)
  have f26 := hts (.fieldLink RX10 26 "BoiledEggs" "told" "LBoiledEggs$Told;") (by decide +kernel)
  have hinX8 := (by decide +kernel : ∀ w ∈ u_ws RX8 TX8 8, w ∈ wsX10_spin)
  have f121 := va_Nw.use (A := ([.ref oM, .int xe, .int (zI xt)] : List Value).toArray) rfl (hC.2.1 (.fieldLinkNest RX10 121 "BoiledEggs$Told" "allSpins" "I" "BoiledEggs") (by decide +kernel))
  refine lv_aload_n hx hb dX10_spin_0 rfl (lv_at hl 0 rfl) ?_
  refine lv_iload_n hx hb dX10_spin_1 rfl (lv_at hl 1 rfl) ?_
  refine goSi (T := zI (isE nE xe)) (va_runV (As := [.int xe]) (rest := []) ⟨hx, hb, hml, hown, hts⟩ (k_X10_isEgg l g oM oP oH oT oK oR oD aT tC tK iK kR bD aH nE nB nTb nTr nFa xe (by first | assumption | exact Nat.zero_le _ | omega)) (cwV 1 hts gX10_spin_X10_isEgg rfl rfl rfl ⟨rfl, hdX10_isEgg⟩ ⟨Nat.le_of_ble_eq_true rfl, Nat.le_of_ble_eq_true rfl⟩) (preVS hC (hP.sub [0, 1] rfl) (va_recv hC.1 hP (ci := 10) (q0 := 0) rfl rfl)) rfl rfl hl.1 rfl (lv_room (Nat.le_of_ble_eq_true rfl)) dX10_spin_2 ⟨Nat.le_of_ble_eq_true rfl, Nat.le_of_ble_eq_true rfl⟩) ?_
  refine lv_if_ne (tgt := 11) hx hb dX10_spin_5 (by decide) (fun c5 => ?_) (fun c5 => ?_)
  ·have c5 := zI_t.mp c5
   obtain ⟨k, hk, rfl⟩ := isE_t c5
   have hx9 : ix (nI k) = k := ix_nI (by omega)
   have ht1 : (tnth xt nTb) ≤ 10 := by cases xt <;> simp [tnth] <;> omega
   have ht2 : (tnth xt nTr) ≤ 10 := by cases xt <;> simp [tnth] <;> omega
   refine lv_aload_n hx hb dX10_spin_11 rfl (lv_at hl 0 rfl) ?_
   refine va_get (D := g.1) (ci := 10) (v := .ref oH) (C := RX10) (T := TX10) (N := 12) hx hb hts hinX10 hown hC.1 hP 0 rfl rfl 1 (by decide) f19 (fun _ h9 => h9) rfl dX10_spin_12 ?_
   refine lv_iconst (v := nI 1) hx hb dX10_spin_15 (by decide) ?_
   refine top_i (y := zI true) (by decide) ?_
   refine lv_iload_n hx hb dX10_spin_16 rfl (lv_at hl 2 rfl) ?_
   refine goSi (T := nI (cond xt (cond true nTb nTr) (10 - cond true nTb nTr))) (va_runV (As := [.int (zI true), .int (zI xt)]) (rest := []) ⟨hx, hb, hml, hown, hts⟩ (k_X6_tenthsOf l g oH aH nE nB nTb nTr nFa true xt (by first | assumption | exact Nat.zero_le _ | omega) (by first | assumption | exact Nat.zero_le _ | omega)) (cwV 2 hts gX10_spin_X6_tenthsOf rfl rfl rfl ⟨rfl, hdX6_tenthsOf⟩ ⟨Nat.le_of_ble_eq_true rfl, Nat.le_of_ble_eq_true rfl⟩) (preVS hC (hP.sub [1] rfl) (va_recv hC.1 hP (ci := 6) (q0 := 1) rfl rfl)) rfl rfl hl.1 rfl (lv_room (Nat.le_of_ble_eq_true rfl)) dX10_spin_17 ⟨Nat.le_of_ble_eq_true rfl, Nat.le_of_ble_eq_true rfl⟩) ?_
   refine top_i (y := nI (tnth xt nTb)) (rfl) ?_
   refine lv_istore_n (lv' := [(3, .int (nI (tnth xt nTb))), (0, .ref oM), (1, .int (nI k)), (2, .int (zI xt))]) hx hb dX10_spin_20 rfl hl (by decide) rfl (fun ls hl => ?_)
   refine lv_aload_n hx hb dX10_spin_21 rfl (lv_at hl 1 rfl) ?_
   refine va_get (D := g.1) (ci := 10) (v := .ref oH) (C := RX10) (T := TX10) (N := 12) hx hb hts hinX10 hown hC.1 hP 0 rfl rfl 1 (by decide) f19 (fun _ h9 => h9) rfl dX10_spin_22 ?_
   refine lv_iconst (v := nI 0) hx hb dX10_spin_25 (by decide) ?_
   refine top_i (y := zI false) (by decide) ?_
   refine lv_iload_n hx hb dX10_spin_26 rfl (lv_at hl 3 rfl) ?_
   refine goSi (T := nI (cond xt (cond false nTb nTr) (10 - cond false nTb nTr))) (va_runV (As := [.int (zI false), .int (zI xt)]) (rest := []) ⟨hx, hb, hml, hown, hts⟩ (k_X6_tenthsOf l g oH aH nE nB nTb nTr nFa false xt (by first | assumption | exact Nat.zero_le _ | omega) (by first | assumption | exact Nat.zero_le _ | omega)) (cwV 2 hts gX10_spin_X6_tenthsOf rfl rfl rfl ⟨rfl, hdX6_tenthsOf⟩ ⟨Nat.le_of_ble_eq_true rfl, Nat.le_of_ble_eq_true rfl⟩) (preVS hC (hP.sub [1] rfl) (va_recv hC.1 hP (ci := 6) (q0 := 1) rfl rfl)) rfl rfl hl.1 rfl (lv_room (Nat.le_of_ble_eq_true rfl)) dX10_spin_27 ⟨Nat.le_of_ble_eq_true rfl, Nat.le_of_ble_eq_true rfl⟩) ?_
   refine top_i (y := nI (tnth xt nTr)) (rfl) ?_
   refine lv_istore (lv' := [(4, .int (nI (tnth xt nTr))), (3, .int (nI (tnth xt nTb))), (0, .ref oM), (1, .int (nI k)), (2, .int (zI xt))]) hx hb dX10_spin_30 hl (by decide) rfl (fun ls hl => ?_)
   refine lv_aload_n hx hb dX10_spin_32 rfl (lv_at hl 2 rfl) ?_
   refine va_get (D := g.1) (ci := 10) (v := .ref oT) (C := RX10) (T := TX10) (N := 12) hx hb hts hinX10 hown hC.1 hP 0 rfl rfl 2 (by decide) f26 (fun _ h9 => h9) rfl dX10_spin_33 ?_
   refine lv_iload_n hx hb dX10_spin_36 rfl (lv_at hl 3 rfl) ?_
   refine goSi (T := zI (ib.testBit k)) (va_runV (As := [.int (nI k)]) (rest := []) ⟨hx, hb, hml, hown, hts⟩ (k_X8_isInBox l g oT aB aW aS aU aK fi ib sn k (by first | assumption | exact Nat.zero_le _ | omega) (by first | assumption | exact Nat.zero_le _ | omega)) (cwV 1 hts gX10_spin_X8_isInBox rfl rfl rfl ⟨rfl, hdX8_isInBox⟩ ⟨Nat.le_of_ble_eq_true rfl, Nat.le_of_ble_eq_true rfl⟩) (preVS hC (hP.sub [2] rfl) (va_recv hC.1 hP (ci := 8) (q0 := 2) rfl rfl)) rfl rfl hl.1 rfl (lv_room (Nat.le_of_ble_eq_true rfl)) dX10_spin_37 ⟨Nat.le_of_ble_eq_true rfl, Nat.le_of_ble_eq_true rfl⟩) ?_
   refine lv_if_eq (tgt := 57) hx hb dX10_spin_40 (by decide) (fun c40 => ?_) (fun c40 => ?_)
   ·have c40 := zI_f.mp c40
    refine lv_bipush (v := (-103)) hx hb dX10_spin_57 (by decide) ?_
    exact retMi (w := [(oM, .inr (10, [.ref oP, .ref oH, .ref oT, .ref oK, .ref oR, .ref oD, .ref aT, .int (nI tC), .int (nI tK), .int iK, .int (nI kR), .int (nI bD)])), (oH, .inr (6, [.ref aH, .int (nI nE), .int (nI nB), .int (nI nTb), .int (nI nTr), .int (nI nFa)])), (oT, .inr (8, [.ref aB, .ref aW, .ref aS, .ref aU, .ref aK, .int (nI fi), .int (nI ib), .int (nI sn)])), (aB, .inl (g.2.1, 20, .inl (fun j => nI (fB j)))), (aW, .inl (g.2.2.1, 20, .inr (.inl (fun j => lN (fW j))))), (aS, .inl (g.2.1, 6, .inl (fun j => nI (fS j)))), (aU, .inl (g.2.1, 6, .inl (fun j => nI (fU j))))]) hx hb hr hlocks (hP.sub [0, 1, 2, 3, 4, 5, 6] rfl) (hD.sub [0, 1, 2, 3, 4, 5, 6] (by decide) rfl) hS () (by rw [show cspOK nE nTb nTr fB fW fi ib sn (nI k) xt = false by simp [cspOK, hx9, c40]] <;> rfl) (by rw [cspR, if_pos c5, hx9, if_neg (by rw [c40]; decide)]) dX10_spin_59
   ·have c40 := zI_t.mp c40
    refine lv_aload_n hx hb dX10_spin_43 rfl (lv_at hl 2 rfl) ?_
    refine va_get (D := g.1) (ci := 10) (v := .ref oT) (C := RX10) (T := TX10) (N := 12) hx hb hts hinX10 hown hC.1 hP 0 rfl rfl 2 (by decide) f26 (fun _ h9 => h9) rfl dX10_spin_44 ?_
    refine lv_iload_n hx hb dX10_spin_47 rfl (lv_at hl 3 rfl) ?_
    refine lv_iload_n hx hb dX10_spin_48 rfl (lv_at hl 1 rfl) ?_
    refine lv_iload hx hb dX10_spin_49 (lv_at hl 0 rfl) ?_
    refine goSi (T := zI (cbS fB fW k fi (tnth xt nTb) (tnth xt nTr))) (va_runV (As := [.int (nI k), .int (nI (tnth xt nTb)), .int (nI (tnth xt nTr))]) (rest := []) ⟨hx, hb, hml, hown, hts⟩ (k_X8_canBe l g oT aB aW aS aU aK fi ib sn fB fW k (tnth xt nTb) (tnth xt nTr) (by first | assumption | exact Nat.zero_le _ | omega) (by first | assumption | exact Nat.zero_le _ | omega) (by first | assumption | exact Nat.zero_le _ | omega) (by first | assumption | exact Nat.zero_le _ | omega) (by first | assumption | exact Nat.zero_le _ | omega) (by first | assumption | exact Nat.zero_le _ | omega)) (cwV 3 hts gX10_spin_X8_canBe rfl rfl rfl ⟨rfl, hdX8_canBe⟩ ⟨Nat.le_of_ble_eq_true rfl, Nat.le_of_ble_eq_true rfl⟩) (preVS hC (hP.sub [2, 3, 4] rfl) (va_recv hC.1 hP (ci := 8) (q0 := 2) rfl rfl)) rfl rfl hl.1 rfl (lv_room (Nat.le_of_ble_eq_true rfl)) dX10_spin_51 ⟨Nat.le_of_ble_eq_true rfl, Nat.le_of_ble_eq_true rfl⟩) ?_
    refine lv_if_ne (tgt := 60) hx hb dX10_spin_54 (by decide) (fun c54 => ?_) (fun c54 => ?_)
    ·have c54 := zI_t.mp c54
     have hcn : cspC nTb nTr fB fW fi (nI k) xt = true := by rw [cspC, hx9]; exact c54
     refine lv_aload_n hx hb dX10_spin_60 rfl (lv_at hl 2 rfl) ?_
     refine va_get (D := g.1) (ci := 10) (v := .ref oT) (C := RX10) (T := TX10) (N := 12) hx hb hts hinX10 hown hC.1 hP 0 rfl rfl 2 (by decide) f26 (fun _ h9 => h9) rfl dX10_spin_61 ?_
     refine va_getN (D := g.1) (ci := 8) (v := .int (nI sn)) (C := RX8) (T := TX8) (N := 8) hx hb hts hinX8 hown hC.1 hP 2 rfl rfl 7 (by decide) f121 (fun _ h9 => h9) rfl dX10_spin_64 ?_
     refine lv_bipush (v := nI 8) hx hb dX10_spin_67 (by decide) ?_
     refine lv_icmp_lt (tgt := 75) hx hb dX10_spin_69 (by decide) (fun c69 => ?_) (fun c69 => ?_)
     ·have c69 : sn < 8 := (nI_ltI (a := sn) (b := 8) (by omega) (by omega)).mp c69
      refine lv_aload_n hx hb dX10_spin_75 rfl (lv_at hl 2 rfl) ?_
      refine va_get (D := g.1) (ci := 10) (v := .ref oT) (C := RX10) (T := TX10) (N := 12) hx hb hts hinX10 hown hC.1 hP 0 rfl rfl 2 (by decide) f26 (fun _ h9 => h9) rfl dX10_spin_76 ?_
      refine lv_iload_n hx hb dX10_spin_79 rfl (lv_at hl 3 rfl) ?_
      refine lv_iload_n hx hb dX10_spin_80 rfl (lv_at hl 1 rfl) ?_
      refine lv_iload hx hb dX10_spin_81 (lv_at hl 0 rfl) ?_
      refine goMv (S := Unit) (wr := [(oM, .inr (10, [.ref oP, .ref oH, .ref oT, .ref oK, .ref oR, .ref oD, .ref aT, .int (nI tC), .int (nI tK), .int iK, .int (nI kR), .int (nI bD)])), (oH, .inr (6, [.ref aH, .int (nI nE), .int (nI nB), .int (nI nTb), .int (nI nTr), .int (nI nFa)])), (aS, .inl (g.2.1, 6, .inl (fun j => nI (fS j)))), (aU, .inl (g.2.1, 6, .inl (fun j => nI (fU j))))]) (va_runV (As := [.int (nI k), .int (nI (tnth xt nTb)), .int (nI (tnth xt nTr))]) (rest := []) ⟨hx, hb, hml, hown, hts⟩ (k_X8_weigh l g _ oT aB aW aS aU aK fi ib sn fB fW k (tnth xt nTb) (tnth xt nTr) (by first | assumption | exact Nat.zero_le _ | omega) (by first | assumption | exact Nat.zero_le _ | omega) (by first | assumption | exact Nat.zero_le _ | omega) (by first | assumption | exact Nat.zero_le _ | omega) (by first | assumption | exact Nat.zero_le _ | omega) (by first | assumption | exact Nat.zero_le _ | omega)) (cwV 3 hts gX10_spin_X8_weigh rfl rfl rfl ⟨rfl, hdX8_weigh⟩ ⟨Nat.le_of_ble_eq_true rfl, Nat.le_of_ble_eq_true rfl⟩) (preVM hC (hP.sub [2, 3, 4] rfl) (hD.sub [2, 3, 4] (by decide) rfl) (va_recv hC.1 hP (ci := 8) (q0 := 2) rfl rfl)) rfl rfl hl.1 rfl (lv_room (Nat.le_of_ble_eq_true rfl)) dX10_spin_83 ⟨Nat.le_of_ble_eq_true rfl, Nat.le_of_ble_eq_true rfl⟩) hP hD hS hA [2, 3, 4] [0, 1, 5, 6] rfl rfl (by decide) (by decide) (fun _ H locs hw_9 hP hD hS => ?_)
      have hP : va_P g.1 vwCl [(oM, .inr (10, [.ref oP, .ref oH, .ref oT, .ref oK, .ref oR, .ref oD, .ref aT, .int (nI tC), .int (nI tK), .int iK, .int (nI kR), .int (nI bD)])), (oH, .inr (6, [.ref aH, .int (nI nE), .int (nI nB), .int (nI nTb), .int (nI nTr), .int (nI nFa)])), (aS, .inl (g.2.1, 6, .inl (fun j => nI (fS j)))), (aU, .inl (g.2.1, 6, .inl (fun j => nI (fU j)))), (oT, .inr (8, [.ref aB, .ref aW, .ref aS, .ref aU, .ref aK, .int (nI ((wgS k (tnth xt nTb) (tnth xt nTr) fB fW fi).2.2)), .int (nI ib), .int (nI sn)])), (aB, .inl (g.2.1, 20, .inl (fun j => nI ((wgS k (tnth xt nTb) (tnth xt nTr) fB fW fi).1 j)))), (aW, .inl (g.2.2.1, 20, .inr (.inl (fun j => lN ((wgS k (tnth xt nTb) (tnth xt nTr) fB fW fi).2.1 j)))))] H := hP
      have hD : va_D A [(oM, .inr (10, [.ref oP, .ref oH, .ref oT, .ref oK, .ref oR, .ref oD, .ref aT, .int (nI tC), .int (nI tK), .int iK, .int (nI kR), .int (nI bD)])), (oH, .inr (6, [.ref aH, .int (nI nE), .int (nI nB), .int (nI nTb), .int (nI nTr), .int (nI nFa)])), (aS, .inl (g.2.1, 6, .inl (fun j => nI (fS j)))), (aU, .inl (g.2.1, 6, .inl (fun j => nI (fU j)))), (oT, .inr (8, [.ref aB, .ref aW, .ref aS, .ref aU, .ref aK, .int (nI ((wgS k (tnth xt nTb) (tnth xt nTr) fB fW fi).2.2)), .int (nI ib), .int (nI sn)])), (aB, .inl (g.2.1, 20, .inl (fun j => nI ((wgS k (tnth xt nTb) (tnth xt nTr) fB fW fi).1 j)))), (aW, .inl (g.2.2.1, 20, .inr (.inl (fun j => lN ((wgS k (tnth xt nTb) (tnth xt nTr) fB fW fi).2.1 j)))))] := hD
      refine lv_aload_n hx hb dX10_spin_86 rfl (lv_at hl 2 rfl) ?_
      refine va_get (D := g.1) (ci := 10) (v := .ref oT) (C := RX10) (T := TX10) (N := 12) hx hb hts hinX10 hown hC.1 hP 0 rfl rfl 2 (by decide) f26 (fun _ h9 => h9) rfl dX10_spin_87 ?_
      refine lv_iload_n hx hb dX10_spin_90 rfl (lv_at hl 3 rfl) ?_
      refine lv_iload_n hx hb dX10_spin_91 rfl (lv_at hl 4 rfl) ?_
      refine goMv (S := Unit) (wr := [(oM, .inr (10, [.ref oP, .ref oH, .ref oT, .ref oK, .ref oR, .ref oD, .ref aT, .int (nI tC), .int (nI tK), .int iK, .int (nI kR), .int (nI bD)])), (oH, .inr (6, [.ref aH, .int (nI nE), .int (nI nB), .int (nI nTb), .int (nI nTr), .int (nI nFa)])), (aB, .inl (g.2.1, 20, .inl (fun j => nI ((wgS k (tnth xt nTb) (tnth xt nTr) fB fW fi).1 j)))), (aW, .inl (g.2.2.1, 20, .inr (.inl (fun j => lN ((wgS k (tnth xt nTb) (tnth xt nTr) fB fW fi).2.1 j)))))]) (va_runV (As := [.int (nI k), .int (zI xt)]) (rest := []) ⟨hx, hb, hml, hown, hts⟩ (k_X8_countSpin l g _ oT aB aW aS aU aK ((wgS k (tnth xt nTb) (tnth xt nTr) fB fW fi).2.2) ib sn fS fU k xt (by first | assumption | exact Nat.zero_le _ | omega)) (cwV 2 hts gX10_spin_X8_countSpin rfl rfl rfl ⟨rfl, hdX8_countSpin⟩ ⟨Nat.le_of_ble_eq_true rfl, Nat.le_of_ble_eq_true rfl⟩) (preVM hC (hP.sub [4, 2, 3] rfl) (hD.sub [4, 2, 3] (by decide) rfl) (va_recv hC.1 hP (ci := 8) (q0 := 4) rfl rfl)) rfl rfl hl.1 rfl (lv_room (Nat.le_of_ble_eq_true rfl)) dX10_spin_92 ⟨Nat.le_of_ble_eq_true rfl, Nat.le_of_ble_eq_true rfl⟩) hP hD hS hA [4, 2, 3] [0, 1, 5, 6] rfl rfl (by decide) (by decide) (fun _ H locs hw_9 hP hD hS => ?_)
      have hP : va_P g.1 vwCl [(oM, .inr (10, [.ref oP, .ref oH, .ref oT, .ref oK, .ref oR, .ref oD, .ref aT, .int (nI tC), .int (nI tK), .int iK, .int (nI kR), .int (nI bD)])), (oH, .inr (6, [.ref aH, .int (nI nE), .int (nI nB), .int (nI nTb), .int (nI nTr), .int (nI nFa)])), (aB, .inl (g.2.1, 20, .inl (fun j => nI ((wgS k (tnth xt nTb) (tnth xt nTr) fB fW fi).1 j)))), (aW, .inl (g.2.2.1, 20, .inr (.inl (fun j => lN ((wgS k (tnth xt nTb) (tnth xt nTr) fB fW fi).2.1 j))))), (oT, .inr (8, [.ref aB, .ref aW, .ref aS, .ref aU, .ref aK, .int (nI ((wgS k (tnth xt nTb) (tnth xt nTr) fB fW fi).2.2)), .int (nI ib), .int (nI (sn + 1))])), (aS, .inl (g.2.1, 6, .inl (fun j => nI (sp1 fS k j)))), (aU, .inl (g.2.1, 6, .inl (fun j => nI (cond xt (updN fU k (fU k + 1)) fU j))))] H := hP
      have hD : va_D A [(oM, .inr (10, [.ref oP, .ref oH, .ref oT, .ref oK, .ref oR, .ref oD, .ref aT, .int (nI tC), .int (nI tK), .int iK, .int (nI kR), .int (nI bD)])), (oH, .inr (6, [.ref aH, .int (nI nE), .int (nI nB), .int (nI nTb), .int (nI nTr), .int (nI nFa)])), (aB, .inl (g.2.1, 20, .inl (fun j => nI ((wgS k (tnth xt nTb) (tnth xt nTr) fB fW fi).1 j)))), (aW, .inl (g.2.2.1, 20, .inr (.inl (fun j => lN ((wgS k (tnth xt nTb) (tnth xt nTr) fB fW fi).2.1 j))))), (oT, .inr (8, [.ref aB, .ref aW, .ref aS, .ref aU, .ref aK, .int (nI ((wgS k (tnth xt nTb) (tnth xt nTr) fB fW fi).2.2)), .int (nI ib), .int (nI (sn + 1))])), (aS, .inl (g.2.1, 6, .inl (fun j => nI (sp1 fS k j)))), (aU, .inl (g.2.1, 6, .inl (fun j => nI (cond xt (updN fU k (fU k + 1)) fU j))))] := hD
      refine lv_aload_n hx hb dX10_spin_95 rfl (lv_at hl 2 rfl) ?_
      refine va_get (D := g.1) (ci := 10) (v := .ref oT) (C := RX10) (T := TX10) (N := 12) hx hb hts hinX10 hown hC.1 hP 0 rfl rfl 2 (by decide) f26 (fun _ h9 => h9) rfl dX10_spin_96 ?_
      refine va_getN (D := g.1) (ci := 8) (v := .int (nI (sn + 1))) (C := RX8) (T := TX8) (N := 8) hx hb hts hinX8 hown hC.1 hP 4 rfl rfl 7 (by decide) f121 (fun _ h9 => h9) rfl dX10_spin_99 ?_
      exact retMi (w := [(oM, .inr (10, [.ref oP, .ref oH, .ref oT, .ref oK, .ref oR, .ref oD, .ref aT, .int (nI tC), .int (nI tK), .int iK, .int (nI kR), .int (nI bD)])), (oH, .inr (6, [.ref aH, .int (nI nE), .int (nI nB), .int (nI nTb), .int (nI nTr), .int (nI nFa)])), (oT, .inr (8, [.ref aB, .ref aW, .ref aS, .ref aU, .ref aK, .int (nI ((wgS k (tnth xt nTb) (tnth xt nTr) fB fW fi).2.2)), .int (nI ib), .int (nI (sn + 1))])), (aB, .inl (g.2.1, 20, .inl (fun j => nI ((wgS k (tnth xt nTb) (tnth xt nTr) fB fW fi).1 j)))), (aW, .inl (g.2.2.1, 20, .inr (.inl (fun j => lN ((wgS k (tnth xt nTb) (tnth xt nTr) fB fW fi).2.1 j))))), (aS, .inl (g.2.1, 6, .inl (fun j => nI (sp1 fS k j)))), (aU, .inl (g.2.1, 6, .inl (fun j => nI (cond xt (updN fU k (fU k + 1)) fU j))))]) hx hb hr hlocks (hP.sub [0, 1, 4, 2, 3, 5, 6] rfl) (hD.sub [0, 1, 4, 2, 3, 5, 6] (by decide) rfl) hS () (by rw [show cspOK nE nTb nTr fB fW fi ib sn (nI k) xt = true by simp [cspOK, hx9, c5, c40, hcn, show sn < 8 by omega], hx9] <;> rfl) (by rw [cspR, if_pos c5, hx9, if_pos c40, if_pos hcn, if_pos (by omega)]) dX10_spin_102
     ·have c69 : ¬ sn < 8 := fun h9 => c69 ((nI_ltI (a := sn) (b := 8) (by omega) (by omega)).mpr h9)
      refine lv_bipush (v := (-104)) hx hb dX10_spin_72 (by decide) ?_
      exact retMi (w := [(oM, .inr (10, [.ref oP, .ref oH, .ref oT, .ref oK, .ref oR, .ref oD, .ref aT, .int (nI tC), .int (nI tK), .int iK, .int (nI kR), .int (nI bD)])), (oH, .inr (6, [.ref aH, .int (nI nE), .int (nI nB), .int (nI nTb), .int (nI nTr), .int (nI nFa)])), (oT, .inr (8, [.ref aB, .ref aW, .ref aS, .ref aU, .ref aK, .int (nI fi), .int (nI ib), .int (nI sn)])), (aB, .inl (g.2.1, 20, .inl (fun j => nI (fB j)))), (aW, .inl (g.2.2.1, 20, .inr (.inl (fun j => lN (fW j))))), (aS, .inl (g.2.1, 6, .inl (fun j => nI (fS j)))), (aU, .inl (g.2.1, 6, .inl (fun j => nI (fU j))))]) hx hb hr hlocks (hP.sub [0, 1, 2, 3, 4, 5, 6] rfl) (hD.sub [0, 1, 2, 3, 4, 5, 6] (by decide) rfl) hS () (by rw [show cspOK nE nTb nTr fB fW fi ib sn (nI k) xt = false by simp [cspOK, decide_eq_false (show ¬ sn < 8 by omega)]] <;> rfl) (by rw [cspR, if_pos c5, hx9, if_pos c40, if_pos hcn, if_neg (by omega)]) dX10_spin_74
    ·have c54 := zI_f.mp c54
     have hcn : cspC nTb nTr fB fW fi (nI k) xt = false := by rw [cspC, hx9]; exact c54
     refine lv_bipush (v := (-103)) hx hb dX10_spin_57 (by decide) ?_
     exact retMi (w := [(oM, .inr (10, [.ref oP, .ref oH, .ref oT, .ref oK, .ref oR, .ref oD, .ref aT, .int (nI tC), .int (nI tK), .int iK, .int (nI kR), .int (nI bD)])), (oH, .inr (6, [.ref aH, .int (nI nE), .int (nI nB), .int (nI nTb), .int (nI nTr), .int (nI nFa)])), (oT, .inr (8, [.ref aB, .ref aW, .ref aS, .ref aU, .ref aK, .int (nI fi), .int (nI ib), .int (nI sn)])), (aB, .inl (g.2.1, 20, .inl (fun j => nI (fB j)))), (aW, .inl (g.2.2.1, 20, .inr (.inl (fun j => lN (fW j))))), (aS, .inl (g.2.1, 6, .inl (fun j => nI (fS j)))), (aU, .inl (g.2.1, 6, .inl (fun j => nI (fU j))))]) hx hb hr hlocks (hP.sub [0, 1, 2, 3, 4, 5, 6] rfl) (hD.sub [0, 1, 2, 3, 4, 5, 6] (by decide) rfl) hS () (by rw [show cspOK nE nTb nTr fB fW fi ib sn (nI k) xt = false by simp [cspOK, hx9, hcn]] <;> rfl) (by rw [cspR, if_pos c5, hx9, if_pos c40, if_neg (by rw [hcn]; decide)]) dX10_spin_59
  ·have c5 := zI_f.mp c5
   refine lv_bipush (v := (-101)) hx hb dX10_spin_8 (by decide) ?_
   exact retMi (w := [(oM, .inr (10, [.ref oP, .ref oH, .ref oT, .ref oK, .ref oR, .ref oD, .ref aT, .int (nI tC), .int (nI tK), .int iK, .int (nI kR), .int (nI bD)])), (oH, .inr (6, [.ref aH, .int (nI nE), .int (nI nB), .int (nI nTb), .int (nI nTr), .int (nI nFa)])), (oT, .inr (8, [.ref aB, .ref aW, .ref aS, .ref aU, .ref aK, .int (nI fi), .int (nI ib), .int (nI sn)])), (aB, .inl (g.2.1, 20, .inl (fun j => nI (fB j)))), (aW, .inl (g.2.2.1, 20, .inr (.inl (fun j => lN (fW j))))), (aS, .inl (g.2.1, 6, .inl (fun j => nI (fS j)))), (aU, .inl (g.2.1, 6, .inl (fun j => nI (fU j))))]) hx hb hr hlocks (hP.sub [0, 1, 2, 3, 4, 5, 6] rfl) (hD.sub [0, 1, 2, 3, 4, 5, 6] (by decide) rfl) hS () (by rw [show cspOK nE nTb nTr fB fW fi ib sn xe xt = false by rw [cspOK, c5]; rfl] <;> rfl) (by rw [cspR, if_neg (by rw [c5]; decide)]) dX10_spin_10

set_option maxHeartbeats 4000000 in
set_option maxRecDepth 100000 in
/-- BoiledEggs.stop  -/
theorem k_X10_stop (l : Launch) (g : GG) (sz : Nat) (oM : Nat) (oP : Nat) (oH : Nat) (oT : Nat) (oK : Nat) (oR : Nat) (oD : Nat) (aT : Nat) (tC : Nat) (tK : Nat) (iK : Int32) (kR : Nat) (bD : Nat) (aH : Nat) (nE : Nat) (nB : Nat) (nTb : Nat) (nTr : Nat) (nFa : Nat) (aB : Nat) (aW : Nat) (aS : Nat) (aU : Nat) (aK : Nat) (fi : Nat) (ib : Nat) (sn : Nat) (fB : Nat → Nat) (fW : Nat → Nat) (fK : Nat → Int32) (xe : Int32) (xw : Int32) (hE : nE ≤ 6) (hib : ib < 64) (hf0 : fi ≤ 20) (hB : ∀ j, fB j < 64) (ha0 : smN fW fi < 2 ^ 42) (hfa : nFa ≤ 9) : Met l yX10_stop wsX10_stop ({ frames := 4, cells := 0, slots := 0, locals := 92 }) (pM g sz [.ref oM, .int xe, .int xw] [(oM, .inr (10, [.ref oP, .ref oH, .ref oT, .ref oK, .ref oR, .ref oD, .ref aT, .int (nI tC), .int (nI tK), .int iK, .int (nI kR), .int (nI bD)])), (oH, .inr (6, [.ref aH, .int (nI nE), .int (nI nB), .int (nI nTb), .int (nI nTr), .int (nI nFa)])), (oT, .inr (8, [.ref aB, .ref aW, .ref aS, .ref aU, .ref aK, .int (nI fi), .int (nI ib), .int (nI sn)])), (aB, .inl (g.2.1, 20, .inl (fun j => nI (fB j)))), (aW, .inl (g.2.2.1, 20, .inr (.inl (fun j => lN (fW j))))), (aK, .inl (g.2.1, 6, .inl fK))]) (qMi g (fun r (_ : Unit) => r = stR nE (stF nE nFa ib xe xw) (cstS nE fB fW fi ib xe xw) ib xe xw) (fun (_ : Unit) => [(oM, .inr (10, [.ref oP, .ref oH, .ref oT, .ref oK, .ref oR, .ref oD, .ref aT, .int (nI tC), .int (nI tK), .int iK, .int (nI kR), .int (nI bD)])), (oH, .inr (6, [.ref aH, .int (nI nE), .int (nI nB), .int (nI nTb), .int (nI nTr), .int (nI nFa)])), (oT, .inr (8, [.ref aB, .ref aW, .ref aS, .ref aU, .ref aK, .int (nI (cond (cstS nE fB fW fi ib xe xw) (wgS (ix xe) (cond (decide (xw = nI 1)) 1 0) (cond (decide (xw = nI 1)) 0 1) fB fW fi).2.2 fi)), .int (nI (cond (stF nE nFa ib xe xw) (andn ib (2 ^ ix xe)) ib)), .int (nI sn)])), (aB, .inl (g.2.1, 20, .inl (fun j => nI (cond (cstS nE fB fW fi ib xe xw) (wgS (ix xe) (cond (decide (xw = nI 1)) 1 0) (cond (decide (xw = nI 1)) 0 1) fB fW fi).1 fB j)))), (aW, .inl (g.2.2.1, 20, .inr (.inl (fun j => lN (cond (cstS nE fB fW fi ib xe xw) (wgS (ix xe) (cond (decide (xw = nI 1)) 1 0) (cond (decide (xw = nI 1)) 0 1) fB fW fi).2.1 fW j))))), (aK, .inl (g.2.1, 6, .inl (cond (cstS nE fB fW fi ib xe xw) (upd fK (ix xe) (zI (decide (xw = nI 1)))) fK)))]) (va_A [(oM, .inr (10, [.ref oP, .ref oH, .ref oT, .ref oK, .ref oR, .ref oD, .ref aT, .int (nI tC), .int (nI tK), .int iK, .int (nI kR), .int (nI bD)])), (oH, .inr (6, [.ref aH, .int (nI nE), .int (nI nB), .int (nI nTb), .int (nI nTr), .int (nI nFa)])), (oT, .inr (8, [.ref aB, .ref aW, .ref aS, .ref aU, .ref aK, .int (nI fi), .int (nI ib), .int (nI sn)])), (aB, .inl (g.2.1, 20, .inl (fun j => nI (fB j)))), (aW, .inl (g.2.2.1, 20, .inr (.inl (fun j => lN (fW j))))), (aK, .inl (g.2.1, 6, .inl fK))] sz)) 0 0 (va_A [(oM, .inr (10, [.ref oP, .ref oH, .ref oT, .ref oK, .ref oR, .ref oD, .ref aT, .int (nI tC), .int (nI tK), .int iK, .int (nI kR), .int (nI bD)])), (oH, .inr (6, [.ref aH, .int (nI nE), .int (nI nB), .int (nI nTb), .int (nI nTr), .int (nI nFa)])), (oT, .inr (8, [.ref aB, .ref aW, .ref aS, .ref aU, .ref aK, .int (nI fi), .int (nI ib), .int (nI sn)])), (aB, .inl (g.2.1, 20, .inl (fun j => nI (fB j)))), (aW, .inl (g.2.2.1, 20, .inr (.inl (fun j => lN (fW j))))), (aK, .inl (g.2.1, 6, .inl fK))] sz) := by
  refine metM (Qf := fun A => (qMi g (fun r (_ : Unit) => r = stR nE (stF nE nFa ib xe xw) (cstS nE fB fW fi ib xe xw) ib xe xw) (fun (_ : Unit) => [(oM, .inr (10, [.ref oP, .ref oH, .ref oT, .ref oK, .ref oR, .ref oD, .ref aT, .int (nI tC), .int (nI tK), .int iK, .int (nI kR), .int (nI bD)])), (oH, .inr (6, [.ref aH, .int (nI nE), .int (nI nB), .int (nI nTb), .int (nI nTr), .int (nI nFa)])), (oT, .inr (8, [.ref aB, .ref aW, .ref aS, .ref aU, .ref aK, .int (nI (cond (cstS nE fB fW fi ib xe xw) (wgS (ix xe) (cond (decide (xw = nI 1)) 1 0) (cond (decide (xw = nI 1)) 0 1) fB fW fi).2.2 fi)), .int (nI (cond (stF nE nFa ib xe xw) (andn ib (2 ^ ix xe)) ib)), .int (nI sn)])), (aB, .inl (g.2.1, 20, .inl (fun j => nI (cond (cstS nE fB fW fi ib xe xw) (wgS (ix xe) (cond (decide (xw = nI 1)) 1 0) (cond (decide (xw = nI 1)) 0 1) fB fW fi).1 fB j)))), (aW, .inl (g.2.2.1, 20, .inr (.inl (fun j => lN (cond (cstS nE fB fW fi ib xe xw) (wgS (ix xe) (cond (decide (xw = nI 1)) 1 0) (cond (decide (xw = nI 1)) 0 1) fB fW fi).2.1 fW j))))), (aK, .inl (g.2.1, 6, .inl (cond (cstS nE fB fW fi ib xe xw) (upd fK (ix xe) (zI (decide (xw = nI 1)))) fK)))]) A)) (cc := cX10_stop) (maxL := 3) (ret := (some .int)) (by decide) rfl (Nat.le_of_ble_eq_true rfl) ?_
  intro p e s m below meth c hx hb hr hts hown hlocks hml hin0 hC A hA hP hD hS ls hl
  have hl : lv_has ls 3 [(0, .ref oM), (1, .int xe), (2, .int xw)] := hl
  have hown : s.vm.findClass RX10 = some m.cls := hown
  have hts : ∀ w ∈ wsX10_stop, w.before ([.ref oM, .int xe, .int xw] : List Value).toArray s = true := hts
  have hinX10 := (by decide +kernel : ∀ w ∈ u_ws RX10 TX10 12, w ∈ wsX10_stop)
  have f26 := hts (.fieldLink RX10 26 "BoiledEggs" "told" "LBoiledEggs$Told;") (by decide +kernel)
  have f19 := hts (.fieldLink RX10 19 "BoiledEggs" "home" "LBoiledEggs$Kitchen;") (by decide +kernel)
  have hinX6 := (by decide +kernel : ∀ w ∈ u_ws RX6 TX6 6, w ∈ wsX10_stop)
  have f132 := va_Nw.use (A := ([.ref oM, .int xe, .int xw] : List Value).toArray) rfl (hC.2.1 (.fieldLinkNest RX10 132 "BoiledEggs$Kitchen" "falls" "I" "BoiledEggs") (by decide +kernel))
  refine lv_aload_n hx hb dX10_stop_0 rfl (lv_at hl 0 rfl) ?_
  refine lv_iload_n hx hb dX10_stop_1 rfl (lv_at hl 1 rfl) ?_
  refine goSi (T := zI (isE nE xe)) (va_runV (As := [.int xe]) (rest := []) ⟨hx, hb, hml, hown, hts⟩ (k_X10_isEgg l g oM oP oH oT oK oR oD aT tC tK iK kR bD aH nE nB nTb nTr nFa xe (by first | assumption | exact Nat.zero_le _ | omega)) (cwV 1 hts gX10_stop_X10_isEgg rfl rfl rfl ⟨rfl, hdX10_isEgg⟩ ⟨Nat.le_of_ble_eq_true rfl, Nat.le_of_ble_eq_true rfl⟩) (preVS hC (hP.sub [0, 1] rfl) (va_recv hC.1 hP (ci := 10) (q0 := 0) rfl rfl)) rfl rfl hl.1 rfl (lv_room (Nat.le_of_ble_eq_true rfl)) dX10_stop_2 ⟨Nat.le_of_ble_eq_true rfl, Nat.le_of_ble_eq_true rfl⟩) ?_
  refine lv_if_ne (tgt := 11) hx hb dX10_stop_5 (by decide) (fun c5 => ?_) (fun c5 => ?_)
  ·have c5 := zI_t.mp c5
   obtain ⟨k, hk, rfl⟩ := isE_t c5
   have hx9 : ix (nI k) = k := ix_nI (by omega)
   have h2k := p2lt (show k < 6 by omega)
   have hal := andn_le ib (2 ^ k)
   refine lv_iload_n hx hb dX10_stop_11 rfl (lv_at hl 2 rfl) ?_
   refine lv_if_lt (tgt := 20) hx hb dX10_stop_12 (by decide) (fun c12 => ?_) (fun c12 => ?_)
   ·have hz : wth xw (nI 0) (nI 2) = false := by rw [wth_iff (by decide) (by decide)]; have := z_lt c12; exact decide_eq_false (by omega)
    refine lv_bipush (v := (-102)) hx hb dX10_stop_20 (by decide) ?_
    exact retMi (w := [(oM, .inr (10, [.ref oP, .ref oH, .ref oT, .ref oK, .ref oR, .ref oD, .ref aT, .int (nI tC), .int (nI tK), .int iK, .int (nI kR), .int (nI bD)])), (oH, .inr (6, [.ref aH, .int (nI nE), .int (nI nB), .int (nI nTb), .int (nI nTr), .int (nI nFa)])), (oT, .inr (8, [.ref aB, .ref aW, .ref aS, .ref aU, .ref aK, .int (nI fi), .int (nI ib), .int (nI sn)])), (aB, .inl (g.2.1, 20, .inl (fun j => nI (fB j)))), (aW, .inl (g.2.2.1, 20, .inr (.inl (fun j => lN (fW j))))), (aK, .inl (g.2.1, 6, .inl fK))]) hx hb hr hlocks (hP.sub [0, 1, 2, 3, 4, 5] rfl) (hD.sub [0, 1, 2, 3, 4, 5] (by decide) rfl) hS () (by rw [show (stF nE nFa ib (nI k) xw) = false by rw [stF, hz, Bool.false_and, Bool.and_false], show (cstS nE fB fW fi ib (nI k) xw) = false by rw [cstS, hz, Bool.false_and, Bool.and_false]] <;> rfl) (by rw [stR, if_pos c5, if_neg (by rw [hz]; decide)]) dX10_stop_22
   ·refine lv_iload_n hx hb dX10_stop_15 rfl (lv_at hl 2 rfl) ?_
    refine lv_iconst (v := nI 2) hx hb dX10_stop_16 (by decide) ?_
    refine lv_icmp_le (tgt := 23) hx hb dX10_stop_17 (by decide) (fun c17 => ?_) (fun c17 => ?_)
    ·have hw2 : wth xw (nI 0) (nI 2) = true := by rw [wth_iff (by decide) (by decide)]; have h1 := z_nlt c12; have h2 := (x_le (by decide)).mp c17; exact decide_eq_true (by omega)
     refine lv_aload_n hx hb dX10_stop_23 rfl (lv_at hl 0 rfl) ?_
     refine va_get (D := g.1) (ci := 10) (v := .ref oT) (C := RX10) (T := TX10) (N := 12) hx hb hts hinX10 hown hC.1 hP 0 rfl rfl 2 (by decide) f26 (fun _ h9 => h9) rfl dX10_stop_24 ?_
     refine lv_iload_n hx hb dX10_stop_27 rfl (lv_at hl 1 rfl) ?_
     refine goSi (T := zI (ib.testBit k)) (va_runV (As := [.int (nI k)]) (rest := []) ⟨hx, hb, hml, hown, hts⟩ (k_X8_isInBox l g oT aB aW aS aU aK fi ib sn k (by first | assumption | exact Nat.zero_le _ | omega) (by first | assumption | exact Nat.zero_le _ | omega)) (cwV 1 hts gX10_stop_X8_isInBox rfl rfl rfl ⟨rfl, hdX8_isInBox⟩ ⟨Nat.le_of_ble_eq_true rfl, Nat.le_of_ble_eq_true rfl⟩) (preVS hC (hP.sub [2] rfl) (va_recv hC.1 hP (ci := 8) (q0 := 2) rfl rfl)) rfl rfl hl.1 rfl (lv_room (Nat.le_of_ble_eq_true rfl)) dX10_stop_28 ⟨Nat.le_of_ble_eq_true rfl, Nat.le_of_ble_eq_true rfl⟩) ?_
     refine lv_if_ne (tgt := 37) hx hb dX10_stop_31 (by decide) (fun c31 => ?_) (fun c31 => ?_)
     ·have c31 := zI_t.mp c31
      refine lv_iload_n hx hb dX10_stop_37 rfl (lv_at hl 2 rfl) ?_
      refine lv_iconst (v := nI 2) hx hb dX10_stop_38 (by decide) ?_
      refine lv_icmp_ne (tgt := 66) hx hb dX10_stop_39 (by decide) (fun c39 => ?_) (fun c39 => ?_)
      ·refine lv_aload_n hx hb dX10_stop_66 rfl (lv_at hl 0 rfl) ?_
       refine va_get (D := g.1) (ci := 10) (v := .ref oT) (C := RX10) (T := TX10) (N := 12) hx hb hts hinX10 hown hC.1 hP 0 rfl rfl 2 (by decide) f26 (fun _ h9 => h9) rfl dX10_stop_67 ?_
       refine lv_iload_n hx hb dX10_stop_70 rfl (lv_at hl 1 rfl) ?_
       have hJ81 : ∀ (H : Heap) (locs : List Loc), va_P g.1 vwCl [(oM, .inr (10, [.ref oP, .ref oH, .ref oT, .ref oK, .ref oR, .ref oD, .ref aT, .int (nI tC), .int (nI tK), .int iK, .int (nI kR), .int (nI bD)])), (oH, .inr (6, [.ref aH, .int (nI nE), .int (nI nB), .int (nI nTb), .int (nI nTr), .int (nI nFa)])), (oT, .inr (8, [.ref aB, .ref aW, .ref aS, .ref aU, .ref aK, .int (nI fi), .int (nI ib), .int (nI sn)])), (aB, .inl (g.2.1, 20, .inl (fun j => nI (fB j)))), (aW, .inl (g.2.2.1, 20, .inr (.inl (fun j => lN (fW j))))), (aK, .inl (g.2.1, 6, .inl fK))] H → va_D A [(oM, .inr (10, [.ref oP, .ref oH, .ref oT, .ref oK, .ref oR, .ref oD, .ref aT, .int (nI tC), .int (nI tK), .int iK, .int (nI kR), .int (nI bD)])), (oH, .inr (6, [.ref aH, .int (nI nE), .int (nI nB), .int (nI nTb), .int (nI nTr), .int (nI nFa)])), (oT, .inr (8, [.ref aB, .ref aW, .ref aS, .ref aU, .ref aK, .int (nI fi), .int (nI ib), .int (nI sn)])), (aB, .inl (g.2.1, 20, .inl (fun j => nI (fB j)))), (aW, .inl (g.2.2.1, 20, .inr (.inl (fun j => lN (fW j))))), (aK, .inl (g.2.1, 6, .inl fK))] → va_S A s.heap H locs → ∀ ls : Array Slot, lv_has ls 3 [(0, .ref oM), (1, .int (nI k)), (2, .int xw)] → W p l e ({ frames := 4, cells := 0, slots := 0, locals := 92 }) s m ([.ref oM, .int (nI k), .int xw] : List Value).toArray below meth c H locs 0 0 (MQ below (qMi g (fun r (_ : Unit) => r = stR nE (stF nE nFa ib (nI k) xw) (cstS nE fB fW fi ib (nI k) xw) ib (nI k) xw) (fun (_ : Unit) => [(oM, .inr (10, [.ref oP, .ref oH, .ref oT, .ref oK, .ref oR, .ref oD, .ref aT, .int (nI tC), .int (nI tK), .int iK, .int (nI kR), .int (nI bD)])), (oH, .inr (6, [.ref aH, .int (nI nE), .int (nI nB), .int (nI nTb), .int (nI nTr), .int (nI nFa)])), (oT, .inr (8, [.ref aB, .ref aW, .ref aS, .ref aU, .ref aK, .int (nI (cond (cstS nE fB fW fi ib (nI k) xw) (wgS (ix (nI k)) (cond (decide (xw = nI 1)) 1 0) (cond (decide (xw = nI 1)) 0 1) fB fW fi).2.2 fi)), .int (nI (cond (stF nE nFa ib (nI k) xw) (andn ib (2 ^ ix (nI k))) ib)), .int (nI sn)])), (aB, .inl (g.2.1, 20, .inl (fun j => nI (cond (cstS nE fB fW fi ib (nI k) xw) (wgS (ix (nI k)) (cond (decide (xw = nI 1)) 1 0) (cond (decide (xw = nI 1)) 0 1) fB fW fi).1 fB j)))), (aW, .inl (g.2.2.1, 20, .inr (.inl (fun j => lN (cond (cstS nE fB fW fi ib (nI k) xw) (wgS (ix (nI k)) (cond (decide (xw = nI 1)) 1 0) (cond (decide (xw = nI 1)) 0 1) fB fW fi).2.1 fW j))))), (aK, .inl (g.2.1, 6, .inl (cond (cstS nE fB fW fi ib (nI k) xw) (upd fK (ix (nI k)) (zI (decide (xw = nI 1)))) fK)))]) A) ([.ref oM, .int (nI k), .int xw] : List Value).toArray s 0 0 A) (F0 m 81 ls [.int (zI (decide (xw = nI 1))), .int (nI k), .ref oT]) := by
        intro  H locs hP hD hS ls hl
        refine goSi (T := zI (cbS fB fW k fi (cond (decide (xw = nI 1)) 1 0) (cond (decide (xw = nI 1)) 0 1))) (va_runV (As := [.int (nI k), .int (zI (decide (xw = nI 1)))]) (rest := []) ⟨hx, hb, hml, hown, hts⟩ (k_X8_canBeSure l g oT aB aW aS aU aK fi ib sn fB fW k (decide (xw = nI 1)) (by first | assumption | exact Nat.zero_le _ | omega) (by first | assumption | exact Nat.zero_le _ | omega) (by first | assumption | exact Nat.zero_le _ | omega) (by first | assumption | exact Nat.zero_le _ | omega)) (cwV 2 hts gX10_stop_X8_canBeSure rfl rfl rfl ⟨rfl, hdX8_canBeSure⟩ ⟨Nat.le_of_ble_eq_true rfl, Nat.le_of_ble_eq_true rfl⟩) (preVS hC (hP.sub [2, 3, 4] rfl) (va_recv hC.1 hP (ci := 8) (q0 := 2) rfl rfl)) rfl rfl hl.1 rfl (lv_room (Nat.le_of_ble_eq_true rfl)) dX10_stop_81 ⟨Nat.le_of_ble_eq_true rfl, Nat.le_of_ble_eq_true rfl⟩) ?_
        refine lv_if_ne (tgt := 90) hx hb dX10_stop_84 (by decide) (fun c84 => ?_) (fun c84 => ?_)
        ·have c84 := zI_t.mp c84
         have hkb : kbS fB fW fi (nI k) (decide (xw = nI 1)) = true := by rw [kbS, hx9]; exact c84
         refine lv_aload_n hx hb dX10_stop_90 rfl (lv_at hl 0 rfl) ?_
         refine va_get (D := g.1) (ci := 10) (v := .ref oT) (C := RX10) (T := TX10) (N := 12) hx hb hts hinX10 hown hC.1 hP 0 rfl rfl 2 (by decide) f26 (fun _ h9 => h9) rfl dX10_stop_91 ?_
         refine lv_iload_n hx hb dX10_stop_94 rfl (lv_at hl 1 rfl) ?_
         have hJ105 : ∀ (H : Heap) (locs : List Loc), va_P g.1 vwCl [(oM, .inr (10, [.ref oP, .ref oH, .ref oT, .ref oK, .ref oR, .ref oD, .ref aT, .int (nI tC), .int (nI tK), .int iK, .int (nI kR), .int (nI bD)])), (oH, .inr (6, [.ref aH, .int (nI nE), .int (nI nB), .int (nI nTb), .int (nI nTr), .int (nI nFa)])), (oT, .inr (8, [.ref aB, .ref aW, .ref aS, .ref aU, .ref aK, .int (nI fi), .int (nI ib), .int (nI sn)])), (aB, .inl (g.2.1, 20, .inl (fun j => nI (fB j)))), (aW, .inl (g.2.2.1, 20, .inr (.inl (fun j => lN (fW j))))), (aK, .inl (g.2.1, 6, .inl fK))] H → va_D A [(oM, .inr (10, [.ref oP, .ref oH, .ref oT, .ref oK, .ref oR, .ref oD, .ref aT, .int (nI tC), .int (nI tK), .int iK, .int (nI kR), .int (nI bD)])), (oH, .inr (6, [.ref aH, .int (nI nE), .int (nI nB), .int (nI nTb), .int (nI nTr), .int (nI nFa)])), (oT, .inr (8, [.ref aB, .ref aW, .ref aS, .ref aU, .ref aK, .int (nI fi), .int (nI ib), .int (nI sn)])), (aB, .inl (g.2.1, 20, .inl (fun j => nI (fB j)))), (aW, .inl (g.2.2.1, 20, .inr (.inl (fun j => lN (fW j))))), (aK, .inl (g.2.1, 6, .inl fK))] → va_S A s.heap H locs → ∀ ls : Array Slot, lv_has ls 3 [(0, .ref oM), (1, .int (nI k)), (2, .int xw)] → W p l e ({ frames := 4, cells := 0, slots := 0, locals := 92 }) s m ([.ref oM, .int (nI k), .int xw] : List Value).toArray below meth c H locs 0 0 (MQ below (qMi g (fun r (_ : Unit) => r = stR nE (stF nE nFa ib (nI k) xw) (cstS nE fB fW fi ib (nI k) xw) ib (nI k) xw) (fun (_ : Unit) => [(oM, .inr (10, [.ref oP, .ref oH, .ref oT, .ref oK, .ref oR, .ref oD, .ref aT, .int (nI tC), .int (nI tK), .int iK, .int (nI kR), .int (nI bD)])), (oH, .inr (6, [.ref aH, .int (nI nE), .int (nI nB), .int (nI nTb), .int (nI nTr), .int (nI nFa)])), (oT, .inr (8, [.ref aB, .ref aW, .ref aS, .ref aU, .ref aK, .int (nI (cond (cstS nE fB fW fi ib (nI k) xw) (wgS (ix (nI k)) (cond (decide (xw = nI 1)) 1 0) (cond (decide (xw = nI 1)) 0 1) fB fW fi).2.2 fi)), .int (nI (cond (stF nE nFa ib (nI k) xw) (andn ib (2 ^ ix (nI k))) ib)), .int (nI sn)])), (aB, .inl (g.2.1, 20, .inl (fun j => nI (cond (cstS nE fB fW fi ib (nI k) xw) (wgS (ix (nI k)) (cond (decide (xw = nI 1)) 1 0) (cond (decide (xw = nI 1)) 0 1) fB fW fi).1 fB j)))), (aW, .inl (g.2.2.1, 20, .inr (.inl (fun j => lN (cond (cstS nE fB fW fi ib (nI k) xw) (wgS (ix (nI k)) (cond (decide (xw = nI 1)) 1 0) (cond (decide (xw = nI 1)) 0 1) fB fW fi).2.1 fW j))))), (aK, .inl (g.2.1, 6, .inl (cond (cstS nE fB fW fi ib (nI k) xw) (upd fK (ix (nI k)) (zI (decide (xw = nI 1)))) fK)))]) A) ([.ref oM, .int (nI k), .int xw] : List Value).toArray s 0 0 A) (F0 m 105 ls [.int (zI (decide (xw = nI 1))), .int (nI k), .ref oT]) := by
          intro  H locs hP hD hS ls hl
          refine goMv (S := Unit) (wr := [(oM, .inr (10, [.ref oP, .ref oH, .ref oT, .ref oK, .ref oR, .ref oD, .ref aT, .int (nI tC), .int (nI tK), .int iK, .int (nI kR), .int (nI bD)])), (oH, .inr (6, [.ref aH, .int (nI nE), .int (nI nB), .int (nI nTb), .int (nI nTr), .int (nI nFa)]))]) (va_runV (As := [.int (nI k), .int (zI (decide (xw = nI 1)))]) (rest := []) ⟨hx, hb, hml, hown, hts⟩ (k_X8_makeSure l g _ oT aB aW aS aU aK fi ib sn fB fW fK k (decide (xw = nI 1)) (by first | assumption | exact Nat.zero_le _ | omega) (by first | assumption | exact Nat.zero_le _ | omega) (by first | assumption | exact Nat.zero_le _ | omega) (by first | assumption | exact Nat.zero_le _ | omega)) (cwV 2 hts gX10_stop_X8_makeSure rfl rfl rfl ⟨rfl, hdX8_makeSure⟩ ⟨Nat.le_of_ble_eq_true rfl, Nat.le_of_ble_eq_true rfl⟩) (preVM hC (hP.sub [2, 3, 4, 5] rfl) (hD.sub [2, 3, 4, 5] (by decide) rfl) (va_recv hC.1 hP (ci := 8) (q0 := 2) rfl rfl)) rfl rfl hl.1 rfl (lv_room (Nat.le_of_ble_eq_true rfl)) dX10_stop_105 ⟨Nat.le_of_ble_eq_true rfl, Nat.le_of_ble_eq_true rfl⟩) hP hD hS hA [2, 3, 4, 5] [0, 1] rfl rfl (by decide) (by decide) (fun _ H locs hw_9 hP hD hS => ?_)
          have hP : va_P g.1 vwCl [(oM, .inr (10, [.ref oP, .ref oH, .ref oT, .ref oK, .ref oR, .ref oD, .ref aT, .int (nI tC), .int (nI tK), .int iK, .int (nI kR), .int (nI bD)])), (oH, .inr (6, [.ref aH, .int (nI nE), .int (nI nB), .int (nI nTb), .int (nI nTr), .int (nI nFa)])), (oT, .inr (8, [.ref aB, .ref aW, .ref aS, .ref aU, .ref aK, .int (nI ((wgS k (cond (decide (xw = nI 1)) 1 0) (cond (decide (xw = nI 1)) 0 1) fB fW fi).2.2)), .int (nI ib), .int (nI sn)])), (aB, .inl (g.2.1, 20, .inl (fun j => nI ((wgS k (cond (decide (xw = nI 1)) 1 0) (cond (decide (xw = nI 1)) 0 1) fB fW fi).1 j)))), (aW, .inl (g.2.2.1, 20, .inr (.inl (fun j => lN ((wgS k (cond (decide (xw = nI 1)) 1 0) (cond (decide (xw = nI 1)) 0 1) fB fW fi).2.1 j))))), (aK, .inl (g.2.1, 6, .inl (upd fK k (zI (decide (xw = nI 1))))))] H := hP
          have hD : va_D A [(oM, .inr (10, [.ref oP, .ref oH, .ref oT, .ref oK, .ref oR, .ref oD, .ref aT, .int (nI tC), .int (nI tK), .int iK, .int (nI kR), .int (nI bD)])), (oH, .inr (6, [.ref aH, .int (nI nE), .int (nI nB), .int (nI nTb), .int (nI nTr), .int (nI nFa)])), (oT, .inr (8, [.ref aB, .ref aW, .ref aS, .ref aU, .ref aK, .int (nI ((wgS k (cond (decide (xw = nI 1)) 1 0) (cond (decide (xw = nI 1)) 0 1) fB fW fi).2.2)), .int (nI ib), .int (nI sn)])), (aB, .inl (g.2.1, 20, .inl (fun j => nI ((wgS k (cond (decide (xw = nI 1)) 1 0) (cond (decide (xw = nI 1)) 0 1) fB fW fi).1 j)))), (aW, .inl (g.2.2.1, 20, .inr (.inl (fun j => lN ((wgS k (cond (decide (xw = nI 1)) 1 0) (cond (decide (xw = nI 1)) 0 1) fB fW fi).2.1 j))))), (aK, .inl (g.2.1, 6, .inl (upd fK k (zI (decide (xw = nI 1))))))] := hD
          refine lv_aload_n hx hb dX10_stop_108 rfl (lv_at hl 0 rfl) ?_
          refine va_get (D := g.1) (ci := 10) (v := .ref oT) (C := RX10) (T := TX10) (N := 12) hx hb hts hinX10 hown hC.1 hP 0 rfl rfl 2 (by decide) f26 (fun _ h9 => h9) rfl dX10_stop_109 ?_
          refine goSi (T := nI (popS ib 6)) (va_runV (As := []) (rest := []) ⟨hx, hb, hml, hown, hts⟩ (k_X8_howManyInBox l g oT aB aW aS aU aK ((wgS k (cond (decide (xw = nI 1)) 1 0) (cond (decide (xw = nI 1)) 0 1) fB fW fi).2.2) ib sn (by first | assumption | exact Nat.zero_le _ | omega)) (cwV 0 hts gX10_stop_X8_howManyInBox rfl rfl rfl ⟨rfl, hdX8_howManyInBox⟩ ⟨Nat.le_of_ble_eq_true rfl, Nat.le_of_ble_eq_true rfl⟩) (preVS hC (hP.sub [2] rfl) (va_recv hC.1 hP (ci := 8) (q0 := 2) rfl rfl)) rfl rfl hl.1 rfl (lv_room (Nat.le_of_ble_eq_true rfl)) dX10_stop_112 ⟨Nat.le_of_ble_eq_true rfl, Nat.le_of_ble_eq_true rfl⟩) ?_
          exact retMi (w := [(oM, .inr (10, [.ref oP, .ref oH, .ref oT, .ref oK, .ref oR, .ref oD, .ref aT, .int (nI tC), .int (nI tK), .int iK, .int (nI kR), .int (nI bD)])), (oH, .inr (6, [.ref aH, .int (nI nE), .int (nI nB), .int (nI nTb), .int (nI nTr), .int (nI nFa)])), (oT, .inr (8, [.ref aB, .ref aW, .ref aS, .ref aU, .ref aK, .int (nI ((wgS k (cond (decide (xw = nI 1)) 1 0) (cond (decide (xw = nI 1)) 0 1) fB fW fi).2.2)), .int (nI ib), .int (nI sn)])), (aB, .inl (g.2.1, 20, .inl (fun j => nI ((wgS k (cond (decide (xw = nI 1)) 1 0) (cond (decide (xw = nI 1)) 0 1) fB fW fi).1 j)))), (aW, .inl (g.2.2.1, 20, .inr (.inl (fun j => lN ((wgS k (cond (decide (xw = nI 1)) 1 0) (cond (decide (xw = nI 1)) 0 1) fB fW fi).2.1 j))))), (aK, .inl (g.2.1, 6, .inl (upd fK k (zI (decide (xw = nI 1))))))]) hx hb hr hlocks (hP.sub [0, 1, 2, 3, 4, 5] rfl) (hD.sub [0, 1, 2, 3, 4, 5] (by decide) rfl) hS () (by rw [show (stF nE nFa ib (nI k) xw) = false by simp [stF, c39], show (cstS nE fB fW fi ib (nI k) xw) = true by simp [cstS, hx9, c5, hw2, c31, c39, hkb], hx9] <;> rfl) (by have hf : (stF nE nFa ib (nI k) xw) = false := (by simp [stF, c39]); have hy : (cstS nE fB fW fi ib (nI k) xw) = true := (by simp [cstS, hx9, c5, hw2, c31, c39, hkb]); rw [stR, if_pos c5, if_pos hw2, hf, hy] <;> rfl) dX10_stop_115
         refine lv_iload_n hx hb dX10_stop_95 rfl (lv_at hl 2 rfl) ?_
         refine lv_iconst (v := nI 1) hx hb dX10_stop_96 (by decide) ?_
         refine lv_icmp_ne (tgt := 104) hx hb dX10_stop_97 (by decide) (fun c97 => ?_) (fun c97 => ?_)
         ·refine lv_iconst (v := nI 0) hx hb dX10_stop_104 (by decide) ?_
          refine top_i (y := zI (decide (xw = nI 1))) (by first | exact zI_1 (decide_eq_true c97) | exact zI_0 (decide_eq_false c97)) ?_
          exact hJ105   _ _ hP hD hS ls (lv_sub hl [0, 1, 2] rfl)
         ·refine lv_iconst (v := nI 1) hx hb dX10_stop_100 (by decide) ?_
          refine lv_goto (tgt := 105) hx hb dX10_stop_101 (by decide) ?_
          refine top_i (y := zI (decide (xw = nI 1))) (by first | exact zI_1 (decide_eq_true c97) | exact zI_0 (decide_eq_false c97)) ?_
          exact hJ105   _ _ hP hD hS ls (lv_sub hl [0, 1, 2] rfl)
        ·have c84 := zI_f.mp c84
         refine lv_bipush (v := (-103)) hx hb dX10_stop_87 (by decide) ?_
         exact retMi (w := [(oM, .inr (10, [.ref oP, .ref oH, .ref oT, .ref oK, .ref oR, .ref oD, .ref aT, .int (nI tC), .int (nI tK), .int iK, .int (nI kR), .int (nI bD)])), (oH, .inr (6, [.ref aH, .int (nI nE), .int (nI nB), .int (nI nTb), .int (nI nTr), .int (nI nFa)])), (oT, .inr (8, [.ref aB, .ref aW, .ref aS, .ref aU, .ref aK, .int (nI fi), .int (nI ib), .int (nI sn)])), (aB, .inl (g.2.1, 20, .inl (fun j => nI (fB j)))), (aW, .inl (g.2.2.1, 20, .inr (.inl (fun j => lN (fW j))))), (aK, .inl (g.2.1, 6, .inl fK))]) hx hb hr hlocks (hP.sub [0, 1, 2, 3, 4, 5] rfl) (hD.sub [0, 1, 2, 3, 4, 5] (by decide) rfl) hS () (by rw [show (stF nE nFa ib (nI k) xw) = false by simp [stF, c39], show (cstS nE fB fW fi ib (nI k) xw) = false by rw [cstS, kbS, hx9, c84]; simp] <;> rfl) (by rw [stR, if_pos c5, if_pos hw2, if_neg (by rw [show (stF nE nFa ib (nI k) xw) = false by simp [stF, c39], show (cstS nE fB fW fi ib (nI k) xw) = false by rw [cstS, kbS, hx9, c84]; simp]; decide)]) dX10_stop_89
       refine lv_iload_n hx hb dX10_stop_71 rfl (lv_at hl 2 rfl) ?_
       refine lv_iconst (v := nI 1) hx hb dX10_stop_72 (by decide) ?_
       refine lv_icmp_ne (tgt := 80) hx hb dX10_stop_73 (by decide) (fun c73 => ?_) (fun c73 => ?_)
       ·refine lv_iconst (v := nI 0) hx hb dX10_stop_80 (by decide) ?_
        refine top_i (y := zI (decide (xw = nI 1))) (by first | exact zI_1 (decide_eq_true c73) | exact zI_0 (decide_eq_false c73)) ?_
        exact hJ81   _ _ hP hD hS ls (lv_sub hl [0, 1, 2] rfl)
       ·refine lv_iconst (v := nI 1) hx hb dX10_stop_76 (by decide) ?_
        refine lv_goto (tgt := 81) hx hb dX10_stop_77 (by decide) ?_
        refine top_i (y := zI (decide (xw = nI 1))) (by first | exact zI_1 (decide_eq_true c73) | exact zI_0 (decide_eq_false c73)) ?_
        exact hJ81   _ _ hP hD hS ls (lv_sub hl [0, 1, 2] rfl)
      ·refine lv_aload_n hx hb dX10_stop_42 rfl (lv_at hl 0 rfl) ?_
       refine va_get (D := g.1) (ci := 10) (v := .ref oH) (C := RX10) (T := TX10) (N := 12) hx hb hts hinX10 hown hC.1 hP 0 rfl rfl 1 (by decide) f19 (fun _ h9 => h9) rfl dX10_stop_43 ?_
       refine va_getN (D := g.1) (ci := 6) (v := .int (nI nFa)) (C := RX6) (T := TX6) (N := 6) hx hb hts hinX6 hown hC.1 hP 1 rfl rfl 5 (by decide) f132 (fun _ h9 => h9) rfl dX10_stop_46 ?_
       refine lv_if_ne (tgt := 55) hx hb dX10_stop_49 (by decide) (fun c49 => ?_) (fun c49 => ?_)
       ·have c49 : ¬ nFa = 0 := fun h9 => c49 ((nI_eq (a := nFa) (b := 0) (by omega) (by omega)).mpr h9)
        refine lv_aload_n hx hb dX10_stop_55 rfl (lv_at hl 0 rfl) ?_
        refine va_get (D := g.1) (ci := 10) (v := .ref oT) (C := RX10) (T := TX10) (N := 12) hx hb hts hinX10 hown hC.1 hP 0 rfl rfl 2 (by decide) f26 (fun _ h9 => h9) rfl dX10_stop_56 ?_
        refine lv_iload_n hx hb dX10_stop_59 rfl (lv_at hl 1 rfl) ?_
        refine goMv (S := Unit) (wr := [(oM, .inr (10, [.ref oP, .ref oH, .ref oT, .ref oK, .ref oR, .ref oD, .ref aT, .int (nI tC), .int (nI tK), .int iK, .int (nI kR), .int (nI bD)])), (oH, .inr (6, [.ref aH, .int (nI nE), .int (nI nB), .int (nI nTb), .int (nI nTr), .int (nI nFa)])), (aB, .inl (g.2.1, 20, .inl (fun j => nI (fB j)))), (aW, .inl (g.2.2.1, 20, .inr (.inl (fun j => lN (fW j))))), (aK, .inl (g.2.1, 6, .inl fK))]) (va_runV (As := [.int (nI k)]) (rest := []) ⟨hx, hb, hml, hown, hts⟩ (k_X8_takeOut l g _ oT aB aW aS aU aK fi ib sn k (by first | assumption | exact Nat.zero_le _ | omega) (by first | assumption | exact Nat.zero_le _ | omega)) (cwV 1 hts gX10_stop_X8_takeOut rfl rfl rfl ⟨rfl, hdX8_takeOut⟩ ⟨Nat.le_of_ble_eq_true rfl, Nat.le_of_ble_eq_true rfl⟩) (preVM hC (hP.sub [2] rfl) (hD.sub [2] (by decide) rfl) (va_recv hC.1 hP (ci := 8) (q0 := 2) rfl rfl)) rfl rfl hl.1 rfl (lv_room (Nat.le_of_ble_eq_true rfl)) dX10_stop_60 ⟨Nat.le_of_ble_eq_true rfl, Nat.le_of_ble_eq_true rfl⟩) hP hD hS hA [2] [0, 1, 3, 4, 5] rfl rfl (by decide) (by decide) (fun _ H locs hw_9 hP hD hS => ?_)
        have hP : va_P g.1 vwCl [(oM, .inr (10, [.ref oP, .ref oH, .ref oT, .ref oK, .ref oR, .ref oD, .ref aT, .int (nI tC), .int (nI tK), .int iK, .int (nI kR), .int (nI bD)])), (oH, .inr (6, [.ref aH, .int (nI nE), .int (nI nB), .int (nI nTb), .int (nI nTr), .int (nI nFa)])), (aB, .inl (g.2.1, 20, .inl (fun j => nI (fB j)))), (aW, .inl (g.2.2.1, 20, .inr (.inl (fun j => lN (fW j))))), (aK, .inl (g.2.1, 6, .inl fK)), (oT, .inr (8, [.ref aB, .ref aW, .ref aS, .ref aU, .ref aK, .int (nI fi), .int (nI (andn ib (2 ^ k))), .int (nI sn)]))] H := hP
        have hD : va_D A [(oM, .inr (10, [.ref oP, .ref oH, .ref oT, .ref oK, .ref oR, .ref oD, .ref aT, .int (nI tC), .int (nI tK), .int iK, .int (nI kR), .int (nI bD)])), (oH, .inr (6, [.ref aH, .int (nI nE), .int (nI nB), .int (nI nTb), .int (nI nTr), .int (nI nFa)])), (aB, .inl (g.2.1, 20, .inl (fun j => nI (fB j)))), (aW, .inl (g.2.2.1, 20, .inr (.inl (fun j => lN (fW j))))), (aK, .inl (g.2.1, 6, .inl fK)), (oT, .inr (8, [.ref aB, .ref aW, .ref aS, .ref aU, .ref aK, .int (nI fi), .int (nI (andn ib (2 ^ k))), .int (nI sn)]))] := hD
        refine lv_goto (tgt := 108) hx hb dX10_stop_63 (by decide) ?_
        refine lv_aload_n hx hb dX10_stop_108 rfl (lv_at hl 0 rfl) ?_
        refine va_get (D := g.1) (ci := 10) (v := .ref oT) (C := RX10) (T := TX10) (N := 12) hx hb hts hinX10 hown hC.1 hP 0 rfl rfl 2 (by decide) f26 (fun _ h9 => h9) rfl dX10_stop_109 ?_
        refine goSi (T := nI (popS (andn ib (2 ^ k)) 6)) (va_runV (As := []) (rest := []) ⟨hx, hb, hml, hown, hts⟩ (k_X8_howManyInBox l g oT aB aW aS aU aK fi (andn ib (2 ^ k)) sn (by first | assumption | exact Nat.zero_le _ | omega)) (cwV 0 hts gX10_stop_X8_howManyInBox rfl rfl rfl ⟨rfl, hdX8_howManyInBox⟩ ⟨Nat.le_of_ble_eq_true rfl, Nat.le_of_ble_eq_true rfl⟩) (preVS hC (hP.sub [5] rfl) (va_recv hC.1 hP (ci := 8) (q0 := 5) rfl rfl)) rfl rfl hl.1 rfl (lv_room (Nat.le_of_ble_eq_true rfl)) dX10_stop_112 ⟨Nat.le_of_ble_eq_true rfl, Nat.le_of_ble_eq_true rfl⟩) ?_
        exact retMi (w := [(oM, .inr (10, [.ref oP, .ref oH, .ref oT, .ref oK, .ref oR, .ref oD, .ref aT, .int (nI tC), .int (nI tK), .int iK, .int (nI kR), .int (nI bD)])), (oH, .inr (6, [.ref aH, .int (nI nE), .int (nI nB), .int (nI nTb), .int (nI nTr), .int (nI nFa)])), (oT, .inr (8, [.ref aB, .ref aW, .ref aS, .ref aU, .ref aK, .int (nI fi), .int (nI (andn ib (2 ^ k))), .int (nI sn)])), (aB, .inl (g.2.1, 20, .inl (fun j => nI (fB j)))), (aW, .inl (g.2.2.1, 20, .inr (.inl (fun j => lN (fW j))))), (aK, .inl (g.2.1, 6, .inl fK))]) hx hb hr hlocks (hP.sub [0, 1, 5, 2, 3, 4] rfl) (hD.sub [0, 1, 5, 2, 3, 4] (by decide) rfl) hS () (by rw [show (stF nE nFa ib (nI k) xw) = true by rw [stF, hx9, c5, hw2, c31, decide_eq_true c39, decide_eq_true c49]; rfl, show (cstS nE fB fW fi ib (nI k) xw) = false by rw [cstS, decide_eq_true c39]; simp, hx9] <;> rfl) (by have hf : (stF nE nFa ib (nI k) xw) = true := (by rw [stF, hx9, c5, hw2, c31, decide_eq_true c39, decide_eq_true c49]; rfl); rw [stR, if_pos c5, if_pos hw2, hf, hx9] <;> rfl) dX10_stop_115
       ·have c49 : nFa = 0 := (nI_eq (a := nFa) (b := 0) (by omega) (by omega)).mp c49
        refine lv_bipush (v := (-103)) hx hb dX10_stop_52 (by decide) ?_
        exact retMi (w := [(oM, .inr (10, [.ref oP, .ref oH, .ref oT, .ref oK, .ref oR, .ref oD, .ref aT, .int (nI tC), .int (nI tK), .int iK, .int (nI kR), .int (nI bD)])), (oH, .inr (6, [.ref aH, .int (nI nE), .int (nI nB), .int (nI nTb), .int (nI nTr), .int (nI nFa)])), (oT, .inr (8, [.ref aB, .ref aW, .ref aS, .ref aU, .ref aK, .int (nI fi), .int (nI ib), .int (nI sn)])), (aB, .inl (g.2.1, 20, .inl (fun j => nI (fB j)))), (aW, .inl (g.2.2.1, 20, .inr (.inl (fun j => lN (fW j))))), (aK, .inl (g.2.1, 6, .inl fK))]) hx hb hr hlocks (hP.sub [0, 1, 2, 3, 4, 5] rfl) (hD.sub [0, 1, 2, 3, 4, 5] (by decide) rfl) hS () (by rw [show (stF nE nFa ib (nI k) xw) = false by simp [stF, c49], show (cstS nE fB fW fi ib (nI k) xw) = false by simp [cstS, c39]] <;> rfl) (by rw [stR, if_pos c5, if_pos hw2, if_neg (by simp [stF, cstS, c39, c49])]) dX10_stop_54
     ·have c31 := zI_f.mp c31
      refine lv_bipush (v := (-103)) hx hb dX10_stop_34 (by decide) ?_
      exact retMi (w := [(oM, .inr (10, [.ref oP, .ref oH, .ref oT, .ref oK, .ref oR, .ref oD, .ref aT, .int (nI tC), .int (nI tK), .int iK, .int (nI kR), .int (nI bD)])), (oH, .inr (6, [.ref aH, .int (nI nE), .int (nI nB), .int (nI nTb), .int (nI nTr), .int (nI nFa)])), (oT, .inr (8, [.ref aB, .ref aW, .ref aS, .ref aU, .ref aK, .int (nI fi), .int (nI ib), .int (nI sn)])), (aB, .inl (g.2.1, 20, .inl (fun j => nI (fB j)))), (aW, .inl (g.2.2.1, 20, .inr (.inl (fun j => lN (fW j))))), (aK, .inl (g.2.1, 6, .inl fK))]) hx hb hr hlocks (hP.sub [0, 1, 2, 3, 4, 5] rfl) (hD.sub [0, 1, 2, 3, 4, 5] (by decide) rfl) hS () (by rw [show (stF nE nFa ib (nI k) xw) = false by simp [stF, hx9, c31], show (cstS nE fB fW fi ib (nI k) xw) = false by simp [cstS, hx9, c31]] <;> rfl) (by rw [stR, if_pos c5, if_pos hw2, if_neg (by simp [stF, cstS, hx9, c31])]) dX10_stop_36
    ·have hz : wth xw (nI 0) (nI 2) = false := by rw [wth_iff (by decide) (by decide)]; have h2 : ¬ xw.toInt ≤ ((2 : Nat) : Int) := fun h => c17 ((x_le (by decide)).mpr h); exact decide_eq_false (by omega)
     refine lv_bipush (v := (-102)) hx hb dX10_stop_20 (by decide) ?_
     exact retMi (w := [(oM, .inr (10, [.ref oP, .ref oH, .ref oT, .ref oK, .ref oR, .ref oD, .ref aT, .int (nI tC), .int (nI tK), .int iK, .int (nI kR), .int (nI bD)])), (oH, .inr (6, [.ref aH, .int (nI nE), .int (nI nB), .int (nI nTb), .int (nI nTr), .int (nI nFa)])), (oT, .inr (8, [.ref aB, .ref aW, .ref aS, .ref aU, .ref aK, .int (nI fi), .int (nI ib), .int (nI sn)])), (aB, .inl (g.2.1, 20, .inl (fun j => nI (fB j)))), (aW, .inl (g.2.2.1, 20, .inr (.inl (fun j => lN (fW j))))), (aK, .inl (g.2.1, 6, .inl fK))]) hx hb hr hlocks (hP.sub [0, 1, 2, 3, 4, 5] rfl) (hD.sub [0, 1, 2, 3, 4, 5] (by decide) rfl) hS () (by rw [show (stF nE nFa ib (nI k) xw) = false by rw [stF, hz, Bool.false_and, Bool.and_false], show (cstS nE fB fW fi ib (nI k) xw) = false by rw [cstS, hz, Bool.false_and, Bool.and_false]] <;> rfl) (by rw [stR, if_pos c5, if_neg (by rw [hz]; decide)]) dX10_stop_22
  ·have c5 := zI_f.mp c5
   refine lv_bipush (v := (-101)) hx hb dX10_stop_8 (by decide) ?_
   exact retMi (w := [(oM, .inr (10, [.ref oP, .ref oH, .ref oT, .ref oK, .ref oR, .ref oD, .ref aT, .int (nI tC), .int (nI tK), .int iK, .int (nI kR), .int (nI bD)])), (oH, .inr (6, [.ref aH, .int (nI nE), .int (nI nB), .int (nI nTb), .int (nI nTr), .int (nI nFa)])), (oT, .inr (8, [.ref aB, .ref aW, .ref aS, .ref aU, .ref aK, .int (nI fi), .int (nI ib), .int (nI sn)])), (aB, .inl (g.2.1, 20, .inl (fun j => nI (fB j)))), (aW, .inl (g.2.2.1, 20, .inr (.inl (fun j => lN (fW j))))), (aK, .inl (g.2.1, 6, .inl fK))]) hx hb hr hlocks (hP.sub [0, 1, 2, 3, 4, 5] rfl) (hD.sub [0, 1, 2, 3, 4, 5] (by decide) rfl) hS () (by rw [show (stF nE nFa ib xe xw) = false by rw [stF, c5]; rfl, show (cstS nE fB fW fi ib xe xw) = false by rw [cstS, c5]; rfl] <;> rfl) (by rw [stR, if_neg (by rw [c5]; decide)]) dX10_stop_10

set_option maxHeartbeats 4000000 in
set_option maxRecDepth 100000 in
/-- BoiledEggs.crack  -/
theorem k_X10_crack (l : Launch) (g : GG) (sz : Nat) (oM : Nat) (oP : Nat) (oH : Nat) (oT : Nat) (oK : Nat) (oR : Nat) (oD : Nat) (aT : Nat) (tC : Nat) (tK : Nat) (iK : Int32) (kR : Nat) (bD : Nat) (aH : Nat) (nE : Nat) (nB : Nat) (nTb : Nat) (nTr : Nat) (nFa : Nat) (aB : Nat) (aW : Nat) (aS : Nat) (aU : Nat) (aK : Nat) (fi : Nat) (ib : Nat) (sn : Nat) (fB : Nat → Nat) (fW : Nat → Nat) (fK : Nat → Int32) (xe : Int32) (xb : Bool) (hE : nE ≤ 6) (hib : ib < 64) (hf0 : fi ≤ 20) (hB : ∀ j, fB j < 64) (ha0 : smN fW fi < 2 ^ 42) : Met l yX10_crack wsX10_crack ({ frames := 4, cells := 0, slots := 0, locals := 92 }) (pM g sz [.ref oM, .int xe, .int (zI xb)] [(oM, .inr (10, [.ref oP, .ref oH, .ref oT, .ref oK, .ref oR, .ref oD, .ref aT, .int (nI tC), .int (nI tK), .int iK, .int (nI kR), .int (nI bD)])), (oH, .inr (6, [.ref aH, .int (nI nE), .int (nI nB), .int (nI nTb), .int (nI nTr), .int (nI nFa)])), (oT, .inr (8, [.ref aB, .ref aW, .ref aS, .ref aU, .ref aK, .int (nI fi), .int (nI ib), .int (nI sn)])), (aB, .inl (g.2.1, 20, .inl (fun j => nI (fB j)))), (aW, .inl (g.2.2.1, 20, .inr (.inl (fun j => lN (fW j))))), (aK, .inl (g.2.1, 6, .inl fK))]) (qMi g (fun r (_ : Unit) => r = crR nE (ccrOK nE fB fW fi ib xe xb) ib xe) (fun (_ : Unit) => [(oM, .inr (10, [.ref oP, .ref oH, .ref oT, .ref oK, .ref oR, .ref oD, .ref aT, .int (nI tC), .int (nI tK), .int iK, .int (nI kR), .int (nI bD)])), (oH, .inr (6, [.ref aH, .int (nI nE), .int (nI nB), .int (nI nTb), .int (nI nTr), .int (nI nFa)])), (oT, .inr (8, [.ref aB, .ref aW, .ref aS, .ref aU, .ref aK, .int (nI (cond (ccrOK nE fB fW fi ib xe xb) (wgS (ix xe) (cond xb 1 0) (cond xb 0 1) fB fW fi).2.2 fi)), .int (nI (cond (ccrOK nE fB fW fi ib xe xb) (andn ib (2 ^ ix xe)) ib)), .int (nI sn)])), (aB, .inl (g.2.1, 20, .inl (fun j => nI (cond (ccrOK nE fB fW fi ib xe xb) (wgS (ix xe) (cond xb 1 0) (cond xb 0 1) fB fW fi).1 fB j)))), (aW, .inl (g.2.2.1, 20, .inr (.inl (fun j => lN (cond (ccrOK nE fB fW fi ib xe xb) (wgS (ix xe) (cond xb 1 0) (cond xb 0 1) fB fW fi).2.1 fW j))))), (aK, .inl (g.2.1, 6, .inl (cond (ccrOK nE fB fW fi ib xe xb) (upd fK (ix xe) (zI xb)) fK)))]) (va_A [(oM, .inr (10, [.ref oP, .ref oH, .ref oT, .ref oK, .ref oR, .ref oD, .ref aT, .int (nI tC), .int (nI tK), .int iK, .int (nI kR), .int (nI bD)])), (oH, .inr (6, [.ref aH, .int (nI nE), .int (nI nB), .int (nI nTb), .int (nI nTr), .int (nI nFa)])), (oT, .inr (8, [.ref aB, .ref aW, .ref aS, .ref aU, .ref aK, .int (nI fi), .int (nI ib), .int (nI sn)])), (aB, .inl (g.2.1, 20, .inl (fun j => nI (fB j)))), (aW, .inl (g.2.2.1, 20, .inr (.inl (fun j => lN (fW j))))), (aK, .inl (g.2.1, 6, .inl fK))] sz)) 0 0 (va_A [(oM, .inr (10, [.ref oP, .ref oH, .ref oT, .ref oK, .ref oR, .ref oD, .ref aT, .int (nI tC), .int (nI tK), .int iK, .int (nI kR), .int (nI bD)])), (oH, .inr (6, [.ref aH, .int (nI nE), .int (nI nB), .int (nI nTb), .int (nI nTr), .int (nI nFa)])), (oT, .inr (8, [.ref aB, .ref aW, .ref aS, .ref aU, .ref aK, .int (nI fi), .int (nI ib), .int (nI sn)])), (aB, .inl (g.2.1, 20, .inl (fun j => nI (fB j)))), (aW, .inl (g.2.2.1, 20, .inr (.inl (fun j => lN (fW j))))), (aK, .inl (g.2.1, 6, .inl fK))] sz) := by
  refine metM (Qf := fun A => (qMi g (fun r (_ : Unit) => r = crR nE (ccrOK nE fB fW fi ib xe xb) ib xe) (fun (_ : Unit) => [(oM, .inr (10, [.ref oP, .ref oH, .ref oT, .ref oK, .ref oR, .ref oD, .ref aT, .int (nI tC), .int (nI tK), .int iK, .int (nI kR), .int (nI bD)])), (oH, .inr (6, [.ref aH, .int (nI nE), .int (nI nB), .int (nI nTb), .int (nI nTr), .int (nI nFa)])), (oT, .inr (8, [.ref aB, .ref aW, .ref aS, .ref aU, .ref aK, .int (nI (cond (ccrOK nE fB fW fi ib xe xb) (wgS (ix xe) (cond xb 1 0) (cond xb 0 1) fB fW fi).2.2 fi)), .int (nI (cond (ccrOK nE fB fW fi ib xe xb) (andn ib (2 ^ ix xe)) ib)), .int (nI sn)])), (aB, .inl (g.2.1, 20, .inl (fun j => nI (cond (ccrOK nE fB fW fi ib xe xb) (wgS (ix xe) (cond xb 1 0) (cond xb 0 1) fB fW fi).1 fB j)))), (aW, .inl (g.2.2.1, 20, .inr (.inl (fun j => lN (cond (ccrOK nE fB fW fi ib xe xb) (wgS (ix xe) (cond xb 1 0) (cond xb 0 1) fB fW fi).2.1 fW j))))), (aK, .inl (g.2.1, 6, .inl (cond (ccrOK nE fB fW fi ib xe xb) (upd fK (ix xe) (zI xb)) fK)))]) A)) (cc := cX10_crack) (maxL := 3) (ret := (some .int)) (by decide) rfl (Nat.le_of_ble_eq_true rfl) ?_
  intro p e s m below meth c hx hb hr hts hown hlocks hml hin0 hC A hA hP hD hS ls hl
  have hl : lv_has ls 3 [(0, .ref oM), (1, .int xe), (2, .int (zI xb))] := hl
  have hown : s.vm.findClass RX10 = some m.cls := hown
  have hts : ∀ w ∈ wsX10_crack, w.before ([.ref oM, .int xe, .int (zI xb)] : List Value).toArray s = true := hts
  have hinX10 := (by decide +kernel : ∀ w ∈ u_ws RX10 TX10 12, w ∈ wsX10_crack)
  have f26 := hts (.fieldLink RX10 26 "BoiledEggs" "told" "LBoiledEggs$Told;") (by decide +kernel)
  refine lv_aload_n hx hb dX10_crack_0 rfl (lv_at hl 0 rfl) ?_
  refine lv_iload_n hx hb dX10_crack_1 rfl (lv_at hl 1 rfl) ?_
  refine goSi (T := zI (isE nE xe)) (va_runV (As := [.int xe]) (rest := []) ⟨hx, hb, hml, hown, hts⟩ (k_X10_isEgg l g oM oP oH oT oK oR oD aT tC tK iK kR bD aH nE nB nTb nTr nFa xe (by first | assumption | exact Nat.zero_le _ | omega)) (cwV 1 hts gX10_crack_X10_isEgg rfl rfl rfl ⟨rfl, hdX10_isEgg⟩ ⟨Nat.le_of_ble_eq_true rfl, Nat.le_of_ble_eq_true rfl⟩) (preVS hC (hP.sub [0, 1] rfl) (va_recv hC.1 hP (ci := 10) (q0 := 0) rfl rfl)) rfl rfl hl.1 rfl (lv_room (Nat.le_of_ble_eq_true rfl)) dX10_crack_2 ⟨Nat.le_of_ble_eq_true rfl, Nat.le_of_ble_eq_true rfl⟩) ?_
  refine lv_if_ne (tgt := 11) hx hb dX10_crack_5 (by decide) (fun c5 => ?_) (fun c5 => ?_)
  ·have c5 := zI_t.mp c5
   obtain ⟨k, hk, rfl⟩ := isE_t c5
   have hx9 : ix (nI k) = k := ix_nI (by omega)
   have h2k := p2lt (show k < 6 by omega)
   have hal := andn_le ib (2 ^ k)
   refine lv_aload_n hx hb dX10_crack_11 rfl (lv_at hl 0 rfl) ?_
   refine va_get (D := g.1) (ci := 10) (v := .ref oT) (C := RX10) (T := TX10) (N := 12) hx hb hts hinX10 hown hC.1 hP 0 rfl rfl 2 (by decide) f26 (fun _ h9 => h9) rfl dX10_crack_12 ?_
   refine lv_iload_n hx hb dX10_crack_15 rfl (lv_at hl 1 rfl) ?_
   refine goSi (T := zI (ib.testBit k)) (va_runV (As := [.int (nI k)]) (rest := []) ⟨hx, hb, hml, hown, hts⟩ (k_X8_isInBox l g oT aB aW aS aU aK fi ib sn k (by first | assumption | exact Nat.zero_le _ | omega) (by first | assumption | exact Nat.zero_le _ | omega)) (cwV 1 hts gX10_crack_X8_isInBox rfl rfl rfl ⟨rfl, hdX8_isInBox⟩ ⟨Nat.le_of_ble_eq_true rfl, Nat.le_of_ble_eq_true rfl⟩) (preVS hC (hP.sub [2] rfl) (va_recv hC.1 hP (ci := 8) (q0 := 2) rfl rfl)) rfl rfl hl.1 rfl (lv_room (Nat.le_of_ble_eq_true rfl)) dX10_crack_16 ⟨Nat.le_of_ble_eq_true rfl, Nat.le_of_ble_eq_true rfl⟩) ?_
   refine lv_if_eq (tgt := 34) hx hb dX10_crack_19 (by decide) (fun c19 => ?_) (fun c19 => ?_)
   ·have c19 := zI_f.mp c19
    refine lv_bipush (v := (-103)) hx hb dX10_crack_34 (by decide) ?_
    exact retMi (w := [(oM, .inr (10, [.ref oP, .ref oH, .ref oT, .ref oK, .ref oR, .ref oD, .ref aT, .int (nI tC), .int (nI tK), .int iK, .int (nI kR), .int (nI bD)])), (oH, .inr (6, [.ref aH, .int (nI nE), .int (nI nB), .int (nI nTb), .int (nI nTr), .int (nI nFa)])), (oT, .inr (8, [.ref aB, .ref aW, .ref aS, .ref aU, .ref aK, .int (nI fi), .int (nI ib), .int (nI sn)])), (aB, .inl (g.2.1, 20, .inl (fun j => nI (fB j)))), (aW, .inl (g.2.2.1, 20, .inr (.inl (fun j => lN (fW j))))), (aK, .inl (g.2.1, 6, .inl fK))]) hx hb hr hlocks (hP.sub [0, 1, 2, 3, 4, 5] rfl) (hD.sub [0, 1, 2, 3, 4, 5] (by decide) rfl) hS () (by rw [show (ccrOK nE fB fW fi ib (nI k) xb) = false by simp [ccrOK, hx9, c19]] <;> rfl) (by rw [crR, if_pos c5, if_neg (by simp [ccrOK, hx9, c19])]) dX10_crack_36
   ·have c19 := zI_t.mp c19
    refine lv_aload_n hx hb dX10_crack_22 rfl (lv_at hl 0 rfl) ?_
    refine va_get (D := g.1) (ci := 10) (v := .ref oT) (C := RX10) (T := TX10) (N := 12) hx hb hts hinX10 hown hC.1 hP 0 rfl rfl 2 (by decide) f26 (fun _ h9 => h9) rfl dX10_crack_23 ?_
    refine lv_iload_n hx hb dX10_crack_26 rfl (lv_at hl 1 rfl) ?_
    refine lv_iload_n hx hb dX10_crack_27 rfl (lv_at hl 2 rfl) ?_
    refine goSi (T := zI (cbS fB fW k fi (cond xb 1 0) (cond xb 0 1))) (va_runV (As := [.int (nI k), .int (zI xb)]) (rest := []) ⟨hx, hb, hml, hown, hts⟩ (k_X8_canBeSure l g oT aB aW aS aU aK fi ib sn fB fW k xb (by first | assumption | exact Nat.zero_le _ | omega) (by first | assumption | exact Nat.zero_le _ | omega) (by first | assumption | exact Nat.zero_le _ | omega) (by first | assumption | exact Nat.zero_le _ | omega)) (cwV 2 hts gX10_crack_X8_canBeSure rfl rfl rfl ⟨rfl, hdX8_canBeSure⟩ ⟨Nat.le_of_ble_eq_true rfl, Nat.le_of_ble_eq_true rfl⟩) (preVS hC (hP.sub [2, 3, 4] rfl) (va_recv hC.1 hP (ci := 8) (q0 := 2) rfl rfl)) rfl rfl hl.1 rfl (lv_room (Nat.le_of_ble_eq_true rfl)) dX10_crack_28 ⟨Nat.le_of_ble_eq_true rfl, Nat.le_of_ble_eq_true rfl⟩) ?_
    refine lv_if_ne (tgt := 37) hx hb dX10_crack_31 (by decide) (fun c31 => ?_) (fun c31 => ?_)
    ·have c31 := zI_t.mp c31
     have hkb : kbS fB fW fi (nI k) xb = true := by rw [kbS, hx9]; exact c31
     refine lv_aload_n hx hb dX10_crack_37 rfl (lv_at hl 0 rfl) ?_
     refine va_get (D := g.1) (ci := 10) (v := .ref oT) (C := RX10) (T := TX10) (N := 12) hx hb hts hinX10 hown hC.1 hP 0 rfl rfl 2 (by decide) f26 (fun _ h9 => h9) rfl dX10_crack_38 ?_
     refine lv_iload_n hx hb dX10_crack_41 rfl (lv_at hl 1 rfl) ?_
     refine lv_iload_n hx hb dX10_crack_42 rfl (lv_at hl 2 rfl) ?_
     refine goMv (S := Unit) (wr := [(oM, .inr (10, [.ref oP, .ref oH, .ref oT, .ref oK, .ref oR, .ref oD, .ref aT, .int (nI tC), .int (nI tK), .int iK, .int (nI kR), .int (nI bD)])), (oH, .inr (6, [.ref aH, .int (nI nE), .int (nI nB), .int (nI nTb), .int (nI nTr), .int (nI nFa)]))]) (va_runV (As := [.int (nI k), .int (zI xb)]) (rest := []) ⟨hx, hb, hml, hown, hts⟩ (k_X8_makeSure l g _ oT aB aW aS aU aK fi ib sn fB fW fK k xb (by first | assumption | exact Nat.zero_le _ | omega) (by first | assumption | exact Nat.zero_le _ | omega) (by first | assumption | exact Nat.zero_le _ | omega) (by first | assumption | exact Nat.zero_le _ | omega)) (cwV 2 hts gX10_crack_X8_makeSure rfl rfl rfl ⟨rfl, hdX8_makeSure⟩ ⟨Nat.le_of_ble_eq_true rfl, Nat.le_of_ble_eq_true rfl⟩) (preVM hC (hP.sub [2, 3, 4, 5] rfl) (hD.sub [2, 3, 4, 5] (by decide) rfl) (va_recv hC.1 hP (ci := 8) (q0 := 2) rfl rfl)) rfl rfl hl.1 rfl (lv_room (Nat.le_of_ble_eq_true rfl)) dX10_crack_43 ⟨Nat.le_of_ble_eq_true rfl, Nat.le_of_ble_eq_true rfl⟩) hP hD hS hA [2, 3, 4, 5] [0, 1] rfl rfl (by decide) (by decide) (fun _ H locs hw_9 hP hD hS => ?_)
     have hP : va_P g.1 vwCl [(oM, .inr (10, [.ref oP, .ref oH, .ref oT, .ref oK, .ref oR, .ref oD, .ref aT, .int (nI tC), .int (nI tK), .int iK, .int (nI kR), .int (nI bD)])), (oH, .inr (6, [.ref aH, .int (nI nE), .int (nI nB), .int (nI nTb), .int (nI nTr), .int (nI nFa)])), (oT, .inr (8, [.ref aB, .ref aW, .ref aS, .ref aU, .ref aK, .int (nI ((wgS k (cond xb 1 0) (cond xb 0 1) fB fW fi).2.2)), .int (nI ib), .int (nI sn)])), (aB, .inl (g.2.1, 20, .inl (fun j => nI ((wgS k (cond xb 1 0) (cond xb 0 1) fB fW fi).1 j)))), (aW, .inl (g.2.2.1, 20, .inr (.inl (fun j => lN ((wgS k (cond xb 1 0) (cond xb 0 1) fB fW fi).2.1 j))))), (aK, .inl (g.2.1, 6, .inl (upd fK k (zI xb))))] H := hP
     have hD : va_D A [(oM, .inr (10, [.ref oP, .ref oH, .ref oT, .ref oK, .ref oR, .ref oD, .ref aT, .int (nI tC), .int (nI tK), .int iK, .int (nI kR), .int (nI bD)])), (oH, .inr (6, [.ref aH, .int (nI nE), .int (nI nB), .int (nI nTb), .int (nI nTr), .int (nI nFa)])), (oT, .inr (8, [.ref aB, .ref aW, .ref aS, .ref aU, .ref aK, .int (nI ((wgS k (cond xb 1 0) (cond xb 0 1) fB fW fi).2.2)), .int (nI ib), .int (nI sn)])), (aB, .inl (g.2.1, 20, .inl (fun j => nI ((wgS k (cond xb 1 0) (cond xb 0 1) fB fW fi).1 j)))), (aW, .inl (g.2.2.1, 20, .inr (.inl (fun j => lN ((wgS k (cond xb 1 0) (cond xb 0 1) fB fW fi).2.1 j))))), (aK, .inl (g.2.1, 6, .inl (upd fK k (zI xb))))] := hD
     refine lv_aload_n hx hb dX10_crack_46 rfl (lv_at hl 0 rfl) ?_
     refine va_get (D := g.1) (ci := 10) (v := .ref oT) (C := RX10) (T := TX10) (N := 12) hx hb hts hinX10 hown hC.1 hP 0 rfl rfl 2 (by decide) f26 (fun _ h9 => h9) rfl dX10_crack_47 ?_
     refine lv_iload_n hx hb dX10_crack_50 rfl (lv_at hl 1 rfl) ?_
     refine goMv (S := Unit) (wr := [(oM, .inr (10, [.ref oP, .ref oH, .ref oT, .ref oK, .ref oR, .ref oD, .ref aT, .int (nI tC), .int (nI tK), .int iK, .int (nI kR), .int (nI bD)])), (oH, .inr (6, [.ref aH, .int (nI nE), .int (nI nB), .int (nI nTb), .int (nI nTr), .int (nI nFa)])), (aB, .inl (g.2.1, 20, .inl (fun j => nI ((wgS k (cond xb 1 0) (cond xb 0 1) fB fW fi).1 j)))), (aW, .inl (g.2.2.1, 20, .inr (.inl (fun j => lN ((wgS k (cond xb 1 0) (cond xb 0 1) fB fW fi).2.1 j))))), (aK, .inl (g.2.1, 6, .inl (upd fK k (zI xb))))]) (va_runV (As := [.int (nI k)]) (rest := []) ⟨hx, hb, hml, hown, hts⟩ (k_X8_takeOut l g _ oT aB aW aS aU aK ((wgS k (cond xb 1 0) (cond xb 0 1) fB fW fi).2.2) ib sn k (by first | assumption | exact Nat.zero_le _ | omega) (by first | assumption | exact Nat.zero_le _ | omega)) (cwV 1 hts gX10_crack_X8_takeOut rfl rfl rfl ⟨rfl, hdX8_takeOut⟩ ⟨Nat.le_of_ble_eq_true rfl, Nat.le_of_ble_eq_true rfl⟩) (preVM hC (hP.sub [2] rfl) (hD.sub [2] (by decide) rfl) (va_recv hC.1 hP (ci := 8) (q0 := 2) rfl rfl)) rfl rfl hl.1 rfl (lv_room (Nat.le_of_ble_eq_true rfl)) dX10_crack_51 ⟨Nat.le_of_ble_eq_true rfl, Nat.le_of_ble_eq_true rfl⟩) hP hD hS hA [2] [0, 1, 3, 4, 5] rfl rfl (by decide) (by decide) (fun _ H locs hw_9 hP hD hS => ?_)
     have hP : va_P g.1 vwCl [(oM, .inr (10, [.ref oP, .ref oH, .ref oT, .ref oK, .ref oR, .ref oD, .ref aT, .int (nI tC), .int (nI tK), .int iK, .int (nI kR), .int (nI bD)])), (oH, .inr (6, [.ref aH, .int (nI nE), .int (nI nB), .int (nI nTb), .int (nI nTr), .int (nI nFa)])), (aB, .inl (g.2.1, 20, .inl (fun j => nI ((wgS k (cond xb 1 0) (cond xb 0 1) fB fW fi).1 j)))), (aW, .inl (g.2.2.1, 20, .inr (.inl (fun j => lN ((wgS k (cond xb 1 0) (cond xb 0 1) fB fW fi).2.1 j))))), (aK, .inl (g.2.1, 6, .inl (upd fK k (zI xb)))), (oT, .inr (8, [.ref aB, .ref aW, .ref aS, .ref aU, .ref aK, .int (nI ((wgS k (cond xb 1 0) (cond xb 0 1) fB fW fi).2.2)), .int (nI (andn ib (2 ^ k))), .int (nI sn)]))] H := hP
     have hD : va_D A [(oM, .inr (10, [.ref oP, .ref oH, .ref oT, .ref oK, .ref oR, .ref oD, .ref aT, .int (nI tC), .int (nI tK), .int iK, .int (nI kR), .int (nI bD)])), (oH, .inr (6, [.ref aH, .int (nI nE), .int (nI nB), .int (nI nTb), .int (nI nTr), .int (nI nFa)])), (aB, .inl (g.2.1, 20, .inl (fun j => nI ((wgS k (cond xb 1 0) (cond xb 0 1) fB fW fi).1 j)))), (aW, .inl (g.2.2.1, 20, .inr (.inl (fun j => lN ((wgS k (cond xb 1 0) (cond xb 0 1) fB fW fi).2.1 j))))), (aK, .inl (g.2.1, 6, .inl (upd fK k (zI xb)))), (oT, .inr (8, [.ref aB, .ref aW, .ref aS, .ref aU, .ref aK, .int (nI ((wgS k (cond xb 1 0) (cond xb 0 1) fB fW fi).2.2)), .int (nI (andn ib (2 ^ k))), .int (nI sn)]))] := hD
     refine lv_aload_n hx hb dX10_crack_54 rfl (lv_at hl 0 rfl) ?_
     refine va_get (D := g.1) (ci := 10) (v := .ref oT) (C := RX10) (T := TX10) (N := 12) hx hb hts hinX10 hown hC.1 hP 0 rfl rfl 2 (by decide) f26 (fun _ h9 => h9) rfl dX10_crack_55 ?_
     refine goSi (T := nI (popS (andn ib (2 ^ k)) 6)) (va_runV (As := []) (rest := []) ⟨hx, hb, hml, hown, hts⟩ (k_X8_howManyInBox l g oT aB aW aS aU aK ((wgS k (cond xb 1 0) (cond xb 0 1) fB fW fi).2.2) (andn ib (2 ^ k)) sn (by first | assumption | exact Nat.zero_le _ | omega)) (cwV 0 hts gX10_crack_X8_howManyInBox rfl rfl rfl ⟨rfl, hdX8_howManyInBox⟩ ⟨Nat.le_of_ble_eq_true rfl, Nat.le_of_ble_eq_true rfl⟩) (preVS hC (hP.sub [5] rfl) (va_recv hC.1 hP (ci := 8) (q0 := 5) rfl rfl)) rfl rfl hl.1 rfl (lv_room (Nat.le_of_ble_eq_true rfl)) dX10_crack_58 ⟨Nat.le_of_ble_eq_true rfl, Nat.le_of_ble_eq_true rfl⟩) ?_
     exact retMi (w := [(oM, .inr (10, [.ref oP, .ref oH, .ref oT, .ref oK, .ref oR, .ref oD, .ref aT, .int (nI tC), .int (nI tK), .int iK, .int (nI kR), .int (nI bD)])), (oH, .inr (6, [.ref aH, .int (nI nE), .int (nI nB), .int (nI nTb), .int (nI nTr), .int (nI nFa)])), (oT, .inr (8, [.ref aB, .ref aW, .ref aS, .ref aU, .ref aK, .int (nI ((wgS k (cond xb 1 0) (cond xb 0 1) fB fW fi).2.2)), .int (nI (andn ib (2 ^ k))), .int (nI sn)])), (aB, .inl (g.2.1, 20, .inl (fun j => nI ((wgS k (cond xb 1 0) (cond xb 0 1) fB fW fi).1 j)))), (aW, .inl (g.2.2.1, 20, .inr (.inl (fun j => lN ((wgS k (cond xb 1 0) (cond xb 0 1) fB fW fi).2.1 j))))), (aK, .inl (g.2.1, 6, .inl (upd fK k (zI xb))))]) hx hb hr hlocks (hP.sub [0, 1, 5, 2, 3, 4] rfl) (hD.sub [0, 1, 5, 2, 3, 4] (by decide) rfl) hS () (by rw [show (ccrOK nE fB fW fi ib (nI k) xb) = true by simp [ccrOK, hx9, c5, c19, hkb], hx9] <;> rfl) (by rw [crR, if_pos c5, if_pos (by simp [ccrOK, hx9, c5, c19, hkb]), hx9]) dX10_crack_61
    ·have c31 := zI_f.mp c31
     have hkb : kbS fB fW fi (nI k) xb = false := by rw [kbS, hx9]; exact c31
     refine lv_bipush (v := (-103)) hx hb dX10_crack_34 (by decide) ?_
     exact retMi (w := [(oM, .inr (10, [.ref oP, .ref oH, .ref oT, .ref oK, .ref oR, .ref oD, .ref aT, .int (nI tC), .int (nI tK), .int iK, .int (nI kR), .int (nI bD)])), (oH, .inr (6, [.ref aH, .int (nI nE), .int (nI nB), .int (nI nTb), .int (nI nTr), .int (nI nFa)])), (oT, .inr (8, [.ref aB, .ref aW, .ref aS, .ref aU, .ref aK, .int (nI fi), .int (nI ib), .int (nI sn)])), (aB, .inl (g.2.1, 20, .inl (fun j => nI (fB j)))), (aW, .inl (g.2.2.1, 20, .inr (.inl (fun j => lN (fW j))))), (aK, .inl (g.2.1, 6, .inl fK))]) hx hb hr hlocks (hP.sub [0, 1, 2, 3, 4, 5] rfl) (hD.sub [0, 1, 2, 3, 4, 5] (by decide) rfl) hS () (by rw [show (ccrOK nE fB fW fi ib (nI k) xb) = false by simp [ccrOK, hx9, hkb]] <;> rfl) (by rw [crR, if_pos c5, if_neg (by simp [ccrOK, hx9, hkb])]) dX10_crack_36
  ·have c5 := zI_f.mp c5
   refine lv_bipush (v := (-101)) hx hb dX10_crack_8 (by decide) ?_
   exact retMi (w := [(oM, .inr (10, [.ref oP, .ref oH, .ref oT, .ref oK, .ref oR, .ref oD, .ref aT, .int (nI tC), .int (nI tK), .int iK, .int (nI kR), .int (nI bD)])), (oH, .inr (6, [.ref aH, .int (nI nE), .int (nI nB), .int (nI nTb), .int (nI nTr), .int (nI nFa)])), (oT, .inr (8, [.ref aB, .ref aW, .ref aS, .ref aU, .ref aK, .int (nI fi), .int (nI ib), .int (nI sn)])), (aB, .inl (g.2.1, 20, .inl (fun j => nI (fB j)))), (aW, .inl (g.2.2.1, 20, .inr (.inl (fun j => lN (fW j))))), (aK, .inl (g.2.1, 6, .inl fK))]) hx hb hr hlocks (hP.sub [0, 1, 2, 3, 4, 5] rfl) (hD.sub [0, 1, 2, 3, 4, 5] (by decide) rfl) hS () (by rw [show (ccrOK nE fB fW fi ib xe xb) = false by rw [ccrOK, c5]; rfl] <;> rfl) (by rw [crR, if_neg (by rw [c5]; decide)]) dX10_crack_10

set_option maxHeartbeats 4000000 in
set_option maxRecDepth 100000 in
/-- BoiledEggs.likely  -/
theorem k_X10_likely (l : Launch) (g : GG) (oM : Nat) (oP : Nat) (oH : Nat) (oT : Nat) (oK : Nat) (oR : Nat) (oD : Nat) (aT : Nat) (tC : Nat) (tK : Nat) (iK : Int32) (kR : Nat) (bD : Nat) (aH : Nat) (nE : Nat) (nB : Nat) (nTb : Nat) (nTr : Nat) (nFa : Nat) (aB : Nat) (aW : Nat) (aS : Nat) (aU : Nat) (aK : Nat) (fi : Nat) (ib : Nat) (sn : Nat) (fB : Nat → Nat) (fW : Nat → Nat) (xe : Int32) (xp : Int32) (hE : nE ≤ 6) (hf0 : fi ≤ 20) (hB : ∀ j, fB j < 64) (ha0 : smN fW fi < 2 ^ 42) (hp : 0 < nE → 0 < smN fW fi) : Met l yX10_likely wsX10_likely ({ frames := 2, cells := 0, slots := 0, locals := 58 }) (pS g [.ref oM, .int xe, .int xp] [(oM, .inr (10, [.ref oP, .ref oH, .ref oT, .ref oK, .ref oR, .ref oD, .ref aT, .int (nI tC), .int (nI tK), .int iK, .int (nI kR), .int (nI bD)])), (oH, .inr (6, [.ref aH, .int (nI nE), .int (nI nB), .int (nI nTb), .int (nI nTr), .int (nI nFa)])), (oT, .inr (8, [.ref aB, .ref aW, .ref aS, .ref aU, .ref aK, .int (nI fi), .int (nI ib), .int (nI sn)])), (aB, .inl (g.2.1, 20, .inl (fun j => nI (fB j)))), (aW, .inl (g.2.2.1, 20, .inr (.inl (fun j => lN (fW j)))))]) (vp_Sl (fun r => r = (clkR nE fB fW fi xe xp))) 0 0 noF := by
  refine metS (cc := cX10_likely) (maxL := 3) (ret := (some .long)) (by decide) rfl (Nat.le_of_ble_eq_true rfl) ?_
  intro p e s m below meth c hx hb hr hts hown hlocks hml hC hP ls hl
  have hl : lv_has ls 3 [(0, .ref oM), (1, .int xe), (2, .int xp)] := hl
  have hown : s.vm.findClass RX10 = some m.cls := hown
  have hts : ∀ w ∈ wsX10_likely, w.before ([.ref oM, .int xe, .int xp] : List Value).toArray s = true := hts
  have hinX10 := (by decide +kernel : ∀ w ∈ u_ws RX10 TX10 12, w ∈ wsX10_likely)
  have f26 := hts (.fieldLink RX10 26 "BoiledEggs" "told" "LBoiledEggs$Told;") (by decide +kernel)
  have k154 := hts (.constantLong RX10 154 (-102)) (by decide +kernel)
  have k149 := hts (.constantLong RX10 149 (-101)) (by decide +kernel)
  refine lv_aload_n hx hb dX10_likely_0 rfl (lv_at hl 0 rfl) ?_
  refine lv_iload_n hx hb dX10_likely_1 rfl (lv_at hl 1 rfl) ?_
  refine goSi (T := zI (isE nE xe)) (va_runV (As := [.int xe]) (rest := []) ⟨hx, hb, hml, hown, hts⟩ (k_X10_isEgg l g oM oP oH oT oK oR oD aT tC tK iK kR bD aH nE nB nTb nTr nFa xe (by first | assumption | exact Nat.zero_le _ | omega)) (cwV 1 hts gX10_likely_X10_isEgg rfl rfl rfl ⟨rfl, hdX10_isEgg⟩ ⟨Nat.le_of_ble_eq_true rfl, Nat.le_of_ble_eq_true rfl⟩) (preVS hC (hP.sub [0, 1] rfl) (va_recv hC.1 hP (ci := 10) (q0 := 0) rfl rfl)) rfl rfl hl.1 rfl (lv_room (Nat.le_of_ble_eq_true rfl)) dX10_likely_2 ⟨Nat.le_of_ble_eq_true rfl, Nat.le_of_ble_eq_true rfl⟩) ?_
  refine lv_if_ne (tgt := 12) hx hb dX10_likely_5 (by decide) (fun c5 => ?_) (fun c5 => ?_)
  ·have c5 := zI_t.mp c5
   obtain ⟨k, hk, rfl⟩ := isE_t c5
   have hx9 : ix (nI k) = k := ix_nI (by omega)
   have hle := smB_le fB fW k fi
   have hpp := hp (by omega)
   refine lv_iload_n hx hb dX10_likely_12 rfl (lv_at hl 2 rfl) ?_
   refine goSi (T := zI (wth xp (nI 0) (nI 1))) (va_runS (As := [.int xp]) (rest := []) ⟨hx, hb, hml, hown, hts⟩ (k_X10_isPart l g xp ) (va_cwS 1 hts gX10_likely_X10_isPart rfl rfl rfl hdX10_isPart ⟨Nat.le_of_ble_eq_true rfl, Nat.le_of_ble_eq_true rfl⟩) (preSS hC (hP.sub [] rfl)) rfl rfl hl.1 rfl (lv_room (Nat.le_of_ble_eq_true rfl)) dX10_likely_13 ⟨Nat.le_of_ble_eq_true rfl, Nat.le_of_ble_eq_true rfl⟩) ?_
   refine lv_if_ne (tgt := 23) hx hb dX10_likely_16 (by decide) (fun c16 => ?_) (fun c16 => ?_)
   ·have c16 := zI_t.mp c16
    refine lv_aload_n hx hb dX10_likely_23 rfl (lv_at hl 0 rfl) ?_
    refine va_get (D := g.1) (ci := 10) (v := .ref oT) (C := RX10) (T := TX10) (N := 12) hx hb hts hinX10 hown hC.1 hP 0 rfl rfl 2 (by decide) f26 (fun _ h9 => h9) rfl dX10_likely_24 ?_
    refine lv_iload_n hx hb dX10_likely_27 rfl (lv_at hl 1 rfl) ?_
    refine goSl (T := lN (smB fB fW k fi)) (va_runV (As := [.int (nI k)]) (rest := []) ⟨hx, hb, hml, hown, hts⟩ (k_X8_boiledWeight l g oT aB aW aS aU aK fi ib sn fB fW k (by first | assumption | exact Nat.zero_le _ | omega) (by first | assumption | exact Nat.zero_le _ | omega) (by first | assumption | exact Nat.zero_le _ | omega)) (cwV 1 hts gX10_likely_X8_boiledWeight rfl rfl rfl ⟨rfl, hdX8_boiledWeight⟩ ⟨Nat.le_of_ble_eq_true rfl, Nat.le_of_ble_eq_true rfl⟩) (preVS hC (hP.sub [2, 3, 4] rfl) (va_recv hC.1 hP (ci := 8) (q0 := 2) rfl rfl)) rfl rfl hl.1 rfl (lv_room (Nat.le_of_ble_eq_true rfl)) dX10_likely_28 ⟨Nat.le_of_ble_eq_true rfl, Nat.le_of_ble_eq_true rfl⟩) ?_
    refine lv_aload_n hx hb dX10_likely_31 rfl (lv_at hl 0 rfl) ?_
    refine va_get (D := g.1) (ci := 10) (v := .ref oT) (C := RX10) (T := TX10) (N := 12) hx hb hts hinX10 hown hC.1 hP 0 rfl rfl 2 (by decide) f26 (fun _ h9 => h9) rfl dX10_likely_32 ?_
    refine goSl (T := lN (smN fW fi)) (va_runV (As := []) (rest := [.long (lN (smB fB fW k fi))]) ⟨hx, hb, hml, hown, hts⟩ (k_X8_allWeight l g oT aB aW aS aU aK fi ib sn fW (by first | assumption | exact Nat.zero_le _ | omega)) (cwV 0 hts gX10_likely_X8_allWeight rfl rfl rfl ⟨rfl, hdX8_allWeight⟩ ⟨Nat.le_of_ble_eq_true rfl, Nat.le_of_ble_eq_true rfl⟩) (preVS hC (hP.sub [2, 4] rfl) (va_recv hC.1 hP (ci := 8) (q0 := 2) rfl rfl)) rfl rfl hl.1 rfl (lv_room (Nat.le_of_ble_eq_true rfl)) dX10_likely_35 ⟨Nat.le_of_ble_eq_true rfl, Nat.le_of_ble_eq_true rfl⟩) ?_
    refine lv_iload_n hx hb dX10_likely_38 rfl (lv_at hl 2 rfl) ?_
    refine goSl (T := lN (low (smB fB fW k fi) (smN fW fi) xp)) (va_runS (As := [.long (lN (smB fB fW k fi)), .long (lN (smN fW fi)), .int xp]) (rest := []) ⟨hx, hb, hml, hown, hts⟩ (k_X10_inLowestTerms l g (smB fB fW k fi) (smN fW fi) xp (by first | assumption | exact Nat.zero_le _ | omega) (by first | assumption | exact Nat.zero_le _ | omega) (by first | assumption | exact Nat.zero_le _ | omega)) (va_cwS 3 hts gX10_likely_X10_inLowestTerms rfl rfl rfl hdX10_inLowestTerms ⟨Nat.le_of_ble_eq_true rfl, Nat.le_of_ble_eq_true rfl⟩) (preSS hC (hP.sub [] rfl)) rfl rfl hl.1 rfl (lv_room (Nat.le_of_ble_eq_true rfl)) dX10_likely_39 ⟨Nat.le_of_ble_eq_true rfl, Nat.le_of_ble_eq_true rfl⟩) ?_
    exact retSl hx hb hr hlocks (by rw [clkR, if_pos c5, if_pos c16, hx9]) dX10_likely_42
   ·have c16 := zI_f.mp c16
    refine lv_ldc2 hx hb hown k154 dX10_likely_19 ?_
    exact retSl hx hb hr hlocks (by rw [clkR, if_pos c5, if_neg (by rw [c16]; decide)]) dX10_likely_22
  ·have c5 := zI_f.mp c5
   refine lv_ldc2 hx hb hown k149 dX10_likely_8 ?_
   exact retSl hx hb hr hlocks (by rw [clkR, if_neg (by rw [c5]; decide)]) dX10_likely_11

set_option maxHeartbeats 4000000 in
set_option maxRecDepth 100000 in
/-- BoiledEggs.likeliest  -/
theorem k_X10_likeliest (l : Launch) (g : GG) (oM : Nat) (oP : Nat) (oH : Nat) (oT : Nat) (oK : Nat) (oR : Nat) (oD : Nat) (aT : Nat) (tC : Nat) (tK : Nat) (iK : Int32) (kR : Nat) (bD : Nat) (aH : Nat) (nE : Nat) (nB : Nat) (nTb : Nat) (nTr : Nat) (nFa : Nat) (aB : Nat) (aW : Nat) (aS : Nat) (aU : Nat) (aK : Nat) (fi : Nat) (ib : Nat) (sn : Nat) (fB : Nat → Nat) (fW : Nat → Nat) (hE : nE ≤ 6) (hf0 : fi ≤ 20) (hw0 : ∀ j, fW j < 2 ^ 63) : Met l yX10_likeliest wsX10_likeliest ({ frames := 1, cells := 0, slots := 0, locals := 22 }) (pS g [.ref oM] [(oM, .inr (10, [.ref oP, .ref oH, .ref oT, .ref oK, .ref oR, .ref oD, .ref aT, .int (nI tC), .int (nI tK), .int iK, .int (nI kR), .int (nI bD)])), (oH, .inr (6, [.ref aH, .int (nI nE), .int (nI nB), .int (nI nTb), .int (nI nTr), .int (nI nFa)])), (oT, .inr (8, [.ref aB, .ref aW, .ref aS, .ref aU, .ref aK, .int (nI fi), .int (nI ib), .int (nI sn)])), (aB, .inl (g.2.1, 20, .inl (fun j => nI (fB j)))), (aW, .inl (g.2.2.1, 20, .inr (.inl (fun j => lN (fW j)))))]) (vp_Si (fun r => r = (if nE = 0 then -103 else nI (fB (fo (hvF fW) 0 (fi - 1)))))) 0 0 noF := by
  refine metS (cc := cX10_likeliest) (maxL := 1) (ret := (some .int)) (by decide) rfl (Nat.le_of_ble_eq_true rfl) ?_
  intro p e s m below meth c hx hb hr hts hown hlocks hml hC hP ls hl
  have hl : lv_has ls 1 [(0, .ref oM)] := hl
  have hown : s.vm.findClass RX10 = some m.cls := hown
  have hts : ∀ w ∈ wsX10_likeliest, w.before ([.ref oM] : List Value).toArray s = true := hts
  have hinX10 := (by decide +kernel : ∀ w ∈ u_ws RX10 TX10 12, w ∈ wsX10_likeliest)
  have f26 := hts (.fieldLink RX10 26 "BoiledEggs" "told" "LBoiledEggs$Told;") (by decide +kernel)
  refine lv_aload_n hx hb dX10_likeliest_0 rfl (lv_at hl 0 rfl) ?_
  refine goSi (T := zI (decide (0 < nE))) (va_runV (As := []) (rest := []) ⟨hx, hb, hml, hown, hts⟩ (k_X10_hasKitchen l g oM oP oH oT oK oR oD aT tC tK iK kR bD aH nE nB nTb nTr nFa (by first | assumption | exact Nat.zero_le _ | omega)) (cwV 0 hts gX10_likeliest_X10_hasKitchen rfl rfl rfl ⟨rfl, hdX10_hasKitchen⟩ ⟨Nat.le_of_ble_eq_true rfl, Nat.le_of_ble_eq_true rfl⟩) (preVS hC (hP.sub [0, 1] rfl) (va_recv hC.1 hP (ci := 10) (q0 := 0) rfl rfl)) rfl rfl hl.1 rfl (lv_room (Nat.le_of_ble_eq_true rfl)) dX10_likeliest_1 ⟨Nat.le_of_ble_eq_true rfl, Nat.le_of_ble_eq_true rfl⟩) ?_
  refine lv_if_ne (tgt := 10) hx hb dX10_likeliest_4 (by decide) (fun c4 => ?_) (fun c4 => ?_)
  ·have c4 := zI_t.mp c4
   have h1 := of_decide_eq_true c4
   refine lv_aload_n hx hb dX10_likeliest_10 rfl (lv_at hl 0 rfl) ?_
   refine va_get (D := g.1) (ci := 10) (v := .ref oT) (C := RX10) (T := TX10) (N := 12) hx hb hts hinX10 hown hC.1 hP 0 rfl rfl 2 (by decide) f26 (fun _ h9 => h9) rfl dX10_likeliest_11 ?_
   refine goSi (T := nI (fB (fo (hvF fW) 0 (fi - 1)))) (va_runV (As := []) (rest := []) ⟨hx, hb, hml, hown, hts⟩ (k_X8_heaviestBox l g oT aB aW aS aU aK fi ib sn fB fW (by first | assumption | exact Nat.zero_le _ | omega) (by first | assumption | exact Nat.zero_le _ | omega)) (cwV 0 hts gX10_likeliest_X8_heaviestBox rfl rfl rfl ⟨rfl, hdX8_heaviestBox⟩ ⟨Nat.le_of_ble_eq_true rfl, Nat.le_of_ble_eq_true rfl⟩) (preVS hC (hP.sub [2, 3, 4] rfl) (va_recv hC.1 hP (ci := 8) (q0 := 2) rfl rfl)) rfl rfl hl.1 rfl (lv_room (Nat.le_of_ble_eq_true rfl)) dX10_likeliest_14 ⟨Nat.le_of_ble_eq_true rfl, Nat.le_of_ble_eq_true rfl⟩) ?_
   exact retSi hx hb hr hlocks (by rw [if_neg (by omega)]) dX10_likeliest_17
  ·have c4 := zI_f.mp c4
   have h1 := of_decide_eq_false c4
   refine lv_bipush (v := (-103)) hx hb dX10_likeliest_7 (by decide) ?_
   exact retSi hx hb hr hlocks (by rw [if_pos (by omega)]) dX10_likeliest_9

set_option maxHeartbeats 4000000 in
set_option maxRecDepth 100000 in
/-- BoiledEggs.turning  -/
theorem k_X10_turning (l : Launch) (g : GG) (oM : Nat) (oP : Nat) (oH : Nat) (oT : Nat) (oK : Nat) (oR : Nat) (oD : Nat) (aT : Nat) (tC : Nat) (tK : Nat) (iK : Int32) (kR : Nat) (bD : Nat) (aH : Nat) (nE : Nat) (nB : Nat) (nTb : Nat) (nTr : Nat) (nFa : Nat) (aB : Nat) (aW : Nat) (aS : Nat) (aU : Nat) (aK : Nat) (fi : Nat) (ib : Nat) (sn : Nat) (fB : Nat → Nat) (fW : Nat → Nat) (xe : Int32) (xt : Int32) (hE : nE ≤ 6) (hf0 : fi ≤ 20) (hB : ∀ j, fB j < 64) (ha0 : smN fW fi < 2 ^ 42) (htb : nTb ≤ 9) (htr : nTr ≤ 9) : Met l yX10_turning wsX10_turning ({ frames := 2, cells := 0, slots := 0, locals := 45 }) (pS g [.ref oM, .int xe, .int xt] [(oM, .inr (10, [.ref oP, .ref oH, .ref oT, .ref oK, .ref oR, .ref oD, .ref aT, .int (nI tC), .int (nI tK), .int iK, .int (nI kR), .int (nI bD)])), (oH, .inr (6, [.ref aH, .int (nI nE), .int (nI nB), .int (nI nTb), .int (nI nTr), .int (nI nFa)])), (oT, .inr (8, [.ref aB, .ref aW, .ref aS, .ref aU, .ref aK, .int (nI fi), .int (nI ib), .int (nI sn)])), (aB, .inl (g.2.1, 20, .inl (fun j => nI (fB j)))), (aW, .inl (g.2.2.1, 20, .inr (.inl (fun j => lN (fW j)))))]) (vp_Si (fun r => r = (ctR nE nTb nTr fB fW fi xe xt))) 0 0 noF := by
  refine metS (cc := cX10_turning) (maxL := 10) (ret := (some .int)) (by decide) rfl (Nat.le_of_ble_eq_true rfl) ?_
  intro p e s m below meth c hx hb hr hts hown hlocks hml hC hP ls hl
  have hl : lv_has ls 10 [(0, .ref oM), (1, .int xe), (2, .int xt)] := hl
  have hown : s.vm.findClass RX10 = some m.cls := hown
  have hts : ∀ w ∈ wsX10_turning, w.before ([.ref oM, .int xe, .int xt] : List Value).toArray s = true := hts
  have hinX10 := (by decide +kernel : ∀ w ∈ u_ws RX10 TX10 12, w ∈ wsX10_turning)
  have f26 := hts (.fieldLink RX10 26 "BoiledEggs" "told" "LBoiledEggs$Told;") (by decide +kernel)
  have f19 := hts (.fieldLink RX10 19 "BoiledEggs" "home" "LBoiledEggs$Kitchen;") (by decide +kernel)
  have hinX6 := (by decide +kernel : ∀ w ∈ u_ws RX6 TX6 6, w ∈ wsX10_turning)
  have f176 := va_Nw.use (A := ([.ref oM, .int xe, .int xt] : List Value).toArray) rfl (hC.2.1 (.fieldLinkNest RX10 176 "BoiledEggs$Kitchen" "turnsBoiled" "I" "BoiledEggs") (by decide +kernel))
  have f179 := va_Nw.use (A := ([.ref oM, .int xe, .int xt] : List Value).toArray) rfl (hC.2.1 (.fieldLinkNest RX10 179 "BoiledEggs$Kitchen" "turnsRaw" "I" "BoiledEggs") (by decide +kernel))
  have k174 := hts (.constantLong RX10 174 (10)) (by decide +kernel)
  refine lv_aload_n hx hb dX10_turning_0 rfl (lv_at hl 0 rfl) ?_
  refine lv_iload_n hx hb dX10_turning_1 rfl (lv_at hl 1 rfl) ?_
  refine goSi (T := zI (isE nE xe)) (va_runV (As := [.int xe]) (rest := []) ⟨hx, hb, hml, hown, hts⟩ (k_X10_isEgg l g oM oP oH oT oK oR oD aT tC tK iK kR bD aH nE nB nTb nTr nFa xe (by first | assumption | exact Nat.zero_le _ | omega)) (cwV 1 hts gX10_turning_X10_isEgg rfl rfl rfl ⟨rfl, hdX10_isEgg⟩ ⟨Nat.le_of_ble_eq_true rfl, Nat.le_of_ble_eq_true rfl⟩) (preVS hC (hP.sub [0, 1] rfl) (va_recv hC.1 hP (ci := 10) (q0 := 0) rfl rfl)) rfl rfl hl.1 rfl (lv_room (Nat.le_of_ble_eq_true rfl)) dX10_turning_2 ⟨Nat.le_of_ble_eq_true rfl, Nat.le_of_ble_eq_true rfl⟩) ?_
  refine lv_if_ne (tgt := 11) hx hb dX10_turning_5 (by decide) (fun c5 => ?_) (fun c5 => ?_)
  ·have c5 := zI_t.mp c5
   obtain ⟨k, hk, rfl⟩ := isE_t c5
   have hx9 : ix (nI k) = k := ix_nI (by omega)
   have hle := smB_le fB fW k fi
   refine lv_iload_n hx hb dX10_turning_11 rfl (lv_at hl 2 rfl) ?_
   refine lv_iconst (v := nI 1) hx hb dX10_turning_12 (by decide) ?_
   refine lv_icmp_lt (tgt := 22) hx hb dX10_turning_13 (by decide) (fun c13 => ?_) (fun c13 => ?_)
   ·have hz : wth xt (nI 1) (nI 9) = false := decide_eq_false (fun h9 => absurd h9.1 (Int32.not_le.mpr c13))
    refine lv_bipush (v := (-102)) hx hb dX10_turning_22 (by decide) ?_
    exact retSi hx hb hr hlocks (by rw [ctR, if_pos c5, if_neg (by rw [hz]; decide)]) dX10_turning_24
   ·refine lv_iload_n hx hb dX10_turning_16 rfl (lv_at hl 2 rfl) ?_
    refine lv_bipush (v := nI 10) hx hb dX10_turning_17 (by decide) ?_
    refine lv_icmp_lt (tgt := 25) hx hb dX10_turning_19 (by decide) (fun c19 => ?_) (fun c19 => ?_)
    ·have c18 : wth xt (nI 1) (nI 9) = true := by rw [wth_iff (by decide) (by decide)]; have h1 : ¬ xt.toInt < ((1 : Nat) : Int) := fun h => c13 ((x_lt (by decide)).mpr h); have h2 := (x_lt (by decide)).mp c19; exact decide_eq_true (by omega)
     obtain ⟨t, ht, rfl⟩ := wth_n c18
     have hxt : ix (nI t) = t := ix_nI (by omega)
     refine lv_aload_n hx hb dX10_turning_25 rfl (lv_at hl 0 rfl) ?_
     refine va_get (D := g.1) (ci := 10) (v := .ref oT) (C := RX10) (T := TX10) (N := 12) hx hb hts hinX10 hown hC.1 hP 0 rfl rfl 2 (by decide) f26 (fun _ h9 => h9) rfl dX10_turning_26 ?_
     refine lv_iload_n hx hb dX10_turning_29 rfl (lv_at hl 1 rfl) ?_
     refine goSl (T := lN (smB fB fW k fi)) (va_runV (As := [.int (nI k)]) (rest := []) ⟨hx, hb, hml, hown, hts⟩ (k_X8_boiledWeight l g oT aB aW aS aU aK fi ib sn fB fW k (by first | assumption | exact Nat.zero_le _ | omega) (by first | assumption | exact Nat.zero_le _ | omega) (by first | assumption | exact Nat.zero_le _ | omega)) (cwV 1 hts gX10_turning_X8_boiledWeight rfl rfl rfl ⟨rfl, hdX8_boiledWeight⟩ ⟨Nat.le_of_ble_eq_true rfl, Nat.le_of_ble_eq_true rfl⟩) (preVS hC (hP.sub [2, 3, 4] rfl) (va_recv hC.1 hP (ci := 8) (q0 := 2) rfl rfl)) rfl rfl hl.1 rfl (lv_room (Nat.le_of_ble_eq_true rfl)) dX10_turning_30 ⟨Nat.le_of_ble_eq_true rfl, Nat.le_of_ble_eq_true rfl⟩) ?_
     refine lv_lstore_n (lv' := [(3, .long (lN (smB fB fW k fi))), (0, .ref oM), (1, .int (nI k)), (2, .int (nI t))]) hx hb dX10_turning_33 rfl hl (by decide) rfl (fun ls hl => ?_)
     refine lv_aload_n hx hb dX10_turning_34 rfl (lv_at hl 1 rfl) ?_
     refine va_get (D := g.1) (ci := 10) (v := .ref oT) (C := RX10) (T := TX10) (N := 12) hx hb hts hinX10 hown hC.1 hP 0 rfl rfl 2 (by decide) f26 (fun _ h9 => h9) rfl dX10_turning_35 ?_
     refine goSl (T := lN (smN fW fi)) (va_runV (As := []) (rest := []) ⟨hx, hb, hml, hown, hts⟩ (k_X8_allWeight l g oT aB aW aS aU aK fi ib sn fW (by first | assumption | exact Nat.zero_le _ | omega)) (cwV 0 hts gX10_turning_X8_allWeight rfl rfl rfl ⟨rfl, hdX8_allWeight⟩ ⟨Nat.le_of_ble_eq_true rfl, Nat.le_of_ble_eq_true rfl⟩) (preVS hC (hP.sub [2, 4] rfl) (va_recv hC.1 hP (ci := 8) (q0 := 2) rfl rfl)) rfl rfl hl.1 rfl (lv_room (Nat.le_of_ble_eq_true rfl)) dX10_turning_38 ⟨Nat.le_of_ble_eq_true rfl, Nat.le_of_ble_eq_true rfl⟩) ?_
     refine lv_lload_n hx hb dX10_turning_41 rfl (lv_at hl 0 rfl) ?_
     refine lv_lsub hx hb dX10_turning_42 ?_
     refine top_l (y := lN (smN fW fi - smB fB fW k fi)) (lN_sub hle) ?_
     refine lv_lstore (lv' := [(5, .long (lN (smN fW fi - smB fB fW k fi))), (3, .long (lN (smB fB fW k fi))), (0, .ref oM), (1, .int (nI k)), (2, .int (nI t))]) hx hb dX10_turning_43 hl (by decide) rfl (fun ls hl => ?_)
     refine lv_iconst (v := nI 0) hx hb dX10_turning_45 (by decide) ?_
     refine lv_istore (lv' := [(7, .int (nI 0)), (5, .long (lN (smN fW fi - smB fB fW k fi))), (3, .long (lN (smB fB fW k fi))), (0, .ref oM), (1, .int (nI k)), (2, .int (nI t))]) hx hb dX10_turning_46 hl (by decide) rfl (fun ls hl => ?_)
     have hL48 : ∀ (n_9 : Nat) (i : Nat), 6 - i < n_9 → (i ≤ 6) → (trn (ctQ nTb nTr (smB fB fW k fi) (smN fW fi - smB fB fW k fi) t) (6 - i) i = trn (ctQ nTb nTr (smB fB fW k fi) (smN fW fi - smB fB fW k fi) t) 6 0) → ∀ ls : Array Slot, lv_has ls 10 [(0, .ref oM), (1, .int (nI k)), (2, .int (nI t)), (3, .long (lN ((smB fB fW k fi) * nTb ^ i))), (5, .long (lN ((smN fW fi - smB fB fW k fi) * nTr ^ i))), (7, .int (nI i))] → W p l e ({ frames := 2, cells := 0, slots := 0, locals := 45 }) s m ([.ref oM, .int (nI k), .int (nI t)] : List Value).toArray below meth c s.heap [] 0 0 (MQ below (vp_Si (fun r => r = (ctR nE nTb nTr fB fW fi (nI k) (nI t)))) ([.ref oM, .int (nI k), .int (nI t)] : List Value).toArray s 0 0 noF) (F0 m 48 ls []) := by
      intro n_9
      induction n_9 with
      | zero => intro i hn_9; exact absurd hn_9 (Nat.not_lt_zero _)
      | succ n_9 ih48 =>
       intro i hn_9 hi hf ls hl
       refine lv_iload hx hb dX10_turning_48 (lv_at hl 5 rfl) ?_
       refine lv_iconst (v := nI 5) hx hb dX10_turning_50 (by decide) ?_
       refine lv_icmp_gt (tgt := 114) hx hb dX10_turning_51 (by decide) (fun c51 => ?_) (fun c51 => ?_)
       ·have c51 : 5 < i := (nI_ltI (a := 5) (b := i) (by omega) (by omega)).mp c51
        refine lv_iconst (v := (-1)) hx hb dX10_turning_114 (by decide) ?_
        exact retSi hx hb hr hlocks (by rw [ctR, if_pos c5, if_pos c18, hx9, hxt, ← hf, trn_e (by omega)]) dX10_turning_115
       ·have c51 : ¬ 5 < i := fun h9 => c51 ((nI_ltI (a := 5) (b := i) (by omega) (by omega)).mpr h9)
        have p1 := pow9 htb (show i ≤ 5 by omega)
        have p2 := pow9 htr (show i ≤ 5 by omega)
        have m1 := Nat.mul_le_mul (show (smB fB fW k fi) ≤ 2 ^ 42 by omega) p1
        have m2 := Nat.mul_le_mul (show (smN fW fi - smB fB fW k fi) ≤ 2 ^ 42 by omega) p2
        have m3 := Nat.mul_le_mul (show (smB fB fW k fi) * nTb ^ i + (smN fW fi - smB fB fW k fi) * nTr ^ i ≤ 2 ^ 42 * 59049 + 2 ^ 42 * 59049 by omega) ht.2
        refine lv_lload_n hx hb dX10_turning_54 rfl (lv_at hl 3 rfl) ?_
        refine lv_lload hx hb dX10_turning_55 (lv_at hl 4 rfl) ?_
        refine lv_ladd hx hb dX10_turning_57 ?_
        refine top_l (y := lN (((smB fB fW k fi) * nTb ^ i) + ((smN fW fi - smB fB fW k fi) * nTr ^ i))) (lN_add _ _) ?_
        refine lv_lstore (lv' := [(8, .long (lN (((smB fB fW k fi) * nTb ^ i) + ((smN fW fi - smB fB fW k fi) * nTr ^ i)))), (0, .ref oM), (1, .int (nI k)), (2, .int (nI t)), (3, .long (lN ((smB fB fW k fi) * nTb ^ i))), (5, .long (lN ((smN fW fi - smB fB fW k fi) * nTr ^ i))), (7, .int (nI i))]) hx hb dX10_turning_58 hl (by decide) rfl (fun ls hl => ?_)
        refine lv_lload hx hb dX10_turning_60 (lv_at hl 0 rfl) ?_
        refine lv_lconst (v := lN 0) hx hb dX10_turning_62 (by decide) ?_
        refine lc_le (tgt := 84) hx hb dX10_turning_63 dX10_turning_64 (by decide) (fun c63 => ?_) (fun c63 => ?_)
        ·have c63 : (((smB fB fW k fi) * nTb ^ i) + ((smN fW fi - smB fB fW k fi) * nTr ^ i)) ≤ 0 := (pk_lLE (a := ((smB fB fW k fi) * nTb ^ i) + ((smN fW fi - smB fB fW k fi) * nTr ^ i)) (b := 0) (by omega) (by omega)).mp c63
         refine lv_lload_n hx hb dX10_turning_84 rfl (lv_at hl 4 rfl) ?_
         refine lv_aload_n hx hb dX10_turning_85 rfl (lv_at hl 1 rfl) ?_
         refine va_get (D := g.1) (ci := 10) (v := .ref oH) (C := RX10) (T := TX10) (N := 12) hx hb hts hinX10 hown hC.1 hP 0 rfl rfl 1 (by decide) f19 (fun _ h9 => h9) rfl dX10_turning_86 ?_
         refine va_getN (D := g.1) (ci := 6) (v := .int (nI nTb)) (C := RX6) (T := TX6) (N := 6) hx hb hts hinX6 hown hC.1 hP 1 rfl rfl 3 (by decide) f176 (fun _ h9 => h9) rfl dX10_turning_89 ?_
         refine lv_i2l (v := lN nTb) hx hb dX10_turning_92 (nI_l (by omega)) ?_
         refine lv_lmul hx hb dX10_turning_93 ?_
         refine top_l (y := lN ((smB fB fW k fi) * nTb ^ (i + 1))) (by rw [lN_mul, Nat.pow_succ, Nat.mul_assoc]) ?_
         refine lv_lstore_n (lv' := [(3, .long (lN ((smB fB fW k fi) * nTb ^ (i + 1)))), (8, .long (lN (((smB fB fW k fi) * nTb ^ i) + ((smN fW fi - smB fB fW k fi) * nTr ^ i)))), (0, .ref oM), (1, .int (nI k)), (2, .int (nI t)), (5, .long (lN ((smN fW fi - smB fB fW k fi) * nTr ^ i))), (7, .int (nI i))]) hx hb dX10_turning_94 rfl hl (by decide) rfl (fun ls hl => ?_)
         refine lv_lload hx hb dX10_turning_95 (lv_at hl 5 rfl) ?_
         refine lv_aload_n hx hb dX10_turning_97 rfl (lv_at hl 2 rfl) ?_
         refine va_get (D := g.1) (ci := 10) (v := .ref oH) (C := RX10) (T := TX10) (N := 12) hx hb hts hinX10 hown hC.1 hP 0 rfl rfl 1 (by decide) f19 (fun _ h9 => h9) rfl dX10_turning_98 ?_
         refine va_getN (D := g.1) (ci := 6) (v := .int (nI nTr)) (C := RX6) (T := TX6) (N := 6) hx hb hts hinX6 hown hC.1 hP 1 rfl rfl 4 (by decide) f179 (fun _ h9 => h9) rfl dX10_turning_101 ?_
         refine lv_i2l (v := lN nTr) hx hb dX10_turning_104 (nI_l (by omega)) ?_
         refine lv_lmul hx hb dX10_turning_105 ?_
         refine top_l (y := lN ((smN fW fi - smB fB fW k fi) * nTr ^ (i + 1))) (by rw [lN_mul, Nat.pow_succ, Nat.mul_assoc]) ?_
         refine lv_lstore (lv' := [(5, .long (lN ((smN fW fi - smB fB fW k fi) * nTr ^ (i + 1)))), (3, .long (lN ((smB fB fW k fi) * nTb ^ (i + 1)))), (8, .long (lN (((smB fB fW k fi) * nTb ^ i) + ((smN fW fi - smB fB fW k fi) * nTr ^ i)))), (0, .ref oM), (1, .int (nI k)), (2, .int (nI t)), (7, .int (nI i))]) hx hb dX10_turning_106 hl (by decide) rfl (fun ls hl => ?_)
         refine lv_iinc (v := nI (i + 1)) (lv' := [(7, .int (nI (i + 1))), (5, .long (lN ((smN fW fi - smB fB fW k fi) * nTr ^ (i + 1)))), (3, .long (lN ((smB fB fW k fi) * nTb ^ (i + 1)))), (8, .long (lN (((smB fB fW k fi) * nTb ^ i) + ((smN fW fi - smB fB fW k fi) * nTr ^ i)))), (0, .ref oM), (1, .int (nI k)), (2, .int (nI t))]) hx hb dX10_turning_108 hl (k := 6) rfl (iinc1 _) (by decide) rfl (fun ls hl => ?_)
         refine lv_goto (tgt := 48) hx hb dX10_turning_111 (by decide) ?_
         exact ih48 (i + 1) (by omega) (by omega) (by rw [← hf]; exact trn_f (by first | exact ctQ_a c63 | exact ctQ_b c77) (by omega)) ls (lv_sub hl [4, 5, 6, 2, 1, 0] rfl)
        ·have c63 : ¬ (((smB fB fW k fi) * nTb ^ i) + ((smN fW fi - smB fB fW k fi) * nTr ^ i)) ≤ 0 := fun h9 => c63 ((pk_lLE (a := ((smB fB fW k fi) * nTb ^ i) + ((smN fW fi - smB fB fW k fi) * nTr ^ i)) (b := 0) (by omega) (by omega)).mpr h9)
         refine lv_lload_n hx hb dX10_turning_67 rfl (lv_at hl 4 rfl) ?_
         refine lv_ldc2 hx hb hown k174 dX10_turning_68 ?_
         refine top_l (y := lN 10) (by decide) ?_
         refine lv_lmul hx hb dX10_turning_71 ?_
         refine top_l (y := lN (((smB fB fW k fi) * nTb ^ i) * 10)) (lN_mul _ _) ?_
         refine lv_lload hx hb dX10_turning_72 (lv_at hl 0 rfl) ?_
         refine lv_iload_n hx hb dX10_turning_74 rfl (lv_at hl 3 rfl) ?_
         refine lv_i2l (v := lN t) hx hb dX10_turning_75 (nI_l (by omega)) ?_
         refine lv_lmul hx hb dX10_turning_76 ?_
         refine top_l (y := lN ((((smB fB fW k fi) * nTb ^ i) + ((smN fW fi - smB fB fW k fi) * nTr ^ i)) * t)) (lN_mul _ _) ?_
         refine lc_lt (tgt := 84) hx hb dX10_turning_77 dX10_turning_78 (by decide) (fun c77 => ?_) (fun c77 => ?_)
         ·have c77 : (((smB fB fW k fi) * nTb ^ i) * 10) < ((((smB fB fW k fi) * nTb ^ i) + ((smN fW fi - smB fB fW k fi) * nTr ^ i)) * t) := (pk_lLT (a := ((smB fB fW k fi) * nTb ^ i) * 10) (b := (((smB fB fW k fi) * nTb ^ i) + ((smN fW fi - smB fB fW k fi) * nTr ^ i)) * t) (by omega) (by omega)).mp c77
          refine lv_lload_n hx hb dX10_turning_84 rfl (lv_at hl 4 rfl) ?_
          refine lv_aload_n hx hb dX10_turning_85 rfl (lv_at hl 1 rfl) ?_
          refine va_get (D := g.1) (ci := 10) (v := .ref oH) (C := RX10) (T := TX10) (N := 12) hx hb hts hinX10 hown hC.1 hP 0 rfl rfl 1 (by decide) f19 (fun _ h9 => h9) rfl dX10_turning_86 ?_
          refine va_getN (D := g.1) (ci := 6) (v := .int (nI nTb)) (C := RX6) (T := TX6) (N := 6) hx hb hts hinX6 hown hC.1 hP 1 rfl rfl 3 (by decide) f176 (fun _ h9 => h9) rfl dX10_turning_89 ?_
          refine lv_i2l (v := lN nTb) hx hb dX10_turning_92 (nI_l (by omega)) ?_
          refine lv_lmul hx hb dX10_turning_93 ?_
          refine top_l (y := lN ((smB fB fW k fi) * nTb ^ (i + 1))) (by rw [lN_mul, Nat.pow_succ, Nat.mul_assoc]) ?_
          refine lv_lstore_n (lv' := [(3, .long (lN ((smB fB fW k fi) * nTb ^ (i + 1)))), (8, .long (lN (((smB fB fW k fi) * nTb ^ i) + ((smN fW fi - smB fB fW k fi) * nTr ^ i)))), (0, .ref oM), (1, .int (nI k)), (2, .int (nI t)), (5, .long (lN ((smN fW fi - smB fB fW k fi) * nTr ^ i))), (7, .int (nI i))]) hx hb dX10_turning_94 rfl hl (by decide) rfl (fun ls hl => ?_)
          refine lv_lload hx hb dX10_turning_95 (lv_at hl 5 rfl) ?_
          refine lv_aload_n hx hb dX10_turning_97 rfl (lv_at hl 2 rfl) ?_
          refine va_get (D := g.1) (ci := 10) (v := .ref oH) (C := RX10) (T := TX10) (N := 12) hx hb hts hinX10 hown hC.1 hP 0 rfl rfl 1 (by decide) f19 (fun _ h9 => h9) rfl dX10_turning_98 ?_
          refine va_getN (D := g.1) (ci := 6) (v := .int (nI nTr)) (C := RX6) (T := TX6) (N := 6) hx hb hts hinX6 hown hC.1 hP 1 rfl rfl 4 (by decide) f179 (fun _ h9 => h9) rfl dX10_turning_101 ?_
          refine lv_i2l (v := lN nTr) hx hb dX10_turning_104 (nI_l (by omega)) ?_
          refine lv_lmul hx hb dX10_turning_105 ?_
          refine top_l (y := lN ((smN fW fi - smB fB fW k fi) * nTr ^ (i + 1))) (by rw [lN_mul, Nat.pow_succ, Nat.mul_assoc]) ?_
          refine lv_lstore (lv' := [(5, .long (lN ((smN fW fi - smB fB fW k fi) * nTr ^ (i + 1)))), (3, .long (lN ((smB fB fW k fi) * nTb ^ (i + 1)))), (8, .long (lN (((smB fB fW k fi) * nTb ^ i) + ((smN fW fi - smB fB fW k fi) * nTr ^ i)))), (0, .ref oM), (1, .int (nI k)), (2, .int (nI t)), (7, .int (nI i))]) hx hb dX10_turning_106 hl (by decide) rfl (fun ls hl => ?_)
          refine lv_iinc (v := nI (i + 1)) (lv' := [(7, .int (nI (i + 1))), (5, .long (lN ((smN fW fi - smB fB fW k fi) * nTr ^ (i + 1)))), (3, .long (lN ((smB fB fW k fi) * nTb ^ (i + 1)))), (8, .long (lN (((smB fB fW k fi) * nTb ^ i) + ((smN fW fi - smB fB fW k fi) * nTr ^ i)))), (0, .ref oM), (1, .int (nI k)), (2, .int (nI t))]) hx hb dX10_turning_108 hl (k := 6) rfl (iinc1 _) (by decide) rfl (fun ls hl => ?_)
          refine lv_goto (tgt := 48) hx hb dX10_turning_111 (by decide) ?_
          exact ih48 (i + 1) (by omega) (by omega) (by rw [← hf]; exact trn_f (by first | exact ctQ_a c63 | exact ctQ_b c77) (by omega)) ls (lv_sub hl [4, 5, 6, 2, 1, 0] rfl)
         ·have c77 : ¬ (((smB fB fW k fi) * nTb ^ i) * 10) < ((((smB fB fW k fi) * nTb ^ i) + ((smN fW fi - smB fB fW k fi) * nTr ^ i)) * t) := fun h9 => c77 ((pk_lLT (a := ((smB fB fW k fi) * nTb ^ i) * 10) (b := (((smB fB fW k fi) * nTb ^ i) + ((smN fW fi - smB fB fW k fi) * nTr ^ i)) * t) (by omega) (by omega)).mpr h9)
          refine lv_iload hx hb dX10_turning_81 (lv_at hl 6 rfl) ?_
          exact retSi hx hb hr hlocks (by rw [ctR, if_pos c5, if_pos c18, hx9, hxt, ← hf, trn_t (ctQ_t c63 c77) (by omega)]) dX10_turning_83
     have hl : lv_has ls 10 [(7, .int (nI 0)), (5, .long (lN ((smN fW fi - smB fB fW k fi) * nTr ^ 0))), (3, .long (lN ((smB fB fW k fi) * nTb ^ 0))), (0, .ref oM), (1, .int (nI k)), (2, .int (nI t))] := by rw [Nat.pow_zero, Nat.pow_zero, Nat.mul_one, Nat.mul_one]; exact hl
     exact hL48 _ 0 (Nat.lt_succ_self _) (Nat.zero_le _) (rfl) ls (lv_sub hl [3, 4, 5, 2, 1, 0] rfl)
    ·have hz : wth xt (nI 1) (nI 9) = false := by rw [wth_iff (by decide) (by decide)]; have h2 : ¬ xt.toInt < ((10 : Nat) : Int) := fun h => c19 ((x_lt (by decide)).mpr h); exact decide_eq_false (by omega)
     refine lv_bipush (v := (-102)) hx hb dX10_turning_22 (by decide) ?_
     exact retSi hx hb hr hlocks (by rw [ctR, if_pos c5, if_neg (by rw [hz]; decide)]) dX10_turning_24
  ·have c5 := zI_f.mp c5
   refine lv_bipush (v := (-101)) hx hb dX10_turning_8 (by decide) ?_
   exact retSi hx hb hr hlocks (by rw [ctR, if_neg (by rw [c5]; decide)]) dX10_turning_10

set_option maxHeartbeats 4000000 in
set_option maxRecDepth 100000 in
/-- BoiledEggs.risk  -/
theorem k_X10_risk (l : Launch) (g : GG) (oM : Nat) (oP : Nat) (oH : Nat) (oT : Nat) (oK : Nat) (oR : Nat) (oD : Nat) (aT : Nat) (tC : Nat) (tK : Nat) (iK : Int32) (kR : Nat) (bD : Nat) (aH : Nat) (nE : Nat) (nB : Nat) (nTb : Nat) (nTr : Nat) (nFa : Nat) (aB : Nat) (aW : Nat) (aS : Nat) (aU : Nat) (aK : Nat) (fi : Nat) (ib : Nat) (sn : Nat) (fB : Nat → Nat) (fW : Nat → Nat) (xe : Int32) (xp : Int32) (hE : nE ≤ 6) (hf0 : fi ≤ 20) (hB : ∀ j, fB j < 64) (ha0 : smN fW fi < 2 ^ 42) (hib : ib < 64) (hp : 0 < nE → 0 < smN fW fi) (hfa : nFa ≤ 9) : Met l yX10_risk wsX10_risk ({ frames := 2, cells := 0, slots := 0, locals := 58 }) (pS g [.ref oM, .int xe, .int xp] [(oM, .inr (10, [.ref oP, .ref oH, .ref oT, .ref oK, .ref oR, .ref oD, .ref aT, .int (nI tC), .int (nI tK), .int iK, .int (nI kR), .int (nI bD)])), (oH, .inr (6, [.ref aH, .int (nI nE), .int (nI nB), .int (nI nTb), .int (nI nTr), .int (nI nFa)])), (oT, .inr (8, [.ref aB, .ref aW, .ref aS, .ref aU, .ref aK, .int (nI fi), .int (nI ib), .int (nI sn)])), (aB, .inl (g.2.1, 20, .inl (fun j => nI (fB j)))), (aW, .inl (g.2.2.1, 20, .inr (.inl (fun j => lN (fW j)))))]) (vp_Sl (fun r => r = (crkR nE nFa fB fW fi ib xe xp))) 0 0 noF := by
  refine metS (cc := cX10_risk) (maxL := 7) (ret := (some .long)) (by decide) rfl (Nat.le_of_ble_eq_true rfl) ?_
  intro p e s m below meth c hx hb hr hts hown hlocks hml hC hP ls hl
  have hl : lv_has ls 7 [(0, .ref oM), (1, .int xe), (2, .int xp)] := hl
  have hown : s.vm.findClass RX10 = some m.cls := hown
  have hts : ∀ w ∈ wsX10_risk, w.before ([.ref oM, .int xe, .int xp] : List Value).toArray s = true := hts
  have hinX10 := (by decide +kernel : ∀ w ∈ u_ws RX10 TX10 12, w ∈ wsX10_risk)
  have f26 := hts (.fieldLink RX10 26 "BoiledEggs" "told" "LBoiledEggs$Told;") (by decide +kernel)
  have f19 := hts (.fieldLink RX10 19 "BoiledEggs" "home" "LBoiledEggs$Kitchen;") (by decide +kernel)
  have hinX6 := (by decide +kernel : ∀ w ∈ u_ws RX6 TX6 6, w ∈ wsX10_risk)
  have f132 := va_Nw.use (A := ([.ref oM, .int xe, .int xp] : List Value).toArray) rfl (hC.2.1 (.fieldLinkNest RX10 132 "BoiledEggs$Kitchen" "falls" "I" "BoiledEggs") (by decide +kernel))
  have k174 := hts (.constantLong RX10 174 (10)) (by decide +kernel)
  have k207 := hts (.constantLong RX10 207 (-103)) (by decide +kernel)
  have k154 := hts (.constantLong RX10 154 (-102)) (by decide +kernel)
  have k149 := hts (.constantLong RX10 149 (-101)) (by decide +kernel)
  refine lv_aload_n hx hb dX10_risk_0 rfl (lv_at hl 0 rfl) ?_
  refine lv_iload_n hx hb dX10_risk_1 rfl (lv_at hl 1 rfl) ?_
  refine goSi (T := zI (isE nE xe)) (va_runV (As := [.int xe]) (rest := []) ⟨hx, hb, hml, hown, hts⟩ (k_X10_isEgg l g oM oP oH oT oK oR oD aT tC tK iK kR bD aH nE nB nTb nTr nFa xe (by first | assumption | exact Nat.zero_le _ | omega)) (cwV 1 hts gX10_risk_X10_isEgg rfl rfl rfl ⟨rfl, hdX10_isEgg⟩ ⟨Nat.le_of_ble_eq_true rfl, Nat.le_of_ble_eq_true rfl⟩) (preVS hC (hP.sub [0, 1] rfl) (va_recv hC.1 hP (ci := 10) (q0 := 0) rfl rfl)) rfl rfl hl.1 rfl (lv_room (Nat.le_of_ble_eq_true rfl)) dX10_risk_2 ⟨Nat.le_of_ble_eq_true rfl, Nat.le_of_ble_eq_true rfl⟩) ?_
  refine lv_if_ne (tgt := 12) hx hb dX10_risk_5 (by decide) (fun c5 => ?_) (fun c5 => ?_)
  ·have c5 := zI_t.mp c5
   obtain ⟨k, hk, rfl⟩ := isE_t c5
   have hx9 : ix (nI k) = k := ix_nI (by omega)
   have hle := smB_le fB fW k fi
   have hpp := hp (by omega)
   have hm := Nat.mul_le_mul (Nat.le_refl (smN fW fi - smB fB fW k fi)) hfa
   refine lv_iload_n hx hb dX10_risk_12 rfl (lv_at hl 2 rfl) ?_
   refine goSi (T := zI (wth xp (nI 0) (nI 1))) (va_runS (As := [.int xp]) (rest := []) ⟨hx, hb, hml, hown, hts⟩ (k_X10_isPart l g xp ) (va_cwS 1 hts gX10_risk_X10_isPart rfl rfl rfl hdX10_isPart ⟨Nat.le_of_ble_eq_true rfl, Nat.le_of_ble_eq_true rfl⟩) (preSS hC (hP.sub [] rfl)) rfl rfl hl.1 rfl (lv_room (Nat.le_of_ble_eq_true rfl)) dX10_risk_13 ⟨Nat.le_of_ble_eq_true rfl, Nat.le_of_ble_eq_true rfl⟩) ?_
   refine lv_if_ne (tgt := 23) hx hb dX10_risk_16 (by decide) (fun c16 => ?_) (fun c16 => ?_)
   ·have c16 := zI_t.mp c16
    refine lv_aload_n hx hb dX10_risk_23 rfl (lv_at hl 0 rfl) ?_
    refine va_get (D := g.1) (ci := 10) (v := .ref oT) (C := RX10) (T := TX10) (N := 12) hx hb hts hinX10 hown hC.1 hP 0 rfl rfl 2 (by decide) f26 (fun _ h9 => h9) rfl dX10_risk_24 ?_
    refine lv_iload_n hx hb dX10_risk_27 rfl (lv_at hl 1 rfl) ?_
    refine goSi (T := zI (ib.testBit k)) (va_runV (As := [.int (nI k)]) (rest := []) ⟨hx, hb, hml, hown, hts⟩ (k_X8_isInBox l g oT aB aW aS aU aK fi ib sn k (by first | assumption | exact Nat.zero_le _ | omega) (by first | assumption | exact Nat.zero_le _ | omega)) (cwV 1 hts gX10_risk_X8_isInBox rfl rfl rfl ⟨rfl, hdX8_isInBox⟩ ⟨Nat.le_of_ble_eq_true rfl, Nat.le_of_ble_eq_true rfl⟩) (preVS hC (hP.sub [2] rfl) (va_recv hC.1 hP (ci := 8) (q0 := 2) rfl rfl)) rfl rfl hl.1 rfl (lv_room (Nat.le_of_ble_eq_true rfl)) dX10_risk_28 ⟨Nat.le_of_ble_eq_true rfl, Nat.le_of_ble_eq_true rfl⟩) ?_
    refine lv_if_ne (tgt := 38) hx hb dX10_risk_31 (by decide) (fun c31 => ?_) (fun c31 => ?_)
    ·have c31 := zI_t.mp c31
     refine lv_aload_n hx hb dX10_risk_38 rfl (lv_at hl 0 rfl) ?_
     refine va_get (D := g.1) (ci := 10) (v := .ref oT) (C := RX10) (T := TX10) (N := 12) hx hb hts hinX10 hown hC.1 hP 0 rfl rfl 2 (by decide) f26 (fun _ h9 => h9) rfl dX10_risk_39 ?_
     refine goSl (T := lN (smN fW fi)) (va_runV (As := []) (rest := []) ⟨hx, hb, hml, hown, hts⟩ (k_X8_allWeight l g oT aB aW aS aU aK fi ib sn fW (by first | assumption | exact Nat.zero_le _ | omega)) (cwV 0 hts gX10_risk_X8_allWeight rfl rfl rfl ⟨rfl, hdX8_allWeight⟩ ⟨Nat.le_of_ble_eq_true rfl, Nat.le_of_ble_eq_true rfl⟩) (preVS hC (hP.sub [2, 4] rfl) (va_recv hC.1 hP (ci := 8) (q0 := 2) rfl rfl)) rfl rfl hl.1 rfl (lv_room (Nat.le_of_ble_eq_true rfl)) dX10_risk_42 ⟨Nat.le_of_ble_eq_true rfl, Nat.le_of_ble_eq_true rfl⟩) ?_
     refine lv_lstore_n (lv' := [(3, .long (lN (smN fW fi))), (0, .ref oM), (1, .int (nI k)), (2, .int xp)]) hx hb dX10_risk_45 rfl hl (by decide) rfl (fun ls hl => ?_)
     refine lv_lload_n hx hb dX10_risk_46 rfl (lv_at hl 0 rfl) ?_
     refine lv_aload_n hx hb dX10_risk_47 rfl (lv_at hl 1 rfl) ?_
     refine va_get (D := g.1) (ci := 10) (v := .ref oT) (C := RX10) (T := TX10) (N := 12) hx hb hts hinX10 hown hC.1 hP 0 rfl rfl 2 (by decide) f26 (fun _ h9 => h9) rfl dX10_risk_48 ?_
     refine lv_iload_n hx hb dX10_risk_51 rfl (lv_at hl 2 rfl) ?_
     refine goSl (T := lN (smB fB fW k fi)) (va_runV (As := [.int (nI k)]) (rest := [.long (lN (smN fW fi))]) ⟨hx, hb, hml, hown, hts⟩ (k_X8_boiledWeight l g oT aB aW aS aU aK fi ib sn fB fW k (by first | assumption | exact Nat.zero_le _ | omega) (by first | assumption | exact Nat.zero_le _ | omega) (by first | assumption | exact Nat.zero_le _ | omega)) (cwV 1 hts gX10_risk_X8_boiledWeight rfl rfl rfl ⟨rfl, hdX8_boiledWeight⟩ ⟨Nat.le_of_ble_eq_true rfl, Nat.le_of_ble_eq_true rfl⟩) (preVS hC (hP.sub [2, 3, 4] rfl) (va_recv hC.1 hP (ci := 8) (q0 := 2) rfl rfl)) rfl rfl hl.1 rfl (lv_room (Nat.le_of_ble_eq_true rfl)) dX10_risk_52 ⟨Nat.le_of_ble_eq_true rfl, Nat.le_of_ble_eq_true rfl⟩) ?_
     refine lv_lsub hx hb dX10_risk_55 ?_
     refine top_l (y := lN (smN fW fi - smB fB fW k fi)) (lN_sub hle) ?_
     refine lv_lstore (lv' := [(5, .long (lN (smN fW fi - smB fB fW k fi))), (3, .long (lN (smN fW fi))), (0, .ref oM), (1, .int (nI k)), (2, .int xp)]) hx hb dX10_risk_56 hl (by decide) rfl (fun ls hl => ?_)
     refine lv_lload hx hb dX10_risk_58 (lv_at hl 0 rfl) ?_
     refine lv_aload_n hx hb dX10_risk_60 rfl (lv_at hl 2 rfl) ?_
     refine va_get (D := g.1) (ci := 10) (v := .ref oH) (C := RX10) (T := TX10) (N := 12) hx hb hts hinX10 hown hC.1 hP 0 rfl rfl 1 (by decide) f19 (fun _ h9 => h9) rfl dX10_risk_61 ?_
     refine va_getN (D := g.1) (ci := 6) (v := .int (nI nFa)) (C := RX6) (T := TX6) (N := 6) hx hb hts hinX6 hown hC.1 hP 1 rfl rfl 5 (by decide) f132 (fun _ h9 => h9) rfl dX10_risk_64 ?_
     refine lv_i2l (v := lN nFa) hx hb dX10_risk_67 (nI_l (by omega)) ?_
     refine lv_lmul hx hb dX10_risk_68 ?_
     refine top_l (y := lN ((smN fW fi - smB fB fW k fi) * nFa)) (lN_mul _ _) ?_
     refine lv_lload_n hx hb dX10_risk_69 rfl (lv_at hl 1 rfl) ?_
     refine lv_ldc2 hx hb hown k174 dX10_risk_70 ?_
     refine top_l (y := lN 10) (by decide) ?_
     refine lv_lmul hx hb dX10_risk_73 ?_
     refine top_l (y := lN ((smN fW fi) * 10)) (lN_mul _ _) ?_
     refine lv_iload_n hx hb dX10_risk_74 rfl (lv_at hl 4 rfl) ?_
     refine goSl (T := lN (low ((smN fW fi - smB fB fW k fi) * nFa) ((smN fW fi) * 10) xp)) (va_runS (As := [.long (lN ((smN fW fi - smB fB fW k fi) * nFa)), .long (lN ((smN fW fi) * 10)), .int xp]) (rest := []) ⟨hx, hb, hml, hown, hts⟩ (k_X10_inLowestTerms l g ((smN fW fi - smB fB fW k fi) * nFa) ((smN fW fi) * 10) xp (by first | assumption | exact Nat.zero_le _ | omega) (by first | assumption | exact Nat.zero_le _ | omega) (by first | assumption | exact Nat.zero_le _ | omega)) (va_cwS 3 hts gX10_risk_X10_inLowestTerms rfl rfl rfl hdX10_inLowestTerms ⟨Nat.le_of_ble_eq_true rfl, Nat.le_of_ble_eq_true rfl⟩) (preSS hC (hP.sub [] rfl)) rfl rfl hl.1 rfl (lv_room (Nat.le_of_ble_eq_true rfl)) dX10_risk_75 ⟨Nat.le_of_ble_eq_true rfl, Nat.le_of_ble_eq_true rfl⟩) ?_
     exact retSl hx hb hr hlocks (by rw [crkR, if_pos c5, if_pos c16, hx9, if_pos c31]) dX10_risk_78
    ·have c31 := zI_f.mp c31
     refine lv_ldc2 hx hb hown k207 dX10_risk_34 ?_
     exact retSl hx hb hr hlocks (by rw [crkR, if_pos c5, if_pos c16, hx9, if_neg (by rw [c31]; decide)]) dX10_risk_37
   ·have c16 := zI_f.mp c16
    refine lv_ldc2 hx hb hown k154 dX10_risk_19 ?_
    exact retSl hx hb hr hlocks (by rw [crkR, if_pos c5, if_neg (by rw [c16]; decide)]) dX10_risk_22
  ·have c5 := zI_f.mp c5
   refine lv_ldc2 hx hb hown k149 dX10_risk_8 ?_
   exact retSl hx hb hr hlocks (by rw [crkR, if_neg (by rw [c5]; decide)]) dX10_risk_11

set_option maxHeartbeats 4000000 in
set_option maxRecDepth 100000 in
/-- BoiledEggs.fits  -/
theorem k_X10_fits (l : Launch) (g : GG) (oM : Nat) (oP : Nat) (oH : Nat) (oT : Nat) (oK : Nat) (oR : Nat) (oD : Nat) (aT : Nat) (tC : Nat) (tK : Nat) (iK : Int32) (kR : Nat) (bD : Nat) (aH : Nat) (nE : Nat) (nB : Nat) (nTb : Nat) (nTr : Nat) (nFa : Nat) (aB : Nat) (aW : Nat) (aS : Nat) (aU : Nat) (aK : Nat) (fi : Nat) (ib : Nat) (sn : Nat) (fB : Nat → Nat) (xq : Int32) (hE : nE ≤ 6) (hf0 : fi ≤ 20) (hB : ∀ j, fB j < 64) : Met l yX10_fits wsX10_fits ({ frames := 1, cells := 0, slots := 0, locals := 23 }) (pS g [.ref oM, .int xq] [(oM, .inr (10, [.ref oP, .ref oH, .ref oT, .ref oK, .ref oR, .ref oD, .ref aT, .int (nI tC), .int (nI tK), .int iK, .int (nI kR), .int (nI bD)])), (oH, .inr (6, [.ref aH, .int (nI nE), .int (nI nB), .int (nI nTb), .int (nI nTr), .int (nI nFa)])), (oT, .inr (8, [.ref aB, .ref aW, .ref aS, .ref aU, .ref aK, .int (nI fi), .int (nI ib), .int (nI sn)])), (aB, .inl (g.2.1, 20, .inl (fun j => nI (fB j))))]) (vp_Si (fun r => r = (cftR fB fi nE xq))) 0 0 noF := by
  refine metS (cc := cX10_fits) (maxL := 2) (ret := (some .int)) (by decide) rfl (Nat.le_of_ble_eq_true rfl) ?_
  intro p e s m below meth c hx hb hr hts hown hlocks hml hC hP ls hl
  have hl : lv_has ls 2 [(0, .ref oM), (1, .int xq)] := hl
  have hown : s.vm.findClass RX10 = some m.cls := hown
  have hts : ∀ w ∈ wsX10_fits, w.before ([.ref oM, .int xq] : List Value).toArray s = true := hts
  have h2E := p2le hE
  have h1E := Nat.one_le_two_pow (n := nE)
  have hinX10 := (by decide +kernel : ∀ w ∈ u_ws RX10 TX10 12, w ∈ wsX10_fits)
  have f26 := hts (.fieldLink RX10 26 "BoiledEggs" "told" "LBoiledEggs$Told;") (by decide +kernel)
  have f19 := hts (.fieldLink RX10 19 "BoiledEggs" "home" "LBoiledEggs$Kitchen;") (by decide +kernel)
  have hinX8 := (by decide +kernel : ∀ w ∈ u_ws RX8 TX8 8, w ∈ wsX10_fits)
  have f235 := va_Nw.use (A := ([.ref oM, .int xq] : List Value).toArray) rfl (hC.2.1 (.fieldLinkNest RX10 235 "BoiledEggs$Told" "fitting" "I" "BoiledEggs") (by decide +kernel))
  refine lv_iload_n hx hb dX10_fits_0 rfl (lv_at hl 1 rfl) ?_
  refine lv_if_lt (tgt := 9) hx hb dX10_fits_1 (by decide) (fun c1 => ?_) (fun c1 => ?_)
  ·have hz : wth xq (nI 0) (nI 2) = false := by rw [wth_iff (by decide) (by decide)]; have := z_lt c1; exact decide_eq_false (by omega)
   refine lv_bipush (v := (-102)) hx hb dX10_fits_9 (by decide) ?_
   exact retSi hx hb hr hlocks (by rw [cftR, if_neg (by rw [hz]; decide)]) dX10_fits_11
  ·refine lv_iload_n hx hb dX10_fits_4 rfl (lv_at hl 1 rfl) ?_
   refine lv_iconst (v := nI 2) hx hb dX10_fits_5 (by decide) ?_
   refine lv_icmp_le (tgt := 12) hx hb dX10_fits_6 (by decide) (fun c6 => ?_) (fun c6 => ?_)
   ·have hw2 : wth xq (nI 0) (nI 2) = true := by rw [wth_iff (by decide) (by decide)]; have h1 := z_nlt c1; have h2 := (x_le (by decide)).mp c6; exact decide_eq_true (by omega)
    refine lv_aload_n hx hb dX10_fits_12 rfl (lv_at hl 0 rfl) ?_
    refine goSi (T := zI (decide (0 < nE))) (va_runV (As := []) (rest := []) ⟨hx, hb, hml, hown, hts⟩ (k_X10_hasKitchen l g oM oP oH oT oK oR oD aT tC tK iK kR bD aH nE nB nTb nTr nFa (by first | assumption | exact Nat.zero_le _ | omega)) (cwV 0 hts gX10_fits_X10_hasKitchen rfl rfl rfl ⟨rfl, hdX10_hasKitchen⟩ ⟨Nat.le_of_ble_eq_true rfl, Nat.le_of_ble_eq_true rfl⟩) (preVS hC (hP.sub [0, 1] rfl) (va_recv hC.1 hP (ci := 10) (q0 := 0) rfl rfl)) rfl rfl hl.1 rfl (lv_room (Nat.le_of_ble_eq_true rfl)) dX10_fits_13 ⟨Nat.le_of_ble_eq_true rfl, Nat.le_of_ble_eq_true rfl⟩) ?_
    refine lv_if_ne (tgt := 22) hx hb dX10_fits_16 (by decide) (fun c16 => ?_) (fun c16 => ?_)
    ·have c16 := zI_t.mp c16
     have h1 := of_decide_eq_true c16
     refine lv_iload_n hx hb dX10_fits_22 rfl (lv_at hl 1 rfl) ?_
     refine lv_if_ne (tgt := 34) hx hb dX10_fits_23 (by decide) (fun c23 => ?_) (fun c23 => ?_)
     ·refine lv_iload_n hx hb dX10_fits_34 rfl (lv_at hl 1 rfl) ?_
      refine lv_iconst (v := nI 1) hx hb dX10_fits_35 (by decide) ?_
      refine lv_icmp_ne (tgt := 56) hx hb dX10_fits_36 (by decide) (fun c36 => ?_) (fun c36 => ?_)
      ·refine lv_aload_n hx hb dX10_fits_56 rfl (lv_at hl 0 rfl) ?_
       refine va_get (D := g.1) (ci := 10) (v := .ref oT) (C := RX10) (T := TX10) (N := 12) hx hb hts hinX10 hown hC.1 hP 0 rfl rfl 2 (by decide) f26 (fun _ h9 => h9) rfl dX10_fits_57 ?_
       refine lv_aload_n hx hb dX10_fits_60 rfl (lv_at hl 0 rfl) ?_
       refine va_get (D := g.1) (ci := 10) (v := .ref oH) (C := RX10) (T := TX10) (N := 12) hx hb hts hinX10 hown hC.1 hP 0 rfl rfl 1 (by decide) f19 (fun _ h9 => h9) rfl dX10_fits_61 ?_
       refine goSi (T := nI (2 ^ nE - 1)) (va_runV (As := []) (rest := [.ref oT]) ⟨hx, hb, hml, hown, hts⟩ (k_X6_allEggs l g oH aH nE nB nTb nTr nFa (by first | assumption | exact Nat.zero_le _ | omega)) (cwV 0 hts gX10_fits_X6_allEggs rfl rfl rfl ⟨rfl, hdX6_allEggs⟩ ⟨Nat.le_of_ble_eq_true rfl, Nat.le_of_ble_eq_true rfl⟩) (preVS hC (hP.sub [1] rfl) (va_recv hC.1 hP (ci := 6) (q0 := 1) rfl rfl)) rfl rfl hl.1 rfl (lv_room (Nat.le_of_ble_eq_true rfl)) dX10_fits_64 ⟨Nat.le_of_ble_eq_true rfl, Nat.le_of_ble_eq_true rfl⟩) ?_
       refine goSi (T := nI (srN fB (2 ^ nE - 1) fi)) (va_runV (As := [.int (nI (2 ^ nE - 1))]) (rest := []) ⟨hx, hb, hml, hown, hts⟩ (k_X8_surelyRaw l g oT aB aW aS aU aK fi ib sn fB (2 ^ nE - 1) (by first | assumption | exact Nat.zero_le _ | omega) (by first | assumption | exact Nat.zero_le _ | omega) (by first | assumption | exact Nat.zero_le _ | omega)) (cwV 1 hts gX10_fits_X8_surelyRaw rfl rfl rfl ⟨rfl, hdX8_surelyRaw⟩ ⟨Nat.le_of_ble_eq_true rfl, Nat.le_of_ble_eq_true rfl⟩) (preVS hC (hP.sub [2, 3] rfl) (va_recv hC.1 hP (ci := 8) (q0 := 2) rfl rfl)) rfl rfl hl.1 rfl (lv_room (Nat.le_of_ble_eq_true rfl)) dX10_fits_67 ⟨Nat.le_of_ble_eq_true rfl, Nat.le_of_ble_eq_true rfl⟩) ?_
       exact retSi hx hb hr hlocks (by rw [cftR, if_pos hw2, if_neg (by omega), cftN, if_neg c23, if_neg c36]) dX10_fits_70
      ·refine lv_aload_n hx hb dX10_fits_39 rfl (lv_at hl 0 rfl) ?_
       refine va_get (D := g.1) (ci := 10) (v := .ref oT) (C := RX10) (T := TX10) (N := 12) hx hb hts hinX10 hown hC.1 hP 0 rfl rfl 2 (by decide) f26 (fun _ h9 => h9) rfl dX10_fits_40 ?_
       refine lv_aload_n hx hb dX10_fits_43 rfl (lv_at hl 0 rfl) ?_
       refine va_get (D := g.1) (ci := 10) (v := .ref oH) (C := RX10) (T := TX10) (N := 12) hx hb hts hinX10 hown hC.1 hP 0 rfl rfl 1 (by decide) f19 (fun _ h9 => h9) rfl dX10_fits_44 ?_
       refine goSi (T := nI (2 ^ nE - 1)) (va_runV (As := []) (rest := [.ref oT]) ⟨hx, hb, hml, hown, hts⟩ (k_X6_allEggs l g oH aH nE nB nTb nTr nFa (by first | assumption | exact Nat.zero_le _ | omega)) (cwV 0 hts gX10_fits_X6_allEggs rfl rfl rfl ⟨rfl, hdX6_allEggs⟩ ⟨Nat.le_of_ble_eq_true rfl, Nat.le_of_ble_eq_true rfl⟩) (preVS hC (hP.sub [1] rfl) (va_recv hC.1 hP (ci := 6) (q0 := 1) rfl rfl)) rfl rfl hl.1 rfl (lv_room (Nat.le_of_ble_eq_true rfl)) dX10_fits_47 ⟨Nat.le_of_ble_eq_true rfl, Nat.le_of_ble_eq_true rfl⟩) ?_
       refine goSi (T := nI (srB fB (2 ^ nE - 1) fi)) (va_runV (As := [.int (nI (2 ^ nE - 1))]) (rest := []) ⟨hx, hb, hml, hown, hts⟩ (k_X8_surelyBoiled l g oT aB aW aS aU aK fi ib sn fB (2 ^ nE - 1) (by first | assumption | exact Nat.zero_le _ | omega)) (cwV 1 hts gX10_fits_X8_surelyBoiled rfl rfl rfl ⟨rfl, hdX8_surelyBoiled⟩ ⟨Nat.le_of_ble_eq_true rfl, Nat.le_of_ble_eq_true rfl⟩) (preVS hC (hP.sub [2, 3] rfl) (va_recv hC.1 hP (ci := 8) (q0 := 2) rfl rfl)) rfl rfl hl.1 rfl (lv_room (Nat.le_of_ble_eq_true rfl)) dX10_fits_50 ⟨Nat.le_of_ble_eq_true rfl, Nat.le_of_ble_eq_true rfl⟩) ?_
       refine lv_goto (tgt := 70) hx hb dX10_fits_53 (by decide) ?_
       exact retSi hx hb hr hlocks (by rw [cftR, if_pos hw2, if_neg (by omega), cftN, if_neg c23, if_pos c36]) dX10_fits_70
     ·refine lv_aload_n hx hb dX10_fits_26 rfl (lv_at hl 0 rfl) ?_
      refine va_get (D := g.1) (ci := 10) (v := .ref oT) (C := RX10) (T := TX10) (N := 12) hx hb hts hinX10 hown hC.1 hP 0 rfl rfl 2 (by decide) f26 (fun _ h9 => h9) rfl dX10_fits_27 ?_
      refine va_getN (D := g.1) (ci := 8) (v := .int (nI fi)) (C := RX8) (T := TX8) (N := 8) hx hb hts hinX8 hown hC.1 hP 2 rfl rfl 5 (by decide) f235 (fun _ h9 => h9) rfl dX10_fits_30 ?_
      exact retSi hx hb hr hlocks (by rw [cftR, if_pos hw2, if_neg (by omega), cftN, if_pos c23]) dX10_fits_33
    ·have c16 := zI_f.mp c16
     have h1 := of_decide_eq_false c16
     refine lv_bipush (v := (-103)) hx hb dX10_fits_19 (by decide) ?_
     exact retSi hx hb hr hlocks (by rw [cftR, if_pos hw2, if_pos (by omega)]) dX10_fits_21
   ·have hz : wth xq (nI 0) (nI 2) = false := by rw [wth_iff (by decide) (by decide)]; have h2 : ¬ xq.toInt ≤ ((2 : Nat) : Int) := fun h => c6 ((x_le (by decide)).mpr h); exact decide_eq_false (by omega)
    refine lv_bipush (v := (-102)) hx hb dX10_fits_9 (by decide) ?_
    exact retSi hx hb hr hlocks (by rw [cftR, if_neg (by rw [hz]; decide)]) dX10_fits_11

set_option maxHeartbeats 4000000 in
set_option maxRecDepth 100000 in
/-- BoiledEggs.count  -/
theorem k_X10_count (l : Launch) (g : GG) (oM : Nat) (oP : Nat) (oH : Nat) (oT : Nat) (oK : Nat) (oR : Nat) (oD : Nat) (aT : Nat) (tC : Nat) (tK : Nat) (iK : Int32) (kR : Nat) (bD : Nat) (aH : Nat) (nE : Nat) (nB : Nat) (nTb : Nat) (nTr : Nat) (nFa : Nat) (aB : Nat) (aW : Nat) (aS : Nat) (aU : Nat) (aK : Nat) (fi : Nat) (ib : Nat) (sn : Nat) (aC : Nat) (cN : Nat) (xw : Int32) (hib : ib < 64) : Met l yX10_count wsX10_count ({ frames := 2, cells := 0, slots := 0, locals := 40 }) (pS g [.ref oM, .int xw] [(oM, .inr (10, [.ref oP, .ref oH, .ref oT, .ref oK, .ref oR, .ref oD, .ref aT, .int (nI tC), .int (nI tK), .int iK, .int (nI kR), .int (nI bD)])), (oH, .inr (6, [.ref aH, .int (nI nE), .int (nI nB), .int (nI nTb), .int (nI nTr), .int (nI nFa)])), (oT, .inr (8, [.ref aB, .ref aW, .ref aS, .ref aU, .ref aK, .int (nI fi), .int (nI ib), .int (nI sn)])), (oP, .inr (7, [.ref aC, .int (nI cN)]))]) (vp_Si (fun r => r = (swA [nI nE, nI nB, nI nTb, nI nTr, nI nFa, nI (popS ib 6), nI sn, nI tC, nI cN, nI kR, nI bD] (-102) xw))) 0 0 noF := by
  refine metS (cc := cX10_count) (maxL := 2) (ret := (some .int)) (by decide) rfl (Nat.le_of_ble_eq_true rfl) ?_
  intro p e s m below meth c hx hb hr hts hown hlocks hml hC hP ls hl
  have hl : lv_has ls 2 [(0, .ref oM), (1, .int xw)] := hl
  have hown : s.vm.findClass RX10 = some m.cls := hown
  have hts : ∀ w ∈ wsX10_count, w.before ([.ref oM, .int xw] : List Value).toArray s = true := hts
  have hinX10 := (by decide +kernel : ∀ w ∈ u_ws RX10 TX10 12, w ∈ wsX10_count)
  have f19 := hts (.fieldLink RX10 19 "BoiledEggs" "home" "LBoiledEggs$Kitchen;") (by decide +kernel)
  have hinX6 := (by decide +kernel : ∀ w ∈ u_ws RX6 TX6 6, w ∈ wsX10_count)
  have f90 := va_Nw.use (A := ([.ref oM, .int xw] : List Value).toArray) rfl (hC.2.1 (.fieldLinkNest RX10 90 "BoiledEggs$Kitchen" "eggs" "I" "BoiledEggs") (by decide +kernel))
  have f270 := va_Nw.use (A := ([.ref oM, .int xw] : List Value).toArray) rfl (hC.2.1 (.fieldLinkNest RX10 270 "BoiledEggs$Kitchen" "boiled" "I" "BoiledEggs") (by decide +kernel))
  have f176 := va_Nw.use (A := ([.ref oM, .int xw] : List Value).toArray) rfl (hC.2.1 (.fieldLinkNest RX10 176 "BoiledEggs$Kitchen" "turnsBoiled" "I" "BoiledEggs") (by decide +kernel))
  have f179 := va_Nw.use (A := ([.ref oM, .int xw] : List Value).toArray) rfl (hC.2.1 (.fieldLinkNest RX10 179 "BoiledEggs$Kitchen" "turnsRaw" "I" "BoiledEggs") (by decide +kernel))
  have f132 := va_Nw.use (A := ([.ref oM, .int xw] : List Value).toArray) rfl (hC.2.1 (.fieldLinkNest RX10 132 "BoiledEggs$Kitchen" "falls" "I" "BoiledEggs") (by decide +kernel))
  have f26 := hts (.fieldLink RX10 26 "BoiledEggs" "told" "LBoiledEggs$Told;") (by decide +kernel)
  have hinX8 := (by decide +kernel : ∀ w ∈ u_ws RX8 TX8 8, w ∈ wsX10_count)
  have f121 := va_Nw.use (A := ([.ref oM, .int xw] : List Value).toArray) rfl (hC.2.1 (.fieldLinkNest RX10 121 "BoiledEggs$Told" "allSpins" "I" "BoiledEggs") (by decide +kernel))
  have f79 := hts (.fieldLink RX10 79 "BoiledEggs" "trierCount" "I") (by decide +kernel)
  have f10 := hts (.fieldLink RX10 10 "BoiledEggs" "page" "LBoiledEggs$Page;") (by decide +kernel)
  have hinX7 := (by decide +kernel : ∀ w ∈ u_ws RX7 TX7 2, w ∈ wsX10_count)
  have f273 := va_Nw.use (A := ([.ref oM, .int xw] : List Value).toArray) rfl (hC.2.1 (.fieldLinkNest RX10 273 "BoiledEggs$Page" "size" "I" "BoiledEggs") (by decide +kernel))
  have f87 := hts (.fieldLink RX10 87 "BoiledEggs" "kitchensRead" "I") (by decide +kernel)
  have f188 := hts (.fieldLink RX10 188 "BoiledEggs" "breakingsDone" "I") (by decide +kernel)
  refine lv_iload_n hx hb dX10_count_0 rfl (lv_at hl 1 rfl) ?_
  rcases sw_cases xw 11 (by decide) with ⟨k9, hk9, c1⟩ | c1
  ·have hk9 : k9 = 0 ∨ k9 = 1 ∨ k9 = 2 ∨ k9 = 3 ∨ k9 = 4 ∨ k9 = 5 ∨ k9 = 6 ∨ k9 = 7 ∨ k9 = 8 ∨ k9 = 9 ∨ k9 = 10 := by omega
   rcases hk9 with rfl | rfl | rfl | rfl | rfl | rfl | rfl | rfl | rfl | rfl | rfl
   ·subst c1
    refine lv_tableIn (off := 59) (tgt := 60) hx hb dX10_count_1 (by decide) (by decide) (by decide) (by decide) ?_
    refine lv_aload_n hx hb dX10_count_60 rfl (lv_at hl 0 rfl) ?_
    refine va_get (D := g.1) (ci := 10) (v := .ref oH) (C := RX10) (T := TX10) (N := 12) hx hb hts hinX10 hown hC.1 hP 0 rfl rfl 1 (by decide) f19 (fun _ h9 => h9) rfl dX10_count_61 ?_
    refine va_getN (D := g.1) (ci := 6) (v := .int (nI nE)) (C := RX6) (T := TX6) (N := 6) hx hb hts hinX6 hown hC.1 hP 1 rfl rfl 1 (by decide) f90 (fun _ h9 => h9) rfl dX10_count_64 ?_
    exact retSi hx hb hr hlocks (rfl) dX10_count_67
   ·subst c1
    refine lv_tableIn (off := 67) (tgt := 68) hx hb dX10_count_1 (by decide) (by decide) (by decide) (by decide) ?_
    refine lv_aload_n hx hb dX10_count_68 rfl (lv_at hl 0 rfl) ?_
    refine va_get (D := g.1) (ci := 10) (v := .ref oH) (C := RX10) (T := TX10) (N := 12) hx hb hts hinX10 hown hC.1 hP 0 rfl rfl 1 (by decide) f19 (fun _ h9 => h9) rfl dX10_count_69 ?_
    refine va_getN (D := g.1) (ci := 6) (v := .int (nI nB)) (C := RX6) (T := TX6) (N := 6) hx hb hts hinX6 hown hC.1 hP 1 rfl rfl 2 (by decide) f270 (fun _ h9 => h9) rfl dX10_count_72 ?_
    exact retSi hx hb hr hlocks (rfl) dX10_count_75
   ·subst c1
    refine lv_tableIn (off := 75) (tgt := 76) hx hb dX10_count_1 (by decide) (by decide) (by decide) (by decide) ?_
    refine lv_aload_n hx hb dX10_count_76 rfl (lv_at hl 0 rfl) ?_
    refine va_get (D := g.1) (ci := 10) (v := .ref oH) (C := RX10) (T := TX10) (N := 12) hx hb hts hinX10 hown hC.1 hP 0 rfl rfl 1 (by decide) f19 (fun _ h9 => h9) rfl dX10_count_77 ?_
    refine va_getN (D := g.1) (ci := 6) (v := .int (nI nTb)) (C := RX6) (T := TX6) (N := 6) hx hb hts hinX6 hown hC.1 hP 1 rfl rfl 3 (by decide) f176 (fun _ h9 => h9) rfl dX10_count_80 ?_
    exact retSi hx hb hr hlocks (rfl) dX10_count_83
   ·subst c1
    refine lv_tableIn (off := 83) (tgt := 84) hx hb dX10_count_1 (by decide) (by decide) (by decide) (by decide) ?_
    refine lv_aload_n hx hb dX10_count_84 rfl (lv_at hl 0 rfl) ?_
    refine va_get (D := g.1) (ci := 10) (v := .ref oH) (C := RX10) (T := TX10) (N := 12) hx hb hts hinX10 hown hC.1 hP 0 rfl rfl 1 (by decide) f19 (fun _ h9 => h9) rfl dX10_count_85 ?_
    refine va_getN (D := g.1) (ci := 6) (v := .int (nI nTr)) (C := RX6) (T := TX6) (N := 6) hx hb hts hinX6 hown hC.1 hP 1 rfl rfl 4 (by decide) f179 (fun _ h9 => h9) rfl dX10_count_88 ?_
    exact retSi hx hb hr hlocks (rfl) dX10_count_91
   ·subst c1
    refine lv_tableIn (off := 91) (tgt := 92) hx hb dX10_count_1 (by decide) (by decide) (by decide) (by decide) ?_
    refine lv_aload_n hx hb dX10_count_92 rfl (lv_at hl 0 rfl) ?_
    refine va_get (D := g.1) (ci := 10) (v := .ref oH) (C := RX10) (T := TX10) (N := 12) hx hb hts hinX10 hown hC.1 hP 0 rfl rfl 1 (by decide) f19 (fun _ h9 => h9) rfl dX10_count_93 ?_
    refine va_getN (D := g.1) (ci := 6) (v := .int (nI nFa)) (C := RX6) (T := TX6) (N := 6) hx hb hts hinX6 hown hC.1 hP 1 rfl rfl 5 (by decide) f132 (fun _ h9 => h9) rfl dX10_count_96 ?_
    exact retSi hx hb hr hlocks (rfl) dX10_count_99
   ·subst c1
    refine lv_tableIn (off := 99) (tgt := 100) hx hb dX10_count_1 (by decide) (by decide) (by decide) (by decide) ?_
    refine lv_aload_n hx hb dX10_count_100 rfl (lv_at hl 0 rfl) ?_
    refine va_get (D := g.1) (ci := 10) (v := .ref oT) (C := RX10) (T := TX10) (N := 12) hx hb hts hinX10 hown hC.1 hP 0 rfl rfl 2 (by decide) f26 (fun _ h9 => h9) rfl dX10_count_101 ?_
    refine goSi (T := nI (popS ib 6)) (va_runV (As := []) (rest := []) ⟨hx, hb, hml, hown, hts⟩ (k_X8_howManyInBox l g oT aB aW aS aU aK fi ib sn (by first | assumption | exact Nat.zero_le _ | omega)) (cwV 0 hts gX10_count_X8_howManyInBox rfl rfl rfl ⟨rfl, hdX8_howManyInBox⟩ ⟨Nat.le_of_ble_eq_true rfl, Nat.le_of_ble_eq_true rfl⟩) (preVS hC (hP.sub [2] rfl) (va_recv hC.1 hP (ci := 8) (q0 := 2) rfl rfl)) rfl rfl hl.1 rfl (lv_room (Nat.le_of_ble_eq_true rfl)) dX10_count_104 ⟨Nat.le_of_ble_eq_true rfl, Nat.le_of_ble_eq_true rfl⟩) ?_
    exact retSi hx hb hr hlocks (rfl) dX10_count_107
   ·subst c1
    refine lv_tableIn (off := 107) (tgt := 108) hx hb dX10_count_1 (by decide) (by decide) (by decide) (by decide) ?_
    refine lv_aload_n hx hb dX10_count_108 rfl (lv_at hl 0 rfl) ?_
    refine va_get (D := g.1) (ci := 10) (v := .ref oT) (C := RX10) (T := TX10) (N := 12) hx hb hts hinX10 hown hC.1 hP 0 rfl rfl 2 (by decide) f26 (fun _ h9 => h9) rfl dX10_count_109 ?_
    refine va_getN (D := g.1) (ci := 8) (v := .int (nI sn)) (C := RX8) (T := TX8) (N := 8) hx hb hts hinX8 hown hC.1 hP 2 rfl rfl 7 (by decide) f121 (fun _ h9 => h9) rfl dX10_count_112 ?_
    exact retSi hx hb hr hlocks (rfl) dX10_count_115
   ·subst c1
    refine lv_tableIn (off := 115) (tgt := 116) hx hb dX10_count_1 (by decide) (by decide) (by decide) (by decide) ?_
    refine lv_aload_n hx hb dX10_count_116 rfl (lv_at hl 0 rfl) ?_
    refine va_get (D := g.1) (ci := 10) (v := .int (nI tC)) (C := RX10) (T := TX10) (N := 12) hx hb hts hinX10 hown hC.1 hP 0 rfl rfl 7 (by decide) f79 (fun _ h9 => h9) rfl dX10_count_117 ?_
    exact retSi hx hb hr hlocks (rfl) dX10_count_120
   ·subst c1
    refine lv_tableIn (off := 120) (tgt := 121) hx hb dX10_count_1 (by decide) (by decide) (by decide) (by decide) ?_
    refine lv_aload_n hx hb dX10_count_121 rfl (lv_at hl 0 rfl) ?_
    refine va_get (D := g.1) (ci := 10) (v := .ref oP) (C := RX10) (T := TX10) (N := 12) hx hb hts hinX10 hown hC.1 hP 0 rfl rfl 0 (by decide) f10 (fun _ h9 => h9) rfl dX10_count_122 ?_
    refine va_getN (D := g.1) (ci := 7) (v := .int (nI cN)) (C := RX7) (T := TX7) (N := 2) hx hb hts hinX7 hown hC.1 hP 3 rfl rfl 1 (by decide) f273 (fun _ h9 => h9) rfl dX10_count_125 ?_
    exact retSi hx hb hr hlocks (rfl) dX10_count_128
   ·subst c1
    refine lv_tableIn (off := 128) (tgt := 129) hx hb dX10_count_1 (by decide) (by decide) (by decide) (by decide) ?_
    refine lv_aload_n hx hb dX10_count_129 rfl (lv_at hl 0 rfl) ?_
    refine va_get (D := g.1) (ci := 10) (v := .int (nI kR)) (C := RX10) (T := TX10) (N := 12) hx hb hts hinX10 hown hC.1 hP 0 rfl rfl 10 (by decide) f87 (fun _ h9 => h9) rfl dX10_count_130 ?_
    exact retSi hx hb hr hlocks (rfl) dX10_count_133
   ·subst c1
    refine lv_tableIn (off := 133) (tgt := 134) hx hb dX10_count_1 (by decide) (by decide) (by decide) (by decide) ?_
    refine lv_aload_n hx hb dX10_count_134 rfl (lv_at hl 0 rfl) ?_
    refine va_get (D := g.1) (ci := 10) (v := .int (nI bD)) (C := RX10) (T := TX10) (N := 12) hx hb hts hinX10 hown hC.1 hP 0 rfl rfl 11 (by decide) f188 (fun _ h9 => h9) rfl dX10_count_135 ?_
    exact retSi hx hb hr hlocks (rfl) dX10_count_138
  ·refine lv_tableOut (tgt := 139) hx hb dX10_count_1 (by omega) (by decide) ?_
   refine lv_bipush (v := (-102)) hx hb dX10_count_139 (by decide) ?_
   exact retSi hx hb hr hlocks ((if_pos c1).symm) dX10_count_141

set_option maxHeartbeats 4000000 in
set_option maxRecDepth 100000 in
/-- BoiledEggs.image  -/
theorem k_X10_image (l : Launch) (g : GG) (sz : Nat) (oM : Nat) (oP : Nat) (oH : Nat) (oT : Nat) (oK : Nat) (oR : Nat) (oD : Nat) (aT : Nat) (tC : Nat) (tK : Nat) (iK : Int32) (kR : Nat) (bD : Nat) (aH : Nat) (nE : Nat) (nB : Nat) (nTb : Nat) (nTr : Nat) (nFa : Nat) (aB : Nat) (aW : Nat) (aS : Nat) (aU : Nat) (aK : Nat) (fi : Nat) (ib : Nat) (sn : Nat) (bB : Nat) (bW : Nat) (bS : Nat) (bU : Nat) (bK : Nat) (gi : Nat) (gb : Nat) (gn : Nat) (fB : Nat → Nat) (fW : Nat → Nat) (fS : Nat → Nat) (fU : Nat → Nat) (fK : Nat → Int32) (gB : Nat → Nat) (gW : Nat → Nat) (gS : Nat → Nat) (gU : Nat → Nat) (gK : Nat → Int32) (hE : nE ≤ 6) (hib : ib < 64) : Met l yX10_image wsX10_image ({ frames := 2, cells := 0, slots := 0, locals := 56 }) (pM g sz [.ref oM] [(oM, .inr (10, [.ref oP, .ref oH, .ref oT, .ref oK, .ref oR, .ref oD, .ref aT, .int (nI tC), .int (nI tK), .int iK, .int (nI kR), .int (nI bD)])), (oH, .inr (6, [.ref aH, .int (nI nE), .int (nI nB), .int (nI nTb), .int (nI nTr), .int (nI nFa)])), (oT, .inr (8, [.ref aB, .ref aW, .ref aS, .ref aU, .ref aK, .int (nI fi), .int (nI ib), .int (nI sn)])), (aB, .inl (g.2.1, 20, .inl (fun j => nI (fB j)))), (aW, .inl (g.2.2.1, 20, .inr (.inl (fun j => lN (fW j))))), (aS, .inl (g.2.1, 6, .inl (fun j => nI (fS j)))), (aU, .inl (g.2.1, 6, .inl (fun j => nI (fU j)))), (aK, .inl (g.2.1, 6, .inl fK)), (oK, .inr (8, [.ref bB, .ref bW, .ref bS, .ref bU, .ref bK, .int (nI gi), .int (nI gb), .int (nI gn)])), (bB, .inl (g.2.1, 20, .inl (fun j => nI (gB j)))), (bW, .inl (g.2.2.1, 20, .inr (.inl (fun j => lN (gW j))))), (bS, .inl (g.2.1, 6, .inl (fun j => nI (gS j)))), (bU, .inl (g.2.1, 6, .inl (fun j => nI (gU j)))), (bK, .inl (g.2.1, 6, .inl gK))]) (qMi g (fun r (_ : Unit) => r = if nE = 0 then -103 else nI (popS ib 6)) (fun (_ : Unit) => [(oM, .inr (10, [.ref oP, .ref oH, .ref oT, .ref oK, .ref oR, .ref oD, .ref aT, .int (nI tC), .int (nI (cond (decide (0 < nE)) (tC) (tK))), .int (cond (decide (0 < nE)) (nI 1) iK), .int (nI kR), .int (nI bD)])), (oH, .inr (6, [.ref aH, .int (nI nE), .int (nI nB), .int (nI nTb), .int (nI nTr), .int (nI nFa)])), (oT, .inr (8, [.ref aB, .ref aW, .ref aS, .ref aU, .ref aK, .int (nI fi), .int (nI ib), .int (nI sn)])), (aB, .inl (g.2.1, 20, .inl (fun j => nI (fB j)))), (aW, .inl (g.2.2.1, 20, .inr (.inl (fun j => lN (fW j))))), (aS, .inl (g.2.1, 6, .inl (fun j => nI (fS j)))), (aU, .inl (g.2.1, 6, .inl (fun j => nI (fU j)))), (aK, .inl (g.2.1, 6, .inl fK)), (oK, .inr (8, [.ref bB, .ref bW, .ref bS, .ref bU, .ref bK, .int (nI (cond (decide (0 < nE)) (fi) (gi))), .int (nI (cond (decide (0 < nE)) (ib) (gb))), .int (nI (cond (decide (0 < nE)) (sn) (gn)))])), (bB, .inl (g.2.1, 20, .inl (fun j => nI (cond (decide (0 < nE)) (cpN fB gB 20) gB j)))), (bW, .inl (g.2.2.1, 20, .inr (.inl (fun j => lN (cond (decide (0 < nE)) (cpN fW gW 20) gW j))))), (bS, .inl (g.2.1, 6, .inl (fun j => nI (cond (decide (0 < nE)) (cpN fS gS 6) gS j)))), (bU, .inl (g.2.1, 6, .inl (fun j => nI (cond (decide (0 < nE)) (cpN fU gU 6) gU j)))), (bK, .inl (g.2.1, 6, .inl (cond (decide (0 < nE)) (cpN fK gK 6) gK)))]) (va_A [(oM, .inr (10, [.ref oP, .ref oH, .ref oT, .ref oK, .ref oR, .ref oD, .ref aT, .int (nI tC), .int (nI tK), .int iK, .int (nI kR), .int (nI bD)])), (oH, .inr (6, [.ref aH, .int (nI nE), .int (nI nB), .int (nI nTb), .int (nI nTr), .int (nI nFa)])), (oT, .inr (8, [.ref aB, .ref aW, .ref aS, .ref aU, .ref aK, .int (nI fi), .int (nI ib), .int (nI sn)])), (aB, .inl (g.2.1, 20, .inl (fun j => nI (fB j)))), (aW, .inl (g.2.2.1, 20, .inr (.inl (fun j => lN (fW j))))), (aS, .inl (g.2.1, 6, .inl (fun j => nI (fS j)))), (aU, .inl (g.2.1, 6, .inl (fun j => nI (fU j)))), (aK, .inl (g.2.1, 6, .inl fK)), (oK, .inr (8, [.ref bB, .ref bW, .ref bS, .ref bU, .ref bK, .int (nI gi), .int (nI gb), .int (nI gn)])), (bB, .inl (g.2.1, 20, .inl (fun j => nI (gB j)))), (bW, .inl (g.2.2.1, 20, .inr (.inl (fun j => lN (gW j))))), (bS, .inl (g.2.1, 6, .inl (fun j => nI (gS j)))), (bU, .inl (g.2.1, 6, .inl (fun j => nI (gU j)))), (bK, .inl (g.2.1, 6, .inl gK))] sz)) 0 0 (va_A [(oM, .inr (10, [.ref oP, .ref oH, .ref oT, .ref oK, .ref oR, .ref oD, .ref aT, .int (nI tC), .int (nI tK), .int iK, .int (nI kR), .int (nI bD)])), (oH, .inr (6, [.ref aH, .int (nI nE), .int (nI nB), .int (nI nTb), .int (nI nTr), .int (nI nFa)])), (oT, .inr (8, [.ref aB, .ref aW, .ref aS, .ref aU, .ref aK, .int (nI fi), .int (nI ib), .int (nI sn)])), (aB, .inl (g.2.1, 20, .inl (fun j => nI (fB j)))), (aW, .inl (g.2.2.1, 20, .inr (.inl (fun j => lN (fW j))))), (aS, .inl (g.2.1, 6, .inl (fun j => nI (fS j)))), (aU, .inl (g.2.1, 6, .inl (fun j => nI (fU j)))), (aK, .inl (g.2.1, 6, .inl fK)), (oK, .inr (8, [.ref bB, .ref bW, .ref bS, .ref bU, .ref bK, .int (nI gi), .int (nI gb), .int (nI gn)])), (bB, .inl (g.2.1, 20, .inl (fun j => nI (gB j)))), (bW, .inl (g.2.2.1, 20, .inr (.inl (fun j => lN (gW j))))), (bS, .inl (g.2.1, 6, .inl (fun j => nI (gS j)))), (bU, .inl (g.2.1, 6, .inl (fun j => nI (gU j)))), (bK, .inl (g.2.1, 6, .inl gK))] sz) := by
  refine metM (Qf := fun A => (qMi g (fun r (_ : Unit) => r = if nE = 0 then -103 else nI (popS ib 6)) (fun (_ : Unit) => [(oM, .inr (10, [.ref oP, .ref oH, .ref oT, .ref oK, .ref oR, .ref oD, .ref aT, .int (nI tC), .int (nI (cond (decide (0 < nE)) (tC) (tK))), .int (cond (decide (0 < nE)) (nI 1) iK), .int (nI kR), .int (nI bD)])), (oH, .inr (6, [.ref aH, .int (nI nE), .int (nI nB), .int (nI nTb), .int (nI nTr), .int (nI nFa)])), (oT, .inr (8, [.ref aB, .ref aW, .ref aS, .ref aU, .ref aK, .int (nI fi), .int (nI ib), .int (nI sn)])), (aB, .inl (g.2.1, 20, .inl (fun j => nI (fB j)))), (aW, .inl (g.2.2.1, 20, .inr (.inl (fun j => lN (fW j))))), (aS, .inl (g.2.1, 6, .inl (fun j => nI (fS j)))), (aU, .inl (g.2.1, 6, .inl (fun j => nI (fU j)))), (aK, .inl (g.2.1, 6, .inl fK)), (oK, .inr (8, [.ref bB, .ref bW, .ref bS, .ref bU, .ref bK, .int (nI (cond (decide (0 < nE)) (fi) (gi))), .int (nI (cond (decide (0 < nE)) (ib) (gb))), .int (nI (cond (decide (0 < nE)) (sn) (gn)))])), (bB, .inl (g.2.1, 20, .inl (fun j => nI (cond (decide (0 < nE)) (cpN fB gB 20) gB j)))), (bW, .inl (g.2.2.1, 20, .inr (.inl (fun j => lN (cond (decide (0 < nE)) (cpN fW gW 20) gW j))))), (bS, .inl (g.2.1, 6, .inl (fun j => nI (cond (decide (0 < nE)) (cpN fS gS 6) gS j)))), (bU, .inl (g.2.1, 6, .inl (fun j => nI (cond (decide (0 < nE)) (cpN fU gU 6) gU j)))), (bK, .inl (g.2.1, 6, .inl (cond (decide (0 < nE)) (cpN fK gK 6) gK)))]) A)) (cc := cX10_image) (maxL := 1) (ret := (some .int)) (by decide) rfl (Nat.le_of_ble_eq_true rfl) ?_
  intro p e s m below meth c hx hb hr hts hown hlocks hml hin0 hC A hA hP hD hS ls hl
  have hl : lv_has ls 1 [(0, .ref oM)] := hl
  have hown : s.vm.findClass RX10 = some m.cls := hown
  have hts : ∀ w ∈ wsX10_image, w.before ([.ref oM] : List Value).toArray s = true := hts
  have hinX10 := (by decide +kernel : ∀ w ∈ u_ws RX10 TX10 12, w ∈ wsX10_image)
  have f30 := hts (.fieldLink RX10 30 "BoiledEggs" "kept" "LBoiledEggs$Told;") (by decide +kernel)
  have f26 := hts (.fieldLink RX10 26 "BoiledEggs" "told" "LBoiledEggs$Told;") (by decide +kernel)
  have f79 := hts (.fieldLink RX10 79 "BoiledEggs" "trierCount" "I") (by decide +kernel)
  have f267 := hts (.fieldLink RX10 267 "BoiledEggs" "keptTriers" "I") (by decide +kernel)
  have f83 := hts (.fieldLink RX10 83 "BoiledEggs" "isKept" "Z") (by decide +kernel)
  refine lv_aload_n hx hb dX10_image_0 rfl (lv_at hl 0 rfl) ?_
  refine goSi (T := zI (decide (0 < nE))) (va_runV (As := []) (rest := []) ⟨hx, hb, hml, hown, hts⟩ (k_X10_hasKitchen l g oM oP oH oT oK oR oD aT tC tK iK kR bD aH nE nB nTb nTr nFa (by first | assumption | exact Nat.zero_le _ | omega)) (cwV 0 hts gX10_image_X10_hasKitchen rfl rfl rfl ⟨rfl, hdX10_hasKitchen⟩ ⟨Nat.le_of_ble_eq_true rfl, Nat.le_of_ble_eq_true rfl⟩) (preVS hC (hP.sub [0, 1] rfl) (va_recv hC.1 hP (ci := 10) (q0 := 0) rfl rfl)) rfl rfl hl.1 rfl (lv_room (Nat.le_of_ble_eq_true rfl)) dX10_image_1 ⟨Nat.le_of_ble_eq_true rfl, Nat.le_of_ble_eq_true rfl⟩) ?_
  refine lv_if_ne (tgt := 10) hx hb dX10_image_4 (by decide) (fun c4 => ?_) (fun c4 => ?_)
  ·have c4 := zI_t.mp c4
   have h1 := of_decide_eq_true c4
   refine lv_aload_n hx hb dX10_image_10 rfl (lv_at hl 0 rfl) ?_
   refine va_get (D := g.1) (ci := 10) (v := .ref oK) (C := RX10) (T := TX10) (N := 12) hx hb hts hinX10 hown hC.1 hP 0 rfl rfl 3 (by decide) f30 (fun _ h9 => h9) rfl dX10_image_11 ?_
   refine lv_aload_n hx hb dX10_image_14 rfl (lv_at hl 0 rfl) ?_
   refine va_get (D := g.1) (ci := 10) (v := .ref oT) (C := RX10) (T := TX10) (N := 12) hx hb hts hinX10 hown hC.1 hP 0 rfl rfl 2 (by decide) f26 (fun _ h9 => h9) rfl dX10_image_15 ?_
   refine goMv (S := Unit) (wr := [(oM, .inr (10, [.ref oP, .ref oH, .ref oT, .ref oK, .ref oR, .ref oD, .ref aT, .int (nI tC), .int (nI tK), .int iK, .int (nI kR), .int (nI bD)])), (oH, .inr (6, [.ref aH, .int (nI nE), .int (nI nB), .int (nI nTb), .int (nI nTr), .int (nI nFa)]))]) (va_runV (As := [.ref oT]) (rest := []) ⟨hx, hb, hml, hown, hts⟩ (k_X8_copyFrom l g _ oK bB bW bS bU bK gi gb gn oT aB aW aS aU aK fi ib sn gB gW gS gU gK fB fW fS fU fK ) (cwV 1 hts gX10_image_X8_copyFrom rfl rfl rfl ⟨rfl, hdX8_copyFrom⟩ ⟨Nat.le_of_ble_eq_true rfl, Nat.le_of_ble_eq_true rfl⟩) (preVM hC (hP.sub [8, 9, 10, 11, 12, 13, 2, 3, 4, 5, 6, 7] rfl) (hD.sub [8, 9, 10, 11, 12, 13, 2, 3, 4, 5, 6, 7] (by decide) rfl) (va_recv hC.1 hP (ci := 8) (q0 := 8) rfl rfl)) rfl rfl hl.1 rfl (lv_room (Nat.le_of_ble_eq_true rfl)) dX10_image_18 ⟨Nat.le_of_ble_eq_true rfl, Nat.le_of_ble_eq_true rfl⟩) hP hD hS hA [8, 9, 10, 11, 12, 13, 2, 3, 4, 5, 6, 7] [0, 1] rfl rfl (by decide) (by decide) (fun _ H locs hw_9 hP hD hS => ?_)
   have hP : va_P g.1 vwCl [(oM, .inr (10, [.ref oP, .ref oH, .ref oT, .ref oK, .ref oR, .ref oD, .ref aT, .int (nI tC), .int (nI tK), .int iK, .int (nI kR), .int (nI bD)])), (oH, .inr (6, [.ref aH, .int (nI nE), .int (nI nB), .int (nI nTb), .int (nI nTr), .int (nI nFa)])), (oK, .inr (8, [.ref bB, .ref bW, .ref bS, .ref bU, .ref bK, .int (nI fi), .int (nI ib), .int (nI sn)])), (bB, .inl (g.2.1, 20, .inl (fun j => nI (cpN fB gB 20 j)))), (bW, .inl (g.2.2.1, 20, .inr (.inl (fun j => lN (cpN fW gW 20 j))))), (bS, .inl (g.2.1, 6, .inl (fun j => nI (cpN fS gS 6 j)))), (bU, .inl (g.2.1, 6, .inl (fun j => nI (cpN fU gU 6 j)))), (bK, .inl (g.2.1, 6, .inl (cpN fK gK 6))), (oT, .inr (8, [.ref aB, .ref aW, .ref aS, .ref aU, .ref aK, .int (nI fi), .int (nI ib), .int (nI sn)])), (aB, .inl (g.2.1, 20, .inl (fun j => nI (fB j)))), (aW, .inl (g.2.2.1, 20, .inr (.inl (fun j => lN (fW j))))), (aS, .inl (g.2.1, 6, .inl (fun j => nI (fS j)))), (aU, .inl (g.2.1, 6, .inl (fun j => nI (fU j)))), (aK, .inl (g.2.1, 6, .inl fK))] H := hP
   have hD : va_D A [(oM, .inr (10, [.ref oP, .ref oH, .ref oT, .ref oK, .ref oR, .ref oD, .ref aT, .int (nI tC), .int (nI tK), .int iK, .int (nI kR), .int (nI bD)])), (oH, .inr (6, [.ref aH, .int (nI nE), .int (nI nB), .int (nI nTb), .int (nI nTr), .int (nI nFa)])), (oK, .inr (8, [.ref bB, .ref bW, .ref bS, .ref bU, .ref bK, .int (nI fi), .int (nI ib), .int (nI sn)])), (bB, .inl (g.2.1, 20, .inl (fun j => nI (cpN fB gB 20 j)))), (bW, .inl (g.2.2.1, 20, .inr (.inl (fun j => lN (cpN fW gW 20 j))))), (bS, .inl (g.2.1, 6, .inl (fun j => nI (cpN fS gS 6 j)))), (bU, .inl (g.2.1, 6, .inl (fun j => nI (cpN fU gU 6 j)))), (bK, .inl (g.2.1, 6, .inl (cpN fK gK 6))), (oT, .inr (8, [.ref aB, .ref aW, .ref aS, .ref aU, .ref aK, .int (nI fi), .int (nI ib), .int (nI sn)])), (aB, .inl (g.2.1, 20, .inl (fun j => nI (fB j)))), (aW, .inl (g.2.2.1, 20, .inr (.inl (fun j => lN (fW j))))), (aS, .inl (g.2.1, 6, .inl (fun j => nI (fS j)))), (aU, .inl (g.2.1, 6, .inl (fun j => nI (fU j)))), (aK, .inl (g.2.1, 6, .inl fK))] := hD
   refine lv_aload_n hx hb dX10_image_21 rfl (lv_at hl 0 rfl) ?_
   refine lv_aload_n hx hb dX10_image_22 rfl (lv_at hl 0 rfl) ?_
   refine va_get (D := g.1) (ci := 10) (v := .int (nI tC)) (C := RX10) (T := TX10) (N := 12) hx hb hts hinX10 hown hC.1 hP 0 rfl rfl 7 (by decide) f79 (fun _ h9 => h9) rfl dX10_image_23 ?_
   refine va_put (D := g.1) (ci := 10) (v := .int (nI tC)) (ty := .int) (C := RX10) (T := TX10) (N := 12) hx hb hts hinX10 tyX10 tyX10_ok nmX10 hown hC.1 hP hD hS 0 rfl rfl 8 (by decide) f267 (fun _ h9 => h9) rfl (by decide +kernel) rfl rfl (Nat.le_of_ble_eq_true rfl) dX10_image_26 (fun H locs hP hD hS => ?_)
   have hP : va_P g.1 vwCl [(oM, .inr (10, [.ref oP, .ref oH, .ref oT, .ref oK, .ref oR, .ref oD, .ref aT, .int (nI tC), .int (nI tC), .int iK, .int (nI kR), .int (nI bD)])), (oH, .inr (6, [.ref aH, .int (nI nE), .int (nI nB), .int (nI nTb), .int (nI nTr), .int (nI nFa)])), (oK, .inr (8, [.ref bB, .ref bW, .ref bS, .ref bU, .ref bK, .int (nI fi), .int (nI ib), .int (nI sn)])), (bB, .inl (g.2.1, 20, .inl (fun j => nI (cpN fB gB 20 j)))), (bW, .inl (g.2.2.1, 20, .inr (.inl (fun j => lN (cpN fW gW 20 j))))), (bS, .inl (g.2.1, 6, .inl (fun j => nI (cpN fS gS 6 j)))), (bU, .inl (g.2.1, 6, .inl (fun j => nI (cpN fU gU 6 j)))), (bK, .inl (g.2.1, 6, .inl (cpN fK gK 6))), (oT, .inr (8, [.ref aB, .ref aW, .ref aS, .ref aU, .ref aK, .int (nI fi), .int (nI ib), .int (nI sn)])), (aB, .inl (g.2.1, 20, .inl (fun j => nI (fB j)))), (aW, .inl (g.2.2.1, 20, .inr (.inl (fun j => lN (fW j))))), (aS, .inl (g.2.1, 6, .inl (fun j => nI (fS j)))), (aU, .inl (g.2.1, 6, .inl (fun j => nI (fU j)))), (aK, .inl (g.2.1, 6, .inl fK))] H := hP
   have hD : va_D A [(oM, .inr (10, [.ref oP, .ref oH, .ref oT, .ref oK, .ref oR, .ref oD, .ref aT, .int (nI tC), .int (nI tC), .int iK, .int (nI kR), .int (nI bD)])), (oH, .inr (6, [.ref aH, .int (nI nE), .int (nI nB), .int (nI nTb), .int (nI nTr), .int (nI nFa)])), (oK, .inr (8, [.ref bB, .ref bW, .ref bS, .ref bU, .ref bK, .int (nI fi), .int (nI ib), .int (nI sn)])), (bB, .inl (g.2.1, 20, .inl (fun j => nI (cpN fB gB 20 j)))), (bW, .inl (g.2.2.1, 20, .inr (.inl (fun j => lN (cpN fW gW 20 j))))), (bS, .inl (g.2.1, 6, .inl (fun j => nI (cpN fS gS 6 j)))), (bU, .inl (g.2.1, 6, .inl (fun j => nI (cpN fU gU 6 j)))), (bK, .inl (g.2.1, 6, .inl (cpN fK gK 6))), (oT, .inr (8, [.ref aB, .ref aW, .ref aS, .ref aU, .ref aK, .int (nI fi), .int (nI ib), .int (nI sn)])), (aB, .inl (g.2.1, 20, .inl (fun j => nI (fB j)))), (aW, .inl (g.2.2.1, 20, .inr (.inl (fun j => lN (fW j))))), (aS, .inl (g.2.1, 6, .inl (fun j => nI (fS j)))), (aU, .inl (g.2.1, 6, .inl (fun j => nI (fU j)))), (aK, .inl (g.2.1, 6, .inl fK))] := hD
   refine lv_aload_n hx hb dX10_image_29 rfl (lv_at hl 0 rfl) ?_
   refine lv_iconst (v := nI 1) hx hb dX10_image_30 (by decide) ?_
   refine va_put (D := g.1) (ci := 10) (v := .int (nI 1)) (ty := .boolean) (C := RX10) (T := TX10) (N := 12) hx hb hts hinX10 tyX10 tyX10_ok nmX10 hown hC.1 hP hD hS 0 rfl rfl 9 (by decide) f83 (fun _ h9 => h9) rfl (by decide +kernel) rfl rfl (Nat.le_of_ble_eq_true rfl) dX10_image_31 (fun H locs hP hD hS => ?_)
   have hP : va_P g.1 vwCl [(oM, .inr (10, [.ref oP, .ref oH, .ref oT, .ref oK, .ref oR, .ref oD, .ref aT, .int (nI tC), .int (nI tC), .int (nI 1), .int (nI kR), .int (nI bD)])), (oH, .inr (6, [.ref aH, .int (nI nE), .int (nI nB), .int (nI nTb), .int (nI nTr), .int (nI nFa)])), (oK, .inr (8, [.ref bB, .ref bW, .ref bS, .ref bU, .ref bK, .int (nI fi), .int (nI ib), .int (nI sn)])), (bB, .inl (g.2.1, 20, .inl (fun j => nI (cpN fB gB 20 j)))), (bW, .inl (g.2.2.1, 20, .inr (.inl (fun j => lN (cpN fW gW 20 j))))), (bS, .inl (g.2.1, 6, .inl (fun j => nI (cpN fS gS 6 j)))), (bU, .inl (g.2.1, 6, .inl (fun j => nI (cpN fU gU 6 j)))), (bK, .inl (g.2.1, 6, .inl (cpN fK gK 6))), (oT, .inr (8, [.ref aB, .ref aW, .ref aS, .ref aU, .ref aK, .int (nI fi), .int (nI ib), .int (nI sn)])), (aB, .inl (g.2.1, 20, .inl (fun j => nI (fB j)))), (aW, .inl (g.2.2.1, 20, .inr (.inl (fun j => lN (fW j))))), (aS, .inl (g.2.1, 6, .inl (fun j => nI (fS j)))), (aU, .inl (g.2.1, 6, .inl (fun j => nI (fU j)))), (aK, .inl (g.2.1, 6, .inl fK))] H := hP
   have hD : va_D A [(oM, .inr (10, [.ref oP, .ref oH, .ref oT, .ref oK, .ref oR, .ref oD, .ref aT, .int (nI tC), .int (nI tC), .int (nI 1), .int (nI kR), .int (nI bD)])), (oH, .inr (6, [.ref aH, .int (nI nE), .int (nI nB), .int (nI nTb), .int (nI nTr), .int (nI nFa)])), (oK, .inr (8, [.ref bB, .ref bW, .ref bS, .ref bU, .ref bK, .int (nI fi), .int (nI ib), .int (nI sn)])), (bB, .inl (g.2.1, 20, .inl (fun j => nI (cpN fB gB 20 j)))), (bW, .inl (g.2.2.1, 20, .inr (.inl (fun j => lN (cpN fW gW 20 j))))), (bS, .inl (g.2.1, 6, .inl (fun j => nI (cpN fS gS 6 j)))), (bU, .inl (g.2.1, 6, .inl (fun j => nI (cpN fU gU 6 j)))), (bK, .inl (g.2.1, 6, .inl (cpN fK gK 6))), (oT, .inr (8, [.ref aB, .ref aW, .ref aS, .ref aU, .ref aK, .int (nI fi), .int (nI ib), .int (nI sn)])), (aB, .inl (g.2.1, 20, .inl (fun j => nI (fB j)))), (aW, .inl (g.2.2.1, 20, .inr (.inl (fun j => lN (fW j))))), (aS, .inl (g.2.1, 6, .inl (fun j => nI (fS j)))), (aU, .inl (g.2.1, 6, .inl (fun j => nI (fU j)))), (aK, .inl (g.2.1, 6, .inl fK))] := hD
   refine lv_aload_n hx hb dX10_image_34 rfl (lv_at hl 0 rfl) ?_
   refine va_get (D := g.1) (ci := 10) (v := .ref oT) (C := RX10) (T := TX10) (N := 12) hx hb hts hinX10 hown hC.1 hP 0 rfl rfl 2 (by decide) f26 (fun _ h9 => h9) rfl dX10_image_35 ?_
   refine goSi (T := nI (popS ib 6)) (va_runV (As := []) (rest := []) ⟨hx, hb, hml, hown, hts⟩ (k_X8_howManyInBox l g oT aB aW aS aU aK fi ib sn (by first | assumption | exact Nat.zero_le _ | omega)) (cwV 0 hts gX10_image_X8_howManyInBox rfl rfl rfl ⟨rfl, hdX8_howManyInBox⟩ ⟨Nat.le_of_ble_eq_true rfl, Nat.le_of_ble_eq_true rfl⟩) (preVS hC (hP.sub [8] rfl) (va_recv hC.1 hP (ci := 8) (q0 := 8) rfl rfl)) rfl rfl hl.1 rfl (lv_room (Nat.le_of_ble_eq_true rfl)) dX10_image_38 ⟨Nat.le_of_ble_eq_true rfl, Nat.le_of_ble_eq_true rfl⟩) ?_
   exact retMi (w := [(oM, .inr (10, [.ref oP, .ref oH, .ref oT, .ref oK, .ref oR, .ref oD, .ref aT, .int (nI tC), .int (nI tC), .int (nI 1), .int (nI kR), .int (nI bD)])), (oH, .inr (6, [.ref aH, .int (nI nE), .int (nI nB), .int (nI nTb), .int (nI nTr), .int (nI nFa)])), (oT, .inr (8, [.ref aB, .ref aW, .ref aS, .ref aU, .ref aK, .int (nI fi), .int (nI ib), .int (nI sn)])), (aB, .inl (g.2.1, 20, .inl (fun j => nI (fB j)))), (aW, .inl (g.2.2.1, 20, .inr (.inl (fun j => lN (fW j))))), (aS, .inl (g.2.1, 6, .inl (fun j => nI (fS j)))), (aU, .inl (g.2.1, 6, .inl (fun j => nI (fU j)))), (aK, .inl (g.2.1, 6, .inl fK)), (oK, .inr (8, [.ref bB, .ref bW, .ref bS, .ref bU, .ref bK, .int (nI fi), .int (nI ib), .int (nI sn)])), (bB, .inl (g.2.1, 20, .inl (fun j => nI (cpN fB gB 20 j)))), (bW, .inl (g.2.2.1, 20, .inr (.inl (fun j => lN (cpN fW gW 20 j))))), (bS, .inl (g.2.1, 6, .inl (fun j => nI (cpN fS gS 6 j)))), (bU, .inl (g.2.1, 6, .inl (fun j => nI (cpN fU gU 6 j)))), (bK, .inl (g.2.1, 6, .inl (cpN fK gK 6)))]) hx hb hr hlocks (hP.sub [0, 1, 8, 9, 10, 11, 12, 13, 2, 3, 4, 5, 6, 7] rfl) (hD.sub [0, 1, 8, 9, 10, 11, 12, 13, 2, 3, 4, 5, 6, 7] (by decide) rfl) hS () (by rw [c4] <;> rfl) (by rw [if_neg (by omega)]) dX10_image_41
  ·have c4 := zI_f.mp c4
   have h1 := of_decide_eq_false c4
   refine lv_bipush (v := (-103)) hx hb dX10_image_7 (by decide) ?_
   exact retMi (w := [(oM, .inr (10, [.ref oP, .ref oH, .ref oT, .ref oK, .ref oR, .ref oD, .ref aT, .int (nI tC), .int (nI tK), .int iK, .int (nI kR), .int (nI bD)])), (oH, .inr (6, [.ref aH, .int (nI nE), .int (nI nB), .int (nI nTb), .int (nI nTr), .int (nI nFa)])), (oT, .inr (8, [.ref aB, .ref aW, .ref aS, .ref aU, .ref aK, .int (nI fi), .int (nI ib), .int (nI sn)])), (aB, .inl (g.2.1, 20, .inl (fun j => nI (fB j)))), (aW, .inl (g.2.2.1, 20, .inr (.inl (fun j => lN (fW j))))), (aS, .inl (g.2.1, 6, .inl (fun j => nI (fS j)))), (aU, .inl (g.2.1, 6, .inl (fun j => nI (fU j)))), (aK, .inl (g.2.1, 6, .inl fK)), (oK, .inr (8, [.ref bB, .ref bW, .ref bS, .ref bU, .ref bK, .int (nI gi), .int (nI gb), .int (nI gn)])), (bB, .inl (g.2.1, 20, .inl (fun j => nI (gB j)))), (bW, .inl (g.2.2.1, 20, .inr (.inl (fun j => lN (gW j))))), (bS, .inl (g.2.1, 6, .inl (fun j => nI (gS j)))), (bU, .inl (g.2.1, 6, .inl (fun j => nI (gU j)))), (bK, .inl (g.2.1, 6, .inl gK))]) hx hb hr hlocks (hP.sub [0, 1, 2, 3, 4, 5, 6, 7, 8, 9, 10, 11, 12, 13] rfl) (hD.sub [0, 1, 2, 3, 4, 5, 6, 7, 8, 9, 10, 11, 12, 13] (by decide) rfl) hS () (by rw [c4] <;> rfl) (by rw [if_pos (by omega)]) dX10_image_9

set_option maxHeartbeats 4000000 in
set_option maxRecDepth 100000 in
/-- BoiledEggs.restore  -/
theorem k_X10_restore (l : Launch) (g : GG) (sz : Nat) (oM : Nat) (oP : Nat) (oH : Nat) (oT : Nat) (oK : Nat) (oR : Nat) (oD : Nat) (aT : Nat) (tC : Nat) (tK : Nat) (iK : Int32) (kR : Nat) (bD : Nat) (aB : Nat) (aW : Nat) (aS : Nat) (aU : Nat) (aK : Nat) (fi : Nat) (ib : Nat) (sn : Nat) (bB : Nat) (bW : Nat) (bS : Nat) (bU : Nat) (bK : Nat) (gi : Nat) (gb : Nat) (gn : Nat) (fB : Nat → Nat) (fW : Nat → Nat) (fS : Nat → Nat) (fU : Nat → Nat) (fK : Nat → Int32) (gB : Nat → Nat) (gW : Nat → Nat) (gS : Nat → Nat) (gU : Nat → Nat) (gK : Nat → Int32) (hgb : gb < 64) : Met l yX10_restore wsX10_restore ({ frames := 2, cells := 0, slots := 0, locals := 56 }) (pM g sz [.ref oM] [(oM, .inr (10, [.ref oP, .ref oH, .ref oT, .ref oK, .ref oR, .ref oD, .ref aT, .int (nI tC), .int (nI tK), .int iK, .int (nI kR), .int (nI bD)])), (oT, .inr (8, [.ref aB, .ref aW, .ref aS, .ref aU, .ref aK, .int (nI fi), .int (nI ib), .int (nI sn)])), (aB, .inl (g.2.1, 20, .inl (fun j => nI (fB j)))), (aW, .inl (g.2.2.1, 20, .inr (.inl (fun j => lN (fW j))))), (aS, .inl (g.2.1, 6, .inl (fun j => nI (fS j)))), (aU, .inl (g.2.1, 6, .inl (fun j => nI (fU j)))), (aK, .inl (g.2.1, 6, .inl fK)), (oK, .inr (8, [.ref bB, .ref bW, .ref bS, .ref bU, .ref bK, .int (nI gi), .int (nI gb), .int (nI gn)])), (bB, .inl (g.2.1, 20, .inl (fun j => nI (gB j)))), (bW, .inl (g.2.2.1, 20, .inr (.inl (fun j => lN (gW j))))), (bS, .inl (g.2.1, 6, .inl (fun j => nI (gS j)))), (bU, .inl (g.2.1, 6, .inl (fun j => nI (gU j)))), (bK, .inl (g.2.1, 6, .inl gK))]) (qMi g (fun r (_ : Unit) => r = if iK = 0 then -103 else nI (popS gb 6)) (fun (_ : Unit) => [(oM, .inr (10, [.ref oP, .ref oH, .ref oT, .ref oK, .ref oR, .ref oD, .ref aT, .int (nI (cond (decide (iK ≠ 0)) (tK) (tC))), .int (nI tK), .int iK, .int (nI kR), .int (nI bD)])), (oT, .inr (8, [.ref aB, .ref aW, .ref aS, .ref aU, .ref aK, .int (nI (cond (decide (iK ≠ 0)) (gi) (fi))), .int (nI (cond (decide (iK ≠ 0)) (gb) (ib))), .int (nI (cond (decide (iK ≠ 0)) (gn) (sn)))])), (aB, .inl (g.2.1, 20, .inl (fun j => nI (cond (decide (iK ≠ 0)) (cpN gB fB 20) fB j)))), (aW, .inl (g.2.2.1, 20, .inr (.inl (fun j => lN (cond (decide (iK ≠ 0)) (cpN gW fW 20) fW j))))), (aS, .inl (g.2.1, 6, .inl (fun j => nI (cond (decide (iK ≠ 0)) (cpN gS fS 6) fS j)))), (aU, .inl (g.2.1, 6, .inl (fun j => nI (cond (decide (iK ≠ 0)) (cpN gU fU 6) fU j)))), (aK, .inl (g.2.1, 6, .inl (cond (decide (iK ≠ 0)) (cpN gK fK 6) fK))), (oK, .inr (8, [.ref bB, .ref bW, .ref bS, .ref bU, .ref bK, .int (nI gi), .int (nI gb), .int (nI gn)])), (bB, .inl (g.2.1, 20, .inl (fun j => nI (gB j)))), (bW, .inl (g.2.2.1, 20, .inr (.inl (fun j => lN (gW j))))), (bS, .inl (g.2.1, 6, .inl (fun j => nI (gS j)))), (bU, .inl (g.2.1, 6, .inl (fun j => nI (gU j)))), (bK, .inl (g.2.1, 6, .inl gK))]) (va_A [(oM, .inr (10, [.ref oP, .ref oH, .ref oT, .ref oK, .ref oR, .ref oD, .ref aT, .int (nI tC), .int (nI tK), .int iK, .int (nI kR), .int (nI bD)])), (oT, .inr (8, [.ref aB, .ref aW, .ref aS, .ref aU, .ref aK, .int (nI fi), .int (nI ib), .int (nI sn)])), (aB, .inl (g.2.1, 20, .inl (fun j => nI (fB j)))), (aW, .inl (g.2.2.1, 20, .inr (.inl (fun j => lN (fW j))))), (aS, .inl (g.2.1, 6, .inl (fun j => nI (fS j)))), (aU, .inl (g.2.1, 6, .inl (fun j => nI (fU j)))), (aK, .inl (g.2.1, 6, .inl fK)), (oK, .inr (8, [.ref bB, .ref bW, .ref bS, .ref bU, .ref bK, .int (nI gi), .int (nI gb), .int (nI gn)])), (bB, .inl (g.2.1, 20, .inl (fun j => nI (gB j)))), (bW, .inl (g.2.2.1, 20, .inr (.inl (fun j => lN (gW j))))), (bS, .inl (g.2.1, 6, .inl (fun j => nI (gS j)))), (bU, .inl (g.2.1, 6, .inl (fun j => nI (gU j)))), (bK, .inl (g.2.1, 6, .inl gK))] sz)) 0 0 (va_A [(oM, .inr (10, [.ref oP, .ref oH, .ref oT, .ref oK, .ref oR, .ref oD, .ref aT, .int (nI tC), .int (nI tK), .int iK, .int (nI kR), .int (nI bD)])), (oT, .inr (8, [.ref aB, .ref aW, .ref aS, .ref aU, .ref aK, .int (nI fi), .int (nI ib), .int (nI sn)])), (aB, .inl (g.2.1, 20, .inl (fun j => nI (fB j)))), (aW, .inl (g.2.2.1, 20, .inr (.inl (fun j => lN (fW j))))), (aS, .inl (g.2.1, 6, .inl (fun j => nI (fS j)))), (aU, .inl (g.2.1, 6, .inl (fun j => nI (fU j)))), (aK, .inl (g.2.1, 6, .inl fK)), (oK, .inr (8, [.ref bB, .ref bW, .ref bS, .ref bU, .ref bK, .int (nI gi), .int (nI gb), .int (nI gn)])), (bB, .inl (g.2.1, 20, .inl (fun j => nI (gB j)))), (bW, .inl (g.2.2.1, 20, .inr (.inl (fun j => lN (gW j))))), (bS, .inl (g.2.1, 6, .inl (fun j => nI (gS j)))), (bU, .inl (g.2.1, 6, .inl (fun j => nI (gU j)))), (bK, .inl (g.2.1, 6, .inl gK))] sz) := by
  refine metM (Qf := fun A => (qMi g (fun r (_ : Unit) => r = if iK = 0 then -103 else nI (popS gb 6)) (fun (_ : Unit) => [(oM, .inr (10, [.ref oP, .ref oH, .ref oT, .ref oK, .ref oR, .ref oD, .ref aT, .int (nI (cond (decide (iK ≠ 0)) (tK) (tC))), .int (nI tK), .int iK, .int (nI kR), .int (nI bD)])), (oT, .inr (8, [.ref aB, .ref aW, .ref aS, .ref aU, .ref aK, .int (nI (cond (decide (iK ≠ 0)) (gi) (fi))), .int (nI (cond (decide (iK ≠ 0)) (gb) (ib))), .int (nI (cond (decide (iK ≠ 0)) (gn) (sn)))])), (aB, .inl (g.2.1, 20, .inl (fun j => nI (cond (decide (iK ≠ 0)) (cpN gB fB 20) fB j)))), (aW, .inl (g.2.2.1, 20, .inr (.inl (fun j => lN (cond (decide (iK ≠ 0)) (cpN gW fW 20) fW j))))), (aS, .inl (g.2.1, 6, .inl (fun j => nI (cond (decide (iK ≠ 0)) (cpN gS fS 6) fS j)))), (aU, .inl (g.2.1, 6, .inl (fun j => nI (cond (decide (iK ≠ 0)) (cpN gU fU 6) fU j)))), (aK, .inl (g.2.1, 6, .inl (cond (decide (iK ≠ 0)) (cpN gK fK 6) fK))), (oK, .inr (8, [.ref bB, .ref bW, .ref bS, .ref bU, .ref bK, .int (nI gi), .int (nI gb), .int (nI gn)])), (bB, .inl (g.2.1, 20, .inl (fun j => nI (gB j)))), (bW, .inl (g.2.2.1, 20, .inr (.inl (fun j => lN (gW j))))), (bS, .inl (g.2.1, 6, .inl (fun j => nI (gS j)))), (bU, .inl (g.2.1, 6, .inl (fun j => nI (gU j)))), (bK, .inl (g.2.1, 6, .inl gK))]) A)) (cc := cX10_restore) (maxL := 1) (ret := (some .int)) (by decide) rfl (Nat.le_of_ble_eq_true rfl) ?_
  intro p e s m below meth c hx hb hr hts hown hlocks hml hin0 hC A hA hP hD hS ls hl
  have hl : lv_has ls 1 [(0, .ref oM)] := hl
  have hown : s.vm.findClass RX10 = some m.cls := hown
  have hts : ∀ w ∈ wsX10_restore, w.before ([.ref oM] : List Value).toArray s = true := hts
  have hinX10 := (by decide +kernel : ∀ w ∈ u_ws RX10 TX10 12, w ∈ wsX10_restore)
  have f83 := hts (.fieldLink RX10 83 "BoiledEggs" "isKept" "Z") (by decide +kernel)
  have f26 := hts (.fieldLink RX10 26 "BoiledEggs" "told" "LBoiledEggs$Told;") (by decide +kernel)
  have f30 := hts (.fieldLink RX10 30 "BoiledEggs" "kept" "LBoiledEggs$Told;") (by decide +kernel)
  have f267 := hts (.fieldLink RX10 267 "BoiledEggs" "keptTriers" "I") (by decide +kernel)
  have f79 := hts (.fieldLink RX10 79 "BoiledEggs" "trierCount" "I") (by decide +kernel)
  refine lv_aload_n hx hb dX10_restore_0 rfl (lv_at hl 0 rfl) ?_
  refine va_get (D := g.1) (ci := 10) (v := .int iK) (C := RX10) (T := TX10) (N := 12) hx hb hts hinX10 hown hC.1 hP 0 rfl rfl 9 (by decide) f83 (fun _ h9 => h9) rfl dX10_restore_1 ?_
  refine lv_if_ne (tgt := 10) hx hb dX10_restore_4 (by decide) (fun c4 => ?_) (fun c4 => ?_)
  ·refine lv_aload_n hx hb dX10_restore_10 rfl (lv_at hl 0 rfl) ?_
   refine va_get (D := g.1) (ci := 10) (v := .ref oT) (C := RX10) (T := TX10) (N := 12) hx hb hts hinX10 hown hC.1 hP 0 rfl rfl 2 (by decide) f26 (fun _ h9 => h9) rfl dX10_restore_11 ?_
   refine lv_aload_n hx hb dX10_restore_14 rfl (lv_at hl 0 rfl) ?_
   refine va_get (D := g.1) (ci := 10) (v := .ref oK) (C := RX10) (T := TX10) (N := 12) hx hb hts hinX10 hown hC.1 hP 0 rfl rfl 3 (by decide) f30 (fun _ h9 => h9) rfl dX10_restore_15 ?_
   refine goMv (S := Unit) (wr := [(oM, .inr (10, [.ref oP, .ref oH, .ref oT, .ref oK, .ref oR, .ref oD, .ref aT, .int (nI tC), .int (nI tK), .int iK, .int (nI kR), .int (nI bD)]))]) (va_runV (As := [.ref oK]) (rest := []) ⟨hx, hb, hml, hown, hts⟩ (k_X8_copyFrom l g _ oT aB aW aS aU aK fi ib sn oK bB bW bS bU bK gi gb gn fB fW fS fU fK gB gW gS gU gK ) (cwV 1 hts gX10_restore_X8_copyFrom rfl rfl rfl ⟨rfl, hdX8_copyFrom⟩ ⟨Nat.le_of_ble_eq_true rfl, Nat.le_of_ble_eq_true rfl⟩) (preVM hC (hP.sub [1, 2, 3, 4, 5, 6, 7, 8, 9, 10, 11, 12] rfl) (hD.sub [1, 2, 3, 4, 5, 6, 7, 8, 9, 10, 11, 12] (by decide) rfl) (va_recv hC.1 hP (ci := 8) (q0 := 1) rfl rfl)) rfl rfl hl.1 rfl (lv_room (Nat.le_of_ble_eq_true rfl)) dX10_restore_18 ⟨Nat.le_of_ble_eq_true rfl, Nat.le_of_ble_eq_true rfl⟩) hP hD hS hA [1, 2, 3, 4, 5, 6, 7, 8, 9, 10, 11, 12] [0] rfl rfl (by decide) (by decide) (fun _ H locs hw_9 hP hD hS => ?_)
   have hP : va_P g.1 vwCl [(oM, .inr (10, [.ref oP, .ref oH, .ref oT, .ref oK, .ref oR, .ref oD, .ref aT, .int (nI tC), .int (nI tK), .int iK, .int (nI kR), .int (nI bD)])), (oT, .inr (8, [.ref aB, .ref aW, .ref aS, .ref aU, .ref aK, .int (nI gi), .int (nI gb), .int (nI gn)])), (aB, .inl (g.2.1, 20, .inl (fun j => nI (cpN gB fB 20 j)))), (aW, .inl (g.2.2.1, 20, .inr (.inl (fun j => lN (cpN gW fW 20 j))))), (aS, .inl (g.2.1, 6, .inl (fun j => nI (cpN gS fS 6 j)))), (aU, .inl (g.2.1, 6, .inl (fun j => nI (cpN gU fU 6 j)))), (aK, .inl (g.2.1, 6, .inl (cpN gK fK 6))), (oK, .inr (8, [.ref bB, .ref bW, .ref bS, .ref bU, .ref bK, .int (nI gi), .int (nI gb), .int (nI gn)])), (bB, .inl (g.2.1, 20, .inl (fun j => nI (gB j)))), (bW, .inl (g.2.2.1, 20, .inr (.inl (fun j => lN (gW j))))), (bS, .inl (g.2.1, 6, .inl (fun j => nI (gS j)))), (bU, .inl (g.2.1, 6, .inl (fun j => nI (gU j)))), (bK, .inl (g.2.1, 6, .inl gK))] H := hP
   have hD : va_D A [(oM, .inr (10, [.ref oP, .ref oH, .ref oT, .ref oK, .ref oR, .ref oD, .ref aT, .int (nI tC), .int (nI tK), .int iK, .int (nI kR), .int (nI bD)])), (oT, .inr (8, [.ref aB, .ref aW, .ref aS, .ref aU, .ref aK, .int (nI gi), .int (nI gb), .int (nI gn)])), (aB, .inl (g.2.1, 20, .inl (fun j => nI (cpN gB fB 20 j)))), (aW, .inl (g.2.2.1, 20, .inr (.inl (fun j => lN (cpN gW fW 20 j))))), (aS, .inl (g.2.1, 6, .inl (fun j => nI (cpN gS fS 6 j)))), (aU, .inl (g.2.1, 6, .inl (fun j => nI (cpN gU fU 6 j)))), (aK, .inl (g.2.1, 6, .inl (cpN gK fK 6))), (oK, .inr (8, [.ref bB, .ref bW, .ref bS, .ref bU, .ref bK, .int (nI gi), .int (nI gb), .int (nI gn)])), (bB, .inl (g.2.1, 20, .inl (fun j => nI (gB j)))), (bW, .inl (g.2.2.1, 20, .inr (.inl (fun j => lN (gW j))))), (bS, .inl (g.2.1, 6, .inl (fun j => nI (gS j)))), (bU, .inl (g.2.1, 6, .inl (fun j => nI (gU j)))), (bK, .inl (g.2.1, 6, .inl gK))] := hD
   refine lv_aload_n hx hb dX10_restore_21 rfl (lv_at hl 0 rfl) ?_
   refine lv_aload_n hx hb dX10_restore_22 rfl (lv_at hl 0 rfl) ?_
   refine va_get (D := g.1) (ci := 10) (v := .int (nI tK)) (C := RX10) (T := TX10) (N := 12) hx hb hts hinX10 hown hC.1 hP 0 rfl rfl 8 (by decide) f267 (fun _ h9 => h9) rfl dX10_restore_23 ?_
   refine va_put (D := g.1) (ci := 10) (v := .int (nI tK)) (ty := .int) (C := RX10) (T := TX10) (N := 12) hx hb hts hinX10 tyX10 tyX10_ok nmX10 hown hC.1 hP hD hS 0 rfl rfl 7 (by decide) f79 (fun _ h9 => h9) rfl (by decide +kernel) rfl rfl (Nat.le_of_ble_eq_true rfl) dX10_restore_26 (fun H locs hP hD hS => ?_)
   have hP : va_P g.1 vwCl [(oM, .inr (10, [.ref oP, .ref oH, .ref oT, .ref oK, .ref oR, .ref oD, .ref aT, .int (nI tK), .int (nI tK), .int iK, .int (nI kR), .int (nI bD)])), (oT, .inr (8, [.ref aB, .ref aW, .ref aS, .ref aU, .ref aK, .int (nI gi), .int (nI gb), .int (nI gn)])), (aB, .inl (g.2.1, 20, .inl (fun j => nI (cpN gB fB 20 j)))), (aW, .inl (g.2.2.1, 20, .inr (.inl (fun j => lN (cpN gW fW 20 j))))), (aS, .inl (g.2.1, 6, .inl (fun j => nI (cpN gS fS 6 j)))), (aU, .inl (g.2.1, 6, .inl (fun j => nI (cpN gU fU 6 j)))), (aK, .inl (g.2.1, 6, .inl (cpN gK fK 6))), (oK, .inr (8, [.ref bB, .ref bW, .ref bS, .ref bU, .ref bK, .int (nI gi), .int (nI gb), .int (nI gn)])), (bB, .inl (g.2.1, 20, .inl (fun j => nI (gB j)))), (bW, .inl (g.2.2.1, 20, .inr (.inl (fun j => lN (gW j))))), (bS, .inl (g.2.1, 6, .inl (fun j => nI (gS j)))), (bU, .inl (g.2.1, 6, .inl (fun j => nI (gU j)))), (bK, .inl (g.2.1, 6, .inl gK))] H := hP
   have hD : va_D A [(oM, .inr (10, [.ref oP, .ref oH, .ref oT, .ref oK, .ref oR, .ref oD, .ref aT, .int (nI tK), .int (nI tK), .int iK, .int (nI kR), .int (nI bD)])), (oT, .inr (8, [.ref aB, .ref aW, .ref aS, .ref aU, .ref aK, .int (nI gi), .int (nI gb), .int (nI gn)])), (aB, .inl (g.2.1, 20, .inl (fun j => nI (cpN gB fB 20 j)))), (aW, .inl (g.2.2.1, 20, .inr (.inl (fun j => lN (cpN gW fW 20 j))))), (aS, .inl (g.2.1, 6, .inl (fun j => nI (cpN gS fS 6 j)))), (aU, .inl (g.2.1, 6, .inl (fun j => nI (cpN gU fU 6 j)))), (aK, .inl (g.2.1, 6, .inl (cpN gK fK 6))), (oK, .inr (8, [.ref bB, .ref bW, .ref bS, .ref bU, .ref bK, .int (nI gi), .int (nI gb), .int (nI gn)])), (bB, .inl (g.2.1, 20, .inl (fun j => nI (gB j)))), (bW, .inl (g.2.2.1, 20, .inr (.inl (fun j => lN (gW j))))), (bS, .inl (g.2.1, 6, .inl (fun j => nI (gS j)))), (bU, .inl (g.2.1, 6, .inl (fun j => nI (gU j)))), (bK, .inl (g.2.1, 6, .inl gK))] := hD
   refine lv_aload_n hx hb dX10_restore_29 rfl (lv_at hl 0 rfl) ?_
   refine va_get (D := g.1) (ci := 10) (v := .ref oT) (C := RX10) (T := TX10) (N := 12) hx hb hts hinX10 hown hC.1 hP 0 rfl rfl 2 (by decide) f26 (fun _ h9 => h9) rfl dX10_restore_30 ?_
   refine goSi (T := nI (popS gb 6)) (va_runV (As := []) (rest := []) ⟨hx, hb, hml, hown, hts⟩ (k_X8_howManyInBox l g oT aB aW aS aU aK gi gb gn (by first | assumption | exact Nat.zero_le _ | omega)) (cwV 0 hts gX10_restore_X8_howManyInBox rfl rfl rfl ⟨rfl, hdX8_howManyInBox⟩ ⟨Nat.le_of_ble_eq_true rfl, Nat.le_of_ble_eq_true rfl⟩) (preVS hC (hP.sub [1] rfl) (va_recv hC.1 hP (ci := 8) (q0 := 1) rfl rfl)) rfl rfl hl.1 rfl (lv_room (Nat.le_of_ble_eq_true rfl)) dX10_restore_33 ⟨Nat.le_of_ble_eq_true rfl, Nat.le_of_ble_eq_true rfl⟩) ?_
   exact retMi (w := [(oM, .inr (10, [.ref oP, .ref oH, .ref oT, .ref oK, .ref oR, .ref oD, .ref aT, .int (nI tK), .int (nI tK), .int iK, .int (nI kR), .int (nI bD)])), (oT, .inr (8, [.ref aB, .ref aW, .ref aS, .ref aU, .ref aK, .int (nI gi), .int (nI gb), .int (nI gn)])), (aB, .inl (g.2.1, 20, .inl (fun j => nI (cpN gB fB 20 j)))), (aW, .inl (g.2.2.1, 20, .inr (.inl (fun j => lN (cpN gW fW 20 j))))), (aS, .inl (g.2.1, 6, .inl (fun j => nI (cpN gS fS 6 j)))), (aU, .inl (g.2.1, 6, .inl (fun j => nI (cpN gU fU 6 j)))), (aK, .inl (g.2.1, 6, .inl (cpN gK fK 6))), (oK, .inr (8, [.ref bB, .ref bW, .ref bS, .ref bU, .ref bK, .int (nI gi), .int (nI gb), .int (nI gn)])), (bB, .inl (g.2.1, 20, .inl (fun j => nI (gB j)))), (bW, .inl (g.2.2.1, 20, .inr (.inl (fun j => lN (gW j))))), (bS, .inl (g.2.1, 6, .inl (fun j => nI (gS j)))), (bU, .inl (g.2.1, 6, .inl (fun j => nI (gU j)))), (bK, .inl (g.2.1, 6, .inl gK))]) hx hb hr hlocks (hP.sub [0, 1, 2, 3, 4, 5, 6, 7, 8, 9, 10, 11, 12] rfl) (hD.sub [0, 1, 2, 3, 4, 5, 6, 7, 8, 9, 10, 11, 12] (by decide) rfl) hS () (by rw [show decide (iK ≠ 0) = true from decide_eq_true c4] <;> rfl) (by rw [if_neg c4]) dX10_restore_36
  ·refine lv_bipush (v := (-103)) hx hb dX10_restore_7 (by decide) ?_
   exact retMi (w := [(oM, .inr (10, [.ref oP, .ref oH, .ref oT, .ref oK, .ref oR, .ref oD, .ref aT, .int (nI tC), .int (nI tK), .int iK, .int (nI kR), .int (nI bD)])), (oT, .inr (8, [.ref aB, .ref aW, .ref aS, .ref aU, .ref aK, .int (nI fi), .int (nI ib), .int (nI sn)])), (aB, .inl (g.2.1, 20, .inl (fun j => nI (fB j)))), (aW, .inl (g.2.2.1, 20, .inr (.inl (fun j => lN (fW j))))), (aS, .inl (g.2.1, 6, .inl (fun j => nI (fS j)))), (aU, .inl (g.2.1, 6, .inl (fun j => nI (fU j)))), (aK, .inl (g.2.1, 6, .inl fK)), (oK, .inr (8, [.ref bB, .ref bW, .ref bS, .ref bU, .ref bK, .int (nI gi), .int (nI gb), .int (nI gn)])), (bB, .inl (g.2.1, 20, .inl (fun j => nI (gB j)))), (bW, .inl (g.2.2.1, 20, .inr (.inl (fun j => lN (gW j))))), (bS, .inl (g.2.1, 6, .inl (fun j => nI (gS j)))), (bU, .inl (g.2.1, 6, .inl (fun j => nI (gU j)))), (bK, .inl (g.2.1, 6, .inl gK))]) hx hb hr hlocks (hP.sub [0, 1, 2, 3, 4, 5, 6, 7, 8, 9, 10, 11, 12] rfl) (hD.sub [0, 1, 2, 3, 4, 5, 6, 7, 8, 9, 10, 11, 12] (by decide) rfl) hS () (by rw [show decide (iK ≠ 0) = false from decide_eq_false (fun h9 => h9 c4)] <;> rfl) (by rw [if_pos c4]) dX10_restore_9
