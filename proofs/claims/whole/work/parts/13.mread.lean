/-! answers, on both sides -/
def ix (x : Int32) : Nat := x.toNatClampNeg
theorem ix_nI {k : Nat} (h : k < 2 ^ 31) : ix (nI k) = k := nI_clamp h
theorem tI_le (a b : Int32) : a ≤ b ↔ a.toInt ≤ b.toInt := Int32.le_iff_toInt_le
theorem tI_lt (a b : Int32) : a < b ↔ a.toInt < b.toInt := Int32.lt_iff_toInt_lt
def isE (E : Nat) (x : Int32) : Bool := decide (0 ≤ x.toInt ∧ x.toInt < E)
theorem of_nn {x : Int32} (h : 0 ≤ x.toInt) : ∃ k, k < 2 ^ 31 ∧ x = nI k := nI_of (fun h9 => by have h8 := (tI_lt x 0).mp h9; have h7 : (0 : Int32).toInt = 0 := (by decide); omega)
theorem isE_t {E : Nat} {x : Int32} (h : isE E x = true) : ∃ k, k < E ∧ x = nI k := by
  have h := of_decide_eq_true h
  obtain ⟨j, hj, e⟩ := of_nn h.1
  have h2 : (nI j).toInt = j := nI_toInt hj
  exact ⟨j, by rw [e, h2] at h; omega, e⟩
theorem isE_m {E : Nat} (hE : E ≤ 1000) (x : Int32) : wth x (nI 0) (nI E - nI 1) = isE E x := by
  unfold isE wth
  have h0 : (nI 0).toInt = 0 := by decide
  have h1 : (nI E - nI 1).toInt = (E : Int) - 1 := pk_sub_toInt (by omega) (by decide)
  exact decide_eq_decide.mpr (by rw [tI_le, tI_le, h0, h1]; omega)
def swA (l : List Int32) (d w : Int32) : Int32 := if w.toInt < 0 ∨ ((l.length : Nat) : Int) ≤ w.toInt then d else l.getD (ix w) 0
def fg (pg : Nat → Nat) (k : Nat) : Int32 := nI (pg k) - nI 48
def mGood (pg : Nat → Nat) (k : Nat) : Bool :=
  if k = 0 then wth (fg pg 0) (nI 2) (nI 6) else if k = 1 then wth (fg pg 1) (nI 0) (fg pg 0) else if k = 2 then decide (nI (pg 2) = nI 58)
  else if k ≤ 5 then wth (fg pg k) (nI 0) (nI 9) else if k = 6 then decide (nI (pg 6) = nI 59) else decide (nI k < nI 7 + fg pg 0) && wth (fg pg k) (nI 1) (nI 4)
/-- the first place from k on, of n more, that is not good -/
def ff (G : Nat → Bool) : Nat → Nat → Nat
  | 0, k => k
  | n + 1, k => if G k then ff G n (k + 1) else k
theorem ff_t {G : Nat → Bool} {n k : Nat} (h : G k = true) (hk : k < n) : ff G (n - (k + 1)) (k + 1) = ff G (n - k) k := by
  rw [show n - k = (n - (k + 1)) + 1 by omega]; simp [ff, h]
theorem ff_f {G : Nat → Bool} {n k : Nat} (h : G k = false) (hk : k < n) : ff G (n - k) k = k := by
  rw [show n - k = (n - (k + 1)) + 1 by omega]; simp [ff, h]
theorem ff_e {G : Nat → Bool} {n k : Nat} (hk : n ≤ k) : ff G (n - k) k = k := by
  rw [show n - k = 0 by omega]; rfl
theorem ff_le (G : Nat → Bool) : ∀ n k, ff G n k ≤ n + k
  | 0, k => by simp [ff]
  | n + 1, k => by
    unfold ff; split
    · have := ff_le G n (k + 1); omega
    · omega
/-- the first k of n more at which f holds, or none -/
def trn (f : Nat → Bool) : Nat → Nat → Int32
  | 0, _ => -1
  | n + 1, k => if f k then nI k else trn f n (k + 1)
theorem trn_t {f : Nat → Bool} {n k : Nat} (h : f k = true) (hk : k < n) : trn f (n - k) k = nI k := by
  rw [show n - k = (n - (k + 1)) + 1 by omega]; simp [trn, h]
theorem trn_f {f : Nat → Bool} {n k : Nat} (h : f k = false) (hk : k < n) : trn f (n - (k + 1)) (k + 1) = trn f (n - k) k := by
  rw [show n - k = (n - (k + 1)) + 1 by omega]; simp [trn, h]
theorem trn_e {f : Nat → Bool} {n k : Nat} (hk : n ≤ k) : trn f (n - k) k = -1 := by
  rw [show n - k = 0 by omega]; rfl
theorem fo_s {α : Type} (F : α → Nat → α) (a : α) (i : Nat) : fo F a (i + 1) = F (fo F a i) i := rfl
theorem fo_le {F : Nat → Nat → Nat} (h : ∀ a b, F a b ≤ a) (a : Nat) : ∀ n, fo F a n ≤ a
  | 0 => Nat.le_refl _
  | n + 1 => Nat.le_trans (h _ _) (fo_le h a n)
def eggL (hab sp tu : Nat → Nat) (ib e : Nat) : List Int32 := [nI (hab e), nI (ib / 2 ^ e % 2), nI (sp e), nI (tu e)]
def eggR (E : Nat) (hab sp tu : Nat → Nat) (kn : Nat → Int32) (ib : Nat) (x w : Int32) : Int32 := if isE E x then (if wth w (nI 0) (nI 4) then swA (eggL hab sp tu ib (ix x)) (kn (ix x)) w else -102) else -101
def likR (w : WT) (E : Nat) (x p : Int32) : Int64 := if isE E x then (if wth p (nI 0) (nI 1) then lN (low (bwt w E (ix x) 0) (tot w E (-1) 0) p) else -102) else -101
def lkF (w : Nat → Nat) : Int32 × Nat → Nat → Int32 × Nat := fun s b => if s.2 < w b then (nI b, w b) else s
def lkst (w : Nat → Nat) (N : Nat) : Int32 := (fo (lkF w) (-1, 0) N).1
def trQ (w : WT) (E e t : Nat) (k : Nat) : Bool := decide (0 < tot w E (nI e) k ∧ t * tot w E (nI e) k ≤ 10 * bwt w E e k)
def turR (w : WT) (E : Nat) (x t : Int32) : Int32 := if isE E x then (if wth t (nI 1) (nI 9) then trn (trQ w E (ix x) (ix t)) 6 0 else -102) else -101
def rskN (w : WT) (E fa e : Nat) (p : Int32) : Int64 := lN (low (fa * (tot w E (-1) 0 - bwt w E e 0)) (10 * tot w E (-1) 0) p)
def rskR (w : WT) (E fa ib : Nat) (x p : Int32) : Int64 := if isE E x then (if wth p (nI 0) (nI 1) then (if ib.testBit (ix x) then rskN w E fa (ix x) p else -103) else -102) else -101
def bad (k : Int32) (own all : Nat) : Int64 := if k = 0 then lN 0 else if k = nI 1 then (if lN (2 * own) - lN all < lN 0 then -(lN (2 * own) - lN all) else lN (2 * own) - lN all) else if k = nI 2 then lN own else -(lN own)
def nxF (k : Int32) (sc : Nat → Int64) (ib : Nat) : Int32 → Nat → Int32 := fun best e => if ib.testBit e then (if best = -1 ∨ sc e < sc (ix best) ∨ (k = nI 4 ∧ sc e = sc (ix best)) then nI e else best) else best
theorem nx_or (k : Int32) (sc : Nat → Int64) (ib : Nat) : ∀ i, fo (nxF k sc ib) (-1) i = -1 ∨ ∃ j, j < i ∧ fo (nxF k sc ib) (-1) i = nI j
  | 0 => Or.inl rfl
  | i + 1 => by
    have h := nx_or k sc ib i
    rw [fo_s]
    unfold nxF
    split
    · split
      · exact Or.inr ⟨i, Nat.lt_succ_self _, rfl⟩
      · rcases h with h | ⟨j, hj, h⟩
        · exact Or.inl h
        · exact Or.inr ⟨j, by omega, h⟩
    · rcases h with h | ⟨j, hj, h⟩
      · exact Or.inl h
      · exact Or.inr ⟨j, by omega, h⟩
def scM (w : WT) (E : Nat) (k : Int32) : Nat → Int64 := fun e => bad k (bwt w E e 0) (tot w E (-1) 0)
def nxt (w : WT) (E ib : Nat) (k : Int32) : Int32 := fo (nxF k (scM w E k) ib) (-1) E
def trNow (w : WT) (E ib : Nat) (k q : Int32) : Int32 := if q = 0 then k else nxt w E ib k
def abtR (w : WT) (E ib T : Nat) (kd : Nat → Nat) (x q : Int32) : Int32 := if isE T x then (if wth q (nI 0) (nI 1) then trNow w E ib (nI (kd (ix x))) q else -102) else -101
def asK (a k : Int32) : Bool := decide (k = 0 ∨ a = k ∨ (k = nI 3 ∧ a = nI 4))
def asR (T : Nat) (kd : Nat → Nat) (x k : Int32) : Int32 := if isE T x then (if wth k (nI 0) (nI 4) then (if asK (nI (kd (ix x))) k then x else -1) else -102) else -101
def andn (c b : Nat) : Nat := c &&& (63 ^^^ b)
theorem andn_nI : ∀ c, c < 64 → ∀ b, b < 64 → nI c &&& (nI b ^^^ (-1)) = nI (andn c b) := by decide +kernel
theorem and_nI (a b : Nat) : nI a &&& nI b = nI (a &&& b) := by
  apply Int32.toBitVec_inj.mp
  apply BitVec.eq_of_getLsbD_eq
  intro i hi
  simp [nI, Int32.toBitVec_and, BitVec.getLsbD_and, hi]
theorem andn_le (c b : Nat) : andn c b ≤ c := Nat.and_le_left
def fitM (w : Nat → Nat) (N : Nat) : Nat := fo (fun a b => if 0 < w b then a + 1 else a) 0 N
def fitA (w : Nat → Nat) (m N : Nat) : Nat := fo (fun a b => if 0 < w b then a &&& b else a) m N
def fitN (w : Nat → Nat) (m N : Nat) : Nat := fo (fun a b => if 0 < w b then andn a b else a) m N
theorem fitM_le (w : Nat → Nat) : ∀ N, fitM w N ≤ N
  | 0 => Nat.le_refl _
  | N + 1 => by have h := fitM_le w N; unfold fitM at *; rw [fo_s]; split <;> omega
theorem fitA_le (w : Nat → Nat) (m N : Nat) : fitA w m N ≤ m := fo_le (fun a b => by split; exact Nat.and_le_left; exact Nat.le_refl _) m N
theorem fitN_le (w : Nat → Nat) (m N : Nat) : fitN w m N ≤ m := fo_le (fun a b => by split; exact andn_le _ _; exact Nat.le_refl _) m N
def fitsN (w : Nat → Nat) (E : Nat) (q : Int32) : Int32 := if q = 0 then nI (fitM w (2 ^ E)) else if q = nI 1 then nI (fitA w (2 ^ E - 1) (2 ^ E)) else nI (fitN w (2 ^ E - 1) (2 ^ E))
def w0 (w : WT) : Nat → Nat := fun b => w b (-1) 0
def fitR (w : WT) (E : Nat) (q : Int32) : Int32 := if wth q (nI 0) (nI 2) then (if E = 0 then -103 else fitsN (w0 w) E q) else -102
def bby (w : Nat → Nat) : Nat → Nat → Nat → Int32
  | 0, _, _ => -1
  | n + 1, b, left => if 0 < w b then (if left = 0 then nI b else bby w n (b + 1) (left - 1)) else bby w n (b + 1) left
theorem bby_z {w : Nat → Nat} {n b left : Nat} (h : ¬ 0 < w b) (hb : b < n) : bby w (n - (b + 1)) (b + 1) left = bby w (n - b) b left := by
  rw [show n - b = (n - (b + 1)) + 1 by omega, bby, if_neg h]
theorem bby_n {w : Nat → Nat} {n b left : Nat} (h : 0 < w b) (hl : ¬ left = 0) (hb : b < n) : bby w (n - (b + 1)) (b + 1) (left - 1) = bby w (n - b) b left := by
  rw [show n - b = (n - (b + 1)) + 1 by omega, bby, if_pos h, if_neg hl]
theorem bby_r {w : Nat → Nat} {n b left : Nat} (h : 0 < w b) (hl : left = 0) (hb : b < n) : bby w (n - b) b left = nI b := by
  rw [show n - b = (n - (b + 1)) + 1 by omega, bby, if_pos h, if_pos hl]
theorem bby_e {w : Nat → Nat} {n b left : Nat} (hb : n ≤ b) : bby w (n - b) b left = -1 := by
  rw [show n - b = 0 by omega]; rfl
theorem m1_nI {k : Nat} (h : ¬ k = 0) : nI k + Int32.ofInt (-1) = nI (k - 1) := by
  obtain ⟨j, rfl⟩ : ∃ j, k = j + 1 := ⟨k - 1, by omega⟩
  exact pk_m1 j
theorem sw_nI {k n : Nat} (h : (nI k).toInt < 0 ∨ ((n : Nat) : Int) ≤ (nI k).toInt) (hk : k < 2 ^ 31) : n ≤ k := by
  have h2 : (nI k).toInt = k := nI_toInt hk
  rw [h2] at h; omega
theorem mG_t {pg : Nat → Nat} {k : Nat} (h7 : 7 ≤ k) (h1 : ¬ nI 7 + fg pg 0 ≤ nI k) (h2 : wth (fg pg k) (nI 1) (nI 4) = true) : mGood pg k = true := by
  unfold mGood
  rw [if_neg (by omega), if_neg (by omega), if_neg (by omega), if_neg (by omega), if_neg (by omega), h2, decide_eq_true (Int32.not_le.mp h1)]; rfl
theorem mG_f {pg : Nat → Nat} {k : Nat} (h7 : 7 ≤ k) (h1 : nI 7 + fg pg 0 ≤ nI k) : mGood pg k = false := by
  unfold mGood
  rw [if_neg (by omega), if_neg (by omega), if_neg (by omega), if_neg (by omega), if_neg (by omega), decide_eq_false (Int32.not_lt.mpr h1)]; rfl
theorem mG_g {pg : Nat → Nat} {k : Nat} (h7 : 7 ≤ k) (h2 : wth (fg pg k) (nI 1) (nI 4) = false) : mGood pg k = false := by
  unfold mGood
  rw [if_neg (by omega), if_neg (by omega), if_neg (by omega), if_neg (by omega), if_neg (by omega), h2, Bool.and_false]
theorem lk_t {w : Nat → Nat} {s : Int32 × Nat} {b : Nat} (h : ¬ w b ≤ s.2) : lkF w s b = (nI b, w b) := if_pos (by omega)
theorem lk_f {w : Nat → Nat} {s : Int32 × Nat} {b : Nat} (h : w b ≤ s.2) : lkF w s b = s := if_neg (by omega)
theorem ft_t {w : WT} {b : Nat} (h : ¬ w b (-1) 0 ≤ 0) : 0 < w0 w b := by unfold w0; omega
theorem ft_f {w : WT} {b : Nat} (h : w b (-1) 0 ≤ 0) : ¬ 0 < w0 w b := by unfold w0; omega
theorem trQ_a {w : WT} {E e t k : Nat} (h : tot w E (nI e) k ≤ 0) : trQ w E e t k = false := decide_eq_false (by omega)
theorem trQ_b {w : WT} {E e t k : Nat} (h : 10 * bwt w E e k < t * tot w E (nI e) k) : trQ w E e t k = false := decide_eq_false (by omega)
theorem trQ_t {w : WT} {E e t k : Nat} (h : ¬ tot w E (nI e) k ≤ 0) (h2 : ¬ 10 * bwt w E e k < t * tot w E (nI e) k) : trQ w E e t k = true := decide_eq_true (by omega)
theorem wth_n {t : Int32} {a b : Nat} (h : wth t (nI a) (nI b) = true) (ha : a < 2 ^ 31 := by decide) (hb : b < 2 ^ 31 := by decide) : ∃ k, (a ≤ k ∧ k ≤ b) ∧ t = nI k := by
  have h := of_decide_eq_true h
  rw [tI_le, tI_le] at h
  have hb2 : (nI b).toInt = b := nI_toInt hb
  have ha2 : (nI a).toInt = a := nI_toInt ha
  rw [ha2, hb2] at h
  obtain ⟨k, hk, e⟩ := of_nn (x := t) (by omega)
  have h2 : (nI k).toInt = k := nI_toInt hk
  rw [e, h2] at h
  exact ⟨k, by omega, e⟩
theorem nx_0 {k : Int32} {sc : Nat → Int64} {ib e : Nat} {best : Int32} (h : ib.testBit e = false) : nxF k sc ib best e = best := if_neg (by rw [h]; decide)
theorem nx_1 {k : Int32} {sc : Nat → Int64} {ib e : Nat} {best : Int32} (h : ib.testBit e = true) (hb : best = -1) : nxF k sc ib best e = nI e := by rw [nxF, if_pos h, if_pos (Or.inl hb)]
theorem nx_2 {k : Int32} {sc : Nat → Int64} {ib e j : Nat} {best : Int32} (h : ib.testBit e = true) (ej : best = nI j) (hj : j < 2 ^ 31) (h1 : sc e < sc j) : nxF k sc ib best e = nI e := by rw [nxF, if_pos h, if_pos (Or.inr (Or.inl (by rw [ej, ix_nI hj]; exact h1)))]
theorem nx_3 {k : Int32} {sc : Nat → Int64} {ib e j : Nat} {best : Int32} (h : ib.testBit e = true) (ej : best = nI j) (hj : j < 2 ^ 31) (h1 : k = nI 4) (h2 : sc e = sc j) : nxF k sc ib best e = nI e := by rw [nxF, if_pos h, if_pos (Or.inr (Or.inr ⟨h1, by rw [ej, ix_nI hj]; exact h2⟩))]
theorem nx_4 {k : Int32} {sc : Nat → Int64} {ib e j : Nat} {best : Int32} (h : ib.testBit e = true) (hb : ¬ best = -1) (ej : best = nI j) (hj : j < 2 ^ 31) (h1 : ¬ sc e < sc j) (h2 : ¬ k = nI 4) : nxF k sc ib best e = best := by rw [nxF, if_pos h, if_neg (by rw [ej, ix_nI hj, ← ej]; exact fun h9 => h9.elim hb (fun h9 => h9.elim h1 (fun h9 => h2 h9.1)))]
theorem nx_5 {k : Int32} {sc : Nat → Int64} {ib e j : Nat} {best : Int32} (h : ib.testBit e = true) (hb : ¬ best = -1) (ej : best = nI j) (hj : j < 2 ^ 31) (h1 : ¬ sc e < sc j) (h2 : ¬ sc e = sc j) : nxF k sc ib best e = best := by rw [nxF, if_pos h, if_neg (by rw [ej, ix_nI hj, ← ej]; exact fun h9 => h9.elim hb (fun h9 => h9.elim h1 (fun h9 => h2 h9.2)))]
theorem fitM_t {w : Nat → Nat} {i : Nat} (h : 0 < w i) : fitM w (i + 1) = fitM w i + 1 := if_pos h
theorem fitM_f {w : Nat → Nat} {i : Nat} (h : ¬ 0 < w i) : fitM w (i + 1) = fitM w i := if_neg h
theorem fitA_t {w : Nat → Nat} {m i : Nat} (h : 0 < w i) : fitA w m (i + 1) = fitA w m i &&& i := if_pos h
theorem fitA_f {w : Nat → Nat} {m i : Nat} (h : ¬ 0 < w i) : fitA w m (i + 1) = fitA w m i := if_neg h
theorem fitN_t {w : Nat → Nat} {m i : Nat} (h : 0 < w i) : fitN w m (i + 1) = andn (fitN w m i) i := if_pos h
theorem fitN_f {w : Nat → Nat} {m i : Nat} (h : ¬ 0 < w i) : fitN w m (i + 1) = fitN w m i := if_neg h
set_option maxHeartbeats 4000000 in
set_option maxRecDepth 100000 in
/-- BoiledEggsModel.figure  -/
theorem k_X11_fig (l : Launch) (g : GG) (mo : Nat) (mE : Nat) (mKi : Nat) (mB : Nat) (mTb : Nat) (mTr : Nat) (mFa : Nat) (aHab : Nat) (mIb : Nat) (mS : Nat) (aSp : Nat) (aTu : Nat) (aKn : Nat) (mT : Nat) (aKd : Nat) (mAs : Nat) (mPl : Nat) (aPg : Nat) (aWo : Nat) (aWs : Nat) (aMe : Nat) (mBf : Int32) (aBw : Nat) (mSd : Int64) (mIk : Int32) (mKk : Nat) (mKb : Nat) (mKs : Nat) (mKt : Nat) (aKsp : Nat) (aKtu : Nat) (aKkn : Nat) (mH : Int64) (pg : Nat → Nat) (xk : Nat) (hk0 : xk < 14) : Met l yX11_figure wsX11_figure ({ frames := 0, cells := 0, slots := 0, locals := 0 }) (pS g [.ref mo, .int (nI xk)] [(mo, .inr (11, [.int (nI mE), .int (nI mKi), .int (nI mB), .int (nI mTb), .int (nI mTr), .int (nI mFa), .ref aHab, .int (nI mIb), .int (nI mS), .ref aSp, .ref aTu, .ref aKn, .int (nI mT), .ref aKd, .int (nI mAs), .int (nI mPl), .ref aPg, .ref aWo, .ref aWs, .ref aMe, .int mBf, .ref aBw, .long mSd, .int mIk, .int (nI mKk), .int (nI mKb), .int (nI mKs), .int (nI mKt), .ref aKsp, .ref aKtu, .ref aKkn, .long mH])), (aPg, .inl (g.2.2.2.1, 14, .inl (fun j => nI (pg j))))]) (vp_Si (fun r => r = (fg pg xk))) 0 0 noF := by
  refine metS (cc := cX11_figure) (maxL := 2) (ret := (some .int)) (by decide) rfl (Nat.le_of_ble_eq_true rfl) ?_
  intro p e s m below meth c hx hb hr hts hown hlocks hml hC hP ls hl
  have hl : lv_has ls 2 [(0, .ref mo), (1, .int (nI xk))] := hl
  have hown : s.vm.findClass RX11 = some m.cls := hown
  have hts : ∀ w ∈ wsX11_figure, w.before ([.ref mo, .int (nI xk)] : List Value).toArray s = true := hts
  have hinX11 := (by decide +kernel : ∀ w ∈ u_ws RX11 TX11 32, w ∈ wsX11_figure)
  have f25 := hts (.fieldLink RX11 25 "BoiledEggsModel" "page" "[B") (by decide +kernel)
  refine lv_aload_n hx hb dX11_figure_0 rfl (lv_at hl 0 rfl) ?_
  refine va_get (D := g.1) (ci := 11) (v := .ref aPg) (C := RX11) (T := TX11) (N := 32) hx hb hts hinX11 hown hC.1 hP 0 rfl rfl 16 (by decide) f25 (fun _ h9 => h9) rfl dX11_figure_1 ?_
  refine lv_iload_n hx hb dX11_figure_4 rfl (lv_at hl 1 rfl) ?_
  refine ald_b (f := fun j => nI (pg j)) (j := xk) hx hb hC hP 1 rfl (by omega) (by decide) dX11_figure_5 ?_
  refine lv_bipush (v := nI 48) hx hb dX11_figure_6 (by decide) ?_
  refine lv_isub hx hb dX11_figure_8 ?_
  exact retSi hx hb hr hlocks (rfl) dX11_figure_9

set_option maxHeartbeats 4000000 in
set_option maxRecDepth 100000 in
/-- BoiledEggsModel.isGood  -/
theorem k_X11_isGood (l : Launch) (g : GG) (mo : Nat) (mE : Nat) (mKi : Nat) (mB : Nat) (mTb : Nat) (mTr : Nat) (mFa : Nat) (aHab : Nat) (mIb : Nat) (mS : Nat) (aSp : Nat) (aTu : Nat) (aKn : Nat) (mT : Nat) (aKd : Nat) (mAs : Nat) (mPl : Nat) (aPg : Nat) (aWo : Nat) (aWs : Nat) (aMe : Nat) (mBf : Int32) (aBw : Nat) (mSd : Int64) (mIk : Int32) (mKk : Nat) (mKb : Nat) (mKs : Nat) (mKt : Nat) (aKsp : Nat) (aKtu : Nat) (aKkn : Nat) (mH : Int64) (pg : Nat → Nat) (xk : Nat) (hk0 : xk < 14) : Met l yX11_isGood wsX11_isGood ({ frames := 1, cells := 0, slots := 0, locals := 22 }) (pS g [.ref mo, .int (nI xk)] [(mo, .inr (11, [.int (nI mE), .int (nI mKi), .int (nI mB), .int (nI mTb), .int (nI mTr), .int (nI mFa), .ref aHab, .int (nI mIb), .int (nI mS), .ref aSp, .ref aTu, .ref aKn, .int (nI mT), .ref aKd, .int (nI mAs), .int (nI mPl), .ref aPg, .ref aWo, .ref aWs, .ref aMe, .int mBf, .ref aBw, .long mSd, .int mIk, .int (nI mKk), .int (nI mKb), .int (nI mKs), .int (nI mKt), .ref aKsp, .ref aKtu, .ref aKkn, .long mH])), (aPg, .inl (g.2.2.2.1, 14, .inl (fun j => nI (pg j))))]) (vp_Si (fun r => r = (zI (mGood pg xk)))) 0 0 noF := by
  refine metS (cc := cX11_isGood) (maxL := 2) (ret := (some .boolean)) (by decide) rfl (Nat.le_of_ble_eq_true rfl) ?_
  intro p e s m below meth c hx hb hr hts hown hlocks hml hC hP ls hl
  have hl : lv_has ls 2 [(0, .ref mo), (1, .int (nI xk))] := hl
  have hown : s.vm.findClass RX11 = some m.cls := hown
  have hts : ∀ w ∈ wsX11_isGood, w.before ([.ref mo, .int (nI xk)] : List Value).toArray s = true := hts
  have hinX11 := (by decide +kernel : ∀ w ∈ u_ws RX11 TX11 32, w ∈ wsX11_isGood)
  have f25 := hts (.fieldLink RX11 25 "BoiledEggsModel" "page" "[B") (by decide +kernel)
  refine lv_iload_n hx hb dX11_isGood_0 rfl (lv_at hl 1 rfl) ?_
  rcases sw_cases (nI xk) 7 (by decide) with ⟨k9, hk9, c1⟩ | c1
  ·have hk9 : k9 = 0 ∨ k9 = 1 ∨ k9 = 2 ∨ k9 = 3 ∨ k9 = 4 ∨ k9 = 5 ∨ k9 = 6 := by omega
   rcases hk9 with rfl | rfl | rfl | rfl | rfl | rfl | rfl
   ·obtain rfl : xk = 0 := (nI_eq (by omega) (by decide)).mp c1
    refine lv_tableIn (off := 43) (tgt := 44) hx hb dX11_isGood_1 (by decide) (by decide) (by decide) (by decide) ?_
    refine lv_aload_n hx hb dX11_isGood_44 rfl (lv_at hl 0 rfl) ?_
    refine lv_iconst (v := nI 0) hx hb dX11_isGood_45 (by decide) ?_
    refine goSi (T := fg pg 0) (va_runV (As := [.int (nI 0)]) (rest := []) ⟨hx, hb, hml, hown, hts⟩ (k_X11_fig l g mo mE mKi mB mTb mTr mFa aHab mIb mS aSp aTu aKn mT aKd mAs mPl aPg aWo aWs aMe mBf aBw mSd mIk mKk mKb mKs mKt aKsp aKtu aKkn mH pg 0 (by first | assumption | exact Nat.zero_le _ | omega)) (cwV 1 hts gX11_isGood_X11_figure rfl rfl rfl ⟨rfl, hdX11_figure⟩ ⟨Nat.le_of_ble_eq_true rfl, Nat.le_of_ble_eq_true rfl⟩) (preVS hC (hP.sub [0, 1] rfl) (va_recv hC.1 hP (ci := 11) (q0 := 0) rfl rfl)) rfl rfl hl.1 rfl (lv_room (Nat.le_of_ble_eq_true rfl)) dX11_isGood_46 ⟨Nat.le_of_ble_eq_true rfl, Nat.le_of_ble_eq_true rfl⟩) ?_
    refine lv_iconst (v := nI 2) hx hb dX11_isGood_49 (by decide) ?_
    refine lv_bipush (v := nI 6) hx hb dX11_isGood_50 (by decide) ?_
    refine goSi (T := zI (wth (fg pg 0) (nI 2) (nI 6))) (va_runS (As := [.int (fg pg 0), .int (nI 2), .int (nI 6)]) (rest := []) ⟨hx, hb, hml, hown, hts⟩ (k_X11_within l g (fg pg 0) (nI 2) (nI 6) ) (va_cwS 3 hts gX11_isGood_X11_within rfl rfl rfl hdX11_within ⟨Nat.le_of_ble_eq_true rfl, Nat.le_of_ble_eq_true rfl⟩) (preSS hC (hP.sub [] rfl)) rfl rfl hl.1 rfl (lv_room (Nat.le_of_ble_eq_true rfl)) dX11_isGood_52 ⟨Nat.le_of_ble_eq_true rfl, Nat.le_of_ble_eq_true rfl⟩) ?_
    exact retSz hx hb hr hlocks (zI_or _) (rfl) dX11_isGood_55
   ·obtain rfl : xk = 1 := (nI_eq (by omega) (by decide)).mp c1
    refine lv_tableIn (off := 55) (tgt := 56) hx hb dX11_isGood_1 (by decide) (by decide) (by decide) (by decide) ?_
    refine lv_aload_n hx hb dX11_isGood_56 rfl (lv_at hl 0 rfl) ?_
    refine lv_iconst (v := nI 1) hx hb dX11_isGood_57 (by decide) ?_
    refine goSi (T := fg pg 1) (va_runV (As := [.int (nI 1)]) (rest := []) ⟨hx, hb, hml, hown, hts⟩ (k_X11_fig l g mo mE mKi mB mTb mTr mFa aHab mIb mS aSp aTu aKn mT aKd mAs mPl aPg aWo aWs aMe mBf aBw mSd mIk mKk mKb mKs mKt aKsp aKtu aKkn mH pg 1 (by first | assumption | exact Nat.zero_le _ | omega)) (cwV 1 hts gX11_isGood_X11_figure rfl rfl rfl ⟨rfl, hdX11_figure⟩ ⟨Nat.le_of_ble_eq_true rfl, Nat.le_of_ble_eq_true rfl⟩) (preVS hC (hP.sub [0, 1] rfl) (va_recv hC.1 hP (ci := 11) (q0 := 0) rfl rfl)) rfl rfl hl.1 rfl (lv_room (Nat.le_of_ble_eq_true rfl)) dX11_isGood_58 ⟨Nat.le_of_ble_eq_true rfl, Nat.le_of_ble_eq_true rfl⟩) ?_
    refine lv_iconst (v := nI 0) hx hb dX11_isGood_61 (by decide) ?_
    refine lv_aload_n hx hb dX11_isGood_62 rfl (lv_at hl 0 rfl) ?_
    refine lv_iconst (v := nI 0) hx hb dX11_isGood_63 (by decide) ?_
    refine goSi (T := fg pg 0) (va_runV (As := [.int (nI 0)]) (rest := [.int (nI 0), .int (fg pg 1)]) ⟨hx, hb, hml, hown, hts⟩ (k_X11_fig l g mo mE mKi mB mTb mTr mFa aHab mIb mS aSp aTu aKn mT aKd mAs mPl aPg aWo aWs aMe mBf aBw mSd mIk mKk mKb mKs mKt aKsp aKtu aKkn mH pg 0 (by first | assumption | exact Nat.zero_le _ | omega)) (cwV 1 hts gX11_isGood_X11_figure rfl rfl rfl ⟨rfl, hdX11_figure⟩ ⟨Nat.le_of_ble_eq_true rfl, Nat.le_of_ble_eq_true rfl⟩) (preVS hC (hP.sub [0, 1] rfl) (va_recv hC.1 hP (ci := 11) (q0 := 0) rfl rfl)) rfl rfl hl.1 rfl (lv_room (Nat.le_of_ble_eq_true rfl)) dX11_isGood_64 ⟨Nat.le_of_ble_eq_true rfl, Nat.le_of_ble_eq_true rfl⟩) ?_
    refine goSi (T := zI (wth (fg pg 1) (nI 0) (fg pg 0))) (va_runS (As := [.int (fg pg 1), .int (nI 0), .int (fg pg 0)]) (rest := []) ⟨hx, hb, hml, hown, hts⟩ (k_X11_within l g (fg pg 1) (nI 0) (fg pg 0) ) (va_cwS 3 hts gX11_isGood_X11_within rfl rfl rfl hdX11_within ⟨Nat.le_of_ble_eq_true rfl, Nat.le_of_ble_eq_true rfl⟩) (preSS hC (hP.sub [] rfl)) rfl rfl hl.1 rfl (lv_room (Nat.le_of_ble_eq_true rfl)) dX11_isGood_67 ⟨Nat.le_of_ble_eq_true rfl, Nat.le_of_ble_eq_true rfl⟩) ?_
    exact retSz hx hb hr hlocks (zI_or _) (rfl) dX11_isGood_70
   ·obtain rfl : xk = 2 := (nI_eq (by omega) (by decide)).mp c1
    refine lv_tableIn (off := 70) (tgt := 71) hx hb dX11_isGood_1 (by decide) (by decide) (by decide) (by decide) ?_
    refine lv_aload_n hx hb dX11_isGood_71 rfl (lv_at hl 0 rfl) ?_
    refine va_get (D := g.1) (ci := 11) (v := .ref aPg) (C := RX11) (T := TX11) (N := 32) hx hb hts hinX11 hown hC.1 hP 0 rfl rfl 16 (by decide) f25 (fun _ h9 => h9) rfl dX11_isGood_72 ?_
    refine lv_iconst (v := nI 2) hx hb dX11_isGood_75 (by decide) ?_
    refine ald_b (f := fun j => nI (pg j)) (j := 2) hx hb hC hP 1 rfl (by omega) (by decide) dX11_isGood_76 ?_
    refine lv_bipush (v := nI 58) hx hb dX11_isGood_77 (by decide) ?_
    refine lv_icmp_ne (tgt := 86) hx hb dX11_isGood_79 (by decide) (fun c79 => ?_) (fun c79 => ?_)
    ·refine lv_iconst (v := nI 0) hx hb dX11_isGood_86 (by decide) ?_
     exact retSz hx hb hr hlocks (by decide) (by first | exact zI_1 (decide_eq_true c79) | exact zI_0 (decide_eq_false c79)) dX11_isGood_87
    ·refine lv_iconst (v := nI 1) hx hb dX11_isGood_82 (by decide) ?_
     refine lv_goto (tgt := 87) hx hb dX11_isGood_83 (by decide) ?_
     exact retSz hx hb hr hlocks (by decide) (by first | exact zI_1 (decide_eq_true c79) | exact zI_0 (decide_eq_false c79)) dX11_isGood_87
   ·obtain rfl : xk = 3 := (nI_eq (by omega) (by decide)).mp c1
    refine lv_tableIn (off := 87) (tgt := 88) hx hb dX11_isGood_1 (by decide) (by decide) (by decide) (by decide) ?_
    refine lv_aload_n hx hb dX11_isGood_88 rfl (lv_at hl 0 rfl) ?_
    refine lv_iload_n hx hb dX11_isGood_89 rfl (lv_at hl 1 rfl) ?_
    refine goSi (T := fg pg 3) (va_runV (As := [.int (nI 3)]) (rest := []) ⟨hx, hb, hml, hown, hts⟩ (k_X11_fig l g mo mE mKi mB mTb mTr mFa aHab mIb mS aSp aTu aKn mT aKd mAs mPl aPg aWo aWs aMe mBf aBw mSd mIk mKk mKb mKs mKt aKsp aKtu aKkn mH pg 3 (by first | assumption | exact Nat.zero_le _ | omega)) (cwV 1 hts gX11_isGood_X11_figure rfl rfl rfl ⟨rfl, hdX11_figure⟩ ⟨Nat.le_of_ble_eq_true rfl, Nat.le_of_ble_eq_true rfl⟩) (preVS hC (hP.sub [0, 1] rfl) (va_recv hC.1 hP (ci := 11) (q0 := 0) rfl rfl)) rfl rfl hl.1 rfl (lv_room (Nat.le_of_ble_eq_true rfl)) dX11_isGood_90 ⟨Nat.le_of_ble_eq_true rfl, Nat.le_of_ble_eq_true rfl⟩) ?_
    refine lv_iconst (v := nI 0) hx hb dX11_isGood_93 (by decide) ?_
    refine lv_bipush (v := nI 9) hx hb dX11_isGood_94 (by decide) ?_
    refine goSi (T := zI (wth (fg pg 3) (nI 0) (nI 9))) (va_runS (As := [.int (fg pg 3), .int (nI 0), .int (nI 9)]) (rest := []) ⟨hx, hb, hml, hown, hts⟩ (k_X11_within l g (fg pg 3) (nI 0) (nI 9) ) (va_cwS 3 hts gX11_isGood_X11_within rfl rfl rfl hdX11_within ⟨Nat.le_of_ble_eq_true rfl, Nat.le_of_ble_eq_true rfl⟩) (preSS hC (hP.sub [] rfl)) rfl rfl hl.1 rfl (lv_room (Nat.le_of_ble_eq_true rfl)) dX11_isGood_96 ⟨Nat.le_of_ble_eq_true rfl, Nat.le_of_ble_eq_true rfl⟩) ?_
    exact retSz hx hb hr hlocks (zI_or _) (rfl) dX11_isGood_99
   ·obtain rfl : xk = 4 := (nI_eq (by omega) (by decide)).mp c1
    refine lv_tableIn (off := 87) (tgt := 88) hx hb dX11_isGood_1 (by decide) (by decide) (by decide) (by decide) ?_
    refine lv_aload_n hx hb dX11_isGood_88 rfl (lv_at hl 0 rfl) ?_
    refine lv_iload_n hx hb dX11_isGood_89 rfl (lv_at hl 1 rfl) ?_
    refine goSi (T := fg pg 4) (va_runV (As := [.int (nI 4)]) (rest := []) ⟨hx, hb, hml, hown, hts⟩ (k_X11_fig l g mo mE mKi mB mTb mTr mFa aHab mIb mS aSp aTu aKn mT aKd mAs mPl aPg aWo aWs aMe mBf aBw mSd mIk mKk mKb mKs mKt aKsp aKtu aKkn mH pg 4 (by first | assumption | exact Nat.zero_le _ | omega)) (cwV 1 hts gX11_isGood_X11_figure rfl rfl rfl ⟨rfl, hdX11_figure⟩ ⟨Nat.le_of_ble_eq_true rfl, Nat.le_of_ble_eq_true rfl⟩) (preVS hC (hP.sub [0, 1] rfl) (va_recv hC.1 hP (ci := 11) (q0 := 0) rfl rfl)) rfl rfl hl.1 rfl (lv_room (Nat.le_of_ble_eq_true rfl)) dX11_isGood_90 ⟨Nat.le_of_ble_eq_true rfl, Nat.le_of_ble_eq_true rfl⟩) ?_
    refine lv_iconst (v := nI 0) hx hb dX11_isGood_93 (by decide) ?_
    refine lv_bipush (v := nI 9) hx hb dX11_isGood_94 (by decide) ?_
    refine goSi (T := zI (wth (fg pg 4) (nI 0) (nI 9))) (va_runS (As := [.int (fg pg 4), .int (nI 0), .int (nI 9)]) (rest := []) ⟨hx, hb, hml, hown, hts⟩ (k_X11_within l g (fg pg 4) (nI 0) (nI 9) ) (va_cwS 3 hts gX11_isGood_X11_within rfl rfl rfl hdX11_within ⟨Nat.le_of_ble_eq_true rfl, Nat.le_of_ble_eq_true rfl⟩) (preSS hC (hP.sub [] rfl)) rfl rfl hl.1 rfl (lv_room (Nat.le_of_ble_eq_true rfl)) dX11_isGood_96 ⟨Nat.le_of_ble_eq_true rfl, Nat.le_of_ble_eq_true rfl⟩) ?_
    exact retSz hx hb hr hlocks (zI_or _) (rfl) dX11_isGood_99
   ·obtain rfl : xk = 5 := (nI_eq (by omega) (by decide)).mp c1
    refine lv_tableIn (off := 87) (tgt := 88) hx hb dX11_isGood_1 (by decide) (by decide) (by decide) (by decide) ?_
    refine lv_aload_n hx hb dX11_isGood_88 rfl (lv_at hl 0 rfl) ?_
    refine lv_iload_n hx hb dX11_isGood_89 rfl (lv_at hl 1 rfl) ?_
    refine goSi (T := fg pg 5) (va_runV (As := [.int (nI 5)]) (rest := []) ⟨hx, hb, hml, hown, hts⟩ (k_X11_fig l g mo mE mKi mB mTb mTr mFa aHab mIb mS aSp aTu aKn mT aKd mAs mPl aPg aWo aWs aMe mBf aBw mSd mIk mKk mKb mKs mKt aKsp aKtu aKkn mH pg 5 (by first | assumption | exact Nat.zero_le _ | omega)) (cwV 1 hts gX11_isGood_X11_figure rfl rfl rfl ⟨rfl, hdX11_figure⟩ ⟨Nat.le_of_ble_eq_true rfl, Nat.le_of_ble_eq_true rfl⟩) (preVS hC (hP.sub [0, 1] rfl) (va_recv hC.1 hP (ci := 11) (q0 := 0) rfl rfl)) rfl rfl hl.1 rfl (lv_room (Nat.le_of_ble_eq_true rfl)) dX11_isGood_90 ⟨Nat.le_of_ble_eq_true rfl, Nat.le_of_ble_eq_true rfl⟩) ?_
    refine lv_iconst (v := nI 0) hx hb dX11_isGood_93 (by decide) ?_
    refine lv_bipush (v := nI 9) hx hb dX11_isGood_94 (by decide) ?_
    refine goSi (T := zI (wth (fg pg 5) (nI 0) (nI 9))) (va_runS (As := [.int (fg pg 5), .int (nI 0), .int (nI 9)]) (rest := []) ⟨hx, hb, hml, hown, hts⟩ (k_X11_within l g (fg pg 5) (nI 0) (nI 9) ) (va_cwS 3 hts gX11_isGood_X11_within rfl rfl rfl hdX11_within ⟨Nat.le_of_ble_eq_true rfl, Nat.le_of_ble_eq_true rfl⟩) (preSS hC (hP.sub [] rfl)) rfl rfl hl.1 rfl (lv_room (Nat.le_of_ble_eq_true rfl)) dX11_isGood_96 ⟨Nat.le_of_ble_eq_true rfl, Nat.le_of_ble_eq_true rfl⟩) ?_
    exact retSz hx hb hr hlocks (zI_or _) (rfl) dX11_isGood_99
   ·obtain rfl : xk = 6 := (nI_eq (by omega) (by decide)).mp c1
    refine lv_tableIn (off := 99) (tgt := 100) hx hb dX11_isGood_1 (by decide) (by decide) (by decide) (by decide) ?_
    refine lv_aload_n hx hb dX11_isGood_100 rfl (lv_at hl 0 rfl) ?_
    refine va_get (D := g.1) (ci := 11) (v := .ref aPg) (C := RX11) (T := TX11) (N := 32) hx hb hts hinX11 hown hC.1 hP 0 rfl rfl 16 (by decide) f25 (fun _ h9 => h9) rfl dX11_isGood_101 ?_
    refine lv_bipush (v := nI 6) hx hb dX11_isGood_104 (by decide) ?_
    refine ald_b (f := fun j => nI (pg j)) (j := 6) hx hb hC hP 1 rfl (by omega) (by decide) dX11_isGood_106 ?_
    refine lv_bipush (v := nI 59) hx hb dX11_isGood_107 (by decide) ?_
    refine lv_icmp_ne (tgt := 116) hx hb dX11_isGood_109 (by decide) (fun c109 => ?_) (fun c109 => ?_)
    ·refine lv_iconst (v := nI 0) hx hb dX11_isGood_116 (by decide) ?_
     exact retSz hx hb hr hlocks (by decide) (by first | exact zI_1 (decide_eq_true c109) | exact zI_0 (decide_eq_false c109)) dX11_isGood_117
    ·refine lv_iconst (v := nI 1) hx hb dX11_isGood_112 (by decide) ?_
     refine lv_goto (tgt := 117) hx hb dX11_isGood_113 (by decide) ?_
     exact retSz hx hb hr hlocks (by decide) (by first | exact zI_1 (decide_eq_true c109) | exact zI_0 (decide_eq_false c109)) dX11_isGood_117
  ·refine lv_tableOut (tgt := 118) hx hb dX11_isGood_1 (by omega) (by decide) ?_
   have h7 : 7 ≤ xk := sw_nI c1 (by omega)
   refine lv_iload_n hx hb dX11_isGood_118 rfl (lv_at hl 1 rfl) ?_
   refine lv_bipush (v := nI 7) hx hb dX11_isGood_119 (by decide) ?_
   refine lv_aload_n hx hb dX11_isGood_121 rfl (lv_at hl 0 rfl) ?_
   refine lv_iconst (v := nI 0) hx hb dX11_isGood_122 (by decide) ?_
   refine goSi (T := fg pg 0) (va_runV (As := [.int (nI 0)]) (rest := [.int (nI 7), .int (nI xk)]) ⟨hx, hb, hml, hown, hts⟩ (k_X11_fig l g mo mE mKi mB mTb mTr mFa aHab mIb mS aSp aTu aKn mT aKd mAs mPl aPg aWo aWs aMe mBf aBw mSd mIk mKk mKb mKs mKt aKsp aKtu aKkn mH pg 0 (by first | assumption | exact Nat.zero_le _ | omega)) (cwV 1 hts gX11_isGood_X11_figure rfl rfl rfl ⟨rfl, hdX11_figure⟩ ⟨Nat.le_of_ble_eq_true rfl, Nat.le_of_ble_eq_true rfl⟩) (preVS hC (hP.sub [0, 1] rfl) (va_recv hC.1 hP (ci := 11) (q0 := 0) rfl rfl)) rfl rfl hl.1 rfl (lv_room (Nat.le_of_ble_eq_true rfl)) dX11_isGood_123 ⟨Nat.le_of_ble_eq_true rfl, Nat.le_of_ble_eq_true rfl⟩) ?_
   refine lv_iadd hx hb dX11_isGood_126 ?_
   refine lv_icmp_ge (tgt := 147) hx hb dX11_isGood_127 (by decide) (fun c127 => ?_) (fun c127 => ?_)
   ·refine lv_iconst (v := nI 0) hx hb dX11_isGood_147 (by decide) ?_
    exact retSz hx hb hr hlocks (by decide) (by first | exact zI_1 (mG_t h7 c127 c140) | exact zI_0 (mG_f h7 c127) | exact zI_0 (mG_g h7 c140)) dX11_isGood_148
   ·refine lv_aload_n hx hb dX11_isGood_130 rfl (lv_at hl 0 rfl) ?_
    refine lv_iload_n hx hb dX11_isGood_131 rfl (lv_at hl 1 rfl) ?_
    refine goSi (T := fg pg xk) (va_runV (As := [.int (nI xk)]) (rest := []) ⟨hx, hb, hml, hown, hts⟩ (k_X11_fig l g mo mE mKi mB mTb mTr mFa aHab mIb mS aSp aTu aKn mT aKd mAs mPl aPg aWo aWs aMe mBf aBw mSd mIk mKk mKb mKs mKt aKsp aKtu aKkn mH pg xk (by first | assumption | exact Nat.zero_le _ | omega)) (cwV 1 hts gX11_isGood_X11_figure rfl rfl rfl ⟨rfl, hdX11_figure⟩ ⟨Nat.le_of_ble_eq_true rfl, Nat.le_of_ble_eq_true rfl⟩) (preVS hC (hP.sub [0, 1] rfl) (va_recv hC.1 hP (ci := 11) (q0 := 0) rfl rfl)) rfl rfl hl.1 rfl (lv_room (Nat.le_of_ble_eq_true rfl)) dX11_isGood_132 ⟨Nat.le_of_ble_eq_true rfl, Nat.le_of_ble_eq_true rfl⟩) ?_
    refine lv_iconst (v := nI 1) hx hb dX11_isGood_135 (by decide) ?_
    refine lv_iconst (v := nI 4) hx hb dX11_isGood_136 (by decide) ?_
    refine goSi (T := zI (wth (fg pg xk) (nI 1) (nI 4))) (va_runS (As := [.int (fg pg xk), .int (nI 1), .int (nI 4)]) (rest := []) ⟨hx, hb, hml, hown, hts⟩ (k_X11_within l g (fg pg xk) (nI 1) (nI 4) ) (va_cwS 3 hts gX11_isGood_X11_within rfl rfl rfl hdX11_within ⟨Nat.le_of_ble_eq_true rfl, Nat.le_of_ble_eq_true rfl⟩) (preSS hC (hP.sub [] rfl)) rfl rfl hl.1 rfl (lv_room (Nat.le_of_ble_eq_true rfl)) dX11_isGood_137 ⟨Nat.le_of_ble_eq_true rfl, Nat.le_of_ble_eq_true rfl⟩) ?_
    refine lv_if_eq (tgt := 147) hx hb dX11_isGood_140 (by decide) (fun c140 => ?_) (fun c140 => ?_)
    ·have c140 := zI_f.mp c140
     refine lv_iconst (v := nI 0) hx hb dX11_isGood_147 (by decide) ?_
     exact retSz hx hb hr hlocks (by decide) (by first | exact zI_1 (mG_t h7 c127 c140) | exact zI_0 (mG_f h7 c127) | exact zI_0 (mG_g h7 c140)) dX11_isGood_148
    ·have c140 := zI_t.mp c140
     refine lv_iconst (v := nI 1) hx hb dX11_isGood_143 (by decide) ?_
     refine lv_goto (tgt := 148) hx hb dX11_isGood_144 (by decide) ?_
     exact retSz hx hb hr hlocks (by decide) (by first | exact zI_1 (mG_t h7 c127 c140) | exact zI_0 (mG_f h7 c127) | exact zI_0 (mG_g h7 c140)) dX11_isGood_148

set_option maxHeartbeats 4000000 in
set_option maxRecDepth 100000 in
/-- BoiledEggsModel.faultNow  -/
theorem k_X11_faultNow (l : Launch) (g : GG) (mo : Nat) (mE : Nat) (mKi : Nat) (mB : Nat) (mTb : Nat) (mTr : Nat) (mFa : Nat) (aHab : Nat) (mIb : Nat) (mS : Nat) (aSp : Nat) (aTu : Nat) (aKn : Nat) (mT : Nat) (aKd : Nat) (mAs : Nat) (mPl : Nat) (aPg : Nat) (aWo : Nat) (aWs : Nat) (aMe : Nat) (mBf : Int32) (aBw : Nat) (mSd : Int64) (mIk : Int32) (mKk : Nat) (mKb : Nat) (mKs : Nat) (mKt : Nat) (aKsp : Nat) (aKtu : Nat) (aKkn : Nat) (mH : Int64) (pg : Nat → Nat) (hn0 : mPl ≤ 14) : Met l yX11_faultNow wsX11_faultNow ({ frames := 2, cells := 0, slots := 0, locals := 43 }) (pS g [.ref mo] [(mo, .inr (11, [.int (nI mE), .int (nI mKi), .int (nI mB), .int (nI mTb), .int (nI mTr), .int (nI mFa), .ref aHab, .int (nI mIb), .int (nI mS), .ref aSp, .ref aTu, .ref aKn, .int (nI mT), .ref aKd, .int (nI mAs), .int (nI mPl), .ref aPg, .ref aWo, .ref aWs, .ref aMe, .int mBf, .ref aBw, .long mSd, .int mIk, .int (nI mKk), .int (nI mKb), .int (nI mKs), .int (nI mKt), .ref aKsp, .ref aKtu, .ref aKkn, .long mH])), (aPg, .inl (g.2.2.2.1, 14, .inl (fun j => nI (pg j))))]) (vp_Si (fun r => r = (nI (ff (mGood pg) mPl 0)))) 0 0 noF := by
  refine metS (cc := cX11_faultNow) (maxL := 2) (ret := (some .int)) (by decide) rfl (Nat.le_of_ble_eq_true rfl) ?_
  intro p e s m below meth c hx hb hr hts hown hlocks hml hC hP ls hl
  have hl : lv_has ls 2 [(0, .ref mo)] := hl
  have hown : s.vm.findClass RX11 = some m.cls := hown
  have hts : ∀ w ∈ wsX11_faultNow, w.before ([.ref mo] : List Value).toArray s = true := hts
  have hinX11 := (by decide +kernel : ∀ w ∈ u_ws RX11 TX11 32, w ∈ wsX11_faultNow)
  have f55 := hts (.fieldLink RX11 55 "BoiledEggsModel" "pageLength" "I") (by decide +kernel)
  refine lv_iconst (v := nI 0) hx hb dX11_faultNow_0 (by decide) ?_
  refine lv_istore_n (lv' := [(1, .int (nI 0)), (0, .ref mo)]) hx hb dX11_faultNow_1 rfl hl (by decide) rfl (fun ls hl => ?_)
  have hL2 : ∀ (n_9 : Nat) (i : Nat), mPl - i < n_9 → (i ≤ mPl) → (ff (mGood pg) (mPl - i) i = ff (mGood pg) mPl 0) → ∀ ls : Array Slot, lv_has ls 2 [(0, .ref mo), (1, .int (nI i))] → W p l e ({ frames := 2, cells := 0, slots := 0, locals := 43 }) s m ([.ref mo] : List Value).toArray below meth c s.heap [] 0 0 (MQ below (vp_Si (fun r => r = (nI (ff (mGood pg) mPl 0)))) ([.ref mo] : List Value).toArray s 0 0 noF) (F0 m 2 ls []) := by
   intro n_9
   induction n_9 with
   | zero => intro i hn_9; exact absurd hn_9 (Nat.not_lt_zero _)
   | succ n_9 ih2 =>
    intro i hn_9 hi hf ls hl
    refine lv_iload_n hx hb dX11_faultNow_2 rfl (lv_at hl 1 rfl) ?_
    refine lv_aload_n hx hb dX11_faultNow_3 rfl (lv_at hl 0 rfl) ?_
    refine va_get (D := g.1) (ci := 11) (v := .int (nI mPl)) (C := RX11) (T := TX11) (N := 32) hx hb hts hinX11 hown hC.1 hP 0 rfl rfl 15 (by decide) f55 (fun _ h9 => h9) rfl dX11_faultNow_4 ?_
    refine lv_icmp_ge (tgt := 24) hx hb dX11_faultNow_7 (by decide) (fun c7 => ?_) (fun c7 => ?_)
    ·have c7 : mPl ≤ i := (nI_leI (a := mPl) (b := i) (by omega) (by omega)).mp c7
     refine lv_iload_n hx hb dX11_faultNow_24 rfl (lv_at hl 1 rfl) ?_
     exact retSi hx hb hr hlocks (by first | rw [← hf, ff_e (by omega)] | rw [← hf, ff_f c15 (by omega)]) dX11_faultNow_25
    ·have c7 : ¬ mPl ≤ i := fun h9 => c7 ((nI_leI (a := mPl) (b := i) (by omega) (by omega)).mpr h9)
     refine lv_aload_n hx hb dX11_faultNow_10 rfl (lv_at hl 0 rfl) ?_
     refine lv_iload_n hx hb dX11_faultNow_11 rfl (lv_at hl 1 rfl) ?_
     refine goSi (T := zI (mGood pg i)) (va_runV (As := [.int (nI i)]) (rest := []) ⟨hx, hb, hml, hown, hts⟩ (k_X11_isGood l g mo mE mKi mB mTb mTr mFa aHab mIb mS aSp aTu aKn mT aKd mAs mPl aPg aWo aWs aMe mBf aBw mSd mIk mKk mKb mKs mKt aKsp aKtu aKkn mH pg i (by first | assumption | exact Nat.zero_le _ | omega)) (cwV 1 hts gX11_faultNow_X11_isGood rfl rfl rfl ⟨rfl, hdX11_isGood⟩ ⟨Nat.le_of_ble_eq_true rfl, Nat.le_of_ble_eq_true rfl⟩) (preVS hC (hP.sub [0, 1] rfl) (va_recv hC.1 hP (ci := 11) (q0 := 0) rfl rfl)) rfl rfl hl.1 rfl (lv_room (Nat.le_of_ble_eq_true rfl)) dX11_faultNow_12 ⟨Nat.le_of_ble_eq_true rfl, Nat.le_of_ble_eq_true rfl⟩) ?_
     refine lv_if_eq (tgt := 24) hx hb dX11_faultNow_15 (by decide) (fun c15 => ?_) (fun c15 => ?_)
     ·have c15 := zI_f.mp c15
      refine lv_iload_n hx hb dX11_faultNow_24 rfl (lv_at hl 1 rfl) ?_
      exact retSi hx hb hr hlocks (by first | rw [← hf, ff_e (by omega)] | rw [← hf, ff_f c15 (by omega)]) dX11_faultNow_25
     ·have c15 := zI_t.mp c15
      refine lv_iinc (v := nI (i + 1)) (lv' := [(1, .int (nI (i + 1))), (0, .ref mo)]) hx hb dX11_faultNow_18 hl (k := 1) rfl (iinc1 _) (by decide) rfl (fun ls hl => ?_)
      refine lv_goto (tgt := 2) hx hb dX11_faultNow_21 (by decide) ?_
      exact ih2 (i + 1) (by omega) (by omega) (by rw [← hf]; exact ff_t c15 (by omega)) ls (lv_sub hl [1, 0] rfl)
  exact hL2 _ 0 (Nat.lt_succ_self _) (Nat.zero_le _) (rfl) ls (lv_sub hl [1, 0] rfl)

set_option maxHeartbeats 4000000 in
set_option maxRecDepth 100000 in
/-- BoiledEggsModel.fault  -/
theorem k_X11_fault (l : Launch) (g : GG) (mo : Nat) (mE : Nat) (mKi : Nat) (mB : Nat) (mTb : Nat) (mTr : Nat) (mFa : Nat) (aHab : Nat) (mIb : Nat) (mS : Nat) (aSp : Nat) (aTu : Nat) (aKn : Nat) (mT : Nat) (aKd : Nat) (mAs : Nat) (mPl : Nat) (aPg : Nat) (aWo : Nat) (aWs : Nat) (aMe : Nat) (mBf : Int32) (aBw : Nat) (mSd : Int64) (mIk : Int32) (mKk : Nat) (mKb : Nat) (mKs : Nat) (mKt : Nat) (aKsp : Nat) (aKtu : Nat) (aKkn : Nat) (mH : Int64) (pg : Nat → Nat) (hn0 : mPl ≤ 14) : Met l yX11_fault wsX11_fault ({ frames := 3, cells := 0, slots := 0, locals := 64 }) (pS g [.ref mo] [(mo, .inr (11, [.int (nI mE), .int (nI mKi), .int (nI mB), .int (nI mTb), .int (nI mTr), .int (nI mFa), .ref aHab, .int (nI mIb), .int (nI mS), .ref aSp, .ref aTu, .ref aKn, .int (nI mT), .ref aKd, .int (nI mAs), .int (nI mPl), .ref aPg, .ref aWo, .ref aWs, .ref aMe, .int mBf, .ref aBw, .long mSd, .int mIk, .int (nI mKk), .int (nI mKb), .int (nI mKs), .int (nI mKt), .ref aKsp, .ref aKtu, .ref aKkn, .long mH])), (aPg, .inl (g.2.2.2.1, 14, .inl (fun j => nI (pg j))))]) (vp_Si (fun r => r = (nI (ff (mGood pg) mPl 0)))) 0 0 noF := by
  refine metS (cc := cX11_fault) (maxL := 1) (ret := (some .int)) (by decide) rfl (Nat.le_of_ble_eq_true rfl) ?_
  intro p e s m below meth c hx hb hr hts hown hlocks hml hC hP ls hl
  have hl : lv_has ls 1 [(0, .ref mo)] := hl
  have hown : s.vm.findClass RX11 = some m.cls := hown
  have hts : ∀ w ∈ wsX11_fault, w.before ([.ref mo] : List Value).toArray s = true := hts
  refine lv_aload_n hx hb dX11_fault_0 rfl (lv_at hl 0 rfl) ?_
  refine goSi (T := nI (ff (mGood pg) mPl 0)) (va_runV (As := []) (rest := []) ⟨hx, hb, hml, hown, hts⟩ (k_X11_faultNow l g mo mE mKi mB mTb mTr mFa aHab mIb mS aSp aTu aKn mT aKd mAs mPl aPg aWo aWs aMe mBf aBw mSd mIk mKk mKb mKs mKt aKsp aKtu aKkn mH pg (by first | assumption | exact Nat.zero_le _ | omega)) (cwV 0 hts gX11_fault_X11_faultNow rfl rfl rfl ⟨rfl, hdX11_faultNow⟩ ⟨Nat.le_of_ble_eq_true rfl, Nat.le_of_ble_eq_true rfl⟩) (preVS hC (hP.sub [0, 1] rfl) (va_recv hC.1 hP (ci := 11) (q0 := 0) rfl rfl)) rfl rfl hl.1 rfl (lv_room (Nat.le_of_ble_eq_true rfl)) dX11_fault_1 ⟨Nat.le_of_ble_eq_true rfl, Nat.le_of_ble_eq_true rfl⟩) ?_
  exact retSi hx hb hr hlocks (rfl) dX11_fault_4

set_option maxHeartbeats 4000000 in
set_option maxRecDepth 100000 in
/-- BoiledEggsModel.isEgg  -/
theorem k_X11_isEgg (l : Launch) (g : GG) (mo : Nat) (mE : Nat) (mKi : Nat) (mB : Nat) (mTb : Nat) (mTr : Nat) (mFa : Nat) (aHab : Nat) (mIb : Nat) (mS : Nat) (aSp : Nat) (aTu : Nat) (aKn : Nat) (mT : Nat) (aKd : Nat) (mAs : Nat) (mPl : Nat) (aPg : Nat) (aWo : Nat) (aWs : Nat) (aMe : Nat) (mBf : Int32) (aBw : Nat) (mSd : Int64) (mIk : Int32) (mKk : Nat) (mKb : Nat) (mKs : Nat) (mKt : Nat) (aKsp : Nat) (aKtu : Nat) (aKkn : Nat) (mH : Int64) (xe : Int32) (hE : mE ≤ 6) : Met l yX11_isEgg wsX11_isEgg ({ frames := 1, cells := 0, slots := 0, locals := 22 }) (pS g [.ref mo, .int xe] [(mo, .inr (11, [.int (nI mE), .int (nI mKi), .int (nI mB), .int (nI mTb), .int (nI mTr), .int (nI mFa), .ref aHab, .int (nI mIb), .int (nI mS), .ref aSp, .ref aTu, .ref aKn, .int (nI mT), .ref aKd, .int (nI mAs), .int (nI mPl), .ref aPg, .ref aWo, .ref aWs, .ref aMe, .int mBf, .ref aBw, .long mSd, .int mIk, .int (nI mKk), .int (nI mKb), .int (nI mKs), .int (nI mKt), .ref aKsp, .ref aKtu, .ref aKkn, .long mH]))]) (vp_Si (fun r => r = (zI (isE mE xe)))) 0 0 noF := by
  refine metS (cc := cX11_isEgg) (maxL := 2) (ret := (some .boolean)) (by decide) rfl (Nat.le_of_ble_eq_true rfl) ?_
  intro p e s m below meth c hx hb hr hts hown hlocks hml hC hP ls hl
  have hl : lv_has ls 2 [(0, .ref mo), (1, .int xe)] := hl
  have hown : s.vm.findClass RX11 = some m.cls := hown
  have hts : ∀ w ∈ wsX11_isEgg, w.before ([.ref mo, .int xe] : List Value).toArray s = true := hts
  have hinX11 := (by decide +kernel : ∀ w ∈ u_ws RX11 TX11 32, w ∈ wsX11_isEgg)
  have f71 := hts (.fieldLink RX11 71 "BoiledEggsModel" "eggs" "I") (by decide +kernel)
  refine lv_iload_n hx hb dX11_isEgg_0 rfl (lv_at hl 1 rfl) ?_
  refine lv_iconst (v := nI 0) hx hb dX11_isEgg_1 (by decide) ?_
  refine lv_aload_n hx hb dX11_isEgg_2 rfl (lv_at hl 0 rfl) ?_
  refine va_get (D := g.1) (ci := 11) (v := .int (nI mE)) (C := RX11) (T := TX11) (N := 32) hx hb hts hinX11 hown hC.1 hP 0 rfl rfl 0 (by decide) f71 (fun _ h9 => h9) rfl dX11_isEgg_3 ?_
  refine lv_iconst (v := nI 1) hx hb dX11_isEgg_6 (by decide) ?_
  refine lv_isub hx hb dX11_isEgg_7 ?_
  refine goSi (T := zI (wth xe (nI 0) ((nI mE) - (nI 1)))) (va_runS (As := [.int xe, .int (nI 0), .int ((nI mE) - (nI 1))]) (rest := []) ⟨hx, hb, hml, hown, hts⟩ (k_X11_within l g xe (nI 0) ((nI mE) - (nI 1)) ) (va_cwS 3 hts gX11_isEgg_X11_within rfl rfl rfl hdX11_within ⟨Nat.le_of_ble_eq_true rfl, Nat.le_of_ble_eq_true rfl⟩) (preSS hC (hP.sub [] rfl)) rfl rfl hl.1 rfl (lv_room (Nat.le_of_ble_eq_true rfl)) dX11_isEgg_8 ⟨Nat.le_of_ble_eq_true rfl, Nat.le_of_ble_eq_true rfl⟩) ?_
  exact retSz hx hb hr hlocks (zI_or _) (by rw [isE_m (by omega)]) dX11_isEgg_11

set_option maxHeartbeats 4000000 in
set_option maxRecDepth 100000 in
/-- BoiledEggsModel.isTrier  -/
theorem k_X11_isTrier (l : Launch) (g : GG) (mo : Nat) (mE : Nat) (mKi : Nat) (mB : Nat) (mTb : Nat) (mTr : Nat) (mFa : Nat) (aHab : Nat) (mIb : Nat) (mS : Nat) (aSp : Nat) (aTu : Nat) (aKn : Nat) (mT : Nat) (aKd : Nat) (mAs : Nat) (mPl : Nat) (aPg : Nat) (aWo : Nat) (aWs : Nat) (aMe : Nat) (mBf : Int32) (aBw : Nat) (mSd : Int64) (mIk : Int32) (mKk : Nat) (mKb : Nat) (mKs : Nat) (mKt : Nat) (aKsp : Nat) (aKtu : Nat) (aKkn : Nat) (mH : Int64) (xe : Int32) (hT : mT ≤ 4) : Met l yX11_isTrier wsX11_isTrier ({ frames := 1, cells := 0, slots := 0, locals := 22 }) (pS g [.ref mo, .int xe] [(mo, .inr (11, [.int (nI mE), .int (nI mKi), .int (nI mB), .int (nI mTb), .int (nI mTr), .int (nI mFa), .ref aHab, .int (nI mIb), .int (nI mS), .ref aSp, .ref aTu, .ref aKn, .int (nI mT), .ref aKd, .int (nI mAs), .int (nI mPl), .ref aPg, .ref aWo, .ref aWs, .ref aMe, .int mBf, .ref aBw, .long mSd, .int mIk, .int (nI mKk), .int (nI mKb), .int (nI mKs), .int (nI mKt), .ref aKsp, .ref aKtu, .ref aKkn, .long mH]))]) (vp_Si (fun r => r = (zI (isE mT xe)))) 0 0 noF := by
  refine metS (cc := cX11_isTrier) (maxL := 2) (ret := (some .boolean)) (by decide) rfl (Nat.le_of_ble_eq_true rfl) ?_
  intro p e s m below meth c hx hb hr hts hown hlocks hml hC hP ls hl
  have hl : lv_has ls 2 [(0, .ref mo), (1, .int xe)] := hl
  have hown : s.vm.findClass RX11 = some m.cls := hown
  have hts : ∀ w ∈ wsX11_isTrier, w.before ([.ref mo, .int xe] : List Value).toArray s = true := hts
  have hinX11 := (by decide +kernel : ∀ w ∈ u_ws RX11 TX11 32, w ∈ wsX11_isTrier)
  have f92 := hts (.fieldLink RX11 92 "BoiledEggsModel" "triers" "I") (by decide +kernel)
  refine lv_iload_n hx hb dX11_isTrier_0 rfl (lv_at hl 1 rfl) ?_
  refine lv_iconst (v := nI 0) hx hb dX11_isTrier_1 (by decide) ?_
  refine lv_aload_n hx hb dX11_isTrier_2 rfl (lv_at hl 0 rfl) ?_
  refine va_get (D := g.1) (ci := 11) (v := .int (nI mT)) (C := RX11) (T := TX11) (N := 32) hx hb hts hinX11 hown hC.1 hP 0 rfl rfl 12 (by decide) f92 (fun _ h9 => h9) rfl dX11_isTrier_3 ?_
  refine lv_iconst (v := nI 1) hx hb dX11_isTrier_6 (by decide) ?_
  refine lv_isub hx hb dX11_isTrier_7 ?_
  refine goSi (T := zI (wth xe (nI 0) ((nI mT) - (nI 1)))) (va_runS (As := [.int xe, .int (nI 0), .int ((nI mT) - (nI 1))]) (rest := []) ⟨hx, hb, hml, hown, hts⟩ (k_X11_within l g xe (nI 0) ((nI mT) - (nI 1)) ) (va_cwS 3 hts gX11_isTrier_X11_within rfl rfl rfl hdX11_within ⟨Nat.le_of_ble_eq_true rfl, Nat.le_of_ble_eq_true rfl⟩) (preSS hC (hP.sub [] rfl)) rfl rfl hl.1 rfl (lv_room (Nat.le_of_ble_eq_true rfl)) dX11_isTrier_8 ⟨Nat.le_of_ble_eq_true rfl, Nat.le_of_ble_eq_true rfl⟩) ?_
  exact retSz hx hb hr hlocks (zI_or _) (by rw [isE_m (by omega)]) dX11_isTrier_11

set_option maxHeartbeats 4000000 in
set_option maxRecDepth 100000 in
/-- BoiledEggsModel.isInBox  -/
theorem k_X11_isInBox (l : Launch) (g : GG) (mo : Nat) (mE : Nat) (mKi : Nat) (mB : Nat) (mTb : Nat) (mTr : Nat) (mFa : Nat) (aHab : Nat) (mIb : Nat) (mS : Nat) (aSp : Nat) (aTu : Nat) (aKn : Nat) (mT : Nat) (aKd : Nat) (mAs : Nat) (mPl : Nat) (aPg : Nat) (aWo : Nat) (aWs : Nat) (aMe : Nat) (mBf : Int32) (aBw : Nat) (mSd : Int64) (mIk : Int32) (mKk : Nat) (mKb : Nat) (mKs : Nat) (mKt : Nat) (aKsp : Nat) (aKtu : Nat) (aKkn : Nat) (mH : Int64) (xe : Nat) (he0 : xe < 31) (hib : mIb < 64) : Met l yX11_isInBox wsX11_isInBox ({ frames := 1, cells := 0, slots := 0, locals := 21 }) (pS g [.ref mo, .int (nI xe)] [(mo, .inr (11, [.int (nI mE), .int (nI mKi), .int (nI mB), .int (nI mTb), .int (nI mTr), .int (nI mFa), .ref aHab, .int (nI mIb), .int (nI mS), .ref aSp, .ref aTu, .ref aKn, .int (nI mT), .ref aKd, .int (nI mAs), .int (nI mPl), .ref aPg, .ref aWo, .ref aWs, .ref aMe, .int mBf, .ref aBw, .long mSd, .int mIk, .int (nI mKk), .int (nI mKb), .int (nI mKs), .int (nI mKt), .ref aKsp, .ref aKtu, .ref aKkn, .long mH]))]) (vp_Si (fun r => r = (zI (mIb.testBit xe)))) 0 0 noF := by
  refine metS (cc := cX11_isInBox) (maxL := 2) (ret := (some .boolean)) (by decide) rfl (Nat.le_of_ble_eq_true rfl) ?_
  intro p e s m below meth c hx hb hr hts hown hlocks hml hC hP ls hl
  have hl : lv_has ls 2 [(0, .ref mo), (1, .int (nI xe))] := hl
  have hown : s.vm.findClass RX11 = some m.cls := hown
  have hts : ∀ w ∈ wsX11_isInBox, w.before ([.ref mo, .int (nI xe)] : List Value).toArray s = true := hts
  have hinX11 := (by decide +kernel : ∀ w ∈ u_ws RX11 TX11 32, w ∈ wsX11_isInBox)
  have f86 := hts (.fieldLink RX11 86 "BoiledEggsModel" "inBox" "I") (by decide +kernel)
  refine lv_aload_n hx hb dX11_isInBox_0 rfl (lv_at hl 0 rfl) ?_
  refine va_get (D := g.1) (ci := 11) (v := .int (nI mIb)) (C := RX11) (T := TX11) (N := 32) hx hb hts hinX11 hown hC.1 hP 0 rfl rfl 7 (by decide) f86 (fun _ h9 => h9) rfl dX11_isInBox_1 ?_
  refine lv_iload_n hx hb dX11_isInBox_4 rfl (lv_at hl 1 rfl) ?_
  refine goSi (T := zI (mIb.testBit xe)) (va_runS (As := [.int (nI mIb), .int (nI xe)]) (rest := []) ⟨hx, hb, hml, hown, hts⟩ (k_X11_has l g mIb xe (by first | assumption | exact Nat.zero_le _ | omega) (by first | assumption | exact Nat.zero_le _ | omega)) (va_cwS 2 hts gX11_isInBox_X11_has rfl rfl rfl hdX11_has ⟨Nat.le_of_ble_eq_true rfl, Nat.le_of_ble_eq_true rfl⟩) (preSS hC (hP.sub [] rfl)) rfl rfl hl.1 rfl (lv_room (Nat.le_of_ble_eq_true rfl)) dX11_isInBox_5 ⟨Nat.le_of_ble_eq_true rfl, Nat.le_of_ble_eq_true rfl⟩) ?_
  exact retSz hx hb hr hlocks (zI_or _) (rfl) dX11_isInBox_8

set_option maxHeartbeats 4000000 in
set_option maxRecDepth 100000 in
/-- BoiledEggsModel.eggNow  -/
theorem k_X11_eggNow (l : Launch) (g : GG) (mo : Nat) (mE : Nat) (mKi : Nat) (mB : Nat) (mTb : Nat) (mTr : Nat) (mFa : Nat) (aHab : Nat) (mIb : Nat) (mS : Nat) (aSp : Nat) (aTu : Nat) (aKn : Nat) (mT : Nat) (aKd : Nat) (mAs : Nat) (mPl : Nat) (aPg : Nat) (aWo : Nat) (aWs : Nat) (aMe : Nat) (mBf : Int32) (aBw : Nat) (mSd : Int64) (mIk : Int32) (mKk : Nat) (mKb : Nat) (mKs : Nat) (mKt : Nat) (aKsp : Nat) (aKtu : Nat) (aKkn : Nat) (mH : Int64) (hab : Nat → Nat) (sp : Nat → Nat) (tu : Nat → Nat) (kn : Nat → Int32) (xe : Nat) (xw : Int32) (he0 : xe < 6) (hib : mIb < 64) : Met l yX11_eggNow wsX11_eggNow ({ frames := 0, cells := 0, slots := 0, locals := 0 }) (pS g [.ref mo, .int (nI xe), .int xw] [(mo, .inr (11, [.int (nI mE), .int (nI mKi), .int (nI mB), .int (nI mTb), .int (nI mTr), .int (nI mFa), .ref aHab, .int (nI mIb), .int (nI mS), .ref aSp, .ref aTu, .ref aKn, .int (nI mT), .ref aKd, .int (nI mAs), .int (nI mPl), .ref aPg, .ref aWo, .ref aWs, .ref aMe, .int mBf, .ref aBw, .long mSd, .int mIk, .int (nI mKk), .int (nI mKb), .int (nI mKs), .int (nI mKt), .ref aKsp, .ref aKtu, .ref aKkn, .long mH])), (aHab, .inl (g.2.1, 6, .inl (fun j => nI (hab j)))), (aSp, .inl (g.2.1, 6, .inl (fun j => nI (sp j)))), (aTu, .inl (g.2.1, 6, .inl (fun j => nI (tu j)))), (aKn, .inl (g.2.1, 6, .inl kn))]) (vp_Si (fun r => r = (swA (eggL hab sp tu mIb xe) (kn xe) xw))) 0 0 noF := by
  refine metS (cc := cX11_eggNow) (maxL := 3) (ret := (some .int)) (by decide) rfl (Nat.le_of_ble_eq_true rfl) ?_
  intro p e s m below meth c hx hb hr hts hown hlocks hml hC hP ls hl
  have hl : lv_has ls 3 [(0, .ref mo), (1, .int (nI xe)), (2, .int xw)] := hl
  have hown : s.vm.findClass RX11 = some m.cls := hown
  have hts : ∀ w ∈ wsX11_eggNow, w.before ([.ref mo, .int (nI xe), .int xw] : List Value).toArray s = true := hts
  have hinX11 := (by decide +kernel : ∀ w ∈ u_ws RX11 TX11 32, w ∈ wsX11_eggNow)
  have f7 := hts (.fieldLink RX11 7 "BoiledEggsModel" "habitOf" "[I") (by decide +kernel)
  have f86 := hts (.fieldLink RX11 86 "BoiledEggsModel" "inBox" "I") (by decide +kernel)
  have f13 := hts (.fieldLink RX11 13 "BoiledEggsModel" "spinsOf" "[I") (by decide +kernel)
  have f16 := hts (.fieldLink RX11 16 "BoiledEggsModel" "turnedOf" "[I") (by decide +kernel)
  have f19 := hts (.fieldLink RX11 19 "BoiledEggsModel" "knownOf" "[I") (by decide +kernel)
  refine lv_iload_n hx hb dX11_eggNow_0 rfl (lv_at hl 2 rfl) ?_
  rcases sw_cases xw 4 (by decide) with ⟨k9, hk9, c1⟩ | c1
  ·have hk9 : k9 = 0 ∨ k9 = 1 ∨ k9 = 2 ∨ k9 = 3 := by omega
   rcases hk9 with rfl | rfl | rfl | rfl
   ·subst c1
    refine lv_tableIn (off := 31) (tgt := 32) hx hb dX11_eggNow_1 (by decide) (by decide) (by decide) (by decide) ?_
    refine lv_aload_n hx hb dX11_eggNow_32 rfl (lv_at hl 0 rfl) ?_
    refine va_get (D := g.1) (ci := 11) (v := .ref aHab) (C := RX11) (T := TX11) (N := 32) hx hb hts hinX11 hown hC.1 hP 0 rfl rfl 6 (by decide) f7 (fun _ h9 => h9) rfl dX11_eggNow_33 ?_
    refine lv_iload_n hx hb dX11_eggNow_36 rfl (lv_at hl 1 rfl) ?_
    refine ald_i (f := fun j => nI (hab j)) (j := xe) hx hb hC hP 1 rfl (by omega) (by decide) dX11_eggNow_37 ?_
    exact retSi hx hb hr hlocks (rfl) dX11_eggNow_38
   ·subst c1
    refine lv_tableIn (off := 38) (tgt := 39) hx hb dX11_eggNow_1 (by decide) (by decide) (by decide) (by decide) ?_
    refine lv_aload_n hx hb dX11_eggNow_39 rfl (lv_at hl 0 rfl) ?_
    refine va_get (D := g.1) (ci := 11) (v := .int (nI mIb)) (C := RX11) (T := TX11) (N := 32) hx hb hts hinX11 hown hC.1 hP 0 rfl rfl 7 (by decide) f86 (fun _ h9 => h9) rfl dX11_eggNow_40 ?_
    refine lv_iload_n hx hb dX11_eggNow_43 rfl (lv_at hl 1 rfl) ?_
    refine lv_ishr hx hb dX11_eggNow_44 ?_
    refine top_i (y := nI (mIb / 2 ^ xe)) (shr_nI (by omega) (by omega)) ?_
    refine lv_iconst (v := nI 1) hx hb dX11_eggNow_45 (by decide) ?_
    refine lv_iand hx hb dX11_eggNow_46 ?_
    refine top_i (y := nI (mIb / 2 ^ xe % 2)) (and1_nI (by have := Nat.div_le_self mIb (2 ^ xe); omega)) ?_
    exact retSi hx hb hr hlocks (rfl) dX11_eggNow_47
   ·subst c1
    refine lv_tableIn (off := 47) (tgt := 48) hx hb dX11_eggNow_1 (by decide) (by decide) (by decide) (by decide) ?_
    refine lv_aload_n hx hb dX11_eggNow_48 rfl (lv_at hl 0 rfl) ?_
    refine va_get (D := g.1) (ci := 11) (v := .ref aSp) (C := RX11) (T := TX11) (N := 32) hx hb hts hinX11 hown hC.1 hP 0 rfl rfl 9 (by decide) f13 (fun _ h9 => h9) rfl dX11_eggNow_49 ?_
    refine lv_iload_n hx hb dX11_eggNow_52 rfl (lv_at hl 1 rfl) ?_
    refine ald_i (f := fun j => nI (sp j)) (j := xe) hx hb hC hP 2 rfl (by omega) (by decide) dX11_eggNow_53 ?_
    exact retSi hx hb hr hlocks (rfl) dX11_eggNow_54
   ·subst c1
    refine lv_tableIn (off := 54) (tgt := 55) hx hb dX11_eggNow_1 (by decide) (by decide) (by decide) (by decide) ?_
    refine lv_aload_n hx hb dX11_eggNow_55 rfl (lv_at hl 0 rfl) ?_
    refine va_get (D := g.1) (ci := 11) (v := .ref aTu) (C := RX11) (T := TX11) (N := 32) hx hb hts hinX11 hown hC.1 hP 0 rfl rfl 10 (by decide) f16 (fun _ h9 => h9) rfl dX11_eggNow_56 ?_
    refine lv_iload_n hx hb dX11_eggNow_59 rfl (lv_at hl 1 rfl) ?_
    refine ald_i (f := fun j => nI (tu j)) (j := xe) hx hb hC hP 3 rfl (by omega) (by decide) dX11_eggNow_60 ?_
    exact retSi hx hb hr hlocks (rfl) dX11_eggNow_61
  ·refine lv_tableOut (tgt := 62) hx hb dX11_eggNow_1 (by omega) (by decide) ?_
   refine lv_aload_n hx hb dX11_eggNow_62 rfl (lv_at hl 0 rfl) ?_
   refine va_get (D := g.1) (ci := 11) (v := .ref aKn) (C := RX11) (T := TX11) (N := 32) hx hb hts hinX11 hown hC.1 hP 0 rfl rfl 11 (by decide) f19 (fun _ h9 => h9) rfl dX11_eggNow_63 ?_
   refine lv_iload_n hx hb dX11_eggNow_66 rfl (lv_at hl 1 rfl) ?_
   refine ald_i (f := kn) (j := xe) hx hb hC hP 4 rfl (by omega) (by decide) dX11_eggNow_67 ?_
   exact retSi hx hb hr hlocks ((if_pos c1).symm) dX11_eggNow_68

set_option maxHeartbeats 4000000 in
set_option maxRecDepth 100000 in
/-- BoiledEggsModel.egg  -/
theorem k_X11_egg (l : Launch) (g : GG) (mo : Nat) (mE : Nat) (mKi : Nat) (mB : Nat) (mTb : Nat) (mTr : Nat) (mFa : Nat) (aHab : Nat) (mIb : Nat) (mS : Nat) (aSp : Nat) (aTu : Nat) (aKn : Nat) (mT : Nat) (aKd : Nat) (mAs : Nat) (mPl : Nat) (aPg : Nat) (aWo : Nat) (aWs : Nat) (aMe : Nat) (mBf : Int32) (aBw : Nat) (mSd : Int64) (mIk : Int32) (mKk : Nat) (mKb : Nat) (mKs : Nat) (mKt : Nat) (aKsp : Nat) (aKtu : Nat) (aKkn : Nat) (mH : Int64) (hab : Nat → Nat) (sp : Nat → Nat) (tu : Nat → Nat) (kn : Nat → Int32) (xe : Int32) (xw : Int32) (hE : mE ≤ 6) (hib : mIb < 64) : Met l yX11_egg wsX11_egg ({ frames := 2, cells := 0, slots := 0, locals := 43 }) (pS g [.ref mo, .int xe, .int xw] [(mo, .inr (11, [.int (nI mE), .int (nI mKi), .int (nI mB), .int (nI mTb), .int (nI mTr), .int (nI mFa), .ref aHab, .int (nI mIb), .int (nI mS), .ref aSp, .ref aTu, .ref aKn, .int (nI mT), .ref aKd, .int (nI mAs), .int (nI mPl), .ref aPg, .ref aWo, .ref aWs, .ref aMe, .int mBf, .ref aBw, .long mSd, .int mIk, .int (nI mKk), .int (nI mKb), .int (nI mKs), .int (nI mKt), .ref aKsp, .ref aKtu, .ref aKkn, .long mH])), (aHab, .inl (g.2.1, 6, .inl (fun j => nI (hab j)))), (aSp, .inl (g.2.1, 6, .inl (fun j => nI (sp j)))), (aTu, .inl (g.2.1, 6, .inl (fun j => nI (tu j)))), (aKn, .inl (g.2.1, 6, .inl kn))]) (vp_Si (fun r => r = (eggR mE hab sp tu kn mIb xe xw))) 0 0 noF := by
  refine metS (cc := cX11_egg) (maxL := 3) (ret := (some .int)) (by decide) rfl (Nat.le_of_ble_eq_true rfl) ?_
  intro p e s m below meth c hx hb hr hts hown hlocks hml hC hP ls hl
  have hl : lv_has ls 3 [(0, .ref mo), (1, .int xe), (2, .int xw)] := hl
  have hown : s.vm.findClass RX11 = some m.cls := hown
  have hts : ∀ w ∈ wsX11_egg, w.before ([.ref mo, .int xe, .int xw] : List Value).toArray s = true := hts
  refine lv_aload_n hx hb dX11_egg_0 rfl (lv_at hl 0 rfl) ?_
  refine lv_iload_n hx hb dX11_egg_1 rfl (lv_at hl 1 rfl) ?_
  refine goSi (T := zI (isE mE xe)) (va_runV (As := [.int xe]) (rest := []) ⟨hx, hb, hml, hown, hts⟩ (k_X11_isEgg l g mo mE mKi mB mTb mTr mFa aHab mIb mS aSp aTu aKn mT aKd mAs mPl aPg aWo aWs aMe mBf aBw mSd mIk mKk mKb mKs mKt aKsp aKtu aKkn mH xe (by first | assumption | exact Nat.zero_le _ | omega)) (cwV 1 hts gX11_egg_X11_isEgg rfl rfl rfl ⟨rfl, hdX11_isEgg⟩ ⟨Nat.le_of_ble_eq_true rfl, Nat.le_of_ble_eq_true rfl⟩) (preVS hC (hP.sub [0] rfl) (va_recv hC.1 hP (ci := 11) (q0 := 0) rfl rfl)) rfl rfl hl.1 rfl (lv_room (Nat.le_of_ble_eq_true rfl)) dX11_egg_2 ⟨Nat.le_of_ble_eq_true rfl, Nat.le_of_ble_eq_true rfl⟩) ?_
  refine lv_if_ne (tgt := 13) hx hb dX11_egg_5 (by decide) (fun c5 => ?_) (fun c5 => ?_)
  ·have c5 := zI_t.mp c5
   obtain ⟨k, hk, rfl⟩ := isE_t c5
   refine lv_iload_n hx hb dX11_egg_13 rfl (lv_at hl 2 rfl) ?_
   refine lv_iconst (v := nI 0) hx hb dX11_egg_14 (by decide) ?_
   refine lv_iconst (v := nI 4) hx hb dX11_egg_15 (by decide) ?_
   refine goSi (T := zI (wth xw (nI 0) (nI 4))) (va_runS (As := [.int xw, .int (nI 0), .int (nI 4)]) (rest := []) ⟨hx, hb, hml, hown, hts⟩ (k_X11_within l g xw (nI 0) (nI 4) ) (va_cwS 3 hts gX11_egg_X11_within rfl rfl rfl hdX11_within ⟨Nat.le_of_ble_eq_true rfl, Nat.le_of_ble_eq_true rfl⟩) (preSS hC (hP.sub [] rfl)) rfl rfl hl.1 rfl (lv_room (Nat.le_of_ble_eq_true rfl)) dX11_egg_16 ⟨Nat.le_of_ble_eq_true rfl, Nat.le_of_ble_eq_true rfl⟩) ?_
   refine lv_if_eq (tgt := 31) hx hb dX11_egg_19 (by decide) (fun c19 => ?_) (fun c19 => ?_)
   ·have c19 := zI_f.mp c19
    refine lv_bipush (v := (-102)) hx hb dX11_egg_31 (by decide) ?_
    exact retSi hx hb hr hlocks (by first | rw [eggR, if_pos c5, if_pos c19, ix_nI (by omega)] | rw [eggR, if_pos c5, if_neg (by rw [c19]; decide)] | rw [eggR, if_neg (by rw [c5]; decide)]) dX11_egg_33
   ·have c19 := zI_t.mp c19
    refine lv_aload_n hx hb dX11_egg_22 rfl (lv_at hl 0 rfl) ?_
    refine lv_iload_n hx hb dX11_egg_23 rfl (lv_at hl 1 rfl) ?_
    refine lv_iload_n hx hb dX11_egg_24 rfl (lv_at hl 2 rfl) ?_
    refine goSi (T := swA (eggL hab sp tu mIb k) (kn k) xw) (va_runV (As := [.int (nI k), .int xw]) (rest := []) ⟨hx, hb, hml, hown, hts⟩ (k_X11_eggNow l g mo mE mKi mB mTb mTr mFa aHab mIb mS aSp aTu aKn mT aKd mAs mPl aPg aWo aWs aMe mBf aBw mSd mIk mKk mKb mKs mKt aKsp aKtu aKkn mH hab sp tu kn k xw (by first | assumption | exact Nat.zero_le _ | omega) (by first | assumption | exact Nat.zero_le _ | omega)) (cwV 2 hts gX11_egg_X11_eggNow rfl rfl rfl ⟨rfl, hdX11_eggNow⟩ ⟨Nat.le_of_ble_eq_true rfl, Nat.le_of_ble_eq_true rfl⟩) (preVS hC (hP.sub [0, 1, 2, 3, 4] rfl) (va_recv hC.1 hP (ci := 11) (q0 := 0) rfl rfl)) rfl rfl hl.1 rfl (lv_room (Nat.le_of_ble_eq_true rfl)) dX11_egg_25 ⟨Nat.le_of_ble_eq_true rfl, Nat.le_of_ble_eq_true rfl⟩) ?_
    refine lv_goto (tgt := 33) hx hb dX11_egg_28 (by decide) ?_
    exact retSi hx hb hr hlocks (by first | rw [eggR, if_pos c5, if_pos c19, ix_nI (by omega)] | rw [eggR, if_pos c5, if_neg (by rw [c19]; decide)] | rw [eggR, if_neg (by rw [c5]; decide)]) dX11_egg_33
  ·have c5 := zI_f.mp c5
   refine lv_bipush (v := (-101)) hx hb dX11_egg_8 (by decide) ?_
   refine lv_goto (tgt := 33) hx hb dX11_egg_10 (by decide) ?_
   exact retSi hx hb hr hlocks (by first | rw [eggR, if_pos c5, if_pos c19, ix_nI (by omega)] | rw [eggR, if_pos c5, if_neg (by rw [c19]; decide)] | rw [eggR, if_neg (by rw [c5]; decide)]) dX11_egg_33

set_option maxHeartbeats 4000000 in
set_option maxRecDepth 100000 in
/-- BoiledEggsModel.likelyNow  -/
theorem k_X11_likelyNow (l : Launch) (g : GG) (mo : Nat) (mE : Nat) (mKi : Nat) (mB : Nat) (mTb : Nat) (mTr : Nat) (mFa : Nat) (aHab : Nat) (mIb : Nat) (mS : Nat) (aSp : Nat) (aTu : Nat) (aKn : Nat) (mT : Nat) (aKd : Nat) (mAs : Nat) (mPl : Nat) (aPg : Nat) (aWo : Nat) (aWs : Nat) (aMe : Nat) (mBf : Int32) (aBw : Nat) (mSd : Int64) (mIk : Int32) (mKk : Nat) (mKb : Nat) (mKs : Nat) (mKt : Nat) (aKsp : Nat) (aKtu : Nat) (aKkn : Nat) (mH : Int64) (hab : Nat → Nat) (sp : Nat → Nat) (tu : Nat → Nat) (kn : Nat → Int32) (xe : Nat) (xp : Int32) (hok : wOK mE mTb mTr hab sp tu) (hB0 : mB < 1000) (he0 : xe < 31) (ht : tot (mW mE mB mTb mTr hab sp tu kn) mE (-1) 0 < 2 ^ 60) (hp : 0 < tot (mW mE mB mTb mTr hab sp tu kn) mE (-1) 0) (hbt : bwt (mW mE mB mTb mTr hab sp tu kn) mE xe 0 < 2 ^ 60) : Met l yX11_likelyNow wsX11_likelyNow ({ frames := 4, cells := 0, slots := 0, locals := 100 }) (pS g [.ref mo, .int (nI xe), .int xp] [(mo, .inr (11, [.int (nI mE), .int (nI mKi), .int (nI mB), .int (nI mTb), .int (nI mTr), .int (nI mFa), .ref aHab, .int (nI mIb), .int (nI mS), .ref aSp, .ref aTu, .ref aKn, .int (nI mT), .ref aKd, .int (nI mAs), .int (nI mPl), .ref aPg, .ref aWo, .ref aWs, .ref aMe, .int mBf, .ref aBw, .long mSd, .int mIk, .int (nI mKk), .int (nI mKb), .int (nI mKs), .int (nI mKt), .ref aKsp, .ref aKtu, .ref aKkn, .long mH])), (aHab, .inl (g.2.1, 6, .inl (fun j => nI (hab j)))), (aSp, .inl (g.2.1, 6, .inl (fun j => nI (sp j)))), (aTu, .inl (g.2.1, 6, .inl (fun j => nI (tu j)))), (aKn, .inl (g.2.1, 6, .inl kn))]) (vp_Sl (fun r => r = (lN (low (bwt (mW mE mB mTb mTr hab sp tu kn) mE xe 0) (tot (mW mE mB mTb mTr hab sp tu kn) mE (-1) 0) xp)))) 0 0 noF := by
  refine metS (cc := cX11_likelyNow) (maxL := 3) (ret := (some .long)) (by decide) rfl (Nat.le_of_ble_eq_true rfl) ?_
  intro p e s m below meth c hx hb hr hts hown hlocks hml hC hP ls hl
  have hl : lv_has ls 3 [(0, .ref mo), (1, .int (nI xe)), (2, .int xp)] := hl
  have hown : s.vm.findClass RX11 = some m.cls := hown
  have hts : ∀ w ∈ wsX11_likelyNow, w.before ([.ref mo, .int (nI xe), .int xp] : List Value).toArray s = true := hts
  refine lv_aload_n hx hb dX11_likelyNow_0 rfl (lv_at hl 0 rfl) ?_
  refine lv_iload_n hx hb dX11_likelyNow_1 rfl (lv_at hl 1 rfl) ?_
  refine lv_iconst (v := nI 0) hx hb dX11_likelyNow_2 (by decide) ?_
  refine goSl (T := lN (bwt (mW mE mB mTb mTr hab sp tu kn) mE xe 0)) (va_runV (As := [.int (nI xe), .int (nI 0)]) (rest := []) ⟨hx, hb, hml, hown, hts⟩ (k_X11_boiledWeight l g mo mE mKi mB mTb mTr mFa aHab mIb mS aSp aTu aKn mT aKd mAs mPl aPg aWo aWs aMe mBf aBw mSd mIk mKk mKb mKs mKt aKsp aKtu aKkn mH hab sp tu kn xe 0 (by first | assumption | exact Nat.zero_le _ | omega) (by first | assumption | exact Nat.zero_le _ | omega) (by first | assumption | exact Nat.zero_le _ | omega) (by first | assumption | exact Nat.zero_le _ | omega)) (cwV 2 hts gX11_likelyNow_X11_boiledWeight rfl rfl rfl ⟨rfl, hdX11_boiledWeight⟩ ⟨Nat.le_of_ble_eq_true rfl, Nat.le_of_ble_eq_true rfl⟩) (preVS hC (hP.sub [0, 1, 2, 3, 4] rfl) (va_recv hC.1 hP (ci := 11) (q0 := 0) rfl rfl)) rfl rfl hl.1 rfl (lv_room (Nat.le_of_ble_eq_true rfl)) dX11_likelyNow_3 ⟨Nat.le_of_ble_eq_true rfl, Nat.le_of_ble_eq_true rfl⟩) ?_
  refine lv_aload_n hx hb dX11_likelyNow_6 rfl (lv_at hl 0 rfl) ?_
  refine lv_iconst (v := (-1)) hx hb dX11_likelyNow_7 (by decide) ?_
  refine lv_iconst (v := nI 0) hx hb dX11_likelyNow_8 (by decide) ?_
  refine goSl (T := lN (tot (mW mE mB mTb mTr hab sp tu kn) mE (-1) 0)) (va_runV (As := [.int (-1), .int (nI 0)]) (rest := [.long (lN (bwt (mW mE mB mTb mTr hab sp tu kn) mE xe 0))]) ⟨hx, hb, hml, hown, hts⟩ (k_X11_total l g mo mE mKi mB mTb mTr mFa aHab mIb mS aSp aTu aKn mT aKd mAs mPl aPg aWo aWs aMe mBf aBw mSd mIk mKk mKb mKs mKt aKsp aKtu aKkn mH hab sp tu kn (-1) 0 (by first | assumption | exact Nat.zero_le _ | omega) (by first | assumption | exact Nat.zero_le _ | omega) (by first | assumption | exact Nat.zero_le _ | omega)) (cwV 2 hts gX11_likelyNow_X11_total rfl rfl rfl ⟨rfl, hdX11_total⟩ ⟨Nat.le_of_ble_eq_true rfl, Nat.le_of_ble_eq_true rfl⟩) (preVS hC (hP.sub [0, 1, 2, 3, 4] rfl) (va_recv hC.1 hP (ci := 11) (q0 := 0) rfl rfl)) rfl rfl hl.1 rfl (lv_room (Nat.le_of_ble_eq_true rfl)) dX11_likelyNow_9 ⟨Nat.le_of_ble_eq_true rfl, Nat.le_of_ble_eq_true rfl⟩) ?_
  refine lv_iload_n hx hb dX11_likelyNow_12 rfl (lv_at hl 2 rfl) ?_
  refine goSl (T := lN (low (bwt (mW mE mB mTb mTr hab sp tu kn) mE xe 0) (tot (mW mE mB mTb mTr hab sp tu kn) mE (-1) 0) xp)) (va_runS (As := [.long (lN (bwt (mW mE mB mTb mTr hab sp tu kn) mE xe 0)), .long (lN (tot (mW mE mB mTb mTr hab sp tu kn) mE (-1) 0)), .int xp]) (rest := []) ⟨hx, hb, hml, hown, hts⟩ (k_X11_lowest l g (bwt (mW mE mB mTb mTr hab sp tu kn) mE xe 0) (tot (mW mE mB mTb mTr hab sp tu kn) mE (-1) 0) xp (by first | assumption | exact Nat.zero_le _ | omega) (by first | assumption | exact Nat.zero_le _ | omega) (by first | assumption | exact Nat.zero_le _ | omega)) (va_cwS 3 hts gX11_likelyNow_X11_lowest rfl rfl rfl hdX11_lowest ⟨Nat.le_of_ble_eq_true rfl, Nat.le_of_ble_eq_true rfl⟩) (preSS hC (hP.sub [] rfl)) rfl rfl hl.1 rfl (lv_room (Nat.le_of_ble_eq_true rfl)) dX11_likelyNow_13 ⟨Nat.le_of_ble_eq_true rfl, Nat.le_of_ble_eq_true rfl⟩) ?_
  exact retSl hx hb hr hlocks (rfl) dX11_likelyNow_16

set_option maxHeartbeats 4000000 in
set_option maxRecDepth 100000 in
/-- BoiledEggsModel.likely  -/
theorem k_X11_likely (l : Launch) (g : GG) (mo : Nat) (mE : Nat) (mKi : Nat) (mB : Nat) (mTb : Nat) (mTr : Nat) (mFa : Nat) (aHab : Nat) (mIb : Nat) (mS : Nat) (aSp : Nat) (aTu : Nat) (aKn : Nat) (mT : Nat) (aKd : Nat) (mAs : Nat) (mPl : Nat) (aPg : Nat) (aWo : Nat) (aWs : Nat) (aMe : Nat) (mBf : Int32) (aBw : Nat) (mSd : Int64) (mIk : Int32) (mKk : Nat) (mKb : Nat) (mKs : Nat) (mKt : Nat) (aKsp : Nat) (aKtu : Nat) (aKkn : Nat) (mH : Int64) (hab : Nat → Nat) (sp : Nat → Nat) (tu : Nat → Nat) (kn : Nat → Int32) (xe : Int32) (xp : Int32) (hok : wOK mE mTb mTr hab sp tu) (hB0 : mB < 1000) (ht : tot (mW mE mB mTb mTr hab sp tu kn) mE (-1) 0 < 2 ^ 60) (hp : 0 < mE → 0 < tot (mW mE mB mTb mTr hab sp tu kn) mE (-1) 0) (hbt : ∀ e, bwt (mW mE mB mTb mTr hab sp tu kn) mE e 0 < 2 ^ 60) : Met l yX11_likely wsX11_likely ({ frames := 5, cells := 0, slots := 0, locals := 122 }) (pS g [.ref mo, .int xe, .int xp] [(mo, .inr (11, [.int (nI mE), .int (nI mKi), .int (nI mB), .int (nI mTb), .int (nI mTr), .int (nI mFa), .ref aHab, .int (nI mIb), .int (nI mS), .ref aSp, .ref aTu, .ref aKn, .int (nI mT), .ref aKd, .int (nI mAs), .int (nI mPl), .ref aPg, .ref aWo, .ref aWs, .ref aMe, .int mBf, .ref aBw, .long mSd, .int mIk, .int (nI mKk), .int (nI mKb), .int (nI mKs), .int (nI mKt), .ref aKsp, .ref aKtu, .ref aKkn, .long mH])), (aHab, .inl (g.2.1, 6, .inl (fun j => nI (hab j)))), (aSp, .inl (g.2.1, 6, .inl (fun j => nI (sp j)))), (aTu, .inl (g.2.1, 6, .inl (fun j => nI (tu j)))), (aKn, .inl (g.2.1, 6, .inl kn))]) (vp_Sl (fun r => r = (likR (mW mE mB mTb mTr hab sp tu kn) mE xe xp))) 0 0 noF := by
  refine metS (cc := cX11_likely) (maxL := 3) (ret := (some .long)) (by decide) rfl (Nat.le_of_ble_eq_true rfl) ?_
  intro p e s m below meth c hx hb hr hts hown hlocks hml hC hP ls hl
  have hl : lv_has ls 3 [(0, .ref mo), (1, .int xe), (2, .int xp)] := hl
  have hown : s.vm.findClass RX11 = some m.cls := hown
  have hts : ∀ w ∈ wsX11_likely, w.before ([.ref mo, .int xe, .int xp] : List Value).toArray s = true := hts
  have hE := hok.1
  have k144 := hts (.constantLong RX11 144 (-102)) (by decide +kernel)
  have k139 := hts (.constantLong RX11 139 (-101)) (by decide +kernel)
  refine lv_aload_n hx hb dX11_likely_0 rfl (lv_at hl 0 rfl) ?_
  refine lv_iload_n hx hb dX11_likely_1 rfl (lv_at hl 1 rfl) ?_
  refine goSi (T := zI (isE mE xe)) (va_runV (As := [.int xe]) (rest := []) ⟨hx, hb, hml, hown, hts⟩ (k_X11_isEgg l g mo mE mKi mB mTb mTr mFa aHab mIb mS aSp aTu aKn mT aKd mAs mPl aPg aWo aWs aMe mBf aBw mSd mIk mKk mKb mKs mKt aKsp aKtu aKkn mH xe (by first | assumption | exact Nat.zero_le _ | omega)) (cwV 1 hts gX11_likely_X11_isEgg rfl rfl rfl ⟨rfl, hdX11_isEgg⟩ ⟨Nat.le_of_ble_eq_true rfl, Nat.le_of_ble_eq_true rfl⟩) (preVS hC (hP.sub [0] rfl) (va_recv hC.1 hP (ci := 11) (q0 := 0) rfl rfl)) rfl rfl hl.1 rfl (lv_room (Nat.le_of_ble_eq_true rfl)) dX11_likely_2 ⟨Nat.le_of_ble_eq_true rfl, Nat.le_of_ble_eq_true rfl⟩) ?_
  refine lv_if_ne (tgt := 12) hx hb dX11_likely_5 (by decide) (fun c5 => ?_) (fun c5 => ?_)
  ·have c5 := zI_t.mp c5
   obtain ⟨k, hk, rfl⟩ := isE_t c5
   refine lv_iload_n hx hb dX11_likely_12 rfl (lv_at hl 2 rfl) ?_
   refine lv_iconst (v := nI 0) hx hb dX11_likely_13 (by decide) ?_
   refine lv_iconst (v := nI 1) hx hb dX11_likely_14 (by decide) ?_
   refine goSi (T := zI (wth xp (nI 0) (nI 1))) (va_runS (As := [.int xp, .int (nI 0), .int (nI 1)]) (rest := []) ⟨hx, hb, hml, hown, hts⟩ (k_X11_within l g xp (nI 0) (nI 1) ) (va_cwS 3 hts gX11_likely_X11_within rfl rfl rfl hdX11_within ⟨Nat.le_of_ble_eq_true rfl, Nat.le_of_ble_eq_true rfl⟩) (preSS hC (hP.sub [] rfl)) rfl rfl hl.1 rfl (lv_room (Nat.le_of_ble_eq_true rfl)) dX11_likely_15 ⟨Nat.le_of_ble_eq_true rfl, Nat.le_of_ble_eq_true rfl⟩) ?_
   refine lv_if_eq (tgt := 30) hx hb dX11_likely_18 (by decide) (fun c18 => ?_) (fun c18 => ?_)
   ·have c18 := zI_f.mp c18
    refine lv_ldc2 hx hb hown k144 dX11_likely_30 ?_
    exact retSl hx hb hr hlocks (by first | rw [likR, if_pos c5, if_pos c18, ix_nI (by omega)] | rw [likR, if_pos c5, if_neg (by rw [c18]; decide)]) dX11_likely_33
   ·have c18 := zI_t.mp c18
    refine lv_aload_n hx hb dX11_likely_21 rfl (lv_at hl 0 rfl) ?_
    refine lv_iload_n hx hb dX11_likely_22 rfl (lv_at hl 1 rfl) ?_
    refine lv_iload_n hx hb dX11_likely_23 rfl (lv_at hl 2 rfl) ?_
    refine goSl (T := lN (low (bwt (mW mE mB mTb mTr hab sp tu kn) mE k 0) (tot (mW mE mB mTb mTr hab sp tu kn) mE (-1) 0) xp)) (va_runV (As := [.int (nI k), .int xp]) (rest := []) ⟨hx, hb, hml, hown, hts⟩ (k_X11_likelyNow l g mo mE mKi mB mTb mTr mFa aHab mIb mS aSp aTu aKn mT aKd mAs mPl aPg aWo aWs aMe mBf aBw mSd mIk mKk mKb mKs mKt aKsp aKtu aKkn mH hab sp tu kn k xp (by first | assumption | exact Nat.zero_le _ | omega) (by first | assumption | exact Nat.zero_le _ | omega) (by omega) (by first | assumption | exact Nat.zero_le _ | omega) (hp (by omega)) (hbt k)) (cwV 2 hts gX11_likely_X11_likelyNow rfl rfl rfl ⟨rfl, hdX11_likelyNow⟩ ⟨Nat.le_of_ble_eq_true rfl, Nat.le_of_ble_eq_true rfl⟩) (preVS hC (hP.sub [0, 1, 2, 3, 4] rfl) (va_recv hC.1 hP (ci := 11) (q0 := 0) rfl rfl)) rfl rfl hl.1 rfl (lv_room (Nat.le_of_ble_eq_true rfl)) dX11_likely_24 ⟨Nat.le_of_ble_eq_true rfl, Nat.le_of_ble_eq_true rfl⟩) ?_
    refine lv_goto (tgt := 33) hx hb dX11_likely_27 (by decide) ?_
    exact retSl hx hb hr hlocks (by first | rw [likR, if_pos c5, if_pos c18, ix_nI (by omega)] | rw [likR, if_pos c5, if_neg (by rw [c18]; decide)]) dX11_likely_33
  ·have c5 := zI_f.mp c5
   refine lv_ldc2 hx hb hown k139 dX11_likely_8 ?_
   exact retSl hx hb hr hlocks (by rw [likR, if_neg (by rw [c5]; decide)]) dX11_likely_11

set_option maxHeartbeats 4000000 in
set_option maxRecDepth 100000 in
/-- BoiledEggsModel.likeliestNow  -/
theorem k_X11_likeliestNow (l : Launch) (g : GG) (mo : Nat) (mE : Nat) (mKi : Nat) (mB : Nat) (mTb : Nat) (mTr : Nat) (mFa : Nat) (aHab : Nat) (mIb : Nat) (mS : Nat) (aSp : Nat) (aTu : Nat) (aKn : Nat) (mT : Nat) (aKd : Nat) (mAs : Nat) (mPl : Nat) (aPg : Nat) (aWo : Nat) (aWs : Nat) (aMe : Nat) (mBf : Int32) (aBw : Nat) (mSd : Int64) (mIk : Int32) (mKk : Nat) (mKb : Nat) (mKs : Nat) (mKt : Nat) (aKsp : Nat) (aKtu : Nat) (aKkn : Nat) (mH : Int64) (hab : Nat → Nat) (sp : Nat → Nat) (tu : Nat → Nat) (kn : Nat → Int32) (hok : wOK mE mTb mTr hab sp tu) (hB0 : mB < 1000) (hw : ∀ b, (mW mE mB mTb mTr hab sp tu kn) b (-1) 0 < 2 ^ 60) : Met l yX11_likeliestNow wsX11_likeliestNow ({ frames := 3, cells := 0, slots := 0, locals := 75 }) (pS g [.ref mo] [(mo, .inr (11, [.int (nI mE), .int (nI mKi), .int (nI mB), .int (nI mTb), .int (nI mTr), .int (nI mFa), .ref aHab, .int (nI mIb), .int (nI mS), .ref aSp, .ref aTu, .ref aKn, .int (nI mT), .ref aKd, .int (nI mAs), .int (nI mPl), .ref aPg, .ref aWo, .ref aWs, .ref aMe, .int mBf, .ref aBw, .long mSd, .int mIk, .int (nI mKk), .int (nI mKb), .int (nI mKs), .int (nI mKt), .ref aKsp, .ref aKtu, .ref aKkn, .long mH])), (aHab, .inl (g.2.1, 6, .inl (fun j => nI (hab j)))), (aSp, .inl (g.2.1, 6, .inl (fun j => nI (sp j)))), (aTu, .inl (g.2.1, 6, .inl (fun j => nI (tu j)))), (aKn, .inl (g.2.1, 6, .inl kn))]) (vp_Si (fun r => r = (lkst (w0 (mW mE mB mTb mTr hab sp tu kn)) (2 ^ mE)))) 0 0 noF := by
  refine metS (cc := cX11_likeliestNow) (maxL := 7) (ret := (some .int)) (by decide) rfl (Nat.le_of_ble_eq_true rfl) ?_
  intro p e s m below meth c hx hb hr hts hown hlocks hml hC hP ls hl
  have hl : lv_has ls 7 [(0, .ref mo)] := hl
  have hown : s.vm.findClass RX11 = some m.cls := hown
  have hts : ∀ w ∈ wsX11_likeliestNow, w.before ([.ref mo] : List Value).toArray s = true := hts
  obtain ⟨hE, htb, htr, htu, hsp, hha⟩ := id hok
  have h2E := p2le hE
  have hinX11 := (by decide +kernel : ∀ w ∈ u_ws RX11 TX11 32, w ∈ wsX11_likeliestNow)
  have f71 := hts (.fieldLink RX11 71 "BoiledEggsModel" "eggs" "I") (by decide +kernel)
  refine lv_iconst (v := (-1)) hx hb dX11_likeliestNow_0 (by decide) ?_
  refine lv_istore_n (lv' := [(1, .int (-1)), (0, .ref mo)]) hx hb dX11_likeliestNow_1 rfl hl (by decide) rfl (fun ls hl => ?_)
  refine lv_lconst (v := lN 0) hx hb dX11_likeliestNow_2 (by decide) ?_
  refine lv_lstore_n (lv' := [(2, .long (lN 0)), (1, .int (-1)), (0, .ref mo)]) hx hb dX11_likeliestNow_3 rfl hl (by decide) rfl (fun ls hl => ?_)
  refine lv_iconst (v := nI 0) hx hb dX11_likeliestNow_4 (by decide) ?_
  refine lv_istore (lv' := [(4, .int (nI 0)), (2, .long (lN 0)), (1, .int (-1)), (0, .ref mo)]) hx hb dX11_likeliestNow_5 hl (by decide) rfl (fun ls hl => ?_)
  have hL7 : ∀ (n_9 : Nat) (i : Nat), 2 ^ mE - i < n_9 → (i ≤ 2 ^ mE) → ((fo (lkF (w0 (mW mE mB mTb mTr hab sp tu kn))) (-1, 0) i).2 < 2 ^ 60) → ∀ ls : Array Slot, lv_has ls 7 [(0, .ref mo), (1, .int ((fo (lkF (w0 (mW mE mB mTb mTr hab sp tu kn))) (-1, 0) i).1)), (2, .long (lN ((fo (lkF (w0 (mW mE mB mTb mTr hab sp tu kn))) (-1, 0) i).2))), (4, .int (nI i))] → W p l e ({ frames := 3, cells := 0, slots := 0, locals := 75 }) s m ([.ref mo] : List Value).toArray below meth c s.heap [] 0 0 (MQ below (vp_Si (fun r => r = (lkst (w0 (mW mE mB mTb mTr hab sp tu kn)) (2 ^ mE)))) ([.ref mo] : List Value).toArray s 0 0 noF) (F0 m 7 ls []) := by
   intro n_9
   induction n_9 with
   | zero => intro i hn_9; exact absurd hn_9 (Nat.not_lt_zero _)
   | succ n_9 ih7 =>
    intro i hn_9 hi hm ls hl
    refine lv_iload hx hb dX11_likeliestNow_7 (lv_at hl 3 rfl) ?_
    refine lv_iconst (v := nI 1) hx hb dX11_likeliestNow_9 (by decide) ?_
    refine lv_aload_n hx hb dX11_likeliestNow_10 rfl (lv_at hl 0 rfl) ?_
    refine va_get (D := g.1) (ci := 11) (v := .int (nI mE)) (C := RX11) (T := TX11) (N := 32) hx hb hts hinX11 hown hC.1 hP 0 rfl rfl 0 (by decide) f71 (fun _ h9 => h9) rfl dX11_likeliestNow_11 ?_
    refine lv_ishl hx hb dX11_likeliestNow_14 ?_
    refine top_i (y := nI (2 ^ mE)) (shl1_nI (by omega)) ?_
    refine lv_icmp_ge (tgt := 62) hx hb dX11_likeliestNow_15 (by decide) (fun c15 => ?_) (fun c15 => ?_)
    ·have c15 : (2 ^ mE) ≤ i := (nI_leI (a := 2 ^ mE) (b := i) (by omega) (by omega)).mp c15
     refine lv_iload_n hx hb dX11_likeliestNow_62 rfl (lv_at hl 1 rfl) ?_
     exact retSi hx hb hr hlocks (by have h9 : i = 2 ^ mE := (by omega); rw [lkst, h9]) dX11_likeliestNow_63
    ·have c15 : ¬ (2 ^ mE) ≤ i := fun h9 => c15 ((nI_leI (a := 2 ^ mE) (b := i) (by omega) (by omega)).mpr h9)
     refine lv_aload_n hx hb dX11_likeliestNow_18 rfl (lv_at hl 0 rfl) ?_
     refine lv_iload hx hb dX11_likeliestNow_19 (lv_at hl 3 rfl) ?_
     refine lv_iconst (v := (-1)) hx hb dX11_likeliestNow_21 (by decide) ?_
     refine lv_iconst (v := nI 0) hx hb dX11_likeliestNow_22 (by decide) ?_
     refine goSl (T := lN ((mW mE mB mTb mTr hab sp tu kn) i (-1) 0)) (va_runV (As := [.int (nI i), .int (-1), .int (nI 0)]) (rest := []) ⟨hx, hb, hml, hown, hts⟩ (k_X11_weight l g mo mE mKi mB mTb mTr mFa aHab mIb mS aSp aTu aKn mT aKd mAs mPl aPg aWo aWs aMe mBf aBw mSd mIk mKk mKb mKs mKt aKsp aKtu aKkn mH hab sp tu kn i (-1) 0 (by first | assumption | exact Nat.zero_le _ | omega) (by first | assumption | exact Nat.zero_le _ | omega) (by first | assumption | exact Nat.zero_le _ | omega) (by first | assumption | exact Nat.zero_le _ | omega)) (cwV 3 hts gX11_likeliestNow_X11_weight rfl rfl rfl ⟨rfl, hdX11_weight⟩ ⟨Nat.le_of_ble_eq_true rfl, Nat.le_of_ble_eq_true rfl⟩) (preVS hC (hP.sub [0, 1, 2, 3, 4] rfl) (va_recv hC.1 hP (ci := 11) (q0 := 0) rfl rfl)) rfl rfl hl.1 rfl (lv_room (Nat.le_of_ble_eq_true rfl)) dX11_likeliestNow_23 ⟨Nat.le_of_ble_eq_true rfl, Nat.le_of_ble_eq_true rfl⟩) ?_
     refine lv_lstore (lv' := [(5, .long (lN ((mW mE mB mTb mTr hab sp tu kn) i (-1) 0))), (0, .ref mo), (1, .int ((fo (lkF (w0 (mW mE mB mTb mTr hab sp tu kn))) (-1, 0) i).1)), (2, .long (lN ((fo (lkF (w0 (mW mE mB mTb mTr hab sp tu kn))) (-1, 0) i).2))), (4, .int (nI i))]) hx hb dX11_likeliestNow_26 hl (by decide) rfl (fun ls hl => ?_)
     have hJ56 : ∀ ls : Array Slot, lv_has ls 7 [(0, .ref mo), (1, .int ((fo (lkF (w0 (mW mE mB mTb mTr hab sp tu kn))) (-1, 0) (i + 1)).1)), (2, .long (lN ((fo (lkF (w0 (mW mE mB mTb mTr hab sp tu kn))) (-1, 0) (i + 1)).2))), (4, .int (nI i))] → W p l e ({ frames := 3, cells := 0, slots := 0, locals := 75 }) s m ([.ref mo] : List Value).toArray below meth c s.heap [] 0 0 (MQ below (vp_Si (fun r => r = (lkst (w0 (mW mE mB mTb mTr hab sp tu kn)) (2 ^ mE)))) ([.ref mo] : List Value).toArray s 0 0 noF) (F0 m 56 ls []) := by
      intro  ls hl
      refine lv_iinc (v := nI (i + 1)) (lv' := [(4, .int (nI (i + 1))), (0, .ref mo), (1, .int ((fo (lkF (w0 (mW mE mB mTb mTr hab sp tu kn))) (-1, 0) (i + 1)).1)), (2, .long (lN ((fo (lkF (w0 (mW mE mB mTb mTr hab sp tu kn))) (-1, 0) (i + 1)).2)))]) hx hb dX11_likeliestNow_56 hl (k := 3) rfl (iinc1 _) (by decide) rfl (fun ls hl => ?_)
      refine lv_goto (tgt := 7) hx hb dX11_likeliestNow_59 (by decide) ?_
      exact ih7 (i + 1) (by omega) (by omega) (by rw [fo_s, lkF]; split; exact hw _; exact hm) ls (lv_sub hl [1, 2, 3, 0] rfl)
     refine lv_lload hx hb dX11_likeliestNow_28 (lv_at hl 0 rfl) ?_
     refine lv_lload_n hx hb dX11_likeliestNow_30 rfl (lv_at hl 3 rfl) ?_
     refine lc_le (tgt := 40) hx hb dX11_likeliestNow_31 dX11_likeliestNow_32 (by decide) (fun c31 => ?_) (fun c31 => ?_)
     ·have c31 : ((mW mE mB mTb mTr hab sp tu kn) i (-1) 0) ≤ ((fo (lkF (w0 (mW mE mB mTb mTr hab sp tu kn))) (-1, 0) i).2) := (pk_lLE (a := (mW mE mB mTb mTr hab sp tu kn) i (-1) 0) (b := (fo (lkF (w0 (mW mE mB mTb mTr hab sp tu kn))) (-1, 0) i).2) (by have := hw i; omega) (by have := hw i; omega)).mp c31
      refine lv_iload_n hx hb dX11_likeliestNow_40 rfl (lv_at hl 2 rfl) ?_
      refine lv_istore_n (lv' := [(1, .int ((fo (lkF (w0 (mW mE mB mTb mTr hab sp tu kn))) (-1, 0) i).1)), (5, .long (lN ((mW mE mB mTb mTr hab sp tu kn) i (-1) 0))), (0, .ref mo), (2, .long (lN ((fo (lkF (w0 (mW mE mB mTb mTr hab sp tu kn))) (-1, 0) i).2))), (4, .int (nI i))]) hx hb dX11_likeliestNow_41 rfl hl (by decide) rfl (fun ls hl => ?_)
      refine lv_lload hx hb dX11_likeliestNow_42 (lv_at hl 1 rfl) ?_
      refine lv_lload_n hx hb dX11_likeliestNow_44 rfl (lv_at hl 3 rfl) ?_
      refine lc_le (tgt := 54) hx hb dX11_likeliestNow_45 dX11_likeliestNow_46 (by decide) (fun _ => ?_) (fun hz => absurd ((pk_lLE (by have := hw i; omega) (by omega)).mpr c31) hz)
      refine lv_lload_n hx hb dX11_likeliestNow_54 rfl (lv_at hl 3 rfl) ?_
      refine lv_lstore_n (lv' := [(2, .long (lN ((fo (lkF (w0 (mW mE mB mTb mTr hab sp tu kn))) (-1, 0) i).2))), (1, .int ((fo (lkF (w0 (mW mE mB mTb mTr hab sp tu kn))) (-1, 0) i).1)), (5, .long (lN ((mW mE mB mTb mTr hab sp tu kn) i (-1) 0))), (0, .ref mo), (4, .int (nI i))]) hx hb dX11_likeliestNow_55 rfl hl (by decide) rfl (fun ls hl => ?_)
      have hl : lv_has ls 7 [(2, .long (lN ((fo (lkF (w0 (mW mE mB mTb mTr hab sp tu kn))) (-1, 0) i).2))), (1, .int ((fo (lkF (w0 (mW mE mB mTb mTr hab sp tu kn))) (-1, 0) (i + 1)).1)), (5, .long (lN ((mW mE mB mTb mTr hab sp tu kn) i (-1) 0))), (0, .ref mo), (4, .int (nI i))] := lv_val hl 1 rfl (congrArg Value.int (show (fo (lkF (w0 (mW mE mB mTb mTr hab sp tu kn))) (-1, 0) i).1 = (fo (lkF (w0 (mW mE mB mTb mTr hab sp tu kn))) (-1, 0) (i + 1)).1 from by rw [fo_s]; first | rw [lk_t (w := w0 (mW mE mB mTb mTr hab sp tu kn)) c31] | rw [lk_f (w := w0 (mW mE mB mTb mTr hab sp tu kn)) c31]))
      have hl : lv_has ls 7 [(2, .long (lN ((fo (lkF (w0 (mW mE mB mTb mTr hab sp tu kn))) (-1, 0) (i + 1)).2))), (1, .int ((fo (lkF (w0 (mW mE mB mTb mTr hab sp tu kn))) (-1, 0) (i + 1)).1)), (5, .long (lN ((mW mE mB mTb mTr hab sp tu kn) i (-1) 0))), (0, .ref mo), (4, .int (nI i))] := lv_val hl 0 rfl (congrArg Value.long (show lN ((fo (lkF (w0 (mW mE mB mTb mTr hab sp tu kn))) (-1, 0) i).2) = lN ((fo (lkF (w0 (mW mE mB mTb mTr hab sp tu kn))) (-1, 0) (i + 1)).2) from by rw [fo_s]; first | rw [lk_t (w := w0 (mW mE mB mTb mTr hab sp tu kn)) c31]; rfl | rw [lk_f (w := w0 (mW mE mB mTb mTr hab sp tu kn)) c31]))
      exact hJ56   ls (lv_sub hl [3, 1, 0, 4] rfl)
     ·have c31 : ¬ ((mW mE mB mTb mTr hab sp tu kn) i (-1) 0) ≤ ((fo (lkF (w0 (mW mE mB mTb mTr hab sp tu kn))) (-1, 0) i).2) := fun h9 => c31 ((pk_lLE (a := (mW mE mB mTb mTr hab sp tu kn) i (-1) 0) (b := (fo (lkF (w0 (mW mE mB mTb mTr hab sp tu kn))) (-1, 0) i).2) (by have := hw i; omega) (by have := hw i; omega)).mpr h9)
      refine lv_iload hx hb dX11_likeliestNow_35 (lv_at hl 4 rfl) ?_
      refine lv_goto (tgt := 41) hx hb dX11_likeliestNow_37 (by decide) ?_
      refine lv_istore_n (lv' := [(1, .int (nI i)), (5, .long (lN ((mW mE mB mTb mTr hab sp tu kn) i (-1) 0))), (0, .ref mo), (2, .long (lN ((fo (lkF (w0 (mW mE mB mTb mTr hab sp tu kn))) (-1, 0) i).2))), (4, .int (nI i))]) hx hb dX11_likeliestNow_41 rfl hl (by decide) rfl (fun ls hl => ?_)
      refine lv_lload hx hb dX11_likeliestNow_42 (lv_at hl 1 rfl) ?_
      refine lv_lload_n hx hb dX11_likeliestNow_44 rfl (lv_at hl 3 rfl) ?_
      refine lc_le (tgt := 54) hx hb dX11_likeliestNow_45 dX11_likeliestNow_46 (by decide) (fun hz => absurd hz (fun h9 => c31 ((pk_lLE (by have := hw i; omega) (by omega)).mp h9))) (fun _ => ?_)
      refine lv_lload hx hb dX11_likeliestNow_49 (lv_at hl 1 rfl) ?_
      refine lv_goto (tgt := 55) hx hb dX11_likeliestNow_51 (by decide) ?_
      refine lv_lstore_n (lv' := [(2, .long (lN ((mW mE mB mTb mTr hab sp tu kn) i (-1) 0))), (1, .int (nI i)), (5, .long (lN ((mW mE mB mTb mTr hab sp tu kn) i (-1) 0))), (0, .ref mo), (4, .int (nI i))]) hx hb dX11_likeliestNow_55 rfl hl (by decide) rfl (fun ls hl => ?_)
      have hl : lv_has ls 7 [(2, .long (lN ((mW mE mB mTb mTr hab sp tu kn) i (-1) 0))), (1, .int ((fo (lkF (w0 (mW mE mB mTb mTr hab sp tu kn))) (-1, 0) (i + 1)).1)), (5, .long (lN ((mW mE mB mTb mTr hab sp tu kn) i (-1) 0))), (0, .ref mo), (4, .int (nI i))] := lv_val hl 1 rfl (congrArg Value.int (show nI i = (fo (lkF (w0 (mW mE mB mTb mTr hab sp tu kn))) (-1, 0) (i + 1)).1 from by rw [fo_s]; first | rw [lk_t (w := w0 (mW mE mB mTb mTr hab sp tu kn)) c31] | rw [lk_f (w := w0 (mW mE mB mTb mTr hab sp tu kn)) c31]))
      have hl : lv_has ls 7 [(2, .long (lN ((fo (lkF (w0 (mW mE mB mTb mTr hab sp tu kn))) (-1, 0) (i + 1)).2))), (1, .int ((fo (lkF (w0 (mW mE mB mTb mTr hab sp tu kn))) (-1, 0) (i + 1)).1)), (5, .long (lN ((mW mE mB mTb mTr hab sp tu kn) i (-1) 0))), (0, .ref mo), (4, .int (nI i))] := lv_val hl 0 rfl (congrArg Value.long (show lN ((mW mE mB mTb mTr hab sp tu kn) i (-1) 0) = lN ((fo (lkF (w0 (mW mE mB mTb mTr hab sp tu kn))) (-1, 0) (i + 1)).2) from by rw [fo_s]; first | rw [lk_t (w := w0 (mW mE mB mTb mTr hab sp tu kn)) c31]; rfl | rw [lk_f (w := w0 (mW mE mB mTb mTr hab sp tu kn)) c31]))
      exact hJ56   ls (lv_sub hl [3, 1, 0, 4] rfl)
  exact hL7 _ 0 (Nat.lt_succ_self _) (Nat.zero_le _) (by show 0 < 2 ^ 60; decide) ls (lv_sub hl [3, 2, 1, 0] rfl)

set_option maxHeartbeats 4000000 in
set_option maxRecDepth 100000 in
/-- BoiledEggsModel.likeliest  -/
theorem k_X11_likeliest (l : Launch) (g : GG) (mo : Nat) (mE : Nat) (mKi : Nat) (mB : Nat) (mTb : Nat) (mTr : Nat) (mFa : Nat) (aHab : Nat) (mIb : Nat) (mS : Nat) (aSp : Nat) (aTu : Nat) (aKn : Nat) (mT : Nat) (aKd : Nat) (mAs : Nat) (mPl : Nat) (aPg : Nat) (aWo : Nat) (aWs : Nat) (aMe : Nat) (mBf : Int32) (aBw : Nat) (mSd : Int64) (mIk : Int32) (mKk : Nat) (mKb : Nat) (mKs : Nat) (mKt : Nat) (aKsp : Nat) (aKtu : Nat) (aKkn : Nat) (mH : Int64) (hab : Nat → Nat) (sp : Nat → Nat) (tu : Nat → Nat) (kn : Nat → Int32) (hok : wOK mE mTb mTr hab sp tu) (hB0 : mB < 1000) (hw : ∀ b, (mW mE mB mTb mTr hab sp tu kn) b (-1) 0 < 2 ^ 60) : Met l yX11_likeliest wsX11_likeliest ({ frames := 4, cells := 0, slots := 0, locals := 101 }) (pS g [.ref mo] [(mo, .inr (11, [.int (nI mE), .int (nI mKi), .int (nI mB), .int (nI mTb), .int (nI mTr), .int (nI mFa), .ref aHab, .int (nI mIb), .int (nI mS), .ref aSp, .ref aTu, .ref aKn, .int (nI mT), .ref aKd, .int (nI mAs), .int (nI mPl), .ref aPg, .ref aWo, .ref aWs, .ref aMe, .int mBf, .ref aBw, .long mSd, .int mIk, .int (nI mKk), .int (nI mKb), .int (nI mKs), .int (nI mKt), .ref aKsp, .ref aKtu, .ref aKkn, .long mH])), (aHab, .inl (g.2.1, 6, .inl (fun j => nI (hab j)))), (aSp, .inl (g.2.1, 6, .inl (fun j => nI (sp j)))), (aTu, .inl (g.2.1, 6, .inl (fun j => nI (tu j)))), (aKn, .inl (g.2.1, 6, .inl kn))]) (vp_Si (fun r => r = (if mE = 0 then -103 else lkst (w0 (mW mE mB mTb mTr hab sp tu kn)) (2 ^ mE)))) 0 0 noF := by
  refine metS (cc := cX11_likeliest) (maxL := 1) (ret := (some .int)) (by decide) rfl (Nat.le_of_ble_eq_true rfl) ?_
  intro p e s m below meth c hx hb hr hts hown hlocks hml hC hP ls hl
  have hl : lv_has ls 1 [(0, .ref mo)] := hl
  have hown : s.vm.findClass RX11 = some m.cls := hown
  have hts : ∀ w ∈ wsX11_likeliest, w.before ([.ref mo] : List Value).toArray s = true := hts
  have hE := hok.1
  have hinX11 := (by decide +kernel : ∀ w ∈ u_ws RX11 TX11 32, w ∈ wsX11_likeliest)
  have f71 := hts (.fieldLink RX11 71 "BoiledEggsModel" "eggs" "I") (by decide +kernel)
  refine lv_aload_n hx hb dX11_likeliest_0 rfl (lv_at hl 0 rfl) ?_
  refine va_get (D := g.1) (ci := 11) (v := .int (nI mE)) (C := RX11) (T := TX11) (N := 32) hx hb hts hinX11 hown hC.1 hP 0 rfl rfl 0 (by decide) f71 (fun _ h9 => h9) rfl dX11_likeliest_1 ?_
  refine lv_if_ne (tgt := 12) hx hb dX11_likeliest_4 (by decide) (fun c4 => ?_) (fun c4 => ?_)
  ·have c4 : ¬ mE = 0 := fun h9 => c4 ((nI_eq (a := mE) (b := 0) (by omega) (by omega)).mpr h9)
   refine lv_aload_n hx hb dX11_likeliest_12 rfl (lv_at hl 0 rfl) ?_
   refine goSi (T := lkst (w0 (mW mE mB mTb mTr hab sp tu kn)) (2 ^ mE)) (va_runV (As := []) (rest := []) ⟨hx, hb, hml, hown, hts⟩ (k_X11_likeliestNow l g mo mE mKi mB mTb mTr mFa aHab mIb mS aSp aTu aKn mT aKd mAs mPl aPg aWo aWs aMe mBf aBw mSd mIk mKk mKb mKs mKt aKsp aKtu aKkn mH hab sp tu kn (by first | assumption | exact Nat.zero_le _ | omega) (by first | assumption | exact Nat.zero_le _ | omega) (by first | assumption | exact Nat.zero_le _ | omega)) (cwV 0 hts gX11_likeliest_X11_likeliestNow rfl rfl rfl ⟨rfl, hdX11_likeliestNow⟩ ⟨Nat.le_of_ble_eq_true rfl, Nat.le_of_ble_eq_true rfl⟩) (preVS hC (hP.sub [0, 1, 2, 3, 4] rfl) (va_recv hC.1 hP (ci := 11) (q0 := 0) rfl rfl)) rfl rfl hl.1 rfl (lv_room (Nat.le_of_ble_eq_true rfl)) dX11_likeliest_13 ⟨Nat.le_of_ble_eq_true rfl, Nat.le_of_ble_eq_true rfl⟩) ?_
   exact retSi hx hb hr hlocks (by first | rw [if_pos c4] | rw [if_neg c4]) dX11_likeliest_16
  ·have c4 : mE = 0 := (nI_eq (a := mE) (b := 0) (by omega) (by omega)).mp c4
   refine lv_bipush (v := (-103)) hx hb dX11_likeliest_7 (by decide) ?_
   refine lv_goto (tgt := 16) hx hb dX11_likeliest_9 (by decide) ?_
   exact retSi hx hb hr hlocks (by first | rw [if_pos c4] | rw [if_neg c4]) dX11_likeliest_16

set_option maxHeartbeats 4000000 in
set_option maxRecDepth 100000 in
/-- BoiledEggsModel.turningNow  -/
theorem k_X11_turningNow (l : Launch) (g : GG) (mo : Nat) (mE : Nat) (mKi : Nat) (mB : Nat) (mTb : Nat) (mTr : Nat) (mFa : Nat) (aHab : Nat) (mIb : Nat) (mS : Nat) (aSp : Nat) (aTu : Nat) (aKn : Nat) (mT : Nat) (aKd : Nat) (mAs : Nat) (mPl : Nat) (aPg : Nat) (aWo : Nat) (aWs : Nat) (aMe : Nat) (mBf : Int32) (aBw : Nat) (mSd : Int64) (mIk : Int32) (mKk : Nat) (mKb : Nat) (mKs : Nat) (mKt : Nat) (aKsp : Nat) (aKtu : Nat) (aKkn : Nat) (mH : Int64) (hab : Nat → Nat) (sp : Nat → Nat) (tu : Nat → Nat) (kn : Nat → Int32) (xe : Nat) (xt : Nat) (hok : wOK mE mTb mTr hab sp tu) (hB0 : mB < 1000) (he0 : xe < 31) (ht0 : xt ≤ 9) (hq : ∀ k, k ≤ 5 → tot (mW mE mB mTb mTr hab sp tu kn) mE (nI xe) k < 2 ^ 58 ∧ bwt (mW mE mB mTb mTr hab sp tu kn) mE xe k < 2 ^ 58) : Met l yX11_turningNow wsX11_turningNow ({ frames := 4, cells := 0, slots := 0, locals := 100 }) (pS g [.ref mo, .int (nI xe), .int (nI xt)] [(mo, .inr (11, [.int (nI mE), .int (nI mKi), .int (nI mB), .int (nI mTb), .int (nI mTr), .int (nI mFa), .ref aHab, .int (nI mIb), .int (nI mS), .ref aSp, .ref aTu, .ref aKn, .int (nI mT), .ref aKd, .int (nI mAs), .int (nI mPl), .ref aPg, .ref aWo, .ref aWs, .ref aMe, .int mBf, .ref aBw, .long mSd, .int mIk, .int (nI mKk), .int (nI mKb), .int (nI mKs), .int (nI mKt), .ref aKsp, .ref aKtu, .ref aKkn, .long mH])), (aHab, .inl (g.2.1, 6, .inl (fun j => nI (hab j)))), (aSp, .inl (g.2.1, 6, .inl (fun j => nI (sp j)))), (aTu, .inl (g.2.1, 6, .inl (fun j => nI (tu j)))), (aKn, .inl (g.2.1, 6, .inl kn))]) (vp_Si (fun r => r = (trn (trQ (mW mE mB mTb mTr hab sp tu kn) mE xe xt) 6 0))) 0 0 noF := by
  refine metS (cc := cX11_turningNow) (maxL := 6) (ret := (some .int)) (by decide) rfl (Nat.le_of_ble_eq_true rfl) ?_
  intro p e s m below meth c hx hb hr hts hown hlocks hml hC hP ls hl
  have hl : lv_has ls 6 [(0, .ref mo), (1, .int (nI xe)), (2, .int (nI xt))] := hl
  have hown : s.vm.findClass RX11 = some m.cls := hown
  have hts : ∀ w ∈ wsX11_turningNow, w.before ([.ref mo, .int (nI xe), .int (nI xt)] : List Value).toArray s = true := hts
  have k149 := hts (.constantLong RX11 149 (10)) (by decide +kernel)
  refine lv_iconst (v := nI 0) hx hb dX11_turningNow_0 (by decide) ?_
  refine lv_istore_n (lv' := [(3, .int (nI 0)), (0, .ref mo), (1, .int (nI xe)), (2, .int (nI xt))]) hx hb dX11_turningNow_1 rfl hl (by decide) rfl (fun ls hl => ?_)
  have hL2 : ∀ (n_9 : Nat) (i : Nat), 6 - i < n_9 → (i ≤ 6) → (trn (trQ (mW mE mB mTb mTr hab sp tu kn) mE xe xt) (6 - i) i = trn (trQ (mW mE mB mTb mTr hab sp tu kn) mE xe xt) 6 0) → ∀ ls : Array Slot, lv_has ls 6 [(0, .ref mo), (1, .int (nI xe)), (2, .int (nI xt)), (3, .int (nI i))] → W p l e ({ frames := 4, cells := 0, slots := 0, locals := 100 }) s m ([.ref mo, .int (nI xe), .int (nI xt)] : List Value).toArray below meth c s.heap [] 0 0 (MQ below (vp_Si (fun r => r = (trn (trQ (mW mE mB mTb mTr hab sp tu kn) mE xe xt) 6 0))) ([.ref mo, .int (nI xe), .int (nI xt)] : List Value).toArray s 0 0 noF) (F0 m 2 ls []) := by
   intro n_9
   induction n_9 with
   | zero => intro i hn_9; exact absurd hn_9 (Nat.not_lt_zero _)
   | succ n_9 ih2 =>
    intro i hn_9 hi hf ls hl
    refine lv_iload_n hx hb dX11_turningNow_2 rfl (lv_at hl 3 rfl) ?_
    refine lv_iconst (v := nI 5) hx hb dX11_turningNow_3 (by decide) ?_
    refine lv_icmp_gt (tgt := 49) hx hb dX11_turningNow_4 (by decide) (fun c4 => ?_) (fun c4 => ?_)
    ·have c4 : 5 < i := (nI_ltI (a := 5) (b := i) (by omega) (by omega)).mp c4
     refine lv_iconst (v := (-1)) hx hb dX11_turningNow_49 (by decide) ?_
     exact retSi hx hb hr hlocks (by rw [← hf, trn_e (by omega)]) dX11_turningNow_50
    ·have c4 : ¬ 5 < i := fun h9 => c4 ((nI_ltI (a := 5) (b := i) (by omega) (by omega)).mpr h9)
     refine lv_aload_n hx hb dX11_turningNow_7 rfl (lv_at hl 0 rfl) ?_
     refine lv_iload_n hx hb dX11_turningNow_8 rfl (lv_at hl 1 rfl) ?_
     refine lv_iload_n hx hb dX11_turningNow_9 rfl (lv_at hl 3 rfl) ?_
     refine goSl (T := lN (tot (mW mE mB mTb mTr hab sp tu kn) mE (nI xe) i)) (va_runV (As := [.int (nI xe), .int (nI i)]) (rest := []) ⟨hx, hb, hml, hown, hts⟩ (k_X11_total l g mo mE mKi mB mTb mTr mFa aHab mIb mS aSp aTu aKn mT aKd mAs mPl aPg aWo aWs aMe mBf aBw mSd mIk mKk mKb mKs mKt aKsp aKtu aKkn mH hab sp tu kn (nI xe) i (by first | assumption | exact Nat.zero_le _ | omega) (by first | assumption | exact Nat.zero_le _ | omega) (by first | assumption | exact Nat.zero_le _ | omega)) (cwV 2 hts gX11_turningNow_X11_total rfl rfl rfl ⟨rfl, hdX11_total⟩ ⟨Nat.le_of_ble_eq_true rfl, Nat.le_of_ble_eq_true rfl⟩) (preVS hC (hP.sub [0, 1, 2, 3, 4] rfl) (va_recv hC.1 hP (ci := 11) (q0 := 0) rfl rfl)) rfl rfl hl.1 rfl (lv_room (Nat.le_of_ble_eq_true rfl)) dX11_turningNow_10 ⟨Nat.le_of_ble_eq_true rfl, Nat.le_of_ble_eq_true rfl⟩) ?_
     refine lv_lstore (lv' := [(4, .long (lN (tot (mW mE mB mTb mTr hab sp tu kn) mE (nI xe) i))), (0, .ref mo), (1, .int (nI xe)), (2, .int (nI xt)), (3, .int (nI i))]) hx hb dX11_turningNow_13 hl (by decide) rfl (fun ls hl => ?_)
     refine lv_lload hx hb dX11_turningNow_15 (lv_at hl 0 rfl) ?_
     refine lv_lconst (v := lN 0) hx hb dX11_turningNow_17 (by decide) ?_
     refine lc_le (tgt := 43) hx hb dX11_turningNow_18 dX11_turningNow_19 (by decide) (fun c18 => ?_) (fun c18 => ?_)
     ·have c18 : (tot (mW mE mB mTb mTr hab sp tu kn) mE (nI xe) i) ≤ 0 := (pk_lLE (a := tot (mW mE mB mTb mTr hab sp tu kn) mE (nI xe) i) (b := 0) (by have := hq i (by omega); omega) (by have := hq i (by omega); omega)).mp c18
      refine lv_iinc (v := nI (i + 1)) (lv' := [(3, .int (nI (i + 1))), (4, .long (lN (tot (mW mE mB mTb mTr hab sp tu kn) mE (nI xe) i))), (0, .ref mo), (1, .int (nI xe)), (2, .int (nI xt))]) hx hb dX11_turningNow_43 hl (k := 4) rfl (iinc1 _) (by decide) rfl (fun ls hl => ?_)
      refine lv_goto (tgt := 2) hx hb dX11_turningNow_46 (by decide) ?_
      exact ih2 (i + 1) (by omega) (by omega) (by rw [← hf]; exact trn_f (by first | exact trQ_a c18 | exact trQ_b c37) (by omega)) ls (lv_sub hl [2, 3, 4, 0] rfl)
     ·have c18 : ¬ (tot (mW mE mB mTb mTr hab sp tu kn) mE (nI xe) i) ≤ 0 := fun h9 => c18 ((pk_lLE (a := tot (mW mE mB mTb mTr hab sp tu kn) mE (nI xe) i) (b := 0) (by have := hq i (by omega); omega) (by have := hq i (by omega); omega)).mpr h9)
      refine lv_ldc2 hx hb hown k149 dX11_turningNow_22 ?_
      refine top_l (y := lN 10) (by decide) ?_
      refine lv_aload_n hx hb dX11_turningNow_25 rfl (lv_at hl 1 rfl) ?_
      refine lv_iload_n hx hb dX11_turningNow_26 rfl (lv_at hl 2 rfl) ?_
      refine lv_iload_n hx hb dX11_turningNow_27 rfl (lv_at hl 4 rfl) ?_
      refine goSl (T := lN (bwt (mW mE mB mTb mTr hab sp tu kn) mE xe i)) (va_runV (As := [.int (nI xe), .int (nI i)]) (rest := [.long (lN 10)]) ⟨hx, hb, hml, hown, hts⟩ (k_X11_boiledWeight l g mo mE mKi mB mTb mTr mFa aHab mIb mS aSp aTu aKn mT aKd mAs mPl aPg aWo aWs aMe mBf aBw mSd mIk mKk mKb mKs mKt aKsp aKtu aKkn mH hab sp tu kn xe i (by first | assumption | exact Nat.zero_le _ | omega) (by first | assumption | exact Nat.zero_le _ | omega) (by first | assumption | exact Nat.zero_le _ | omega) (by first | assumption | exact Nat.zero_le _ | omega)) (cwV 2 hts gX11_turningNow_X11_boiledWeight rfl rfl rfl ⟨rfl, hdX11_boiledWeight⟩ ⟨Nat.le_of_ble_eq_true rfl, Nat.le_of_ble_eq_true rfl⟩) (preVS hC (hP.sub [0, 1, 2, 3, 4] rfl) (va_recv hC.1 hP (ci := 11) (q0 := 0) rfl rfl)) rfl rfl hl.1 rfl (lv_room (Nat.le_of_ble_eq_true rfl)) dX11_turningNow_28 ⟨Nat.le_of_ble_eq_true rfl, Nat.le_of_ble_eq_true rfl⟩) ?_
      refine lv_lmul hx hb dX11_turningNow_31 ?_
      refine top_l (y := lN (10 * (bwt (mW mE mB mTb mTr hab sp tu kn) mE xe i))) (lN_mul _ _) ?_
      refine lv_iload_n hx hb dX11_turningNow_32 rfl (lv_at hl 3 rfl) ?_
      refine lv_i2l (v := lN xt) hx hb dX11_turningNow_33 (nI_l (by omega)) ?_
      refine lv_lload hx hb dX11_turningNow_34 (lv_at hl 0 rfl) ?_
      refine lv_lmul hx hb dX11_turningNow_36 ?_
      refine top_l (y := lN (xt * (tot (mW mE mB mTb mTr hab sp tu kn) mE (nI xe) i))) (lN_mul _ _) ?_
      refine lc_lt (tgt := 43) hx hb dX11_turningNow_37 dX11_turningNow_38 (by decide) (fun c37 => ?_) (fun c37 => ?_)
      ·have c37 : (10 * (bwt (mW mE mB mTb mTr hab sp tu kn) mE xe i)) < (xt * (tot (mW mE mB mTb mTr hab sp tu kn) mE (nI xe) i)) := (pk_lLT (a := 10 * (bwt (mW mE mB mTb mTr hab sp tu kn) mE xe i)) (b := xt * (tot (mW mE mB mTb mTr hab sp tu kn) mE (nI xe) i)) (by have := hq i (by omega); have h8 := Nat.mul_le_mul ht0 (Nat.le_of_lt this.1); omega) (by have := hq i (by omega); have h8 := Nat.mul_le_mul ht0 (Nat.le_of_lt this.1); omega)).mp c37
       refine lv_iinc (v := nI (i + 1)) (lv' := [(3, .int (nI (i + 1))), (4, .long (lN (tot (mW mE mB mTb mTr hab sp tu kn) mE (nI xe) i))), (0, .ref mo), (1, .int (nI xe)), (2, .int (nI xt))]) hx hb dX11_turningNow_43 hl (k := 4) rfl (iinc1 _) (by decide) rfl (fun ls hl => ?_)
       refine lv_goto (tgt := 2) hx hb dX11_turningNow_46 (by decide) ?_
       exact ih2 (i + 1) (by omega) (by omega) (by rw [← hf]; exact trn_f (by first | exact trQ_a c18 | exact trQ_b c37) (by omega)) ls (lv_sub hl [2, 3, 4, 0] rfl)
      ·have c37 : ¬ (10 * (bwt (mW mE mB mTb mTr hab sp tu kn) mE xe i)) < (xt * (tot (mW mE mB mTb mTr hab sp tu kn) mE (nI xe) i)) := fun h9 => c37 ((pk_lLT (a := 10 * (bwt (mW mE mB mTb mTr hab sp tu kn) mE xe i)) (b := xt * (tot (mW mE mB mTb mTr hab sp tu kn) mE (nI xe) i)) (by have := hq i (by omega); have h8 := Nat.mul_le_mul ht0 (Nat.le_of_lt this.1); omega) (by have := hq i (by omega); have h8 := Nat.mul_le_mul ht0 (Nat.le_of_lt this.1); omega)).mpr h9)
       refine lv_iload_n hx hb dX11_turningNow_41 rfl (lv_at hl 4 rfl) ?_
       exact retSi hx hb hr hlocks (by rw [← hf, trn_t (trQ_t c18 c37) (by omega)]) dX11_turningNow_42
  exact hL2 _ 0 (Nat.lt_succ_self _) (Nat.zero_le _) (rfl) ls (lv_sub hl [1, 2, 3, 0] rfl)

set_option maxHeartbeats 4000000 in
set_option maxRecDepth 100000 in
/-- BoiledEggsModel.turning  -/
theorem k_X11_turning (l : Launch) (g : GG) (mo : Nat) (mE : Nat) (mKi : Nat) (mB : Nat) (mTb : Nat) (mTr : Nat) (mFa : Nat) (aHab : Nat) (mIb : Nat) (mS : Nat) (aSp : Nat) (aTu : Nat) (aKn : Nat) (mT : Nat) (aKd : Nat) (mAs : Nat) (mPl : Nat) (aPg : Nat) (aWo : Nat) (aWs : Nat) (aMe : Nat) (mBf : Int32) (aBw : Nat) (mSd : Int64) (mIk : Int32) (mKk : Nat) (mKb : Nat) (mKs : Nat) (mKt : Nat) (aKsp : Nat) (aKtu : Nat) (aKkn : Nat) (mH : Int64) (hab : Nat → Nat) (sp : Nat → Nat) (tu : Nat → Nat) (kn : Nat → Int32) (xe : Int32) (xt : Int32) (hok : wOK mE mTb mTr hab sp tu) (hB0 : mB < 1000) (hq : ∀ e k, k ≤ 5 → e < mE → tot (mW mE mB mTb mTr hab sp tu kn) mE (nI e) k < 2 ^ 58 ∧ bwt (mW mE mB mTb mTr hab sp tu kn) mE e k < 2 ^ 58) : Met l yX11_turning wsX11_turning ({ frames := 5, cells := 0, slots := 0, locals := 125 }) (pS g [.ref mo, .int xe, .int xt] [(mo, .inr (11, [.int (nI mE), .int (nI mKi), .int (nI mB), .int (nI mTb), .int (nI mTr), .int (nI mFa), .ref aHab, .int (nI mIb), .int (nI mS), .ref aSp, .ref aTu, .ref aKn, .int (nI mT), .ref aKd, .int (nI mAs), .int (nI mPl), .ref aPg, .ref aWo, .ref aWs, .ref aMe, .int mBf, .ref aBw, .long mSd, .int mIk, .int (nI mKk), .int (nI mKb), .int (nI mKs), .int (nI mKt), .ref aKsp, .ref aKtu, .ref aKkn, .long mH])), (aHab, .inl (g.2.1, 6, .inl (fun j => nI (hab j)))), (aSp, .inl (g.2.1, 6, .inl (fun j => nI (sp j)))), (aTu, .inl (g.2.1, 6, .inl (fun j => nI (tu j)))), (aKn, .inl (g.2.1, 6, .inl kn))]) (vp_Si (fun r => r = (turR (mW mE mB mTb mTr hab sp tu kn) mE xe xt))) 0 0 noF := by
  refine metS (cc := cX11_turning) (maxL := 3) (ret := (some .int)) (by decide) rfl (Nat.le_of_ble_eq_true rfl) ?_
  intro p e s m below meth c hx hb hr hts hown hlocks hml hC hP ls hl
  have hl : lv_has ls 3 [(0, .ref mo), (1, .int xe), (2, .int xt)] := hl
  have hown : s.vm.findClass RX11 = some m.cls := hown
  have hts : ∀ w ∈ wsX11_turning, w.before ([.ref mo, .int xe, .int xt] : List Value).toArray s = true := hts
  have hE := hok.1
  refine lv_aload_n hx hb dX11_turning_0 rfl (lv_at hl 0 rfl) ?_
  refine lv_iload_n hx hb dX11_turning_1 rfl (lv_at hl 1 rfl) ?_
  refine goSi (T := zI (isE mE xe)) (va_runV (As := [.int xe]) (rest := []) ⟨hx, hb, hml, hown, hts⟩ (k_X11_isEgg l g mo mE mKi mB mTb mTr mFa aHab mIb mS aSp aTu aKn mT aKd mAs mPl aPg aWo aWs aMe mBf aBw mSd mIk mKk mKb mKs mKt aKsp aKtu aKkn mH xe (by first | assumption | exact Nat.zero_le _ | omega)) (cwV 1 hts gX11_turning_X11_isEgg rfl rfl rfl ⟨rfl, hdX11_isEgg⟩ ⟨Nat.le_of_ble_eq_true rfl, Nat.le_of_ble_eq_true rfl⟩) (preVS hC (hP.sub [0] rfl) (va_recv hC.1 hP (ci := 11) (q0 := 0) rfl rfl)) rfl rfl hl.1 rfl (lv_room (Nat.le_of_ble_eq_true rfl)) dX11_turning_2 ⟨Nat.le_of_ble_eq_true rfl, Nat.le_of_ble_eq_true rfl⟩) ?_
  refine lv_if_ne (tgt := 11) hx hb dX11_turning_5 (by decide) (fun c5 => ?_) (fun c5 => ?_)
  ·have c5 := zI_t.mp c5
   obtain ⟨k, hk, rfl⟩ := isE_t c5
   refine lv_iload_n hx hb dX11_turning_11 rfl (lv_at hl 2 rfl) ?_
   refine lv_iconst (v := nI 1) hx hb dX11_turning_12 (by decide) ?_
   refine lv_bipush (v := nI 9) hx hb dX11_turning_13 (by decide) ?_
   refine goSi (T := zI (wth xt (nI 1) (nI 9))) (va_runS (As := [.int xt, .int (nI 1), .int (nI 9)]) (rest := []) ⟨hx, hb, hml, hown, hts⟩ (k_X11_within l g xt (nI 1) (nI 9) ) (va_cwS 3 hts gX11_turning_X11_within rfl rfl rfl hdX11_within ⟨Nat.le_of_ble_eq_true rfl, Nat.le_of_ble_eq_true rfl⟩) (preSS hC (hP.sub [] rfl)) rfl rfl hl.1 rfl (lv_room (Nat.le_of_ble_eq_true rfl)) dX11_turning_15 ⟨Nat.le_of_ble_eq_true rfl, Nat.le_of_ble_eq_true rfl⟩) ?_
   refine lv_if_eq (tgt := 30) hx hb dX11_turning_18 (by decide) (fun c18 => ?_) (fun c18 => ?_)
   ·have c18 := zI_f.mp c18
    refine lv_bipush (v := (-102)) hx hb dX11_turning_30 (by decide) ?_
    exact retSi hx hb hr hlocks (by first | rw [turR, if_pos c5, if_pos c18, ix_nI (by omega), ix_nI (by omega)] | rw [turR, if_pos c5, if_neg (by rw [c18]; decide)]) dX11_turning_32
   ·have c18 := zI_t.mp c18
    obtain ⟨t, ht, rfl⟩ := wth_n c18
    refine lv_aload_n hx hb dX11_turning_21 rfl (lv_at hl 0 rfl) ?_
    refine lv_iload_n hx hb dX11_turning_22 rfl (lv_at hl 1 rfl) ?_
    refine lv_iload_n hx hb dX11_turning_23 rfl (lv_at hl 2 rfl) ?_
    refine goSi (T := trn (trQ (mW mE mB mTb mTr hab sp tu kn) mE k t) 6 0) (va_runV (As := [.int (nI k), .int (nI t)]) (rest := []) ⟨hx, hb, hml, hown, hts⟩ (k_X11_turningNow l g mo mE mKi mB mTb mTr mFa aHab mIb mS aSp aTu aKn mT aKd mAs mPl aPg aWo aWs aMe mBf aBw mSd mIk mKk mKb mKs mKt aKsp aKtu aKkn mH hab sp tu kn k t (by first | assumption | exact Nat.zero_le _ | omega) (by first | assumption | exact Nat.zero_le _ | omega) (by omega) (by first | assumption | exact Nat.zero_le _ | omega) (fun k9 h9 => hq k k9 h9 hk)) (cwV 2 hts gX11_turning_X11_turningNow rfl rfl rfl ⟨rfl, hdX11_turningNow⟩ ⟨Nat.le_of_ble_eq_true rfl, Nat.le_of_ble_eq_true rfl⟩) (preVS hC (hP.sub [0, 1, 2, 3, 4] rfl) (va_recv hC.1 hP (ci := 11) (q0 := 0) rfl rfl)) rfl rfl hl.1 rfl (lv_room (Nat.le_of_ble_eq_true rfl)) dX11_turning_24 ⟨Nat.le_of_ble_eq_true rfl, Nat.le_of_ble_eq_true rfl⟩) ?_
    refine lv_goto (tgt := 32) hx hb dX11_turning_27 (by decide) ?_
    exact retSi hx hb hr hlocks (by first | rw [turR, if_pos c5, if_pos c18, ix_nI (by omega), ix_nI (by omega)] | rw [turR, if_pos c5, if_neg (by rw [c18]; decide)]) dX11_turning_32
  ·have c5 := zI_f.mp c5
   refine lv_bipush (v := (-101)) hx hb dX11_turning_8 (by decide) ?_
   exact retSi hx hb hr hlocks (by rw [turR, if_neg (by rw [c5]; decide)]) dX11_turning_10

set_option maxHeartbeats 4000000 in
set_option maxRecDepth 100000 in
/-- BoiledEggsModel.riskNow  -/
theorem k_X11_riskNow (l : Launch) (g : GG) (mo : Nat) (mE : Nat) (mKi : Nat) (mB : Nat) (mTb : Nat) (mTr : Nat) (mFa : Nat) (aHab : Nat) (mIb : Nat) (mS : Nat) (aSp : Nat) (aTu : Nat) (aKn : Nat) (mT : Nat) (aKd : Nat) (mAs : Nat) (mPl : Nat) (aPg : Nat) (aWo : Nat) (aWs : Nat) (aMe : Nat) (mBf : Int32) (aBw : Nat) (mSd : Int64) (mIk : Int32) (mKk : Nat) (mKb : Nat) (mKs : Nat) (mKt : Nat) (aKsp : Nat) (aKtu : Nat) (aKkn : Nat) (mH : Int64) (hab : Nat → Nat) (sp : Nat → Nat) (tu : Nat → Nat) (kn : Nat → Int32) (xe : Nat) (xp : Int32) (hok : wOK mE mTb mTr hab sp tu) (hB0 : mB < 1000) (he0 : xe < 31) (hfa : mFa ≤ 9) (ht : tot (mW mE mB mTb mTr hab sp tu kn) mE (-1) 0 < 2 ^ 58) (hp : 0 < tot (mW mE mB mTb mTr hab sp tu kn) mE (-1) 0) (hbt : bwt (mW mE mB mTb mTr hab sp tu kn) mE xe 0 ≤ tot (mW mE mB mTb mTr hab sp tu kn) mE (-1) 0) : Met l yX11_riskNow wsX11_riskNow ({ frames := 4, cells := 0, slots := 0, locals := 100 }) (pS g [.ref mo, .int (nI xe), .int xp] [(mo, .inr (11, [.int (nI mE), .int (nI mKi), .int (nI mB), .int (nI mTb), .int (nI mTr), .int (nI mFa), .ref aHab, .int (nI mIb), .int (nI mS), .ref aSp, .ref aTu, .ref aKn, .int (nI mT), .ref aKd, .int (nI mAs), .int (nI mPl), .ref aPg, .ref aWo, .ref aWs, .ref aMe, .int mBf, .ref aBw, .long mSd, .int mIk, .int (nI mKk), .int (nI mKb), .int (nI mKs), .int (nI mKt), .ref aKsp, .ref aKtu, .ref aKkn, .long mH])), (aHab, .inl (g.2.1, 6, .inl (fun j => nI (hab j)))), (aSp, .inl (g.2.1, 6, .inl (fun j => nI (sp j)))), (aTu, .inl (g.2.1, 6, .inl (fun j => nI (tu j)))), (aKn, .inl (g.2.1, 6, .inl kn))]) (vp_Sl (fun r => r = (rskN (mW mE mB mTb mTr hab sp tu kn) mE mFa xe xp))) 0 0 noF := by
  refine metS (cc := cX11_riskNow) (maxL := 5) (ret := (some .long)) (by decide) rfl (Nat.le_of_ble_eq_true rfl) ?_
  intro p e s m below meth c hx hb hr hts hown hlocks hml hC hP ls hl
  have hl : lv_has ls 5 [(0, .ref mo), (1, .int (nI xe)), (2, .int xp)] := hl
  have hown : s.vm.findClass RX11 = some m.cls := hown
  have hts : ∀ w ∈ wsX11_riskNow, w.before ([.ref mo, .int (nI xe), .int xp] : List Value).toArray s = true := hts
  have hinX11 := (by decide +kernel : ∀ w ∈ u_ws RX11 TX11 32, w ∈ wsX11_riskNow)
  have f83 := hts (.fieldLink RX11 83 "BoiledEggsModel" "falls" "I") (by decide +kernel)
  have k149 := hts (.constantLong RX11 149 (10)) (by decide +kernel)
  refine lv_aload_n hx hb dX11_riskNow_0 rfl (lv_at hl 0 rfl) ?_
  refine lv_iconst (v := (-1)) hx hb dX11_riskNow_1 (by decide) ?_
  refine lv_iconst (v := nI 0) hx hb dX11_riskNow_2 (by decide) ?_
  refine goSl (T := lN (tot (mW mE mB mTb mTr hab sp tu kn) mE (-1) 0)) (va_runV (As := [.int (-1), .int (nI 0)]) (rest := []) ⟨hx, hb, hml, hown, hts⟩ (k_X11_total l g mo mE mKi mB mTb mTr mFa aHab mIb mS aSp aTu aKn mT aKd mAs mPl aPg aWo aWs aMe mBf aBw mSd mIk mKk mKb mKs mKt aKsp aKtu aKkn mH hab sp tu kn (-1) 0 (by first | assumption | exact Nat.zero_le _ | omega) (by first | assumption | exact Nat.zero_le _ | omega) (by first | assumption | exact Nat.zero_le _ | omega)) (cwV 2 hts gX11_riskNow_X11_total rfl rfl rfl ⟨rfl, hdX11_total⟩ ⟨Nat.le_of_ble_eq_true rfl, Nat.le_of_ble_eq_true rfl⟩) (preVS hC (hP.sub [0, 1, 2, 3, 4] rfl) (va_recv hC.1 hP (ci := 11) (q0 := 0) rfl rfl)) rfl rfl hl.1 rfl (lv_room (Nat.le_of_ble_eq_true rfl)) dX11_riskNow_3 ⟨Nat.le_of_ble_eq_true rfl, Nat.le_of_ble_eq_true rfl⟩) ?_
  refine lv_lstore_n (lv' := [(3, .long (lN (tot (mW mE mB mTb mTr hab sp tu kn) mE (-1) 0))), (0, .ref mo), (1, .int (nI xe)), (2, .int xp)]) hx hb dX11_riskNow_6 rfl hl (by decide) rfl (fun ls hl => ?_)
  refine lv_aload_n hx hb dX11_riskNow_7 rfl (lv_at hl 1 rfl) ?_
  refine va_get (D := g.1) (ci := 11) (v := .int (nI mFa)) (C := RX11) (T := TX11) (N := 32) hx hb hts hinX11 hown hC.1 hP 0 rfl rfl 5 (by decide) f83 (fun _ h9 => h9) rfl dX11_riskNow_8 ?_
  refine lv_i2l (v := lN mFa) hx hb dX11_riskNow_11 (nI_l (by omega)) ?_
  refine lv_lload_n hx hb dX11_riskNow_12 rfl (lv_at hl 0 rfl) ?_
  refine lv_aload_n hx hb dX11_riskNow_13 rfl (lv_at hl 1 rfl) ?_
  refine lv_iload_n hx hb dX11_riskNow_14 rfl (lv_at hl 2 rfl) ?_
  refine lv_iconst (v := nI 0) hx hb dX11_riskNow_15 (by decide) ?_
  refine goSl (T := lN (bwt (mW mE mB mTb mTr hab sp tu kn) mE xe 0)) (va_runV (As := [.int (nI xe), .int (nI 0)]) (rest := [.long (lN (tot (mW mE mB mTb mTr hab sp tu kn) mE (-1) 0)), .long (lN mFa)]) ⟨hx, hb, hml, hown, hts⟩ (k_X11_boiledWeight l g mo mE mKi mB mTb mTr mFa aHab mIb mS aSp aTu aKn mT aKd mAs mPl aPg aWo aWs aMe mBf aBw mSd mIk mKk mKb mKs mKt aKsp aKtu aKkn mH hab sp tu kn xe 0 (by first | assumption | exact Nat.zero_le _ | omega) (by first | assumption | exact Nat.zero_le _ | omega) (by first | assumption | exact Nat.zero_le _ | omega) (by first | assumption | exact Nat.zero_le _ | omega)) (cwV 2 hts gX11_riskNow_X11_boiledWeight rfl rfl rfl ⟨rfl, hdX11_boiledWeight⟩ ⟨Nat.le_of_ble_eq_true rfl, Nat.le_of_ble_eq_true rfl⟩) (preVS hC (hP.sub [0, 1, 2, 3, 4] rfl) (va_recv hC.1 hP (ci := 11) (q0 := 0) rfl rfl)) rfl rfl hl.1 rfl (lv_room (Nat.le_of_ble_eq_true rfl)) dX11_riskNow_16 ⟨Nat.le_of_ble_eq_true rfl, Nat.le_of_ble_eq_true rfl⟩) ?_
  refine lv_lsub hx hb dX11_riskNow_19 ?_
  refine top_l (y := lN (tot (mW mE mB mTb mTr hab sp tu kn) mE (-1) 0 - bwt (mW mE mB mTb mTr hab sp tu kn) mE xe 0)) (lN_sub hbt) ?_
  refine lv_lmul hx hb dX11_riskNow_20 ?_
  refine top_l (y := lN (mFa * (tot (mW mE mB mTb mTr hab sp tu kn) mE (-1) 0 - bwt (mW mE mB mTb mTr hab sp tu kn) mE xe 0))) (lN_mul _ _) ?_
  refine lv_ldc2 hx hb hown k149 dX11_riskNow_21 ?_
  refine top_l (y := lN 10) (by decide) ?_
  refine lv_lload_n hx hb dX11_riskNow_24 rfl (lv_at hl 0 rfl) ?_
  refine lv_lmul hx hb dX11_riskNow_25 ?_
  refine top_l (y := lN (10 * (tot (mW mE mB mTb mTr hab sp tu kn) mE (-1) 0))) (lN_mul _ _) ?_
  refine lv_iload_n hx hb dX11_riskNow_26 rfl (lv_at hl 3 rfl) ?_
  refine goSl (T := lN (low (mFa * (tot (mW mE mB mTb mTr hab sp tu kn) mE (-1) 0 - bwt (mW mE mB mTb mTr hab sp tu kn) mE xe 0)) (10 * (tot (mW mE mB mTb mTr hab sp tu kn) mE (-1) 0)) xp)) (va_runS (As := [.long (lN (mFa * (tot (mW mE mB mTb mTr hab sp tu kn) mE (-1) 0 - bwt (mW mE mB mTb mTr hab sp tu kn) mE xe 0))), .long (lN (10 * (tot (mW mE mB mTb mTr hab sp tu kn) mE (-1) 0))), .int xp]) (rest := []) ⟨hx, hb, hml, hown, hts⟩ (k_X11_lowest l g (mFa * (tot (mW mE mB mTb mTr hab sp tu kn) mE (-1) 0 - bwt (mW mE mB mTb mTr hab sp tu kn) mE xe 0)) (10 * (tot (mW mE mB mTb mTr hab sp tu kn) mE (-1) 0)) xp (by have h8 := Nat.mul_le_mul hfa (Nat.sub_le (tot (mW mE mB mTb mTr hab sp tu kn) mE (-1) 0) (bwt (mW mE mB mTb mTr hab sp tu kn) mE xe 0)); omega) (by first | assumption | exact Nat.zero_le _ | omega) (by first | assumption | exact Nat.zero_le _ | omega)) (va_cwS 3 hts gX11_riskNow_X11_lowest rfl rfl rfl hdX11_lowest ⟨Nat.le_of_ble_eq_true rfl, Nat.le_of_ble_eq_true rfl⟩) (preSS hC (hP.sub [] rfl)) rfl rfl hl.1 rfl (lv_room (Nat.le_of_ble_eq_true rfl)) dX11_riskNow_27 ⟨Nat.le_of_ble_eq_true rfl, Nat.le_of_ble_eq_true rfl⟩) ?_
  exact retSl hx hb hr hlocks (rfl) dX11_riskNow_30

set_option maxHeartbeats 4000000 in
set_option maxRecDepth 100000 in
/-- BoiledEggsModel.risk  -/
theorem k_X11_risk (l : Launch) (g : GG) (mo : Nat) (mE : Nat) (mKi : Nat) (mB : Nat) (mTb : Nat) (mTr : Nat) (mFa : Nat) (aHab : Nat) (mIb : Nat) (mS : Nat) (aSp : Nat) (aTu : Nat) (aKn : Nat) (mT : Nat) (aKd : Nat) (mAs : Nat) (mPl : Nat) (aPg : Nat) (aWo : Nat) (aWs : Nat) (aMe : Nat) (mBf : Int32) (aBw : Nat) (mSd : Int64) (mIk : Int32) (mKk : Nat) (mKb : Nat) (mKs : Nat) (mKt : Nat) (aKsp : Nat) (aKtu : Nat) (aKkn : Nat) (mH : Int64) (hab : Nat → Nat) (sp : Nat → Nat) (tu : Nat → Nat) (kn : Nat → Int32) (xe : Int32) (xp : Int32) (hok : wOK mE mTb mTr hab sp tu) (hB0 : mB < 1000) (hfa : mFa ≤ 9) (hib : mIb < 64) (ht : tot (mW mE mB mTb mTr hab sp tu kn) mE (-1) 0 < 2 ^ 58) (hp : 0 < mE → 0 < tot (mW mE mB mTb mTr hab sp tu kn) mE (-1) 0) (hbt : ∀ e, bwt (mW mE mB mTb mTr hab sp tu kn) mE e 0 ≤ tot (mW mE mB mTb mTr hab sp tu kn) mE (-1) 0) : Met l yX11_risk wsX11_risk ({ frames := 5, cells := 0, slots := 0, locals := 124 }) (pS g [.ref mo, .int xe, .int xp] [(mo, .inr (11, [.int (nI mE), .int (nI mKi), .int (nI mB), .int (nI mTb), .int (nI mTr), .int (nI mFa), .ref aHab, .int (nI mIb), .int (nI mS), .ref aSp, .ref aTu, .ref aKn, .int (nI mT), .ref aKd, .int (nI mAs), .int (nI mPl), .ref aPg, .ref aWo, .ref aWs, .ref aMe, .int mBf, .ref aBw, .long mSd, .int mIk, .int (nI mKk), .int (nI mKb), .int (nI mKs), .int (nI mKt), .ref aKsp, .ref aKtu, .ref aKkn, .long mH])), (aHab, .inl (g.2.1, 6, .inl (fun j => nI (hab j)))), (aSp, .inl (g.2.1, 6, .inl (fun j => nI (sp j)))), (aTu, .inl (g.2.1, 6, .inl (fun j => nI (tu j)))), (aKn, .inl (g.2.1, 6, .inl kn))]) (vp_Sl (fun r => r = (rskR (mW mE mB mTb mTr hab sp tu kn) mE mFa mIb xe xp))) 0 0 noF := by
  refine metS (cc := cX11_risk) (maxL := 3) (ret := (some .long)) (by decide) rfl (Nat.le_of_ble_eq_true rfl) ?_
  intro p e s m below meth c hx hb hr hts hown hlocks hml hC hP ls hl
  have hl : lv_has ls 3 [(0, .ref mo), (1, .int xe), (2, .int xp)] := hl
  have hown : s.vm.findClass RX11 = some m.cls := hown
  have hts : ∀ w ∈ wsX11_risk, w.before ([.ref mo, .int xe, .int xp] : List Value).toArray s = true := hts
  have hE := hok.1
  have k188 := hts (.constantLong RX11 188 (-103)) (by decide +kernel)
  have k144 := hts (.constantLong RX11 144 (-102)) (by decide +kernel)
  have k139 := hts (.constantLong RX11 139 (-101)) (by decide +kernel)
  refine lv_aload_n hx hb dX11_risk_0 rfl (lv_at hl 0 rfl) ?_
  refine lv_iload_n hx hb dX11_risk_1 rfl (lv_at hl 1 rfl) ?_
  refine goSi (T := zI (isE mE xe)) (va_runV (As := [.int xe]) (rest := []) ⟨hx, hb, hml, hown, hts⟩ (k_X11_isEgg l g mo mE mKi mB mTb mTr mFa aHab mIb mS aSp aTu aKn mT aKd mAs mPl aPg aWo aWs aMe mBf aBw mSd mIk mKk mKb mKs mKt aKsp aKtu aKkn mH xe (by first | assumption | exact Nat.zero_le _ | omega)) (cwV 1 hts gX11_risk_X11_isEgg rfl rfl rfl ⟨rfl, hdX11_isEgg⟩ ⟨Nat.le_of_ble_eq_true rfl, Nat.le_of_ble_eq_true rfl⟩) (preVS hC (hP.sub [0] rfl) (va_recv hC.1 hP (ci := 11) (q0 := 0) rfl rfl)) rfl rfl hl.1 rfl (lv_room (Nat.le_of_ble_eq_true rfl)) dX11_risk_2 ⟨Nat.le_of_ble_eq_true rfl, Nat.le_of_ble_eq_true rfl⟩) ?_
  refine lv_if_ne (tgt := 12) hx hb dX11_risk_5 (by decide) (fun c5 => ?_) (fun c5 => ?_)
  ·have c5 := zI_t.mp c5
   obtain ⟨k, hk, rfl⟩ := isE_t c5
   refine lv_iload_n hx hb dX11_risk_12 rfl (lv_at hl 2 rfl) ?_
   refine lv_iconst (v := nI 0) hx hb dX11_risk_13 (by decide) ?_
   refine lv_iconst (v := nI 1) hx hb dX11_risk_14 (by decide) ?_
   refine goSi (T := zI (wth xp (nI 0) (nI 1))) (va_runS (As := [.int xp, .int (nI 0), .int (nI 1)]) (rest := []) ⟨hx, hb, hml, hown, hts⟩ (k_X11_within l g xp (nI 0) (nI 1) ) (va_cwS 3 hts gX11_risk_X11_within rfl rfl rfl hdX11_within ⟨Nat.le_of_ble_eq_true rfl, Nat.le_of_ble_eq_true rfl⟩) (preSS hC (hP.sub [] rfl)) rfl rfl hl.1 rfl (lv_room (Nat.le_of_ble_eq_true rfl)) dX11_risk_15 ⟨Nat.le_of_ble_eq_true rfl, Nat.le_of_ble_eq_true rfl⟩) ?_
   refine lv_if_ne (tgt := 25) hx hb dX11_risk_18 (by decide) (fun c18 => ?_) (fun c18 => ?_)
   ·have c18 := zI_t.mp c18
    refine lv_aload_n hx hb dX11_risk_25 rfl (lv_at hl 0 rfl) ?_
    refine lv_iload_n hx hb dX11_risk_26 rfl (lv_at hl 1 rfl) ?_
    refine goSi (T := zI (mIb.testBit k)) (va_runV (As := [.int (nI k)]) (rest := []) ⟨hx, hb, hml, hown, hts⟩ (k_X11_isInBox l g mo mE mKi mB mTb mTr mFa aHab mIb mS aSp aTu aKn mT aKd mAs mPl aPg aWo aWs aMe mBf aBw mSd mIk mKk mKb mKs mKt aKsp aKtu aKkn mH k (by first | assumption | exact Nat.zero_le _ | omega) (by first | assumption | exact Nat.zero_le _ | omega)) (cwV 1 hts gX11_risk_X11_isInBox rfl rfl rfl ⟨rfl, hdX11_isInBox⟩ ⟨Nat.le_of_ble_eq_true rfl, Nat.le_of_ble_eq_true rfl⟩) (preVS hC (hP.sub [0] rfl) (va_recv hC.1 hP (ci := 11) (q0 := 0) rfl rfl)) rfl rfl hl.1 rfl (lv_room (Nat.le_of_ble_eq_true rfl)) dX11_risk_27 ⟨Nat.le_of_ble_eq_true rfl, Nat.le_of_ble_eq_true rfl⟩) ?_
    refine lv_if_eq (tgt := 42) hx hb dX11_risk_30 (by decide) (fun c30 => ?_) (fun c30 => ?_)
    ·have c30 := zI_f.mp c30
     refine lv_ldc2 hx hb hown k188 dX11_risk_42 ?_
     exact retSl hx hb hr hlocks (by first | rw [rskR, if_pos c5, if_pos c18, ix_nI (by omega), if_pos c30] | rw [rskR, if_pos c5, if_pos c18, ix_nI (by omega), if_neg (by rw [c30]; decide)]) dX11_risk_45
    ·have c30 := zI_t.mp c30
     refine lv_aload_n hx hb dX11_risk_33 rfl (lv_at hl 0 rfl) ?_
     refine lv_iload_n hx hb dX11_risk_34 rfl (lv_at hl 1 rfl) ?_
     refine lv_iload_n hx hb dX11_risk_35 rfl (lv_at hl 2 rfl) ?_
     refine goSl (T := rskN (mW mE mB mTb mTr hab sp tu kn) mE mFa k xp) (va_runV (As := [.int (nI k), .int xp]) (rest := []) ⟨hx, hb, hml, hown, hts⟩ (k_X11_riskNow l g mo mE mKi mB mTb mTr mFa aHab mIb mS aSp aTu aKn mT aKd mAs mPl aPg aWo aWs aMe mBf aBw mSd mIk mKk mKb mKs mKt aKsp aKtu aKkn mH hab sp tu kn k xp (by first | assumption | exact Nat.zero_le _ | omega) (by first | assumption | exact Nat.zero_le _ | omega) (by omega) (by first | assumption | exact Nat.zero_le _ | omega) (by first | assumption | exact Nat.zero_le _ | omega) (hp (by omega)) (hbt k)) (cwV 2 hts gX11_risk_X11_riskNow rfl rfl rfl ⟨rfl, hdX11_riskNow⟩ ⟨Nat.le_of_ble_eq_true rfl, Nat.le_of_ble_eq_true rfl⟩) (preVS hC (hP.sub [0, 1, 2, 3, 4] rfl) (va_recv hC.1 hP (ci := 11) (q0 := 0) rfl rfl)) rfl rfl hl.1 rfl (lv_room (Nat.le_of_ble_eq_true rfl)) dX11_risk_36 ⟨Nat.le_of_ble_eq_true rfl, Nat.le_of_ble_eq_true rfl⟩) ?_
     refine lv_goto (tgt := 45) hx hb dX11_risk_39 (by decide) ?_
     exact retSl hx hb hr hlocks (by first | rw [rskR, if_pos c5, if_pos c18, ix_nI (by omega), if_pos c30] | rw [rskR, if_pos c5, if_pos c18, ix_nI (by omega), if_neg (by rw [c30]; decide)]) dX11_risk_45
   ·have c18 := zI_f.mp c18
    refine lv_ldc2 hx hb hown k144 dX11_risk_21 ?_
    exact retSl hx hb hr hlocks (by rw [rskR, if_pos c5, if_neg (by rw [c18]; decide)]) dX11_risk_24
  ·have c5 := zI_f.mp c5
   refine lv_ldc2 hx hb hown k139 dX11_risk_8 ?_
   exact retSl hx hb hr hlocks (by rw [rskR, if_neg (by rw [c5]; decide)]) dX11_risk_11

set_option maxHeartbeats 4000000 in
set_option maxRecDepth 100000 in
/-- BoiledEggsModel.badness  -/
theorem k_X11_badness (l : Launch) (g : GG) (mo : Nat) (mE : Nat) (mKi : Nat) (mB : Nat) (mTb : Nat) (mTr : Nat) (mFa : Nat) (aHab : Nat) (mIb : Nat) (mS : Nat) (aSp : Nat) (aTu : Nat) (aKn : Nat) (mT : Nat) (aKd : Nat) (mAs : Nat) (mPl : Nat) (aPg : Nat) (aWo : Nat) (aWs : Nat) (aMe : Nat) (mBf : Int32) (aBw : Nat) (mSd : Int64) (mIk : Int32) (mKk : Nat) (mKb : Nat) (mKs : Nat) (mKt : Nat) (aKsp : Nat) (aKtu : Nat) (aKkn : Nat) (mH : Int64) (hab : Nat → Nat) (sp : Nat → Nat) (tu : Nat → Nat) (kn : Nat → Int32) (xk : Int32) (xe : Nat) (hok : wOK mE mTb mTr hab sp tu) (hB0 : mB < 1000) (he0 : xe < 31) : Met l yX11_badness wsX11_badness ({ frames := 4, cells := 0, slots := 0, locals := 100 }) (pS g [.ref mo, .int xk, .int (nI xe)] [(mo, .inr (11, [.int (nI mE), .int (nI mKi), .int (nI mB), .int (nI mTb), .int (nI mTr), .int (nI mFa), .ref aHab, .int (nI mIb), .int (nI mS), .ref aSp, .ref aTu, .ref aKn, .int (nI mT), .ref aKd, .int (nI mAs), .int (nI mPl), .ref aPg, .ref aWo, .ref aWs, .ref aMe, .int mBf, .ref aBw, .long mSd, .int mIk, .int (nI mKk), .int (nI mKb), .int (nI mKs), .int (nI mKt), .ref aKsp, .ref aKtu, .ref aKkn, .long mH])), (aHab, .inl (g.2.1, 6, .inl (fun j => nI (hab j)))), (aSp, .inl (g.2.1, 6, .inl (fun j => nI (sp j)))), (aTu, .inl (g.2.1, 6, .inl (fun j => nI (tu j)))), (aKn, .inl (g.2.1, 6, .inl kn))]) (vp_Sl (fun r => r = (bad xk (bwt (mW mE mB mTb mTr hab sp tu kn) mE xe 0) (tot (mW mE mB mTb mTr hab sp tu kn) mE (-1) 0)))) 0 0 noF := by
  refine metS (cc := cX11_badness) (maxL := 9) (ret := (some .long)) (by decide) rfl (Nat.le_of_ble_eq_true rfl) ?_
  intro p e s m below meth c hx hb hr hts hown hlocks hml hC hP ls hl
  have hl : lv_has ls 9 [(0, .ref mo), (1, .int xk), (2, .int (nI xe))] := hl
  have hown : s.vm.findClass RX11 = some m.cls := hown
  have hts : ∀ w ∈ wsX11_badness, w.before ([.ref mo, .int xk, .int (nI xe)] : List Value).toArray s = true := hts
  have k193 := hts (.constantLong RX11 193 (2)) (by decide +kernel)
  refine lv_aload_n hx hb dX11_badness_0 rfl (lv_at hl 0 rfl) ?_
  refine lv_iconst (v := (-1)) hx hb dX11_badness_1 (by decide) ?_
  refine lv_iconst (v := nI 0) hx hb dX11_badness_2 (by decide) ?_
  refine goSl (T := lN (tot (mW mE mB mTb mTr hab sp tu kn) mE (-1) 0)) (va_runV (As := [.int (-1), .int (nI 0)]) (rest := []) ⟨hx, hb, hml, hown, hts⟩ (k_X11_total l g mo mE mKi mB mTb mTr mFa aHab mIb mS aSp aTu aKn mT aKd mAs mPl aPg aWo aWs aMe mBf aBw mSd mIk mKk mKb mKs mKt aKsp aKtu aKkn mH hab sp tu kn (-1) 0 (by first | assumption | exact Nat.zero_le _ | omega) (by first | assumption | exact Nat.zero_le _ | omega) (by first | assumption | exact Nat.zero_le _ | omega)) (cwV 2 hts gX11_badness_X11_total rfl rfl rfl ⟨rfl, hdX11_total⟩ ⟨Nat.le_of_ble_eq_true rfl, Nat.le_of_ble_eq_true rfl⟩) (preVS hC (hP.sub [0, 1, 2, 3, 4] rfl) (va_recv hC.1 hP (ci := 11) (q0 := 0) rfl rfl)) rfl rfl hl.1 rfl (lv_room (Nat.le_of_ble_eq_true rfl)) dX11_badness_3 ⟨Nat.le_of_ble_eq_true rfl, Nat.le_of_ble_eq_true rfl⟩) ?_
  refine lv_lstore_n (lv' := [(3, .long (lN (tot (mW mE mB mTb mTr hab sp tu kn) mE (-1) 0))), (0, .ref mo), (1, .int xk), (2, .int (nI xe))]) hx hb dX11_badness_6 rfl hl (by decide) rfl (fun ls hl => ?_)
  refine lv_aload_n hx hb dX11_badness_7 rfl (lv_at hl 1 rfl) ?_
  refine lv_iload_n hx hb dX11_badness_8 rfl (lv_at hl 3 rfl) ?_
  refine lv_iconst (v := nI 0) hx hb dX11_badness_9 (by decide) ?_
  refine goSl (T := lN (bwt (mW mE mB mTb mTr hab sp tu kn) mE xe 0)) (va_runV (As := [.int (nI xe), .int (nI 0)]) (rest := []) ⟨hx, hb, hml, hown, hts⟩ (k_X11_boiledWeight l g mo mE mKi mB mTb mTr mFa aHab mIb mS aSp aTu aKn mT aKd mAs mPl aPg aWo aWs aMe mBf aBw mSd mIk mKk mKb mKs mKt aKsp aKtu aKkn mH hab sp tu kn xe 0 (by first | assumption | exact Nat.zero_le _ | omega) (by first | assumption | exact Nat.zero_le _ | omega) (by first | assumption | exact Nat.zero_le _ | omega) (by first | assumption | exact Nat.zero_le _ | omega)) (cwV 2 hts gX11_badness_X11_boiledWeight rfl rfl rfl ⟨rfl, hdX11_boiledWeight⟩ ⟨Nat.le_of_ble_eq_true rfl, Nat.le_of_ble_eq_true rfl⟩) (preVS hC (hP.sub [0, 1, 2, 3, 4] rfl) (va_recv hC.1 hP (ci := 11) (q0 := 0) rfl rfl)) rfl rfl hl.1 rfl (lv_room (Nat.le_of_ble_eq_true rfl)) dX11_badness_10 ⟨Nat.le_of_ble_eq_true rfl, Nat.le_of_ble_eq_true rfl⟩) ?_
  refine lv_lstore (lv' := [(5, .long (lN (bwt (mW mE mB mTb mTr hab sp tu kn) mE xe 0))), (3, .long (lN (tot (mW mE mB mTb mTr hab sp tu kn) mE (-1) 0))), (0, .ref mo), (1, .int xk), (2, .int (nI xe))]) hx hb dX11_badness_13 hl (by decide) rfl (fun ls hl => ?_)
  refine lv_ldc2 hx hb hown k193 dX11_badness_15 ?_
  refine top_l (y := lN 2) (by decide) ?_
  refine lv_lload hx hb dX11_badness_18 (lv_at hl 0 rfl) ?_
  refine lv_lmul hx hb dX11_badness_20 ?_
  refine top_l (y := lN (2 * (bwt (mW mE mB mTb mTr hab sp tu kn) mE xe 0))) (lN_mul _ _) ?_
  refine lv_lload_n hx hb dX11_badness_21 rfl (lv_at hl 1 rfl) ?_
  refine lv_lsub hx hb dX11_badness_22 ?_
  refine lv_lstore (lv' := [(7, .long ((lN (2 * (bwt (mW mE mB mTb mTr hab sp tu kn) mE xe 0))) - (lN (tot (mW mE mB mTb mTr hab sp tu kn) mE (-1) 0)))), (5, .long (lN (bwt (mW mE mB mTb mTr hab sp tu kn) mE xe 0))), (3, .long (lN (tot (mW mE mB mTb mTr hab sp tu kn) mE (-1) 0))), (0, .ref mo), (1, .int xk), (2, .int (nI xe))]) hx hb dX11_badness_23 hl (by decide) rfl (fun ls hl => ?_)
  refine lv_iload_n hx hb dX11_badness_25 rfl (lv_at hl 4 rfl) ?_
  refine lv_if_ne (tgt := 33) hx hb dX11_badness_26 (by decide) (fun c26 => ?_) (fun c26 => ?_)
  ·refine lv_iload_n hx hb dX11_badness_33 rfl (lv_at hl 4 rfl) ?_
   refine lv_iconst (v := nI 1) hx hb dX11_badness_34 (by decide) ?_
   refine lv_icmp_ne (tgt := 56) hx hb dX11_badness_35 (by decide) (fun c35 => ?_) (fun c35 => ?_)
   ·refine lv_iload_n hx hb dX11_badness_56 rfl (lv_at hl 4 rfl) ?_
    refine lv_iconst (v := nI 2) hx hb dX11_badness_57 (by decide) ?_
    refine lv_icmp_ne (tgt := 66) hx hb dX11_badness_58 (by decide) (fun c58 => ?_) (fun c58 => ?_)
    ·refine lv_lload hx hb dX11_badness_66 (lv_at hl 1 rfl) ?_
     refine lv_lneg hx hb dX11_badness_68 ?_
     exact retSl hx hb hr hlocks (by first | rw [bad, if_pos c26] | rw [bad, if_neg c26, if_pos c35, if_neg (by exact Int64.not_lt.mpr c41)] | rw [bad, if_neg c26, if_pos c35, if_pos (by exact Int64.not_le.mp c41)] | rw [bad, if_neg c26, if_neg c35, if_pos c58] | rw [bad, if_neg c26, if_neg c35, if_neg c58]) dX11_badness_69
    ·refine lv_lload hx hb dX11_badness_61 (lv_at hl 1 rfl) ?_
     refine lv_goto (tgt := 69) hx hb dX11_badness_63 (by decide) ?_
     exact retSl hx hb hr hlocks (by first | rw [bad, if_pos c26] | rw [bad, if_neg c26, if_pos c35, if_neg (by exact Int64.not_lt.mpr c41)] | rw [bad, if_neg c26, if_pos c35, if_pos (by exact Int64.not_le.mp c41)] | rw [bad, if_neg c26, if_neg c35, if_pos c58] | rw [bad, if_neg c26, if_neg c35, if_neg c58]) dX11_badness_69
   ·refine lv_lload hx hb dX11_badness_38 (lv_at hl 0 rfl) ?_
    refine lv_lconst (v := lN 0) hx hb dX11_badness_40 (by decide) ?_
    refine lc_ge (tgt := 51) hx hb dX11_badness_41 dX11_badness_42 (by decide) (fun c41 => ?_) (fun c41 => ?_)
    ·refine lv_lload hx hb dX11_badness_51 (lv_at hl 0 rfl) ?_
     refine lv_goto (tgt := 69) hx hb dX11_badness_53 (by decide) ?_
     exact retSl hx hb hr hlocks (by first | rw [bad, if_pos c26] | rw [bad, if_neg c26, if_pos c35, if_neg (by exact Int64.not_lt.mpr c41)] | rw [bad, if_neg c26, if_pos c35, if_pos (by exact Int64.not_le.mp c41)] | rw [bad, if_neg c26, if_neg c35, if_pos c58] | rw [bad, if_neg c26, if_neg c35, if_neg c58]) dX11_badness_69
    ·refine lv_lload hx hb dX11_badness_45 (lv_at hl 0 rfl) ?_
     refine lv_lneg hx hb dX11_badness_47 ?_
     refine lv_goto (tgt := 69) hx hb dX11_badness_48 (by decide) ?_
     exact retSl hx hb hr hlocks (by first | rw [bad, if_pos c26] | rw [bad, if_neg c26, if_pos c35, if_neg (by exact Int64.not_lt.mpr c41)] | rw [bad, if_neg c26, if_pos c35, if_pos (by exact Int64.not_le.mp c41)] | rw [bad, if_neg c26, if_neg c35, if_pos c58] | rw [bad, if_neg c26, if_neg c35, if_neg c58]) dX11_badness_69
  ·refine lv_lconst (v := lN 0) hx hb dX11_badness_29 (by decide) ?_
   refine lv_goto (tgt := 69) hx hb dX11_badness_30 (by decide) ?_
   exact retSl hx hb hr hlocks (by first | rw [bad, if_pos c26] | rw [bad, if_neg c26, if_pos c35, if_neg (by exact Int64.not_lt.mpr c41)] | rw [bad, if_neg c26, if_pos c35, if_pos (by exact Int64.not_le.mp c41)] | rw [bad, if_neg c26, if_neg c35, if_pos c58] | rw [bad, if_neg c26, if_neg c35, if_neg c58]) dX11_badness_69

set_option maxHeartbeats 4000000 in
set_option maxRecDepth 100000 in
/-- BoiledEggsModel.nextOf  -/
theorem k_X11_nextOf (l : Launch) (g : GG) (mo : Nat) (mE : Nat) (mKi : Nat) (mB : Nat) (mTb : Nat) (mTr : Nat) (mFa : Nat) (aHab : Nat) (mIb : Nat) (mS : Nat) (aSp : Nat) (aTu : Nat) (aKn : Nat) (mT : Nat) (aKd : Nat) (mAs : Nat) (mPl : Nat) (aPg : Nat) (aWo : Nat) (aWs : Nat) (aMe : Nat) (mBf : Int32) (aBw : Nat) (mSd : Int64) (mIk : Int32) (mKk : Nat) (mKb : Nat) (mKs : Nat) (mKt : Nat) (aKsp : Nat) (aKtu : Nat) (aKkn : Nat) (mH : Int64) (hab : Nat → Nat) (sp : Nat → Nat) (tu : Nat → Nat) (kn : Nat → Int32) (xk : Int32) (hok : wOK mE mTb mTr hab sp tu) (hB0 : mB < 1000) (hib : mIb < 64) : Met l yX11_nextOf wsX11_nextOf ({ frames := 5, cells := 0, slots := 0, locals := 128 }) (pS g [.ref mo, .int xk] [(mo, .inr (11, [.int (nI mE), .int (nI mKi), .int (nI mB), .int (nI mTb), .int (nI mTr), .int (nI mFa), .ref aHab, .int (nI mIb), .int (nI mS), .ref aSp, .ref aTu, .ref aKn, .int (nI mT), .ref aKd, .int (nI mAs), .int (nI mPl), .ref aPg, .ref aWo, .ref aWs, .ref aMe, .int mBf, .ref aBw, .long mSd, .int mIk, .int (nI mKk), .int (nI mKb), .int (nI mKs), .int (nI mKt), .ref aKsp, .ref aKtu, .ref aKkn, .long mH])), (aHab, .inl (g.2.1, 6, .inl (fun j => nI (hab j)))), (aSp, .inl (g.2.1, 6, .inl (fun j => nI (sp j)))), (aTu, .inl (g.2.1, 6, .inl (fun j => nI (tu j)))), (aKn, .inl (g.2.1, 6, .inl kn))]) (vp_Si (fun r => r = (nxt (mW mE mB mTb mTr hab sp tu kn) mE mIb xk))) 0 0 noF := by
  refine metS (cc := cX11_nextOf) (maxL := 8) (ret := (some .int)) (by decide) rfl (Nat.le_of_ble_eq_true rfl) ?_
  intro p e s m below meth c hx hb hr hts hown hlocks hml hC hP ls hl
  have hl : lv_has ls 8 [(0, .ref mo), (1, .int xk)] := hl
  have hown : s.vm.findClass RX11 = some m.cls := hown
  have hts : ∀ w ∈ wsX11_nextOf, w.before ([.ref mo, .int xk] : List Value).toArray s = true := hts
  have hE := hok.1
  have hinX11 := (by decide +kernel : ∀ w ∈ u_ws RX11 TX11 32, w ∈ wsX11_nextOf)
  have f71 := hts (.fieldLink RX11 71 "BoiledEggsModel" "eggs" "I") (by decide +kernel)
  refine lv_iconst (v := (-1)) hx hb dX11_nextOf_0 (by decide) ?_
  refine lv_istore_n (lv' := [(2, .int (-1)), (0, .ref mo), (1, .int xk)]) hx hb dX11_nextOf_1 rfl hl (by decide) rfl (fun ls hl => ?_)
  refine lv_iconst (v := nI 0) hx hb dX11_nextOf_2 (by decide) ?_
  refine lv_istore_n (lv' := [(3, .int (nI 0)), (2, .int (-1)), (0, .ref mo), (1, .int xk)]) hx hb dX11_nextOf_3 rfl hl (by decide) rfl (fun ls hl => ?_)
  have hL4 : ∀ (n_9 : Nat) (i : Nat), mE - i < n_9 → (i ≤ mE) → ∀ ls : Array Slot, lv_has ls 8 [(0, .ref mo), (1, .int xk), (2, .int (fo (nxF xk (scM (mW mE mB mTb mTr hab sp tu kn) mE xk) mIb) (-1) i)), (3, .int (nI i))] → W p l e ({ frames := 5, cells := 0, slots := 0, locals := 128 }) s m ([.ref mo, .int xk] : List Value).toArray below meth c s.heap [] 0 0 (MQ below (vp_Si (fun r => r = (nxt (mW mE mB mTb mTr hab sp tu kn) mE mIb xk))) ([.ref mo, .int xk] : List Value).toArray s 0 0 noF) (F0 m 4 ls []) := by
   intro n_9
   induction n_9 with
   | zero => intro i hn_9; exact absurd hn_9 (Nat.not_lt_zero _)
   | succ n_9 ih4 =>
    intro i hn_9 hi ls hl
    refine lv_iload_n hx hb dX11_nextOf_4 rfl (lv_at hl 3 rfl) ?_
    refine lv_aload_n hx hb dX11_nextOf_5 rfl (lv_at hl 0 rfl) ?_
    refine va_get (D := g.1) (ci := 11) (v := .int (nI mE)) (C := RX11) (T := TX11) (N := 32) hx hb hts hinX11 hown hC.1 hP 0 rfl rfl 0 (by decide) f71 (fun _ h9 => h9) rfl dX11_nextOf_6 ?_
    refine lv_icmp_ge (tgt := 84) hx hb dX11_nextOf_9 (by decide) (fun c9 => ?_) (fun c9 => ?_)
    ·have c9 : mE ≤ i := (nI_leI (a := mE) (b := i) (by omega) (by omega)).mp c9
     refine lv_iload_n hx hb dX11_nextOf_84 rfl (lv_at hl 2 rfl) ?_
     exact retSi hx hb hr hlocks (by have h9 : i = mE := (by omega); rw [nxt, h9]) dX11_nextOf_85
    ·have c9 : ¬ mE ≤ i := fun h9 => c9 ((nI_leI (a := mE) (b := i) (by omega) (by omega)).mpr h9)
     have hJ78 : ∀ ls : Array Slot, lv_has ls 8 [(0, .ref mo), (1, .int xk), (2, .int (fo (nxF xk (scM (mW mE mB mTb mTr hab sp tu kn) mE xk) mIb) (-1) (i + 1))), (3, .int (nI i))] → W p l e ({ frames := 5, cells := 0, slots := 0, locals := 128 }) s m ([.ref mo, .int xk] : List Value).toArray below meth c s.heap [] 0 0 (MQ below (vp_Si (fun r => r = (nxt (mW mE mB mTb mTr hab sp tu kn) mE mIb xk))) ([.ref mo, .int xk] : List Value).toArray s 0 0 noF) (F0 m 78 ls []) := by
      intro  ls hl
      refine lv_iinc (v := nI (i + 1)) (lv' := [(3, .int (nI (i + 1))), (0, .ref mo), (1, .int xk), (2, .int (fo (nxF xk (scM (mW mE mB mTb mTr hab sp tu kn) mE xk) mIb) (-1) (i + 1)))]) hx hb dX11_nextOf_78 hl (k := 3) rfl (iinc1 _) (by decide) rfl (fun ls hl => ?_)
      refine lv_goto (tgt := 4) hx hb dX11_nextOf_81 (by decide) ?_
      exact ih4 (i + 1) (by omega) (by first | assumption | exact Nat.zero_le _ | omega) ls (lv_sub hl [1, 2, 3, 0] rfl)
     refine lv_aload_n hx hb dX11_nextOf_12 rfl (lv_at hl 0 rfl) ?_
     refine lv_iload_n hx hb dX11_nextOf_13 rfl (lv_at hl 3 rfl) ?_
     refine goSi (T := zI (mIb.testBit i)) (va_runV (As := [.int (nI i)]) (rest := []) ⟨hx, hb, hml, hown, hts⟩ (k_X11_isInBox l g mo mE mKi mB mTb mTr mFa aHab mIb mS aSp aTu aKn mT aKd mAs mPl aPg aWo aWs aMe mBf aBw mSd mIk mKk mKb mKs mKt aKsp aKtu aKkn mH i (by first | assumption | exact Nat.zero_le _ | omega) (by first | assumption | exact Nat.zero_le _ | omega)) (cwV 1 hts gX11_nextOf_X11_isInBox rfl rfl rfl ⟨rfl, hdX11_isInBox⟩ ⟨Nat.le_of_ble_eq_true rfl, Nat.le_of_ble_eq_true rfl⟩) (preVS hC (hP.sub [0] rfl) (va_recv hC.1 hP (ci := 11) (q0 := 0) rfl rfl)) rfl rfl hl.1 rfl (lv_room (Nat.le_of_ble_eq_true rfl)) dX11_nextOf_14 ⟨Nat.le_of_ble_eq_true rfl, Nat.le_of_ble_eq_true rfl⟩) ?_
     refine lv_if_eq (tgt := 78) hx hb dX11_nextOf_17 (by decide) (fun c17 => ?_) (fun c17 => ?_)
     ·have c17 := zI_f.mp c17
      have hl : lv_has ls 8 [(0, .ref mo), (1, .int xk), (2, .int (fo (nxF xk (scM (mW mE mB mTb mTr hab sp tu kn) mE xk) mIb) (-1) (i + 1))), (3, .int (nI i))] := lv_val hl 2 rfl (congrArg Value.int (show fo (nxF xk (scM (mW mE mB mTb mTr hab sp tu kn) mE xk) mIb) (-1) i = fo (nxF xk (scM (mW mE mB mTb mTr hab sp tu kn) mE xk) mIb) (-1) (i + 1) from by rw [fo_s]; exact (nx_0 (k := xk) (sc := scM (mW mE mB mTb mTr hab sp tu kn) mE xk) (ib := mIb) (e := i) c17).symm))
      exact hJ78   ls (lv_sub hl [0, 1, 2, 3] rfl)
     ·have c17 := zI_t.mp c17
      refine lv_aload_n hx hb dX11_nextOf_20 rfl (lv_at hl 0 rfl) ?_
      refine lv_iload_n hx hb dX11_nextOf_21 rfl (lv_at hl 1 rfl) ?_
      refine lv_iload_n hx hb dX11_nextOf_22 rfl (lv_at hl 3 rfl) ?_
      refine goSl (T := bad xk (bwt (mW mE mB mTb mTr hab sp tu kn) mE i 0) (tot (mW mE mB mTb mTr hab sp tu kn) mE (-1) 0)) (va_runV (As := [.int xk, .int (nI i)]) (rest := []) ⟨hx, hb, hml, hown, hts⟩ (k_X11_badness l g mo mE mKi mB mTb mTr mFa aHab mIb mS aSp aTu aKn mT aKd mAs mPl aPg aWo aWs aMe mBf aBw mSd mIk mKk mKb mKs mKt aKsp aKtu aKkn mH hab sp tu kn xk i (by first | assumption | exact Nat.zero_le _ | omega) (by first | assumption | exact Nat.zero_le _ | omega) (by first | assumption | exact Nat.zero_le _ | omega)) (cwV 2 hts gX11_nextOf_X11_badness rfl rfl rfl ⟨rfl, hdX11_badness⟩ ⟨Nat.le_of_ble_eq_true rfl, Nat.le_of_ble_eq_true rfl⟩) (preVS hC (hP.sub [0, 1, 2, 3, 4] rfl) (va_recv hC.1 hP (ci := 11) (q0 := 0) rfl rfl)) rfl rfl hl.1 rfl (lv_room (Nat.le_of_ble_eq_true rfl)) dX11_nextOf_23 ⟨Nat.le_of_ble_eq_true rfl, Nat.le_of_ble_eq_true rfl⟩) ?_
      refine lv_lstore (lv' := [(4, .long (bad xk (bwt (mW mE mB mTb mTr hab sp tu kn) mE i 0) (tot (mW mE mB mTb mTr hab sp tu kn) mE (-1) 0))), (0, .ref mo), (1, .int xk), (2, .int (fo (nxF xk (scM (mW mE mB mTb mTr hab sp tu kn) mE xk) mIb) (-1) i)), (3, .int (nI i))]) hx hb dX11_nextOf_26 hl (by decide) rfl (fun ls hl => ?_)
      refine lv_iload_n hx hb dX11_nextOf_28 rfl (lv_at hl 3 rfl) ?_
      refine lv_iconst (v := (-1)) hx hb dX11_nextOf_29 (by decide) ?_
      refine lv_icmp_ne (tgt := 38) hx hb dX11_nextOf_30 (by decide) (fun c30 => ?_) (fun c30 => ?_)
      ·obtain ⟨j, hj, ej⟩ := (nx_or xk (scM (mW mE mB mTb mTr hab sp tu kn) mE xk) mIb i).resolve_left c30
       refine lv_aload_n hx hb dX11_nextOf_38 rfl (lv_at hl 1 rfl) ?_
       refine lv_iload_n hx hb dX11_nextOf_39 rfl (lv_at hl 2 rfl) ?_
       refine lv_iload_n hx hb dX11_nextOf_40 rfl (lv_at hl 3 rfl) ?_
       refine top_i (y := nI j) (ej) ?_
       refine goSl (T := bad xk (bwt (mW mE mB mTb mTr hab sp tu kn) mE j 0) (tot (mW mE mB mTb mTr hab sp tu kn) mE (-1) 0)) (va_runV (As := [.int xk, .int (nI j)]) (rest := []) ⟨hx, hb, hml, hown, hts⟩ (k_X11_badness l g mo mE mKi mB mTb mTr mFa aHab mIb mS aSp aTu aKn mT aKd mAs mPl aPg aWo aWs aMe mBf aBw mSd mIk mKk mKb mKs mKt aKsp aKtu aKkn mH hab sp tu kn xk j (by first | assumption | exact Nat.zero_le _ | omega) (by first | assumption | exact Nat.zero_le _ | omega) (by first | assumption | exact Nat.zero_le _ | omega)) (cwV 2 hts gX11_nextOf_X11_badness rfl rfl rfl ⟨rfl, hdX11_badness⟩ ⟨Nat.le_of_ble_eq_true rfl, Nat.le_of_ble_eq_true rfl⟩) (preVS hC (hP.sub [0, 1, 2, 3, 4] rfl) (va_recv hC.1 hP (ci := 11) (q0 := 0) rfl rfl)) rfl rfl hl.1 rfl (lv_room (Nat.le_of_ble_eq_true rfl)) dX11_nextOf_41 ⟨Nat.le_of_ble_eq_true rfl, Nat.le_of_ble_eq_true rfl⟩) ?_
       refine lv_lstore (lv' := [(6, .long (bad xk (bwt (mW mE mB mTb mTr hab sp tu kn) mE j 0) (tot (mW mE mB mTb mTr hab sp tu kn) mE (-1) 0))), (4, .long (bad xk (bwt (mW mE mB mTb mTr hab sp tu kn) mE i 0) (tot (mW mE mB mTb mTr hab sp tu kn) mE (-1) 0))), (0, .ref mo), (1, .int xk), (2, .int (fo (nxF xk (scM (mW mE mB mTb mTr hab sp tu kn) mE xk) mIb) (-1) i)), (3, .int (nI i))]) hx hb dX11_nextOf_44 hl (by decide) rfl (fun ls hl => ?_)
       refine lv_iload_n hx hb dX11_nextOf_46 rfl (lv_at hl 4 rfl) ?_
       refine lv_iconst (v := (-1)) hx hb dX11_nextOf_47 (by decide) ?_
       refine lv_icmp_eq (tgt := 72) hx hb dX11_nextOf_48 (by decide) (fun hz => absurd hz (c30)) (fun _ => ?_)
       refine lv_lload hx hb dX11_nextOf_51 (lv_at hl 1 rfl) ?_
       refine lv_lload hx hb dX11_nextOf_53 (lv_at hl 0 rfl) ?_
       refine lc_lt (tgt := 72) hx hb dX11_nextOf_55 dX11_nextOf_56 (by decide) (fun c55 => ?_) (fun c55 => ?_)
       ·refine lv_iload_n hx hb dX11_nextOf_72 rfl (lv_at hl 5 rfl) ?_
        refine lv_goto (tgt := 77) hx hb dX11_nextOf_73 (by decide) ?_
        refine lv_istore_n (lv' := [(2, .int (nI i)), (6, .long (bad xk (bwt (mW mE mB mTb mTr hab sp tu kn) mE j 0) (tot (mW mE mB mTb mTr hab sp tu kn) mE (-1) 0))), (4, .long (bad xk (bwt (mW mE mB mTb mTr hab sp tu kn) mE i 0) (tot (mW mE mB mTb mTr hab sp tu kn) mE (-1) 0))), (0, .ref mo), (1, .int xk), (3, .int (nI i))]) hx hb dX11_nextOf_77 rfl hl (by decide) rfl (fun ls hl => ?_)
        have hl : lv_has ls 8 [(2, .int (fo (nxF xk (scM (mW mE mB mTb mTr hab sp tu kn) mE xk) mIb) (-1) (i + 1))), (6, .long (bad xk (bwt (mW mE mB mTb mTr hab sp tu kn) mE j 0) (tot (mW mE mB mTb mTr hab sp tu kn) mE (-1) 0))), (4, .long (bad xk (bwt (mW mE mB mTb mTr hab sp tu kn) mE i 0) (tot (mW mE mB mTb mTr hab sp tu kn) mE (-1) 0))), (0, .ref mo), (1, .int xk), (3, .int (nI i))] := lv_val hl 0 rfl (congrArg Value.int (show nI i = fo (nxF xk (scM (mW mE mB mTb mTr hab sp tu kn) mE xk) mIb) (-1) (i + 1) from by rw [fo_s]; exact (nx_2 (k := xk) (sc := scM (mW mE mB mTb mTr hab sp tu kn) mE xk) (ib := mIb) (e := i) c17 ej (by omega) c55).symm))
        exact hJ78   ls (lv_sub hl [3, 4, 0, 5] rfl)
       ·refine lv_iload_n hx hb dX11_nextOf_59 rfl (lv_at hl 3 rfl) ?_
        refine lv_iconst (v := nI 4) hx hb dX11_nextOf_60 (by decide) ?_
        refine lv_icmp_ne (tgt := 76) hx hb dX11_nextOf_61 (by decide) (fun c61 => ?_) (fun c61 => ?_)
        ·refine lv_iload_n hx hb dX11_nextOf_76 rfl (lv_at hl 4 rfl) ?_
         refine lv_istore_n (lv' := [(2, .int (fo (nxF xk (scM (mW mE mB mTb mTr hab sp tu kn) mE xk) mIb) (-1) i)), (6, .long (bad xk (bwt (mW mE mB mTb mTr hab sp tu kn) mE j 0) (tot (mW mE mB mTb mTr hab sp tu kn) mE (-1) 0))), (4, .long (bad xk (bwt (mW mE mB mTb mTr hab sp tu kn) mE i 0) (tot (mW mE mB mTb mTr hab sp tu kn) mE (-1) 0))), (0, .ref mo), (1, .int xk), (3, .int (nI i))]) hx hb dX11_nextOf_77 rfl hl (by decide) rfl (fun ls hl => ?_)
         have hl : lv_has ls 8 [(2, .int (fo (nxF xk (scM (mW mE mB mTb mTr hab sp tu kn) mE xk) mIb) (-1) (i + 1))), (6, .long (bad xk (bwt (mW mE mB mTb mTr hab sp tu kn) mE j 0) (tot (mW mE mB mTb mTr hab sp tu kn) mE (-1) 0))), (4, .long (bad xk (bwt (mW mE mB mTb mTr hab sp tu kn) mE i 0) (tot (mW mE mB mTb mTr hab sp tu kn) mE (-1) 0))), (0, .ref mo), (1, .int xk), (3, .int (nI i))] := lv_val hl 0 rfl (congrArg Value.int (show fo (nxF xk (scM (mW mE mB mTb mTr hab sp tu kn) mE xk) mIb) (-1) i = fo (nxF xk (scM (mW mE mB mTb mTr hab sp tu kn) mE xk) mIb) (-1) (i + 1) from by rw [fo_s]; exact (nx_4 (k := xk) (sc := scM (mW mE mB mTb mTr hab sp tu kn) mE xk) (ib := mIb) (e := i) c17 c30 ej (by omega) c55 c61).symm))
         exact hJ78   ls (lv_sub hl [3, 4, 0, 5] rfl)
        ·refine lv_lload hx hb dX11_nextOf_64 (lv_at hl 1 rfl) ?_
         refine lv_lload hx hb dX11_nextOf_66 (lv_at hl 0 rfl) ?_
         refine lc_ne (tgt := 76) hx hb dX11_nextOf_68 dX11_nextOf_69 (by decide) (fun c68 => ?_) (fun c68 => ?_)
         ·refine lv_iload_n hx hb dX11_nextOf_76 rfl (lv_at hl 4 rfl) ?_
          refine lv_istore_n (lv' := [(2, .int (fo (nxF xk (scM (mW mE mB mTb mTr hab sp tu kn) mE xk) mIb) (-1) i)), (6, .long (bad xk (bwt (mW mE mB mTb mTr hab sp tu kn) mE j 0) (tot (mW mE mB mTb mTr hab sp tu kn) mE (-1) 0))), (4, .long (bad xk (bwt (mW mE mB mTb mTr hab sp tu kn) mE i 0) (tot (mW mE mB mTb mTr hab sp tu kn) mE (-1) 0))), (0, .ref mo), (1, .int xk), (3, .int (nI i))]) hx hb dX11_nextOf_77 rfl hl (by decide) rfl (fun ls hl => ?_)
          have hl : lv_has ls 8 [(2, .int (fo (nxF xk (scM (mW mE mB mTb mTr hab sp tu kn) mE xk) mIb) (-1) (i + 1))), (6, .long (bad xk (bwt (mW mE mB mTb mTr hab sp tu kn) mE j 0) (tot (mW mE mB mTb mTr hab sp tu kn) mE (-1) 0))), (4, .long (bad xk (bwt (mW mE mB mTb mTr hab sp tu kn) mE i 0) (tot (mW mE mB mTb mTr hab sp tu kn) mE (-1) 0))), (0, .ref mo), (1, .int xk), (3, .int (nI i))] := lv_val hl 0 rfl (congrArg Value.int (show fo (nxF xk (scM (mW mE mB mTb mTr hab sp tu kn) mE xk) mIb) (-1) i = fo (nxF xk (scM (mW mE mB mTb mTr hab sp tu kn) mE xk) mIb) (-1) (i + 1) from by rw [fo_s]; exact (nx_5 (k := xk) (sc := scM (mW mE mB mTb mTr hab sp tu kn) mE xk) (ib := mIb) (e := i) c17 c30 ej (by omega) c55 c68).symm))
          exact hJ78   ls (lv_sub hl [3, 4, 0, 5] rfl)
         ·refine lv_iload_n hx hb dX11_nextOf_72 rfl (lv_at hl 5 rfl) ?_
          refine lv_goto (tgt := 77) hx hb dX11_nextOf_73 (by decide) ?_
          refine lv_istore_n (lv' := [(2, .int (nI i)), (6, .long (bad xk (bwt (mW mE mB mTb mTr hab sp tu kn) mE j 0) (tot (mW mE mB mTb mTr hab sp tu kn) mE (-1) 0))), (4, .long (bad xk (bwt (mW mE mB mTb mTr hab sp tu kn) mE i 0) (tot (mW mE mB mTb mTr hab sp tu kn) mE (-1) 0))), (0, .ref mo), (1, .int xk), (3, .int (nI i))]) hx hb dX11_nextOf_77 rfl hl (by decide) rfl (fun ls hl => ?_)
          have hl : lv_has ls 8 [(2, .int (fo (nxF xk (scM (mW mE mB mTb mTr hab sp tu kn) mE xk) mIb) (-1) (i + 1))), (6, .long (bad xk (bwt (mW mE mB mTb mTr hab sp tu kn) mE j 0) (tot (mW mE mB mTb mTr hab sp tu kn) mE (-1) 0))), (4, .long (bad xk (bwt (mW mE mB mTb mTr hab sp tu kn) mE i 0) (tot (mW mE mB mTb mTr hab sp tu kn) mE (-1) 0))), (0, .ref mo), (1, .int xk), (3, .int (nI i))] := lv_val hl 0 rfl (congrArg Value.int (show nI i = fo (nxF xk (scM (mW mE mB mTb mTr hab sp tu kn) mE xk) mIb) (-1) (i + 1) from by rw [fo_s]; exact (nx_3 (k := xk) (sc := scM (mW mE mB mTb mTr hab sp tu kn) mE xk) (ib := mIb) (e := i) c17 ej (by omega) c61 c68).symm))
          exact hJ78   ls (lv_sub hl [3, 4, 0, 5] rfl)
      ·refine lv_lload hx hb dX11_nextOf_33 (lv_at hl 0 rfl) ?_
       refine lv_goto (tgt := 44) hx hb dX11_nextOf_35 (by decide) ?_
       refine lv_lstore (lv' := [(6, .long (bad xk (bwt (mW mE mB mTb mTr hab sp tu kn) mE i 0) (tot (mW mE mB mTb mTr hab sp tu kn) mE (-1) 0))), (4, .long (bad xk (bwt (mW mE mB mTb mTr hab sp tu kn) mE i 0) (tot (mW mE mB mTb mTr hab sp tu kn) mE (-1) 0))), (0, .ref mo), (1, .int xk), (2, .int (fo (nxF xk (scM (mW mE mB mTb mTr hab sp tu kn) mE xk) mIb) (-1) i)), (3, .int (nI i))]) hx hb dX11_nextOf_44 hl (by decide) rfl (fun ls hl => ?_)
       refine lv_iload_n hx hb dX11_nextOf_46 rfl (lv_at hl 4 rfl) ?_
       refine lv_iconst (v := (-1)) hx hb dX11_nextOf_47 (by decide) ?_
       refine lv_icmp_eq (tgt := 72) hx hb dX11_nextOf_48 (by decide) (fun _ => ?_) (fun hz => absurd (c30) hz)
       refine lv_iload_n hx hb dX11_nextOf_72 rfl (lv_at hl 5 rfl) ?_
       refine lv_goto (tgt := 77) hx hb dX11_nextOf_73 (by decide) ?_
       refine lv_istore_n (lv' := [(2, .int (nI i)), (6, .long (bad xk (bwt (mW mE mB mTb mTr hab sp tu kn) mE i 0) (tot (mW mE mB mTb mTr hab sp tu kn) mE (-1) 0))), (4, .long (bad xk (bwt (mW mE mB mTb mTr hab sp tu kn) mE i 0) (tot (mW mE mB mTb mTr hab sp tu kn) mE (-1) 0))), (0, .ref mo), (1, .int xk), (3, .int (nI i))]) hx hb dX11_nextOf_77 rfl hl (by decide) rfl (fun ls hl => ?_)
       have hl : lv_has ls 8 [(2, .int (fo (nxF xk (scM (mW mE mB mTb mTr hab sp tu kn) mE xk) mIb) (-1) (i + 1))), (6, .long (bad xk (bwt (mW mE mB mTb mTr hab sp tu kn) mE i 0) (tot (mW mE mB mTb mTr hab sp tu kn) mE (-1) 0))), (4, .long (bad xk (bwt (mW mE mB mTb mTr hab sp tu kn) mE i 0) (tot (mW mE mB mTb mTr hab sp tu kn) mE (-1) 0))), (0, .ref mo), (1, .int xk), (3, .int (nI i))] := lv_val hl 0 rfl (congrArg Value.int (show nI i = fo (nxF xk (scM (mW mE mB mTb mTr hab sp tu kn) mE xk) mIb) (-1) (i + 1) from by rw [fo_s]; exact (nx_1 (k := xk) (sc := scM (mW mE mB mTb mTr hab sp tu kn) mE xk) (ib := mIb) (e := i) c17 c30).symm))
       exact hJ78   ls (lv_sub hl [3, 4, 0, 5] rfl)
  exact hL4 _ 0 (Nat.lt_succ_self _) (by first | assumption | exact Nat.zero_le _ | omega) ls (lv_sub hl [2, 3, 1, 0] rfl)

set_option maxHeartbeats 4000000 in
set_option maxRecDepth 100000 in
/-- BoiledEggsModel.trierNow  -/
theorem k_X11_trierNow (l : Launch) (g : GG) (mo : Nat) (mE : Nat) (mKi : Nat) (mB : Nat) (mTb : Nat) (mTr : Nat) (mFa : Nat) (aHab : Nat) (mIb : Nat) (mS : Nat) (aSp : Nat) (aTu : Nat) (aKn : Nat) (mT : Nat) (aKd : Nat) (mAs : Nat) (mPl : Nat) (aPg : Nat) (aWo : Nat) (aWs : Nat) (aMe : Nat) (mBf : Int32) (aBw : Nat) (mSd : Int64) (mIk : Int32) (mKk : Nat) (mKb : Nat) (mKs : Nat) (mKt : Nat) (aKsp : Nat) (aKtu : Nat) (aKkn : Nat) (mH : Int64) (hab : Nat → Nat) (sp : Nat → Nat) (tu : Nat → Nat) (kn : Nat → Int32) (kd : Nat → Nat) (xt : Nat) (xq : Int32) (hok : wOK mE mTb mTr hab sp tu) (hB0 : mB < 1000) (hib : mIb < 64) (ht4 : xt < 4) : Met l yX11_trierNow wsX11_trierNow ({ frames := 6, cells := 0, slots := 0, locals := 155 }) (pS g [.ref mo, .int (nI xt), .int xq] [(mo, .inr (11, [.int (nI mE), .int (nI mKi), .int (nI mB), .int (nI mTb), .int (nI mTr), .int (nI mFa), .ref aHab, .int (nI mIb), .int (nI mS), .ref aSp, .ref aTu, .ref aKn, .int (nI mT), .ref aKd, .int (nI mAs), .int (nI mPl), .ref aPg, .ref aWo, .ref aWs, .ref aMe, .int mBf, .ref aBw, .long mSd, .int mIk, .int (nI mKk), .int (nI mKb), .int (nI mKs), .int (nI mKt), .ref aKsp, .ref aKtu, .ref aKkn, .long mH])), (aHab, .inl (g.2.1, 6, .inl (fun j => nI (hab j)))), (aSp, .inl (g.2.1, 6, .inl (fun j => nI (sp j)))), (aTu, .inl (g.2.1, 6, .inl (fun j => nI (tu j)))), (aKn, .inl (g.2.1, 6, .inl kn)), (aKd, .inl (g.2.1, 4, .inl (fun j => nI (kd j))))]) (vp_Si (fun r => r = (trNow (mW mE mB mTb mTr hab sp tu kn) mE mIb (nI (kd xt)) xq))) 0 0 noF := by
  refine metS (cc := cX11_trierNow) (maxL := 3) (ret := (some .int)) (by decide) rfl (Nat.le_of_ble_eq_true rfl) ?_
  intro p e s m below meth c hx hb hr hts hown hlocks hml hC hP ls hl
  have hl : lv_has ls 3 [(0, .ref mo), (1, .int (nI xt)), (2, .int xq)] := hl
  have hown : s.vm.findClass RX11 = some m.cls := hown
  have hts : ∀ w ∈ wsX11_trierNow, w.before ([.ref mo, .int (nI xt), .int xq] : List Value).toArray s = true := hts
  have hinX11 := (by decide +kernel : ∀ w ∈ u_ws RX11 TX11 32, w ∈ wsX11_trierNow)
  have f22 := hts (.fieldLink RX11 22 "BoiledEggsModel" "kindOf" "[I") (by decide +kernel)
  refine lv_iload_n hx hb dX11_trierNow_0 rfl (lv_at hl 2 rfl) ?_
  refine lv_if_ne (tgt := 13) hx hb dX11_trierNow_1 (by decide) (fun c1 => ?_) (fun c1 => ?_)
  ·refine lv_aload_n hx hb dX11_trierNow_13 rfl (lv_at hl 0 rfl) ?_
   refine lv_aload_n hx hb dX11_trierNow_14 rfl (lv_at hl 0 rfl) ?_
   refine va_get (D := g.1) (ci := 11) (v := .ref aKd) (C := RX11) (T := TX11) (N := 32) hx hb hts hinX11 hown hC.1 hP 0 rfl rfl 13 (by decide) f22 (fun _ h9 => h9) rfl dX11_trierNow_15 ?_
   refine lv_iload_n hx hb dX11_trierNow_18 rfl (lv_at hl 1 rfl) ?_
   refine ald_i (f := fun j => nI (kd j)) (j := xt) hx hb hC hP 5 rfl (by omega) (by decide) dX11_trierNow_19 ?_
   refine goSi (T := nxt (mW mE mB mTb mTr hab sp tu kn) mE mIb (nI (kd xt))) (va_runV (As := [.int (nI (kd xt))]) (rest := []) ⟨hx, hb, hml, hown, hts⟩ (k_X11_nextOf l g mo mE mKi mB mTb mTr mFa aHab mIb mS aSp aTu aKn mT aKd mAs mPl aPg aWo aWs aMe mBf aBw mSd mIk mKk mKb mKs mKt aKsp aKtu aKkn mH hab sp tu kn (nI (kd xt)) (by first | assumption | exact Nat.zero_le _ | omega) (by first | assumption | exact Nat.zero_le _ | omega) (by first | assumption | exact Nat.zero_le _ | omega)) (cwV 1 hts gX11_trierNow_X11_nextOf rfl rfl rfl ⟨rfl, hdX11_nextOf⟩ ⟨Nat.le_of_ble_eq_true rfl, Nat.le_of_ble_eq_true rfl⟩) (preVS hC (hP.sub [0, 1, 2, 3, 4] rfl) (va_recv hC.1 hP (ci := 11) (q0 := 0) rfl rfl)) rfl rfl hl.1 rfl (lv_room (Nat.le_of_ble_eq_true rfl)) dX11_trierNow_20 ⟨Nat.le_of_ble_eq_true rfl, Nat.le_of_ble_eq_true rfl⟩) ?_
   exact retSi hx hb hr hlocks (by first | rw [trNow, if_pos c1] | rw [trNow, if_neg c1]) dX11_trierNow_23
  ·refine lv_aload_n hx hb dX11_trierNow_4 rfl (lv_at hl 0 rfl) ?_
   refine va_get (D := g.1) (ci := 11) (v := .ref aKd) (C := RX11) (T := TX11) (N := 32) hx hb hts hinX11 hown hC.1 hP 0 rfl rfl 13 (by decide) f22 (fun _ h9 => h9) rfl dX11_trierNow_5 ?_
   refine lv_iload_n hx hb dX11_trierNow_8 rfl (lv_at hl 1 rfl) ?_
   refine ald_i (f := fun j => nI (kd j)) (j := xt) hx hb hC hP 5 rfl (by omega) (by decide) dX11_trierNow_9 ?_
   refine lv_goto (tgt := 23) hx hb dX11_trierNow_10 (by decide) ?_
   exact retSi hx hb hr hlocks (by first | rw [trNow, if_pos c1] | rw [trNow, if_neg c1]) dX11_trierNow_23

set_option maxHeartbeats 4000000 in
set_option maxRecDepth 100000 in
/-- BoiledEggsModel.about  -/
theorem k_X11_about (l : Launch) (g : GG) (mo : Nat) (mE : Nat) (mKi : Nat) (mB : Nat) (mTb : Nat) (mTr : Nat) (mFa : Nat) (aHab : Nat) (mIb : Nat) (mS : Nat) (aSp : Nat) (aTu : Nat) (aKn : Nat) (mT : Nat) (aKd : Nat) (mAs : Nat) (mPl : Nat) (aPg : Nat) (aWo : Nat) (aWs : Nat) (aMe : Nat) (mBf : Int32) (aBw : Nat) (mSd : Int64) (mIk : Int32) (mKk : Nat) (mKb : Nat) (mKs : Nat) (mKt : Nat) (aKsp : Nat) (aKtu : Nat) (aKkn : Nat) (mH : Int64) (hab : Nat → Nat) (sp : Nat → Nat) (tu : Nat → Nat) (kn : Nat → Int32) (kd : Nat → Nat) (xt : Int32) (xq : Int32) (hok : wOK mE mTb mTr hab sp tu) (hB0 : mB < 1000) (hib : mIb < 64) (hT : mT ≤ 4) : Met l yX11_about wsX11_about ({ frames := 7, cells := 0, slots := 0, locals := 177 }) (pS g [.ref mo, .int xt, .int xq] [(mo, .inr (11, [.int (nI mE), .int (nI mKi), .int (nI mB), .int (nI mTb), .int (nI mTr), .int (nI mFa), .ref aHab, .int (nI mIb), .int (nI mS), .ref aSp, .ref aTu, .ref aKn, .int (nI mT), .ref aKd, .int (nI mAs), .int (nI mPl), .ref aPg, .ref aWo, .ref aWs, .ref aMe, .int mBf, .ref aBw, .long mSd, .int mIk, .int (nI mKk), .int (nI mKb), .int (nI mKs), .int (nI mKt), .ref aKsp, .ref aKtu, .ref aKkn, .long mH])), (aHab, .inl (g.2.1, 6, .inl (fun j => nI (hab j)))), (aSp, .inl (g.2.1, 6, .inl (fun j => nI (sp j)))), (aTu, .inl (g.2.1, 6, .inl (fun j => nI (tu j)))), (aKn, .inl (g.2.1, 6, .inl kn)), (aKd, .inl (g.2.1, 4, .inl (fun j => nI (kd j))))]) (vp_Si (fun r => r = (abtR (mW mE mB mTb mTr hab sp tu kn) mE mIb mT kd xt xq))) 0 0 noF := by
  refine metS (cc := cX11_about) (maxL := 3) (ret := (some .int)) (by decide) rfl (Nat.le_of_ble_eq_true rfl) ?_
  intro p e s m below meth c hx hb hr hts hown hlocks hml hC hP ls hl
  have hl : lv_has ls 3 [(0, .ref mo), (1, .int xt), (2, .int xq)] := hl
  have hown : s.vm.findClass RX11 = some m.cls := hown
  have hts : ∀ w ∈ wsX11_about, w.before ([.ref mo, .int xt, .int xq] : List Value).toArray s = true := hts
  refine lv_aload_n hx hb dX11_about_0 rfl (lv_at hl 0 rfl) ?_
  refine lv_iload_n hx hb dX11_about_1 rfl (lv_at hl 1 rfl) ?_
  refine goSi (T := zI (isE mT xt)) (va_runV (As := [.int xt]) (rest := []) ⟨hx, hb, hml, hown, hts⟩ (k_X11_isTrier l g mo mE mKi mB mTb mTr mFa aHab mIb mS aSp aTu aKn mT aKd mAs mPl aPg aWo aWs aMe mBf aBw mSd mIk mKk mKb mKs mKt aKsp aKtu aKkn mH xt (by first | assumption | exact Nat.zero_le _ | omega)) (cwV 1 hts gX11_about_X11_isTrier rfl rfl rfl ⟨rfl, hdX11_isTrier⟩ ⟨Nat.le_of_ble_eq_true rfl, Nat.le_of_ble_eq_true rfl⟩) (preVS hC (hP.sub [0] rfl) (va_recv hC.1 hP (ci := 11) (q0 := 0) rfl rfl)) rfl rfl hl.1 rfl (lv_room (Nat.le_of_ble_eq_true rfl)) dX11_about_2 ⟨Nat.le_of_ble_eq_true rfl, Nat.le_of_ble_eq_true rfl⟩) ?_
  refine lv_if_ne (tgt := 13) hx hb dX11_about_5 (by decide) (fun c5 => ?_) (fun c5 => ?_)
  ·have c5 := zI_t.mp c5
   obtain ⟨k, hk, rfl⟩ := isE_t c5
   refine lv_iload_n hx hb dX11_about_13 rfl (lv_at hl 2 rfl) ?_
   refine lv_iconst (v := nI 0) hx hb dX11_about_14 (by decide) ?_
   refine lv_iconst (v := nI 1) hx hb dX11_about_15 (by decide) ?_
   refine goSi (T := zI (wth xq (nI 0) (nI 1))) (va_runS (As := [.int xq, .int (nI 0), .int (nI 1)]) (rest := []) ⟨hx, hb, hml, hown, hts⟩ (k_X11_within l g xq (nI 0) (nI 1) ) (va_cwS 3 hts gX11_about_X11_within rfl rfl rfl hdX11_within ⟨Nat.le_of_ble_eq_true rfl, Nat.le_of_ble_eq_true rfl⟩) (preSS hC (hP.sub [] rfl)) rfl rfl hl.1 rfl (lv_room (Nat.le_of_ble_eq_true rfl)) dX11_about_16 ⟨Nat.le_of_ble_eq_true rfl, Nat.le_of_ble_eq_true rfl⟩) ?_
   refine lv_if_eq (tgt := 31) hx hb dX11_about_19 (by decide) (fun c19 => ?_) (fun c19 => ?_)
   ·have c19 := zI_f.mp c19
    refine lv_bipush (v := (-102)) hx hb dX11_about_31 (by decide) ?_
    exact retSi hx hb hr hlocks (by first | rw [abtR, if_pos c5, if_pos c19, ix_nI (by omega)] | rw [abtR, if_pos c5, if_neg (by rw [c19]; decide)] | rw [abtR, if_neg (by rw [c5]; decide)]) dX11_about_33
   ·have c19 := zI_t.mp c19
    refine lv_aload_n hx hb dX11_about_22 rfl (lv_at hl 0 rfl) ?_
    refine lv_iload_n hx hb dX11_about_23 rfl (lv_at hl 1 rfl) ?_
    refine lv_iload_n hx hb dX11_about_24 rfl (lv_at hl 2 rfl) ?_
    refine goSi (T := trNow (mW mE mB mTb mTr hab sp tu kn) mE mIb (nI (kd k)) xq) (va_runV (As := [.int (nI k), .int xq]) (rest := []) ⟨hx, hb, hml, hown, hts⟩ (k_X11_trierNow l g mo mE mKi mB mTb mTr mFa aHab mIb mS aSp aTu aKn mT aKd mAs mPl aPg aWo aWs aMe mBf aBw mSd mIk mKk mKb mKs mKt aKsp aKtu aKkn mH hab sp tu kn kd k xq (by first | assumption | exact Nat.zero_le _ | omega) (by first | assumption | exact Nat.zero_le _ | omega) (by first | assumption | exact Nat.zero_le _ | omega) (by first | assumption | exact Nat.zero_le _ | omega)) (cwV 2 hts gX11_about_X11_trierNow rfl rfl rfl ⟨rfl, hdX11_trierNow⟩ ⟨Nat.le_of_ble_eq_true rfl, Nat.le_of_ble_eq_true rfl⟩) (preVS hC (hP.sub [0, 1, 2, 3, 4, 5] rfl) (va_recv hC.1 hP (ci := 11) (q0 := 0) rfl rfl)) rfl rfl hl.1 rfl (lv_room (Nat.le_of_ble_eq_true rfl)) dX11_about_25 ⟨Nat.le_of_ble_eq_true rfl, Nat.le_of_ble_eq_true rfl⟩) ?_
    refine lv_goto (tgt := 33) hx hb dX11_about_28 (by decide) ?_
    exact retSi hx hb hr hlocks (by first | rw [abtR, if_pos c5, if_pos c19, ix_nI (by omega)] | rw [abtR, if_pos c5, if_neg (by rw [c19]; decide)] | rw [abtR, if_neg (by rw [c5]; decide)]) dX11_about_33
  ·have c5 := zI_f.mp c5
   refine lv_bipush (v := (-101)) hx hb dX11_about_8 (by decide) ?_
   refine lv_goto (tgt := 33) hx hb dX11_about_10 (by decide) ?_
   exact retSi hx hb hr hlocks (by first | rw [abtR, if_pos c5, if_pos c19, ix_nI (by omega)] | rw [abtR, if_pos c5, if_neg (by rw [c19]; decide)] | rw [abtR, if_neg (by rw [c5]; decide)]) dX11_about_33

set_option maxHeartbeats 4000000 in
set_option maxRecDepth 100000 in
/-- BoiledEggsModel.as  -/
theorem k_X11_as (l : Launch) (g : GG) (mo : Nat) (mE : Nat) (mKi : Nat) (mB : Nat) (mTb : Nat) (mTr : Nat) (mFa : Nat) (aHab : Nat) (mIb : Nat) (mS : Nat) (aSp : Nat) (aTu : Nat) (aKn : Nat) (mT : Nat) (aKd : Nat) (mAs : Nat) (mPl : Nat) (aPg : Nat) (aWo : Nat) (aWs : Nat) (aMe : Nat) (mBf : Int32) (aBw : Nat) (mSd : Int64) (mIk : Int32) (mKk : Nat) (mKb : Nat) (mKs : Nat) (mKt : Nat) (aKsp : Nat) (aKtu : Nat) (aKkn : Nat) (mH : Int64) (kd : Nat → Nat) (xt : Int32) (xk : Int32) (hT : mT ≤ 4) : Met l yX11_as wsX11_as ({ frames := 2, cells := 0, slots := 0, locals := 43 }) (pS g [.ref mo, .int xt, .int xk] [(mo, .inr (11, [.int (nI mE), .int (nI mKi), .int (nI mB), .int (nI mTb), .int (nI mTr), .int (nI mFa), .ref aHab, .int (nI mIb), .int (nI mS), .ref aSp, .ref aTu, .ref aKn, .int (nI mT), .ref aKd, .int (nI mAs), .int (nI mPl), .ref aPg, .ref aWo, .ref aWs, .ref aMe, .int mBf, .ref aBw, .long mSd, .int mIk, .int (nI mKk), .int (nI mKb), .int (nI mKs), .int (nI mKt), .ref aKsp, .ref aKtu, .ref aKkn, .long mH])), (aKd, .inl (g.2.1, 4, .inl (fun j => nI (kd j))))]) (vp_Si (fun r => r = (asR mT kd xt xk))) 0 0 noF := by
  refine metS (cc := cX11_as) (maxL := 4) (ret := (some .int)) (by decide) rfl (Nat.le_of_ble_eq_true rfl) ?_
  intro p e s m below meth c hx hb hr hts hown hlocks hml hC hP ls hl
  have hl : lv_has ls 4 [(0, .ref mo), (1, .int xt), (2, .int xk)] := hl
  have hown : s.vm.findClass RX11 = some m.cls := hown
  have hts : ∀ w ∈ wsX11_as, w.before ([.ref mo, .int xt, .int xk] : List Value).toArray s = true := hts
  have hinX11 := (by decide +kernel : ∀ w ∈ u_ws RX11 TX11 32, w ∈ wsX11_as)
  have f22 := hts (.fieldLink RX11 22 "BoiledEggsModel" "kindOf" "[I") (by decide +kernel)
  refine lv_aload_n hx hb dX11_as_0 rfl (lv_at hl 0 rfl) ?_
  refine lv_iload_n hx hb dX11_as_1 rfl (lv_at hl 1 rfl) ?_
  refine goSi (T := zI (isE mT xt)) (va_runV (As := [.int xt]) (rest := []) ⟨hx, hb, hml, hown, hts⟩ (k_X11_isTrier l g mo mE mKi mB mTb mTr mFa aHab mIb mS aSp aTu aKn mT aKd mAs mPl aPg aWo aWs aMe mBf aBw mSd mIk mKk mKb mKs mKt aKsp aKtu aKkn mH xt (by first | assumption | exact Nat.zero_le _ | omega)) (cwV 1 hts gX11_as_X11_isTrier rfl rfl rfl ⟨rfl, hdX11_isTrier⟩ ⟨Nat.le_of_ble_eq_true rfl, Nat.le_of_ble_eq_true rfl⟩) (preVS hC (hP.sub [0] rfl) (va_recv hC.1 hP (ci := 11) (q0 := 0) rfl rfl)) rfl rfl hl.1 rfl (lv_room (Nat.le_of_ble_eq_true rfl)) dX11_as_2 ⟨Nat.le_of_ble_eq_true rfl, Nat.le_of_ble_eq_true rfl⟩) ?_
  refine lv_if_ne (tgt := 11) hx hb dX11_as_5 (by decide) (fun c5 => ?_) (fun c5 => ?_)
  ·have c5 := zI_t.mp c5
   obtain ⟨k, hk, rfl⟩ := isE_t c5
   refine lv_iload_n hx hb dX11_as_11 rfl (lv_at hl 2 rfl) ?_
   refine lv_iconst (v := nI 0) hx hb dX11_as_12 (by decide) ?_
   refine lv_iconst (v := nI 4) hx hb dX11_as_13 (by decide) ?_
   refine goSi (T := zI (wth xk (nI 0) (nI 4))) (va_runS (As := [.int xk, .int (nI 0), .int (nI 4)]) (rest := []) ⟨hx, hb, hml, hown, hts⟩ (k_X11_within l g xk (nI 0) (nI 4) ) (va_cwS 3 hts gX11_as_X11_within rfl rfl rfl hdX11_within ⟨Nat.le_of_ble_eq_true rfl, Nat.le_of_ble_eq_true rfl⟩) (preSS hC (hP.sub [] rfl)) rfl rfl hl.1 rfl (lv_room (Nat.le_of_ble_eq_true rfl)) dX11_as_14 ⟨Nat.le_of_ble_eq_true rfl, Nat.le_of_ble_eq_true rfl⟩) ?_
   refine lv_if_ne (tgt := 23) hx hb dX11_as_17 (by decide) (fun c17 => ?_) (fun c17 => ?_)
   ·have c17 := zI_t.mp c17
    refine lv_aload_n hx hb dX11_as_23 rfl (lv_at hl 0 rfl) ?_
    refine va_get (D := g.1) (ci := 11) (v := .ref aKd) (C := RX11) (T := TX11) (N := 32) hx hb hts hinX11 hown hC.1 hP 0 rfl rfl 13 (by decide) f22 (fun _ h9 => h9) rfl dX11_as_24 ?_
    refine lv_iload_n hx hb dX11_as_27 rfl (lv_at hl 1 rfl) ?_
    refine ald_i (f := fun j => nI (kd j)) (j := k) hx hb hC hP 1 rfl (by omega) (by decide) dX11_as_28 ?_
    refine lv_istore_n (lv' := [(3, .int (nI (kd k))), (0, .ref mo), (1, .int (nI k)), (2, .int xk)]) hx hb dX11_as_29 rfl hl (by decide) rfl (fun ls hl => ?_)
    refine lv_iload_n hx hb dX11_as_30 rfl (lv_at hl 3 rfl) ?_
    refine lv_if_eq (tgt := 49) hx hb dX11_as_31 (by decide) (fun c31 => ?_) (fun c31 => ?_)
    ·refine lv_iload_n hx hb dX11_as_49 rfl (lv_at hl 2 rfl) ?_
     refine lv_goto (tgt := 54) hx hb dX11_as_50 (by decide) ?_
     exact retSi hx hb hr hlocks (by rw [asR, if_pos c5, if_pos c17, ix_nI (by omega)]; exact (if_pos (decide_eq_true (Or.inl c31))).symm) dX11_as_54
    ·refine lv_iload_n hx hb dX11_as_34 rfl (lv_at hl 0 rfl) ?_
     refine lv_iload_n hx hb dX11_as_35 rfl (lv_at hl 3 rfl) ?_
     refine lv_icmp_eq (tgt := 49) hx hb dX11_as_36 (by decide) (fun c36 => ?_) (fun c36 => ?_)
     ·refine lv_iload_n hx hb dX11_as_49 rfl (lv_at hl 2 rfl) ?_
      refine lv_goto (tgt := 54) hx hb dX11_as_50 (by decide) ?_
      exact retSi hx hb hr hlocks (by rw [asR, if_pos c5, if_pos c17, ix_nI (by omega)]; exact (if_pos (decide_eq_true (Or.inr (Or.inl c36)))).symm) dX11_as_54
     ·refine lv_iload_n hx hb dX11_as_39 rfl (lv_at hl 3 rfl) ?_
      refine lv_iconst (v := nI 3) hx hb dX11_as_40 (by decide) ?_
      refine lv_icmp_ne (tgt := 53) hx hb dX11_as_41 (by decide) (fun c41 => ?_) (fun c41 => ?_)
      ·refine lv_iconst (v := (-1)) hx hb dX11_as_53 (by decide) ?_
       exact retSi hx hb hr hlocks (by rw [asR, if_pos c5, if_pos c17, ix_nI (by omega)]; exact (if_neg (fun h9 => (of_decide_eq_true h9).elim c31 (fun h9 => h9.elim c36 (fun h9 => c41 h9.1)))).symm) dX11_as_54
      ·refine lv_iload_n hx hb dX11_as_44 rfl (lv_at hl 0 rfl) ?_
       refine lv_iconst (v := nI 4) hx hb dX11_as_45 (by decide) ?_
       refine lv_icmp_ne (tgt := 53) hx hb dX11_as_46 (by decide) (fun c46 => ?_) (fun c46 => ?_)
       ·refine lv_iconst (v := (-1)) hx hb dX11_as_53 (by decide) ?_
        exact retSi hx hb hr hlocks (by rw [asR, if_pos c5, if_pos c17, ix_nI (by omega)]; exact (if_neg (fun h9 => (of_decide_eq_true h9).elim c31 (fun h9 => h9.elim c36 (fun h9 => c46 h9.2)))).symm) dX11_as_54
       ·refine lv_iload_n hx hb dX11_as_49 rfl (lv_at hl 2 rfl) ?_
        refine lv_goto (tgt := 54) hx hb dX11_as_50 (by decide) ?_
        exact retSi hx hb hr hlocks (by rw [asR, if_pos c5, if_pos c17, ix_nI (by omega)]; exact (if_pos (decide_eq_true (Or.inr (Or.inr ⟨c41, c46⟩)))).symm) dX11_as_54
   ·have c17 := zI_f.mp c17
    refine lv_bipush (v := (-102)) hx hb dX11_as_20 (by decide) ?_
    exact retSi hx hb hr hlocks (by rw [asR, if_pos c5, if_neg (by rw [c17]; decide)]) dX11_as_22
  ·have c5 := zI_f.mp c5
   refine lv_bipush (v := (-101)) hx hb dX11_as_8 (by decide) ?_
   exact retSi hx hb hr hlocks (by rw [asR, if_neg (by rw [c5]; decide)]) dX11_as_10

set_option maxHeartbeats 4000000 in
set_option maxRecDepth 100000 in
/-- BoiledEggsModel.fitsNow  -/
theorem k_X11_fitsNow (l : Launch) (g : GG) (mo : Nat) (mE : Nat) (mKi : Nat) (mB : Nat) (mTb : Nat) (mTr : Nat) (mFa : Nat) (aHab : Nat) (mIb : Nat) (mS : Nat) (aSp : Nat) (aTu : Nat) (aKn : Nat) (mT : Nat) (aKd : Nat) (mAs : Nat) (mPl : Nat) (aPg : Nat) (aWo : Nat) (aWs : Nat) (aMe : Nat) (mBf : Int32) (aBw : Nat) (mSd : Int64) (mIk : Int32) (mKk : Nat) (mKb : Nat) (mKs : Nat) (mKt : Nat) (aKsp : Nat) (aKtu : Nat) (aKkn : Nat) (mH : Int64) (hab : Nat → Nat) (sp : Nat → Nat) (tu : Nat → Nat) (kn : Nat → Int32) (xq : Int32) (hok : wOK mE mTb mTr hab sp tu) (hB0 : mB < 1000) (hw : ∀ b, (mW mE mB mTb mTr hab sp tu kn) b (-1) 0 < 2 ^ 60) : Met l yX11_fitsNow wsX11_fitsNow ({ frames := 3, cells := 0, slots := 0, locals := 75 }) (pS g [.ref mo, .int xq] [(mo, .inr (11, [.int (nI mE), .int (nI mKi), .int (nI mB), .int (nI mTb), .int (nI mTr), .int (nI mFa), .ref aHab, .int (nI mIb), .int (nI mS), .ref aSp, .ref aTu, .ref aKn, .int (nI mT), .ref aKd, .int (nI mAs), .int (nI mPl), .ref aPg, .ref aWo, .ref aWs, .ref aMe, .int mBf, .ref aBw, .long mSd, .int mIk, .int (nI mKk), .int (nI mKb), .int (nI mKs), .int (nI mKt), .ref aKsp, .ref aKtu, .ref aKkn, .long mH])), (aHab, .inl (g.2.1, 6, .inl (fun j => nI (hab j)))), (aSp, .inl (g.2.1, 6, .inl (fun j => nI (sp j)))), (aTu, .inl (g.2.1, 6, .inl (fun j => nI (tu j)))), (aKn, .inl (g.2.1, 6, .inl kn))]) (vp_Si (fun r => r = (fitsN (w0 (mW mE mB mTb mTr hab sp tu kn)) mE xq))) 0 0 noF := by
  refine metS (cc := cX11_fitsNow) (maxL := 6) (ret := (some .int)) (by decide) rfl (Nat.le_of_ble_eq_true rfl) ?_
  intro p e s m below meth c hx hb hr hts hown hlocks hml hC hP ls hl
  have hl : lv_has ls 6 [(0, .ref mo), (1, .int xq)] := hl
  have hown : s.vm.findClass RX11 = some m.cls := hown
  have hts : ∀ w ∈ wsX11_fitsNow, w.before ([.ref mo, .int xq] : List Value).toArray s = true := hts
  obtain ⟨hE, htb, htr, htu, hsp, hha⟩ := id hok
  have h2E := p2le hE
  have hinX11 := (by decide +kernel : ∀ w ∈ u_ws RX11 TX11 32, w ∈ wsX11_fitsNow)
  have f71 := hts (.fieldLink RX11 71 "BoiledEggsModel" "eggs" "I") (by decide +kernel)
  refine lv_iconst (v := nI 0) hx hb dX11_fitsNow_0 (by decide) ?_
  refine lv_istore_n (lv' := [(2, .int (nI 0)), (0, .ref mo), (1, .int xq)]) hx hb dX11_fitsNow_1 rfl hl (by decide) rfl (fun ls hl => ?_)
  refine lv_iconst (v := nI 1) hx hb dX11_fitsNow_2 (by decide) ?_
  refine lv_aload_n hx hb dX11_fitsNow_3 rfl (lv_at hl 1 rfl) ?_
  refine va_get (D := g.1) (ci := 11) (v := .int (nI mE)) (C := RX11) (T := TX11) (N := 32) hx hb hts hinX11 hown hC.1 hP 0 rfl rfl 0 (by decide) f71 (fun _ h9 => h9) rfl dX11_fitsNow_4 ?_
  refine lv_ishl hx hb dX11_fitsNow_7 ?_
  refine top_i (y := nI (2 ^ mE)) (shl1_nI (by omega)) ?_
  refine lv_iconst (v := nI 1) hx hb dX11_fitsNow_8 (by decide) ?_
  refine lv_isub hx hb dX11_fitsNow_9 ?_
  refine top_i (y := nI (2 ^ mE - 1)) (pk_sub (Nat.one_le_two_pow)) ?_
  refine lv_istore_n (lv' := [(3, .int (nI (2 ^ mE - 1))), (2, .int (nI 0)), (0, .ref mo), (1, .int xq)]) hx hb dX11_fitsNow_10 rfl hl (by decide) rfl (fun ls hl => ?_)
  refine lv_iload_n hx hb dX11_fitsNow_11 rfl (lv_at hl 0 rfl) ?_
  refine lv_istore (lv' := [(4, .int (nI (2 ^ mE - 1))), (3, .int (nI (2 ^ mE - 1))), (2, .int (nI 0)), (0, .ref mo), (1, .int xq)]) hx hb dX11_fitsNow_12 hl (by decide) rfl (fun ls hl => ?_)
  refine lv_iconst (v := nI 0) hx hb dX11_fitsNow_14 (by decide) ?_
  refine lv_istore (lv' := [(5, .int (nI 0)), (4, .int (nI (2 ^ mE - 1))), (3, .int (nI (2 ^ mE - 1))), (2, .int (nI 0)), (0, .ref mo), (1, .int xq)]) hx hb dX11_fitsNow_15 hl (by decide) rfl (fun ls hl => ?_)
  have hL17 : ∀ (n_9 : Nat) (i : Nat), 2 ^ mE - i < n_9 → (i ≤ 2 ^ mE) → ∀ ls : Array Slot, lv_has ls 6 [(0, .ref mo), (1, .int xq), (2, .int (nI (fitM (w0 (mW mE mB mTb mTr hab sp tu kn)) i))), (3, .int (nI (fitA (w0 (mW mE mB mTb mTr hab sp tu kn)) (2 ^ mE - 1) i))), (4, .int (nI (fitN (w0 (mW mE mB mTb mTr hab sp tu kn)) (2 ^ mE - 1) i))), (5, .int (nI i))] → W p l e ({ frames := 3, cells := 0, slots := 0, locals := 75 }) s m ([.ref mo, .int xq] : List Value).toArray below meth c s.heap [] 0 0 (MQ below (vp_Si (fun r => r = (fitsN (w0 (mW mE mB mTb mTr hab sp tu kn)) mE xq))) ([.ref mo, .int xq] : List Value).toArray s 0 0 noF) (F0 m 17 ls []) := by
   intro n_9
   induction n_9 with
   | zero => intro i hn_9; exact absurd hn_9 (Nat.not_lt_zero _)
   | succ n_9 ih17 =>
    intro i hn_9 hi ls hl
    refine lv_iload hx hb dX11_fitsNow_17 (lv_at hl 5 rfl) ?_
    refine lv_iconst (v := nI 1) hx hb dX11_fitsNow_19 (by decide) ?_
    refine lv_aload_n hx hb dX11_fitsNow_20 rfl (lv_at hl 0 rfl) ?_
    refine va_get (D := g.1) (ci := 11) (v := .int (nI mE)) (C := RX11) (T := TX11) (N := 32) hx hb hts hinX11 hown hC.1 hP 0 rfl rfl 0 (by decide) f71 (fun _ h9 => h9) rfl dX11_fitsNow_21 ?_
    refine lv_ishl hx hb dX11_fitsNow_24 ?_
    refine top_i (y := nI (2 ^ mE)) (shl1_nI (by omega)) ?_
    refine lv_icmp_ge (tgt := 64) hx hb dX11_fitsNow_25 (by decide) (fun c25 => ?_) (fun c25 => ?_)
    ·have c25 : (2 ^ mE) ≤ i := (nI_leI (a := 2 ^ mE) (b := i) (by omega) (by omega)).mp c25
     refine lv_iload_n hx hb dX11_fitsNow_64 rfl (lv_at hl 1 rfl) ?_
     refine lv_if_ne (tgt := 72) hx hb dX11_fitsNow_65 (by decide) (fun c65 => ?_) (fun c65 => ?_)
     ·refine lv_iload_n hx hb dX11_fitsNow_72 rfl (lv_at hl 1 rfl) ?_
      refine lv_iconst (v := nI 1) hx hb dX11_fitsNow_73 (by decide) ?_
      refine lv_icmp_ne (tgt := 81) hx hb dX11_fitsNow_74 (by decide) (fun c74 => ?_) (fun c74 => ?_)
      ·refine lv_iload hx hb dX11_fitsNow_81 (lv_at hl 4 rfl) ?_
       exact retSi hx hb hr hlocks (by have h9 : i = 2 ^ mE := (by omega); rw [h9]; first | rw [fitsN, if_pos c65] | rw [fitsN, if_neg c65, if_pos c74] | rw [fitsN, if_neg c65, if_neg c74]) dX11_fitsNow_83
      ·refine lv_iload_n hx hb dX11_fitsNow_77 rfl (lv_at hl 3 rfl) ?_
       refine lv_goto (tgt := 83) hx hb dX11_fitsNow_78 (by decide) ?_
       exact retSi hx hb hr hlocks (by have h9 : i = 2 ^ mE := (by omega); rw [h9]; first | rw [fitsN, if_pos c65] | rw [fitsN, if_neg c65, if_pos c74] | rw [fitsN, if_neg c65, if_neg c74]) dX11_fitsNow_83
     ·refine lv_iload_n hx hb dX11_fitsNow_68 rfl (lv_at hl 2 rfl) ?_
      refine lv_goto (tgt := 83) hx hb dX11_fitsNow_69 (by decide) ?_
      exact retSi hx hb hr hlocks (by have h9 : i = 2 ^ mE := (by omega); rw [h9]; first | rw [fitsN, if_pos c65] | rw [fitsN, if_neg c65, if_pos c74] | rw [fitsN, if_neg c65, if_neg c74]) dX11_fitsNow_83
    ·have c25 : ¬ (2 ^ mE) ≤ i := fun h9 => c25 ((nI_leI (a := 2 ^ mE) (b := i) (by omega) (by omega)).mpr h9)
     have hJ58 : ∀ ls : Array Slot, lv_has ls 6 [(0, .ref mo), (1, .int xq), (2, .int (nI (fitM (w0 (mW mE mB mTb mTr hab sp tu kn)) (i + 1)))), (3, .int (nI (fitA (w0 (mW mE mB mTb mTr hab sp tu kn)) (2 ^ mE - 1) (i + 1)))), (4, .int (nI (fitN (w0 (mW mE mB mTb mTr hab sp tu kn)) (2 ^ mE - 1) (i + 1)))), (5, .int (nI i))] → W p l e ({ frames := 3, cells := 0, slots := 0, locals := 75 }) s m ([.ref mo, .int xq] : List Value).toArray below meth c s.heap [] 0 0 (MQ below (vp_Si (fun r => r = (fitsN (w0 (mW mE mB mTb mTr hab sp tu kn)) mE xq))) ([.ref mo, .int xq] : List Value).toArray s 0 0 noF) (F0 m 58 ls []) := by
      intro  ls hl
      refine lv_iinc (v := nI (i + 1)) (lv' := [(5, .int (nI (i + 1))), (0, .ref mo), (1, .int xq), (2, .int (nI (fitM (w0 (mW mE mB mTb mTr hab sp tu kn)) (i + 1)))), (3, .int (nI (fitA (w0 (mW mE mB mTb mTr hab sp tu kn)) (2 ^ mE - 1) (i + 1)))), (4, .int (nI (fitN (w0 (mW mE mB mTb mTr hab sp tu kn)) (2 ^ mE - 1) (i + 1))))]) hx hb dX11_fitsNow_58 hl (k := 5) rfl (iinc1 _) (by decide) rfl (fun ls hl => ?_)
      refine lv_goto (tgt := 17) hx hb dX11_fitsNow_61 (by decide) ?_
      exact ih17 (i + 1) (by omega) (by first | assumption | exact Nat.zero_le _ | omega) ls (lv_sub hl [1, 2, 3, 4, 5, 0] rfl)
     refine lv_aload_n hx hb dX11_fitsNow_28 rfl (lv_at hl 0 rfl) ?_
     refine lv_iload hx hb dX11_fitsNow_29 (lv_at hl 5 rfl) ?_
     refine lv_iconst (v := (-1)) hx hb dX11_fitsNow_31 (by decide) ?_
     refine lv_iconst (v := nI 0) hx hb dX11_fitsNow_32 (by decide) ?_
     refine goSl (T := lN ((mW mE mB mTb mTr hab sp tu kn) i (-1) 0)) (va_runV (As := [.int (nI i), .int (-1), .int (nI 0)]) (rest := []) ⟨hx, hb, hml, hown, hts⟩ (k_X11_weight l g mo mE mKi mB mTb mTr mFa aHab mIb mS aSp aTu aKn mT aKd mAs mPl aPg aWo aWs aMe mBf aBw mSd mIk mKk mKb mKs mKt aKsp aKtu aKkn mH hab sp tu kn i (-1) 0 (by first | assumption | exact Nat.zero_le _ | omega) (by first | assumption | exact Nat.zero_le _ | omega) (by first | assumption | exact Nat.zero_le _ | omega) (by first | assumption | exact Nat.zero_le _ | omega)) (cwV 3 hts gX11_fitsNow_X11_weight rfl rfl rfl ⟨rfl, hdX11_weight⟩ ⟨Nat.le_of_ble_eq_true rfl, Nat.le_of_ble_eq_true rfl⟩) (preVS hC (hP.sub [0, 1, 2, 3, 4] rfl) (va_recv hC.1 hP (ci := 11) (q0 := 0) rfl rfl)) rfl rfl hl.1 rfl (lv_room (Nat.le_of_ble_eq_true rfl)) dX11_fitsNow_33 ⟨Nat.le_of_ble_eq_true rfl, Nat.le_of_ble_eq_true rfl⟩) ?_
     refine lv_lconst (v := lN 0) hx hb dX11_fitsNow_36 (by decide) ?_
     refine lc_le (tgt := 58) hx hb dX11_fitsNow_37 dX11_fitsNow_38 (by decide) (fun c37 => ?_) (fun c37 => ?_)
     ·have c37 : ((mW mE mB mTb mTr hab sp tu kn) i (-1) 0) ≤ 0 := (pk_lLE (a := (mW mE mB mTb mTr hab sp tu kn) i (-1) 0) (b := 0) (by have := hw i; omega) (by have := hw i; omega)).mp c37
      have hl : lv_has ls 6 [(0, .ref mo), (1, .int xq), (2, .int (nI (fitM (w0 (mW mE mB mTb mTr hab sp tu kn)) (i + 1)))), (3, .int (nI (fitA (w0 (mW mE mB mTb mTr hab sp tu kn)) (2 ^ mE - 1) i))), (4, .int (nI (fitN (w0 (mW mE mB mTb mTr hab sp tu kn)) (2 ^ mE - 1) i))), (5, .int (nI i))] := lv_val hl 2 rfl (congrArg Value.int (show nI (fitM (w0 (mW mE mB mTb mTr hab sp tu kn)) i) = nI (fitM (w0 (mW mE mB mTb mTr hab sp tu kn)) (i + 1)) from by rw [fitM_f (ft_f c37)]))
      have hl : lv_has ls 6 [(0, .ref mo), (1, .int xq), (2, .int (nI (fitM (w0 (mW mE mB mTb mTr hab sp tu kn)) (i + 1)))), (3, .int (nI (fitA (w0 (mW mE mB mTb mTr hab sp tu kn)) (2 ^ mE - 1) (i + 1)))), (4, .int (nI (fitN (w0 (mW mE mB mTb mTr hab sp tu kn)) (2 ^ mE - 1) i))), (5, .int (nI i))] := lv_val hl 3 rfl (congrArg Value.int (show nI (fitA (w0 (mW mE mB mTb mTr hab sp tu kn)) (2 ^ mE - 1) i) = nI (fitA (w0 (mW mE mB mTb mTr hab sp tu kn)) (2 ^ mE - 1) (i + 1)) from by rw [fitA_f (ft_f c37)]))
      have hl : lv_has ls 6 [(0, .ref mo), (1, .int xq), (2, .int (nI (fitM (w0 (mW mE mB mTb mTr hab sp tu kn)) (i + 1)))), (3, .int (nI (fitA (w0 (mW mE mB mTb mTr hab sp tu kn)) (2 ^ mE - 1) (i + 1)))), (4, .int (nI (fitN (w0 (mW mE mB mTb mTr hab sp tu kn)) (2 ^ mE - 1) (i + 1)))), (5, .int (nI i))] := lv_val hl 4 rfl (congrArg Value.int (show nI (fitN (w0 (mW mE mB mTb mTr hab sp tu kn)) (2 ^ mE - 1) i) = nI (fitN (w0 (mW mE mB mTb mTr hab sp tu kn)) (2 ^ mE - 1) (i + 1)) from by rw [fitN_f (ft_f c37)]))
      exact hJ58   ls (lv_sub hl [0, 1, 2, 3, 4, 5] rfl)
     ·have c37 : ¬ ((mW mE mB mTb mTr hab sp tu kn) i (-1) 0) ≤ 0 := fun h9 => c37 ((pk_lLE (a := (mW mE mB mTb mTr hab sp tu kn) i (-1) 0) (b := 0) (by have := hw i; omega) (by have := hw i; omega)).mpr h9)
      refine lv_iinc (v := nI ((fitM (w0 (mW mE mB mTb mTr hab sp tu kn)) i) + 1)) (lv' := [(2, .int (nI ((fitM (w0 (mW mE mB mTb mTr hab sp tu kn)) i) + 1))), (0, .ref mo), (1, .int xq), (3, .int (nI (fitA (w0 (mW mE mB mTb mTr hab sp tu kn)) (2 ^ mE - 1) i))), (4, .int (nI (fitN (w0 (mW mE mB mTb mTr hab sp tu kn)) (2 ^ mE - 1) i))), (5, .int (nI i))]) hx hb dX11_fitsNow_41 hl (k := 2) rfl (iinc1 _) (by decide) rfl (fun ls hl => ?_)
      refine lv_iload_n hx hb dX11_fitsNow_44 rfl (lv_at hl 3 rfl) ?_
      refine lv_iload hx hb dX11_fitsNow_45 (lv_at hl 5 rfl) ?_
      refine lv_iand hx hb dX11_fitsNow_47 ?_
      refine top_i (y := nI (fitA (w0 (mW mE mB mTb mTr hab sp tu kn)) (2 ^ mE - 1) i &&& i)) (and_nI _ _) ?_
      refine lv_istore_n (lv' := [(3, .int (nI (fitA (w0 (mW mE mB mTb mTr hab sp tu kn)) (2 ^ mE - 1) i &&& i))), (2, .int (nI ((fitM (w0 (mW mE mB mTb mTr hab sp tu kn)) i) + 1))), (0, .ref mo), (1, .int xq), (4, .int (nI (fitN (w0 (mW mE mB mTb mTr hab sp tu kn)) (2 ^ mE - 1) i))), (5, .int (nI i))]) hx hb dX11_fitsNow_48 rfl hl (by decide) rfl (fun ls hl => ?_)
      refine lv_iload hx hb dX11_fitsNow_49 (lv_at hl 4 rfl) ?_
      refine lv_iload hx hb dX11_fitsNow_51 (lv_at hl 5 rfl) ?_
      refine lv_iconst (v := (-1)) hx hb dX11_fitsNow_53 (by decide) ?_
      refine lv_ixor hx hb dX11_fitsNow_54 ?_
      refine lv_iand hx hb dX11_fitsNow_55 ?_
      refine top_i (y := nI (andn (fitN (w0 (mW mE mB mTb mTr hab sp tu kn)) (2 ^ mE - 1) i) i)) (andn_nI _ (by have := fitN_le (w0 (mW mE mB mTb mTr hab sp tu kn)) (2 ^ mE - 1) i; omega) _ (by omega)) ?_
      refine lv_istore (lv' := [(4, .int (nI (andn (fitN (w0 (mW mE mB mTb mTr hab sp tu kn)) (2 ^ mE - 1) i) i))), (3, .int (nI (fitA (w0 (mW mE mB mTb mTr hab sp tu kn)) (2 ^ mE - 1) i &&& i))), (2, .int (nI ((fitM (w0 (mW mE mB mTb mTr hab sp tu kn)) i) + 1))), (0, .ref mo), (1, .int xq), (5, .int (nI i))]) hx hb dX11_fitsNow_56 hl (by decide) rfl (fun ls hl => ?_)
      have hl : lv_has ls 6 [(4, .int (nI (andn (fitN (w0 (mW mE mB mTb mTr hab sp tu kn)) (2 ^ mE - 1) i) i))), (3, .int (nI (fitA (w0 (mW mE mB mTb mTr hab sp tu kn)) (2 ^ mE - 1) i &&& i))), (2, .int (nI (fitM (w0 (mW mE mB mTb mTr hab sp tu kn)) (i + 1)))), (0, .ref mo), (1, .int xq), (5, .int (nI i))] := lv_val hl 2 rfl (congrArg Value.int (show nI ((fitM (w0 (mW mE mB mTb mTr hab sp tu kn)) i) + 1) = nI (fitM (w0 (mW mE mB mTb mTr hab sp tu kn)) (i + 1)) from by rw [fitM_t (ft_t c37)]))
      have hl : lv_has ls 6 [(4, .int (nI (andn (fitN (w0 (mW mE mB mTb mTr hab sp tu kn)) (2 ^ mE - 1) i) i))), (3, .int (nI (fitA (w0 (mW mE mB mTb mTr hab sp tu kn)) (2 ^ mE - 1) (i + 1)))), (2, .int (nI (fitM (w0 (mW mE mB mTb mTr hab sp tu kn)) (i + 1)))), (0, .ref mo), (1, .int xq), (5, .int (nI i))] := lv_val hl 1 rfl (congrArg Value.int (show nI (fitA (w0 (mW mE mB mTb mTr hab sp tu kn)) (2 ^ mE - 1) i &&& i) = nI (fitA (w0 (mW mE mB mTb mTr hab sp tu kn)) (2 ^ mE - 1) (i + 1)) from by rw [fitA_t (ft_t c37)]))
      have hl : lv_has ls 6 [(4, .int (nI (fitN (w0 (mW mE mB mTb mTr hab sp tu kn)) (2 ^ mE - 1) (i + 1)))), (3, .int (nI (fitA (w0 (mW mE mB mTb mTr hab sp tu kn)) (2 ^ mE - 1) (i + 1)))), (2, .int (nI (fitM (w0 (mW mE mB mTb mTr hab sp tu kn)) (i + 1)))), (0, .ref mo), (1, .int xq), (5, .int (nI i))] := lv_val hl 0 rfl (congrArg Value.int (show nI (andn (fitN (w0 (mW mE mB mTb mTr hab sp tu kn)) (2 ^ mE - 1) i) i) = nI (fitN (w0 (mW mE mB mTb mTr hab sp tu kn)) (2 ^ mE - 1) (i + 1)) from by rw [fitN_t (ft_t c37)]))
      exact hJ58   ls (lv_sub hl [3, 4, 2, 1, 0, 5] rfl)
  exact hL17 _ 0 (Nat.lt_succ_self _) (by first | assumption | exact Nat.zero_le _ | omega) ls (lv_sub hl [4, 5, 3, 2, 1, 0] rfl)

set_option maxHeartbeats 4000000 in
set_option maxRecDepth 100000 in
/-- BoiledEggsModel.fits  -/
theorem k_X11_fits (l : Launch) (g : GG) (mo : Nat) (mE : Nat) (mKi : Nat) (mB : Nat) (mTb : Nat) (mTr : Nat) (mFa : Nat) (aHab : Nat) (mIb : Nat) (mS : Nat) (aSp : Nat) (aTu : Nat) (aKn : Nat) (mT : Nat) (aKd : Nat) (mAs : Nat) (mPl : Nat) (aPg : Nat) (aWo : Nat) (aWs : Nat) (aMe : Nat) (mBf : Int32) (aBw : Nat) (mSd : Int64) (mIk : Int32) (mKk : Nat) (mKb : Nat) (mKs : Nat) (mKt : Nat) (aKsp : Nat) (aKtu : Nat) (aKkn : Nat) (mH : Int64) (hab : Nat → Nat) (sp : Nat → Nat) (tu : Nat → Nat) (kn : Nat → Int32) (xq : Int32) (hok : wOK mE mTb mTr hab sp tu) (hB0 : mB < 1000) (hw : ∀ b, (mW mE mB mTb mTr hab sp tu kn) b (-1) 0 < 2 ^ 60) : Met l yX11_fits wsX11_fits ({ frames := 4, cells := 0, slots := 0, locals := 100 }) (pS g [.ref mo, .int xq] [(mo, .inr (11, [.int (nI mE), .int (nI mKi), .int (nI mB), .int (nI mTb), .int (nI mTr), .int (nI mFa), .ref aHab, .int (nI mIb), .int (nI mS), .ref aSp, .ref aTu, .ref aKn, .int (nI mT), .ref aKd, .int (nI mAs), .int (nI mPl), .ref aPg, .ref aWo, .ref aWs, .ref aMe, .int mBf, .ref aBw, .long mSd, .int mIk, .int (nI mKk), .int (nI mKb), .int (nI mKs), .int (nI mKt), .ref aKsp, .ref aKtu, .ref aKkn, .long mH])), (aHab, .inl (g.2.1, 6, .inl (fun j => nI (hab j)))), (aSp, .inl (g.2.1, 6, .inl (fun j => nI (sp j)))), (aTu, .inl (g.2.1, 6, .inl (fun j => nI (tu j)))), (aKn, .inl (g.2.1, 6, .inl kn))]) (vp_Si (fun r => r = (fitR (mW mE mB mTb mTr hab sp tu kn) mE xq))) 0 0 noF := by
  refine metS (cc := cX11_fits) (maxL := 2) (ret := (some .int)) (by decide) rfl (Nat.le_of_ble_eq_true rfl) ?_
  intro p e s m below meth c hx hb hr hts hown hlocks hml hC hP ls hl
  have hl : lv_has ls 2 [(0, .ref mo), (1, .int xq)] := hl
  have hown : s.vm.findClass RX11 = some m.cls := hown
  have hts : ∀ w ∈ wsX11_fits, w.before ([.ref mo, .int xq] : List Value).toArray s = true := hts
  have hE := hok.1
  have hinX11 := (by decide +kernel : ∀ w ∈ u_ws RX11 TX11 32, w ∈ wsX11_fits)
  have f71 := hts (.fieldLink RX11 71 "BoiledEggsModel" "eggs" "I") (by decide +kernel)
  refine lv_iload_n hx hb dX11_fits_0 rfl (lv_at hl 1 rfl) ?_
  refine lv_iconst (v := nI 0) hx hb dX11_fits_1 (by decide) ?_
  refine lv_iconst (v := nI 2) hx hb dX11_fits_2 (by decide) ?_
  refine goSi (T := zI (wth xq (nI 0) (nI 2))) (va_runS (As := [.int xq, .int (nI 0), .int (nI 2)]) (rest := []) ⟨hx, hb, hml, hown, hts⟩ (k_X11_within l g xq (nI 0) (nI 2) ) (va_cwS 3 hts gX11_fits_X11_within rfl rfl rfl hdX11_within ⟨Nat.le_of_ble_eq_true rfl, Nat.le_of_ble_eq_true rfl⟩) (preSS hC (hP.sub [] rfl)) rfl rfl hl.1 rfl (lv_room (Nat.le_of_ble_eq_true rfl)) dX11_fits_3 ⟨Nat.le_of_ble_eq_true rfl, Nat.le_of_ble_eq_true rfl⟩) ?_
  refine lv_if_ne (tgt := 12) hx hb dX11_fits_6 (by decide) (fun c6 => ?_) (fun c6 => ?_)
  ·have c6 := zI_t.mp c6
   refine lv_aload_n hx hb dX11_fits_12 rfl (lv_at hl 0 rfl) ?_
   refine va_get (D := g.1) (ci := 11) (v := .int (nI mE)) (C := RX11) (T := TX11) (N := 32) hx hb hts hinX11 hown hC.1 hP 0 rfl rfl 0 (by decide) f71 (fun _ h9 => h9) rfl dX11_fits_13 ?_
   refine lv_if_ne (tgt := 24) hx hb dX11_fits_16 (by decide) (fun c16 => ?_) (fun c16 => ?_)
   ·have c16 : ¬ mE = 0 := fun h9 => c16 ((nI_eq (a := mE) (b := 0) (by omega) (by omega)).mpr h9)
    refine lv_aload_n hx hb dX11_fits_24 rfl (lv_at hl 0 rfl) ?_
    refine lv_iload_n hx hb dX11_fits_25 rfl (lv_at hl 1 rfl) ?_
    refine goSi (T := fitsN (w0 (mW mE mB mTb mTr hab sp tu kn)) mE xq) (va_runV (As := [.int xq]) (rest := []) ⟨hx, hb, hml, hown, hts⟩ (k_X11_fitsNow l g mo mE mKi mB mTb mTr mFa aHab mIb mS aSp aTu aKn mT aKd mAs mPl aPg aWo aWs aMe mBf aBw mSd mIk mKk mKb mKs mKt aKsp aKtu aKkn mH hab sp tu kn xq (by first | assumption | exact Nat.zero_le _ | omega) (by first | assumption | exact Nat.zero_le _ | omega) (by first | assumption | exact Nat.zero_le _ | omega)) (cwV 1 hts gX11_fits_X11_fitsNow rfl rfl rfl ⟨rfl, hdX11_fitsNow⟩ ⟨Nat.le_of_ble_eq_true rfl, Nat.le_of_ble_eq_true rfl⟩) (preVS hC (hP.sub [0, 1, 2, 3, 4] rfl) (va_recv hC.1 hP (ci := 11) (q0 := 0) rfl rfl)) rfl rfl hl.1 rfl (lv_room (Nat.le_of_ble_eq_true rfl)) dX11_fits_26 ⟨Nat.le_of_ble_eq_true rfl, Nat.le_of_ble_eq_true rfl⟩) ?_
    exact retSi hx hb hr hlocks (by first | rw [fitR, if_pos c6, if_pos c16] | rw [fitR, if_pos c6, if_neg c16]) dX11_fits_29
   ·have c16 : mE = 0 := (nI_eq (a := mE) (b := 0) (by omega) (by omega)).mp c16
    refine lv_bipush (v := (-103)) hx hb dX11_fits_19 (by decide) ?_
    refine lv_goto (tgt := 29) hx hb dX11_fits_21 (by decide) ?_
    exact retSi hx hb hr hlocks (by first | rw [fitR, if_pos c6, if_pos c16] | rw [fitR, if_pos c6, if_neg c16]) dX11_fits_29
  ·have c6 := zI_f.mp c6
   refine lv_bipush (v := (-102)) hx hb dX11_fits_9 (by decide) ?_
   exact retSi hx hb hr hlocks (by rw [fitR, if_neg (by rw [c6]; decide)]) dX11_fits_11

set_option maxHeartbeats 4000000 in
set_option maxRecDepth 100000 in
/-- BoiledEggsModel.boxBy  -/
theorem k_X11_boxBy (l : Launch) (g : GG) (mo : Nat) (mE : Nat) (mKi : Nat) (mB : Nat) (mTb : Nat) (mTr : Nat) (mFa : Nat) (aHab : Nat) (mIb : Nat) (mS : Nat) (aSp : Nat) (aTu : Nat) (aKn : Nat) (mT : Nat) (aKd : Nat) (mAs : Nat) (mPl : Nat) (aPg : Nat) (aWo : Nat) (aWs : Nat) (aMe : Nat) (mBf : Int32) (aBw : Nat) (mSd : Int64) (mIk : Int32) (mKk : Nat) (mKb : Nat) (mKs : Nat) (mKt : Nat) (aKsp : Nat) (aKtu : Nat) (aKkn : Nat) (mH : Int64) (hab : Nat → Nat) (sp : Nat → Nat) (tu : Nat → Nat) (kn : Nat → Int32) (xp : Nat) (hok : wOK mE mTb mTr hab sp tu) (hB0 : mB < 1000) (hw : ∀ b, (mW mE mB mTb mTr hab sp tu kn) b (-1) 0 < 2 ^ 60) (hp0 : xp < 2 ^ 31) : Met l yX11_boxBy wsX11_boxBy ({ frames := 3, cells := 0, slots := 0, locals := 75 }) (pS g [.ref mo, .int (nI xp)] [(mo, .inr (11, [.int (nI mE), .int (nI mKi), .int (nI mB), .int (nI mTb), .int (nI mTr), .int (nI mFa), .ref aHab, .int (nI mIb), .int (nI mS), .ref aSp, .ref aTu, .ref aKn, .int (nI mT), .ref aKd, .int (nI mAs), .int (nI mPl), .ref aPg, .ref aWo, .ref aWs, .ref aMe, .int mBf, .ref aBw, .long mSd, .int mIk, .int (nI mKk), .int (nI mKb), .int (nI mKs), .int (nI mKt), .ref aKsp, .ref aKtu, .ref aKkn, .long mH])), (aHab, .inl (g.2.1, 6, .inl (fun j => nI (hab j)))), (aSp, .inl (g.2.1, 6, .inl (fun j => nI (sp j)))), (aTu, .inl (g.2.1, 6, .inl (fun j => nI (tu j)))), (aKn, .inl (g.2.1, 6, .inl kn))]) (vp_Si (fun r => r = (bby (w0 (mW mE mB mTb mTr hab sp tu kn)) (2 ^ mE) 0 xp))) 0 0 noF := by
  refine metS (cc := cX11_boxBy) (maxL := 4) (ret := (some .int)) (by decide) rfl (Nat.le_of_ble_eq_true rfl) ?_
  intro p e s m below meth c hx hb hr hts hown hlocks hml hC hP ls hl
  have hl : lv_has ls 4 [(0, .ref mo), (1, .int (nI xp))] := hl
  have hown : s.vm.findClass RX11 = some m.cls := hown
  have hts : ∀ w ∈ wsX11_boxBy, w.before ([.ref mo, .int (nI xp)] : List Value).toArray s = true := hts
  obtain ⟨hE, htb, htr, htu, hsp, hha⟩ := id hok
  have h2E := p2le hE
  have hinX11 := (by decide +kernel : ∀ w ∈ u_ws RX11 TX11 32, w ∈ wsX11_boxBy)
  have f71 := hts (.fieldLink RX11 71 "BoiledEggsModel" "eggs" "I") (by decide +kernel)
  refine lv_iload_n hx hb dX11_boxBy_0 rfl (lv_at hl 1 rfl) ?_
  refine lv_istore_n (lv' := [(2, .int (nI xp)), (0, .ref mo), (1, .int (nI xp))]) hx hb dX11_boxBy_1 rfl hl (by decide) rfl (fun ls hl => ?_)
  refine lv_iconst (v := nI 0) hx hb dX11_boxBy_2 (by decide) ?_
  refine lv_istore_n (lv' := [(3, .int (nI 0)), (2, .int (nI xp)), (0, .ref mo), (1, .int (nI xp))]) hx hb dX11_boxBy_3 rfl hl (by decide) rfl (fun ls hl => ?_)
  have hL4 : ∀ (n_9 : Nat) (i : Nat) (left : Nat), 2 ^ mE - i < n_9 → (i ≤ 2 ^ mE) → (left < 2 ^ 31) → (bby (w0 (mW mE mB mTb mTr hab sp tu kn)) (2 ^ mE - i) i left = bby (w0 (mW mE mB mTb mTr hab sp tu kn)) (2 ^ mE) 0 xp) → ∀ ls : Array Slot, lv_has ls 4 [(0, .ref mo), (1, .int (nI xp)), (2, .int (nI left)), (3, .int (nI i))] → W p l e ({ frames := 3, cells := 0, slots := 0, locals := 75 }) s m ([.ref mo, .int (nI xp)] : List Value).toArray below meth c s.heap [] 0 0 (MQ below (vp_Si (fun r => r = (bby (w0 (mW mE mB mTb mTr hab sp tu kn)) (2 ^ mE) 0 xp))) ([.ref mo, .int (nI xp)] : List Value).toArray s 0 0 noF) (F0 m 4 ls []) := by
   intro n_9
   induction n_9 with
   | zero => intro i left hn_9; exact absurd hn_9 (Nat.not_lt_zero _)
   | succ n_9 ih4 =>
    intro i left hn_9 hi hl0 hf ls hl
    refine lv_iload_n hx hb dX11_boxBy_4 rfl (lv_at hl 3 rfl) ?_
    refine lv_iconst (v := nI 1) hx hb dX11_boxBy_5 (by decide) ?_
    refine lv_aload_n hx hb dX11_boxBy_6 rfl (lv_at hl 0 rfl) ?_
    refine va_get (D := g.1) (ci := 11) (v := .int (nI mE)) (C := RX11) (T := TX11) (N := 32) hx hb hts hinX11 hown hC.1 hP 0 rfl rfl 0 (by decide) f71 (fun _ h9 => h9) rfl dX11_boxBy_7 ?_
    refine lv_ishl hx hb dX11_boxBy_10 ?_
    refine top_i (y := nI (2 ^ mE)) (shl1_nI (by omega)) ?_
    refine lv_icmp_ge (tgt := 41) hx hb dX11_boxBy_11 (by decide) (fun c11 => ?_) (fun c11 => ?_)
    ·have c11 : (2 ^ mE) ≤ i := (nI_leI (a := 2 ^ mE) (b := i) (by omega) (by omega)).mp c11
     refine lv_iconst (v := (-1)) hx hb dX11_boxBy_41 (by decide) ?_
     exact retSi hx hb hr hlocks (by rw [← hf, bby_e (by omega)]) dX11_boxBy_42
    ·have c11 : ¬ (2 ^ mE) ≤ i := fun h9 => c11 ((nI_leI (a := 2 ^ mE) (b := i) (by omega) (by omega)).mpr h9)
     refine lv_aload_n hx hb dX11_boxBy_14 rfl (lv_at hl 0 rfl) ?_
     refine lv_iload_n hx hb dX11_boxBy_15 rfl (lv_at hl 3 rfl) ?_
     refine lv_iconst (v := (-1)) hx hb dX11_boxBy_16 (by decide) ?_
     refine lv_iconst (v := nI 0) hx hb dX11_boxBy_17 (by decide) ?_
     refine goSl (T := lN ((mW mE mB mTb mTr hab sp tu kn) i (-1) 0)) (va_runV (As := [.int (nI i), .int (-1), .int (nI 0)]) (rest := []) ⟨hx, hb, hml, hown, hts⟩ (k_X11_weight l g mo mE mKi mB mTb mTr mFa aHab mIb mS aSp aTu aKn mT aKd mAs mPl aPg aWo aWs aMe mBf aBw mSd mIk mKk mKb mKs mKt aKsp aKtu aKkn mH hab sp tu kn i (-1) 0 (by first | assumption | exact Nat.zero_le _ | omega) (by first | assumption | exact Nat.zero_le _ | omega) (by first | assumption | exact Nat.zero_le _ | omega) (by first | assumption | exact Nat.zero_le _ | omega)) (cwV 3 hts gX11_boxBy_X11_weight rfl rfl rfl ⟨rfl, hdX11_weight⟩ ⟨Nat.le_of_ble_eq_true rfl, Nat.le_of_ble_eq_true rfl⟩) (preVS hC (hP.sub [0, 1, 2, 3, 4] rfl) (va_recv hC.1 hP (ci := 11) (q0 := 0) rfl rfl)) rfl rfl hl.1 rfl (lv_room (Nat.le_of_ble_eq_true rfl)) dX11_boxBy_18 ⟨Nat.le_of_ble_eq_true rfl, Nat.le_of_ble_eq_true rfl⟩) ?_
     refine lv_lconst (v := lN 0) hx hb dX11_boxBy_21 (by decide) ?_
     refine lc_le (tgt := 35) hx hb dX11_boxBy_22 dX11_boxBy_23 (by decide) (fun c22 => ?_) (fun c22 => ?_)
     ·have c22 : ((mW mE mB mTb mTr hab sp tu kn) i (-1) 0) ≤ 0 := (pk_lLE (a := (mW mE mB mTb mTr hab sp tu kn) i (-1) 0) (b := 0) (by have := hw i; omega) (by have := hw i; omega)).mp c22
      refine lv_iinc (v := nI (i + 1)) (lv' := [(3, .int (nI (i + 1))), (0, .ref mo), (1, .int (nI xp)), (2, .int (nI left))]) hx hb dX11_boxBy_35 hl (k := 3) rfl (iinc1 _) (by decide) rfl (fun ls hl => ?_)
      refine lv_goto (tgt := 4) hx hb dX11_boxBy_38 (by decide) ?_
      exact ih4 (i + 1) left (by omega) (by omega) (by omega) (by rw [← hf]; first | exact bby_z (ft_f c22) (by omega) | exact bby_n (ft_t c22) c27 (by omega)) ls (lv_sub hl [1, 2, 3, 0] rfl)
     ·have c22 : ¬ ((mW mE mB mTb mTr hab sp tu kn) i (-1) 0) ≤ 0 := fun h9 => c22 ((pk_lLE (a := (mW mE mB mTb mTr hab sp tu kn) i (-1) 0) (b := 0) (by have := hw i; omega) (by have := hw i; omega)).mpr h9)
      refine lv_iload_n hx hb dX11_boxBy_26 rfl (lv_at hl 2 rfl) ?_
      refine lv_if_ne (tgt := 32) hx hb dX11_boxBy_27 (by decide) (fun c27 => ?_) (fun c27 => ?_)
      ·have c27 : ¬ left = 0 := fun h9 => c27 ((nI_eq (a := left) (b := 0) (by omega) (by omega)).mpr h9)
       refine lv_iinc (v := nI (left - 1)) (lv' := [(2, .int (nI (left - 1))), (0, .ref mo), (1, .int (nI xp)), (3, .int (nI i))]) hx hb dX11_boxBy_32 hl (k := 2) rfl (m1_nI c27) (by decide) rfl (fun ls hl => ?_)
       refine lv_iinc (v := nI (i + 1)) (lv' := [(3, .int (nI (i + 1))), (2, .int (nI (left - 1))), (0, .ref mo), (1, .int (nI xp))]) hx hb dX11_boxBy_35 hl (k := 3) rfl (iinc1 _) (by decide) rfl (fun ls hl => ?_)
       refine lv_goto (tgt := 4) hx hb dX11_boxBy_38 (by decide) ?_
       exact ih4 (i + 1) (left - 1) (by omega) (by omega) (by omega) (by rw [← hf]; first | exact bby_z (ft_f c22) (by omega) | exact bby_n (ft_t c22) c27 (by omega)) ls (lv_sub hl [2, 3, 1, 0] rfl)
      ·have c27 : left = 0 := (nI_eq (a := left) (b := 0) (by omega) (by omega)).mp c27
       refine lv_iload_n hx hb dX11_boxBy_30 rfl (lv_at hl 3 rfl) ?_
       exact retSi hx hb hr hlocks (by rw [← hf, bby_r (ft_t c22) c27 (by omega)]) dX11_boxBy_31
  exact hL4 _ 0 xp (Nat.lt_succ_self _) (Nat.zero_le _) (hp0) (rfl) ls (lv_sub hl [2, 3, 1, 0] rfl)

set_option maxHeartbeats 4000000 in
set_option maxRecDepth 100000 in
/-- BoiledEggsModel.howMany  -/
theorem k_X11_howMany (l : Launch) (g : GG) (mo : Nat) (mE : Nat) (mKi : Nat) (mB : Nat) (mTb : Nat) (mTr : Nat) (mFa : Nat) (aHab : Nat) (mIb : Nat) (mS : Nat) (aSp : Nat) (aTu : Nat) (aKn : Nat) (mT : Nat) (aKd : Nat) (mAs : Nat) (mPl : Nat) (aPg : Nat) (aWo : Nat) (aWs : Nat) (aMe : Nat) (mBf : Int32) (aBw : Nat) (mSd : Int64) (mIk : Int32) (mKk : Nat) (mKb : Nat) (mKs : Nat) (mKt : Nat) (aKsp : Nat) (aKtu : Nat) (aKkn : Nat) (mH : Int64) (xw : Int32) (hib : mIb < 64) : Met l yX11_howMany wsX11_howMany ({ frames := 1, cells := 0, slots := 0, locals := 22 }) (pS g [.ref mo, .int xw] [(mo, .inr (11, [.int (nI mE), .int (nI mKi), .int (nI mB), .int (nI mTb), .int (nI mTr), .int (nI mFa), .ref aHab, .int (nI mIb), .int (nI mS), .ref aSp, .ref aTu, .ref aKn, .int (nI mT), .ref aKd, .int (nI mAs), .int (nI mPl), .ref aPg, .ref aWo, .ref aWs, .ref aMe, .int mBf, .ref aBw, .long mSd, .int mIk, .int (nI mKk), .int (nI mKb), .int (nI mKs), .int (nI mKt), .ref aKsp, .ref aKtu, .ref aKkn, .long mH]))]) (vp_Si (fun r => r = (swA [nI mE, nI mB, nI mTb, nI mTr, nI mFa, nI (popS mIb 6), nI mS, nI mT, nI mPl, nI mKi, nI mAs] (-102) xw))) 0 0 noF := by
  refine metS (cc := cX11_howMany) (maxL := 2) (ret := (some .int)) (by decide) rfl (Nat.le_of_ble_eq_true rfl) ?_
  intro p e s m below meth c hx hb hr hts hown hlocks hml hC hP ls hl
  have hl : lv_has ls 2 [(0, .ref mo), (1, .int xw)] := hl
  have hown : s.vm.findClass RX11 = some m.cls := hown
  have hts : ∀ w ∈ wsX11_howMany, w.before ([.ref mo, .int xw] : List Value).toArray s = true := hts
  have hinX11 := (by decide +kernel : ∀ w ∈ u_ws RX11 TX11 32, w ∈ wsX11_howMany)
  have f71 := hts (.fieldLink RX11 71 "BoiledEggsModel" "eggs" "I") (by decide +kernel)
  have f74 := hts (.fieldLink RX11 74 "BoiledEggsModel" "boiled" "I") (by decide +kernel)
  have f77 := hts (.fieldLink RX11 77 "BoiledEggsModel" "turnsBoiled" "I") (by decide +kernel)
  have f80 := hts (.fieldLink RX11 80 "BoiledEggsModel" "turnsRaw" "I") (by decide +kernel)
  have f83 := hts (.fieldLink RX11 83 "BoiledEggsModel" "falls" "I") (by decide +kernel)
  have f86 := hts (.fieldLink RX11 86 "BoiledEggsModel" "inBox" "I") (by decide +kernel)
  have f89 := hts (.fieldLink RX11 89 "BoiledEggsModel" "spins" "I") (by decide +kernel)
  have f92 := hts (.fieldLink RX11 92 "BoiledEggsModel" "triers" "I") (by decide +kernel)
  have f55 := hts (.fieldLink RX11 55 "BoiledEggsModel" "pageLength" "I") (by decide +kernel)
  have f95 := hts (.fieldLink RX11 95 "BoiledEggsModel" "kitchens" "I") (by decide +kernel)
  have f178 := hts (.fieldLink RX11 178 "BoiledEggsModel" "asks" "I") (by decide +kernel)
  refine lv_iload_n hx hb dX11_howMany_0 rfl (lv_at hl 1 rfl) ?_
  rcases sw_cases xw 11 (by decide) with ⟨k9, hk9, c1⟩ | c1
  ·have hk9 : k9 = 0 ∨ k9 = 1 ∨ k9 = 2 ∨ k9 = 3 ∨ k9 = 4 ∨ k9 = 5 ∨ k9 = 6 ∨ k9 = 7 ∨ k9 = 8 ∨ k9 = 9 ∨ k9 = 10 := by omega
   rcases hk9 with rfl | rfl | rfl | rfl | rfl | rfl | rfl | rfl | rfl | rfl | rfl
   ·subst c1
    refine lv_tableIn (off := 59) (tgt := 60) hx hb dX11_howMany_1 (by decide) (by decide) (by decide) (by decide) ?_
    refine lv_aload_n hx hb dX11_howMany_60 rfl (lv_at hl 0 rfl) ?_
    refine va_get (D := g.1) (ci := 11) (v := .int (nI mE)) (C := RX11) (T := TX11) (N := 32) hx hb hts hinX11 hown hC.1 hP 0 rfl rfl 0 (by decide) f71 (fun _ h9 => h9) rfl dX11_howMany_61 ?_
    exact retSi hx hb hr hlocks (rfl) dX11_howMany_64
   ·subst c1
    refine lv_tableIn (off := 64) (tgt := 65) hx hb dX11_howMany_1 (by decide) (by decide) (by decide) (by decide) ?_
    refine lv_aload_n hx hb dX11_howMany_65 rfl (lv_at hl 0 rfl) ?_
    refine va_get (D := g.1) (ci := 11) (v := .int (nI mB)) (C := RX11) (T := TX11) (N := 32) hx hb hts hinX11 hown hC.1 hP 0 rfl rfl 2 (by decide) f74 (fun _ h9 => h9) rfl dX11_howMany_66 ?_
    exact retSi hx hb hr hlocks (rfl) dX11_howMany_69
   ·subst c1
    refine lv_tableIn (off := 69) (tgt := 70) hx hb dX11_howMany_1 (by decide) (by decide) (by decide) (by decide) ?_
    refine lv_aload_n hx hb dX11_howMany_70 rfl (lv_at hl 0 rfl) ?_
    refine va_get (D := g.1) (ci := 11) (v := .int (nI mTb)) (C := RX11) (T := TX11) (N := 32) hx hb hts hinX11 hown hC.1 hP 0 rfl rfl 3 (by decide) f77 (fun _ h9 => h9) rfl dX11_howMany_71 ?_
    exact retSi hx hb hr hlocks (rfl) dX11_howMany_74
   ·subst c1
    refine lv_tableIn (off := 74) (tgt := 75) hx hb dX11_howMany_1 (by decide) (by decide) (by decide) (by decide) ?_
    refine lv_aload_n hx hb dX11_howMany_75 rfl (lv_at hl 0 rfl) ?_
    refine va_get (D := g.1) (ci := 11) (v := .int (nI mTr)) (C := RX11) (T := TX11) (N := 32) hx hb hts hinX11 hown hC.1 hP 0 rfl rfl 4 (by decide) f80 (fun _ h9 => h9) rfl dX11_howMany_76 ?_
    exact retSi hx hb hr hlocks (rfl) dX11_howMany_79
   ·subst c1
    refine lv_tableIn (off := 79) (tgt := 80) hx hb dX11_howMany_1 (by decide) (by decide) (by decide) (by decide) ?_
    refine lv_aload_n hx hb dX11_howMany_80 rfl (lv_at hl 0 rfl) ?_
    refine va_get (D := g.1) (ci := 11) (v := .int (nI mFa)) (C := RX11) (T := TX11) (N := 32) hx hb hts hinX11 hown hC.1 hP 0 rfl rfl 5 (by decide) f83 (fun _ h9 => h9) rfl dX11_howMany_81 ?_
    exact retSi hx hb hr hlocks (rfl) dX11_howMany_84
   ·subst c1
    refine lv_tableIn (off := 84) (tgt := 85) hx hb dX11_howMany_1 (by decide) (by decide) (by decide) (by decide) ?_
    refine lv_aload_n hx hb dX11_howMany_85 rfl (lv_at hl 0 rfl) ?_
    refine va_get (D := g.1) (ci := 11) (v := .int (nI mIb)) (C := RX11) (T := TX11) (N := 32) hx hb hts hinX11 hown hC.1 hP 0 rfl rfl 7 (by decide) f86 (fun _ h9 => h9) rfl dX11_howMany_86 ?_
    refine goSi (T := nI (popS mIb 6)) (va_runS (As := [.int (nI mIb)]) (rest := []) ⟨hx, hb, hml, hown, hts⟩ (k_X11_size l g mIb (by first | assumption | exact Nat.zero_le _ | omega)) (va_cwS 1 hts gX11_howMany_X11_size rfl rfl rfl hdX11_size ⟨Nat.le_of_ble_eq_true rfl, Nat.le_of_ble_eq_true rfl⟩) (preSS hC (hP.sub [] rfl)) rfl rfl hl.1 rfl (lv_room (Nat.le_of_ble_eq_true rfl)) dX11_howMany_89 ⟨Nat.le_of_ble_eq_true rfl, Nat.le_of_ble_eq_true rfl⟩) ?_
    exact retSi hx hb hr hlocks (rfl) dX11_howMany_92
   ·subst c1
    refine lv_tableIn (off := 92) (tgt := 93) hx hb dX11_howMany_1 (by decide) (by decide) (by decide) (by decide) ?_
    refine lv_aload_n hx hb dX11_howMany_93 rfl (lv_at hl 0 rfl) ?_
    refine va_get (D := g.1) (ci := 11) (v := .int (nI mS)) (C := RX11) (T := TX11) (N := 32) hx hb hts hinX11 hown hC.1 hP 0 rfl rfl 8 (by decide) f89 (fun _ h9 => h9) rfl dX11_howMany_94 ?_
    exact retSi hx hb hr hlocks (rfl) dX11_howMany_97
   ·subst c1
    refine lv_tableIn (off := 97) (tgt := 98) hx hb dX11_howMany_1 (by decide) (by decide) (by decide) (by decide) ?_
    refine lv_aload_n hx hb dX11_howMany_98 rfl (lv_at hl 0 rfl) ?_
    refine va_get (D := g.1) (ci := 11) (v := .int (nI mT)) (C := RX11) (T := TX11) (N := 32) hx hb hts hinX11 hown hC.1 hP 0 rfl rfl 12 (by decide) f92 (fun _ h9 => h9) rfl dX11_howMany_99 ?_
    exact retSi hx hb hr hlocks (rfl) dX11_howMany_102
   ·subst c1
    refine lv_tableIn (off := 102) (tgt := 103) hx hb dX11_howMany_1 (by decide) (by decide) (by decide) (by decide) ?_
    refine lv_aload_n hx hb dX11_howMany_103 rfl (lv_at hl 0 rfl) ?_
    refine va_get (D := g.1) (ci := 11) (v := .int (nI mPl)) (C := RX11) (T := TX11) (N := 32) hx hb hts hinX11 hown hC.1 hP 0 rfl rfl 15 (by decide) f55 (fun _ h9 => h9) rfl dX11_howMany_104 ?_
    exact retSi hx hb hr hlocks (rfl) dX11_howMany_107
   ·subst c1
    refine lv_tableIn (off := 107) (tgt := 108) hx hb dX11_howMany_1 (by decide) (by decide) (by decide) (by decide) ?_
    refine lv_aload_n hx hb dX11_howMany_108 rfl (lv_at hl 0 rfl) ?_
    refine va_get (D := g.1) (ci := 11) (v := .int (nI mKi)) (C := RX11) (T := TX11) (N := 32) hx hb hts hinX11 hown hC.1 hP 0 rfl rfl 1 (by decide) f95 (fun _ h9 => h9) rfl dX11_howMany_109 ?_
    exact retSi hx hb hr hlocks (rfl) dX11_howMany_112
   ·subst c1
    refine lv_tableIn (off := 112) (tgt := 113) hx hb dX11_howMany_1 (by decide) (by decide) (by decide) (by decide) ?_
    refine lv_aload_n hx hb dX11_howMany_113 rfl (lv_at hl 0 rfl) ?_
    refine va_get (D := g.1) (ci := 11) (v := .int (nI mAs)) (C := RX11) (T := TX11) (N := 32) hx hb hts hinX11 hown hC.1 hP 0 rfl rfl 14 (by decide) f178 (fun _ h9 => h9) rfl dX11_howMany_114 ?_
    exact retSi hx hb hr hlocks (rfl) dX11_howMany_117
  ·refine lv_tableOut (tgt := 118) hx hb dX11_howMany_1 (by omega) (by decide) ?_
   refine lv_bipush (v := (-102)) hx hb dX11_howMany_118 (by decide) ?_
   exact retSi hx hb hr hlocks ((if_pos c1).symm) dX11_howMany_120

set_option maxHeartbeats 4000000 in
set_option maxRecDepth 100000 in
/-- BoiledEggsModel.count  -/
theorem k_X11_count (l : Launch) (g : GG) (mo : Nat) (mE : Nat) (mKi : Nat) (mB : Nat) (mTb : Nat) (mTr : Nat) (mFa : Nat) (aHab : Nat) (mIb : Nat) (mS : Nat) (aSp : Nat) (aTu : Nat) (aKn : Nat) (mT : Nat) (aKd : Nat) (mAs : Nat) (mPl : Nat) (aPg : Nat) (aWo : Nat) (aWs : Nat) (aMe : Nat) (mBf : Int32) (aBw : Nat) (mSd : Int64) (mIk : Int32) (mKk : Nat) (mKb : Nat) (mKs : Nat) (mKt : Nat) (aKsp : Nat) (aKtu : Nat) (aKkn : Nat) (mH : Int64) (xw : Int32) (hib : mIb < 64) : Met l yX11_count wsX11_count ({ frames := 2, cells := 0, slots := 0, locals := 43 }) (pS g [.ref mo, .int xw] [(mo, .inr (11, [.int (nI mE), .int (nI mKi), .int (nI mB), .int (nI mTb), .int (nI mTr), .int (nI mFa), .ref aHab, .int (nI mIb), .int (nI mS), .ref aSp, .ref aTu, .ref aKn, .int (nI mT), .ref aKd, .int (nI mAs), .int (nI mPl), .ref aPg, .ref aWo, .ref aWs, .ref aMe, .int mBf, .ref aBw, .long mSd, .int mIk, .int (nI mKk), .int (nI mKb), .int (nI mKs), .int (nI mKt), .ref aKsp, .ref aKtu, .ref aKkn, .long mH]))]) (vp_Si (fun r => r = (swA [nI mE, nI mB, nI mTb, nI mTr, nI mFa, nI (popS mIb 6), nI mS, nI mT, nI mPl, nI mKi, nI mAs] (-102) xw))) 0 0 noF := by
  refine metS (cc := cX11_count) (maxL := 2) (ret := (some .int)) (by decide) rfl (Nat.le_of_ble_eq_true rfl) ?_
  intro p e s m below meth c hx hb hr hts hown hlocks hml hC hP ls hl
  have hl : lv_has ls 2 [(0, .ref mo), (1, .int xw)] := hl
  have hown : s.vm.findClass RX11 = some m.cls := hown
  have hts : ∀ w ∈ wsX11_count, w.before ([.ref mo, .int xw] : List Value).toArray s = true := hts
  refine lv_aload_n hx hb dX11_count_0 rfl (lv_at hl 0 rfl) ?_
  refine lv_iload_n hx hb dX11_count_1 rfl (lv_at hl 1 rfl) ?_
  refine goSi (T := swA [nI mE, nI mB, nI mTb, nI mTr, nI mFa, nI (popS mIb 6), nI mS, nI mT, nI mPl, nI mKi, nI mAs] (-102) xw) (va_runV (As := [.int xw]) (rest := []) ⟨hx, hb, hml, hown, hts⟩ (k_X11_howMany l g mo mE mKi mB mTb mTr mFa aHab mIb mS aSp aTu aKn mT aKd mAs mPl aPg aWo aWs aMe mBf aBw mSd mIk mKk mKb mKs mKt aKsp aKtu aKkn mH xw (by first | assumption | exact Nat.zero_le _ | omega)) (cwV 1 hts gX11_count_X11_howMany rfl rfl rfl ⟨rfl, hdX11_howMany⟩ ⟨Nat.le_of_ble_eq_true rfl, Nat.le_of_ble_eq_true rfl⟩) (preVS hC (hP.sub [0] rfl) (va_recv hC.1 hP (ci := 11) (q0 := 0) rfl rfl)) rfl rfl hl.1 rfl (lv_room (Nat.le_of_ble_eq_true rfl)) dX11_count_2 ⟨Nat.le_of_ble_eq_true rfl, Nat.le_of_ble_eq_true rfl⟩) ?_
  exact retSi hx hb hr hlocks (rfl) dX11_count_5

set_option maxHeartbeats 4000000 in
set_option maxRecDepth 100000 in
/-- BoiledEggsModel.mayAsk  -/
theorem k_X11_mayAsk (l : Launch) (g : GG) (mo : Nat) (mE : Nat) (mKi : Nat) (mB : Nat) (mTb : Nat) (mTr : Nat) (mFa : Nat) (aHab : Nat) (mIb : Nat) (mS : Nat) (aSp : Nat) (aTu : Nat) (aKn : Nat) (mT : Nat) (aKd : Nat) (mAs : Nat) (mPl : Nat) (aPg : Nat) (aWo : Nat) (aWs : Nat) (aMe : Nat) (mBf : Int32) (aBw : Nat) (mSd : Int64) (mIk : Int32) (mKk : Nat) (mKb : Nat) (mKs : Nat) (mKt : Nat) (aKsp : Nat) (aKtu : Nat) (aKkn : Nat) (mH : Int64) (hE : mE ≤ 6) (hA : mAs < 1000) : Met l yX11_mayAsk wsX11_mayAsk ({ frames := 0, cells := 0, slots := 0, locals := 0 }) (pS g [.ref mo] [(mo, .inr (11, [.int (nI mE), .int (nI mKi), .int (nI mB), .int (nI mTb), .int (nI mTr), .int (nI mFa), .ref aHab, .int (nI mIb), .int (nI mS), .ref aSp, .ref aTu, .ref aKn, .int (nI mT), .ref aKd, .int (nI mAs), .int (nI mPl), .ref aPg, .ref aWo, .ref aWs, .ref aMe, .int mBf, .ref aBw, .long mSd, .int mIk, .int (nI mKk), .int (nI mKb), .int (nI mKs), .int (nI mKt), .ref aKsp, .ref aKtu, .ref aKkn, .long mH]))]) (vp_Si (fun r => r = (zI (decide (0 < mE ∧ mAs < 60))))) 0 0 noF := by
  refine metS (cc := cX11_mayAsk) (maxL := 1) (ret := (some .boolean)) (by decide) rfl (Nat.le_of_ble_eq_true rfl) ?_
  intro p e s m below meth c hx hb hr hts hown hlocks hml hC hP ls hl
  have hl : lv_has ls 1 [(0, .ref mo)] := hl
  have hown : s.vm.findClass RX11 = some m.cls := hown
  have hts : ∀ w ∈ wsX11_mayAsk, w.before ([.ref mo] : List Value).toArray s = true := hts
  have hinX11 := (by decide +kernel : ∀ w ∈ u_ws RX11 TX11 32, w ∈ wsX11_mayAsk)
  have f71 := hts (.fieldLink RX11 71 "BoiledEggsModel" "eggs" "I") (by decide +kernel)
  have f178 := hts (.fieldLink RX11 178 "BoiledEggsModel" "asks" "I") (by decide +kernel)
  refine lv_aload_n hx hb dX11_mayAsk_0 rfl (lv_at hl 0 rfl) ?_
  refine va_get (D := g.1) (ci := 11) (v := .int (nI mE)) (C := RX11) (T := TX11) (N := 32) hx hb hts hinX11 hown hC.1 hP 0 rfl rfl 0 (by decide) f71 (fun _ h9 => h9) rfl dX11_mayAsk_1 ?_
  refine lv_if_le (tgt := 20) hx hb dX11_mayAsk_4 (by decide) (fun c4 => ?_) (fun c4 => ?_)
  ·have c4 : mE ≤ 0 := (nI_leI (a := mE) (b := 0) (by omega) (by omega)).mp c4
   refine lv_iconst (v := nI 0) hx hb dX11_mayAsk_20 (by decide) ?_
   exact retSz hx hb hr hlocks (by decide) (by first | exact zI_1 (decide_eq_true (by omega)) | exact zI_0 (decide_eq_false (by omega))) dX11_mayAsk_21
  ·have c4 : ¬ mE ≤ 0 := fun h9 => c4 ((nI_leI (a := mE) (b := 0) (by omega) (by omega)).mpr h9)
   refine lv_aload_n hx hb dX11_mayAsk_7 rfl (lv_at hl 0 rfl) ?_
   refine va_get (D := g.1) (ci := 11) (v := .int (nI mAs)) (C := RX11) (T := TX11) (N := 32) hx hb hts hinX11 hown hC.1 hP 0 rfl rfl 14 (by decide) f178 (fun _ h9 => h9) rfl dX11_mayAsk_8 ?_
   refine lv_bipush (v := nI 60) hx hb dX11_mayAsk_11 (by decide) ?_
   refine lv_icmp_ge (tgt := 20) hx hb dX11_mayAsk_13 (by decide) (fun c13 => ?_) (fun c13 => ?_)
   ·have c13 : 60 ≤ mAs := (nI_leI (a := 60) (b := mAs) (by omega) (by omega)).mp c13
    refine lv_iconst (v := nI 0) hx hb dX11_mayAsk_20 (by decide) ?_
    exact retSz hx hb hr hlocks (by decide) (by first | exact zI_1 (decide_eq_true (by omega)) | exact zI_0 (decide_eq_false (by omega))) dX11_mayAsk_21
   ·have c13 : ¬ 60 ≤ mAs := fun h9 => c13 ((nI_leI (a := 60) (b := mAs) (by omega) (by omega)).mpr h9)
    refine lv_iconst (v := nI 1) hx hb dX11_mayAsk_16 (by decide) ?_
    refine lv_goto (tgt := 21) hx hb dX11_mayAsk_17 (by decide) ?_
    exact retSz hx hb hr hlocks (by decide) (by first | exact zI_1 (decide_eq_true (by omega)) | exact zI_0 (decide_eq_false (by omega))) dX11_mayAsk_21
