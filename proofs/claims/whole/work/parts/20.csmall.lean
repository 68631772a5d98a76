/-! the class's numbers -/
def kB (B : Nat → Nat) (f b v : Nat) : Nat → Nat := cond (decide (0 < v ∧ f < 20)) (updN B f b) B
def kW (w : Nat → Nat) (f v : Nat) : Nat → Nat := cond (decide (0 < v ∧ f < 20)) (updN w f v) w
def kF (f v : Nat) : Nat := cond (decide (0 < v ∧ f < 20)) (f + 1) f
def smN (w : Nat → Nat) (n : Nat) : Nat := fo (fun a i => a + w i) 0 n
def smB (B w : Nat → Nat) (e n : Nat) : Nat := fo (fun a i => if (B i).testBit e then a + w i else a) 0 n
theorem smB_le (B w : Nat → Nat) (e : Nat) : ∀ n, smB B w e n ≤ smN w n
  | 0 => Nat.le_refl _
  | n + 1 => by
    have h := smB_le B w e n
    show (if (B n).testBit e then smB B w e n + w n else smB B w e n) ≤ smN w n + w n
    split <;> omega
theorem smN_le {w : Nat → Nat} {n i : Nat} (h : i < n) : w i ≤ smN w n := by
  induction n with
  | zero => omega
  | succ n ih =>
    show w i ≤ smN w n + w n
    rcases Nat.lt_or_ge i n with q | q
    · have := ih q; omega
    · have : i = n := by omega
      subst this; omega
def cbS (B w : Nat → Nat) (e n x y : Nat) : Bool := decide (0 < smB B w e n * x + (smN w n - smB B w e n) * y)
abbrev TS : Type := (Nat → Nat) × (Nat → Nat) × Nat
def kpS (s : TS) (b v : Nat) : TS := (kB s.1 s.2.2 b v, kW s.2.1 s.2.2 v, kF s.2.2 v)
def wgF (e x y : Nat) : TS → Nat → TS := fun s i => kpS s (s.1 i) (s.2.1 i * (if (s.1 i).testBit e then x else y))
def wgS (e x y : Nat) (B w : Nat → Nat) (n : Nat) : TS := fo (wgF e x y) (B, w, 0) n
theorem kF_le {f v : Nat} : kF f v ≤ f + 1 := by unfold kF; cases decide (0 < v ∧ f < 20) <;> simp
theorem kB_n {B : Nat → Nat} {f b v j : Nat} (h : f < j) : kB B f b v j = B j := by
  unfold kB; cases decide (0 < v ∧ f < 20)
  · rfl
  · exact updN_n (by omega)
theorem kW_n {w : Nat → Nat} {f v j : Nat} (h : f < j) : kW w f v j = w j := by
  unfold kW; cases decide (0 < v ∧ f < 20)
  · rfl
  · exact updN_n (by omega)
theorem wgS_keep (e x y : Nat) (B w : Nat → Nat) : ∀ i, (wgS e x y B w i).2.2 ≤ i ∧ ∀ j, i ≤ j → (wgS e x y B w i).1 j = B j ∧ (wgS e x y B w i).2.1 j = w j
  | 0 => ⟨Nat.le_refl _, fun _ _ => ⟨rfl, rfl⟩⟩
  | i + 1 => by
    obtain ⟨h1, h2⟩ := wgS_keep e x y B w i
    refine ⟨Nat.le_trans kF_le (Nat.succ_le_succ h1), fun j hj => ?_⟩
    have h3 := h2 j (by omega)
    have h4 : (wgS e x y B w i).2.2 < j := by omega
    exact ⟨(kB_n h4).trans h3.1, (kW_n h4).trans h3.2⟩
theorem wgS_lt {e x y : Nat} {B w : Nat → Nat} {N : Nat} (hB : ∀ j, B j < N) : ∀ i j, (wgS e x y B w i).1 j < N
  | 0, j => hB j
  | i + 1, j => by
    have h := wgS_lt (e := e) (x := x) (y := y) (w := w) hB i
    show kB (wgS e x y B w i).1 _ _ _ j < N
    unfold kB; cases decide (0 < _ ∧ _ < 20)
    · exact h j
    · show updN _ _ _ j < N
      unfold updN; split
      · exact h _
      · exact h j
def hbF (hh : Nat → Nat) (b : Nat) : Nat → Nat → Nat := fun a e => if b.testBit e then a * hh e else a
def hbP (hh : Nat → Nat) (E b : Nat) : Nat := fo (hbF hh b) 1 E
def bgF (hh : Nat → Nat) (E B : Nat) : TS → Nat → TS := fun s b => if popS b 6 = B then kpS s b (hbP hh E b) else s
def bgS (hh : Nat → Nat) (E B : Nat) (fB fW : Nat → Nat) (n : Nat) : TS := fo (bgF hh E B) (fB, fW, 0) n
theorem bgS_le (hh : Nat → Nat) (E B : Nat) (fB fW : Nat → Nat) : ∀ n, (bgS hh E B fB fW n).2.2 ≤ n
  | 0 => Nat.le_refl _
  | n + 1 => by
    have h := bgS_le hh E B fB fW n
    show (bgF hh E B (bgS hh E B fB fW n) n).2.2 ≤ n + 1
    unfold bgF; split
    · exact Nat.le_trans kF_le (Nat.succ_le_succ h)
    · omega
theorem kF_20 {f v : Nat} (h : f ≤ 20) : kF f v ≤ 20 := by
  unfold kF
  cases hd : decide (0 < v ∧ f < 20)
  · exact h
  · have := of_decide_eq_true hd; show f + 1 ≤ 20; omega
theorem bgS_20 (hh : Nat → Nat) (E B : Nat) (fB fW : Nat → Nat) : ∀ n, (bgS hh E B fB fW n).2.2 ≤ 20
  | 0 => by show 0 ≤ 20; decide
  | n + 1 => by
    have h := bgS_20 hh E B fB fW n
    show (bgF hh E B (bgS hh E B fB fW n) n).2.2 ≤ 20
    unfold bgF; split
    · exact kF_20 h
    · exact h
def hvF (w : Nat → Nat) : Nat → Nat → Nat := fun b k => if w b < w (k + 1) then k + 1 else b
theorem hv_le (w : Nat → Nat) : ∀ k, fo (hvF w) 0 k ≤ k
  | 0 => Nat.le_refl _
  | k + 1 => by
    have h := hv_le w k
    show (if w (fo (hvF w) 0 k) < w (k + 1) then k + 1 else fo (hvF w) 0 k) ≤ k + 1
    split <;> omega
def srB (B : Nat → Nat) (m n : Nat) : Nat := fo (fun a i => a &&& B i) m n
def srN (B : Nat → Nat) (m n : Nat) : Nat := fo (fun a i => andn a (B i)) m n
theorem srN_le (B : Nat → Nat) (m n : Nat) : srN B m n ≤ m := fo_le (fun a b => andn_le _ _) m n
def hrG (B : Nat → Nat) (ib r : Nat) : Nat → Bool := fun i => decide (r ≤ popS (andn ib (B i)) 6)
def hrB (B : Nat → Nat) (ib r n : Nat) : Bool := decide (ff (hrG B ib r) n 0 = n)
/-- the egg at a place among those in the box -/
def eap (ib p : Nat) : Nat → Nat → Nat → Int32
  | 0, _, _ => -1
  | n + 1, e, a => if ib.testBit e then (if a = p then nI e else eap ib p n (e + 1) (a + 1)) else eap ib p n (e + 1) a
theorem eap_z {ib p n e a : Nat} (h : ib.testBit e = false) (he : e < n) : eap ib p (n - (e + 1)) (e + 1) a = eap ib p (n - e) e a := by
  rw [show n - e = (n - (e + 1)) + 1 by omega, eap, if_neg (by rw [h]; decide)]
theorem eap_n {ib p n e a : Nat} (h : ib.testBit e = true) (ha : ¬ a = p) (he : e < n) : eap ib p (n - (e + 1)) (e + 1) (a + 1) = eap ib p (n - e) e a := by
  rw [show n - e = (n - (e + 1)) + 1 by omega, eap, if_pos h, if_neg ha]
theorem eap_r {ib p n e a : Nat} (h : ib.testBit e = true) (ha : a = p) (he : e < n) : eap ib p (n - e) e a = nI e := by
  rw [show n - e = (n - (e + 1)) + 1 by omega, eap, if_pos h, if_pos ha]
theorem eap_e {ib p n e a : Nat} (he : n ≤ e) : eap ib p (n - e) e a = -1 := by
  rw [show n - e = 0 by omega]; rfl
def cpN {α : Type} (f h : Nat → α) (n : Nat) : Nat → α := fun j => if j < n then f j else h j
theorem cpy_nI (f h : Nat → Nat) (n : Nat) : va_cpy (fun j => nI (f j)) (fun j => nI (h j)) 0 0 n = fun j => nI (cpN f h n j) := by
  funext j
  unfold va_cpy cpN
  by_cases hj : j < n <;> simp [hj]
theorem cpy_lN (f h : Nat → Nat) (n : Nat) : va_cpy (fun j => lN (f j)) (fun j => lN (h j)) 0 0 n = fun j => lN (cpN f h n j) := by
  funext j
  unfold va_cpy cpN
  by_cases hj : j < n <;> simp [hj]
theorem cpy_raw (f h : Nat → Int32) (n : Nat) : va_cpy f h 0 0 n = cpN f h n := by
  funext j
  unfold va_cpy cpN
  by_cases hj : j < n <;> simp [hj]
def rdH (cp : Nat → Nat) : (Nat → Nat) → Nat → (Nat → Nat) := fun h e => updN h e (cp (7 + e) - 48)
theorem kOK_d {cp : Nat → Nat} {n : Nat} (hcp : ∀ k, cp k < 128) (h : kOK cp n = true) : kDig cp n ∧ n = 7 + (cp 0 - 48) ∧ 9 ≤ n := by
  have h := of_decide_eq_true h
  exact ⟨kDig_of hcp h.1 h.2.1, h.2.2, h.2.1⟩
theorem wk_t {cp : Nat → Nat} {n : Nat} (hcp : ∀ k, cp k < 128) (hn14 : n ≤ 14) (h7 : ¬ n ≤ 7) (h1 : nI n = nI 7 + fg cp 0) (h2 : ff (mGood cp) n 0 = n) : kOK cp n = true := by
  have g0 := ff_all (G := mGood cp) (n := n) (k := 0) (by rw [h2]; rfl) 0 (by omega) (by omega)
  have g0 := wth_fg (pg := cp) (k := 0) (a := 2) (b := 6) g0 (hcp 0)
  rw [fg_nI (by omega), nI_add] at h1
  have h4 := (nI_eq (by omega) (by omega)).mp h1
  exact decide_eq_true ⟨h2, by omega, h4⟩
set_option maxHeartbeats 4000000 in
set_option maxRecDepth 100000 in
/-- BoiledEggs$Draws.<init>  -/
theorem k_X3_init (l : Launch) (g : GG) (sz : Nat) (oD : Nat)  : Met l yX3_init wsX3_init ({ frames := 1, cells := 0, slots := 0, locals := 20 }) (pM g sz [.ref oD] [(oD, .inr (3, [.long 0]))]) (qMv g (fun (_ : Unit) => True) (fun (_ : Unit) => [(oD, .inr (3, [.long (lN 0)]))]) (va_A [(oD, .inr (3, [.long 0]))] sz)) 0 0 (va_A [(oD, .inr (3, [.long 0]))] sz) := by
  refine metM (Qf := fun A => (qMv g (fun (_ : Unit) => True) (fun (_ : Unit) => [(oD, .inr (3, [.long (lN 0)]))]) A)) (cc := cX3_init) (maxL := 1) (ret := none) (by decide) rfl (Nat.le_of_ble_eq_true rfl) ?_
  intro p e s m below meth c hx hb hr hts hown hlocks hml hin0 hC A hA hP hD hS ls hl
  have hl : lv_has ls 1 [(0, .ref oD)] := hl
  have hown : s.vm.findClass RX3 = some m.cls := hown
  have hts : ∀ w ∈ wsX3_init, w.before ([.ref oD] : List Value).toArray s = true := hts
  have lo1 := hts (.methodLink RX3 1 objectInit) (by decide +kernel)
  have oi := hts (.instanceMethod objectInit) (by decide +kernel)
  have oc := hts (.code objectInit ⟨#[0xb1]⟩ 1 none) (by decide +kernel)
  refine lv_aload_n hx hb dX3_init_0 rfl (lv_at hl 0 rfl) ?_
  refine W.objInit hx hb hown lo1 oi oc rfl (by rw [hml]; exact hl.1) rfl dX3_init_1 (Nat.le_of_ble_eq_true rfl) (Nat.le_of_ble_eq_true rfl) ?_
  refine W.eq (g2 := F0 m 4 ls []) rfl ?_
  exact retMv (w := [(oD, .inr (3, [.long 0]))]) hx hb hr hlocks (hP.sub [0] rfl) (hD.sub [0] (by decide) rfl) hS () (rfl) (trivial) dX3_init_4

set_option maxHeartbeats 4000000 in
set_option maxRecDepth 100000 in
/-- BoiledEggs$Draws.startFrom  -/
theorem k_X3_startFrom (l : Launch) (g : GG) (sz : Nat) (oD : Nat) (qS : Int64) (xs : Nat) (hs0 : xs < 2 ^ 31) : Met l yX3_startFrom wsX3_startFrom ({ frames := 0, cells := 0, slots := 0, locals := 0 }) (pM g sz [.ref oD, .int (nI xs)] [(oD, .inr (3, [.long qS]))]) (qMv g (fun (_ : Unit) => True) (fun (_ : Unit) => [(oD, .inr (3, [.long (lN xs)]))]) (va_A [(oD, .inr (3, [.long qS]))] sz)) 0 0 (va_A [(oD, .inr (3, [.long qS]))] sz) := by
  refine metM (Qf := fun A => (qMv g (fun (_ : Unit) => True) (fun (_ : Unit) => [(oD, .inr (3, [.long (lN xs)]))]) A)) (cc := cX3_startFrom) (maxL := 2) (ret := none) (by decide) rfl (Nat.le_of_ble_eq_true rfl) ?_
  intro p e s m below meth c hx hb hr hts hown hlocks hml hin0 hC A hA hP hD hS ls hl
  have hl : lv_has ls 2 [(0, .ref oD), (1, .int (nI xs))] := hl
  have hown : s.vm.findClass RX3 = some m.cls := hown
  have hts : ∀ w ∈ wsX3_startFrom, w.before ([.ref oD, .int (nI xs)] : List Value).toArray s = true := hts
  have hinX3 := (by decide +kernel : ∀ w ∈ u_ws RX3 TX3 1, w ∈ wsX3_startFrom)
  have f7 := hts (.fieldLink RX3 7 "BoiledEggs$Draws" "seed" "J") (by decide +kernel)
  refine lv_aload_n hx hb dX3_startFrom_0 rfl (lv_at hl 0 rfl) ?_
  refine lv_iload_n hx hb dX3_startFrom_1 rfl (lv_at hl 1 rfl) ?_
  refine lv_i2l (v := lN xs) hx hb dX3_startFrom_2 (nI_l (by omega)) ?_
  refine va_put (D := g.1) (ci := 3) (v := .long (lN xs)) (ty := .long) (C := RX3) (T := TX3) (N := 1) hx hb hts hinX3 tyX3 tyX3_ok nmX3 hown hC.1 hP hD hS 0 rfl rfl 0 (by decide) f7 (fun _ h9 => h9) rfl (by decide +kernel) rfl rfl (Nat.le_of_ble_eq_true rfl) dX3_startFrom_3 (fun H locs hP hD hS => ?_)
  have hP : va_P g.1 vwCl [(oD, .inr (3, [.long (lN xs)]))] H := hP
  have hD : va_D A [(oD, .inr (3, [.long (lN xs)]))] := hD
  exact retMv (w := [(oD, .inr (3, [.long (lN xs)]))]) hx hb hr hlocks (hP.sub [0] rfl) (hD.sub [0] (by decide) rfl) hS () (rfl) (trivial) dX3_startFrom_6

set_option maxHeartbeats 4000000 in
set_option maxRecDepth 100000 in
/-- BoiledEggs$Draws.next  -/
theorem k_X3_next (l : Launch) (g : GG) (sz : Nat) (oD : Nat) (xs : Nat) (xd : Nat) (hs0 : xs < 2147483648) (hd0 : 0 < xd) (hd1 : xd < 2 ^ 31) : Met l yX3_next wsX3_next ({ frames := 0, cells := 0, slots := 0, locals := 0 }) (pM g sz [.ref oD, .int (nI xd)] [(oD, .inr (3, [.long (lN xs)]))]) (qMi g (fun r (_ : Unit) => r = nI (drV (drS xs) xd)) (fun (_ : Unit) => [(oD, .inr (3, [.long (lN (drS xs))]))]) (va_A [(oD, .inr (3, [.long (lN xs)]))] sz)) 0 0 (va_A [(oD, .inr (3, [.long (lN xs)]))] sz) := by
  refine metM (Qf := fun A => (qMi g (fun r (_ : Unit) => r = nI (drV (drS xs) xd)) (fun (_ : Unit) => [(oD, .inr (3, [.long (lN (drS xs))]))]) A)) (cc := cX3_next) (maxL := 2) (ret := (some .int)) (by decide) rfl (Nat.le_of_ble_eq_true rfl) ?_
  intro p e s m below meth c hx hb hr hts hown hlocks hml hin0 hC A hA hP hD hS ls hl
  have hl : lv_has ls 2 [(0, .ref oD), (1, .int (nI xd))] := hl
  have hown : s.vm.findClass RX3 = some m.cls := hown
  have hts : ∀ w ∈ wsX3_next, w.before ([.ref oD, .int (nI xd)] : List Value).toArray s = true := hts
  have k13 := hts (.constantLong RX3 13 (1103515245)) (by decide +kernel)
  have hinX3 := (by decide +kernel : ∀ w ∈ u_ws RX3 TX3 1, w ∈ wsX3_next)
  have f7 := hts (.fieldLink RX3 7 "BoiledEggs$Draws" "seed" "J") (by decide +kernel)
  have k15 := hts (.constantLong RX3 15 (12345)) (by decide +kernel)
  have k17 := hts (.constantLong RX3 17 (2147483648)) (by decide +kernel)
  have k19 := hts (.constantLong RX3 19 (65536)) (by decide +kernel)
  refine lv_aload_n hx hb dX3_next_0 rfl (lv_at hl 0 rfl) ?_
  refine lv_ldc2 hx hb hown k13 dX3_next_1 ?_
  refine top_l (y := lN 1103515245) (by decide) ?_
  refine lv_aload_n hx hb dX3_next_4 rfl (lv_at hl 0 rfl) ?_
  refine va_get (D := g.1) (ci := 3) (v := .long (lN xs)) (C := RX3) (T := TX3) (N := 1) hx hb hts hinX3 hown hC.1 hP 0 rfl rfl 0 (by decide) f7 (fun _ h9 => h9) rfl dX3_next_5 ?_
  refine lv_lmul hx hb dX3_next_8 ?_
  refine top_l (y := lN (1103515245 * xs)) (lN_mul _ _) ?_
  refine lv_ldc2 hx hb hown k15 dX3_next_9 ?_
  refine top_l (y := lN 12345) (by decide) ?_
  refine lv_ladd hx hb dX3_next_12 ?_
  refine top_l (y := lN ((1103515245 * xs) + 12345)) (lN_add _ _) ?_
  refine lv_ldc2 hx hb hown k17 dX3_next_13 ?_
  refine top_l (y := lN 2147483648) (by decide) ?_
  refine lv_lrem hx hb dX3_next_16 (by decide) ?_
  refine top_l (y := lN (drS xs)) (pk_lRem (by omega) (by decide) (by decide)) ?_
  refine va_put (D := g.1) (ci := 3) (v := .long (lN (drS xs))) (ty := .long) (C := RX3) (T := TX3) (N := 1) hx hb hts hinX3 tyX3 tyX3_ok nmX3 hown hC.1 hP hD hS 0 rfl rfl 0 (by decide) f7 (fun _ h9 => h9) rfl (by decide +kernel) rfl rfl (Nat.le_of_ble_eq_true rfl) dX3_next_17 (fun H locs hP hD hS => ?_)
  have hP : va_P g.1 vwCl [(oD, .inr (3, [.long (lN (drS xs))]))] H := hP
  have hD : va_D A [(oD, .inr (3, [.long (lN (drS xs))]))] := hD
  refine lv_iload_n hx hb dX3_next_20 rfl (lv_at hl 1 rfl) ?_
  refine lv_if_le (tgt := 39) hx hb dX3_next_21 (by decide) (fun hz => absurd hz (nI_nle hd0 hd1)) (fun _ => ?_)
  refine lv_aload_n hx hb dX3_next_24 rfl (lv_at hl 0 rfl) ?_
  refine va_get (D := g.1) (ci := 3) (v := .long (lN (drS xs))) (C := RX3) (T := TX3) (N := 1) hx hb hts hinX3 hown hC.1 hP 0 rfl rfl 0 (by decide) f7 (fun _ h9 => h9) rfl dX3_next_25 ?_
  refine lv_ldc2 hx hb hown k19 dX3_next_28 ?_
  refine top_l (y := lN 65536) (by decide) ?_
  refine lv_ldiv hx hb dX3_next_31 (by decide) ?_
  refine top_l (y := lN (drS xs / 65536)) (pk_lDiv (by have := drS_lt xs; omega) (by decide) (by decide)) ?_
  refine lv_iload_n hx hb dX3_next_32 rfl (lv_at hl 1 rfl) ?_
  refine lv_i2l (v := lN xd) hx hb dX3_next_33 (nI_l (by omega)) ?_
  refine lv_lrem hx hb dX3_next_34 (fun h9 => (show ¬ xd = 0 by omega) ((pk_lEQ (by omega) (by decide)).mp h9)) ?_
  refine top_l (y := lN (drS xs / 65536 % xd)) (pk_lRem (by have := drS_lt xs; omega) hd0 (by omega)) ?_
  refine lv_l2i (v := nI (drS xs / 65536 % xd)) hx hb dX3_next_35 (lN_i _) ?_
  refine lv_goto (tgt := 40) hx hb dX3_next_36 (by decide) ?_
  exact retMi (w := [(oD, .inr (3, [.long (lN (drS xs))]))]) hx hb hr hlocks (hP.sub [0] rfl) (hD.sub [0] (by decide) rfl) hS () (rfl) (rfl) dX3_next_40

set_option maxHeartbeats 4000000 in
set_option maxRecDepth 100000 in
/-- BoiledEggs$Page.<init>  -/
theorem k_X7_init (l : Launch) (g : GG) (sz : Nat) (oP : Nat)  : Met l yX7_init wsX7_init ({ frames := 1, cells := 1, slots := 14, locals := 20 }) (pM g sz [.ref oP] [(oP, .inr (7, [.null, .int 0]))]) (qMv g (fun (_ : Nat) => True) (fun (u : Nat) => [(oP, .inr (7, [.ref u, .int (nI 0)])), (u, .inl (g.2.1, 14, .inl (fun j => nI (zz j))))]) (va_A [(oP, .inr (7, [.null, .int 0]))] sz)) 1 14 (va_A [(oP, .inr (7, [.null, .int 0]))] sz) := by
  refine metM (Qf := fun A => (qMv g (fun (_ : Nat) => True) (fun (u : Nat) => [(oP, .inr (7, [.ref u, .int (nI 0)])), (u, .inl (g.2.1, 14, .inl (fun j => nI (zz j))))]) A)) (cc := cX7_init) (maxL := 1) (ret := none) (by decide) rfl (Nat.le_of_ble_eq_true rfl) ?_
  intro p e s m below meth c hx hb hr hts hown hlocks hml hin0 hC A hA hP hD hS ls hl
  have hl : lv_has ls 1 [(0, .ref oP)] := hl
  have hown : s.vm.findClass RX7 = some m.cls := hown
  have hts : ∀ w ∈ wsX7_init, w.before ([.ref oP] : List Value).toArray s = true := hts
  have lo3 := hts (.methodLink RX7 3 objectInit) (by decide +kernel)
  have oi := hts (.instanceMethod objectInit) (by decide +kernel)
  have oc := hts (.code objectInit ⟨#[0xb1]⟩ 1 none) (by decide +kernel)
  have acint := hts (.arrayClass .int) (by decide +kernel)
  have hinX7 := (by decide +kernel : ∀ w ∈ u_ws RX7 TX7 2, w ∈ wsX7_init)
  have f9 := hts (.fieldLink RX7 9 "BoiledEggs$Page" "codes" "[I") (by decide +kernel)
  refine lv_aload_n hx hb dX7_init_0 rfl (lv_at hl 0 rfl) ?_
  refine W.objInit hx hb hown lo3 oi oc rfl (by rw [hml]; exact hl.1) rfl dX7_init_1 (Nat.le_of_ble_eq_true rfl) (Nat.le_of_ble_eq_true rfl) ?_
  refine W.eq (g2 := F0 m 4 ls []) rfl ?_
  refine lv_aload_n hx hb dX7_init_4 rfl (lv_at hl 0 rfl) ?_
  refine lv_bipush (v := nI 14) hx hb dX7_init_5 (by decide) ?_
  refine new_i (N := 14) hx hb hC acint hP hD hS hA (by decide) (by decide) (by decide) (Nat.le_of_ble_eq_true rfl) (Nat.le_of_ble_eq_true rfl) dX7_init_7 (fun q_1 H hP hD hS => ?_)
  have hP : va_P g.1 vwCl [(oP, .inr (7, [.null, .int 0])), (q_1, .inl (g.2.1, 14, .inl (fun _ => 0)))] H := hP
  have hD : va_D A [(oP, .inr (7, [.null, .int 0])), (q_1, .inl (g.2.1, 14, .inl (fun _ => 0)))] := hD
  refine W.widen (k := 1) (n := 14) (Nat.le_of_ble_eq_true rfl) (Nat.le_of_ble_eq_true rfl) ?_
  refine va_putF (D := g.1) (ci := 7) (v := .ref q_1) (ty := .array .int) (C := RX7) (T := TX7) (N := 2) hx hb hts hinX7 tyX7 tyX7_ok nmX7 hown hC.1 hP hD hS 0 rfl rfl 0 (by decide) f9 (fun _ h9 => h9) rfl hin0 rfl (by decide +kernel) rfl rfl (Nat.le_of_ble_eq_true rfl) dX7_init_9 (fun H locs hP hD hS => ?_)
  have hP : va_P g.1 vwCl [(oP, .inr (7, [.ref q_1, .int 0])), (q_1, .inl (g.2.1, 14, .inl (fun _ => 0)))] H := hP
  have hD : va_D A [(oP, .inr (7, [.ref q_1, .int 0])), (q_1, .inl (g.2.1, 14, .inl (fun _ => 0)))] := hD
  refine W.widen (k := 1) (n := 14) (Nat.le_of_ble_eq_true rfl) (Nat.le_of_ble_eq_true rfl) ?_
  exact retMv (w := [(oP, .inr (7, [.ref q_1, .int 0])), (q_1, .inl (g.2.1, 14, .inl (fun _ => 0)))]) hx hb hr hlocks (hP.sub [0, 1] rfl) (hD.sub [0, 1] (by decide) rfl) hS q_1 (rfl) (trivial) dX7_init_12

set_option maxHeartbeats 4000000 in
set_option maxRecDepth 100000 in
/-- BoiledEggs$Page.isFull  -/
theorem k_X7_isFull (l : Launch) (g : GG) (oP : Nat) (aC : Nat) (cN : Nat) (hn0 : cN ≤ 14) : Met l yX7_isFull wsX7_isFull ({ frames := 0, cells := 0, slots := 0, locals := 0 }) (pS g [.ref oP] [(oP, .inr (7, [.ref aC, .int (nI cN)]))]) (vp_Si (fun r => r = (zI (decide (14 ≤ cN))))) 0 0 noF := by
  refine metS (cc := cX7_isFull) (maxL := 1) (ret := (some .boolean)) (by decide) rfl (Nat.le_of_ble_eq_true rfl) ?_
  intro p e s m below meth c hx hb hr hts hown hlocks hml hC hP ls hl
  have hl : lv_has ls 1 [(0, .ref oP)] := hl
  have hown : s.vm.findClass RX7 = some m.cls := hown
  have hts : ∀ w ∈ wsX7_isFull, w.before ([.ref oP] : List Value).toArray s = true := hts
  have hinX7 := (by decide +kernel : ∀ w ∈ u_ws RX7 TX7 2, w ∈ wsX7_isFull)
  have f15 := hts (.fieldLink RX7 15 "BoiledEggs$Page" "size" "I") (by decide +kernel)
  refine lv_aload_n hx hb dX7_isFull_0 rfl (lv_at hl 0 rfl) ?_
  refine va_get (D := g.1) (ci := 7) (v := .int (nI cN)) (C := RX7) (T := TX7) (N := 2) hx hb hts hinX7 hown hC.1 hP 0 rfl rfl 1 (by decide) f15 (fun _ h9 => h9) rfl dX7_isFull_1 ?_
  refine lv_bipush (v := nI 14) hx hb dX7_isFull_4 (by decide) ?_
  refine lv_icmp_lt (tgt := 13) hx hb dX7_isFull_6 (by decide) (fun c6 => ?_) (fun c6 => ?_)
  ·have c6 : cN < 14 := (nI_ltI (a := cN) (b := 14) (by omega) (by omega)).mp c6
   refine lv_iconst (v := nI 0) hx hb dX7_isFull_13 (by decide) ?_
   exact retSz hx hb hr hlocks (by decide) (by first | exact zI_1 (decide_eq_true (by omega)) | exact zI_0 (decide_eq_false (by omega))) dX7_isFull_14
  ·have c6 : ¬ cN < 14 := fun h9 => c6 ((nI_ltI (a := cN) (b := 14) (by omega) (by omega)).mpr h9)
   refine lv_iconst (v := nI 1) hx hb dX7_isFull_9 (by decide) ?_
   refine lv_goto (tgt := 14) hx hb dX7_isFull_10 (by decide) ?_
   exact retSz hx hb hr hlocks (by decide) (by first | exact zI_1 (decide_eq_true (by omega)) | exact zI_0 (decide_eq_false (by omega))) dX7_isFull_14

set_option maxHeartbeats 4000000 in
set_option maxRecDepth 100000 in
/-- BoiledEggs$Page.append  -/
theorem k_X7_append (l : Launch) (g : GG) (sz : Nat) (oP : Nat) (aC : Nat) (cN : Nat) (cp : Nat → Nat) (xc : Nat) (hn0 : cN < 14) : Met l yX7_append wsX7_append ({ frames := 1, cells := 0, slots := 0, locals := 20 }) (pM g sz [.ref oP, .int (nI xc)] [(oP, .inr (7, [.ref aC, .int (nI cN)])), (aC, .inl (g.2.1, 14, .inl (fun j => nI (cp j))))]) (qMi g (fun r (_ : Unit) => r = nI (cN + 1)) (fun (_ : Unit) => [(oP, .inr (7, [.ref aC, .int (nI (cN + 1))])), (aC, .inl (g.2.1, 14, .inl (fun j => nI (updN cp cN xc j))))]) (va_A [(oP, .inr (7, [.ref aC, .int (nI cN)])), (aC, .inl (g.2.1, 14, .inl (fun j => nI (cp j))))] sz)) 0 0 (va_A [(oP, .inr (7, [.ref aC, .int (nI cN)])), (aC, .inl (g.2.1, 14, .inl (fun j => nI (cp j))))] sz) := by
  refine metM (Qf := fun A => (qMi g (fun r (_ : Unit) => r = nI (cN + 1)) (fun (_ : Unit) => [(oP, .inr (7, [.ref aC, .int (nI (cN + 1))])), (aC, .inl (g.2.1, 14, .inl (fun j => nI (updN cp cN xc j))))]) A)) (cc := cX7_append) (maxL := 2) (ret := (some .int)) (by decide) rfl (Nat.le_of_ble_eq_true rfl) ?_
  intro p e s m below meth c hx hb hr hts hown hlocks hml hin0 hC A hA hP hD hS ls hl
  have hl : lv_has ls 2 [(0, .ref oP), (1, .int (nI xc))] := hl
  have hown : s.vm.findClass RX7 = some m.cls := hown
  have hts : ∀ w ∈ wsX7_append, w.before ([.ref oP, .int (nI xc)] : List Value).toArray s = true := hts
  have hinX7 := (by decide +kernel : ∀ w ∈ u_ws RX7 TX7 2, w ∈ wsX7_append)
  have f9 := hts (.fieldLink RX7 9 "BoiledEggs$Page" "codes" "[I") (by decide +kernel)
  have f15 := hts (.fieldLink RX7 15 "BoiledEggs$Page" "size" "I") (by decide +kernel)
  refine lv_aload_n hx hb dX7_append_0 rfl (lv_at hl 0 rfl) ?_
  refine goSi (T := zI (decide (14 ≤ cN))) (va_runV (As := []) (rest := []) ⟨hx, hb, hml, hown, hts⟩ (k_X7_isFull l g oP aC cN (by first | assumption | exact Nat.zero_le _ | omega)) (cwV 0 hts gX7_append_X7_isFull rfl rfl rfl ⟨rfl, hdX7_isFull⟩ ⟨Nat.le_of_ble_eq_true rfl, Nat.le_of_ble_eq_true rfl⟩) (preVS hC (hP.sub [0] rfl) (va_recv hC.1 hP (ci := 7) (q0 := 0) rfl rfl)) rfl rfl hl.1 rfl (lv_room (Nat.le_of_ble_eq_true rfl)) dX7_append_1 ⟨Nat.le_of_ble_eq_true rfl, Nat.le_of_ble_eq_true rfl⟩) ?_
  refine lv_if_ne (tgt := 24) hx hb dX7_append_4 (by decide) (fun hz => absurd hz (zI_n0 (decide_eq_false (by omega)))) (fun _ => ?_)
  refine lv_aload_n hx hb dX7_append_7 rfl (lv_at hl 0 rfl) ?_
  refine va_get (D := g.1) (ci := 7) (v := .ref aC) (C := RX7) (T := TX7) (N := 2) hx hb hts hinX7 hown hC.1 hP 0 rfl rfl 0 (by decide) f9 (fun _ h9 => h9) rfl dX7_append_8 ?_
  refine lv_aload_n hx hb dX7_append_11 rfl (lv_at hl 0 rfl) ?_
  refine lv_dup hx hb dX7_append_12 rfl ?_
  refine va_get (D := g.1) (ci := 7) (v := .int (nI cN)) (C := RX7) (T := TX7) (N := 2) hx hb hts hinX7 hown hC.1 hP 0 rfl rfl 1 (by decide) f15 (fun _ h9 => h9) rfl dX7_append_13 ?_
  refine lv_dup_x1 hx hb dX7_append_16 rfl rfl ?_
  refine lv_iconst (v := nI 1) hx hb dX7_append_17 (by decide) ?_
  refine lv_iadd hx hb dX7_append_18 ?_
  refine top_i (y := nI (cN + 1)) (nI_add _ _) ?_
  refine va_put (D := g.1) (ci := 7) (v := .int (nI (cN + 1))) (ty := .int) (C := RX7) (T := TX7) (N := 2) hx hb hts hinX7 tyX7 tyX7_ok nmX7 hown hC.1 hP hD hS 0 rfl rfl 1 (by decide) f15 (fun _ h9 => h9) rfl (by decide +kernel) rfl rfl (Nat.le_of_ble_eq_true rfl) dX7_append_19 (fun H locs hP hD hS => ?_)
  have hP : va_P g.1 vwCl [(oP, .inr (7, [.ref aC, .int (nI (cN + 1))])), (aC, .inl (g.2.1, 14, .inl (fun j => nI (cp j))))] H := hP
  have hD : va_D A [(oP, .inr (7, [.ref aC, .int (nI (cN + 1))])), (aC, .inl (g.2.1, 14, .inl (fun j => nI (cp j))))] := hD
  refine lv_iload_n hx hb dX7_append_22 rfl (lv_at hl 1 rfl) ?_
  refine ast_in (f := cp) (j := cN) (v := xc) hx hb hC hP hD hS 1 rfl (by omega) (by decide) dX7_append_23 (fun H locs hP hD hS => ?_)
  have hP : va_P g.1 vwCl [(oP, .inr (7, [.ref aC, .int (nI (cN + 1))])), (aC, .inl (g.2.1, 14, .inl (fun j => nI (updN cp cN xc j))))] H := hP
  have hD : va_D A [(oP, .inr (7, [.ref aC, .int (nI (cN + 1))])), (aC, .inl (g.2.1, 14, .inl (fun j => nI (updN cp cN xc j))))] := hD
  refine lv_aload_n hx hb dX7_append_24 rfl (lv_at hl 0 rfl) ?_
  refine va_get (D := g.1) (ci := 7) (v := .int (nI (cN + 1))) (C := RX7) (T := TX7) (N := 2) hx hb hts hinX7 hown hC.1 hP 0 rfl rfl 1 (by decide) f15 (fun _ h9 => h9) rfl dX7_append_25 ?_
  exact retMi (w := [(oP, .inr (7, [.ref aC, .int (nI (cN + 1))])), (aC, .inl (g.2.1, 14, .inl (fun j => nI (updN cp cN xc j))))]) hx hb hr hlocks (hP.sub [0, 1] rfl) (hD.sub [0, 1] (by decide) rfl) hS () (rfl) (rfl) dX7_append_28

set_option maxHeartbeats 4000000 in
set_option maxRecDepth 100000 in
/-- BoiledEggs$Page.clear  -/
theorem k_X7_clear (l : Launch) (g : GG) (sz : Nat) (oP : Nat) (aC : Nat) (cN : Nat)  : Met l yX7_clear wsX7_clear ({ frames := 0, cells := 0, slots := 0, locals := 0 }) (pM g sz [.ref oP] [(oP, .inr (7, [.ref aC, .int (nI cN)]))]) (qMi g (fun r (_ : Unit) => r = nI cN) (fun (_ : Unit) => [(oP, .inr (7, [.ref aC, .int (nI 0)]))]) (va_A [(oP, .inr (7, [.ref aC, .int (nI cN)]))] sz)) 0 0 (va_A [(oP, .inr (7, [.ref aC, .int (nI cN)]))] sz) := by
  refine metM (Qf := fun A => (qMi g (fun r (_ : Unit) => r = nI cN) (fun (_ : Unit) => [(oP, .inr (7, [.ref aC, .int (nI 0)]))]) A)) (cc := cX7_clear) (maxL := 2) (ret := (some .int)) (by decide) rfl (Nat.le_of_ble_eq_true rfl) ?_
  intro p e s m below meth c hx hb hr hts hown hlocks hml hin0 hC A hA hP hD hS ls hl
  have hl : lv_has ls 2 [(0, .ref oP)] := hl
  have hown : s.vm.findClass RX7 = some m.cls := hown
  have hts : ∀ w ∈ wsX7_clear, w.before ([.ref oP] : List Value).toArray s = true := hts
  have hinX7 := (by decide +kernel : ∀ w ∈ u_ws RX7 TX7 2, w ∈ wsX7_clear)
  have f15 := hts (.fieldLink RX7 15 "BoiledEggs$Page" "size" "I") (by decide +kernel)
  refine lv_aload_n hx hb dX7_clear_0 rfl (lv_at hl 0 rfl) ?_
  refine va_get (D := g.1) (ci := 7) (v := .int (nI cN)) (C := RX7) (T := TX7) (N := 2) hx hb hts hinX7 hown hC.1 hP 0 rfl rfl 1 (by decide) f15 (fun _ h9 => h9) rfl dX7_clear_1 ?_
  refine lv_istore_n (lv' := [(1, .int (nI cN)), (0, .ref oP)]) hx hb dX7_clear_4 rfl hl (by decide) rfl (fun ls hl => ?_)
  refine lv_aload_n hx hb dX7_clear_5 rfl (lv_at hl 1 rfl) ?_
  refine lv_iconst (v := nI 0) hx hb dX7_clear_6 (by decide) ?_
  refine va_put (D := g.1) (ci := 7) (v := .int (nI 0)) (ty := .int) (C := RX7) (T := TX7) (N := 2) hx hb hts hinX7 tyX7 tyX7_ok nmX7 hown hC.1 hP hD hS 0 rfl rfl 1 (by decide) f15 (fun _ h9 => h9) rfl (by decide +kernel) rfl rfl (Nat.le_of_ble_eq_true rfl) dX7_clear_7 (fun H locs hP hD hS => ?_)
  have hP : va_P g.1 vwCl [(oP, .inr (7, [.ref aC, .int (nI 0)]))] H := hP
  have hD : va_D A [(oP, .inr (7, [.ref aC, .int (nI 0)]))] := hD
  refine lv_iload_n hx hb dX7_clear_10 rfl (lv_at hl 0 rfl) ?_
  exact retMi (w := [(oP, .inr (7, [.ref aC, .int (nI 0)]))]) hx hb hr hlocks (hP.sub [0] rfl) (hD.sub [0] (by decide) rfl) hS () (rfl) (rfl) dX7_clear_11

set_option maxHeartbeats 4000000 in
set_option maxRecDepth 100000 in
/-- BoiledEggs$Page.digit  -/
theorem k_X7_digit (l : Launch) (g : GG) (oP : Nat) (aC : Nat) (cN : Nat) (cp : Nat → Nat) (xp : Nat) (hp0 : xp < cN) (hn0 : cN ≤ 14) : Met l yX7_digit wsX7_digit ({ frames := 0, cells := 0, slots := 0, locals := 0 }) (pS g [.ref oP, .int (nI xp)] [(oP, .inr (7, [.ref aC, .int (nI cN)])), (aC, .inl (g.2.1, 14, .inl (fun j => nI (cp j))))]) (vp_Si (fun r => r = (fg cp xp))) 0 0 noF := by
  refine metS (cc := cX7_digit) (maxL := 2) (ret := (some .int)) (by decide) rfl (Nat.le_of_ble_eq_true rfl) ?_
  intro p e s m below meth c hx hb hr hts hown hlocks hml hC hP ls hl
  have hl : lv_has ls 2 [(0, .ref oP), (1, .int (nI xp))] := hl
  have hown : s.vm.findClass RX7 = some m.cls := hown
  have hts : ∀ w ∈ wsX7_digit, w.before ([.ref oP, .int (nI xp)] : List Value).toArray s = true := hts
  have hinX7 := (by decide +kernel : ∀ w ∈ u_ws RX7 TX7 2, w ∈ wsX7_digit)
  have f15 := hts (.fieldLink RX7 15 "BoiledEggs$Page" "size" "I") (by decide +kernel)
  have f9 := hts (.fieldLink RX7 9 "BoiledEggs$Page" "codes" "[I") (by decide +kernel)
  refine lv_iload_n hx hb dX7_digit_0 rfl (lv_at hl 1 rfl) ?_
  refine lv_if_lt (tgt := 24) hx hb dX7_digit_1 (by decide) (fun hz => absurd hz (nI_pos (by omega))) (fun _ => ?_)
  refine lv_iload_n hx hb dX7_digit_4 rfl (lv_at hl 1 rfl) ?_
  refine lv_aload_n hx hb dX7_digit_5 rfl (lv_at hl 0 rfl) ?_
  refine va_get (D := g.1) (ci := 7) (v := .int (nI cN)) (C := RX7) (T := TX7) (N := 2) hx hb hts hinX7 hown hC.1 hP 0 rfl rfl 1 (by decide) f15 (fun _ h9 => h9) rfl dX7_digit_6 ?_
  refine lv_icmp_ge (tgt := 24) hx hb dX7_digit_9 (by decide) (fun hz => absurd hz (nI_ge hp0 (by omega))) (fun _ => ?_)
  refine lv_aload_n hx hb dX7_digit_12 rfl (lv_at hl 0 rfl) ?_
  refine va_get (D := g.1) (ci := 7) (v := .ref aC) (C := RX7) (T := TX7) (N := 2) hx hb hts hinX7 hown hC.1 hP 0 rfl rfl 0 (by decide) f9 (fun _ h9 => h9) rfl dX7_digit_13 ?_
  refine lv_iload_n hx hb dX7_digit_16 rfl (lv_at hl 1 rfl) ?_
  refine ald_i (f := fun j => nI (cp j)) (j := xp) hx hb hC hP 1 rfl (by omega) (by decide) dX7_digit_17 ?_
  refine lv_bipush (v := nI 48) hx hb dX7_digit_18 (by decide) ?_
  refine lv_isub hx hb dX7_digit_20 ?_
  refine lv_goto (tgt := 25) hx hb dX7_digit_21 (by decide) ?_
  exact retSi hx hb hr hlocks (rfl) dX7_digit_25

set_option maxHeartbeats 4000000 in
set_option maxRecDepth 100000 in
/-- BoiledEggs$Page.isDigit  -/
theorem k_X7_isDigit (l : Launch) (g : GG) (oP : Nat) (aC : Nat) (cN : Nat) (cp : Nat → Nat) (xp : Nat) (xl : Int32) (xh : Int32) (hp0 : xp < cN) (hn0 : cN ≤ 14) : Met l yX7_isDigit wsX7_isDigit ({ frames := 1, cells := 0, slots := 0, locals := 21 }) (pS g [.ref oP, .int (nI xp), .int xl, .int xh] [(oP, .inr (7, [.ref aC, .int (nI cN)])), (aC, .inl (g.2.1, 14, .inl (fun j => nI (cp j))))]) (vp_Si (fun r => r = (zI (wth (fg cp xp) xl xh)))) 0 0 noF := by
  refine metS (cc := cX7_isDigit) (maxL := 5) (ret := (some .boolean)) (by decide) rfl (Nat.le_of_ble_eq_true rfl) ?_
  intro p e s m below meth c hx hb hr hts hown hlocks hml hC hP ls hl
  have hl : lv_has ls 5 [(0, .ref oP), (1, .int (nI xp)), (2, .int xl), (3, .int xh)] := hl
  have hown : s.vm.findClass RX7 = some m.cls := hown
  have hts : ∀ w ∈ wsX7_isDigit, w.before ([.ref oP, .int (nI xp), .int xl, .int xh] : List Value).toArray s = true := hts
  refine lv_aload_n hx hb dX7_isDigit_0 rfl (lv_at hl 0 rfl) ?_
  refine lv_iload_n hx hb dX7_isDigit_1 rfl (lv_at hl 1 rfl) ?_
  refine goSi (T := fg cp xp) (va_runV (As := [.int (nI xp)]) (rest := []) ⟨hx, hb, hml, hown, hts⟩ (k_X7_digit l g oP aC cN cp xp (by first | assumption | exact Nat.zero_le _ | omega) (by first | assumption | exact Nat.zero_le _ | omega)) (cwV 1 hts gX7_isDigit_X7_digit rfl rfl rfl ⟨rfl, hdX7_digit⟩ ⟨Nat.le_of_ble_eq_true rfl, Nat.le_of_ble_eq_true rfl⟩) (preVS hC (hP.sub [0, 1] rfl) (va_recv hC.1 hP (ci := 7) (q0 := 0) rfl rfl)) rfl rfl hl.1 rfl (lv_room (Nat.le_of_ble_eq_true rfl)) dX7_isDigit_2 ⟨Nat.le_of_ble_eq_true rfl, Nat.le_of_ble_eq_true rfl⟩) ?_
  refine lv_istore (lv' := [(4, .int (fg cp xp)), (0, .ref oP), (1, .int (nI xp)), (2, .int xl), (3, .int xh)]) hx hb dX7_isDigit_5 hl (by decide) rfl (fun ls hl => ?_)
  refine lv_iload hx hb dX7_isDigit_7 (lv_at hl 0 rfl) ?_
  refine lv_iload_n hx hb dX7_isDigit_9 rfl (lv_at hl 3 rfl) ?_
  refine lv_icmp_lt (tgt := 23) hx hb dX7_isDigit_10 (by decide) (fun c10 => ?_) (fun c10 => ?_)
  ·refine lv_iconst (v := nI 0) hx hb dX7_isDigit_23 (by decide) ?_
   exact retSz hx hb hr hlocks (by decide) (zI_0 (decide_eq_false (fun h9 => absurd h9.1 (Int32.not_le.mpr c10)))) dX7_isDigit_24
  ·refine lv_iload hx hb dX7_isDigit_13 (lv_at hl 0 rfl) ?_
   refine lv_iload_n hx hb dX7_isDigit_15 rfl (lv_at hl 4 rfl) ?_
   refine lv_icmp_gt (tgt := 23) hx hb dX7_isDigit_16 (by decide) (fun c16 => ?_) (fun c16 => ?_)
   ·refine lv_iconst (v := nI 0) hx hb dX7_isDigit_23 (by decide) ?_
    exact retSz hx hb hr hlocks (by decide) (zI_0 (decide_eq_false (fun h9 => absurd h9.2 (Int32.not_le.mpr c16)))) dX7_isDigit_24
   ·refine lv_iconst (v := nI 1) hx hb dX7_isDigit_19 (by decide) ?_
    refine lv_goto (tgt := 24) hx hb dX7_isDigit_20 (by decide) ?_
    exact retSz hx hb hr hlocks (by decide) (zI_1 (decide_eq_true ⟨Int32.not_lt.mp c10, Int32.not_lt.mp c16⟩)) dX7_isDigit_24

set_option maxHeartbeats 4000000 in
set_option maxRecDepth 100000 in
/-- BoiledEggs$Page.suits  -/
theorem k_X7_suits (l : Launch) (g : GG) (oP : Nat) (aC : Nat) (cN : Nat) (cp : Nat → Nat) (xk : Nat) (hk0 : xk < cN) (hn0 : cN ≤ 14) : Met l yX7_suits wsX7_suits ({ frames := 2, cells := 0, slots := 0, locals := 45 }) (pS g [.ref oP, .int (nI xk)] [(oP, .inr (7, [.ref aC, .int (nI cN)])), (aC, .inl (g.2.1, 14, .inl (fun j => nI (cp j))))]) (vp_Si (fun r => r = (zI (mGood cp xk)))) 0 0 noF := by
  refine metS (cc := cX7_suits) (maxL := 2) (ret := (some .boolean)) (by decide) rfl (Nat.le_of_ble_eq_true rfl) ?_
  intro p e s m below meth c hx hb hr hts hown hlocks hml hC hP ls hl
  have hl : lv_has ls 2 [(0, .ref oP), (1, .int (nI xk))] := hl
  have hown : s.vm.findClass RX7 = some m.cls := hown
  have hts : ∀ w ∈ wsX7_suits, w.before ([.ref oP, .int (nI xk)] : List Value).toArray s = true := hts
  have hinX7 := (by decide +kernel : ∀ w ∈ u_ws RX7 TX7 2, w ∈ wsX7_suits)
  have f9 := hts (.fieldLink RX7 9 "BoiledEggs$Page" "codes" "[I") (by decide +kernel)
  refine lv_iload_n hx hb dX7_suits_0 rfl (lv_at hl 1 rfl) ?_
  rcases sw_cases (nI xk) 7 (by decide) with ⟨k9, hk9, c1⟩ | c1
  ·have hk9 : k9 = 0 ∨ k9 = 1 ∨ k9 = 2 ∨ k9 = 3 ∨ k9 = 4 ∨ k9 = 5 ∨ k9 = 6 := by omega
   rcases hk9 with rfl | rfl | rfl | rfl | rfl | rfl | rfl
   ·obtain rfl : xk = 0 := (nI_eq (by omega) (by decide)).mp c1
    refine lv_tableIn (off := 43) (tgt := 44) hx hb dX7_suits_1 (by decide) (by decide) (by decide) (by decide) ?_
    refine lv_aload_n hx hb dX7_suits_44 rfl (lv_at hl 0 rfl) ?_
    refine lv_iload_n hx hb dX7_suits_45 rfl (lv_at hl 1 rfl) ?_
    refine lv_iconst (v := nI 2) hx hb dX7_suits_46 (by decide) ?_
    refine lv_bipush (v := nI 6) hx hb dX7_suits_47 (by decide) ?_
    refine goSi (T := zI (wth (fg cp 0) (nI 2) (nI 6))) (va_runV (As := [.int (nI 0), .int (nI 2), .int (nI 6)]) (rest := []) ⟨hx, hb, hml, hown, hts⟩ (k_X7_isDigit l g oP aC cN cp 0 (nI 2) (nI 6) (by first | assumption | exact Nat.zero_le _ | omega) (by first | assumption | exact Nat.zero_le _ | omega)) (cwV 3 hts gX7_suits_X7_isDigit rfl rfl rfl ⟨rfl, hdX7_isDigit⟩ ⟨Nat.le_of_ble_eq_true rfl, Nat.le_of_ble_eq_true rfl⟩) (preVS hC (hP.sub [0, 1] rfl) (va_recv hC.1 hP (ci := 7) (q0 := 0) rfl rfl)) rfl rfl hl.1 rfl (lv_room (Nat.le_of_ble_eq_true rfl)) dX7_suits_49 ⟨Nat.le_of_ble_eq_true rfl, Nat.le_of_ble_eq_true rfl⟩) ?_
    exact retSz hx hb hr hlocks (zI_or _) (rfl) dX7_suits_52
   ·obtain rfl : xk = 1 := (nI_eq (by omega) (by decide)).mp c1
    refine lv_tableIn (off := 52) (tgt := 53) hx hb dX7_suits_1 (by decide) (by decide) (by decide) (by decide) ?_
    refine lv_aload_n hx hb dX7_suits_53 rfl (lv_at hl 0 rfl) ?_
    refine lv_iload_n hx hb dX7_suits_54 rfl (lv_at hl 1 rfl) ?_
    refine lv_iconst (v := nI 0) hx hb dX7_suits_55 (by decide) ?_
    refine lv_aload_n hx hb dX7_suits_56 rfl (lv_at hl 0 rfl) ?_
    refine lv_iconst (v := nI 0) hx hb dX7_suits_57 (by decide) ?_
    refine goSi (T := fg cp 0) (va_runV (As := [.int (nI 0)]) (rest := [.int (nI 0), .int (nI 1), .ref oP]) ⟨hx, hb, hml, hown, hts⟩ (k_X7_digit l g oP aC cN cp 0 (by first | assumption | exact Nat.zero_le _ | omega) (by first | assumption | exact Nat.zero_le _ | omega)) (cwV 1 hts gX7_suits_X7_digit rfl rfl rfl ⟨rfl, hdX7_digit⟩ ⟨Nat.le_of_ble_eq_true rfl, Nat.le_of_ble_eq_true rfl⟩) (preVS hC (hP.sub [0, 1] rfl) (va_recv hC.1 hP (ci := 7) (q0 := 0) rfl rfl)) rfl rfl hl.1 rfl (lv_room (Nat.le_of_ble_eq_true rfl)) dX7_suits_58 ⟨Nat.le_of_ble_eq_true rfl, Nat.le_of_ble_eq_true rfl⟩) ?_
    refine goSi (T := zI (wth (fg cp 1) (nI 0) (fg cp 0))) (va_runV (As := [.int (nI 1), .int (nI 0), .int (fg cp 0)]) (rest := []) ⟨hx, hb, hml, hown, hts⟩ (k_X7_isDigit l g oP aC cN cp 1 (nI 0) (fg cp 0) (by first | assumption | exact Nat.zero_le _ | omega) (by first | assumption | exact Nat.zero_le _ | omega)) (cwV 3 hts gX7_suits_X7_isDigit rfl rfl rfl ⟨rfl, hdX7_isDigit⟩ ⟨Nat.le_of_ble_eq_true rfl, Nat.le_of_ble_eq_true rfl⟩) (preVS hC (hP.sub [0, 1] rfl) (va_recv hC.1 hP (ci := 7) (q0 := 0) rfl rfl)) rfl rfl hl.1 rfl (lv_room (Nat.le_of_ble_eq_true rfl)) dX7_suits_61 ⟨Nat.le_of_ble_eq_true rfl, Nat.le_of_ble_eq_true rfl⟩) ?_
    exact retSz hx hb hr hlocks (zI_or _) (rfl) dX7_suits_64
   ·obtain rfl : xk = 2 := (nI_eq (by omega) (by decide)).mp c1
    refine lv_tableIn (off := 64) (tgt := 65) hx hb dX7_suits_1 (by decide) (by decide) (by decide) (by decide) ?_
    refine lv_aload_n hx hb dX7_suits_65 rfl (lv_at hl 0 rfl) ?_
    refine va_get (D := g.1) (ci := 7) (v := .ref aC) (C := RX7) (T := TX7) (N := 2) hx hb hts hinX7 hown hC.1 hP 0 rfl rfl 0 (by decide) f9 (fun _ h9 => h9) rfl dX7_suits_66 ?_
    refine lv_iload_n hx hb dX7_suits_69 rfl (lv_at hl 1 rfl) ?_
    refine ald_i (f := fun j => nI (cp j)) (j := 2) hx hb hC hP 1 rfl (by omega) (by decide) dX7_suits_70 ?_
    refine lv_bipush (v := nI 58) hx hb dX7_suits_71 (by decide) ?_
    refine lv_icmp_ne (tgt := 80) hx hb dX7_suits_73 (by decide) (fun c73 => ?_) (fun c73 => ?_)
    ·refine lv_iconst (v := nI 0) hx hb dX7_suits_80 (by decide) ?_
     exact retSz hx hb hr hlocks (by decide) (by first | exact zI_1 (decide_eq_true c73) | exact zI_0 (decide_eq_false c73)) dX7_suits_81
    ·refine lv_iconst (v := nI 1) hx hb dX7_suits_76 (by decide) ?_
     refine lv_goto (tgt := 81) hx hb dX7_suits_77 (by decide) ?_
     exact retSz hx hb hr hlocks (by decide) (by first | exact zI_1 (decide_eq_true c73) | exact zI_0 (decide_eq_false c73)) dX7_suits_81
   ·obtain rfl : xk = 3 := (nI_eq (by omega) (by decide)).mp c1
    refine lv_tableIn (off := 81) (tgt := 82) hx hb dX7_suits_1 (by decide) (by decide) (by decide) (by decide) ?_
    refine lv_aload_n hx hb dX7_suits_82 rfl (lv_at hl 0 rfl) ?_
    refine lv_iload_n hx hb dX7_suits_83 rfl (lv_at hl 1 rfl) ?_
    refine lv_iconst (v := nI 0) hx hb dX7_suits_84 (by decide) ?_
    refine lv_bipush (v := nI 9) hx hb dX7_suits_85 (by decide) ?_
    refine goSi (T := zI (wth (fg cp 3) (nI 0) (nI 9))) (va_runV (As := [.int (nI 3), .int (nI 0), .int (nI 9)]) (rest := []) ⟨hx, hb, hml, hown, hts⟩ (k_X7_isDigit l g oP aC cN cp 3 (nI 0) (nI 9) (by first | assumption | exact Nat.zero_le _ | omega) (by first | assumption | exact Nat.zero_le _ | omega)) (cwV 3 hts gX7_suits_X7_isDigit rfl rfl rfl ⟨rfl, hdX7_isDigit⟩ ⟨Nat.le_of_ble_eq_true rfl, Nat.le_of_ble_eq_true rfl⟩) (preVS hC (hP.sub [0, 1] rfl) (va_recv hC.1 hP (ci := 7) (q0 := 0) rfl rfl)) rfl rfl hl.1 rfl (lv_room (Nat.le_of_ble_eq_true rfl)) dX7_suits_87 ⟨Nat.le_of_ble_eq_true rfl, Nat.le_of_ble_eq_true rfl⟩) ?_
    exact retSz hx hb hr hlocks (zI_or _) (rfl) dX7_suits_90
   ·obtain rfl : xk = 4 := (nI_eq (by omega) (by decide)).mp c1
    refine lv_tableIn (off := 81) (tgt := 82) hx hb dX7_suits_1 (by decide) (by decide) (by decide) (by decide) ?_
    refine lv_aload_n hx hb dX7_suits_82 rfl (lv_at hl 0 rfl) ?_
    refine lv_iload_n hx hb dX7_suits_83 rfl (lv_at hl 1 rfl) ?_
    refine lv_iconst (v := nI 0) hx hb dX7_suits_84 (by decide) ?_
    refine lv_bipush (v := nI 9) hx hb dX7_suits_85 (by decide) ?_
    refine goSi (T := zI (wth (fg cp 4) (nI 0) (nI 9))) (va_runV (As := [.int (nI 4), .int (nI 0), .int (nI 9)]) (rest := []) ⟨hx, hb, hml, hown, hts⟩ (k_X7_isDigit l g oP aC cN cp 4 (nI 0) (nI 9) (by first | assumption | exact Nat.zero_le _ | omega) (by first | assumption | exact Nat.zero_le _ | omega)) (cwV 3 hts gX7_suits_X7_isDigit rfl rfl rfl ⟨rfl, hdX7_isDigit⟩ ⟨Nat.le_of_ble_eq_true rfl, Nat.le_of_ble_eq_true rfl⟩) (preVS hC (hP.sub [0, 1] rfl) (va_recv hC.1 hP (ci := 7) (q0 := 0) rfl rfl)) rfl rfl hl.1 rfl (lv_room (Nat.le_of_ble_eq_true rfl)) dX7_suits_87 ⟨Nat.le_of_ble_eq_true rfl, Nat.le_of_ble_eq_true rfl⟩) ?_
    exact retSz hx hb hr hlocks (zI_or _) (rfl) dX7_suits_90
   ·obtain rfl : xk = 5 := (nI_eq (by omega) (by decide)).mp c1
    refine lv_tableIn (off := 81) (tgt := 82) hx hb dX7_suits_1 (by decide) (by decide) (by decide) (by decide) ?_
    refine lv_aload_n hx hb dX7_suits_82 rfl (lv_at hl 0 rfl) ?_
    refine lv_iload_n hx hb dX7_suits_83 rfl (lv_at hl 1 rfl) ?_
    refine lv_iconst (v := nI 0) hx hb dX7_suits_84 (by decide) ?_
    refine lv_bipush (v := nI 9) hx hb dX7_suits_85 (by decide) ?_
    refine goSi (T := zI (wth (fg cp 5) (nI 0) (nI 9))) (va_runV (As := [.int (nI 5), .int (nI 0), .int (nI 9)]) (rest := []) ⟨hx, hb, hml, hown, hts⟩ (k_X7_isDigit l g oP aC cN cp 5 (nI 0) (nI 9) (by first | assumption | exact Nat.zero_le _ | omega) (by first | assumption | exact Nat.zero_le _ | omega)) (cwV 3 hts gX7_suits_X7_isDigit rfl rfl rfl ⟨rfl, hdX7_isDigit⟩ ⟨Nat.le_of_ble_eq_true rfl, Nat.le_of_ble_eq_true rfl⟩) (preVS hC (hP.sub [0, 1] rfl) (va_recv hC.1 hP (ci := 7) (q0 := 0) rfl rfl)) rfl rfl hl.1 rfl (lv_room (Nat.le_of_ble_eq_true rfl)) dX7_suits_87 ⟨Nat.le_of_ble_eq_true rfl, Nat.le_of_ble_eq_true rfl⟩) ?_
    exact retSz hx hb hr hlocks (zI_or _) (rfl) dX7_suits_90
   ·obtain rfl : xk = 6 := (nI_eq (by omega) (by decide)).mp c1
    refine lv_tableIn (off := 90) (tgt := 91) hx hb dX7_suits_1 (by decide) (by decide) (by decide) (by decide) ?_
    refine lv_aload_n hx hb dX7_suits_91 rfl (lv_at hl 0 rfl) ?_
    refine va_get (D := g.1) (ci := 7) (v := .ref aC) (C := RX7) (T := TX7) (N := 2) hx hb hts hinX7 hown hC.1 hP 0 rfl rfl 0 (by decide) f9 (fun _ h9 => h9) rfl dX7_suits_92 ?_
    refine lv_iload_n hx hb dX7_suits_95 rfl (lv_at hl 1 rfl) ?_
    refine ald_i (f := fun j => nI (cp j)) (j := 6) hx hb hC hP 1 rfl (by omega) (by decide) dX7_suits_96 ?_
    refine lv_bipush (v := nI 59) hx hb dX7_suits_97 (by decide) ?_
    refine lv_icmp_ne (tgt := 106) hx hb dX7_suits_99 (by decide) (fun c99 => ?_) (fun c99 => ?_)
    ·refine lv_iconst (v := nI 0) hx hb dX7_suits_106 (by decide) ?_
     exact retSz hx hb hr hlocks (by decide) (by first | exact zI_1 (decide_eq_true c99) | exact zI_0 (decide_eq_false c99)) dX7_suits_107
    ·refine lv_iconst (v := nI 1) hx hb dX7_suits_102 (by decide) ?_
     refine lv_goto (tgt := 107) hx hb dX7_suits_103 (by decide) ?_
     exact retSz hx hb hr hlocks (by decide) (by first | exact zI_1 (decide_eq_true c99) | exact zI_0 (decide_eq_false c99)) dX7_suits_107
  ·refine lv_tableOut (tgt := 108) hx hb dX7_suits_1 (by omega) (by decide) ?_
   have h7 : 7 ≤ xk := sw_nI c1 (by omega)
   refine lv_iload_n hx hb dX7_suits_108 rfl (lv_at hl 1 rfl) ?_
   refine lv_bipush (v := nI 7) hx hb dX7_suits_109 (by decide) ?_
   refine lv_aload_n hx hb dX7_suits_111 rfl (lv_at hl 0 rfl) ?_
   refine lv_iconst (v := nI 0) hx hb dX7_suits_112 (by decide) ?_
   refine goSi (T := fg cp 0) (va_runV (As := [.int (nI 0)]) (rest := [.int (nI 7), .int (nI xk)]) ⟨hx, hb, hml, hown, hts⟩ (k_X7_digit l g oP aC cN cp 0 (by first | assumption | exact Nat.zero_le _ | omega) (by first | assumption | exact Nat.zero_le _ | omega)) (cwV 1 hts gX7_suits_X7_digit rfl rfl rfl ⟨rfl, hdX7_digit⟩ ⟨Nat.le_of_ble_eq_true rfl, Nat.le_of_ble_eq_true rfl⟩) (preVS hC (hP.sub [0, 1] rfl) (va_recv hC.1 hP (ci := 7) (q0 := 0) rfl rfl)) rfl rfl hl.1 rfl (lv_room (Nat.le_of_ble_eq_true rfl)) dX7_suits_113 ⟨Nat.le_of_ble_eq_true rfl, Nat.le_of_ble_eq_true rfl⟩) ?_
   refine lv_iadd hx hb dX7_suits_116 ?_
   refine lv_icmp_ge (tgt := 134) hx hb dX7_suits_117 (by decide) (fun c117 => ?_) (fun c117 => ?_)
   ·refine lv_iconst (v := nI 0) hx hb dX7_suits_134 (by decide) ?_
    exact retSz hx hb hr hlocks (by decide) (zI_0 (mG_f h7 c117)) dX7_suits_135
   ·refine lv_aload_n hx hb dX7_suits_120 rfl (lv_at hl 0 rfl) ?_
    refine lv_iload_n hx hb dX7_suits_121 rfl (lv_at hl 1 rfl) ?_
    refine lv_iconst (v := nI 1) hx hb dX7_suits_122 (by decide) ?_
    refine lv_iconst (v := nI 4) hx hb dX7_suits_123 (by decide) ?_
    refine goSi (T := zI (wth (fg cp xk) (nI 1) (nI 4))) (va_runV (As := [.int (nI xk), .int (nI 1), .int (nI 4)]) (rest := []) ⟨hx, hb, hml, hown, hts⟩ (k_X7_isDigit l g oP aC cN cp xk (nI 1) (nI 4) (by first | assumption | exact Nat.zero_le _ | omega) (by first | assumption | exact Nat.zero_le _ | omega)) (cwV 3 hts gX7_suits_X7_isDigit rfl rfl rfl ⟨rfl, hdX7_isDigit⟩ ⟨Nat.le_of_ble_eq_true rfl, Nat.le_of_ble_eq_true rfl⟩) (preVS hC (hP.sub [0, 1] rfl) (va_recv hC.1 hP (ci := 7) (q0 := 0) rfl rfl)) rfl rfl hl.1 rfl (lv_room (Nat.le_of_ble_eq_true rfl)) dX7_suits_124 ⟨Nat.le_of_ble_eq_true rfl, Nat.le_of_ble_eq_true rfl⟩) ?_
    refine lv_if_eq (tgt := 134) hx hb dX7_suits_127 (by decide) (fun c127 => ?_) (fun c127 => ?_)
    ·have c127 := zI_f.mp c127
     refine lv_iconst (v := nI 0) hx hb dX7_suits_134 (by decide) ?_
     exact retSz hx hb hr hlocks (by decide) (zI_0 (mG_g h7 c127)) dX7_suits_135
    ·have c127 := zI_t.mp c127
     refine lv_iconst (v := nI 1) hx hb dX7_suits_130 (by decide) ?_
     refine lv_goto (tgt := 135) hx hb dX7_suits_131 (by decide) ?_
     exact retSz hx hb hr hlocks (by decide) (zI_1 (mG_t h7 c117 c127)) dX7_suits_135

set_option maxHeartbeats 4000000 in
set_option maxRecDepth 100000 in
/-- BoiledEggs$Page.firstFault  -/
theorem k_X7_firstFault (l : Launch) (g : GG) (oP : Nat) (aC : Nat) (cN : Nat) (cp : Nat → Nat) (hn0 : cN ≤ 14) : Met l yX7_firstFault wsX7_firstFault ({ frames := 3, cells := 0, slots := 0, locals := 66 }) (pS g [.ref oP] [(oP, .inr (7, [.ref aC, .int (nI cN)])), (aC, .inl (g.2.1, 14, .inl (fun j => nI (cp j))))]) (vp_Si (fun r => r = (nI (ff (mGood cp) cN 0)))) 0 0 noF := by
  refine metS (cc := cX7_firstFault) (maxL := 2) (ret := (some .int)) (by decide) rfl (Nat.le_of_ble_eq_true rfl) ?_
  intro p e s m below meth c hx hb hr hts hown hlocks hml hC hP ls hl
  have hl : lv_has ls 2 [(0, .ref oP)] := hl
  have hown : s.vm.findClass RX7 = some m.cls := hown
  have hts : ∀ w ∈ wsX7_firstFault, w.before ([.ref oP] : List Value).toArray s = true := hts
  have hinX7 := (by decide +kernel : ∀ w ∈ u_ws RX7 TX7 2, w ∈ wsX7_firstFault)
  have f15 := hts (.fieldLink RX7 15 "BoiledEggs$Page" "size" "I") (by decide +kernel)
  refine lv_iconst (v := nI 0) hx hb dX7_firstFault_0 (by decide) ?_
  refine lv_istore_n (lv' := [(1, .int (nI 0)), (0, .ref oP)]) hx hb dX7_firstFault_1 rfl hl (by decide) rfl (fun ls hl => ?_)
  have hL2 : ∀ (n_9 : Nat) (i : Nat), cN - i < n_9 → (i ≤ cN) → (ff (mGood cp) (cN - i) i = ff (mGood cp) cN 0) → ∀ ls : Array Slot, lv_has ls 2 [(0, .ref oP), (1, .int (nI i))] → W p l e ({ frames := 3, cells := 0, slots := 0, locals := 66 }) s m ([.ref oP] : List Value).toArray below meth c s.heap [] 0 0 (MQ below (vp_Si (fun r => r = (nI (ff (mGood cp) cN 0)))) ([.ref oP] : List Value).toArray s 0 0 noF) (F0 m 2 ls []) := by
   intro n_9
   induction n_9 with
   | zero => intro i hn_9; exact absurd hn_9 (Nat.not_lt_zero _)
   | succ n_9 ih2 =>
    intro i hn_9 hi hf ls hl
    refine lv_iload_n hx hb dX7_firstFault_2 rfl (lv_at hl 1 rfl) ?_
    refine lv_aload_n hx hb dX7_firstFault_3 rfl (lv_at hl 0 rfl) ?_
    refine va_get (D := g.1) (ci := 7) (v := .int (nI cN)) (C := RX7) (T := TX7) (N := 2) hx hb hts hinX7 hown hC.1 hP 0 rfl rfl 1 (by decide) f15 (fun _ h9 => h9) rfl dX7_firstFault_4 ?_
    refine lv_icmp_ge (tgt := 26) hx hb dX7_firstFault_7 (by decide) (fun c7 => ?_) (fun c7 => ?_)
    ·have c7 : cN ≤ i := (nI_leI (a := cN) (b := i) (by omega) (by omega)).mp c7
     refine lv_aload_n hx hb dX7_firstFault_26 rfl (lv_at hl 0 rfl) ?_
     refine va_get (D := g.1) (ci := 7) (v := .int (nI cN)) (C := RX7) (T := TX7) (N := 2) hx hb hts hinX7 hown hC.1 hP 0 rfl rfl 1 (by decide) f15 (fun _ h9 => h9) rfl dX7_firstFault_27 ?_
     exact retSi hx hb hr hlocks (by rw [← hf, ff_e (by omega), show i = cN by omega]) dX7_firstFault_30
    ·have c7 : ¬ cN ≤ i := fun h9 => c7 ((nI_leI (a := cN) (b := i) (by omega) (by omega)).mpr h9)
     refine lv_aload_n hx hb dX7_firstFault_10 rfl (lv_at hl 0 rfl) ?_
     refine lv_iload_n hx hb dX7_firstFault_11 rfl (lv_at hl 1 rfl) ?_
     refine goSi (T := zI (mGood cp i)) (va_runV (As := [.int (nI i)]) (rest := []) ⟨hx, hb, hml, hown, hts⟩ (k_X7_suits l g oP aC cN cp i (by first | assumption | exact Nat.zero_le _ | omega) (by first | assumption | exact Nat.zero_le _ | omega)) (cwV 1 hts gX7_firstFault_X7_suits rfl rfl rfl ⟨rfl, hdX7_suits⟩ ⟨Nat.le_of_ble_eq_true rfl, Nat.le_of_ble_eq_true rfl⟩) (preVS hC (hP.sub [0, 1] rfl) (va_recv hC.1 hP (ci := 7) (q0 := 0) rfl rfl)) rfl rfl hl.1 rfl (lv_room (Nat.le_of_ble_eq_true rfl)) dX7_firstFault_12 ⟨Nat.le_of_ble_eq_true rfl, Nat.le_of_ble_eq_true rfl⟩) ?_
     refine lv_if_ne (tgt := 20) hx hb dX7_firstFault_15 (by decide) (fun c15 => ?_) (fun c15 => ?_)
     ·have c15 := zI_t.mp c15
      refine lv_iinc (v := nI (i + 1)) (lv' := [(1, .int (nI (i + 1))), (0, .ref oP)]) hx hb dX7_firstFault_20 hl (k := 1) rfl (iinc1 _) (by decide) rfl (fun ls hl => ?_)
      refine lv_goto (tgt := 2) hx hb dX7_firstFault_23 (by decide) ?_
      exact ih2 (i + 1) (by omega) (by omega) (by rw [← hf]; exact ff_t c15 (by omega)) ls (lv_sub hl [1, 0] rfl)
     ·have c15 := zI_f.mp c15
      refine lv_iload_n hx hb dX7_firstFault_18 rfl (lv_at hl 1 rfl) ?_
      exact retSi hx hb hr hlocks (by rw [← hf, ff_f c15 (by omega)]) dX7_firstFault_19
  exact hL2 _ 0 (Nat.lt_succ_self _) (Nat.zero_le _) (rfl) ls (lv_sub hl [1, 0] rfl)

set_option maxHeartbeats 4000000 in
set_option maxRecDepth 100000 in
/-- BoiledEggs$Page.isWholeKitchen  -/
theorem k_X7_isWholeKitchen (l : Launch) (g : GG) (oP : Nat) (aC : Nat) (cN : Nat) (cp : Nat → Nat) (hn0 : cN ≤ 14) (hcp : ∀ k, cp k < 128) : Met l yX7_isWholeKitchen wsX7_isWholeKitchen ({ frames := 4, cells := 0, slots := 0, locals := 87 }) (pS g [.ref oP] [(oP, .inr (7, [.ref aC, .int (nI cN)])), (aC, .inl (g.2.1, 14, .inl (fun j => nI (cp j))))]) (vp_Si (fun r => r = (zI (kOK cp cN)))) 0 0 noF := by
  refine metS (cc := cX7_isWholeKitchen) (maxL := 1) (ret := (some .boolean)) (by decide) rfl (Nat.le_of_ble_eq_true rfl) ?_
  intro p e s m below meth c hx hb hr hts hown hlocks hml hC hP ls hl
  have hl : lv_has ls 1 [(0, .ref oP)] := hl
  have hown : s.vm.findClass RX7 = some m.cls := hown
  have hts : ∀ w ∈ wsX7_isWholeKitchen, w.before ([.ref oP] : List Value).toArray s = true := hts
  have hinX7 := (by decide +kernel : ∀ w ∈ u_ws RX7 TX7 2, w ∈ wsX7_isWholeKitchen)
  have f15 := hts (.fieldLink RX7 15 "BoiledEggs$Page" "size" "I") (by decide +kernel)
  refine lv_aload_n hx hb dX7_isWholeKitchen_0 rfl (lv_at hl 0 rfl) ?_
  refine va_get (D := g.1) (ci := 7) (v := .int (nI cN)) (C := RX7) (T := TX7) (N := 2) hx hb hts hinX7 hown hC.1 hP 0 rfl rfl 1 (by decide) f15 (fun _ h9 => h9) rfl dX7_isWholeKitchen_1 ?_
  refine lv_bipush (v := nI 7) hx hb dX7_isWholeKitchen_4 (by decide) ?_
  refine lv_icmp_le (tgt := 39) hx hb dX7_isWholeKitchen_6 (by decide) (fun c6 => ?_) (fun c6 => ?_)
  ·have c6 : cN ≤ 7 := (nI_leI (a := cN) (b := 7) (by omega) (by omega)).mp c6
   refine lv_iconst (v := nI 0) hx hb dX7_isWholeKitchen_39 (by decide) ?_
   exact retSz hx hb hr hlocks (by decide) (zI_0 (decide_eq_false (by omega))) dX7_isWholeKitchen_40
  ·have c6 : ¬ cN ≤ 7 := fun h9 => c6 ((nI_leI (a := cN) (b := 7) (by omega) (by omega)).mpr h9)
   refine lv_aload_n hx hb dX7_isWholeKitchen_9 rfl (lv_at hl 0 rfl) ?_
   refine va_get (D := g.1) (ci := 7) (v := .int (nI cN)) (C := RX7) (T := TX7) (N := 2) hx hb hts hinX7 hown hC.1 hP 0 rfl rfl 1 (by decide) f15 (fun _ h9 => h9) rfl dX7_isWholeKitchen_10 ?_
   refine lv_bipush (v := nI 7) hx hb dX7_isWholeKitchen_13 (by decide) ?_
   refine lv_aload_n hx hb dX7_isWholeKitchen_15 rfl (lv_at hl 0 rfl) ?_
   refine lv_iconst (v := nI 0) hx hb dX7_isWholeKitchen_16 (by decide) ?_
   refine goSi (T := fg cp 0) (va_runV (As := [.int (nI 0)]) (rest := [.int (nI 7), .int (nI cN)]) ⟨hx, hb, hml, hown, hts⟩ (k_X7_digit l g oP aC cN cp 0 (by first | assumption | exact Nat.zero_le _ | omega) (by first | assumption | exact Nat.zero_le _ | omega)) (cwV 1 hts gX7_isWholeKitchen_X7_digit rfl rfl rfl ⟨rfl, hdX7_digit⟩ ⟨Nat.le_of_ble_eq_true rfl, Nat.le_of_ble_eq_true rfl⟩) (preVS hC (hP.sub [0, 1] rfl) (va_recv hC.1 hP (ci := 7) (q0 := 0) rfl rfl)) rfl rfl hl.1 rfl (lv_room (Nat.le_of_ble_eq_true rfl)) dX7_isWholeKitchen_17 ⟨Nat.le_of_ble_eq_true rfl, Nat.le_of_ble_eq_true rfl⟩) ?_
   refine lv_iadd hx hb dX7_isWholeKitchen_20 ?_
   refine lv_icmp_ne (tgt := 39) hx hb dX7_isWholeKitchen_21 (by decide) (fun c21 => ?_) (fun c21 => ?_)
   ·refine lv_iconst (v := nI 0) hx hb dX7_isWholeKitchen_39 (by decide) ?_
    exact retSz hx hb hr hlocks (by decide) (zI_0 (Bool.eq_false_iff.mpr (fun h9 => by obtain ⟨⟨d1, -⟩, h8, -⟩ := kOK_d hcp h9; exact c21 (by rw [fg_nI (by omega), nI_add, ← h8])))) dX7_isWholeKitchen_40
   ·refine lv_aload_n hx hb dX7_isWholeKitchen_24 rfl (lv_at hl 0 rfl) ?_
    refine goSi (T := nI (ff (mGood cp) cN 0)) (va_runV (As := []) (rest := []) ⟨hx, hb, hml, hown, hts⟩ (k_X7_firstFault l g oP aC cN cp (by first | assumption | exact Nat.zero_le _ | omega)) (cwV 0 hts gX7_isWholeKitchen_X7_firstFault rfl rfl rfl ⟨rfl, hdX7_firstFault⟩ ⟨Nat.le_of_ble_eq_true rfl, Nat.le_of_ble_eq_true rfl⟩) (preVS hC (hP.sub [0, 1] rfl) (va_recv hC.1 hP (ci := 7) (q0 := 0) rfl rfl)) rfl rfl hl.1 rfl (lv_room (Nat.le_of_ble_eq_true rfl)) dX7_isWholeKitchen_25 ⟨Nat.le_of_ble_eq_true rfl, Nat.le_of_ble_eq_true rfl⟩) ?_
    refine lv_aload_n hx hb dX7_isWholeKitchen_28 rfl (lv_at hl 0 rfl) ?_
    refine va_get (D := g.1) (ci := 7) (v := .int (nI cN)) (C := RX7) (T := TX7) (N := 2) hx hb hts hinX7 hown hC.1 hP 0 rfl rfl 1 (by decide) f15 (fun _ h9 => h9) rfl dX7_isWholeKitchen_29 ?_
    refine lv_icmp_ne (tgt := 39) hx hb dX7_isWholeKitchen_32 (by decide) (fun c32 => ?_) (fun c32 => ?_)
    ·have c32 : ¬ (ff (mGood cp) cN 0) = cN := fun h9 => c32 ((nI_eq (a := ff (mGood cp) cN 0) (b := cN) (by have := ff_le (mGood cp) cN 0; omega) (by have := ff_le (mGood cp) cN 0; omega)).mpr h9)
     refine lv_iconst (v := nI 0) hx hb dX7_isWholeKitchen_39 (by decide) ?_
     exact retSz hx hb hr hlocks (by decide) (zI_0 (decide_eq_false (fun h9 => c32 h9.1))) dX7_isWholeKitchen_40
    ·have c32 : (ff (mGood cp) cN 0) = cN := (nI_eq (a := ff (mGood cp) cN 0) (b := cN) (by have := ff_le (mGood cp) cN 0; omega) (by have := ff_le (mGood cp) cN 0; omega)).mp c32
     refine lv_iconst (v := nI 1) hx hb dX7_isWholeKitchen_35 (by decide) ?_
     refine lv_goto (tgt := 40) hx hb dX7_isWholeKitchen_36 (by decide) ?_
     exact retSz hx hb hr hlocks (by decide) (zI_1 (wk_t hcp hn0 c6 c21 c32)) dX7_isWholeKitchen_40

set_option maxHeartbeats 4000000 in
set_option maxRecDepth 100000 in
/-- BoiledEggs$Kitchen.<init>  -/
theorem k_X6_init (l : Launch) (g : GG) (sz : Nat) (oH : Nat)  : Met l yX6_init wsX6_init ({ frames := 1, cells := 1, slots := 6, locals := 20 }) (pM g sz [.ref oH] [(oH, .inr (6, [.null, .int 0, .int 0, .int 0, .int 0, .int 0]))]) (qMv g (fun (_ : Nat) => True) (fun (u : Nat) => [(oH, .inr (6, [.ref u, .int (nI 0), .int (nI 0), .int (nI 0), .int (nI 0), .int (nI 0)])), (u, .inl (g.2.1, 6, .inl (fun j => nI (zz j))))]) (va_A [(oH, .inr (6, [.null, .int 0, .int 0, .int 0, .int 0, .int 0]))] sz)) 1 6 (va_A [(oH, .inr (6, [.null, .int 0, .int 0, .int 0, .int 0, .int 0]))] sz) := by
  refine metM (Qf := fun A => (qMv g (fun (_ : Nat) => True) (fun (u : Nat) => [(oH, .inr (6, [.ref u, .int (nI 0), .int (nI 0), .int (nI 0), .int (nI 0), .int (nI 0)])), (u, .inl (g.2.1, 6, .inl (fun j => nI (zz j))))]) A)) (cc := cX6_init) (maxL := 1) (ret := none) (by decide) rfl (Nat.le_of_ble_eq_true rfl) ?_
  intro p e s m below meth c hx hb hr hts hown hlocks hml hin0 hC A hA hP hD hS ls hl
  have hl : lv_has ls 1 [(0, .ref oH)] := hl
  have hown : s.vm.findClass RX6 = some m.cls := hown
  have hts : ∀ w ∈ wsX6_init, w.before ([.ref oH] : List Value).toArray s = true := hts
  have lo3 := hts (.methodLink RX6 3 objectInit) (by decide +kernel)
  have oi := hts (.instanceMethod objectInit) (by decide +kernel)
  have oc := hts (.code objectInit ⟨#[0xb1]⟩ 1 none) (by decide +kernel)
  have acint := hts (.arrayClass .int) (by decide +kernel)
  have hinX6 := (by decide +kernel : ∀ w ∈ u_ws RX6 TX6 6, w ∈ wsX6_init)
  have f9 := hts (.fieldLink RX6 9 "BoiledEggs$Kitchen" "habits" "[I") (by decide +kernel)
  refine lv_aload_n hx hb dX6_init_0 rfl (lv_at hl 0 rfl) ?_
  refine W.objInit hx hb hown lo3 oi oc rfl (by rw [hml]; exact hl.1) rfl dX6_init_1 (Nat.le_of_ble_eq_true rfl) (Nat.le_of_ble_eq_true rfl) ?_
  refine W.eq (g2 := F0 m 4 ls []) rfl ?_
  refine lv_aload_n hx hb dX6_init_4 rfl (lv_at hl 0 rfl) ?_
  refine lv_bipush (v := nI 6) hx hb dX6_init_5 (by decide) ?_
  refine new_i (N := 6) hx hb hC acint hP hD hS hA (by decide) (by decide) (by decide) (Nat.le_of_ble_eq_true rfl) (Nat.le_of_ble_eq_true rfl) dX6_init_7 (fun q_1 H hP hD hS => ?_)
  have hP : va_P g.1 vwCl [(oH, .inr (6, [.null, .int 0, .int 0, .int 0, .int 0, .int 0])), (q_1, .inl (g.2.1, 6, .inl (fun _ => 0)))] H := hP
  have hD : va_D A [(oH, .inr (6, [.null, .int 0, .int 0, .int 0, .int 0, .int 0])), (q_1, .inl (g.2.1, 6, .inl (fun _ => 0)))] := hD
  refine W.widen (k := 1) (n := 6) (Nat.le_of_ble_eq_true rfl) (Nat.le_of_ble_eq_true rfl) ?_
  refine va_putF (D := g.1) (ci := 6) (v := .ref q_1) (ty := .array .int) (C := RX6) (T := TX6) (N := 6) hx hb hts hinX6 tyX6 tyX6_ok nmX6 hown hC.1 hP hD hS 0 rfl rfl 0 (by decide) f9 (fun _ h9 => h9) rfl hin0 rfl (by decide +kernel) rfl rfl (Nat.le_of_ble_eq_true rfl) dX6_init_9 (fun H locs hP hD hS => ?_)
  have hP : va_P g.1 vwCl [(oH, .inr (6, [.ref q_1, .int 0, .int 0, .int 0, .int 0, .int 0])), (q_1, .inl (g.2.1, 6, .inl (fun _ => 0)))] H := hP
  have hD : va_D A [(oH, .inr (6, [.ref q_1, .int 0, .int 0, .int 0, .int 0, .int 0])), (q_1, .inl (g.2.1, 6, .inl (fun _ => 0)))] := hD
  refine W.widen (k := 1) (n := 6) (Nat.le_of_ble_eq_true rfl) (Nat.le_of_ble_eq_true rfl) ?_
  exact retMv (w := [(oH, .inr (6, [.ref q_1, .int 0, .int 0, .int 0, .int 0, .int 0])), (q_1, .inl (g.2.1, 6, .inl (fun _ => 0)))]) hx hb hr hlocks (hP.sub [0, 1] rfl) (hD.sub [0, 1] (by decide) rfl) hS q_1 (rfl) (trivial) dX6_init_12

set_option maxHeartbeats 4000000 in
set_option maxRecDepth 100000 in
/-- BoiledEggs$Kitchen.readFrom  -/
theorem k_X6_readFrom (l : Launch) (g : GG) (sz : Nat) (oH : Nat) (aH : Nat) (nE : Nat) (nB : Nat) (nTb : Nat) (nTr : Nat) (nFa : Nat) (oP : Nat) (aC : Nat) (cN : Nat) (hh : Nat → Nat) (cp : Nat → Nat) (hn0 : cN ≤ 14) (hcp : ∀ k, cp k < 128) (hkk : kOK cp cN = true) : Met l yX6_readFrom wsX6_readFrom ({ frames := 1, cells := 0, slots := 0, locals := 21 }) (pM g sz [.ref oH, .ref oP] [(oH, .inr (6, [.ref aH, .int (nI nE), .int (nI nB), .int (nI nTb), .int (nI nTr), .int (nI nFa)])), (aH, .inl (g.2.1, 6, .inl (fun j => nI (hh j)))), (oP, .inr (7, [.ref aC, .int (nI cN)])), (aC, .inl (g.2.1, 14, .inl (fun j => nI (cp j))))]) (qMv g (fun (_ : Unit) => True) (fun (_ : Unit) => [(oH, .inr (6, [.ref aH, .int (nI (cp 0 - 48)), .int (nI (cp 1 - 48)), .int (nI (cp 3 - 48)), .int (nI (cp 4 - 48)), .int (nI (cp 5 - 48))])), (aH, .inl (g.2.1, 6, .inl (fun j => nI (fo (rdH cp) hh (cp 0 - 48) j)))), (oP, .inr (7, [.ref aC, .int (nI cN)])), (aC, .inl (g.2.1, 14, .inl (fun j => nI (cp j))))]) (va_A [(oH, .inr (6, [.ref aH, .int (nI nE), .int (nI nB), .int (nI nTb), .int (nI nTr), .int (nI nFa)])), (aH, .inl (g.2.1, 6, .inl (fun j => nI (hh j)))), (oP, .inr (7, [.ref aC, .int (nI cN)])), (aC, .inl (g.2.1, 14, .inl (fun j => nI (cp j))))] sz)) 0 0 (va_A [(oH, .inr (6, [.ref aH, .int (nI nE), .int (nI nB), .int (nI nTb), .int (nI nTr), .int (nI nFa)])), (aH, .inl (g.2.1, 6, .inl (fun j => nI (hh j)))), (oP, .inr (7, [.ref aC, .int (nI cN)])), (aC, .inl (g.2.1, 14, .inl (fun j => nI (cp j))))] sz) := by
  refine metM (Qf := fun A => (qMv g (fun (_ : Unit) => True) (fun (_ : Unit) => [(oH, .inr (6, [.ref aH, .int (nI (cp 0 - 48)), .int (nI (cp 1 - 48)), .int (nI (cp 3 - 48)), .int (nI (cp 4 - 48)), .int (nI (cp 5 - 48))])), (aH, .inl (g.2.1, 6, .inl (fun j => nI (fo (rdH cp) hh (cp 0 - 48) j)))), (oP, .inr (7, [.ref aC, .int (nI cN)])), (aC, .inl (g.2.1, 14, .inl (fun j => nI (cp j))))]) A)) (cc := cX6_readFrom) (maxL := 3) (ret := none) (by decide) rfl (Nat.le_of_ble_eq_true rfl) ?_
  intro p e s m below meth c hx hb hr hts hown hlocks hml hin0 hC A hA hP hD hS ls hl
  have hl : lv_has ls 3 [(0, .ref oH), (1, .ref oP)] := hl
  have hown : s.vm.findClass RX6 = some m.cls := hown
  have hts : ∀ w ∈ wsX6_readFrom, w.before ([.ref oH, .ref oP] : List Value).toArray s = true := hts
  obtain ⟨⟨d1, d2, d3, d4, d5, d6, d7, d8, d9, d10, d11⟩, hn7, hn9⟩ := kOK_d hcp hkk
  have ml21 := hts (.methodLink RX6 21 Lib.Math.min.name) (by decide +kernel)
  have ms21 := hts (.static Lib.Math.min.name) (by decide +kernel)
  have mi := hts (.initialized "java/lang/Math") (by decide +kernel)
  have mc21 := hts (.code Lib.Math.min.name Lib.Math.min.code 2 (some .int)) (by decide +kernel)
  have hinX6 := (by decide +kernel : ∀ w ∈ u_ws RX6 TX6 6, w ∈ wsX6_readFrom)
  have f27 := hts (.fieldLink RX6 27 "BoiledEggs$Kitchen" "eggs" "I") (by decide +kernel)
  have f31 := hts (.fieldLink RX6 31 "BoiledEggs$Kitchen" "boiled" "I") (by decide +kernel)
  have f34 := hts (.fieldLink RX6 34 "BoiledEggs$Kitchen" "turnsBoiled" "I") (by decide +kernel)
  have f37 := hts (.fieldLink RX6 37 "BoiledEggs$Kitchen" "turnsRaw" "I") (by decide +kernel)
  have f40 := hts (.fieldLink RX6 40 "BoiledEggs$Kitchen" "falls" "I") (by decide +kernel)
  have f9 := hts (.fieldLink RX6 9 "BoiledEggs$Kitchen" "habits" "[I") (by decide +kernel)
  refine lv_aload_n hx hb dX6_readFrom_0 rfl (lv_at hl 0 rfl) ?_
  refine lv_aload_n hx hb dX6_readFrom_1 rfl (lv_at hl 1 rfl) ?_
  refine lv_iconst (v := nI 0) hx hb dX6_readFrom_2 (by decide) ?_
  refine goSi (T := fg cp 0) (va_runV (As := [.int (nI 0)]) (rest := [.ref oH]) ⟨hx, hb, hml, hown, hts⟩ (k_X7_digit l g oP aC cN cp 0 (by first | assumption | exact Nat.zero_le _ | omega) (by first | assumption | exact Nat.zero_le _ | omega)) (cwV 1 hts gX6_readFrom_X7_digit rfl rfl rfl ⟨rfl, hdX7_digit⟩ ⟨Nat.le_of_ble_eq_true rfl, Nat.le_of_ble_eq_true rfl⟩) (preVS hC (hP.sub [2, 3] rfl) (va_recv hC.1 hP (ci := 7) (q0 := 2) rfl rfl)) rfl rfl hl.1 rfl (lv_room (Nat.le_of_ble_eq_true rfl)) dX6_readFrom_3 ⟨Nat.le_of_ble_eq_true rfl, Nat.le_of_ble_eq_true rfl⟩) ?_
  refine top_i (y := nI (cp 0 - 48)) (fg_nI (by omega)) ?_
  refine lv_bipush (v := nI 6) hx hb dX6_readFrom_6 (by decide) ?_
  refine va_mmin hx hb (by rw [hml]; exact hl.1.symm) hown ml21 ms21 mi mc21 (Nat.le_of_ble_eq_true rfl) (Nat.le_of_ble_eq_true rfl) (Nat.zero_le _) (Nat.zero_le _) dX6_readFrom_8 ?_
  refine top_i (y := nI (cp 0 - 48)) (by rw [if_neg (nI_nlt (by omega) (by omega))]) ?_
  refine va_put (D := g.1) (ci := 6) (v := .int (nI (cp 0 - 48))) (ty := .int) (C := RX6) (T := TX6) (N := 6) hx hb hts hinX6 tyX6 tyX6_ok nmX6 hown hC.1 hP hD hS 0 rfl rfl 1 (by decide) f27 (fun _ h9 => h9) rfl (by decide +kernel) rfl rfl (Nat.le_of_ble_eq_true rfl) dX6_readFrom_11 (fun H locs hP hD hS => ?_)
  have hP : va_P g.1 vwCl [(oH, .inr (6, [.ref aH, .int (nI (cp 0 - 48)), .int (nI nB), .int (nI nTb), .int (nI nTr), .int (nI nFa)])), (aH, .inl (g.2.1, 6, .inl (fun j => nI (hh j)))), (oP, .inr (7, [.ref aC, .int (nI cN)])), (aC, .inl (g.2.1, 14, .inl (fun j => nI (cp j))))] H := hP
  have hD : va_D A [(oH, .inr (6, [.ref aH, .int (nI (cp 0 - 48)), .int (nI nB), .int (nI nTb), .int (nI nTr), .int (nI nFa)])), (aH, .inl (g.2.1, 6, .inl (fun j => nI (hh j)))), (oP, .inr (7, [.ref aC, .int (nI cN)])), (aC, .inl (g.2.1, 14, .inl (fun j => nI (cp j))))] := hD
  refine lv_aload_n hx hb dX6_readFrom_14 rfl (lv_at hl 0 rfl) ?_
  refine lv_aload_n hx hb dX6_readFrom_15 rfl (lv_at hl 1 rfl) ?_
  refine lv_iconst (v := nI 1) hx hb dX6_readFrom_16 (by decide) ?_
  refine goSi (T := fg cp 1) (va_runV (As := [.int (nI 1)]) (rest := [.ref oH]) ⟨hx, hb, hml, hown, hts⟩ (k_X7_digit l g oP aC cN cp 1 (by first | assumption | exact Nat.zero_le _ | omega) (by first | assumption | exact Nat.zero_le _ | omega)) (cwV 1 hts gX6_readFrom_X7_digit rfl rfl rfl ⟨rfl, hdX7_digit⟩ ⟨Nat.le_of_ble_eq_true rfl, Nat.le_of_ble_eq_true rfl⟩) (preVS hC (hP.sub [2, 3] rfl) (va_recv hC.1 hP (ci := 7) (q0 := 2) rfl rfl)) rfl rfl hl.1 rfl (lv_room (Nat.le_of_ble_eq_true rfl)) dX6_readFrom_17 ⟨Nat.le_of_ble_eq_true rfl, Nat.le_of_ble_eq_true rfl⟩) ?_
  refine top_i (y := nI (cp 1 - 48)) (fg_nI (by omega)) ?_
  refine va_put (D := g.1) (ci := 6) (v := .int (nI (cp 1 - 48))) (ty := .int) (C := RX6) (T := TX6) (N := 6) hx hb hts hinX6 tyX6 tyX6_ok nmX6 hown hC.1 hP hD hS 0 rfl rfl 2 (by decide) f31 (fun _ h9 => h9) rfl (by decide +kernel) rfl rfl (Nat.le_of_ble_eq_true rfl) dX6_readFrom_20 (fun H locs hP hD hS => ?_)
  have hP : va_P g.1 vwCl [(oH, .inr (6, [.ref aH, .int (nI (cp 0 - 48)), .int (nI (cp 1 - 48)), .int (nI nTb), .int (nI nTr), .int (nI nFa)])), (aH, .inl (g.2.1, 6, .inl (fun j => nI (hh j)))), (oP, .inr (7, [.ref aC, .int (nI cN)])), (aC, .inl (g.2.1, 14, .inl (fun j => nI (cp j))))] H := hP
  have hD : va_D A [(oH, .inr (6, [.ref aH, .int (nI (cp 0 - 48)), .int (nI (cp 1 - 48)), .int (nI nTb), .int (nI nTr), .int (nI nFa)])), (aH, .inl (g.2.1, 6, .inl (fun j => nI (hh j)))), (oP, .inr (7, [.ref aC, .int (nI cN)])), (aC, .inl (g.2.1, 14, .inl (fun j => nI (cp j))))] := hD
  refine lv_aload_n hx hb dX6_readFrom_23 rfl (lv_at hl 0 rfl) ?_
  refine lv_aload_n hx hb dX6_readFrom_24 rfl (lv_at hl 1 rfl) ?_
  refine lv_iconst (v := nI 3) hx hb dX6_readFrom_25 (by decide) ?_
  refine goSi (T := fg cp 3) (va_runV (As := [.int (nI 3)]) (rest := [.ref oH]) ⟨hx, hb, hml, hown, hts⟩ (k_X7_digit l g oP aC cN cp 3 (by first | assumption | exact Nat.zero_le _ | omega) (by first | assumption | exact Nat.zero_le _ | omega)) (cwV 1 hts gX6_readFrom_X7_digit rfl rfl rfl ⟨rfl, hdX7_digit⟩ ⟨Nat.le_of_ble_eq_true rfl, Nat.le_of_ble_eq_true rfl⟩) (preVS hC (hP.sub [2, 3] rfl) (va_recv hC.1 hP (ci := 7) (q0 := 2) rfl rfl)) rfl rfl hl.1 rfl (lv_room (Nat.le_of_ble_eq_true rfl)) dX6_readFrom_26 ⟨Nat.le_of_ble_eq_true rfl, Nat.le_of_ble_eq_true rfl⟩) ?_
  refine top_i (y := nI (cp 3 - 48)) (fg_nI (by omega)) ?_
  refine va_put (D := g.1) (ci := 6) (v := .int (nI (cp 3 - 48))) (ty := .int) (C := RX6) (T := TX6) (N := 6) hx hb hts hinX6 tyX6 tyX6_ok nmX6 hown hC.1 hP hD hS 0 rfl rfl 3 (by decide) f34 (fun _ h9 => h9) rfl (by decide +kernel) rfl rfl (Nat.le_of_ble_eq_true rfl) dX6_readFrom_29 (fun H locs hP hD hS => ?_)
  have hP : va_P g.1 vwCl [(oH, .inr (6, [.ref aH, .int (nI (cp 0 - 48)), .int (nI (cp 1 - 48)), .int (nI (cp 3 - 48)), .int (nI nTr), .int (nI nFa)])), (aH, .inl (g.2.1, 6, .inl (fun j => nI (hh j)))), (oP, .inr (7, [.ref aC, .int (nI cN)])), (aC, .inl (g.2.1, 14, .inl (fun j => nI (cp j))))] H := hP
  have hD : va_D A [(oH, .inr (6, [.ref aH, .int (nI (cp 0 - 48)), .int (nI (cp 1 - 48)), .int (nI (cp 3 - 48)), .int (nI nTr), .int (nI nFa)])), (aH, .inl (g.2.1, 6, .inl (fun j => nI (hh j)))), (oP, .inr (7, [.ref aC, .int (nI cN)])), (aC, .inl (g.2.1, 14, .inl (fun j => nI (cp j))))] := hD
  refine lv_aload_n hx hb dX6_readFrom_32 rfl (lv_at hl 0 rfl) ?_
  refine lv_aload_n hx hb dX6_readFrom_33 rfl (lv_at hl 1 rfl) ?_
  refine lv_iconst (v := nI 4) hx hb dX6_readFrom_34 (by decide) ?_
  refine goSi (T := fg cp 4) (va_runV (As := [.int (nI 4)]) (rest := [.ref oH]) ⟨hx, hb, hml, hown, hts⟩ (k_X7_digit l g oP aC cN cp 4 (by first | assumption | exact Nat.zero_le _ | omega) (by first | assumption | exact Nat.zero_le _ | omega)) (cwV 1 hts gX6_readFrom_X7_digit rfl rfl rfl ⟨rfl, hdX7_digit⟩ ⟨Nat.le_of_ble_eq_true rfl, Nat.le_of_ble_eq_true rfl⟩) (preVS hC (hP.sub [2, 3] rfl) (va_recv hC.1 hP (ci := 7) (q0 := 2) rfl rfl)) rfl rfl hl.1 rfl (lv_room (Nat.le_of_ble_eq_true rfl)) dX6_readFrom_35 ⟨Nat.le_of_ble_eq_true rfl, Nat.le_of_ble_eq_true rfl⟩) ?_
  refine top_i (y := nI (cp 4 - 48)) (fg_nI (by omega)) ?_
  refine va_put (D := g.1) (ci := 6) (v := .int (nI (cp 4 - 48))) (ty := .int) (C := RX6) (T := TX6) (N := 6) hx hb hts hinX6 tyX6 tyX6_ok nmX6 hown hC.1 hP hD hS 0 rfl rfl 4 (by decide) f37 (fun _ h9 => h9) rfl (by decide +kernel) rfl rfl (Nat.le_of_ble_eq_true rfl) dX6_readFrom_38 (fun H locs hP hD hS => ?_)
  have hP : va_P g.1 vwCl [(oH, .inr (6, [.ref aH, .int (nI (cp 0 - 48)), .int (nI (cp 1 - 48)), .int (nI (cp 3 - 48)), .int (nI (cp 4 - 48)), .int (nI nFa)])), (aH, .inl (g.2.1, 6, .inl (fun j => nI (hh j)))), (oP, .inr (7, [.ref aC, .int (nI cN)])), (aC, .inl (g.2.1, 14, .inl (fun j => nI (cp j))))] H := hP
  have hD : va_D A [(oH, .inr (6, [.ref aH, .int (nI (cp 0 - 48)), .int (nI (cp 1 - 48)), .int (nI (cp 3 - 48)), .int (nI (cp 4 - 48)), .int (nI nFa)])), (aH, .inl (g.2.1, 6, .inl (fun j => nI (hh j)))), (oP, .inr (7, [.ref aC, .int (nI cN)])), (aC, .inl (g.2.1, 14, .inl (fun j => nI (cp j))))] := hD
  refine lv_aload_n hx hb dX6_readFrom_41 rfl (lv_at hl 0 rfl) ?_
  refine lv_aload_n hx hb dX6_readFrom_42 rfl (lv_at hl 1 rfl) ?_
  refine lv_iconst (v := nI 5) hx hb dX6_readFrom_43 (by decide) ?_
  refine goSi (T := fg cp 5) (va_runV (As := [.int (nI 5)]) (rest := [.ref oH]) ⟨hx, hb, hml, hown, hts⟩ (k_X7_digit l g oP aC cN cp 5 (by first | assumption | exact Nat.zero_le _ | omega) (by first | assumption | exact Nat.zero_le _ | omega)) (cwV 1 hts gX6_readFrom_X7_digit rfl rfl rfl ⟨rfl, hdX7_digit⟩ ⟨Nat.le_of_ble_eq_true rfl, Nat.le_of_ble_eq_true rfl⟩) (preVS hC (hP.sub [2, 3] rfl) (va_recv hC.1 hP (ci := 7) (q0 := 2) rfl rfl)) rfl rfl hl.1 rfl (lv_room (Nat.le_of_ble_eq_true rfl)) dX6_readFrom_44 ⟨Nat.le_of_ble_eq_true rfl, Nat.le_of_ble_eq_true rfl⟩) ?_
  refine top_i (y := nI (cp 5 - 48)) (fg_nI (by omega)) ?_
  refine va_put (D := g.1) (ci := 6) (v := .int (nI (cp 5 - 48))) (ty := .int) (C := RX6) (T := TX6) (N := 6) hx hb hts hinX6 tyX6 tyX6_ok nmX6 hown hC.1 hP hD hS 0 rfl rfl 5 (by decide) f40 (fun _ h9 => h9) rfl (by decide +kernel) rfl rfl (Nat.le_of_ble_eq_true rfl) dX6_readFrom_47 (fun H locs hP hD hS => ?_)
  have hP : va_P g.1 vwCl [(oH, .inr (6, [.ref aH, .int (nI (cp 0 - 48)), .int (nI (cp 1 - 48)), .int (nI (cp 3 - 48)), .int (nI (cp 4 - 48)), .int (nI (cp 5 - 48))])), (aH, .inl (g.2.1, 6, .inl (fun j => nI (hh j)))), (oP, .inr (7, [.ref aC, .int (nI cN)])), (aC, .inl (g.2.1, 14, .inl (fun j => nI (cp j))))] H := hP
  have hD : va_D A [(oH, .inr (6, [.ref aH, .int (nI (cp 0 - 48)), .int (nI (cp 1 - 48)), .int (nI (cp 3 - 48)), .int (nI (cp 4 - 48)), .int (nI (cp 5 - 48))])), (aH, .inl (g.2.1, 6, .inl (fun j => nI (hh j)))), (oP, .inr (7, [.ref aC, .int (nI cN)])), (aC, .inl (g.2.1, 14, .inl (fun j => nI (cp j))))] := hD
  refine lv_iconst (v := nI 0) hx hb dX6_readFrom_50 (by decide) ?_
  refine lv_istore_n (lv' := [(2, .int (nI 0)), (0, .ref oH), (1, .ref oP)]) hx hb dX6_readFrom_51 rfl hl (by decide) rfl (fun ls hl => ?_)
  have hL52 : ∀ (n_9 : Nat) (i : Nat), cp 0 - 48 - i < n_9 → (i ≤ cp 0 - 48) → ∀ (H : Heap) (locs : List Loc), va_P g.1 vwCl [(oH, .inr (6, [.ref aH, .int (nI (cp 0 - 48)), .int (nI (cp 1 - 48)), .int (nI (cp 3 - 48)), .int (nI (cp 4 - 48)), .int (nI (cp 5 - 48))])), (aH, .inl (g.2.1, 6, .inl (fun j => nI (fo (rdH cp) hh i j)))), (oP, .inr (7, [.ref aC, .int (nI cN)])), (aC, .inl (g.2.1, 14, .inl (fun j => nI (cp j))))] H → va_D A [(oH, .inr (6, [.ref aH, .int (nI (cp 0 - 48)), .int (nI (cp 1 - 48)), .int (nI (cp 3 - 48)), .int (nI (cp 4 - 48)), .int (nI (cp 5 - 48))])), (aH, .inl (g.2.1, 6, .inl (fun j => nI (fo (rdH cp) hh i j)))), (oP, .inr (7, [.ref aC, .int (nI cN)])), (aC, .inl (g.2.1, 14, .inl (fun j => nI (cp j))))] → va_S A s.heap H locs → ∀ ls : Array Slot, lv_has ls 3 [(0, .ref oH), (1, .ref oP), (2, .int (nI i))] → W p l e ({ frames := 1, cells := 0, slots := 0, locals := 21 }) s m ([.ref oH, .ref oP] : List Value).toArray below meth c H locs 0 0 (MQ below (qMv g (fun (_ : Unit) => True) (fun (_ : Unit) => [(oH, .inr (6, [.ref aH, .int (nI (cp 0 - 48)), .int (nI (cp 1 - 48)), .int (nI (cp 3 - 48)), .int (nI (cp 4 - 48)), .int (nI (cp 5 - 48))])), (aH, .inl (g.2.1, 6, .inl (fun j => nI (fo (rdH cp) hh (cp 0 - 48) j)))), (oP, .inr (7, [.ref aC, .int (nI cN)])), (aC, .inl (g.2.1, 14, .inl (fun j => nI (cp j))))]) A) ([.ref oH, .ref oP] : List Value).toArray s 0 0 A) (F0 m 52 ls []) := by
   intro n_9
   induction n_9 with
   | zero => intro i hn_9; exact absurd hn_9 (Nat.not_lt_zero _)
   | succ n_9 ih52 =>
    intro i hn_9 hi H locs hP hD hS ls hl
    refine lv_iload_n hx hb dX6_readFrom_52 rfl (lv_at hl 2 rfl) ?_
    refine lv_aload_n hx hb dX6_readFrom_53 rfl (lv_at hl 0 rfl) ?_
    refine va_get (D := g.1) (ci := 6) (v := .int (nI (cp 0 - 48))) (C := RX6) (T := TX6) (N := 6) hx hb hts hinX6 hown hC.1 hP 0 rfl rfl 1 (by decide) f27 (fun _ h9 => h9) rfl dX6_readFrom_54 ?_
    refine lv_icmp_ge (tgt := 80) hx hb dX6_readFrom_57 (by decide) (fun c57 => ?_) (fun c57 => ?_)
    ·have c57 : (cp 0 - 48) ≤ i := (nI_leI (a := cp 0 - 48) (b := i) (by omega) (by omega)).mp c57
     exact retMv (w := [(oH, .inr (6, [.ref aH, .int (nI (cp 0 - 48)), .int (nI (cp 1 - 48)), .int (nI (cp 3 - 48)), .int (nI (cp 4 - 48)), .int (nI (cp 5 - 48))])), (aH, .inl (g.2.1, 6, .inl (fun j => nI (fo (rdH cp) hh i j)))), (oP, .inr (7, [.ref aC, .int (nI cN)])), (aC, .inl (g.2.1, 14, .inl (fun j => nI (cp j))))]) hx hb hr hlocks (hP.sub [0, 1, 2, 3] rfl) (hD.sub [0, 1, 2, 3] (by decide) rfl) hS () (by rw [show i = cp 0 - 48 by omega] <;> rfl) (trivial) dX6_readFrom_80
    ·have c57 : ¬ (cp 0 - 48) ≤ i := fun h9 => c57 ((nI_leI (a := cp 0 - 48) (b := i) (by omega) (by omega)).mpr h9)
     refine lv_aload_n hx hb dX6_readFrom_60 rfl (lv_at hl 0 rfl) ?_
     refine va_get (D := g.1) (ci := 6) (v := .ref aH) (C := RX6) (T := TX6) (N := 6) hx hb hts hinX6 hown hC.1 hP 0 rfl rfl 0 (by decide) f9 (fun _ h9 => h9) rfl dX6_readFrom_61 ?_
     refine lv_iload_n hx hb dX6_readFrom_64 rfl (lv_at hl 2 rfl) ?_
     refine lv_aload_n hx hb dX6_readFrom_65 rfl (lv_at hl 1 rfl) ?_
     refine lv_bipush (v := nI 7) hx hb dX6_readFrom_66 (by decide) ?_
     refine lv_iload_n hx hb dX6_readFrom_68 rfl (lv_at hl 2 rfl) ?_
     refine lv_iadd hx hb dX6_readFrom_69 ?_
     refine top_i (y := nI (7 + i)) (nI_add _ _) ?_
     refine goSi (T := fg cp (7 + i)) (va_runV (As := [.int (nI (7 + i))]) (rest := [.int (nI i), .ref aH]) ⟨hx, hb, hml, hown, hts⟩ (k_X7_digit l g oP aC cN cp (7 + i) (by first | assumption | exact Nat.zero_le _ | omega) (by first | assumption | exact Nat.zero_le _ | omega)) (cwV 1 hts gX6_readFrom_X7_digit rfl rfl rfl ⟨rfl, hdX7_digit⟩ ⟨Nat.le_of_ble_eq_true rfl, Nat.le_of_ble_eq_true rfl⟩) (preVS hC (hP.sub [2, 3] rfl) (va_recv hC.1 hP (ci := 7) (q0 := 2) rfl rfl)) rfl rfl hl.1 rfl (lv_room (Nat.le_of_ble_eq_true rfl)) dX6_readFrom_70 ⟨Nat.le_of_ble_eq_true rfl, Nat.le_of_ble_eq_true rfl⟩) ?_
     refine top_i (y := nI (cp (7 + i) - 48)) (fg_nI (by have := d11 (7 + i) (by omega) (by omega); omega)) ?_
     refine ast_in (f := fo (rdH cp) hh i) (j := i) (v := cp (7 + i) - 48) hx hb hC hP hD hS 1 rfl (by omega) (by decide) dX6_readFrom_73 (fun H locs hP hD hS => ?_)
     have hP : va_P g.1 vwCl [(oH, .inr (6, [.ref aH, .int (nI (cp 0 - 48)), .int (nI (cp 1 - 48)), .int (nI (cp 3 - 48)), .int (nI (cp 4 - 48)), .int (nI (cp 5 - 48))])), (aH, .inl (g.2.1, 6, .inl (fun j => nI (updN (fo (rdH cp) hh i) i (cp (7 + i) - 48) j)))), (oP, .inr (7, [.ref aC, .int (nI cN)])), (aC, .inl (g.2.1, 14, .inl (fun j => nI (cp j))))] H := hP
     have hD : va_D A [(oH, .inr (6, [.ref aH, .int (nI (cp 0 - 48)), .int (nI (cp 1 - 48)), .int (nI (cp 3 - 48)), .int (nI (cp 4 - 48)), .int (nI (cp 5 - 48))])), (aH, .inl (g.2.1, 6, .inl (fun j => nI (updN (fo (rdH cp) hh i) i (cp (7 + i) - 48) j)))), (oP, .inr (7, [.ref aC, .int (nI cN)])), (aC, .inl (g.2.1, 14, .inl (fun j => nI (cp j))))] := hD
     refine lv_iinc (v := nI (i + 1)) (lv' := [(2, .int (nI (i + 1))), (0, .ref oH), (1, .ref oP)]) hx hb dX6_readFrom_74 hl (k := 2) rfl (iinc1 _) (by decide) rfl (fun ls hl => ?_)
     refine lv_goto (tgt := 52) hx hb dX6_readFrom_77 (by decide) ?_
     exact ih52 (i + 1) (by omega) (by first | assumption | exact Nat.zero_le _ | omega) _ _ hP hD hS ls (lv_sub hl [1, 2, 0] rfl)
  exact hL52 _ 0 (Nat.lt_succ_self _) (by first | assumption | exact Nat.zero_le _ | omega) _ _ hP hD hS ls (lv_sub hl [1, 2, 0] rfl)

set_option maxHeartbeats 4000000 in
set_option maxRecDepth 100000 in
/-- BoiledEggs$Kitchen.allEggs  -/
theorem k_X6_allEggs (l : Launch) (g : GG) (oH : Nat) (aH : Nat) (nE : Nat) (nB : Nat) (nTb : Nat) (nTr : Nat) (nFa : Nat) (hE : nE ≤ 6) : Met l yX6_allEggs wsX6_allEggs ({ frames := 0, cells := 0, slots := 0, locals := 0 }) (pS g [.ref oH] [(oH, .inr (6, [.ref aH, .int (nI nE), .int (nI nB), .int (nI nTb), .int (nI nTr), .int (nI nFa)]))]) (vp_Si (fun r => r = (nI (2 ^ nE - 1)))) 0 0 noF := by
  refine metS (cc := cX6_allEggs) (maxL := 1) (ret := (some .int)) (by decide) rfl (Nat.le_of_ble_eq_true rfl) ?_
  intro p e s m below meth c hx hb hr hts hown hlocks hml hC hP ls hl
  have hl : lv_has ls 1 [(0, .ref oH)] := hl
  have hown : s.vm.findClass RX6 = some m.cls := hown
  have hts : ∀ w ∈ wsX6_allEggs, w.before ([.ref oH] : List Value).toArray s = true := hts
  have hinX6 := (by decide +kernel : ∀ w ∈ u_ws RX6 TX6 6, w ∈ wsX6_allEggs)
  have f27 := hts (.fieldLink RX6 27 "BoiledEggs$Kitchen" "eggs" "I") (by decide +kernel)
  refine lv_iconst (v := nI 1) hx hb dX6_allEggs_0 (by decide) ?_
  refine lv_aload_n hx hb dX6_allEggs_1 rfl (lv_at hl 0 rfl) ?_
  refine va_get (D := g.1) (ci := 6) (v := .int (nI nE)) (C := RX6) (T := TX6) (N := 6) hx hb hts hinX6 hown hC.1 hP 0 rfl rfl 1 (by decide) f27 (fun _ h9 => h9) rfl dX6_allEggs_2 ?_
  refine lv_ishl hx hb dX6_allEggs_5 ?_
  refine top_i (y := nI (2 ^ nE)) (shl1_nI (by omega)) ?_
  refine lv_iconst (v := nI 1) hx hb dX6_allEggs_6 (by decide) ?_
  refine lv_isub hx hb dX6_allEggs_7 ?_
  refine top_i (y := nI (2 ^ nE - 1)) (pk_sub Nat.one_le_two_pow) ?_
  exact retSi hx hb hr hlocks (rfl) dX6_allEggs_8

set_option maxHeartbeats 4000000 in
set_option maxRecDepth 100000 in
/-- BoiledEggs$Kitchen.tenthsOf  -/
theorem k_X6_tenthsOf (l : Launch) (g : GG) (oH : Nat) (aH : Nat) (nE : Nat) (nB : Nat) (nTb : Nat) (nTr : Nat) (nFa : Nat) (x1 : Bool) (x2 : Bool) (h1 : nTb ≤ 9) (h2 : nTr ≤ 9) : Met l yX6_tenthsOf wsX6_tenthsOf ({ frames := 0, cells := 0, slots := 0, locals := 0 }) (pS g [.ref oH, .int (zI x1), .int (zI x2)] [(oH, .inr (6, [.ref aH, .int (nI nE), .int (nI nB), .int (nI nTb), .int (nI nTr), .int (nI nFa)]))]) (vp_Si (fun r => r = (nI (cond x2 (cond x1 nTb nTr) (10 - cond x1 nTb nTr))))) 0 0 noF := by
  refine metS (cc := cX6_tenthsOf) (maxL := 4) (ret := (some .int)) (by decide) rfl (Nat.le_of_ble_eq_true rfl) ?_
  intro p e s m below meth c hx hb hr hts hown hlocks hml hC hP ls hl
  have hl : lv_has ls 4 [(0, .ref oH), (1, .int (zI x1)), (2, .int (zI x2))] := hl
  have hown : s.vm.findClass RX6 = some m.cls := hown
  have hts : ∀ w ∈ wsX6_tenthsOf, w.before ([.ref oH, .int (zI x1), .int (zI x2)] : List Value).toArray s = true := hts
  have hinX6 := (by decide +kernel : ∀ w ∈ u_ws RX6 TX6 6, w ∈ wsX6_tenthsOf)
  have f37 := hts (.fieldLink RX6 37 "BoiledEggs$Kitchen" "turnsRaw" "I") (by decide +kernel)
  have f34 := hts (.fieldLink RX6 34 "BoiledEggs$Kitchen" "turnsBoiled" "I") (by decide +kernel)
  have hJ15 : ∀ ls : Array Slot, lv_has ls 4 [(0, .ref oH), (1, .int (zI x1)), (2, .int (zI x2))] → W p l e ({ frames := 0, cells := 0, slots := 0, locals := 0 }) s m ([.ref oH, .int (zI x1), .int (zI x2)] : List Value).toArray below meth c s.heap [] 0 0 (MQ below (vp_Si (fun r => r = (nI (cond x2 (cond x1 nTb nTr) (10 - cond x1 nTb nTr))))) ([.ref oH, .int (zI x1), .int (zI x2)] : List Value).toArray s 0 0 noF) (F0 m 15 ls [.int (nI (cond x1 nTb nTr))]) := by
   intro  ls hl
   refine lv_istore_n (lv' := [(3, .int (nI (cond x1 nTb nTr))), (0, .ref oH), (1, .int (zI x1)), (2, .int (zI x2))]) hx hb dX6_tenthsOf_15 rfl hl (by decide) rfl (fun ls hl => ?_)
   refine lv_iload_n hx hb dX6_tenthsOf_16 rfl (lv_at hl 3 rfl) ?_
   refine lv_if_eq (tgt := 24) hx hb dX6_tenthsOf_17 (by decide) (fun c17 => ?_) (fun c17 => ?_)
   ·have c17 := zI_f.mp c17
    refine lv_bipush (v := nI 10) hx hb dX6_tenthsOf_24 (by decide) ?_
    refine lv_iload_n hx hb dX6_tenthsOf_26 rfl (lv_at hl 0 rfl) ?_
    refine lv_isub hx hb dX6_tenthsOf_27 ?_
    refine top_i (y := nI (10 - cond x1 nTb nTr)) (pk_sub (by cases x1; exact Nat.le_succ_of_le h2; exact Nat.le_succ_of_le h1)) ?_
    exact retSi hx hb hr hlocks (by rw [c17]; rfl) dX6_tenthsOf_28
   ·have c17 := zI_t.mp c17
    refine lv_iload_n hx hb dX6_tenthsOf_20 rfl (lv_at hl 0 rfl) ?_
    refine lv_goto (tgt := 28) hx hb dX6_tenthsOf_21 (by decide) ?_
    exact retSi hx hb hr hlocks (by rw [c17]; rfl) dX6_tenthsOf_28
  refine lv_iload_n hx hb dX6_tenthsOf_0 rfl (lv_at hl 1 rfl) ?_
  refine lv_if_eq (tgt := 11) hx hb dX6_tenthsOf_1 (by decide) (fun c1 => ?_) (fun c1 => ?_)
  ·have c1 := zI_f.mp c1
   refine lv_aload_n hx hb dX6_tenthsOf_11 rfl (lv_at hl 0 rfl) ?_
   refine va_get (D := g.1) (ci := 6) (v := .int (nI nTr)) (C := RX6) (T := TX6) (N := 6) hx hb hts hinX6 hown hC.1 hP 0 rfl rfl 4 (by decide) f37 (fun _ h9 => h9) rfl dX6_tenthsOf_12 ?_
   refine top_i (y := nI (cond x1 nTb nTr)) (by rw [c1]; rfl) ?_
   exact hJ15   ls (lv_sub hl [0, 1, 2] rfl)
  ·have c1 := zI_t.mp c1
   refine lv_aload_n hx hb dX6_tenthsOf_4 rfl (lv_at hl 0 rfl) ?_
   refine va_get (D := g.1) (ci := 6) (v := .int (nI nTb)) (C := RX6) (T := TX6) (N := 6) hx hb hts hinX6 hown hC.1 hP 0 rfl rfl 3 (by decide) f34 (fun _ h9 => h9) rfl dX6_tenthsOf_5 ?_
   refine lv_goto (tgt := 15) hx hb dX6_tenthsOf_8 (by decide) ?_
   refine top_i (y := nI (cond x1 nTb nTr)) (by rw [c1]; rfl) ?_
   exact hJ15   ls (lv_sub hl [0, 1, 2] rfl)

set_option maxHeartbeats 4000000 in
set_option maxRecDepth 100000 in
/-- BoiledEggs$Kitchen.habitsOf  -/
theorem k_X6_habitsOf (l : Launch) (g : GG) (oH : Nat) (aH : Nat) (nE : Nat) (nB : Nat) (nTb : Nat) (nTr : Nat) (nFa : Nat) (hh : Nat → Nat) (xb : Nat) (hE : nE ≤ 6) (hb0 : xb < 2 ^ 31) (hh0 : ∀ k, hh k < 1000) : Met l yX6_habitsOf wsX6_habitsOf ({ frames := 1, cells := 0, slots := 0, locals := 21 }) (pS g [.ref oH, .int (nI xb)] [(oH, .inr (6, [.ref aH, .int (nI nE), .int (nI nB), .int (nI nTb), .int (nI nTr), .int (nI nFa)])), (aH, .inl (g.2.1, 6, .inl (fun j => nI (hh j))))]) (vp_Sl (fun r => r = (lN (hbP hh nE xb)))) 0 0 noF := by
  refine metS (cc := cX6_habitsOf) (maxL := 5) (ret := (some .long)) (by decide) rfl (Nat.le_of_ble_eq_true rfl) ?_
  intro p e s m below meth c hx hb hr hts hown hlocks hml hC hP ls hl
  have hl : lv_has ls 5 [(0, .ref oH), (1, .int (nI xb))] := hl
  have hown : s.vm.findClass RX6 = some m.cls := hown
  have hts : ∀ w ∈ wsX6_habitsOf, w.before ([.ref oH, .int (nI xb)] : List Value).toArray s = true := hts
  have hinX6 := (by decide +kernel : ∀ w ∈ u_ws RX6 TX6 6, w ∈ wsX6_habitsOf)
  have f27 := hts (.fieldLink RX6 27 "BoiledEggs$Kitchen" "eggs" "I") (by decide +kernel)
  have iniX10 := hts (.initialized RX10) (by decide +kernel)
  have st43 := hts (.static yX10_has) (by decide +kernel)
  have f9 := hts (.fieldLink RX6 9 "BoiledEggs$Kitchen" "habits" "[I") (by decide +kernel)
  refine lv_lconst (v := lN 1) hx hb dX6_habitsOf_0 (by decide) ?_
  refine lv_lstore_n (lv' := [(2, .long (lN 1)), (0, .ref oH), (1, .int (nI xb))]) hx hb dX6_habitsOf_1 rfl hl (by decide) rfl (fun ls hl => ?_)
  refine lv_iconst (v := nI 0) hx hb dX6_habitsOf_2 (by decide) ?_
  refine lv_istore (lv' := [(4, .int (nI 0)), (2, .long (lN 1)), (0, .ref oH), (1, .int (nI xb))]) hx hb dX6_habitsOf_3 hl (by decide) rfl (fun ls hl => ?_)
  have hL5 : ∀ (n_9 : Nat) (i : Nat), nE - i < n_9 → (i ≤ nE) → ∀ ls : Array Slot, lv_has ls 5 [(0, .ref oH), (1, .int (nI xb)), (2, .long (lN (fo (hbF hh xb) 1 i))), (4, .int (nI i))] → W p l e ({ frames := 1, cells := 0, slots := 0, locals := 21 }) s m ([.ref oH, .int (nI xb)] : List Value).toArray below meth c s.heap [] 0 0 (MQ below (vp_Sl (fun r => r = (lN (hbP hh nE xb)))) ([.ref oH, .int (nI xb)] : List Value).toArray s 0 0 noF) (F0 m 5 ls []) := by
   intro n_9
   induction n_9 with
   | zero => intro i hn_9; exact absurd hn_9 (Nat.not_lt_zero _)
   | succ n_9 ih5 =>
    intro i hn_9 hi ls hl
    refine lv_iload hx hb dX6_habitsOf_5 (lv_at hl 3 rfl) ?_
    refine lv_aload_n hx hb dX6_habitsOf_7 rfl (lv_at hl 0 rfl) ?_
    refine va_get (D := g.1) (ci := 6) (v := .int (nI nE)) (C := RX6) (T := TX6) (N := 6) hx hb hts hinX6 hown hC.1 hP 0 rfl rfl 1 (by decide) f27 (fun _ h9 => h9) rfl dX6_habitsOf_8 ?_
    refine lv_icmp_ge (tgt := 40) hx hb dX6_habitsOf_11 (by decide) (fun c11 => ?_) (fun c11 => ?_)
    ·have c11 : nE ≤ i := (nI_leI (a := nE) (b := i) (by omega) (by omega)).mp c11
     refine lv_lload_n hx hb dX6_habitsOf_40 rfl (lv_at hl 2 rfl) ?_
     exact retSl hx hb hr hlocks (by rw [hbP, show nE = i by omega]) dX6_habitsOf_41
    ·have c11 : ¬ nE ≤ i := fun h9 => c11 ((nI_leI (a := nE) (b := i) (by omega) (by omega)).mpr h9)
     have hJ34 : ∀ ls : Array Slot, lv_has ls 5 [(0, .ref oH), (1, .int (nI xb)), (2, .long (lN (fo (hbF hh xb) 1 (i + 1)))), (4, .int (nI i))] → W p l e ({ frames := 1, cells := 0, slots := 0, locals := 21 }) s m ([.ref oH, .int (nI xb)] : List Value).toArray below meth c s.heap [] 0 0 (MQ below (vp_Sl (fun r => r = (lN (hbP hh nE xb)))) ([.ref oH, .int (nI xb)] : List Value).toArray s 0 0 noF) (F0 m 34 ls []) := by
      intro  ls hl
      refine lv_iinc (v := nI (i + 1)) (lv' := [(4, .int (nI (i + 1))), (0, .ref oH), (1, .int (nI xb)), (2, .long (lN (fo (hbF hh xb) 1 (i + 1))))]) hx hb dX6_habitsOf_34 hl (k := 3) rfl (iinc1 _) (by decide) rfl (fun ls hl => ?_)
      refine lv_goto (tgt := 5) hx hb dX6_habitsOf_37 (by decide) ?_
      exact ih5 (i + 1) (by omega) (by first | assumption | exact Nat.zero_le _ | omega) ls (lv_sub hl [1, 2, 3, 0] rfl)
     refine lv_iload_n hx hb dX6_habitsOf_14 rfl (lv_at hl 1 rfl) ?_
     refine lv_iload hx hb dX6_habitsOf_15 (lv_at hl 3 rfl) ?_
     refine goSi (T := zI (xb.testBit i)) (va_runSN (As := [.int (nI xb), .int (nI i)]) (rest := []) ⟨hx, hb, hml, hown, hts⟩ (k_X10_has l g xb i (by first | assumption | exact Nat.zero_le _ | omega) (by first | assumption | exact Nat.zero_le _ | omega)) ⟨va_cnB 2 hts gX6_habitsOf_X10_has_n43 rfl rfl rfl (hC.2.1 (.methodLinkNest RX6 43 yX10_has "BoiledEggs") (by decide +kernel)) iniX10 hdX10_has ⟨Nat.le_of_ble_eq_true rfl, Nat.le_of_ble_eq_true rfl⟩, st43, trivial⟩ (preSS hC (hP.sub [] rfl)) rfl rfl hl.1 rfl (lv_room (Nat.le_of_ble_eq_true rfl)) dX6_habitsOf_17 ⟨Nat.le_of_ble_eq_true rfl, Nat.le_of_ble_eq_true rfl⟩) ?_
     refine lv_if_eq (tgt := 34) hx hb dX6_habitsOf_20 (by decide) (fun c20 => ?_) (fun c20 => ?_)
     ·have c20 := zI_f.mp c20
      have hl : lv_has ls 5 [(0, .ref oH), (1, .int (nI xb)), (2, .long (lN (fo (hbF hh xb) 1 (i + 1)))), (4, .int (nI i))] := lv_val hl 2 rfl (congrArg Value.long (show lN (fo (hbF hh xb) 1 i) = lN (fo (hbF hh xb) 1 (i + 1)) from by rw [fo_s, hbF]; first | rw [if_pos c20] | rw [if_neg (by rw [c20]; decide)]))
      exact hJ34   ls (lv_sub hl [0, 1, 2, 3] rfl)
     ·have c20 := zI_t.mp c20
      refine lv_lload_n hx hb dX6_habitsOf_23 rfl (lv_at hl 2 rfl) ?_
      refine lv_aload_n hx hb dX6_habitsOf_24 rfl (lv_at hl 0 rfl) ?_
      refine va_get (D := g.1) (ci := 6) (v := .ref aH) (C := RX6) (T := TX6) (N := 6) hx hb hts hinX6 hown hC.1 hP 0 rfl rfl 0 (by decide) f9 (fun _ h9 => h9) rfl dX6_habitsOf_25 ?_
      refine lv_iload hx hb dX6_habitsOf_28 (lv_at hl 3 rfl) ?_
      refine ald_i (f := fun j => nI (hh j)) (j := i) hx hb hC hP 1 rfl (by omega) (by decide) dX6_habitsOf_30 ?_
      refine lv_i2l (v := lN (hh i)) hx hb dX6_habitsOf_31 (nI_l (by have := hh0 i; omega)) ?_
      refine lv_lmul hx hb dX6_habitsOf_32 ?_
      refine top_l (y := lN ((fo (hbF hh xb) 1 i) * (hh i))) (lN_mul _ _) ?_
      refine lv_lstore_n (lv' := [(2, .long (lN ((fo (hbF hh xb) 1 i) * (hh i)))), (0, .ref oH), (1, .int (nI xb)), (4, .int (nI i))]) hx hb dX6_habitsOf_33 rfl hl (by decide) rfl (fun ls hl => ?_)
      have hl : lv_has ls 5 [(2, .long (lN (fo (hbF hh xb) 1 (i + 1)))), (0, .ref oH), (1, .int (nI xb)), (4, .int (nI i))] := lv_val hl 0 rfl (congrArg Value.long (show lN ((fo (hbF hh xb) 1 i) * (hh i)) = lN (fo (hbF hh xb) 1 (i + 1)) from by rw [fo_s, hbF]; first | rw [if_pos c20] | rw [if_neg (by rw [c20]; decide)]))
      exact hJ34   ls (lv_sub hl [1, 2, 0, 3] rfl)
  exact hL5 _ 0 (Nat.lt_succ_self _) (by first | assumption | exact Nat.zero_le _ | omega) ls (lv_sub hl [2, 3, 1, 0] rfl)
