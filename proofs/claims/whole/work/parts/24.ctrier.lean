/-! triers -/
theorem absE (x : Int64) : (if 0 < x then x else -x) = if x < lN 0 then -x else x := by
  have e : lN 0 = 0 := by decide
  rw [e]
  by_cases h : 0 < x
  · rw [if_pos h, if_neg (Int64.lt_asymm h)]
  · rw [if_neg h]
    by_cases h2 : x < 0
    · rw [if_pos h2]
    · rw [if_neg h2]
      have h3 : x = 0 := Int64.le_antisymm (Int64.not_lt.mp h) (Int64.not_lt.mp h2)
      rw [h3]; decide
/-- the score that goes with the best so far -/
def bsc (sc : Nat → Int64) (best : Int32) : Int64 := if best = -1 then lN 0 else sc (ix best)
theorem bsc_n {sc : Nat → Int64} {e : Nat} (he : e < 2 ^ 31) : bsc sc (nI e) = sc e := by
  rw [bsc, if_neg (fun h => by have h1 := nI_toInt he; rw [h] at h1; have h2 : (-1 : Int32).toInt = -1 := (by decide); omega), ix_nI he]
theorem bsc_b {sc : Nat → Int64} {best : Int32} (hb : ¬ best = -1) : bsc sc best = sc (ix best) := if_neg hb
theorem cx_2 {k : Int32} {sc : Nat → Int64} {ib e : Nat} {best : Int32} (h : ib.testBit e = true) (hb : ¬ best = -1) (h1 : sc e < bsc sc best) : nxF k sc ib best e = nI e := by
  rw [bsc_b hb] at h1; rw [nxF, if_pos h, if_pos (Or.inr (Or.inl h1))]
theorem cx_3 {k : Int32} {sc : Nat → Int64} {ib e : Nat} {best : Int32} (h : ib.testBit e = true) (hb : ¬ best = -1) (hk : k = nI 4) (h1 : sc e = bsc sc best) : nxF k sc ib best e = nI e := by
  rw [bsc_b hb] at h1; rw [nxF, if_pos h, if_pos (Or.inr (Or.inr ⟨hk, h1⟩))]
theorem cx_4 {k : Int32} {sc : Nat → Int64} {ib e : Nat} {best : Int32} (h : ib.testBit e = true) (hb : ¬ best = -1) (h1 : ¬ sc e < bsc sc best) (h2 : ¬ (k = nI 4 ∧ sc e = bsc sc best)) : nxF k sc ib best e = best := by
  rw [bsc_b hb] at h1 h2; rw [nxF, if_pos h, if_neg (fun h9 => h9.elim hb (fun h9 => h9.elim h1 h2))]
def csc (fB fW : Nat → Nat) (fi : Nat) (k : Int32) : Nat → Int64 := fun e => bad k (smB fB fW e fi) (smN fW fi)
def cnx (fB fW : Nat → Nat) (fi ib : Nat) (k : Int32) : Int32 := fo (nxF k (csc fB fW fi k) ib) (-1) 6
set_option maxHeartbeats 4000000 in
set_option maxRecDepth 100000 in
/-- BoiledEggs$Trier.<init>  -/
theorem k_X9_init (l : Launch) (g : GG) (sz : Nat) (oX : Nat)  : Met l yX9_init wsX9_init ({ frames := 1, cells := 0, slots := 0, locals := 20 }) (pM g sz [.ref oX] []) (qMv g (fun (_ : Unit) => True) (fun (_ : Unit) => []) (va_A [] sz)) 0 0 (va_A [] sz) := by
  refine metM (Qf := fun A => (qMv g (fun (_ : Unit) => True) (fun (_ : Unit) => []) A)) (cc := cX9_init) (maxL := 1) (ret := none) (by decide) rfl (Nat.le_of_ble_eq_true rfl) ?_
  intro p e s m below meth c hx hb hr hts hown hlocks hml hin0 hC A hA hP hD hS ls hl
  have hl : lv_has ls 1 [(0, .ref oX)] := hl
  have hown : s.vm.findClass RX9 = some m.cls := hown
  have hts : ∀ w ∈ wsX9_init, w.before ([.ref oX] : List Value).toArray s = true := hts
  have lo3 := hts (.methodLink RX9 3 objectInit) (by decide +kernel)
  have oi := hts (.instanceMethod objectInit) (by decide +kernel)
  have oc := hts (.code objectInit ⟨#[0xb1]⟩ 1 none) (by decide +kernel)
  refine lv_aload_n hx hb dX9_init_0 rfl (lv_at hl 0 rfl) ?_
  refine W.objInit hx hb hown lo3 oi oc rfl (by rw [hml]; exact hl.1) rfl dX9_init_1 (Nat.le_of_ble_eq_true rfl) (Nat.le_of_ble_eq_true rfl) ?_
  refine W.eq (g2 := F0 m 4 ls []) rfl ?_
  exact retMv (w := []) hx hb hr hlocks (hP.sub [] rfl) (hD.sub [] (by decide) rfl) hS () (rfl) (trivial) dX9_init_4

set_option maxHeartbeats 4000000 in
set_option maxRecDepth 100000 in
/-- BoiledEggs$Bold.<init>  -/
theorem k_X0_init (l : Launch) (g : GG) (sz : Nat) (oX : Nat)  : Met l yX0_init wsX0_init ({ frames := 2, cells := 0, slots := 0, locals := 40 }) (pM g sz [.ref oX] []) (qMv g (fun (_ : Unit) => True) (fun (_ : Unit) => []) (va_A [] sz)) 0 0 (va_A [] sz) := by
  refine metM (Qf := fun A => (qMv g (fun (_ : Unit) => True) (fun (_ : Unit) => []) A)) (cc := cX0_init) (maxL := 1) (ret := none) (by decide) rfl (Nat.le_of_ble_eq_true rfl) ?_
  intro p e s m below meth c hx hb hr hts hown hlocks hml hin0 hC A hA hP hD hS ls hl
  have hl : lv_has ls 1 [(0, .ref oX)] := hl
  have hown : s.vm.findClass RX0 = some m.cls := hown
  have hts : ∀ w ∈ wsX0_init, w.before ([.ref oX] : List Value).toArray s = true := hts
  have iniX9 := hts (.initialized RX9) (by decide +kernel)
  have im1 := hts (.instanceMethod yX9_init) (by decide +kernel)
  refine lv_aload_n hx hb dX0_init_0 rfl (lv_at hl 0 rfl) ?_
  refine goMv (S := Unit) (wr := []) (va_runIN (As := []) (rest := []) ⟨hx, hb, hml, hown, hts⟩ (k_X9_init l g _ oX ) ⟨va_cnB 0 hts gX0_init_X9_init_n1 rfl rfl rfl (hC.2.1 (.methodLinkNest RX0 1 yX9_init "BoiledEggs") (by decide +kernel)) iniX9 hdX9_init ⟨Nat.le_of_ble_eq_true rfl, Nat.le_of_ble_eq_true rfl⟩, rfl, im1⟩ (preSM hC (hP.sub [] rfl) (hD.sub [] (by decide) rfl)) rfl rfl hl.1 rfl (lv_room (Nat.le_of_ble_eq_true rfl)) dX0_init_1 ⟨Nat.le_of_ble_eq_true rfl, Nat.le_of_ble_eq_true rfl⟩) hP hD hS hA [] [] rfl rfl (by decide) (by decide) (fun _ H locs hw_9 hP hD hS => ?_)
  have hP : va_P g.1 vwCl [] H := hP
  have hD : va_D A [] := hD
  exact retMv (w := []) hx hb hr hlocks (hP.sub [] rfl) (hD.sub [] (by decide) rfl) hS () (rfl) (trivial) dX0_init_4

set_option maxHeartbeats 4000000 in
set_option maxRecDepth 100000 in
/-- BoiledEggs$Doubter.<init>  -/
theorem k_X2_init (l : Launch) (g : GG) (sz : Nat) (oX : Nat)  : Met l yX2_init wsX2_init ({ frames := 2, cells := 0, slots := 0, locals := 40 }) (pM g sz [.ref oX] []) (qMv g (fun (_ : Unit) => True) (fun (_ : Unit) => []) (va_A [] sz)) 0 0 (va_A [] sz) := by
  refine metM (Qf := fun A => (qMv g (fun (_ : Unit) => True) (fun (_ : Unit) => []) A)) (cc := cX2_init) (maxL := 1) (ret := none) (by decide) rfl (Nat.le_of_ble_eq_true rfl) ?_
  intro p e s m below meth c hx hb hr hts hown hlocks hml hin0 hC A hA hP hD hS ls hl
  have hl : lv_has ls 1 [(0, .ref oX)] := hl
  have hown : s.vm.findClass RX2 = some m.cls := hown
  have hts : ∀ w ∈ wsX2_init, w.before ([.ref oX] : List Value).toArray s = true := hts
  have iniX9 := hts (.initialized RX9) (by decide +kernel)
  have im1 := hts (.instanceMethod yX9_init) (by decide +kernel)
  refine lv_aload_n hx hb dX2_init_0 rfl (lv_at hl 0 rfl) ?_
  refine goMv (S := Unit) (wr := []) (va_runIN (As := []) (rest := []) ⟨hx, hb, hml, hown, hts⟩ (k_X9_init l g _ oX ) ⟨va_cnB 0 hts gX2_init_X9_init_n1 rfl rfl rfl (hC.2.1 (.methodLinkNest RX2 1 yX9_init "BoiledEggs") (by decide +kernel)) iniX9 hdX9_init ⟨Nat.le_of_ble_eq_true rfl, Nat.le_of_ble_eq_true rfl⟩, rfl, im1⟩ (preSM hC (hP.sub [] rfl) (hD.sub [] (by decide) rfl)) rfl rfl hl.1 rfl (lv_room (Nat.le_of_ble_eq_true rfl)) dX2_init_1 ⟨Nat.le_of_ble_eq_true rfl, Nat.le_of_ble_eq_true rfl⟩) hP hD hS hA [] [] rfl rfl (by decide) (by decide) (fun _ H locs hw_9 hP hD hS => ?_)
  have hP : va_P g.1 vwCl [] H := hP
  have hD : va_D A [] := hD
  exact retMv (w := []) hx hb hr hlocks (hP.sub [] rfl) (hD.sub [] (by decide) rfl) hS () (rfl) (trivial) dX2_init_4

set_option maxHeartbeats 4000000 in
set_option maxRecDepth 100000 in
/-- BoiledEggs$Hungry.<init>  -/
theorem k_X5_init (l : Launch) (g : GG) (sz : Nat) (oX : Nat)  : Met l yX5_init wsX5_init ({ frames := 2, cells := 0, slots := 0, locals := 40 }) (pM g sz [.ref oX] []) (qMv g (fun (_ : Unit) => True) (fun (_ : Unit) => []) (va_A [] sz)) 0 0 (va_A [] sz) := by
  refine metM (Qf := fun A => (qMv g (fun (_ : Unit) => True) (fun (_ : Unit) => []) A)) (cc := cX5_init) (maxL := 1) (ret := none) (by decide) rfl (Nat.le_of_ble_eq_true rfl) ?_
  intro p e s m below meth c hx hb hr hts hown hlocks hml hin0 hC A hA hP hD hS ls hl
  have hl : lv_has ls 1 [(0, .ref oX)] := hl
  have hown : s.vm.findClass RX5 = some m.cls := hown
  have hts : ∀ w ∈ wsX5_init, w.before ([.ref oX] : List Value).toArray s = true := hts
  have iniX9 := hts (.initialized RX9) (by decide +kernel)
  have im1 := hts (.instanceMethod yX9_init) (by decide +kernel)
  refine lv_aload_n hx hb dX5_init_0 rfl (lv_at hl 0 rfl) ?_
  refine goMv (S := Unit) (wr := []) (va_runIN (As := []) (rest := []) ⟨hx, hb, hml, hown, hts⟩ (k_X9_init l g _ oX ) ⟨va_cnB 0 hts gX5_init_X9_init_n1 rfl rfl rfl (hC.2.1 (.methodLinkNest RX5 1 yX9_init "BoiledEggs") (by decide +kernel)) iniX9 hdX9_init ⟨Nat.le_of_ble_eq_true rfl, Nat.le_of_ble_eq_true rfl⟩, rfl, im1⟩ (preSM hC (hP.sub [] rfl) (hD.sub [] (by decide) rfl)) rfl rfl hl.1 rfl (lv_room (Nat.le_of_ble_eq_true rfl)) dX5_init_1 ⟨Nat.le_of_ble_eq_true rfl, Nat.le_of_ble_eq_true rfl⟩) hP hD hS hA [] [] rfl rfl (by decide) (by decide) (fun _ H locs hw_9 hP hD hS => ?_)
  have hP : va_P g.1 vwCl [] H := hP
  have hD : va_D A [] := hD
  exact retMv (w := []) hx hb hr hlocks (hP.sub [] rfl) (hD.sub [] (by decide) rfl) hS () (rfl) (trivial) dX5_init_4

set_option maxHeartbeats 4000000 in
set_option maxRecDepth 100000 in
/-- BoiledEggs$Greedy.<init>  -/
theorem k_X4_init (l : Launch) (g : GG) (sz : Nat) (oX : Nat)  : Met l yX4_init wsX4_init ({ frames := 3, cells := 0, slots := 0, locals := 60 }) (pM g sz [.ref oX] []) (qMv g (fun (_ : Unit) => True) (fun (_ : Unit) => []) (va_A [] sz)) 0 0 (va_A [] sz) := by
  refine metM (Qf := fun A => (qMv g (fun (_ : Unit) => True) (fun (_ : Unit) => []) A)) (cc := cX4_init) (maxL := 1) (ret := none) (by decide) rfl (Nat.le_of_ble_eq_true rfl) ?_
  intro p e s m below meth c hx hb hr hts hown hlocks hml hin0 hC A hA hP hD hS ls hl
  have hl : lv_has ls 1 [(0, .ref oX)] := hl
  have hown : s.vm.findClass RX4 = some m.cls := hown
  have hts : ∀ w ∈ wsX4_init, w.before ([.ref oX] : List Value).toArray s = true := hts
  have iniX5 := hts (.initialized RX5) (by decide +kernel)
  have im1 := hts (.instanceMethod yX5_init) (by decide +kernel)
  refine lv_aload_n hx hb dX4_init_0 rfl (lv_at hl 0 rfl) ?_
  refine goMv (S := Unit) (wr := []) (va_runIN (As := []) (rest := []) ⟨hx, hb, hml, hown, hts⟩ (k_X5_init l g _ oX ) ⟨va_cnB 0 hts gX4_init_X5_init_n1 rfl rfl rfl (hC.2.1 (.methodLinkNest RX4 1 yX5_init "BoiledEggs") (by decide +kernel)) iniX5 hdX5_init ⟨Nat.le_of_ble_eq_true rfl, Nat.le_of_ble_eq_true rfl⟩, rfl, im1⟩ (preSM hC (hP.sub [] rfl) (hD.sub [] (by decide) rfl)) rfl rfl hl.1 rfl (lv_room (Nat.le_of_ble_eq_true rfl)) dX4_init_1 ⟨Nat.le_of_ble_eq_true rfl, Nat.le_of_ble_eq_true rfl⟩) hP hD hS hA [] [] rfl rfl (by decide) (by decide) (fun _ H locs hw_9 hP hD hS => ?_)
  have hP : va_P g.1 vwCl [] H := hP
  have hD : va_D A [] := hD
  exact retMv (w := []) hx hb hr hlocks (hP.sub [] rfl) (hD.sub [] (by decide) rfl) hS () (rfl) (trivial) dX4_init_4

set_option maxHeartbeats 4000000 in
set_option maxRecDepth 100000 in
/-- BoiledEggs$Trier.kind  -/
theorem k_X9_kind (l : Launch) (g : GG) (oX : Nat)  : Met l yX9_kind wsX9_kind ({ frames := 0, cells := 0, slots := 0, locals := 0 }) (pS g [.ref oX] []) (vp_Si (fun r => r = (nI 0))) 0 0 noF := by
  refine metS (cc := cX9_kind) (maxL := 1) (ret := (some .int)) (by decide) rfl (Nat.le_of_ble_eq_true rfl) ?_
  intro p e s m below meth c hx hb hr hts hown hlocks hml hC hP ls hl
  have hl : lv_has ls 1 [(0, .ref oX)] := hl
  have hown : s.vm.findClass RX9 = some m.cls := hown
  have hts : ∀ w ∈ wsX9_kind, w.before ([.ref oX] : List Value).toArray s = true := hts
  refine lv_iconst (v := nI 0) hx hb dX9_kind_0 (by decide) ?_
  exact retSi hx hb hr hlocks (rfl) dX9_kind_1

set_option maxHeartbeats 4000000 in
set_option maxRecDepth 100000 in
/-- BoiledEggs$Doubter.kind  -/
theorem k_X2_kind (l : Launch) (g : GG) (oX : Nat)  : Met l yX2_kind wsX2_kind ({ frames := 0, cells := 0, slots := 0, locals := 0 }) (pS g [.ref oX] []) (vp_Si (fun r => r = (nI 1))) 0 0 noF := by
  refine metS (cc := cX2_kind) (maxL := 1) (ret := (some .int)) (by decide) rfl (Nat.le_of_ble_eq_true rfl) ?_
  intro p e s m below meth c hx hb hr hts hown hlocks hml hC hP ls hl
  have hl : lv_has ls 1 [(0, .ref oX)] := hl
  have hown : s.vm.findClass RX2 = some m.cls := hown
  have hts : ∀ w ∈ wsX2_kind, w.before ([.ref oX] : List Value).toArray s = true := hts
  refine lv_iconst (v := nI 1) hx hb dX2_kind_0 (by decide) ?_
  exact retSi hx hb hr hlocks (rfl) dX2_kind_1

set_option maxHeartbeats 4000000 in
set_option maxRecDepth 100000 in
/-- BoiledEggs$Bold.kind  -/
theorem k_X0_kind (l : Launch) (g : GG) (oX : Nat)  : Met l yX0_kind wsX0_kind ({ frames := 0, cells := 0, slots := 0, locals := 0 }) (pS g [.ref oX] []) (vp_Si (fun r => r = (nI 2))) 0 0 noF := by
  refine metS (cc := cX0_kind) (maxL := 1) (ret := (some .int)) (by decide) rfl (Nat.le_of_ble_eq_true rfl) ?_
  intro p e s m below meth c hx hb hr hts hown hlocks hml hC hP ls hl
  have hl : lv_has ls 1 [(0, .ref oX)] := hl
  have hown : s.vm.findClass RX0 = some m.cls := hown
  have hts : ∀ w ∈ wsX0_kind, w.before ([.ref oX] : List Value).toArray s = true := hts
  refine lv_iconst (v := nI 2) hx hb dX0_kind_0 (by decide) ?_
  exact retSi hx hb hr hlocks (rfl) dX0_kind_1

set_option maxHeartbeats 4000000 in
set_option maxRecDepth 100000 in
/-- BoiledEggs$Hungry.kind  -/
theorem k_X5_kind (l : Launch) (g : GG) (oX : Nat)  : Met l yX5_kind wsX5_kind ({ frames := 0, cells := 0, slots := 0, locals := 0 }) (pS g [.ref oX] []) (vp_Si (fun r => r = (nI 3))) 0 0 noF := by
  refine metS (cc := cX5_kind) (maxL := 1) (ret := (some .int)) (by decide) rfl (Nat.le_of_ble_eq_true rfl) ?_
  intro p e s m below meth c hx hb hr hts hown hlocks hml hC hP ls hl
  have hl : lv_has ls 1 [(0, .ref oX)] := hl
  have hown : s.vm.findClass RX5 = some m.cls := hown
  have hts : ∀ w ∈ wsX5_kind, w.before ([.ref oX] : List Value).toArray s = true := hts
  refine lv_iconst (v := nI 3) hx hb dX5_kind_0 (by decide) ?_
  exact retSi hx hb hr hlocks (rfl) dX5_kind_1

set_option maxHeartbeats 4000000 in
set_option maxRecDepth 100000 in
/-- BoiledEggs$Greedy.kind  -/
theorem k_X4_kind (l : Launch) (g : GG) (oX : Nat)  : Met l yX4_kind wsX4_kind ({ frames := 0, cells := 0, slots := 0, locals := 0 }) (pS g [.ref oX] []) (vp_Si (fun r => r = (nI 4))) 0 0 noF := by
  refine metS (cc := cX4_kind) (maxL := 1) (ret := (some .int)) (by decide) rfl (Nat.le_of_ble_eq_true rfl) ?_
  intro p e s m below meth c hx hb hr hts hown hlocks hml hC hP ls hl
  have hl : lv_has ls 1 [(0, .ref oX)] := hl
  have hown : s.vm.findClass RX4 = some m.cls := hown
  have hts : ∀ w ∈ wsX4_kind, w.before ([.ref oX] : List Value).toArray s = true := hts
  refine lv_iconst (v := nI 4) hx hb dX4_kind_0 (by decide) ?_
  exact retSi hx hb hr hlocks (rfl) dX4_kind_1

set_option maxHeartbeats 4000000 in
set_option maxRecDepth 100000 in
/-- BoiledEggs$Trier.takesLast  -/
theorem k_X9_takesLast (l : Launch) (g : GG) (oX : Nat)  : Met l yX9_takesLast wsX9_takesLast ({ frames := 0, cells := 0, slots := 0, locals := 0 }) (pS g [.ref oX] []) (vp_Si (fun r => r = (zI false))) 0 0 noF := by
  refine metS (cc := cX9_takesLast) (maxL := 1) (ret := (some .boolean)) (by decide) rfl (Nat.le_of_ble_eq_true rfl) ?_
  intro p e s m below meth c hx hb hr hts hown hlocks hml hC hP ls hl
  have hl : lv_has ls 1 [(0, .ref oX)] := hl
  have hown : s.vm.findClass RX9 = some m.cls := hown
  have hts : ∀ w ∈ wsX9_takesLast, w.before ([.ref oX] : List Value).toArray s = true := hts
  refine lv_iconst (v := nI 0) hx hb dX9_takesLast_0 (by decide) ?_
  exact retSz hx hb hr hlocks (by decide) (by decide) dX9_takesLast_1

set_option maxHeartbeats 4000000 in
set_option maxRecDepth 100000 in
/-- BoiledEggs$Greedy.takesLast  -/
theorem k_X4_takesLast (l : Launch) (g : GG) (oX : Nat)  : Met l yX4_takesLast wsX4_takesLast ({ frames := 0, cells := 0, slots := 0, locals := 0 }) (pS g [.ref oX] []) (vp_Si (fun r => r = (zI true))) 0 0 noF := by
  refine metS (cc := cX4_takesLast) (maxL := 1) (ret := (some .boolean)) (by decide) rfl (Nat.le_of_ble_eq_true rfl) ?_
  intro p e s m below meth c hx hb hr hts hown hlocks hml hC hP ls hl
  have hl : lv_has ls 1 [(0, .ref oX)] := hl
  have hown : s.vm.findClass RX4 = some m.cls := hown
  have hts : ∀ w ∈ wsX4_takesLast, w.before ([.ref oX] : List Value).toArray s = true := hts
  refine lv_iconst (v := nI 1) hx hb dX4_takesLast_0 (by decide) ?_
  exact retSz hx hb hr hlocks (by decide) (by decide) dX4_takesLast_1

set_option maxHeartbeats 4000000 in
set_option maxRecDepth 100000 in
/-- BoiledEggs$Trier.score  -/
theorem k_X9_score (l : Launch) (g : GG) (oX : Nat) (oT : Nat) (aB : Nat) (aW : Nat) (aS : Nat) (aU : Nat) (aK : Nat) (fi : Nat) (ib : Nat) (sn : Nat) (fB : Nat → Nat) (fW : Nat → Nat) (xe : Nat) (hf0 : fi ≤ 20) (hB : ∀ j, fB j < 64) (he0 : xe < 31) : Met l yX9_score wsX9_score ({ frames := 0, cells := 0, slots := 0, locals := 0 }) (pS g [.ref oX, .ref oT, .int (nI xe)] [(oT, .inr (8, [.ref aB, .ref aW, .ref aS, .ref aU, .ref aK, .int (nI fi), .int (nI ib), .int (nI sn)])), (aB, .inl (g.2.1, 20, .inl (fun j => nI (fB j)))), (aW, .inl (g.2.2.1, 20, .inr (.inl (fun j => lN (fW j)))))]) (vp_Sl (fun r => r = (bad (nI 0) (smB fB fW xe fi) (smN fW fi)))) 0 0 noF := by
  refine metS (cc := cX9_score) (maxL := 3) (ret := (some .long)) (by decide) rfl (Nat.le_of_ble_eq_true rfl) ?_
  intro p e s m below meth c hx hb hr hts hown hlocks hml hC hP ls hl
  have hl : lv_has ls 3 [(0, .ref oX), (1, .ref oT), (2, .int (nI xe))] := hl
  have hown : s.vm.findClass RX9 = some m.cls := hown
  have hts : ∀ w ∈ wsX9_score, w.before ([.ref oX, .ref oT, .int (nI xe)] : List Value).toArray s = true := hts
  refine lv_lconst (v := lN 0) hx hb dX9_score_0 (by decide) ?_
  exact retSl hx hb hr hlocks (rfl) dX9_score_1

set_option maxHeartbeats 4000000 in
set_option maxRecDepth 100000 in
/-- BoiledEggs$Doubter.score  -/
theorem k_X2_score (l : Launch) (g : GG) (oX : Nat) (oT : Nat) (aB : Nat) (aW : Nat) (aS : Nat) (aU : Nat) (aK : Nat) (fi : Nat) (ib : Nat) (sn : Nat) (fB : Nat → Nat) (fW : Nat → Nat) (xe : Nat) (hf0 : fi ≤ 20) (hB : ∀ j, fB j < 64) (he0 : xe < 31) : Met l yX2_score wsX2_score ({ frames := 2, cells := 0, slots := 0, locals := 45 }) (pS g [.ref oX, .ref oT, .int (nI xe)] [(oT, .inr (8, [.ref aB, .ref aW, .ref aS, .ref aU, .ref aK, .int (nI fi), .int (nI ib), .int (nI sn)])), (aB, .inl (g.2.1, 20, .inl (fun j => nI (fB j)))), (aW, .inl (g.2.2.1, 20, .inr (.inl (fun j => lN (fW j)))))]) (vp_Sl (fun r => r = (bad (nI 1) (smB fB fW xe fi) (smN fW fi)))) 0 0 noF := by
  refine metS (cc := cX2_score) (maxL := 3) (ret := (some .long)) (by decide) rfl (Nat.le_of_ble_eq_true rfl) ?_
  intro p e s m below meth c hx hb hr hts hown hlocks hml hC hP ls hl
  have hl : lv_has ls 3 [(0, .ref oX), (1, .ref oT), (2, .int (nI xe))] := hl
  have hown : s.vm.findClass RX2 = some m.cls := hown
  have hts : ∀ w ∈ wsX2_score, w.before ([.ref oX, .ref oT, .int (nI xe)] : List Value).toArray s = true := hts
  have k7 := hts (.constantLong RX2 7 (2)) (by decide +kernel)
  have ml19 := hts (.methodLink RX2 19 Lib.MathLoose.abs_long.x) (by decide +kernel)
  have ms19 := hts (.static Lib.MathLoose.abs_long.x) (by decide +kernel)
  have mi := hts (.initialized "java/lang/Math") (by decide +kernel)
  have mc19 := hts (.code Lib.MathLoose.abs_long.x Lib.MathLoose.abs_long.code 2 (some .long)) (by decide +kernel)
  refine lv_ldc2 hx hb hown k7 dX2_score_0 ?_
  refine top_l (y := lN 2) (by decide) ?_
  refine lv_aload_n hx hb dX2_score_3 rfl (lv_at hl 1 rfl) ?_
  refine lv_iload_n hx hb dX2_score_4 rfl (lv_at hl 2 rfl) ?_
  refine goSl (T := lN (smB fB fW xe fi)) (va_runV (As := [.int (nI xe)]) (rest := [.long (lN 2)]) ⟨hx, hb, hml, hown, hts⟩ (k_X8_boiledWeight l g oT aB aW aS aU aK fi ib sn fB fW xe (by first | assumption | exact Nat.zero_le _ | omega) (by first | assumption | exact Nat.zero_le _ | omega) (by first | assumption | exact Nat.zero_le _ | omega)) (cwV 1 hts gX2_score_X8_boiledWeight rfl rfl rfl ⟨rfl, hdX8_boiledWeight⟩ ⟨Nat.le_of_ble_eq_true rfl, Nat.le_of_ble_eq_true rfl⟩) (preVS hC (hP.sub [0, 1, 2] rfl) (va_recv hC.1 hP (ci := 8) (q0 := 0) rfl rfl)) rfl rfl hl.1 rfl (lv_room (Nat.le_of_ble_eq_true rfl)) dX2_score_5 ⟨Nat.le_of_ble_eq_true rfl, Nat.le_of_ble_eq_true rfl⟩) ?_
  refine lv_lmul hx hb dX2_score_8 ?_
  refine top_l (y := lN (2 * (smB fB fW xe fi))) (lN_mul _ _) ?_
  refine lv_aload_n hx hb dX2_score_9 rfl (lv_at hl 1 rfl) ?_
  refine goSl (T := lN (smN fW fi)) (va_runV (As := []) (rest := [.long (lN (2 * (smB fB fW xe fi)))]) ⟨hx, hb, hml, hown, hts⟩ (k_X8_allWeight l g oT aB aW aS aU aK fi ib sn fW (by first | assumption | exact Nat.zero_le _ | omega)) (cwV 0 hts gX2_score_X8_allWeight rfl rfl rfl ⟨rfl, hdX8_allWeight⟩ ⟨Nat.le_of_ble_eq_true rfl, Nat.le_of_ble_eq_true rfl⟩) (preVS hC (hP.sub [0, 2] rfl) (va_recv hC.1 hP (ci := 8) (q0 := 0) rfl rfl)) rfl rfl hl.1 rfl (lv_room (Nat.le_of_ble_eq_true rfl)) dX2_score_10 ⟨Nat.le_of_ble_eq_true rfl, Nat.le_of_ble_eq_true rfl⟩) ?_
  refine lv_lsub hx hb dX2_score_13 ?_
  refine va_mabs_long hx hb (by rw [hml]; exact hl.1.symm) hown ml19 ms19 mi mc19 (Nat.le_of_ble_eq_true rfl) (Nat.le_of_ble_eq_true rfl) (Nat.zero_le _) (Nat.zero_le _) dX2_score_14 ?_
  exact retSl hx hb hr hlocks (by rw [absE]; rfl) dX2_score_17

set_option maxHeartbeats 4000000 in
set_option maxRecDepth 100000 in
/-- BoiledEggs$Bold.score  -/
theorem k_X0_score (l : Launch) (g : GG) (oX : Nat) (oT : Nat) (aB : Nat) (aW : Nat) (aS : Nat) (aU : Nat) (aK : Nat) (fi : Nat) (ib : Nat) (sn : Nat) (fB : Nat → Nat) (fW : Nat → Nat) (xe : Nat) (hf0 : fi ≤ 20) (hB : ∀ j, fB j < 64) (he0 : xe < 31) : Met l yX0_score wsX0_score ({ frames := 2, cells := 0, slots := 0, locals := 45 }) (pS g [.ref oX, .ref oT, .int (nI xe)] [(oT, .inr (8, [.ref aB, .ref aW, .ref aS, .ref aU, .ref aK, .int (nI fi), .int (nI ib), .int (nI sn)])), (aB, .inl (g.2.1, 20, .inl (fun j => nI (fB j)))), (aW, .inl (g.2.2.1, 20, .inr (.inl (fun j => lN (fW j)))))]) (vp_Sl (fun r => r = (bad (nI 2) (smB fB fW xe fi) (smN fW fi)))) 0 0 noF := by
  refine metS (cc := cX0_score) (maxL := 3) (ret := (some .long)) (by decide) rfl (Nat.le_of_ble_eq_true rfl) ?_
  intro p e s m below meth c hx hb hr hts hown hlocks hml hC hP ls hl
  have hl : lv_has ls 3 [(0, .ref oX), (1, .ref oT), (2, .int (nI xe))] := hl
  have hown : s.vm.findClass RX0 = some m.cls := hown
  have hts : ∀ w ∈ wsX0_score, w.before ([.ref oX, .ref oT, .int (nI xe)] : List Value).toArray s = true := hts
  refine lv_aload_n hx hb dX0_score_0 rfl (lv_at hl 1 rfl) ?_
  refine lv_iload_n hx hb dX0_score_1 rfl (lv_at hl 2 rfl) ?_
  refine goSl (T := lN (smB fB fW xe fi)) (va_runV (As := [.int (nI xe)]) (rest := []) ⟨hx, hb, hml, hown, hts⟩ (k_X8_boiledWeight l g oT aB aW aS aU aK fi ib sn fB fW xe (by first | assumption | exact Nat.zero_le _ | omega) (by first | assumption | exact Nat.zero_le _ | omega) (by first | assumption | exact Nat.zero_le _ | omega)) (cwV 1 hts gX0_score_X8_boiledWeight rfl rfl rfl ⟨rfl, hdX8_boiledWeight⟩ ⟨Nat.le_of_ble_eq_true rfl, Nat.le_of_ble_eq_true rfl⟩) (preVS hC (hP.sub [0, 1, 2] rfl) (va_recv hC.1 hP (ci := 8) (q0 := 0) rfl rfl)) rfl rfl hl.1 rfl (lv_room (Nat.le_of_ble_eq_true rfl)) dX0_score_2 ⟨Nat.le_of_ble_eq_true rfl, Nat.le_of_ble_eq_true rfl⟩) ?_
  exact retSl hx hb hr hlocks (rfl) dX0_score_5

set_option maxHeartbeats 4000000 in
set_option maxRecDepth 100000 in
/-- BoiledEggs$Hungry.score  -/
theorem k_X5_score (l : Launch) (g : GG) (oX : Nat) (oT : Nat) (aB : Nat) (aW : Nat) (aS : Nat) (aU : Nat) (aK : Nat) (fi : Nat) (ib : Nat) (sn : Nat) (fB : Nat → Nat) (fW : Nat → Nat) (xe : Nat) (hf0 : fi ≤ 20) (hB : ∀ j, fB j < 64) (he0 : xe < 31) : Met l yX5_score wsX5_score ({ frames := 2, cells := 0, slots := 0, locals := 45 }) (pS g [.ref oX, .ref oT, .int (nI xe)] [(oT, .inr (8, [.ref aB, .ref aW, .ref aS, .ref aU, .ref aK, .int (nI fi), .int (nI ib), .int (nI sn)])), (aB, .inl (g.2.1, 20, .inl (fun j => nI (fB j)))), (aW, .inl (g.2.2.1, 20, .inr (.inl (fun j => lN (fW j)))))]) (vp_Sl (fun r => r = (bad (nI 3) (smB fB fW xe fi) (smN fW fi)))) 0 0 noF := by
  refine metS (cc := cX5_score) (maxL := 3) (ret := (some .long)) (by decide) rfl (Nat.le_of_ble_eq_true rfl) ?_
  intro p e s m below meth c hx hb hr hts hown hlocks hml hC hP ls hl
  have hl : lv_has ls 3 [(0, .ref oX), (1, .ref oT), (2, .int (nI xe))] := hl
  have hown : s.vm.findClass RX5 = some m.cls := hown
  have hts : ∀ w ∈ wsX5_score, w.before ([.ref oX, .ref oT, .int (nI xe)] : List Value).toArray s = true := hts
  refine lv_aload_n hx hb dX5_score_0 rfl (lv_at hl 1 rfl) ?_
  refine lv_iload_n hx hb dX5_score_1 rfl (lv_at hl 2 rfl) ?_
  refine goSl (T := lN (smB fB fW xe fi)) (va_runV (As := [.int (nI xe)]) (rest := []) ⟨hx, hb, hml, hown, hts⟩ (k_X8_boiledWeight l g oT aB aW aS aU aK fi ib sn fB fW xe (by first | assumption | exact Nat.zero_le _ | omega) (by first | assumption | exact Nat.zero_le _ | omega) (by first | assumption | exact Nat.zero_le _ | omega)) (cwV 1 hts gX5_score_X8_boiledWeight rfl rfl rfl ⟨rfl, hdX8_boiledWeight⟩ ⟨Nat.le_of_ble_eq_true rfl, Nat.le_of_ble_eq_true rfl⟩) (preVS hC (hP.sub [0, 1, 2] rfl) (va_recv hC.1 hP (ci := 8) (q0 := 0) rfl rfl)) rfl rfl hl.1 rfl (lv_room (Nat.le_of_ble_eq_true rfl)) dX5_score_2 ⟨Nat.le_of_ble_eq_true rfl, Nat.le_of_ble_eq_true rfl⟩) ?_
  refine lv_lneg hx hb dX5_score_5 ?_
  exact retSl hx hb hr hlocks (rfl) dX5_score_6

set_option maxHeartbeats 4000000 in
set_option maxRecDepth 100000 in
/-- BoiledEggs$Trier.nextEgg  -/
theorem k_X9_nextEgg_X9 (l : Launch) (g : GG) (oX : Nat) (oT : Nat) (aB : Nat) (aW : Nat) (aS : Nat) (aU : Nat) (aK : Nat) (fi : Nat) (ib : Nat) (sn : Nat) (fB : Nat → Nat) (fW : Nat → Nat) (hf0 : fi ≤ 20) (hB : ∀ j, fB j < 64) (hib : ib < 64) : Met l yX9_nextEgg wsX9_nextEgg ({ frames := 2, cells := 0, slots := 0, locals := 42 }) (pS g [.ref oX, .ref oT] [(oX, .inr (9, [])), (oT, .inr (8, [.ref aB, .ref aW, .ref aS, .ref aU, .ref aK, .int (nI fi), .int (nI ib), .int (nI sn)])), (aB, .inl (g.2.1, 20, .inl (fun j => nI (fB j)))), (aW, .inl (g.2.2.1, 20, .inr (.inl (fun j => lN (fW j)))))]) (vp_Si (fun r => r = (cnx fB fW fi ib (nI 0)))) 0 0 noF := by
  refine metS (cc := cX9_nextEgg) (maxL := 9) (ret := (some .int)) (by decide) rfl (Nat.le_of_ble_eq_true rfl) ?_
  intro p e s m below meth c hx hb hr hts hown hlocks hml hC hP ls hl
  have hl : lv_has ls 9 [(0, .ref oX), (1, .ref oT)] := hl
  have hown : s.vm.findClass RX9 = some m.cls := hown
  have hts : ∀ w ∈ wsX9_nextEgg, w.before ([.ref oX, .ref oT] : List Value).toArray s = true := hts
  refine lv_iconst (v := (-1)) hx hb dX9_nextEgg_0 (by decide) ?_
  refine lv_istore_n (lv' := [(2, .int (-1)), (0, .ref oX), (1, .ref oT)]) hx hb dX9_nextEgg_1 rfl hl (by decide) rfl (fun ls hl => ?_)
  refine lv_lconst (v := lN 0) hx hb dX9_nextEgg_2 (by decide) ?_
  refine lv_lstore_n (lv' := [(3, .long (lN 0)), (2, .int (-1)), (0, .ref oX), (1, .ref oT)]) hx hb dX9_nextEgg_3 rfl hl (by decide) rfl (fun ls hl => ?_)
  refine lv_iconst (v := nI 0) hx hb dX9_nextEgg_4 (by decide) ?_
  refine lv_istore (lv' := [(5, .int (nI 0)), (3, .long (lN 0)), (2, .int (-1)), (0, .ref oX), (1, .ref oT)]) hx hb dX9_nextEgg_5 hl (by decide) rfl (fun ls hl => ?_)
  have hL7 : ∀ (n_9 : Nat) (i : Nat), 6 - i < n_9 → (i ≤ 6) → ∀ ls : Array Slot, lv_has ls 9 [(0, .ref oX), (1, .ref oT), (2, .int (fo (nxF (nI 0) (csc fB fW fi (nI 0)) ib) (-1) i)), (3, .long (bsc (csc fB fW fi (nI 0)) (fo (nxF (nI 0) (csc fB fW fi (nI 0)) ib) (-1) i))), (5, .int (nI i))] → W p l e ({ frames := 2, cells := 0, slots := 0, locals := 42 }) s m ([.ref oX, .ref oT] : List Value).toArray below meth c s.heap [] 0 0 (MQ below (vp_Si (fun r => r = (cnx fB fW fi ib (nI 0)))) ([.ref oX, .ref oT] : List Value).toArray s 0 0 noF) (F0 m 7 ls []) := by
   intro n_9
   induction n_9 with
   | zero => intro i hn_9; exact absurd hn_9 (Nat.not_lt_zero _)
   | succ n_9 ih7 =>
    intro i hn_9 hi ls hl
    refine lv_iload hx hb dX9_nextEgg_7 (lv_at hl 4 rfl) ?_
    refine lv_bipush (v := nI 6) hx hb dX9_nextEgg_9 (by decide) ?_
    refine lv_icmp_ge (tgt := 82) hx hb dX9_nextEgg_11 (by decide) (fun c11 => ?_) (fun c11 => ?_)
    ·have c11 : 6 ≤ i := (nI_leI (a := 6) (b := i) (by omega) (by omega)).mp c11
     refine lv_iload_n hx hb dX9_nextEgg_82 rfl (lv_at hl 2 rfl) ?_
     exact retSi hx hb hr hlocks (by rw [cnx, show i = 6 by omega]) dX9_nextEgg_83
    ·have c11 : ¬ 6 ≤ i := fun h9 => c11 ((nI_leI (a := 6) (b := i) (by omega) (by omega)).mpr h9)
     have hJ76 : ∀ ls : Array Slot, lv_has ls 9 [(0, .ref oX), (1, .ref oT), (2, .int (fo (nxF (nI 0) (csc fB fW fi (nI 0)) ib) (-1) (i + 1))), (3, .long (bsc (csc fB fW fi (nI 0)) (fo (nxF (nI 0) (csc fB fW fi (nI 0)) ib) (-1) (i + 1)))), (5, .int (nI i))] → W p l e ({ frames := 2, cells := 0, slots := 0, locals := 42 }) s m ([.ref oX, .ref oT] : List Value).toArray below meth c s.heap [] 0 0 (MQ below (vp_Si (fun r => r = (cnx fB fW fi ib (nI 0)))) ([.ref oX, .ref oT] : List Value).toArray s 0 0 noF) (F0 m 76 ls []) := by
      intro  ls hl
      refine lv_iinc (v := nI (i + 1)) (lv' := [(5, .int (nI (i + 1))), (0, .ref oX), (1, .ref oT), (2, .int (fo (nxF (nI 0) (csc fB fW fi (nI 0)) ib) (-1) (i + 1))), (3, .long (bsc (csc fB fW fi (nI 0)) (fo (nxF (nI 0) (csc fB fW fi (nI 0)) ib) (-1) (i + 1))))]) hx hb dX9_nextEgg_76 hl (k := 4) rfl (iinc1 _) (by decide) rfl (fun ls hl => ?_)
      refine lv_goto (tgt := 7) hx hb dX9_nextEgg_79 (by decide) ?_
      exact ih7 (i + 1) (by omega) (by first | assumption | exact Nat.zero_le _ | omega) ls (lv_sub hl [1, 2, 3, 4, 0] rfl)
     refine lv_aload_n hx hb dX9_nextEgg_14 rfl (lv_at hl 1 rfl) ?_
     refine lv_iload hx hb dX9_nextEgg_15 (lv_at hl 4 rfl) ?_
     refine goSi (T := zI (ib.testBit i)) (va_runV (As := [.int (nI i)]) (rest := []) ⟨hx, hb, hml, hown, hts⟩ (k_X8_isInBox l g oT aB aW aS aU aK fi ib sn i (by first | assumption | exact Nat.zero_le _ | omega) (by first | assumption | exact Nat.zero_le _ | omega)) (cwV 1 hts gX9_nextEgg_X8_isInBox rfl rfl rfl ⟨rfl, hdX8_isInBox⟩ ⟨Nat.le_of_ble_eq_true rfl, Nat.le_of_ble_eq_true rfl⟩) (preVS hC (hP.sub [1] rfl) (va_recv hC.1 hP (ci := 8) (q0 := 1) rfl rfl)) rfl rfl hl.1 rfl (lv_room (Nat.le_of_ble_eq_true rfl)) dX9_nextEgg_17 ⟨Nat.le_of_ble_eq_true rfl, Nat.le_of_ble_eq_true rfl⟩) ?_
     refine lv_if_eq (tgt := 76) hx hb dX9_nextEgg_20 (by decide) (fun c20 => ?_) (fun c20 => ?_)
     ·have c20 := zI_f.mp c20
      have hl : lv_has ls 9 [(0, .ref oX), (1, .ref oT), (2, .int (fo (nxF (nI 0) (csc fB fW fi (nI 0)) ib) (-1) (i + 1))), (3, .long (bsc (csc fB fW fi (nI 0)) (fo (nxF (nI 0) (csc fB fW fi (nI 0)) ib) (-1) i))), (5, .int (nI i))] := lv_val hl 2 rfl (congrArg Value.int (show fo (nxF (nI 0) (csc fB fW fi (nI 0)) ib) (-1) i = fo (nxF (nI 0) (csc fB fW fi (nI 0)) ib) (-1) (i + 1) from by rw [fo_s]; exact (nx_0 c20).symm))
      have hl : lv_has ls 9 [(0, .ref oX), (1, .ref oT), (2, .int (fo (nxF (nI 0) (csc fB fW fi (nI 0)) ib) (-1) (i + 1))), (3, .long (bsc (csc fB fW fi (nI 0)) (fo (nxF (nI 0) (csc fB fW fi (nI 0)) ib) (-1) (i + 1)))), (5, .int (nI i))] := lv_val hl 3 rfl (congrArg Value.long (show bsc (csc fB fW fi (nI 0)) (fo (nxF (nI 0) (csc fB fW fi (nI 0)) ib) (-1) i) = bsc (csc fB fW fi (nI 0)) (fo (nxF (nI 0) (csc fB fW fi (nI 0)) ib) (-1) (i + 1)) from by rw [fo_s, nx_0 c20]))
      exact hJ76   ls (lv_sub hl [0, 1, 2, 3, 4] rfl)
     ·have c20 := zI_t.mp c20
      refine lv_aload_n hx hb dX9_nextEgg_23 rfl (lv_at hl 0 rfl) ?_
      refine lv_aload_n hx hb dX9_nextEgg_24 rfl (lv_at hl 1 rfl) ?_
      refine lv_iload hx hb dX9_nextEgg_25 (lv_at hl 4 rfl) ?_
      refine goSl (T := bad (nI 0) (smB fB fW i fi) (smN fW fi)) (va_runV (As := [.ref oT, .int (nI i)]) (rest := []) ⟨hx, hb, hml, hown, hts⟩ (k_X9_score l g oX oT aB aW aS aU aK fi ib sn fB fW i (by first | assumption | exact Nat.zero_le _ | omega) (by first | assumption | exact Nat.zero_le _ | omega) (by first | assumption | exact Nat.zero_le _ | omega)) (cwV 2 hts gX9_nextEgg_X9_score rfl rfl rfl ⟨rfl, hdX9_score⟩ ⟨Nat.le_of_ble_eq_true rfl, Nat.le_of_ble_eq_true rfl⟩) (preVS hC (hP.sub [1, 2, 3] rfl) (va_recv hC.1 hP (ci := 9) (q0 := 0) rfl rfl)) rfl rfl hl.1 rfl (lv_room (Nat.le_of_ble_eq_true rfl)) dX9_nextEgg_27 ⟨Nat.le_of_ble_eq_true rfl, Nat.le_of_ble_eq_true rfl⟩) ?_
      refine top_l (y := (csc fB fW fi (nI 0)) i) (rfl) ?_
      refine lv_lstore (lv' := [(6, .long ((csc fB fW fi (nI 0)) i)), (0, .ref oX), (1, .ref oT), (2, .int (fo (nxF (nI 0) (csc fB fW fi (nI 0)) ib) (-1) i)), (3, .long (bsc (csc fB fW fi (nI 0)) (fo (nxF (nI 0) (csc fB fW fi (nI 0)) ib) (-1) i))), (5, .int (nI i))]) hx hb dX9_nextEgg_30 hl (by decide) rfl (fun ls hl => ?_)
      have hJ51 : ∀ ls : Array Slot, lv_has ls 9 [(0, .ref oX), (1, .ref oT), (2, .int (fo (nxF (nI 0) (csc fB fW fi (nI 0)) ib) (-1) i)), (3, .long (bsc (csc fB fW fi (nI 0)) (fo (nxF (nI 0) (csc fB fW fi (nI 0)) ib) (-1) i))), (5, .int (nI i)), (6, .long ((csc fB fW fi (nI 0)) i))] → W p l e ({ frames := 2, cells := 0, slots := 0, locals := 42 }) s m ([.ref oX, .ref oT] : List Value).toArray below meth c s.heap [] 0 0 (MQ below (vp_Si (fun r => r = (cnx fB fW fi ib (nI 0)))) ([.ref oX, .ref oT] : List Value).toArray s 0 0 noF) (F0 m 51 ls [.int (zI false)]) := by
       intro  ls hl
       refine lv_istore (lv' := [(8, .int (zI false)), (0, .ref oX), (1, .ref oT), (2, .int (fo (nxF (nI 0) (csc fB fW fi (nI 0)) ib) (-1) i)), (3, .long (bsc (csc fB fW fi (nI 0)) (fo (nxF (nI 0) (csc fB fW fi (nI 0)) ib) (-1) i))), (5, .int (nI i)), (6, .long ((csc fB fW fi (nI 0)) i))]) hx hb dX9_nextEgg_51 hl (by decide) rfl (fun ls hl => ?_)
       refine lv_iload_n hx hb dX9_nextEgg_53 rfl (lv_at hl 3 rfl) ?_
       refine lv_iconst (v := (-1)) hx hb dX9_nextEgg_54 (by decide) ?_
       refine lv_icmp_eq (tgt := 70) hx hb dX9_nextEgg_55 (by decide) (fun c55 => ?_) (fun c55 => ?_)
       ·refine lv_iload hx hb dX9_nextEgg_70 (lv_at hl 5 rfl) ?_
        refine lv_istore_n (lv' := [(2, .int (nI i)), (8, .int (zI false)), (0, .ref oX), (1, .ref oT), (3, .long (bsc (csc fB fW fi (nI 0)) (fo (nxF (nI 0) (csc fB fW fi (nI 0)) ib) (-1) i))), (5, .int (nI i)), (6, .long ((csc fB fW fi (nI 0)) i))]) hx hb dX9_nextEgg_72 rfl hl (by decide) rfl (fun ls hl => ?_)
        refine lv_lload hx hb dX9_nextEgg_73 (lv_at hl 6 rfl) ?_
        refine lv_lstore_n (lv' := [(3, .long ((csc fB fW fi (nI 0)) i)), (2, .int (nI i)), (8, .int (zI false)), (0, .ref oX), (1, .ref oT), (5, .int (nI i)), (6, .long ((csc fB fW fi (nI 0)) i))]) hx hb dX9_nextEgg_75 rfl hl (by decide) rfl (fun ls hl => ?_)
        have hl : lv_has ls 9 [(3, .long ((csc fB fW fi (nI 0)) i)), (2, .int (fo (nxF (nI 0) (csc fB fW fi (nI 0)) ib) (-1) (i + 1))), (8, .int (zI false)), (0, .ref oX), (1, .ref oT), (5, .int (nI i)), (6, .long ((csc fB fW fi (nI 0)) i))] := lv_val hl 1 rfl (congrArg Value.int (show nI i = fo (nxF (nI 0) (csc fB fW fi (nI 0)) ib) (-1) (i + 1) from by rw [fo_s]; exact (nx_1 c20 c55).symm))
        have hl : lv_has ls 9 [(3, .long (bsc (csc fB fW fi (nI 0)) (fo (nxF (nI 0) (csc fB fW fi (nI 0)) ib) (-1) (i + 1)))), (2, .int (fo (nxF (nI 0) (csc fB fW fi (nI 0)) ib) (-1) (i + 1))), (8, .int (zI false)), (0, .ref oX), (1, .ref oT), (5, .int (nI i)), (6, .long ((csc fB fW fi (nI 0)) i))] := lv_val hl 0 rfl (congrArg Value.long (show (csc fB fW fi (nI 0)) i = bsc (csc fB fW fi (nI 0)) (fo (nxF (nI 0) (csc fB fW fi (nI 0)) ib) (-1) (i + 1)) from by rw [fo_s, nx_1 c20 c55]; exact (bsc_n (by omega)).symm))
        exact hJ76   ls (lv_sub hl [3, 4, 1, 0, 5] rfl)
       ·refine lv_lload hx hb dX9_nextEgg_58 (lv_at hl 6 rfl) ?_
        refine lv_lload_n hx hb dX9_nextEgg_60 rfl (lv_at hl 4 rfl) ?_
        refine lc_lt (tgt := 70) hx hb dX9_nextEgg_61 dX9_nextEgg_62 (by decide) (fun c61 => ?_) (fun c61 => ?_)
        ·refine lv_iload hx hb dX9_nextEgg_70 (lv_at hl 5 rfl) ?_
         refine lv_istore_n (lv' := [(2, .int (nI i)), (8, .int (zI false)), (0, .ref oX), (1, .ref oT), (3, .long (bsc (csc fB fW fi (nI 0)) (fo (nxF (nI 0) (csc fB fW fi (nI 0)) ib) (-1) i))), (5, .int (nI i)), (6, .long ((csc fB fW fi (nI 0)) i))]) hx hb dX9_nextEgg_72 rfl hl (by decide) rfl (fun ls hl => ?_)
         refine lv_lload hx hb dX9_nextEgg_73 (lv_at hl 6 rfl) ?_
         refine lv_lstore_n (lv' := [(3, .long ((csc fB fW fi (nI 0)) i)), (2, .int (nI i)), (8, .int (zI false)), (0, .ref oX), (1, .ref oT), (5, .int (nI i)), (6, .long ((csc fB fW fi (nI 0)) i))]) hx hb dX9_nextEgg_75 rfl hl (by decide) rfl (fun ls hl => ?_)
         have hl : lv_has ls 9 [(3, .long ((csc fB fW fi (nI 0)) i)), (2, .int (fo (nxF (nI 0) (csc fB fW fi (nI 0)) ib) (-1) (i + 1))), (8, .int (zI false)), (0, .ref oX), (1, .ref oT), (5, .int (nI i)), (6, .long ((csc fB fW fi (nI 0)) i))] := lv_val hl 1 rfl (congrArg Value.int (show nI i = fo (nxF (nI 0) (csc fB fW fi (nI 0)) ib) (-1) (i + 1) from by rw [fo_s]; exact (cx_2 c20 c55 c61).symm))
         have hl : lv_has ls 9 [(3, .long (bsc (csc fB fW fi (nI 0)) (fo (nxF (nI 0) (csc fB fW fi (nI 0)) ib) (-1) (i + 1)))), (2, .int (fo (nxF (nI 0) (csc fB fW fi (nI 0)) ib) (-1) (i + 1))), (8, .int (zI false)), (0, .ref oX), (1, .ref oT), (5, .int (nI i)), (6, .long ((csc fB fW fi (nI 0)) i))] := lv_val hl 0 rfl (congrArg Value.long (show (csc fB fW fi (nI 0)) i = bsc (csc fB fW fi (nI 0)) (fo (nxF (nI 0) (csc fB fW fi (nI 0)) ib) (-1) (i + 1)) from by rw [fo_s, cx_2 c20 c55 c61]; exact (bsc_n (by omega)).symm))
         exact hJ76   ls (lv_sub hl [3, 4, 1, 0, 5] rfl)
        ·refine lv_iload hx hb dX9_nextEgg_65 (lv_at hl 0 rfl) ?_
         refine lv_if_eq (tgt := 76) hx hb dX9_nextEgg_67 (by decide) (fun _ => ?_) (fun hz => absurd (by decide) hz)
         have hl : lv_has ls 9 [(8, .int (zI false)), (0, .ref oX), (1, .ref oT), (2, .int (fo (nxF (nI 0) (csc fB fW fi (nI 0)) ib) (-1) (i + 1))), (3, .long (bsc (csc fB fW fi (nI 0)) (fo (nxF (nI 0) (csc fB fW fi (nI 0)) ib) (-1) i))), (5, .int (nI i)), (6, .long ((csc fB fW fi (nI 0)) i))] := lv_val hl 3 rfl (congrArg Value.int (show fo (nxF (nI 0) (csc fB fW fi (nI 0)) ib) (-1) i = fo (nxF (nI 0) (csc fB fW fi (nI 0)) ib) (-1) (i + 1) from by rw [fo_s]; exact (cx_4 c20 c55 c61 (fun h9 => absurd h9.1 (by decide))).symm))
         have hl : lv_has ls 9 [(8, .int (zI false)), (0, .ref oX), (1, .ref oT), (2, .int (fo (nxF (nI 0) (csc fB fW fi (nI 0)) ib) (-1) (i + 1))), (3, .long (bsc (csc fB fW fi (nI 0)) (fo (nxF (nI 0) (csc fB fW fi (nI 0)) ib) (-1) (i + 1)))), (5, .int (nI i)), (6, .long ((csc fB fW fi (nI 0)) i))] := lv_val hl 4 rfl (congrArg Value.long (show bsc (csc fB fW fi (nI 0)) (fo (nxF (nI 0) (csc fB fW fi (nI 0)) ib) (-1) i) = bsc (csc fB fW fi (nI 0)) (fo (nxF (nI 0) (csc fB fW fi (nI 0)) ib) (-1) (i + 1)) from by rw [fo_s, cx_4 c20 c55 c61 (fun h9 => absurd h9.1 (by decide))]))
         exact hJ76   ls (lv_sub hl [1, 2, 3, 4, 5] rfl)
      refine lv_lload hx hb dX9_nextEgg_32 (lv_at hl 0 rfl) ?_
      refine lv_lload_n hx hb dX9_nextEgg_34 rfl (lv_at hl 4 rfl) ?_
      refine lc_ne (tgt := 50) hx hb dX9_nextEgg_35 dX9_nextEgg_36 (by decide) (fun c35 => ?_) (fun c35 => ?_)
      ·refine lv_iconst (v := nI 0) hx hb dX9_nextEgg_50 (by decide) ?_
       refine top_i (y := zI false) (by first | rfl | exact zI_1 (decide_eq_true c35) | exact zI_0 (decide_eq_false c35)) ?_
       exact hJ51   ls (lv_sub hl [1, 2, 3, 4, 5, 0] rfl)
      ·refine lv_aload_n hx hb dX9_nextEgg_39 rfl (lv_at hl 1 rfl) ?_
       refine goSi (T := zI false) (va_runV (As := []) (rest := []) ⟨hx, hb, hml, hown, hts⟩ (k_X9_takesLast l g oX ) (cwV 0 hts gX9_nextEgg_X9_takesLast rfl rfl rfl ⟨rfl, hdX9_takesLast⟩ ⟨Nat.le_of_ble_eq_true rfl, Nat.le_of_ble_eq_true rfl⟩) (preVS hC (hP.sub [] rfl) (va_recv hC.1 hP (ci := 9) (q0 := 0) rfl rfl)) rfl rfl hl.1 rfl (lv_room (Nat.le_of_ble_eq_true rfl)) dX9_nextEgg_40 ⟨Nat.le_of_ble_eq_true rfl, Nat.le_of_ble_eq_true rfl⟩) ?_
       refine lv_if_eq (tgt := 50) hx hb dX9_nextEgg_43 (by decide) (fun _ => ?_) (fun hz => absurd (by decide) hz)
       refine lv_iconst (v := nI 0) hx hb dX9_nextEgg_50 (by decide) ?_
       refine top_i (y := zI false) (by first | rfl | exact zI_1 (decide_eq_true c35) | exact zI_0 (decide_eq_false c35)) ?_
       exact hJ51   ls (lv_sub hl [1, 2, 3, 4, 5, 0] rfl)
  exact hL7 _ 0 (Nat.lt_succ_self _) (by first | assumption | exact Nat.zero_le _ | omega) ls (lv_sub hl [3, 4, 2, 1, 0] rfl)

set_option maxHeartbeats 4000000 in
set_option maxRecDepth 100000 in
/-- BoiledEggs$Trier.nextEgg  -/
theorem k_X9_nextEgg_X2 (l : Launch) (g : GG) (oX : Nat) (oT : Nat) (aB : Nat) (aW : Nat) (aS : Nat) (aU : Nat) (aK : Nat) (fi : Nat) (ib : Nat) (sn : Nat) (fB : Nat → Nat) (fW : Nat → Nat) (hf0 : fi ≤ 20) (hB : ∀ j, fB j < 64) (hib : ib < 64) : Met l yX9_nextEgg wsX9_nextEgg ({ frames := 3, cells := 0, slots := 0, locals := 67 }) (pS g [.ref oX, .ref oT] [(oX, .inr (2, [])), (oT, .inr (8, [.ref aB, .ref aW, .ref aS, .ref aU, .ref aK, .int (nI fi), .int (nI ib), .int (nI sn)])), (aB, .inl (g.2.1, 20, .inl (fun j => nI (fB j)))), (aW, .inl (g.2.2.1, 20, .inr (.inl (fun j => lN (fW j)))))]) (vp_Si (fun r => r = (cnx fB fW fi ib (nI 1)))) 0 0 noF := by
  refine metS (cc := cX9_nextEgg) (maxL := 9) (ret := (some .int)) (by decide) rfl (Nat.le_of_ble_eq_true rfl) ?_
  intro p e s m below meth c hx hb hr hts hown hlocks hml hC hP ls hl
  have hl : lv_has ls 9 [(0, .ref oX), (1, .ref oT)] := hl
  have hown : s.vm.findClass RX9 = some m.cls := hown
  have hts : ∀ w ∈ wsX9_nextEgg, w.before ([.ref oX, .ref oT] : List Value).toArray s = true := hts
  have ocX9_score := (by decide +kernel : Cond.code yX9_score cX9_score 3 (some .long) ∈ wsX9_nextEgg)
  refine lv_iconst (v := (-1)) hx hb dX9_nextEgg_0 (by decide) ?_
  refine lv_istore_n (lv' := [(2, .int (-1)), (0, .ref oX), (1, .ref oT)]) hx hb dX9_nextEgg_1 rfl hl (by decide) rfl (fun ls hl => ?_)
  refine lv_lconst (v := lN 0) hx hb dX9_nextEgg_2 (by decide) ?_
  refine lv_lstore_n (lv' := [(3, .long (lN 0)), (2, .int (-1)), (0, .ref oX), (1, .ref oT)]) hx hb dX9_nextEgg_3 rfl hl (by decide) rfl (fun ls hl => ?_)
  refine lv_iconst (v := nI 0) hx hb dX9_nextEgg_4 (by decide) ?_
  refine lv_istore (lv' := [(5, .int (nI 0)), (3, .long (lN 0)), (2, .int (-1)), (0, .ref oX), (1, .ref oT)]) hx hb dX9_nextEgg_5 hl (by decide) rfl (fun ls hl => ?_)
  have hL7 : ∀ (n_9 : Nat) (i : Nat), 6 - i < n_9 → (i ≤ 6) → ∀ ls : Array Slot, lv_has ls 9 [(0, .ref oX), (1, .ref oT), (2, .int (fo (nxF (nI 1) (csc fB fW fi (nI 1)) ib) (-1) i)), (3, .long (bsc (csc fB fW fi (nI 1)) (fo (nxF (nI 1) (csc fB fW fi (nI 1)) ib) (-1) i))), (5, .int (nI i))] → W p l e ({ frames := 3, cells := 0, slots := 0, locals := 67 }) s m ([.ref oX, .ref oT] : List Value).toArray below meth c s.heap [] 0 0 (MQ below (vp_Si (fun r => r = (cnx fB fW fi ib (nI 1)))) ([.ref oX, .ref oT] : List Value).toArray s 0 0 noF) (F0 m 7 ls []) := by
   intro n_9
   induction n_9 with
   | zero => intro i hn_9; exact absurd hn_9 (Nat.not_lt_zero _)
   | succ n_9 ih7 =>
    intro i hn_9 hi ls hl
    refine lv_iload hx hb dX9_nextEgg_7 (lv_at hl 4 rfl) ?_
    refine lv_bipush (v := nI 6) hx hb dX9_nextEgg_9 (by decide) ?_
    refine lv_icmp_ge (tgt := 82) hx hb dX9_nextEgg_11 (by decide) (fun c11 => ?_) (fun c11 => ?_)
    ·have c11 : 6 ≤ i := (nI_leI (a := 6) (b := i) (by omega) (by omega)).mp c11
     refine lv_iload_n hx hb dX9_nextEgg_82 rfl (lv_at hl 2 rfl) ?_
     exact retSi hx hb hr hlocks (by rw [cnx, show i = 6 by omega]) dX9_nextEgg_83
    ·have c11 : ¬ 6 ≤ i := fun h9 => c11 ((nI_leI (a := 6) (b := i) (by omega) (by omega)).mpr h9)
     have hJ76 : ∀ ls : Array Slot, lv_has ls 9 [(0, .ref oX), (1, .ref oT), (2, .int (fo (nxF (nI 1) (csc fB fW fi (nI 1)) ib) (-1) (i + 1))), (3, .long (bsc (csc fB fW fi (nI 1)) (fo (nxF (nI 1) (csc fB fW fi (nI 1)) ib) (-1) (i + 1)))), (5, .int (nI i))] → W p l e ({ frames := 3, cells := 0, slots := 0, locals := 67 }) s m ([.ref oX, .ref oT] : List Value).toArray below meth c s.heap [] 0 0 (MQ below (vp_Si (fun r => r = (cnx fB fW fi ib (nI 1)))) ([.ref oX, .ref oT] : List Value).toArray s 0 0 noF) (F0 m 76 ls []) := by
      intro  ls hl
      refine lv_iinc (v := nI (i + 1)) (lv' := [(5, .int (nI (i + 1))), (0, .ref oX), (1, .ref oT), (2, .int (fo (nxF (nI 1) (csc fB fW fi (nI 1)) ib) (-1) (i + 1))), (3, .long (bsc (csc fB fW fi (nI 1)) (fo (nxF (nI 1) (csc fB fW fi (nI 1)) ib) (-1) (i + 1))))]) hx hb dX9_nextEgg_76 hl (k := 4) rfl (iinc1 _) (by decide) rfl (fun ls hl => ?_)
      refine lv_goto (tgt := 7) hx hb dX9_nextEgg_79 (by decide) ?_
      exact ih7 (i + 1) (by omega) (by first | assumption | exact Nat.zero_le _ | omega) ls (lv_sub hl [1, 2, 3, 4, 0] rfl)
     refine lv_aload_n hx hb dX9_nextEgg_14 rfl (lv_at hl 1 rfl) ?_
     refine lv_iload hx hb dX9_nextEgg_15 (lv_at hl 4 rfl) ?_
     refine goSi (T := zI (ib.testBit i)) (va_runV (As := [.int (nI i)]) (rest := []) ⟨hx, hb, hml, hown, hts⟩ (k_X8_isInBox l g oT aB aW aS aU aK fi ib sn i (by first | assumption | exact Nat.zero_le _ | omega) (by first | assumption | exact Nat.zero_le _ | omega)) (cwV 1 hts gX9_nextEgg_X8_isInBox rfl rfl rfl ⟨rfl, hdX8_isInBox⟩ ⟨Nat.le_of_ble_eq_true rfl, Nat.le_of_ble_eq_true rfl⟩) (preVS hC (hP.sub [1] rfl) (va_recv hC.1 hP (ci := 8) (q0 := 1) rfl rfl)) rfl rfl hl.1 rfl (lv_room (Nat.le_of_ble_eq_true rfl)) dX9_nextEgg_17 ⟨Nat.le_of_ble_eq_true rfl, Nat.le_of_ble_eq_true rfl⟩) ?_
     refine lv_if_eq (tgt := 76) hx hb dX9_nextEgg_20 (by decide) (fun c20 => ?_) (fun c20 => ?_)
     ·have c20 := zI_f.mp c20
      have hl : lv_has ls 9 [(0, .ref oX), (1, .ref oT), (2, .int (fo (nxF (nI 1) (csc fB fW fi (nI 1)) ib) (-1) (i + 1))), (3, .long (bsc (csc fB fW fi (nI 1)) (fo (nxF (nI 1) (csc fB fW fi (nI 1)) ib) (-1) i))), (5, .int (nI i))] := lv_val hl 2 rfl (congrArg Value.int (show fo (nxF (nI 1) (csc fB fW fi (nI 1)) ib) (-1) i = fo (nxF (nI 1) (csc fB fW fi (nI 1)) ib) (-1) (i + 1) from by rw [fo_s]; exact (nx_0 c20).symm))
      have hl : lv_has ls 9 [(0, .ref oX), (1, .ref oT), (2, .int (fo (nxF (nI 1) (csc fB fW fi (nI 1)) ib) (-1) (i + 1))), (3, .long (bsc (csc fB fW fi (nI 1)) (fo (nxF (nI 1) (csc fB fW fi (nI 1)) ib) (-1) (i + 1)))), (5, .int (nI i))] := lv_val hl 3 rfl (congrArg Value.long (show bsc (csc fB fW fi (nI 1)) (fo (nxF (nI 1) (csc fB fW fi (nI 1)) ib) (-1) i) = bsc (csc fB fW fi (nI 1)) (fo (nxF (nI 1) (csc fB fW fi (nI 1)) ib) (-1) (i + 1)) from by rw [fo_s, nx_0 c20]))
      exact hJ76   ls (lv_sub hl [0, 1, 2, 3, 4] rfl)
     ·have c20 := zI_t.mp c20
      refine lv_aload_n hx hb dX9_nextEgg_23 rfl (lv_at hl 0 rfl) ?_
      refine lv_aload_n hx hb dX9_nextEgg_24 rfl (lv_at hl 1 rfl) ?_
      refine lv_iload hx hb dX9_nextEgg_25 (lv_at hl 4 rfl) ?_
      refine goSl (T := bad (nI 1) (smB fB fW i fi) (smN fW fi)) (va_runU (As := [.ref oT, .int (nI i)]) (rest := []) ⟨hx, hb, hml, hown, hts⟩ (k_X2_score l g oX oT aB aW aS aU aK fi ib sn fB fW i (by first | assumption | exact Nat.zero_le _ | omega) (by first | assumption | exact Nat.zero_le _ | omega) (by first | assumption | exact Nat.zero_le _ | omega)) (va_cwO 2 hts gX9_nextEgg_X2_score_u15X2 rfl rfl rfl ocX9_score (by decide +kernel) ⟨Nat.le_of_ble_eq_true rfl, Nat.le_of_ble_eq_true rfl⟩) (preVS hC (hP.sub [1, 2, 3] rfl) (va_recv hC.1 hP (ci := 2) (q0 := 0) rfl rfl)) rfl rfl hl.1 rfl (lv_room (Nat.le_of_ble_eq_true rfl)) dX9_nextEgg_27 ⟨Nat.le_of_ble_eq_true rfl, Nat.le_of_ble_eq_true rfl⟩) ?_
      refine top_l (y := (csc fB fW fi (nI 1)) i) (rfl) ?_
      refine lv_lstore (lv' := [(6, .long ((csc fB fW fi (nI 1)) i)), (0, .ref oX), (1, .ref oT), (2, .int (fo (nxF (nI 1) (csc fB fW fi (nI 1)) ib) (-1) i)), (3, .long (bsc (csc fB fW fi (nI 1)) (fo (nxF (nI 1) (csc fB fW fi (nI 1)) ib) (-1) i))), (5, .int (nI i))]) hx hb dX9_nextEgg_30 hl (by decide) rfl (fun ls hl => ?_)
      have hJ51 : ∀ ls : Array Slot, lv_has ls 9 [(0, .ref oX), (1, .ref oT), (2, .int (fo (nxF (nI 1) (csc fB fW fi (nI 1)) ib) (-1) i)), (3, .long (bsc (csc fB fW fi (nI 1)) (fo (nxF (nI 1) (csc fB fW fi (nI 1)) ib) (-1) i))), (5, .int (nI i)), (6, .long ((csc fB fW fi (nI 1)) i))] → W p l e ({ frames := 3, cells := 0, slots := 0, locals := 67 }) s m ([.ref oX, .ref oT] : List Value).toArray below meth c s.heap [] 0 0 (MQ below (vp_Si (fun r => r = (cnx fB fW fi ib (nI 1)))) ([.ref oX, .ref oT] : List Value).toArray s 0 0 noF) (F0 m 51 ls [.int (zI false)]) := by
       intro  ls hl
       refine lv_istore (lv' := [(8, .int (zI false)), (0, .ref oX), (1, .ref oT), (2, .int (fo (nxF (nI 1) (csc fB fW fi (nI 1)) ib) (-1) i)), (3, .long (bsc (csc fB fW fi (nI 1)) (fo (nxF (nI 1) (csc fB fW fi (nI 1)) ib) (-1) i))), (5, .int (nI i)), (6, .long ((csc fB fW fi (nI 1)) i))]) hx hb dX9_nextEgg_51 hl (by decide) rfl (fun ls hl => ?_)
       refine lv_iload_n hx hb dX9_nextEgg_53 rfl (lv_at hl 3 rfl) ?_
       refine lv_iconst (v := (-1)) hx hb dX9_nextEgg_54 (by decide) ?_
       refine lv_icmp_eq (tgt := 70) hx hb dX9_nextEgg_55 (by decide) (fun c55 => ?_) (fun c55 => ?_)
       ·refine lv_iload hx hb dX9_nextEgg_70 (lv_at hl 5 rfl) ?_
        refine lv_istore_n (lv' := [(2, .int (nI i)), (8, .int (zI false)), (0, .ref oX), (1, .ref oT), (3, .long (bsc (csc fB fW fi (nI 1)) (fo (nxF (nI 1) (csc fB fW fi (nI 1)) ib) (-1) i))), (5, .int (nI i)), (6, .long ((csc fB fW fi (nI 1)) i))]) hx hb dX9_nextEgg_72 rfl hl (by decide) rfl (fun ls hl => ?_)
        refine lv_lload hx hb dX9_nextEgg_73 (lv_at hl 6 rfl) ?_
        refine lv_lstore_n (lv' := [(3, .long ((csc fB fW fi (nI 1)) i)), (2, .int (nI i)), (8, .int (zI false)), (0, .ref oX), (1, .ref oT), (5, .int (nI i)), (6, .long ((csc fB fW fi (nI 1)) i))]) hx hb dX9_nextEgg_75 rfl hl (by decide) rfl (fun ls hl => ?_)
        have hl : lv_has ls 9 [(3, .long ((csc fB fW fi (nI 1)) i)), (2, .int (fo (nxF (nI 1) (csc fB fW fi (nI 1)) ib) (-1) (i + 1))), (8, .int (zI false)), (0, .ref oX), (1, .ref oT), (5, .int (nI i)), (6, .long ((csc fB fW fi (nI 1)) i))] := lv_val hl 1 rfl (congrArg Value.int (show nI i = fo (nxF (nI 1) (csc fB fW fi (nI 1)) ib) (-1) (i + 1) from by rw [fo_s]; exact (nx_1 c20 c55).symm))
        have hl : lv_has ls 9 [(3, .long (bsc (csc fB fW fi (nI 1)) (fo (nxF (nI 1) (csc fB fW fi (nI 1)) ib) (-1) (i + 1)))), (2, .int (fo (nxF (nI 1) (csc fB fW fi (nI 1)) ib) (-1) (i + 1))), (8, .int (zI false)), (0, .ref oX), (1, .ref oT), (5, .int (nI i)), (6, .long ((csc fB fW fi (nI 1)) i))] := lv_val hl 0 rfl (congrArg Value.long (show (csc fB fW fi (nI 1)) i = bsc (csc fB fW fi (nI 1)) (fo (nxF (nI 1) (csc fB fW fi (nI 1)) ib) (-1) (i + 1)) from by rw [fo_s, nx_1 c20 c55]; exact (bsc_n (by omega)).symm))
        exact hJ76   ls (lv_sub hl [3, 4, 1, 0, 5] rfl)
       ·refine lv_lload hx hb dX9_nextEgg_58 (lv_at hl 6 rfl) ?_
        refine lv_lload_n hx hb dX9_nextEgg_60 rfl (lv_at hl 4 rfl) ?_
        refine lc_lt (tgt := 70) hx hb dX9_nextEgg_61 dX9_nextEgg_62 (by decide) (fun c61 => ?_) (fun c61 => ?_)
        ·refine lv_iload hx hb dX9_nextEgg_70 (lv_at hl 5 rfl) ?_
         refine lv_istore_n (lv' := [(2, .int (nI i)), (8, .int (zI false)), (0, .ref oX), (1, .ref oT), (3, .long (bsc (csc fB fW fi (nI 1)) (fo (nxF (nI 1) (csc fB fW fi (nI 1)) ib) (-1) i))), (5, .int (nI i)), (6, .long ((csc fB fW fi (nI 1)) i))]) hx hb dX9_nextEgg_72 rfl hl (by decide) rfl (fun ls hl => ?_)
         refine lv_lload hx hb dX9_nextEgg_73 (lv_at hl 6 rfl) ?_
         refine lv_lstore_n (lv' := [(3, .long ((csc fB fW fi (nI 1)) i)), (2, .int (nI i)), (8, .int (zI false)), (0, .ref oX), (1, .ref oT), (5, .int (nI i)), (6, .long ((csc fB fW fi (nI 1)) i))]) hx hb dX9_nextEgg_75 rfl hl (by decide) rfl (fun ls hl => ?_)
         have hl : lv_has ls 9 [(3, .long ((csc fB fW fi (nI 1)) i)), (2, .int (fo (nxF (nI 1) (csc fB fW fi (nI 1)) ib) (-1) (i + 1))), (8, .int (zI false)), (0, .ref oX), (1, .ref oT), (5, .int (nI i)), (6, .long ((csc fB fW fi (nI 1)) i))] := lv_val hl 1 rfl (congrArg Value.int (show nI i = fo (nxF (nI 1) (csc fB fW fi (nI 1)) ib) (-1) (i + 1) from by rw [fo_s]; exact (cx_2 c20 c55 c61).symm))
         have hl : lv_has ls 9 [(3, .long (bsc (csc fB fW fi (nI 1)) (fo (nxF (nI 1) (csc fB fW fi (nI 1)) ib) (-1) (i + 1)))), (2, .int (fo (nxF (nI 1) (csc fB fW fi (nI 1)) ib) (-1) (i + 1))), (8, .int (zI false)), (0, .ref oX), (1, .ref oT), (5, .int (nI i)), (6, .long ((csc fB fW fi (nI 1)) i))] := lv_val hl 0 rfl (congrArg Value.long (show (csc fB fW fi (nI 1)) i = bsc (csc fB fW fi (nI 1)) (fo (nxF (nI 1) (csc fB fW fi (nI 1)) ib) (-1) (i + 1)) from by rw [fo_s, cx_2 c20 c55 c61]; exact (bsc_n (by omega)).symm))
         exact hJ76   ls (lv_sub hl [3, 4, 1, 0, 5] rfl)
        ·refine lv_iload hx hb dX9_nextEgg_65 (lv_at hl 0 rfl) ?_
         refine lv_if_eq (tgt := 76) hx hb dX9_nextEgg_67 (by decide) (fun _ => ?_) (fun hz => absurd (by decide) hz)
         have hl : lv_has ls 9 [(8, .int (zI false)), (0, .ref oX), (1, .ref oT), (2, .int (fo (nxF (nI 1) (csc fB fW fi (nI 1)) ib) (-1) (i + 1))), (3, .long (bsc (csc fB fW fi (nI 1)) (fo (nxF (nI 1) (csc fB fW fi (nI 1)) ib) (-1) i))), (5, .int (nI i)), (6, .long ((csc fB fW fi (nI 1)) i))] := lv_val hl 3 rfl (congrArg Value.int (show fo (nxF (nI 1) (csc fB fW fi (nI 1)) ib) (-1) i = fo (nxF (nI 1) (csc fB fW fi (nI 1)) ib) (-1) (i + 1) from by rw [fo_s]; exact (cx_4 c20 c55 c61 (fun h9 => absurd h9.1 (by decide))).symm))
         have hl : lv_has ls 9 [(8, .int (zI false)), (0, .ref oX), (1, .ref oT), (2, .int (fo (nxF (nI 1) (csc fB fW fi (nI 1)) ib) (-1) (i + 1))), (3, .long (bsc (csc fB fW fi (nI 1)) (fo (nxF (nI 1) (csc fB fW fi (nI 1)) ib) (-1) (i + 1)))), (5, .int (nI i)), (6, .long ((csc fB fW fi (nI 1)) i))] := lv_val hl 4 rfl (congrArg Value.long (show bsc (csc fB fW fi (nI 1)) (fo (nxF (nI 1) (csc fB fW fi (nI 1)) ib) (-1) i) = bsc (csc fB fW fi (nI 1)) (fo (nxF (nI 1) (csc fB fW fi (nI 1)) ib) (-1) (i + 1)) from by rw [fo_s, cx_4 c20 c55 c61 (fun h9 => absurd h9.1 (by decide))]))
         exact hJ76   ls (lv_sub hl [1, 2, 3, 4, 5] rfl)
      refine lv_lload hx hb dX9_nextEgg_32 (lv_at hl 0 rfl) ?_
      refine lv_lload_n hx hb dX9_nextEgg_34 rfl (lv_at hl 4 rfl) ?_
      refine lc_ne (tgt := 50) hx hb dX9_nextEgg_35 dX9_nextEgg_36 (by decide) (fun c35 => ?_) (fun c35 => ?_)
      ·refine lv_iconst (v := nI 0) hx hb dX9_nextEgg_50 (by decide) ?_
       refine top_i (y := zI false) (by first | rfl | exact zI_1 (decide_eq_true c35) | exact zI_0 (decide_eq_false c35)) ?_
       exact hJ51   ls (lv_sub hl [1, 2, 3, 4, 5, 0] rfl)
      ·refine lv_aload_n hx hb dX9_nextEgg_39 rfl (lv_at hl 1 rfl) ?_
       refine goSi (T := zI false) (va_runU (As := []) (rest := []) ⟨hx, hb, hml, hown, hts⟩ (k_X9_takesLast l g oX ) (va_cwU 0 hts gX9_nextEgg_X9_takesLast_u21X2 rfl rfl rfl rfl (by decide +kernel) ⟨Nat.le_of_ble_eq_true rfl, Nat.le_of_ble_eq_true rfl⟩) (preVS hC (hP.sub [] rfl) (va_recv hC.1 hP (ci := 2) (q0 := 0) rfl rfl)) rfl rfl hl.1 rfl (lv_room (Nat.le_of_ble_eq_true rfl)) dX9_nextEgg_40 ⟨Nat.le_of_ble_eq_true rfl, Nat.le_of_ble_eq_true rfl⟩) ?_
       refine lv_if_eq (tgt := 50) hx hb dX9_nextEgg_43 (by decide) (fun _ => ?_) (fun hz => absurd (by decide) hz)
       refine lv_iconst (v := nI 0) hx hb dX9_nextEgg_50 (by decide) ?_
       refine top_i (y := zI false) (by first | rfl | exact zI_1 (decide_eq_true c35) | exact zI_0 (decide_eq_false c35)) ?_
       exact hJ51   ls (lv_sub hl [1, 2, 3, 4, 5, 0] rfl)
  exact hL7 _ 0 (Nat.lt_succ_self _) (by first | assumption | exact Nat.zero_le _ | omega) ls (lv_sub hl [3, 4, 2, 1, 0] rfl)

set_option maxHeartbeats 4000000 in
set_option maxRecDepth 100000 in
/-- BoiledEggs$Trier.nextEgg  -/
theorem k_X9_nextEgg_X0 (l : Launch) (g : GG) (oX : Nat) (oT : Nat) (aB : Nat) (aW : Nat) (aS : Nat) (aU : Nat) (aK : Nat) (fi : Nat) (ib : Nat) (sn : Nat) (fB : Nat → Nat) (fW : Nat → Nat) (hf0 : fi ≤ 20) (hB : ∀ j, fB j < 64) (hib : ib < 64) : Met l yX9_nextEgg wsX9_nextEgg ({ frames := 3, cells := 0, slots := 0, locals := 67 }) (pS g [.ref oX, .ref oT] [(oX, .inr (0, [])), (oT, .inr (8, [.ref aB, .ref aW, .ref aS, .ref aU, .ref aK, .int (nI fi), .int (nI ib), .int (nI sn)])), (aB, .inl (g.2.1, 20, .inl (fun j => nI (fB j)))), (aW, .inl (g.2.2.1, 20, .inr (.inl (fun j => lN (fW j)))))]) (vp_Si (fun r => r = (cnx fB fW fi ib (nI 2)))) 0 0 noF := by
  refine metS (cc := cX9_nextEgg) (maxL := 9) (ret := (some .int)) (by decide) rfl (Nat.le_of_ble_eq_true rfl) ?_
  intro p e s m below meth c hx hb hr hts hown hlocks hml hC hP ls hl
  have hl : lv_has ls 9 [(0, .ref oX), (1, .ref oT)] := hl
  have hown : s.vm.findClass RX9 = some m.cls := hown
  have hts : ∀ w ∈ wsX9_nextEgg, w.before ([.ref oX, .ref oT] : List Value).toArray s = true := hts
  have ocX9_score := (by decide +kernel : Cond.code yX9_score cX9_score 3 (some .long) ∈ wsX9_nextEgg)
  refine lv_iconst (v := (-1)) hx hb dX9_nextEgg_0 (by decide) ?_
  refine lv_istore_n (lv' := [(2, .int (-1)), (0, .ref oX), (1, .ref oT)]) hx hb dX9_nextEgg_1 rfl hl (by decide) rfl (fun ls hl => ?_)
  refine lv_lconst (v := lN 0) hx hb dX9_nextEgg_2 (by decide) ?_
  refine lv_lstore_n (lv' := [(3, .long (lN 0)), (2, .int (-1)), (0, .ref oX), (1, .ref oT)]) hx hb dX9_nextEgg_3 rfl hl (by decide) rfl (fun ls hl => ?_)
  refine lv_iconst (v := nI 0) hx hb dX9_nextEgg_4 (by decide) ?_
  refine lv_istore (lv' := [(5, .int (nI 0)), (3, .long (lN 0)), (2, .int (-1)), (0, .ref oX), (1, .ref oT)]) hx hb dX9_nextEgg_5 hl (by decide) rfl (fun ls hl => ?_)
  have hL7 : ∀ (n_9 : Nat) (i : Nat), 6 - i < n_9 → (i ≤ 6) → ∀ ls : Array Slot, lv_has ls 9 [(0, .ref oX), (1, .ref oT), (2, .int (fo (nxF (nI 2) (csc fB fW fi (nI 2)) ib) (-1) i)), (3, .long (bsc (csc fB fW fi (nI 2)) (fo (nxF (nI 2) (csc fB fW fi (nI 2)) ib) (-1) i))), (5, .int (nI i))] → W p l e ({ frames := 3, cells := 0, slots := 0, locals := 67 }) s m ([.ref oX, .ref oT] : List Value).toArray below meth c s.heap [] 0 0 (MQ below (vp_Si (fun r => r = (cnx fB fW fi ib (nI 2)))) ([.ref oX, .ref oT] : List Value).toArray s 0 0 noF) (F0 m 7 ls []) := by
   intro n_9
   induction n_9 with
   | zero => intro i hn_9; exact absurd hn_9 (Nat.not_lt_zero _)
   | succ n_9 ih7 =>
    intro i hn_9 hi ls hl
    refine lv_iload hx hb dX9_nextEgg_7 (lv_at hl 4 rfl) ?_
    refine lv_bipush (v := nI 6) hx hb dX9_nextEgg_9 (by decide) ?_
    refine lv_icmp_ge (tgt := 82) hx hb dX9_nextEgg_11 (by decide) (fun c11 => ?_) (fun c11 => ?_)
    ·have c11 : 6 ≤ i := (nI_leI (a := 6) (b := i) (by omega) (by omega)).mp c11
     refine lv_iload_n hx hb dX9_nextEgg_82 rfl (lv_at hl 2 rfl) ?_
     exact retSi hx hb hr hlocks (by rw [cnx, show i = 6 by omega]) dX9_nextEgg_83
    ·have c11 : ¬ 6 ≤ i := fun h9 => c11 ((nI_leI (a := 6) (b := i) (by omega) (by omega)).mpr h9)
     have hJ76 : ∀ ls : Array Slot, lv_has ls 9 [(0, .ref oX), (1, .ref oT), (2, .int (fo (nxF (nI 2) (csc fB fW fi (nI 2)) ib) (-1) (i + 1))), (3, .long (bsc (csc fB fW fi (nI 2)) (fo (nxF (nI 2) (csc fB fW fi (nI 2)) ib) (-1) (i + 1)))), (5, .int (nI i))] → W p l e ({ frames := 3, cells := 0, slots := 0, locals := 67 }) s m ([.ref oX, .ref oT] : List Value).toArray below meth c s.heap [] 0 0 (MQ below (vp_Si (fun r => r = (cnx fB fW fi ib (nI 2)))) ([.ref oX, .ref oT] : List Value).toArray s 0 0 noF) (F0 m 76 ls []) := by
      intro  ls hl
      refine lv_iinc (v := nI (i + 1)) (lv' := [(5, .int (nI (i + 1))), (0, .ref oX), (1, .ref oT), (2, .int (fo (nxF (nI 2) (csc fB fW fi (nI 2)) ib) (-1) (i + 1))), (3, .long (bsc (csc fB fW fi (nI 2)) (fo (nxF (nI 2) (csc fB fW fi (nI 2)) ib) (-1) (i + 1))))]) hx hb dX9_nextEgg_76 hl (k := 4) rfl (iinc1 _) (by decide) rfl (fun ls hl => ?_)
      refine lv_goto (tgt := 7) hx hb dX9_nextEgg_79 (by decide) ?_
      exact ih7 (i + 1) (by omega) (by first | assumption | exact Nat.zero_le _ | omega) ls (lv_sub hl [1, 2, 3, 4, 0] rfl)
     refine lv_aload_n hx hb dX9_nextEgg_14 rfl (lv_at hl 1 rfl) ?_
     refine lv_iload hx hb dX9_nextEgg_15 (lv_at hl 4 rfl) ?_
     refine goSi (T := zI (ib.testBit i)) (va_runV (As := [.int (nI i)]) (rest := []) ⟨hx, hb, hml, hown, hts⟩ (k_X8_isInBox l g oT aB aW aS aU aK fi ib sn i (by first | assumption | exact Nat.zero_le _ | omega) (by first | assumption | exact Nat.zero_le _ | omega)) (cwV 1 hts gX9_nextEgg_X8_isInBox rfl rfl rfl ⟨rfl, hdX8_isInBox⟩ ⟨Nat.le_of_ble_eq_true rfl, Nat.le_of_ble_eq_true rfl⟩) (preVS hC (hP.sub [1] rfl) (va_recv hC.1 hP (ci := 8) (q0 := 1) rfl rfl)) rfl rfl hl.1 rfl (lv_room (Nat.le_of_ble_eq_true rfl)) dX9_nextEgg_17 ⟨Nat.le_of_ble_eq_true rfl, Nat.le_of_ble_eq_true rfl⟩) ?_
     refine lv_if_eq (tgt := 76) hx hb dX9_nextEgg_20 (by decide) (fun c20 => ?_) (fun c20 => ?_)
     ·have c20 := zI_f.mp c20
      have hl : lv_has ls 9 [(0, .ref oX), (1, .ref oT), (2, .int (fo (nxF (nI 2) (csc fB fW fi (nI 2)) ib) (-1) (i + 1))), (3, .long (bsc (csc fB fW fi (nI 2)) (fo (nxF (nI 2) (csc fB fW fi (nI 2)) ib) (-1) i))), (5, .int (nI i))] := lv_val hl 2 rfl (congrArg Value.int (show fo (nxF (nI 2) (csc fB fW fi (nI 2)) ib) (-1) i = fo (nxF (nI 2) (csc fB fW fi (nI 2)) ib) (-1) (i + 1) from by rw [fo_s]; exact (nx_0 c20).symm))
      have hl : lv_has ls 9 [(0, .ref oX), (1, .ref oT), (2, .int (fo (nxF (nI 2) (csc fB fW fi (nI 2)) ib) (-1) (i + 1))), (3, .long (bsc (csc fB fW fi (nI 2)) (fo (nxF (nI 2) (csc fB fW fi (nI 2)) ib) (-1) (i + 1)))), (5, .int (nI i))] := lv_val hl 3 rfl (congrArg Value.long (show bsc (csc fB fW fi (nI 2)) (fo (nxF (nI 2) (csc fB fW fi (nI 2)) ib) (-1) i) = bsc (csc fB fW fi (nI 2)) (fo (nxF (nI 2) (csc fB fW fi (nI 2)) ib) (-1) (i + 1)) from by rw [fo_s, nx_0 c20]))
      exact hJ76   ls (lv_sub hl [0, 1, 2, 3, 4] rfl)
     ·have c20 := zI_t.mp c20
      refine lv_aload_n hx hb dX9_nextEgg_23 rfl (lv_at hl 0 rfl) ?_
      refine lv_aload_n hx hb dX9_nextEgg_24 rfl (lv_at hl 1 rfl) ?_
      refine lv_iload hx hb dX9_nextEgg_25 (lv_at hl 4 rfl) ?_
      refine goSl (T := bad (nI 2) (smB fB fW i fi) (smN fW fi)) (va_runU (As := [.ref oT, .int (nI i)]) (rest := []) ⟨hx, hb, hml, hown, hts⟩ (k_X0_score l g oX oT aB aW aS aU aK fi ib sn fB fW i (by first | assumption | exact Nat.zero_le _ | omega) (by first | assumption | exact Nat.zero_le _ | omega) (by first | assumption | exact Nat.zero_le _ | omega)) (va_cwO 2 hts gX9_nextEgg_X0_score_u15X0 rfl rfl rfl ocX9_score (by decide +kernel) ⟨Nat.le_of_ble_eq_true rfl, Nat.le_of_ble_eq_true rfl⟩) (preVS hC (hP.sub [1, 2, 3] rfl) (va_recv hC.1 hP (ci := 0) (q0 := 0) rfl rfl)) rfl rfl hl.1 rfl (lv_room (Nat.le_of_ble_eq_true rfl)) dX9_nextEgg_27 ⟨Nat.le_of_ble_eq_true rfl, Nat.le_of_ble_eq_true rfl⟩) ?_
      refine top_l (y := (csc fB fW fi (nI 2)) i) (rfl) ?_
      refine lv_lstore (lv' := [(6, .long ((csc fB fW fi (nI 2)) i)), (0, .ref oX), (1, .ref oT), (2, .int (fo (nxF (nI 2) (csc fB fW fi (nI 2)) ib) (-1) i)), (3, .long (bsc (csc fB fW fi (nI 2)) (fo (nxF (nI 2) (csc fB fW fi (nI 2)) ib) (-1) i))), (5, .int (nI i))]) hx hb dX9_nextEgg_30 hl (by decide) rfl (fun ls hl => ?_)
      have hJ51 : ∀ ls : Array Slot, lv_has ls 9 [(0, .ref oX), (1, .ref oT), (2, .int (fo (nxF (nI 2) (csc fB fW fi (nI 2)) ib) (-1) i)), (3, .long (bsc (csc fB fW fi (nI 2)) (fo (nxF (nI 2) (csc fB fW fi (nI 2)) ib) (-1) i))), (5, .int (nI i)), (6, .long ((csc fB fW fi (nI 2)) i))] → W p l e ({ frames := 3, cells := 0, slots := 0, locals := 67 }) s m ([.ref oX, .ref oT] : List Value).toArray below meth c s.heap [] 0 0 (MQ below (vp_Si (fun r => r = (cnx fB fW fi ib (nI 2)))) ([.ref oX, .ref oT] : List Value).toArray s 0 0 noF) (F0 m 51 ls [.int (zI false)]) := by
       intro  ls hl
       refine lv_istore (lv' := [(8, .int (zI false)), (0, .ref oX), (1, .ref oT), (2, .int (fo (nxF (nI 2) (csc fB fW fi (nI 2)) ib) (-1) i)), (3, .long (bsc (csc fB fW fi (nI 2)) (fo (nxF (nI 2) (csc fB fW fi (nI 2)) ib) (-1) i))), (5, .int (nI i)), (6, .long ((csc fB fW fi (nI 2)) i))]) hx hb dX9_nextEgg_51 hl (by decide) rfl (fun ls hl => ?_)
       refine lv_iload_n hx hb dX9_nextEgg_53 rfl (lv_at hl 3 rfl) ?_
       refine lv_iconst (v := (-1)) hx hb dX9_nextEgg_54 (by decide) ?_
       refine lv_icmp_eq (tgt := 70) hx hb dX9_nextEgg_55 (by decide) (fun c55 => ?_) (fun c55 => ?_)
       ·refine lv_iload hx hb dX9_nextEgg_70 (lv_at hl 5 rfl) ?_
        refine lv_istore_n (lv' := [(2, .int (nI i)), (8, .int (zI false)), (0, .ref oX), (1, .ref oT), (3, .long (bsc (csc fB fW fi (nI 2)) (fo (nxF (nI 2) (csc fB fW fi (nI 2)) ib) (-1) i))), (5, .int (nI i)), (6, .long ((csc fB fW fi (nI 2)) i))]) hx hb dX9_nextEgg_72 rfl hl (by decide) rfl (fun ls hl => ?_)
        refine lv_lload hx hb dX9_nextEgg_73 (lv_at hl 6 rfl) ?_
        refine lv_lstore_n (lv' := [(3, .long ((csc fB fW fi (nI 2)) i)), (2, .int (nI i)), (8, .int (zI false)), (0, .ref oX), (1, .ref oT), (5, .int (nI i)), (6, .long ((csc fB fW fi (nI 2)) i))]) hx hb dX9_nextEgg_75 rfl hl (by decide) rfl (fun ls hl => ?_)
        have hl : lv_has ls 9 [(3, .long ((csc fB fW fi (nI 2)) i)), (2, .int (fo (nxF (nI 2) (csc fB fW fi (nI 2)) ib) (-1) (i + 1))), (8, .int (zI false)), (0, .ref oX), (1, .ref oT), (5, .int (nI i)), (6, .long ((csc fB fW fi (nI 2)) i))] := lv_val hl 1 rfl (congrArg Value.int (show nI i = fo (nxF (nI 2) (csc fB fW fi (nI 2)) ib) (-1) (i + 1) from by rw [fo_s]; exact (nx_1 c20 c55).symm))
        have hl : lv_has ls 9 [(3, .long (bsc (csc fB fW fi (nI 2)) (fo (nxF (nI 2) (csc fB fW fi (nI 2)) ib) (-1) (i + 1)))), (2, .int (fo (nxF (nI 2) (csc fB fW fi (nI 2)) ib) (-1) (i + 1))), (8, .int (zI false)), (0, .ref oX), (1, .ref oT), (5, .int (nI i)), (6, .long ((csc fB fW fi (nI 2)) i))] := lv_val hl 0 rfl (congrArg Value.long (show (csc fB fW fi (nI 2)) i = bsc (csc fB fW fi (nI 2)) (fo (nxF (nI 2) (csc fB fW fi (nI 2)) ib) (-1) (i + 1)) from by rw [fo_s, nx_1 c20 c55]; exact (bsc_n (by omega)).symm))
        exact hJ76   ls (lv_sub hl [3, 4, 1, 0, 5] rfl)
       ·refine lv_lload hx hb dX9_nextEgg_58 (lv_at hl 6 rfl) ?_
        refine lv_lload_n hx hb dX9_nextEgg_60 rfl (lv_at hl 4 rfl) ?_
        refine lc_lt (tgt := 70) hx hb dX9_nextEgg_61 dX9_nextEgg_62 (by decide) (fun c61 => ?_) (fun c61 => ?_)
        ·refine lv_iload hx hb dX9_nextEgg_70 (lv_at hl 5 rfl) ?_
         refine lv_istore_n (lv' := [(2, .int (nI i)), (8, .int (zI false)), (0, .ref oX), (1, .ref oT), (3, .long (bsc (csc fB fW fi (nI 2)) (fo (nxF (nI 2) (csc fB fW fi (nI 2)) ib) (-1) i))), (5, .int (nI i)), (6, .long ((csc fB fW fi (nI 2)) i))]) hx hb dX9_nextEgg_72 rfl hl (by decide) rfl (fun ls hl => ?_)
         refine lv_lload hx hb dX9_nextEgg_73 (lv_at hl 6 rfl) ?_
         refine lv_lstore_n (lv' := [(3, .long ((csc fB fW fi (nI 2)) i)), (2, .int (nI i)), (8, .int (zI false)), (0, .ref oX), (1, .ref oT), (5, .int (nI i)), (6, .long ((csc fB fW fi (nI 2)) i))]) hx hb dX9_nextEgg_75 rfl hl (by decide) rfl (fun ls hl => ?_)
         have hl : lv_has ls 9 [(3, .long ((csc fB fW fi (nI 2)) i)), (2, .int (fo (nxF (nI 2) (csc fB fW fi (nI 2)) ib) (-1) (i + 1))), (8, .int (zI false)), (0, .ref oX), (1, .ref oT), (5, .int (nI i)), (6, .long ((csc fB fW fi (nI 2)) i))] := lv_val hl 1 rfl (congrArg Value.int (show nI i = fo (nxF (nI 2) (csc fB fW fi (nI 2)) ib) (-1) (i + 1) from by rw [fo_s]; exact (cx_2 c20 c55 c61).symm))
         have hl : lv_has ls 9 [(3, .long (bsc (csc fB fW fi (nI 2)) (fo (nxF (nI 2) (csc fB fW fi (nI 2)) ib) (-1) (i + 1)))), (2, .int (fo (nxF (nI 2) (csc fB fW fi (nI 2)) ib) (-1) (i + 1))), (8, .int (zI false)), (0, .ref oX), (1, .ref oT), (5, .int (nI i)), (6, .long ((csc fB fW fi (nI 2)) i))] := lv_val hl 0 rfl (congrArg Value.long (show (csc fB fW fi (nI 2)) i = bsc (csc fB fW fi (nI 2)) (fo (nxF (nI 2) (csc fB fW fi (nI 2)) ib) (-1) (i + 1)) from by rw [fo_s, cx_2 c20 c55 c61]; exact (bsc_n (by omega)).symm))
         exact hJ76   ls (lv_sub hl [3, 4, 1, 0, 5] rfl)
        ·refine lv_iload hx hb dX9_nextEgg_65 (lv_at hl 0 rfl) ?_
         refine lv_if_eq (tgt := 76) hx hb dX9_nextEgg_67 (by decide) (fun _ => ?_) (fun hz => absurd (by decide) hz)
         have hl : lv_has ls 9 [(8, .int (zI false)), (0, .ref oX), (1, .ref oT), (2, .int (fo (nxF (nI 2) (csc fB fW fi (nI 2)) ib) (-1) (i + 1))), (3, .long (bsc (csc fB fW fi (nI 2)) (fo (nxF (nI 2) (csc fB fW fi (nI 2)) ib) (-1) i))), (5, .int (nI i)), (6, .long ((csc fB fW fi (nI 2)) i))] := lv_val hl 3 rfl (congrArg Value.int (show fo (nxF (nI 2) (csc fB fW fi (nI 2)) ib) (-1) i = fo (nxF (nI 2) (csc fB fW fi (nI 2)) ib) (-1) (i + 1) from by rw [fo_s]; exact (cx_4 c20 c55 c61 (fun h9 => absurd h9.1 (by decide))).symm))
         have hl : lv_has ls 9 [(8, .int (zI false)), (0, .ref oX), (1, .ref oT), (2, .int (fo (nxF (nI 2) (csc fB fW fi (nI 2)) ib) (-1) (i + 1))), (3, .long (bsc (csc fB fW fi (nI 2)) (fo (nxF (nI 2) (csc fB fW fi (nI 2)) ib) (-1) (i + 1)))), (5, .int (nI i)), (6, .long ((csc fB fW fi (nI 2)) i))] := lv_val hl 4 rfl (congrArg Value.long (show bsc (csc fB fW fi (nI 2)) (fo (nxF (nI 2) (csc fB fW fi (nI 2)) ib) (-1) i) = bsc (csc fB fW fi (nI 2)) (fo (nxF (nI 2) (csc fB fW fi (nI 2)) ib) (-1) (i + 1)) from by rw [fo_s, cx_4 c20 c55 c61 (fun h9 => absurd h9.1 (by decide))]))
         exact hJ76   ls (lv_sub hl [1, 2, 3, 4, 5] rfl)
      refine lv_lload hx hb dX9_nextEgg_32 (lv_at hl 0 rfl) ?_
      refine lv_lload_n hx hb dX9_nextEgg_34 rfl (lv_at hl 4 rfl) ?_
      refine lc_ne (tgt := 50) hx hb dX9_nextEgg_35 dX9_nextEgg_36 (by decide) (fun c35 => ?_) (fun c35 => ?_)
      ·refine lv_iconst (v := nI 0) hx hb dX9_nextEgg_50 (by decide) ?_
       refine top_i (y := zI false) (by first | rfl | exact zI_1 (decide_eq_true c35) | exact zI_0 (decide_eq_false c35)) ?_
       exact hJ51   ls (lv_sub hl [1, 2, 3, 4, 5, 0] rfl)
      ·refine lv_aload_n hx hb dX9_nextEgg_39 rfl (lv_at hl 1 rfl) ?_
       refine goSi (T := zI false) (va_runU (As := []) (rest := []) ⟨hx, hb, hml, hown, hts⟩ (k_X9_takesLast l g oX ) (va_cwU 0 hts gX9_nextEgg_X9_takesLast_u21X0 rfl rfl rfl rfl (by decide +kernel) ⟨Nat.le_of_ble_eq_true rfl, Nat.le_of_ble_eq_true rfl⟩) (preVS hC (hP.sub [] rfl) (va_recv hC.1 hP (ci := 0) (q0 := 0) rfl rfl)) rfl rfl hl.1 rfl (lv_room (Nat.le_of_ble_eq_true rfl)) dX9_nextEgg_40 ⟨Nat.le_of_ble_eq_true rfl, Nat.le_of_ble_eq_true rfl⟩) ?_
       refine lv_if_eq (tgt := 50) hx hb dX9_nextEgg_43 (by decide) (fun _ => ?_) (fun hz => absurd (by decide) hz)
       refine lv_iconst (v := nI 0) hx hb dX9_nextEgg_50 (by decide) ?_
       refine top_i (y := zI false) (by first | rfl | exact zI_1 (decide_eq_true c35) | exact zI_0 (decide_eq_false c35)) ?_
       exact hJ51   ls (lv_sub hl [1, 2, 3, 4, 5, 0] rfl)
  exact hL7 _ 0 (Nat.lt_succ_self _) (by first | assumption | exact Nat.zero_le _ | omega) ls (lv_sub hl [3, 4, 2, 1, 0] rfl)

set_option maxHeartbeats 4000000 in
set_option maxRecDepth 100000 in
/-- BoiledEggs$Trier.nextEgg  -/
theorem k_X9_nextEgg_X5 (l : Launch) (g : GG) (oX : Nat) (oT : Nat) (aB : Nat) (aW : Nat) (aS : Nat) (aU : Nat) (aK : Nat) (fi : Nat) (ib : Nat) (sn : Nat) (fB : Nat → Nat) (fW : Nat → Nat) (hf0 : fi ≤ 20) (hB : ∀ j, fB j < 64) (hib : ib < 64) : Met l yX9_nextEgg wsX9_nextEgg ({ frames := 3, cells := 0, slots := 0, locals := 67 }) (pS g [.ref oX, .ref oT] [(oX, .inr (5, [])), (oT, .inr (8, [.ref aB, .ref aW, .ref aS, .ref aU, .ref aK, .int (nI fi), .int (nI ib), .int (nI sn)])), (aB, .inl (g.2.1, 20, .inl (fun j => nI (fB j)))), (aW, .inl (g.2.2.1, 20, .inr (.inl (fun j => lN (fW j)))))]) (vp_Si (fun r => r = (cnx fB fW fi ib (nI 3)))) 0 0 noF := by
  refine metS (cc := cX9_nextEgg) (maxL := 9) (ret := (some .int)) (by decide) rfl (Nat.le_of_ble_eq_true rfl) ?_
  intro p e s m below meth c hx hb hr hts hown hlocks hml hC hP ls hl
  have hl : lv_has ls 9 [(0, .ref oX), (1, .ref oT)] := hl
  have hown : s.vm.findClass RX9 = some m.cls := hown
  have hts : ∀ w ∈ wsX9_nextEgg, w.before ([.ref oX, .ref oT] : List Value).toArray s = true := hts
  have ocX9_score := (by decide +kernel : Cond.code yX9_score cX9_score 3 (some .long) ∈ wsX9_nextEgg)
  refine lv_iconst (v := (-1)) hx hb dX9_nextEgg_0 (by decide) ?_
  refine lv_istore_n (lv' := [(2, .int (-1)), (0, .ref oX), (1, .ref oT)]) hx hb dX9_nextEgg_1 rfl hl (by decide) rfl (fun ls hl => ?_)
  refine lv_lconst (v := lN 0) hx hb dX9_nextEgg_2 (by decide) ?_
  refine lv_lstore_n (lv' := [(3, .long (lN 0)), (2, .int (-1)), (0, .ref oX), (1, .ref oT)]) hx hb dX9_nextEgg_3 rfl hl (by decide) rfl (fun ls hl => ?_)
  refine lv_iconst (v := nI 0) hx hb dX9_nextEgg_4 (by decide) ?_
  refine lv_istore (lv' := [(5, .int (nI 0)), (3, .long (lN 0)), (2, .int (-1)), (0, .ref oX), (1, .ref oT)]) hx hb dX9_nextEgg_5 hl (by decide) rfl (fun ls hl => ?_)
  have hL7 : ∀ (n_9 : Nat) (i : Nat), 6 - i < n_9 → (i ≤ 6) → ∀ ls : Array Slot, lv_has ls 9 [(0, .ref oX), (1, .ref oT), (2, .int (fo (nxF (nI 3) (csc fB fW fi (nI 3)) ib) (-1) i)), (3, .long (bsc (csc fB fW fi (nI 3)) (fo (nxF (nI 3) (csc fB fW fi (nI 3)) ib) (-1) i))), (5, .int (nI i))] → W p l e ({ frames := 3, cells := 0, slots := 0, locals := 67 }) s m ([.ref oX, .ref oT] : List Value).toArray below meth c s.heap [] 0 0 (MQ below (vp_Si (fun r => r = (cnx fB fW fi ib (nI 3)))) ([.ref oX, .ref oT] : List Value).toArray s 0 0 noF) (F0 m 7 ls []) := by
   intro n_9
   induction n_9 with
   | zero => intro i hn_9; exact absurd hn_9 (Nat.not_lt_zero _)
   | succ n_9 ih7 =>
    intro i hn_9 hi ls hl
    refine lv_iload hx hb dX9_nextEgg_7 (lv_at hl 4 rfl) ?_
    refine lv_bipush (v := nI 6) hx hb dX9_nextEgg_9 (by decide) ?_
    refine lv_icmp_ge (tgt := 82) hx hb dX9_nextEgg_11 (by decide) (fun c11 => ?_) (fun c11 => ?_)
    ·have c11 : 6 ≤ i := (nI_leI (a := 6) (b := i) (by omega) (by omega)).mp c11
     refine lv_iload_n hx hb dX9_nextEgg_82 rfl (lv_at hl 2 rfl) ?_
     exact retSi hx hb hr hlocks (by rw [cnx, show i = 6 by omega]) dX9_nextEgg_83
    ·have c11 : ¬ 6 ≤ i := fun h9 => c11 ((nI_leI (a := 6) (b := i) (by omega) (by omega)).mpr h9)
     have hJ76 : ∀ ls : Array Slot, lv_has ls 9 [(0, .ref oX), (1, .ref oT), (2, .int (fo (nxF (nI 3) (csc fB fW fi (nI 3)) ib) (-1) (i + 1))), (3, .long (bsc (csc fB fW fi (nI 3)) (fo (nxF (nI 3) (csc fB fW fi (nI 3)) ib) (-1) (i + 1)))), (5, .int (nI i))] → W p l e ({ frames := 3, cells := 0, slots := 0, locals := 67 }) s m ([.ref oX, .ref oT] : List Value).toArray below meth c s.heap [] 0 0 (MQ below (vp_Si (fun r => r = (cnx fB fW fi ib (nI 3)))) ([.ref oX, .ref oT] : List Value).toArray s 0 0 noF) (F0 m 76 ls []) := by
      intro  ls hl
      refine lv_iinc (v := nI (i + 1)) (lv' := [(5, .int (nI (i + 1))), (0, .ref oX), (1, .ref oT), (2, .int (fo (nxF (nI 3) (csc fB fW fi (nI 3)) ib) (-1) (i + 1))), (3, .long (bsc (csc fB fW fi (nI 3)) (fo (nxF (nI 3) (csc fB fW fi (nI 3)) ib) (-1) (i + 1))))]) hx hb dX9_nextEgg_76 hl (k := 4) rfl (iinc1 _) (by decide) rfl (fun ls hl => ?_)
      refine lv_goto (tgt := 7) hx hb dX9_nextEgg_79 (by decide) ?_
      exact ih7 (i + 1) (by omega) (by first | assumption | exact Nat.zero_le _ | omega) ls (lv_sub hl [1, 2, 3, 4, 0] rfl)
     refine lv_aload_n hx hb dX9_nextEgg_14 rfl (lv_at hl 1 rfl) ?_
     refine lv_iload hx hb dX9_nextEgg_15 (lv_at hl 4 rfl) ?_
     refine goSi (T := zI (ib.testBit i)) (va_runV (As := [.int (nI i)]) (rest := []) ⟨hx, hb, hml, hown, hts⟩ (k_X8_isInBox l g oT aB aW aS aU aK fi ib sn i (by first | assumption | exact Nat.zero_le _ | omega) (by first | assumption | exact Nat.zero_le _ | omega)) (cwV 1 hts gX9_nextEgg_X8_isInBox rfl rfl rfl ⟨rfl, hdX8_isInBox⟩ ⟨Nat.le_of_ble_eq_true rfl, Nat.le_of_ble_eq_true rfl⟩) (preVS hC (hP.sub [1] rfl) (va_recv hC.1 hP (ci := 8) (q0 := 1) rfl rfl)) rfl rfl hl.1 rfl (lv_room (Nat.le_of_ble_eq_true rfl)) dX9_nextEgg_17 ⟨Nat.le_of_ble_eq_true rfl, Nat.le_of_ble_eq_true rfl⟩) ?_
     refine lv_if_eq (tgt := 76) hx hb dX9_nextEgg_20 (by decide) (fun c20 => ?_) (fun c20 => ?_)
     ·have c20 := zI_f.mp c20
      have hl : lv_has ls 9 [(0, .ref oX), (1, .ref oT), (2, .int (fo (nxF (nI 3) (csc fB fW fi (nI 3)) ib) (-1) (i + 1))), (3, .long (bsc (csc fB fW fi (nI 3)) (fo (nxF (nI 3) (csc fB fW fi (nI 3)) ib) (-1) i))), (5, .int (nI i))] := lv_val hl 2 rfl (congrArg Value.int (show fo (nxF (nI 3) (csc fB fW fi (nI 3)) ib) (-1) i = fo (nxF (nI 3) (csc fB fW fi (nI 3)) ib) (-1) (i + 1) from by rw [fo_s]; exact (nx_0 c20).symm))
      have hl : lv_has ls 9 [(0, .ref oX), (1, .ref oT), (2, .int (fo (nxF (nI 3) (csc fB fW fi (nI 3)) ib) (-1) (i + 1))), (3, .long (bsc (csc fB fW fi (nI 3)) (fo (nxF (nI 3) (csc fB fW fi (nI 3)) ib) (-1) (i + 1)))), (5, .int (nI i))] := lv_val hl 3 rfl (congrArg Value.long (show bsc (csc fB fW fi (nI 3)) (fo (nxF (nI 3) (csc fB fW fi (nI 3)) ib) (-1) i) = bsc (csc fB fW fi (nI 3)) (fo (nxF (nI 3) (csc fB fW fi (nI 3)) ib) (-1) (i + 1)) from by rw [fo_s, nx_0 c20]))
      exact hJ76   ls (lv_sub hl [0, 1, 2, 3, 4] rfl)
     ·have c20 := zI_t.mp c20
      refine lv_aload_n hx hb dX9_nextEgg_23 rfl (lv_at hl 0 rfl) ?_
      refine lv_aload_n hx hb dX9_nextEgg_24 rfl (lv_at hl 1 rfl) ?_
      refine lv_iload hx hb dX9_nextEgg_25 (lv_at hl 4 rfl) ?_
      refine goSl (T := bad (nI 3) (smB fB fW i fi) (smN fW fi)) (va_runU (As := [.ref oT, .int (nI i)]) (rest := []) ⟨hx, hb, hml, hown, hts⟩ (k_X5_score l g oX oT aB aW aS aU aK fi ib sn fB fW i (by first | assumption | exact Nat.zero_le _ | omega) (by first | assumption | exact Nat.zero_le _ | omega) (by first | assumption | exact Nat.zero_le _ | omega)) (va_cwO 2 hts gX9_nextEgg_X5_score_u15X5 rfl rfl rfl ocX9_score (by decide +kernel) ⟨Nat.le_of_ble_eq_true rfl, Nat.le_of_ble_eq_true rfl⟩) (preVS hC (hP.sub [1, 2, 3] rfl) (va_recv hC.1 hP (ci := 5) (q0 := 0) rfl rfl)) rfl rfl hl.1 rfl (lv_room (Nat.le_of_ble_eq_true rfl)) dX9_nextEgg_27 ⟨Nat.le_of_ble_eq_true rfl, Nat.le_of_ble_eq_true rfl⟩) ?_
      refine top_l (y := (csc fB fW fi (nI 3)) i) (rfl) ?_
      refine lv_lstore (lv' := [(6, .long ((csc fB fW fi (nI 3)) i)), (0, .ref oX), (1, .ref oT), (2, .int (fo (nxF (nI 3) (csc fB fW fi (nI 3)) ib) (-1) i)), (3, .long (bsc (csc fB fW fi (nI 3)) (fo (nxF (nI 3) (csc fB fW fi (nI 3)) ib) (-1) i))), (5, .int (nI i))]) hx hb dX9_nextEgg_30 hl (by decide) rfl (fun ls hl => ?_)
      have hJ51 : ∀ ls : Array Slot, lv_has ls 9 [(0, .ref oX), (1, .ref oT), (2, .int (fo (nxF (nI 3) (csc fB fW fi (nI 3)) ib) (-1) i)), (3, .long (bsc (csc fB fW fi (nI 3)) (fo (nxF (nI 3) (csc fB fW fi (nI 3)) ib) (-1) i))), (5, .int (nI i)), (6, .long ((csc fB fW fi (nI 3)) i))] → W p l e ({ frames := 3, cells := 0, slots := 0, locals := 67 }) s m ([.ref oX, .ref oT] : List Value).toArray below meth c s.heap [] 0 0 (MQ below (vp_Si (fun r => r = (cnx fB fW fi ib (nI 3)))) ([.ref oX, .ref oT] : List Value).toArray s 0 0 noF) (F0 m 51 ls [.int (zI false)]) := by
       intro  ls hl
       refine lv_istore (lv' := [(8, .int (zI false)), (0, .ref oX), (1, .ref oT), (2, .int (fo (nxF (nI 3) (csc fB fW fi (nI 3)) ib) (-1) i)), (3, .long (bsc (csc fB fW fi (nI 3)) (fo (nxF (nI 3) (csc fB fW fi (nI 3)) ib) (-1) i))), (5, .int (nI i)), (6, .long ((csc fB fW fi (nI 3)) i))]) hx hb dX9_nextEgg_51 hl (by decide) rfl (fun ls hl => ?_)
       refine lv_iload_n hx hb dX9_nextEgg_53 rfl (lv_at hl 3 rfl) ?_
       refine lv_iconst (v := (-1)) hx hb dX9_nextEgg_54 (by decide) ?_
       refine lv_icmp_eq (tgt := 70) hx hb dX9_nextEgg_55 (by decide) (fun c55 => ?_) (fun c55 => ?_)
       ·refine lv_iload hx hb dX9_nextEgg_70 (lv_at hl 5 rfl) ?_
        refine lv_istore_n (lv' := [(2, .int (nI i)), (8, .int (zI false)), (0, .ref oX), (1, .ref oT), (3, .long (bsc (csc fB fW fi (nI 3)) (fo (nxF (nI 3) (csc fB fW fi (nI 3)) ib) (-1) i))), (5, .int (nI i)), (6, .long ((csc fB fW fi (nI 3)) i))]) hx hb dX9_nextEgg_72 rfl hl (by decide) rfl (fun ls hl => ?_)
        refine lv_lload hx hb dX9_nextEgg_73 (lv_at hl 6 rfl) ?_
        refine lv_lstore_n (lv' := [(3, .long ((csc fB fW fi (nI 3)) i)), (2, .int (nI i)), (8, .int (zI false)), (0, .ref oX), (1, .ref oT), (5, .int (nI i)), (6, .long ((csc fB fW fi (nI 3)) i))]) hx hb dX9_nextEgg_75 rfl hl (by decide) rfl (fun ls hl => ?_)
        have hl : lv_has ls 9 [(3, .long ((csc fB fW fi (nI 3)) i)), (2, .int (fo (nxF (nI 3) (csc fB fW fi (nI 3)) ib) (-1) (i + 1))), (8, .int (zI false)), (0, .ref oX), (1, .ref oT), (5, .int (nI i)), (6, .long ((csc fB fW fi (nI 3)) i))] := lv_val hl 1 rfl (congrArg Value.int (show nI i = fo (nxF (nI 3) (csc fB fW fi (nI 3)) ib) (-1) (i + 1) from by rw [fo_s]; exact (nx_1 c20 c55).symm))
        have hl : lv_has ls 9 [(3, .long (bsc (csc fB fW fi (nI 3)) (fo (nxF (nI 3) (csc fB fW fi (nI 3)) ib) (-1) (i + 1)))), (2, .int (fo (nxF (nI 3) (csc fB fW fi (nI 3)) ib) (-1) (i + 1))), (8, .int (zI false)), (0, .ref oX), (1, .ref oT), (5, .int (nI i)), (6, .long ((csc fB fW fi (nI 3)) i))] := lv_val hl 0 rfl (congrArg Value.long (show (csc fB fW fi (nI 3)) i = bsc (csc fB fW fi (nI 3)) (fo (nxF (nI 3) (csc fB fW fi (nI 3)) ib) (-1) (i + 1)) from by rw [fo_s, nx_1 c20 c55]; exact (bsc_n (by omega)).symm))
        exact hJ76   ls (lv_sub hl [3, 4, 1, 0, 5] rfl)
       ·refine lv_lload hx hb dX9_nextEgg_58 (lv_at hl 6 rfl) ?_
        refine lv_lload_n hx hb dX9_nextEgg_60 rfl (lv_at hl 4 rfl) ?_
        refine lc_lt (tgt := 70) hx hb dX9_nextEgg_61 dX9_nextEgg_62 (by decide) (fun c61 => ?_) (fun c61 => ?_)
        ·refine lv_iload hx hb dX9_nextEgg_70 (lv_at hl 5 rfl) ?_
         refine lv_istore_n (lv' := [(2, .int (nI i)), (8, .int (zI false)), (0, .ref oX), (1, .ref oT), (3, .long (bsc (csc fB fW fi (nI 3)) (fo (nxF (nI 3) (csc fB fW fi (nI 3)) ib) (-1) i))), (5, .int (nI i)), (6, .long ((csc fB fW fi (nI 3)) i))]) hx hb dX9_nextEgg_72 rfl hl (by decide) rfl (fun ls hl => ?_)
         refine lv_lload hx hb dX9_nextEgg_73 (lv_at hl 6 rfl) ?_
         refine lv_lstore_n (lv' := [(3, .long ((csc fB fW fi (nI 3)) i)), (2, .int (nI i)), (8, .int (zI false)), (0, .ref oX), (1, .ref oT), (5, .int (nI i)), (6, .long ((csc fB fW fi (nI 3)) i))]) hx hb dX9_nextEgg_75 rfl hl (by decide) rfl (fun ls hl => ?_)
         have hl : lv_has ls 9 [(3, .long ((csc fB fW fi (nI 3)) i)), (2, .int (fo (nxF (nI 3) (csc fB fW fi (nI 3)) ib) (-1) (i + 1))), (8, .int (zI false)), (0, .ref oX), (1, .ref oT), (5, .int (nI i)), (6, .long ((csc fB fW fi (nI 3)) i))] := lv_val hl 1 rfl (congrArg Value.int (show nI i = fo (nxF (nI 3) (csc fB fW fi (nI 3)) ib) (-1) (i + 1) from by rw [fo_s]; exact (cx_2 c20 c55 c61).symm))
         have hl : lv_has ls 9 [(3, .long (bsc (csc fB fW fi (nI 3)) (fo (nxF (nI 3) (csc fB fW fi (nI 3)) ib) (-1) (i + 1)))), (2, .int (fo (nxF (nI 3) (csc fB fW fi (nI 3)) ib) (-1) (i + 1))), (8, .int (zI false)), (0, .ref oX), (1, .ref oT), (5, .int (nI i)), (6, .long ((csc fB fW fi (nI 3)) i))] := lv_val hl 0 rfl (congrArg Value.long (show (csc fB fW fi (nI 3)) i = bsc (csc fB fW fi (nI 3)) (fo (nxF (nI 3) (csc fB fW fi (nI 3)) ib) (-1) (i + 1)) from by rw [fo_s, cx_2 c20 c55 c61]; exact (bsc_n (by omega)).symm))
         exact hJ76   ls (lv_sub hl [3, 4, 1, 0, 5] rfl)
        ·refine lv_iload hx hb dX9_nextEgg_65 (lv_at hl 0 rfl) ?_
         refine lv_if_eq (tgt := 76) hx hb dX9_nextEgg_67 (by decide) (fun _ => ?_) (fun hz => absurd (by decide) hz)
         have hl : lv_has ls 9 [(8, .int (zI false)), (0, .ref oX), (1, .ref oT), (2, .int (fo (nxF (nI 3) (csc fB fW fi (nI 3)) ib) (-1) (i + 1))), (3, .long (bsc (csc fB fW fi (nI 3)) (fo (nxF (nI 3) (csc fB fW fi (nI 3)) ib) (-1) i))), (5, .int (nI i)), (6, .long ((csc fB fW fi (nI 3)) i))] := lv_val hl 3 rfl (congrArg Value.int (show fo (nxF (nI 3) (csc fB fW fi (nI 3)) ib) (-1) i = fo (nxF (nI 3) (csc fB fW fi (nI 3)) ib) (-1) (i + 1) from by rw [fo_s]; exact (cx_4 c20 c55 c61 (fun h9 => absurd h9.1 (by decide))).symm))
         have hl : lv_has ls 9 [(8, .int (zI false)), (0, .ref oX), (1, .ref oT), (2, .int (fo (nxF (nI 3) (csc fB fW fi (nI 3)) ib) (-1) (i + 1))), (3, .long (bsc (csc fB fW fi (nI 3)) (fo (nxF (nI 3) (csc fB fW fi (nI 3)) ib) (-1) (i + 1)))), (5, .int (nI i)), (6, .long ((csc fB fW fi (nI 3)) i))] := lv_val hl 4 rfl (congrArg Value.long (show bsc (csc fB fW fi (nI 3)) (fo (nxF (nI 3) (csc fB fW fi (nI 3)) ib) (-1) i) = bsc (csc fB fW fi (nI 3)) (fo (nxF (nI 3) (csc fB fW fi (nI 3)) ib) (-1) (i + 1)) from by rw [fo_s, cx_4 c20 c55 c61 (fun h9 => absurd h9.1 (by decide))]))
         exact hJ76   ls (lv_sub hl [1, 2, 3, 4, 5] rfl)
      refine lv_lload hx hb dX9_nextEgg_32 (lv_at hl 0 rfl) ?_
      refine lv_lload_n hx hb dX9_nextEgg_34 rfl (lv_at hl 4 rfl) ?_
      refine lc_ne (tgt := 50) hx hb dX9_nextEgg_35 dX9_nextEgg_36 (by decide) (fun c35 => ?_) (fun c35 => ?_)
      ·refine lv_iconst (v := nI 0) hx hb dX9_nextEgg_50 (by decide) ?_
       refine top_i (y := zI false) (by first | rfl | exact zI_1 (decide_eq_true c35) | exact zI_0 (decide_eq_false c35)) ?_
       exact hJ51   ls (lv_sub hl [1, 2, 3, 4, 5, 0] rfl)
      ·refine lv_aload_n hx hb dX9_nextEgg_39 rfl (lv_at hl 1 rfl) ?_
       refine goSi (T := zI false) (va_runU (As := []) (rest := []) ⟨hx, hb, hml, hown, hts⟩ (k_X9_takesLast l g oX ) (va_cwU 0 hts gX9_nextEgg_X9_takesLast_u21X5 rfl rfl rfl rfl (by decide +kernel) ⟨Nat.le_of_ble_eq_true rfl, Nat.le_of_ble_eq_true rfl⟩) (preVS hC (hP.sub [] rfl) (va_recv hC.1 hP (ci := 5) (q0 := 0) rfl rfl)) rfl rfl hl.1 rfl (lv_room (Nat.le_of_ble_eq_true rfl)) dX9_nextEgg_40 ⟨Nat.le_of_ble_eq_true rfl, Nat.le_of_ble_eq_true rfl⟩) ?_
       refine lv_if_eq (tgt := 50) hx hb dX9_nextEgg_43 (by decide) (fun _ => ?_) (fun hz => absurd (by decide) hz)
       refine lv_iconst (v := nI 0) hx hb dX9_nextEgg_50 (by decide) ?_
       refine top_i (y := zI false) (by first | rfl | exact zI_1 (decide_eq_true c35) | exact zI_0 (decide_eq_false c35)) ?_
       exact hJ51   ls (lv_sub hl [1, 2, 3, 4, 5, 0] rfl)
  exact hL7 _ 0 (Nat.lt_succ_self _) (by first | assumption | exact Nat.zero_le _ | omega) ls (lv_sub hl [3, 4, 2, 1, 0] rfl)

set_option maxHeartbeats 4000000 in
set_option maxRecDepth 100000 in
/-- BoiledEggs$Trier.nextEgg  -/
theorem k_X9_nextEgg_X4 (l : Launch) (g : GG) (oX : Nat) (oT : Nat) (aB : Nat) (aW : Nat) (aS : Nat) (aU : Nat) (aK : Nat) (fi : Nat) (ib : Nat) (sn : Nat) (fB : Nat → Nat) (fW : Nat → Nat) (hf0 : fi ≤ 20) (hB : ∀ j, fB j < 64) (hib : ib < 64) : Met l yX9_nextEgg wsX9_nextEgg ({ frames := 3, cells := 0, slots := 0, locals := 67 }) (pS g [.ref oX, .ref oT] [(oX, .inr (4, [])), (oT, .inr (8, [.ref aB, .ref aW, .ref aS, .ref aU, .ref aK, .int (nI fi), .int (nI ib), .int (nI sn)])), (aB, .inl (g.2.1, 20, .inl (fun j => nI (fB j)))), (aW, .inl (g.2.2.1, 20, .inr (.inl (fun j => lN (fW j)))))]) (vp_Si (fun r => r = (cnx fB fW fi ib (nI 4)))) 0 0 noF := by
  refine metS (cc := cX9_nextEgg) (maxL := 9) (ret := (some .int)) (by decide) rfl (Nat.le_of_ble_eq_true rfl) ?_
  intro p e s m below meth c hx hb hr hts hown hlocks hml hC hP ls hl
  have hl : lv_has ls 9 [(0, .ref oX), (1, .ref oT)] := hl
  have hown : s.vm.findClass RX9 = some m.cls := hown
  have hts : ∀ w ∈ wsX9_nextEgg, w.before ([.ref oX, .ref oT] : List Value).toArray s = true := hts
  have ocX9_score := (by decide +kernel : Cond.code yX9_score cX9_score 3 (some .long) ∈ wsX9_nextEgg)
  have ocX9_takesLast := (by decide +kernel : Cond.code yX9_takesLast cX9_takesLast 1 (some .boolean) ∈ wsX9_nextEgg)
  refine lv_iconst (v := (-1)) hx hb dX9_nextEgg_0 (by decide) ?_
  refine lv_istore_n (lv' := [(2, .int (-1)), (0, .ref oX), (1, .ref oT)]) hx hb dX9_nextEgg_1 rfl hl (by decide) rfl (fun ls hl => ?_)
  refine lv_lconst (v := lN 0) hx hb dX9_nextEgg_2 (by decide) ?_
  refine lv_lstore_n (lv' := [(3, .long (lN 0)), (2, .int (-1)), (0, .ref oX), (1, .ref oT)]) hx hb dX9_nextEgg_3 rfl hl (by decide) rfl (fun ls hl => ?_)
  refine lv_iconst (v := nI 0) hx hb dX9_nextEgg_4 (by decide) ?_
  refine lv_istore (lv' := [(5, .int (nI 0)), (3, .long (lN 0)), (2, .int (-1)), (0, .ref oX), (1, .ref oT)]) hx hb dX9_nextEgg_5 hl (by decide) rfl (fun ls hl => ?_)
  have hL7 : ∀ (n_9 : Nat) (i : Nat), 6 - i < n_9 → (i ≤ 6) → ∀ ls : Array Slot, lv_has ls 9 [(0, .ref oX), (1, .ref oT), (2, .int (fo (nxF (nI 4) (csc fB fW fi (nI 4)) ib) (-1) i)), (3, .long (bsc (csc fB fW fi (nI 4)) (fo (nxF (nI 4) (csc fB fW fi (nI 4)) ib) (-1) i))), (5, .int (nI i))] → W p l e ({ frames := 3, cells := 0, slots := 0, locals := 67 }) s m ([.ref oX, .ref oT] : List Value).toArray below meth c s.heap [] 0 0 (MQ below (vp_Si (fun r => r = (cnx fB fW fi ib (nI 4)))) ([.ref oX, .ref oT] : List Value).toArray s 0 0 noF) (F0 m 7 ls []) := by
   intro n_9
   induction n_9 with
   | zero => intro i hn_9; exact absurd hn_9 (Nat.not_lt_zero _)
   | succ n_9 ih7 =>
    intro i hn_9 hi ls hl
    refine lv_iload hx hb dX9_nextEgg_7 (lv_at hl 4 rfl) ?_
    refine lv_bipush (v := nI 6) hx hb dX9_nextEgg_9 (by decide) ?_
    refine lv_icmp_ge (tgt := 82) hx hb dX9_nextEgg_11 (by decide) (fun c11 => ?_) (fun c11 => ?_)
    ·have c11 : 6 ≤ i := (nI_leI (a := 6) (b := i) (by omega) (by omega)).mp c11
     refine lv_iload_n hx hb dX9_nextEgg_82 rfl (lv_at hl 2 rfl) ?_
     exact retSi hx hb hr hlocks (by rw [cnx, show i = 6 by omega]) dX9_nextEgg_83
    ·have c11 : ¬ 6 ≤ i := fun h9 => c11 ((nI_leI (a := 6) (b := i) (by omega) (by omega)).mpr h9)
     have hJ76 : ∀ ls : Array Slot, lv_has ls 9 [(0, .ref oX), (1, .ref oT), (2, .int (fo (nxF (nI 4) (csc fB fW fi (nI 4)) ib) (-1) (i + 1))), (3, .long (bsc (csc fB fW fi (nI 4)) (fo (nxF (nI 4) (csc fB fW fi (nI 4)) ib) (-1) (i + 1)))), (5, .int (nI i))] → W p l e ({ frames := 3, cells := 0, slots := 0, locals := 67 }) s m ([.ref oX, .ref oT] : List Value).toArray below meth c s.heap [] 0 0 (MQ below (vp_Si (fun r => r = (cnx fB fW fi ib (nI 4)))) ([.ref oX, .ref oT] : List Value).toArray s 0 0 noF) (F0 m 76 ls []) := by
      intro  ls hl
      refine lv_iinc (v := nI (i + 1)) (lv' := [(5, .int (nI (i + 1))), (0, .ref oX), (1, .ref oT), (2, .int (fo (nxF (nI 4) (csc fB fW fi (nI 4)) ib) (-1) (i + 1))), (3, .long (bsc (csc fB fW fi (nI 4)) (fo (nxF (nI 4) (csc fB fW fi (nI 4)) ib) (-1) (i + 1))))]) hx hb dX9_nextEgg_76 hl (k := 4) rfl (iinc1 _) (by decide) rfl (fun ls hl => ?_)
      refine lv_goto (tgt := 7) hx hb dX9_nextEgg_79 (by decide) ?_
      exact ih7 (i + 1) (by omega) (by first | assumption | exact Nat.zero_le _ | omega) ls (lv_sub hl [1, 2, 3, 4, 0] rfl)
     refine lv_aload_n hx hb dX9_nextEgg_14 rfl (lv_at hl 1 rfl) ?_
     refine lv_iload hx hb dX9_nextEgg_15 (lv_at hl 4 rfl) ?_
     refine goSi (T := zI (ib.testBit i)) (va_runV (As := [.int (nI i)]) (rest := []) ⟨hx, hb, hml, hown, hts⟩ (k_X8_isInBox l g oT aB aW aS aU aK fi ib sn i (by first | assumption | exact Nat.zero_le _ | omega) (by first | assumption | exact Nat.zero_le _ | omega)) (cwV 1 hts gX9_nextEgg_X8_isInBox rfl rfl rfl ⟨rfl, hdX8_isInBox⟩ ⟨Nat.le_of_ble_eq_true rfl, Nat.le_of_ble_eq_true rfl⟩) (preVS hC (hP.sub [1] rfl) (va_recv hC.1 hP (ci := 8) (q0 := 1) rfl rfl)) rfl rfl hl.1 rfl (lv_room (Nat.le_of_ble_eq_true rfl)) dX9_nextEgg_17 ⟨Nat.le_of_ble_eq_true rfl, Nat.le_of_ble_eq_true rfl⟩) ?_
     refine lv_if_eq (tgt := 76) hx hb dX9_nextEgg_20 (by decide) (fun c20 => ?_) (fun c20 => ?_)
     ·have c20 := zI_f.mp c20
      have hl : lv_has ls 9 [(0, .ref oX), (1, .ref oT), (2, .int (fo (nxF (nI 4) (csc fB fW fi (nI 4)) ib) (-1) (i + 1))), (3, .long (bsc (csc fB fW fi (nI 4)) (fo (nxF (nI 4) (csc fB fW fi (nI 4)) ib) (-1) i))), (5, .int (nI i))] := lv_val hl 2 rfl (congrArg Value.int (show fo (nxF (nI 4) (csc fB fW fi (nI 4)) ib) (-1) i = fo (nxF (nI 4) (csc fB fW fi (nI 4)) ib) (-1) (i + 1) from by rw [fo_s]; exact (nx_0 c20).symm))
      have hl : lv_has ls 9 [(0, .ref oX), (1, .ref oT), (2, .int (fo (nxF (nI 4) (csc fB fW fi (nI 4)) ib) (-1) (i + 1))), (3, .long (bsc (csc fB fW fi (nI 4)) (fo (nxF (nI 4) (csc fB fW fi (nI 4)) ib) (-1) (i + 1)))), (5, .int (nI i))] := lv_val hl 3 rfl (congrArg Value.long (show bsc (csc fB fW fi (nI 4)) (fo (nxF (nI 4) (csc fB fW fi (nI 4)) ib) (-1) i) = bsc (csc fB fW fi (nI 4)) (fo (nxF (nI 4) (csc fB fW fi (nI 4)) ib) (-1) (i + 1)) from by rw [fo_s, nx_0 c20]))
      exact hJ76   ls (lv_sub hl [0, 1, 2, 3, 4] rfl)
     ·have c20 := zI_t.mp c20
      refine lv_aload_n hx hb dX9_nextEgg_23 rfl (lv_at hl 0 rfl) ?_
      refine lv_aload_n hx hb dX9_nextEgg_24 rfl (lv_at hl 1 rfl) ?_
      refine lv_iload hx hb dX9_nextEgg_25 (lv_at hl 4 rfl) ?_
      refine goSl (T := bad (nI 3) (smB fB fW i fi) (smN fW fi)) (va_runU (As := [.ref oT, .int (nI i)]) (rest := []) ⟨hx, hb, hml, hown, hts⟩ (k_X5_score l g oX oT aB aW aS aU aK fi ib sn fB fW i (by first | assumption | exact Nat.zero_le _ | omega) (by first | assumption | exact Nat.zero_le _ | omega) (by first | assumption | exact Nat.zero_le _ | omega)) (va_cwO 2 hts gX9_nextEgg_X5_score_u15X4 rfl rfl rfl ocX9_score (by decide +kernel) ⟨Nat.le_of_ble_eq_true rfl, Nat.le_of_ble_eq_true rfl⟩) (preVS hC (hP.sub [1, 2, 3] rfl) (va_recv hC.1 hP (ci := 4) (q0 := 0) rfl rfl)) rfl rfl hl.1 rfl (lv_room (Nat.le_of_ble_eq_true rfl)) dX9_nextEgg_27 ⟨Nat.le_of_ble_eq_true rfl, Nat.le_of_ble_eq_true rfl⟩) ?_
      refine top_l (y := (csc fB fW fi (nI 4)) i) (rfl) ?_
      refine lv_lstore (lv' := [(6, .long ((csc fB fW fi (nI 4)) i)), (0, .ref oX), (1, .ref oT), (2, .int (fo (nxF (nI 4) (csc fB fW fi (nI 4)) ib) (-1) i)), (3, .long (bsc (csc fB fW fi (nI 4)) (fo (nxF (nI 4) (csc fB fW fi (nI 4)) ib) (-1) i))), (5, .int (nI i))]) hx hb dX9_nextEgg_30 hl (by decide) rfl (fun ls hl => ?_)
      have hJ51 : ∀ ls : Array Slot, lv_has ls 9 [(0, .ref oX), (1, .ref oT), (2, .int (fo (nxF (nI 4) (csc fB fW fi (nI 4)) ib) (-1) i)), (3, .long (bsc (csc fB fW fi (nI 4)) (fo (nxF (nI 4) (csc fB fW fi (nI 4)) ib) (-1) i))), (5, .int (nI i)), (6, .long ((csc fB fW fi (nI 4)) i))] → W p l e ({ frames := 3, cells := 0, slots := 0, locals := 67 }) s m ([.ref oX, .ref oT] : List Value).toArray below meth c s.heap [] 0 0 (MQ below (vp_Si (fun r => r = (cnx fB fW fi ib (nI 4)))) ([.ref oX, .ref oT] : List Value).toArray s 0 0 noF) (F0 m 51 ls [.int (zI (decide ((csc fB fW fi (nI 4)) i = bsc (csc fB fW fi (nI 4)) (fo (nxF (nI 4) (csc fB fW fi (nI 4)) ib) (-1) i))))]) := by
       intro  ls hl
       refine lv_istore (lv' := [(8, .int (zI (decide ((csc fB fW fi (nI 4)) i = bsc (csc fB fW fi (nI 4)) (fo (nxF (nI 4) (csc fB fW fi (nI 4)) ib) (-1) i))))), (0, .ref oX), (1, .ref oT), (2, .int (fo (nxF (nI 4) (csc fB fW fi (nI 4)) ib) (-1) i)), (3, .long (bsc (csc fB fW fi (nI 4)) (fo (nxF (nI 4) (csc fB fW fi (nI 4)) ib) (-1) i))), (5, .int (nI i)), (6, .long ((csc fB fW fi (nI 4)) i))]) hx hb dX9_nextEgg_51 hl (by decide) rfl (fun ls hl => ?_)
       refine lv_iload_n hx hb dX9_nextEgg_53 rfl (lv_at hl 3 rfl) ?_
       refine lv_iconst (v := (-1)) hx hb dX9_nextEgg_54 (by decide) ?_
       refine lv_icmp_eq (tgt := 70) hx hb dX9_nextEgg_55 (by decide) (fun c55 => ?_) (fun c55 => ?_)
       ·refine lv_iload hx hb dX9_nextEgg_70 (lv_at hl 5 rfl) ?_
        refine lv_istore_n (lv' := [(2, .int (nI i)), (8, .int (zI (decide ((csc fB fW fi (nI 4)) i = bsc (csc fB fW fi (nI 4)) (fo (nxF (nI 4) (csc fB fW fi (nI 4)) ib) (-1) i))))), (0, .ref oX), (1, .ref oT), (3, .long (bsc (csc fB fW fi (nI 4)) (fo (nxF (nI 4) (csc fB fW fi (nI 4)) ib) (-1) i))), (5, .int (nI i)), (6, .long ((csc fB fW fi (nI 4)) i))]) hx hb dX9_nextEgg_72 rfl hl (by decide) rfl (fun ls hl => ?_)
        refine lv_lload hx hb dX9_nextEgg_73 (lv_at hl 6 rfl) ?_
        refine lv_lstore_n (lv' := [(3, .long ((csc fB fW fi (nI 4)) i)), (2, .int (nI i)), (8, .int (zI (decide ((csc fB fW fi (nI 4)) i = bsc (csc fB fW fi (nI 4)) (fo (nxF (nI 4) (csc fB fW fi (nI 4)) ib) (-1) i))))), (0, .ref oX), (1, .ref oT), (5, .int (nI i)), (6, .long ((csc fB fW fi (nI 4)) i))]) hx hb dX9_nextEgg_75 rfl hl (by decide) rfl (fun ls hl => ?_)
        have hl : lv_has ls 9 [(3, .long ((csc fB fW fi (nI 4)) i)), (2, .int (fo (nxF (nI 4) (csc fB fW fi (nI 4)) ib) (-1) (i + 1))), (8, .int (zI (decide ((csc fB fW fi (nI 4)) i = bsc (csc fB fW fi (nI 4)) (fo (nxF (nI 4) (csc fB fW fi (nI 4)) ib) (-1) i))))), (0, .ref oX), (1, .ref oT), (5, .int (nI i)), (6, .long ((csc fB fW fi (nI 4)) i))] := lv_val hl 1 rfl (congrArg Value.int (show nI i = fo (nxF (nI 4) (csc fB fW fi (nI 4)) ib) (-1) (i + 1) from by rw [fo_s]; exact (nx_1 c20 c55).symm))
        have hl : lv_has ls 9 [(3, .long (bsc (csc fB fW fi (nI 4)) (fo (nxF (nI 4) (csc fB fW fi (nI 4)) ib) (-1) (i + 1)))), (2, .int (fo (nxF (nI 4) (csc fB fW fi (nI 4)) ib) (-1) (i + 1))), (8, .int (zI (decide ((csc fB fW fi (nI 4)) i = bsc (csc fB fW fi (nI 4)) (fo (nxF (nI 4) (csc fB fW fi (nI 4)) ib) (-1) i))))), (0, .ref oX), (1, .ref oT), (5, .int (nI i)), (6, .long ((csc fB fW fi (nI 4)) i))] := lv_val hl 0 rfl (congrArg Value.long (show (csc fB fW fi (nI 4)) i = bsc (csc fB fW fi (nI 4)) (fo (nxF (nI 4) (csc fB fW fi (nI 4)) ib) (-1) (i + 1)) from by rw [fo_s, nx_1 c20 c55]; exact (bsc_n (by omega)).symm))
        exact hJ76   ls (lv_sub hl [3, 4, 1, 0, 5] rfl)
       ·refine lv_lload hx hb dX9_nextEgg_58 (lv_at hl 6 rfl) ?_
        refine lv_lload_n hx hb dX9_nextEgg_60 rfl (lv_at hl 4 rfl) ?_
        refine lc_lt (tgt := 70) hx hb dX9_nextEgg_61 dX9_nextEgg_62 (by decide) (fun c61 => ?_) (fun c61 => ?_)
        ·refine lv_iload hx hb dX9_nextEgg_70 (lv_at hl 5 rfl) ?_
         refine lv_istore_n (lv' := [(2, .int (nI i)), (8, .int (zI (decide ((csc fB fW fi (nI 4)) i = bsc (csc fB fW fi (nI 4)) (fo (nxF (nI 4) (csc fB fW fi (nI 4)) ib) (-1) i))))), (0, .ref oX), (1, .ref oT), (3, .long (bsc (csc fB fW fi (nI 4)) (fo (nxF (nI 4) (csc fB fW fi (nI 4)) ib) (-1) i))), (5, .int (nI i)), (6, .long ((csc fB fW fi (nI 4)) i))]) hx hb dX9_nextEgg_72 rfl hl (by decide) rfl (fun ls hl => ?_)
         refine lv_lload hx hb dX9_nextEgg_73 (lv_at hl 6 rfl) ?_
         refine lv_lstore_n (lv' := [(3, .long ((csc fB fW fi (nI 4)) i)), (2, .int (nI i)), (8, .int (zI (decide ((csc fB fW fi (nI 4)) i = bsc (csc fB fW fi (nI 4)) (fo (nxF (nI 4) (csc fB fW fi (nI 4)) ib) (-1) i))))), (0, .ref oX), (1, .ref oT), (5, .int (nI i)), (6, .long ((csc fB fW fi (nI 4)) i))]) hx hb dX9_nextEgg_75 rfl hl (by decide) rfl (fun ls hl => ?_)
         have hl : lv_has ls 9 [(3, .long ((csc fB fW fi (nI 4)) i)), (2, .int (fo (nxF (nI 4) (csc fB fW fi (nI 4)) ib) (-1) (i + 1))), (8, .int (zI (decide ((csc fB fW fi (nI 4)) i = bsc (csc fB fW fi (nI 4)) (fo (nxF (nI 4) (csc fB fW fi (nI 4)) ib) (-1) i))))), (0, .ref oX), (1, .ref oT), (5, .int (nI i)), (6, .long ((csc fB fW fi (nI 4)) i))] := lv_val hl 1 rfl (congrArg Value.int (show nI i = fo (nxF (nI 4) (csc fB fW fi (nI 4)) ib) (-1) (i + 1) from by rw [fo_s]; exact (cx_2 c20 c55 c61).symm))
         have hl : lv_has ls 9 [(3, .long (bsc (csc fB fW fi (nI 4)) (fo (nxF (nI 4) (csc fB fW fi (nI 4)) ib) (-1) (i + 1)))), (2, .int (fo (nxF (nI 4) (csc fB fW fi (nI 4)) ib) (-1) (i + 1))), (8, .int (zI (decide ((csc fB fW fi (nI 4)) i = bsc (csc fB fW fi (nI 4)) (fo (nxF (nI 4) (csc fB fW fi (nI 4)) ib) (-1) i))))), (0, .ref oX), (1, .ref oT), (5, .int (nI i)), (6, .long ((csc fB fW fi (nI 4)) i))] := lv_val hl 0 rfl (congrArg Value.long (show (csc fB fW fi (nI 4)) i = bsc (csc fB fW fi (nI 4)) (fo (nxF (nI 4) (csc fB fW fi (nI 4)) ib) (-1) (i + 1)) from by rw [fo_s, cx_2 c20 c55 c61]; exact (bsc_n (by omega)).symm))
         exact hJ76   ls (lv_sub hl [3, 4, 1, 0, 5] rfl)
        ·refine lv_iload hx hb dX9_nextEgg_65 (lv_at hl 0 rfl) ?_
         refine lv_if_eq (tgt := 76) hx hb dX9_nextEgg_67 (by decide) (fun c67 => ?_) (fun c67 => ?_)
         ·have c67 := zI_f.mp c67
          have hl : lv_has ls 9 [(8, .int (zI (decide ((csc fB fW fi (nI 4)) i = bsc (csc fB fW fi (nI 4)) (fo (nxF (nI 4) (csc fB fW fi (nI 4)) ib) (-1) i))))), (0, .ref oX), (1, .ref oT), (2, .int (fo (nxF (nI 4) (csc fB fW fi (nI 4)) ib) (-1) (i + 1))), (3, .long (bsc (csc fB fW fi (nI 4)) (fo (nxF (nI 4) (csc fB fW fi (nI 4)) ib) (-1) i))), (5, .int (nI i)), (6, .long ((csc fB fW fi (nI 4)) i))] := lv_val hl 3 rfl (congrArg Value.int (show fo (nxF (nI 4) (csc fB fW fi (nI 4)) ib) (-1) i = fo (nxF (nI 4) (csc fB fW fi (nI 4)) ib) (-1) (i + 1) from by rw [fo_s]; exact (cx_4 c20 c55 c61 (fun h9 => absurd h9.2 (of_decide_eq_false c67))).symm))
          have hl : lv_has ls 9 [(8, .int (zI (decide ((csc fB fW fi (nI 4)) i = bsc (csc fB fW fi (nI 4)) (fo (nxF (nI 4) (csc fB fW fi (nI 4)) ib) (-1) i))))), (0, .ref oX), (1, .ref oT), (2, .int (fo (nxF (nI 4) (csc fB fW fi (nI 4)) ib) (-1) (i + 1))), (3, .long (bsc (csc fB fW fi (nI 4)) (fo (nxF (nI 4) (csc fB fW fi (nI 4)) ib) (-1) (i + 1)))), (5, .int (nI i)), (6, .long ((csc fB fW fi (nI 4)) i))] := lv_val hl 4 rfl (congrArg Value.long (show bsc (csc fB fW fi (nI 4)) (fo (nxF (nI 4) (csc fB fW fi (nI 4)) ib) (-1) i) = bsc (csc fB fW fi (nI 4)) (fo (nxF (nI 4) (csc fB fW fi (nI 4)) ib) (-1) (i + 1)) from by rw [fo_s, cx_4 c20 c55 c61 (fun h9 => absurd h9.2 (of_decide_eq_false c67))]))
          exact hJ76   ls (lv_sub hl [1, 2, 3, 4, 5] rfl)
         ·have c67 := zI_t.mp c67
          refine lv_iload hx hb dX9_nextEgg_70 (lv_at hl 5 rfl) ?_
          refine lv_istore_n (lv' := [(2, .int (nI i)), (8, .int (zI (decide ((csc fB fW fi (nI 4)) i = bsc (csc fB fW fi (nI 4)) (fo (nxF (nI 4) (csc fB fW fi (nI 4)) ib) (-1) i))))), (0, .ref oX), (1, .ref oT), (3, .long (bsc (csc fB fW fi (nI 4)) (fo (nxF (nI 4) (csc fB fW fi (nI 4)) ib) (-1) i))), (5, .int (nI i)), (6, .long ((csc fB fW fi (nI 4)) i))]) hx hb dX9_nextEgg_72 rfl hl (by decide) rfl (fun ls hl => ?_)
          refine lv_lload hx hb dX9_nextEgg_73 (lv_at hl 6 rfl) ?_
          refine lv_lstore_n (lv' := [(3, .long ((csc fB fW fi (nI 4)) i)), (2, .int (nI i)), (8, .int (zI (decide ((csc fB fW fi (nI 4)) i = bsc (csc fB fW fi (nI 4)) (fo (nxF (nI 4) (csc fB fW fi (nI 4)) ib) (-1) i))))), (0, .ref oX), (1, .ref oT), (5, .int (nI i)), (6, .long ((csc fB fW fi (nI 4)) i))]) hx hb dX9_nextEgg_75 rfl hl (by decide) rfl (fun ls hl => ?_)
          have hl : lv_has ls 9 [(3, .long ((csc fB fW fi (nI 4)) i)), (2, .int (fo (nxF (nI 4) (csc fB fW fi (nI 4)) ib) (-1) (i + 1))), (8, .int (zI (decide ((csc fB fW fi (nI 4)) i = bsc (csc fB fW fi (nI 4)) (fo (nxF (nI 4) (csc fB fW fi (nI 4)) ib) (-1) i))))), (0, .ref oX), (1, .ref oT), (5, .int (nI i)), (6, .long ((csc fB fW fi (nI 4)) i))] := lv_val hl 1 rfl (congrArg Value.int (show nI i = fo (nxF (nI 4) (csc fB fW fi (nI 4)) ib) (-1) (i + 1) from by rw [fo_s]; exact (cx_3 c20 c55 rfl (of_decide_eq_true c67)).symm))
          have hl : lv_has ls 9 [(3, .long (bsc (csc fB fW fi (nI 4)) (fo (nxF (nI 4) (csc fB fW fi (nI 4)) ib) (-1) (i + 1)))), (2, .int (fo (nxF (nI 4) (csc fB fW fi (nI 4)) ib) (-1) (i + 1))), (8, .int (zI (decide ((csc fB fW fi (nI 4)) i = bsc (csc fB fW fi (nI 4)) (fo (nxF (nI 4) (csc fB fW fi (nI 4)) ib) (-1) i))))), (0, .ref oX), (1, .ref oT), (5, .int (nI i)), (6, .long ((csc fB fW fi (nI 4)) i))] := lv_val hl 0 rfl (congrArg Value.long (show (csc fB fW fi (nI 4)) i = bsc (csc fB fW fi (nI 4)) (fo (nxF (nI 4) (csc fB fW fi (nI 4)) ib) (-1) (i + 1)) from by rw [fo_s, cx_3 c20 c55 rfl (of_decide_eq_true c67)]; exact (bsc_n (by omega)).symm))
          exact hJ76   ls (lv_sub hl [3, 4, 1, 0, 5] rfl)
      refine lv_lload hx hb dX9_nextEgg_32 (lv_at hl 0 rfl) ?_
      refine lv_lload_n hx hb dX9_nextEgg_34 rfl (lv_at hl 4 rfl) ?_
      refine lc_ne (tgt := 50) hx hb dX9_nextEgg_35 dX9_nextEgg_36 (by decide) (fun c35 => ?_) (fun c35 => ?_)
      ·refine lv_iconst (v := nI 0) hx hb dX9_nextEgg_50 (by decide) ?_
       refine top_i (y := zI (decide ((csc fB fW fi (nI 4)) i = bsc (csc fB fW fi (nI 4)) (fo (nxF (nI 4) (csc fB fW fi (nI 4)) ib) (-1) i)))) (by first | rfl | exact zI_1 (decide_eq_true c35) | exact zI_0 (decide_eq_false c35)) ?_
       exact hJ51   ls (lv_sub hl [1, 2, 3, 4, 5, 0] rfl)
      ·refine lv_aload_n hx hb dX9_nextEgg_39 rfl (lv_at hl 1 rfl) ?_
       refine goSi (T := zI true) (va_runU (As := []) (rest := []) ⟨hx, hb, hml, hown, hts⟩ (k_X4_takesLast l g oX ) (va_cwO 0 hts gX9_nextEgg_X4_takesLast_u21X4 rfl rfl rfl ocX9_takesLast (by decide +kernel) ⟨Nat.le_of_ble_eq_true rfl, Nat.le_of_ble_eq_true rfl⟩) (preVS hC (hP.sub [] rfl) (va_recv hC.1 hP (ci := 4) (q0 := 0) rfl rfl)) rfl rfl hl.1 rfl (lv_room (Nat.le_of_ble_eq_true rfl)) dX9_nextEgg_40 ⟨Nat.le_of_ble_eq_true rfl, Nat.le_of_ble_eq_true rfl⟩) ?_
       refine lv_if_eq (tgt := 50) hx hb dX9_nextEgg_43 (by decide) (fun hz => absurd hz (by decide)) (fun _ => ?_)
       refine lv_iconst (v := nI 1) hx hb dX9_nextEgg_46 (by decide) ?_
       refine lv_goto (tgt := 51) hx hb dX9_nextEgg_47 (by decide) ?_
       refine top_i (y := zI (decide ((csc fB fW fi (nI 4)) i = bsc (csc fB fW fi (nI 4)) (fo (nxF (nI 4) (csc fB fW fi (nI 4)) ib) (-1) i)))) (by first | rfl | exact zI_1 (decide_eq_true c35) | exact zI_0 (decide_eq_false c35)) ?_
       exact hJ51   ls (lv_sub hl [1, 2, 3, 4, 5, 0] rfl)
  exact hL7 _ 0 (Nat.lt_succ_self _) (by first | assumption | exact Nat.zero_le _ | omega) ls (lv_sub hl [3, 4, 2, 1, 0] rfl)
