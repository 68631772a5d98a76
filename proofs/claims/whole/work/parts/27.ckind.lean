/-! triers, by kind -/
def kc (k : Nat) : Nat := if k = 0 then 9 else if k = 1 then 2 else if k = 2 then 0 else if k = 3 then 5 else 4
theorem plP {D : va_G} {cl : List vw_C} {X pl : va_W} {H : Heap} {q : Nat × va_E} (hP : va_P D cl (X ++ pl) H) (hm : q ∈ pl) : va_P D cl [q] H := by
  obtain ⟨i, hi⟩ := List.getElem?_of_mem hm
  intro k q2 hk
  have h0 : k = 0 := by
    rcases Nat.eq_zero_or_pos k with h | h
    · exact h
    · rw [List.getElem?_eq_none (by show 1 ≤ k; omega)] at hk; cases hk
  subst h0
  cases hk
  exact hP (X.length + i) q (by rw [List.getElem?_append_right (by omega), show X.length + i - X.length = i by omega]; exact hi)
def abC (fB fW : Nat → Nat) (fi ib : Nat) (k q : Int32) : Int32 := if wth q (nI 0) (nI 1) then (if q = 0 then k else cnx fB fW fi ib k) else -102
def asC (k : Nat) (x a : Int32) : Int32 := if wth a (nI 0) (nI 4) then (if asK (nI k) a then x else -1) else -102
set_option maxHeartbeats 4000000 in
set_option maxRecDepth 100000 in
/-- BoiledEggs.trierOf  -/
theorem k_X10_trierOf_n (l : Launch) (g : GG) (oM : Nat) (oP : Nat) (oH : Nat) (oT : Nat) (oK : Nat) (oR : Nat) (oD : Nat) (aT : Nat) (tC : Nat) (tK : Nat) (iK : Int32) (kR : Nat) (bD : Nat) (xt : Int32) (hT : tC ≤ 4) (hzz : isE tC xt = false) : Met l yX10_trierOf wsX10_trierOf ({ frames := 0, cells := 0, slots := 0, locals := 0 }) (pS g [.ref oM, .int xt] [(oM, .inr (10, [.ref oP, .ref oH, .ref oT, .ref oK, .ref oR, .ref oD, .ref aT, .int (nI tC), .int (nI tK), .int iK, .int (nI kR), .int (nI bD)]))]) (va_Sq (fun r => r = none)) 0 0 noF := by
  refine metS (cc := cX10_trierOf) (maxL := 2) (ret := (some (.object "BoiledEggs$Trier"))) (by decide) rfl (Nat.le_of_ble_eq_true rfl) ?_
  intro p e s m below meth c hx hb hr hts hown hlocks hml hC hP ls hl
  have hl : lv_has ls 2 [(0, .ref oM), (1, .int xt)] := hl
  have hown : s.vm.findClass RX10 = some m.cls := hown
  have hts : ∀ w ∈ wsX10_trierOf, w.before ([.ref oM, .int xt] : List Value).toArray s = true := hts
  have hinX10 := (by decide +kernel : ∀ w ∈ u_ws RX10 TX10 12, w ∈ wsX10_trierOf)
  have f79 := hts (.fieldLink RX10 79 "BoiledEggs" "trierCount" "I") (by decide +kernel)
  refine lv_iload_n hx hb dX10_trierOf_0 rfl (lv_at hl 1 rfl) ?_
  refine lv_if_lt (tgt := 21) hx hb dX10_trierOf_1 (by decide) (fun c1 => ?_) (fun c1 => ?_)
  ·refine lv_null hx hb dX10_trierOf_21 ?_
   exact retSq (v := none) hx hb hr hlocks (rfl) dX10_trierOf_22
  ·refine lv_iload_n hx hb dX10_trierOf_4 rfl (lv_at hl 1 rfl) ?_
   refine lv_aload_n hx hb dX10_trierOf_5 rfl (lv_at hl 0 rfl) ?_
   refine va_get (D := g.1) (ci := 10) (v := .int (nI tC)) (C := RX10) (T := TX10) (N := 12) hx hb hts hinX10 hown hC.1 hP 0 rfl rfl 7 (by decide) f79 (fun _ h9 => h9) rfl dX10_trierOf_6 ?_
   refine lv_icmp_ge (tgt := 21) hx hb dX10_trierOf_9 (by decide) (fun _ => ?_) (fun hz => absurd ((n_le (by omega)).mpr (by have h1 := of_decide_eq_false hzz; have h2 := z_nlt c1; omega)) hz)
   refine lv_null hx hb dX10_trierOf_21 ?_
   exact retSq (v := none) hx hb hr hlocks (rfl) dX10_trierOf_22

set_option maxHeartbeats 4000000 in
set_option maxRecDepth 100000 in
/-- BoiledEggs.trierOf  -/
theorem k_X10_trierOf_s (l : Launch) (g : GG) (oM : Nat) (oP : Nat) (oH : Nat) (oT : Nat) (oK : Nat) (oR : Nat) (oD : Nat) (aT : Nat) (tC : Nat) (tK : Nat) (iK : Int32) (kR : Nat) (bD : Nat) (tr : Nat → Option Nat) (xt : Nat) (hT : tC ≤ 4) (hx0 : xt < tC) : Met l yX10_trierOf wsX10_trierOf ({ frames := 0, cells := 0, slots := 0, locals := 0 }) (pS g [.ref oM, .int (nI xt)] [(oM, .inr (10, [.ref oP, .ref oH, .ref oT, .ref oK, .ref oR, .ref oD, .ref aT, .int (nI tC), .int (nI tK), .int iK, .int (nI kR), .int (nI bD)])), (aT, .inl (g.2.2.2.2, 4, .inr (.inr (.inr (.inr tr)))))]) (va_Sq (fun r => r = (tr xt))) 0 0 noF := by
  refine metS (cc := cX10_trierOf) (maxL := 2) (ret := (some (.object "BoiledEggs$Trier"))) (by decide) rfl (Nat.le_of_ble_eq_true rfl) ?_
  intro p e s m below meth c hx hb hr hts hown hlocks hml hC hP ls hl
  have hl : lv_has ls 2 [(0, .ref oM), (1, .int (nI xt))] := hl
  have hown : s.vm.findClass RX10 = some m.cls := hown
  have hts : ∀ w ∈ wsX10_trierOf, w.before ([.ref oM, .int (nI xt)] : List Value).toArray s = true := hts
  have hinX10 := (by decide +kernel : ∀ w ∈ u_ws RX10 TX10 12, w ∈ wsX10_trierOf)
  have f79 := hts (.fieldLink RX10 79 "BoiledEggs" "trierCount" "I") (by decide +kernel)
  have f49 := hts (.fieldLink RX10 49 "BoiledEggs" "triers" "[LBoiledEggs$Trier;") (by decide +kernel)
  refine lv_iload_n hx hb dX10_trierOf_0 rfl (lv_at hl 1 rfl) ?_
  refine lv_if_lt (tgt := 21) hx hb dX10_trierOf_1 (by decide) (fun hz => absurd hz (nI_pos (by omega))) (fun _ => ?_)
  refine lv_iload_n hx hb dX10_trierOf_4 rfl (lv_at hl 1 rfl) ?_
  refine lv_aload_n hx hb dX10_trierOf_5 rfl (lv_at hl 0 rfl) ?_
  refine va_get (D := g.1) (ci := 10) (v := .int (nI tC)) (C := RX10) (T := TX10) (N := 12) hx hb hts hinX10 hown hC.1 hP 0 rfl rfl 7 (by decide) f79 (fun _ h9 => h9) rfl dX10_trierOf_6 ?_
  refine lv_icmp_ge (tgt := 21) hx hb dX10_trierOf_9 (by decide) (fun hz => absurd hz (nI_ge hx0 (by omega))) (fun _ => ?_)
  refine lv_aload_n hx hb dX10_trierOf_12 rfl (lv_at hl 0 rfl) ?_
  refine va_get (D := g.1) (ci := 10) (v := .ref aT) (C := RX10) (T := TX10) (N := 12) hx hb hts hinX10 hown hC.1 hP 0 rfl rfl 6 (by decide) f49 (fun _ h9 => h9) rfl dX10_trierOf_13 ?_
  refine lv_iload_n hx hb dX10_trierOf_16 rfl (lv_at hl 1 rfl) ?_
  refine ald_q (f := tr) (j := xt) hx hb hC hP 1 rfl (by omega) (by decide) dX10_trierOf_17 ?_
  refine lv_goto (tgt := 22) hx hb dX10_trierOf_18 (by decide) ?_
  exact retSq (v := tr xt) hx hb hr hlocks (rfl) dX10_trierOf_22

set_option maxHeartbeats 4000000 in
set_option maxRecDepth 100000 in
/-- BoiledEggs.newTrier  -/
theorem k_X10_newTrier_0 (l : Launch) (g : GG) (sz : Nat)   : Met l yX10_newTrier wsX10_newTrier ({ frames := 4, cells := 1, slots := 0, locals := 120 }) (pM g sz [.int (nI 0)] []) (qMr g (fun (_ : Unit) => True) (fun (_ : Unit) (ra : Nat) => [(ra, .inr (9, []))]) (va_A [] sz)) 1 0 (va_A [] sz) := by
  refine metM (Qf := fun A => (qMr g (fun (_ : Unit) => True) (fun (_ : Unit) (ra : Nat) => [(ra, .inr (9, []))]) A)) (cc := cX10_newTrier) (maxL := 1) (ret := (some (.object "BoiledEggs$Trier"))) (by decide) rfl (Nat.le_of_ble_eq_true rfl) ?_
  intro p e s m below meth c hx hb hr hts hown hlocks hml hin0 hC A hA hP hD hS ls hl
  have hl : lv_has ls 1 [(0, .int (nI 0))] := hl
  have hown : s.vm.findClass RX10 = some m.cls := hown
  have hts : ∀ w ∈ wsX10_newTrier, w.before ([.int (nI 0)] : List Value).toArray s = true := hts
  have hinX9 := (by decide +kernel : ∀ w ∈ u_ws RX9 TX9 0, w ∈ wsX10_newTrier)
  have cl47 := hts (.classLink RX10 47 RX9) (by decide +kernel)
  have insX9 := hts (.instantiable RX9 0) (by decide +kernel)
  have iniX9 := hts (.initialized RX9) (by decide +kernel)
  have im330 := hts (.instanceMethod yX9_init) (by decide +kernel)
  refine lv_iload_n hx hb dX10_newTrier_0 rfl (lv_at hl 0 rfl) ?_
  refine lv_tableOut (tgt := 64) hx hb dX10_newTrier_1 (by decide) (by decide) ?_
  refine va_new (D := g.1) (ci := 9) (fs := []) (C := RX9) (T := TX9) (N := 0) hx hb hts hinX9 tyX9 tyX9_ok hown cl47 insX9 iniX9 hC.1 hP hD hS hA rfl (fun j hj => absurd hj (Nat.not_lt_zero _)) (Nat.le_of_ble_eq_true rfl) (Nat.le_of_ble_eq_true rfl) dX10_newTrier_64 (fun q_1 H hP hD hS => ?_)
  have hP : va_P g.1 vwCl [(q_1, .inr (9, []))] H := hP
  have hD : va_D A [(q_1, .inr (9, []))] := hD
  refine W.widen (k := 1) (n := 0) (Nat.le_of_ble_eq_true rfl) (Nat.le_of_ble_eq_true rfl) ?_
  refine lv_dup hx hb dX10_newTrier_67 rfl ?_
  refine goMv (S := Unit) (wr := [(q_1, .inr (9, []))]) (va_runIN (As := []) (rest := [.ref q_1]) ⟨hx, hb, hml, hown, hts⟩ (k_X9_init l g _ q_1 ) ⟨va_cnB 0 hts gX10_newTrier_X9_init_n330 rfl rfl rfl (hC.2.1 (.methodLinkNest RX10 330 yX9_init "BoiledEggs") (by decide +kernel)) iniX9 hdX9_init ⟨Nat.le_of_ble_eq_true rfl, Nat.le_of_ble_eq_true rfl⟩, rfl, im330⟩ (preSM hC (hP.sub [] rfl) (hD.sub [] (by decide) rfl)) rfl rfl hl.1 rfl (lv_room (Nat.le_of_ble_eq_true rfl)) dX10_newTrier_68 ⟨Nat.le_of_ble_eq_true rfl, Nat.le_of_ble_eq_true rfl⟩) hP hD hS hA [] [0] rfl rfl (by decide) (by decide) (fun _ H locs hw_9 hP hD hS => ?_)
  have hP : va_P g.1 vwCl [(q_1, .inr (9, []))] H := hP
  have hD : va_D A [(q_1, .inr (9, []))] := hD
  refine W.widen (k := 1) (n := 0) (Nat.le_of_ble_eq_true rfl) (Nat.le_of_ble_eq_true rfl) ?_
  exact retMr (w := [(q_1, .inr (9, []))]) (a := q_1) hx hb hr hlocks (hP.sub [0] rfl) (hD.sub [0] (by decide) rfl) hS () (rfl) (trivial) dX10_newTrier_71

set_option maxHeartbeats 4000000 in
set_option maxRecDepth 100000 in
/-- BoiledEggs.newTrier  -/
theorem k_X10_newTrier_1 (l : Launch) (g : GG) (sz : Nat)   : Met l yX10_newTrier wsX10_newTrier ({ frames := 4, cells := 1, slots := 0, locals := 120 }) (pM g sz [.int (nI 1)] []) (qMr g (fun (_ : Unit) => True) (fun (_ : Unit) (ra : Nat) => [(ra, .inr (2, []))]) (va_A [] sz)) 1 0 (va_A [] sz) := by
  refine metM (Qf := fun A => (qMr g (fun (_ : Unit) => True) (fun (_ : Unit) (ra : Nat) => [(ra, .inr (2, []))]) A)) (cc := cX10_newTrier) (maxL := 1) (ret := (some (.object "BoiledEggs$Trier"))) (by decide) rfl (Nat.le_of_ble_eq_true rfl) ?_
  intro p e s m below meth c hx hb hr hts hown hlocks hml hin0 hC A hA hP hD hS ls hl
  have hl : lv_has ls 1 [(0, .int (nI 1))] := hl
  have hown : s.vm.findClass RX10 = some m.cls := hown
  have hts : ∀ w ∈ wsX10_newTrier, w.before ([.int (nI 1)] : List Value).toArray s = true := hts
  have hinX2 := (by decide +kernel : ∀ w ∈ u_ws RX2 TX2 0, w ∈ wsX10_newTrier)
  have cl318 := hts (.classLink RX10 318 "BoiledEggs$Doubter") (by decide +kernel)
  have insX2 := hts (.instantiable RX2 0) (by decide +kernel)
  have iniX2 := hts (.initialized RX2) (by decide +kernel)
  have im320 := hts (.instanceMethod yX2_init) (by decide +kernel)
  refine lv_iload_n hx hb dX10_newTrier_0 rfl (lv_at hl 0 rfl) ?_
  refine lv_tableIn (off := 31) (tgt := 32) hx hb dX10_newTrier_1 (by decide) (by decide) (by decide) (by decide) ?_
  refine va_new (D := g.1) (ci := 2) (fs := []) (C := RX2) (T := TX2) (N := 0) hx hb hts hinX2 tyX2 tyX2_ok hown cl318 insX2 iniX2 hC.1 hP hD hS hA rfl (fun j hj => absurd hj (Nat.not_lt_zero _)) (Nat.le_of_ble_eq_true rfl) (Nat.le_of_ble_eq_true rfl) dX10_newTrier_32 (fun q_1 H hP hD hS => ?_)
  have hP : va_P g.1 vwCl [(q_1, .inr (2, []))] H := hP
  have hD : va_D A [(q_1, .inr (2, []))] := hD
  refine W.widen (k := 1) (n := 0) (Nat.le_of_ble_eq_true rfl) (Nat.le_of_ble_eq_true rfl) ?_
  refine lv_dup hx hb dX10_newTrier_35 rfl ?_
  refine goMv (S := Unit) (wr := [(q_1, .inr (2, []))]) (va_runIN (As := []) (rest := [.ref q_1]) ⟨hx, hb, hml, hown, hts⟩ (k_X2_init l g _ q_1 ) ⟨va_cnB 0 hts gX10_newTrier_X2_init_n320 rfl rfl rfl (hC.2.1 (.methodLinkNest RX10 320 yX2_init "BoiledEggs") (by decide +kernel)) iniX2 hdX2_init ⟨Nat.le_of_ble_eq_true rfl, Nat.le_of_ble_eq_true rfl⟩, rfl, im320⟩ (preSM hC (hP.sub [] rfl) (hD.sub [] (by decide) rfl)) rfl rfl hl.1 rfl (lv_room (Nat.le_of_ble_eq_true rfl)) dX10_newTrier_36 ⟨Nat.le_of_ble_eq_true rfl, Nat.le_of_ble_eq_true rfl⟩) hP hD hS hA [] [0] rfl rfl (by decide) (by decide) (fun _ H locs hw_9 hP hD hS => ?_)
  have hP : va_P g.1 vwCl [(q_1, .inr (2, []))] H := hP
  have hD : va_D A [(q_1, .inr (2, []))] := hD
  refine W.widen (k := 1) (n := 0) (Nat.le_of_ble_eq_true rfl) (Nat.le_of_ble_eq_true rfl) ?_
  exact retMr (w := [(q_1, .inr (2, []))]) (a := q_1) hx hb hr hlocks (hP.sub [0] rfl) (hD.sub [0] (by decide) rfl) hS () (rfl) (trivial) dX10_newTrier_39

set_option maxHeartbeats 4000000 in
set_option maxRecDepth 100000 in
/-- BoiledEggs.newTrier  -/
theorem k_X10_newTrier_2 (l : Launch) (g : GG) (sz : Nat)   : Met l yX10_newTrier wsX10_newTrier ({ frames := 4, cells := 1, slots := 0, locals := 120 }) (pM g sz [.int (nI 2)] []) (qMr g (fun (_ : Unit) => True) (fun (_ : Unit) (ra : Nat) => [(ra, .inr (0, []))]) (va_A [] sz)) 1 0 (va_A [] sz) := by
  refine metM (Qf := fun A => (qMr g (fun (_ : Unit) => True) (fun (_ : Unit) (ra : Nat) => [(ra, .inr (0, []))]) A)) (cc := cX10_newTrier) (maxL := 1) (ret := (some (.object "BoiledEggs$Trier"))) (by decide) rfl (Nat.le_of_ble_eq_true rfl) ?_
  intro p e s m below meth c hx hb hr hts hown hlocks hml hin0 hC A hA hP hD hS ls hl
  have hl : lv_has ls 1 [(0, .int (nI 2))] := hl
  have hown : s.vm.findClass RX10 = some m.cls := hown
  have hts : ∀ w ∈ wsX10_newTrier, w.before ([.int (nI 2)] : List Value).toArray s = true := hts
  have hinX0 := (by decide +kernel : ∀ w ∈ u_ws RX0 TX0 0, w ∈ wsX10_newTrier)
  have cl321 := hts (.classLink RX10 321 "BoiledEggs$Bold") (by decide +kernel)
  have insX0 := hts (.instantiable RX0 0) (by decide +kernel)
  have iniX0 := hts (.initialized RX0) (by decide +kernel)
  have im323 := hts (.instanceMethod yX0_init) (by decide +kernel)
  refine lv_iload_n hx hb dX10_newTrier_0 rfl (lv_at hl 0 rfl) ?_
  refine lv_tableIn (off := 39) (tgt := 40) hx hb dX10_newTrier_1 (by decide) (by decide) (by decide) (by decide) ?_
  refine va_new (D := g.1) (ci := 0) (fs := []) (C := RX0) (T := TX0) (N := 0) hx hb hts hinX0 tyX0 tyX0_ok hown cl321 insX0 iniX0 hC.1 hP hD hS hA rfl (fun j hj => absurd hj (Nat.not_lt_zero _)) (Nat.le_of_ble_eq_true rfl) (Nat.le_of_ble_eq_true rfl) dX10_newTrier_40 (fun q_1 H hP hD hS => ?_)
  have hP : va_P g.1 vwCl [(q_1, .inr (0, []))] H := hP
  have hD : va_D A [(q_1, .inr (0, []))] := hD
  refine W.widen (k := 1) (n := 0) (Nat.le_of_ble_eq_true rfl) (Nat.le_of_ble_eq_true rfl) ?_
  refine lv_dup hx hb dX10_newTrier_43 rfl ?_
  refine goMv (S := Unit) (wr := [(q_1, .inr (0, []))]) (va_runIN (As := []) (rest := [.ref q_1]) ⟨hx, hb, hml, hown, hts⟩ (k_X0_init l g _ q_1 ) ⟨va_cnB 0 hts gX10_newTrier_X0_init_n323 rfl rfl rfl (hC.2.1 (.methodLinkNest RX10 323 yX0_init "BoiledEggs") (by decide +kernel)) iniX0 hdX0_init ⟨Nat.le_of_ble_eq_true rfl, Nat.le_of_ble_eq_true rfl⟩, rfl, im323⟩ (preSM hC (hP.sub [] rfl) (hD.sub [] (by decide) rfl)) rfl rfl hl.1 rfl (lv_room (Nat.le_of_ble_eq_true rfl)) dX10_newTrier_44 ⟨Nat.le_of_ble_eq_true rfl, Nat.le_of_ble_eq_true rfl⟩) hP hD hS hA [] [0] rfl rfl (by decide) (by decide) (fun _ H locs hw_9 hP hD hS => ?_)
  have hP : va_P g.1 vwCl [(q_1, .inr (0, []))] H := hP
  have hD : va_D A [(q_1, .inr (0, []))] := hD
  refine W.widen (k := 1) (n := 0) (Nat.le_of_ble_eq_true rfl) (Nat.le_of_ble_eq_true rfl) ?_
  exact retMr (w := [(q_1, .inr (0, []))]) (a := q_1) hx hb hr hlocks (hP.sub [0] rfl) (hD.sub [0] (by decide) rfl) hS () (rfl) (trivial) dX10_newTrier_47

set_option maxHeartbeats 4000000 in
set_option maxRecDepth 100000 in
/-- BoiledEggs.newTrier  -/
theorem k_X10_newTrier_3 (l : Launch) (g : GG) (sz : Nat)   : Met l yX10_newTrier wsX10_newTrier ({ frames := 4, cells := 1, slots := 0, locals := 120 }) (pM g sz [.int (nI 3)] []) (qMr g (fun (_ : Unit) => True) (fun (_ : Unit) (ra : Nat) => [(ra, .inr (5, []))]) (va_A [] sz)) 1 0 (va_A [] sz) := by
  refine metM (Qf := fun A => (qMr g (fun (_ : Unit) => True) (fun (_ : Unit) (ra : Nat) => [(ra, .inr (5, []))]) A)) (cc := cX10_newTrier) (maxL := 1) (ret := (some (.object "BoiledEggs$Trier"))) (by decide) rfl (Nat.le_of_ble_eq_true rfl) ?_
  intro p e s m below meth c hx hb hr hts hown hlocks hml hin0 hC A hA hP hD hS ls hl
  have hl : lv_has ls 1 [(0, .int (nI 3))] := hl
  have hown : s.vm.findClass RX10 = some m.cls := hown
  have hts : ∀ w ∈ wsX10_newTrier, w.before ([.int (nI 3)] : List Value).toArray s = true := hts
  have hinX5 := (by decide +kernel : ∀ w ∈ u_ws RX5 TX5 0, w ∈ wsX10_newTrier)
  have cl324 := hts (.classLink RX10 324 "BoiledEggs$Hungry") (by decide +kernel)
  have insX5 := hts (.instantiable RX5 0) (by decide +kernel)
  have iniX5 := hts (.initialized RX5) (by decide +kernel)
  have im326 := hts (.instanceMethod yX5_init) (by decide +kernel)
  refine lv_iload_n hx hb dX10_newTrier_0 rfl (lv_at hl 0 rfl) ?_
  refine lv_tableIn (off := 47) (tgt := 48) hx hb dX10_newTrier_1 (by decide) (by decide) (by decide) (by decide) ?_
  refine va_new (D := g.1) (ci := 5) (fs := []) (C := RX5) (T := TX5) (N := 0) hx hb hts hinX5 tyX5 tyX5_ok hown cl324 insX5 iniX5 hC.1 hP hD hS hA rfl (fun j hj => absurd hj (Nat.not_lt_zero _)) (Nat.le_of_ble_eq_true rfl) (Nat.le_of_ble_eq_true rfl) dX10_newTrier_48 (fun q_1 H hP hD hS => ?_)
  have hP : va_P g.1 vwCl [(q_1, .inr (5, []))] H := hP
  have hD : va_D A [(q_1, .inr (5, []))] := hD
  refine W.widen (k := 1) (n := 0) (Nat.le_of_ble_eq_true rfl) (Nat.le_of_ble_eq_true rfl) ?_
  refine lv_dup hx hb dX10_newTrier_51 rfl ?_
  refine goMv (S := Unit) (wr := [(q_1, .inr (5, []))]) (va_runIN (As := []) (rest := [.ref q_1]) ⟨hx, hb, hml, hown, hts⟩ (k_X5_init l g _ q_1 ) ⟨va_cnB 0 hts gX10_newTrier_X5_init_n326 rfl rfl rfl (hC.2.1 (.methodLinkNest RX10 326 yX5_init "BoiledEggs") (by decide +kernel)) iniX5 hdX5_init ⟨Nat.le_of_ble_eq_true rfl, Nat.le_of_ble_eq_true rfl⟩, rfl, im326⟩ (preSM hC (hP.sub [] rfl) (hD.sub [] (by decide) rfl)) rfl rfl hl.1 rfl (lv_room (Nat.le_of_ble_eq_true rfl)) dX10_newTrier_52 ⟨Nat.le_of_ble_eq_true rfl, Nat.le_of_ble_eq_true rfl⟩) hP hD hS hA [] [0] rfl rfl (by decide) (by decide) (fun _ H locs hw_9 hP hD hS => ?_)
  have hP : va_P g.1 vwCl [(q_1, .inr (5, []))] H := hP
  have hD : va_D A [(q_1, .inr (5, []))] := hD
  refine W.widen (k := 1) (n := 0) (Nat.le_of_ble_eq_true rfl) (Nat.le_of_ble_eq_true rfl) ?_
  exact retMr (w := [(q_1, .inr (5, []))]) (a := q_1) hx hb hr hlocks (hP.sub [0] rfl) (hD.sub [0] (by decide) rfl) hS () (rfl) (trivial) dX10_newTrier_55

set_option maxHeartbeats 4000000 in
set_option maxRecDepth 100000 in
/-- BoiledEggs.newTrier  -/
theorem k_X10_newTrier_4 (l : Launch) (g : GG) (sz : Nat)   : Met l yX10_newTrier wsX10_newTrier ({ frames := 4, cells := 1, slots := 0, locals := 120 }) (pM g sz [.int (nI 4)] []) (qMr g (fun (_ : Unit) => True) (fun (_ : Unit) (ra : Nat) => [(ra, .inr (4, []))]) (va_A [] sz)) 1 0 (va_A [] sz) := by
  refine metM (Qf := fun A => (qMr g (fun (_ : Unit) => True) (fun (_ : Unit) (ra : Nat) => [(ra, .inr (4, []))]) A)) (cc := cX10_newTrier) (maxL := 1) (ret := (some (.object "BoiledEggs$Trier"))) (by decide) rfl (Nat.le_of_ble_eq_true rfl) ?_
  intro p e s m below meth c hx hb hr hts hown hlocks hml hin0 hC A hA hP hD hS ls hl
  have hl : lv_has ls 1 [(0, .int (nI 4))] := hl
  have hown : s.vm.findClass RX10 = some m.cls := hown
  have hts : ∀ w ∈ wsX10_newTrier, w.before ([.int (nI 4)] : List Value).toArray s = true := hts
  have hinX4 := (by decide +kernel : ∀ w ∈ u_ws RX4 TX4 0, w ∈ wsX10_newTrier)
  have cl327 := hts (.classLink RX10 327 "BoiledEggs$Greedy") (by decide +kernel)
  have insX4 := hts (.instantiable RX4 0) (by decide +kernel)
  have iniX4 := hts (.initialized RX4) (by decide +kernel)
  have im329 := hts (.instanceMethod yX4_init) (by decide +kernel)
  refine lv_iload_n hx hb dX10_newTrier_0 rfl (lv_at hl 0 rfl) ?_
  refine lv_tableIn (off := 55) (tgt := 56) hx hb dX10_newTrier_1 (by decide) (by decide) (by decide) (by decide) ?_
  refine va_new (D := g.1) (ci := 4) (fs := []) (C := RX4) (T := TX4) (N := 0) hx hb hts hinX4 tyX4 tyX4_ok hown cl327 insX4 iniX4 hC.1 hP hD hS hA rfl (fun j hj => absurd hj (Nat.not_lt_zero _)) (Nat.le_of_ble_eq_true rfl) (Nat.le_of_ble_eq_true rfl) dX10_newTrier_56 (fun q_1 H hP hD hS => ?_)
  have hP : va_P g.1 vwCl [(q_1, .inr (4, []))] H := hP
  have hD : va_D A [(q_1, .inr (4, []))] := hD
  refine W.widen (k := 1) (n := 0) (Nat.le_of_ble_eq_true rfl) (Nat.le_of_ble_eq_true rfl) ?_
  refine lv_dup hx hb dX10_newTrier_59 rfl ?_
  refine goMv (S := Unit) (wr := [(q_1, .inr (4, []))]) (va_runIN (As := []) (rest := [.ref q_1]) ⟨hx, hb, hml, hown, hts⟩ (k_X4_init l g _ q_1 ) ⟨va_cnB 0 hts gX10_newTrier_X4_init_n329 rfl rfl rfl (hC.2.1 (.methodLinkNest RX10 329 yX4_init "BoiledEggs") (by decide +kernel)) iniX4 hdX4_init ⟨Nat.le_of_ble_eq_true rfl, Nat.le_of_ble_eq_true rfl⟩, rfl, im329⟩ (preSM hC (hP.sub [] rfl) (hD.sub [] (by decide) rfl)) rfl rfl hl.1 rfl (lv_room (Nat.le_of_ble_eq_true rfl)) dX10_newTrier_60 ⟨Nat.le_of_ble_eq_true rfl, Nat.le_of_ble_eq_true rfl⟩) hP hD hS hA [] [0] rfl rfl (by decide) (by decide) (fun _ H locs hw_9 hP hD hS => ?_)
  have hP : va_P g.1 vwCl [(q_1, .inr (4, []))] H := hP
  have hD : va_D A [(q_1, .inr (4, []))] := hD
  refine W.widen (k := 1) (n := 0) (Nat.le_of_ble_eq_true rfl) (Nat.le_of_ble_eq_true rfl) ?_
  exact retMr (w := [(q_1, .inr (4, []))]) (a := q_1) hx hb hr hlocks (hP.sub [0] rfl) (hD.sub [0] (by decide) rfl) hS () (rfl) (trivial) dX10_newTrier_63

set_option maxHeartbeats 4000000 in
set_option maxRecDepth 100000 in
/-- BoiledEggs.isOfKind  -/
theorem k_X10_isOfKind_0 (l : Launch) (g : GG) (oX : Nat) (xk : Nat) (hk0 : xk < 5) : Met l yX10_isOfKind wsX10_isOfKind ({ frames := 0, cells := 0, slots := 0, locals := 0 }) (pS g [.ref oX, .int (nI xk)] [(oX, .inr (9, []))]) (vp_Si (fun r => r = (zI (asK (nI 0) (nI xk))))) 0 0 noF := by
  refine metS (cc := cX10_isOfKind) (maxL := 2) (ret := (some .boolean)) (by decide) rfl (Nat.le_of_ble_eq_true rfl) ?_
  intro p e s m below meth c hx hb hr hts hown hlocks hml hC hP ls hl
  have hl : lv_has ls 2 [(0, .ref oX), (1, .int (nI xk))] := hl
  have hown : s.vm.findClass RX10 = some m.cls := hown
  have hts : ∀ w ∈ wsX10_isOfKind, w.before ([.ref oX, .int (nI xk)] : List Value).toArray s = true := hts
  have cl318 := hts (.classLink RX10 318 "BoiledEggs$Doubter") (by decide +kernel)
  have cl321 := hts (.classLink RX10 321 "BoiledEggs$Bold") (by decide +kernel)
  have cl324 := hts (.classLink RX10 324 "BoiledEggs$Hungry") (by decide +kernel)
  have cl327 := hts (.classLink RX10 327 "BoiledEggs$Greedy") (by decide +kernel)
  refine lv_iload_n hx hb dX10_isOfKind_0 rfl (lv_at hl 1 rfl) ?_
  rcases sw_cases (nI xk) 5 (by decide) with ⟨k9, hk9, c1⟩ | c1
  ·have hk9 : k9 = 0 ∨ k9 = 1 ∨ k9 = 2 ∨ k9 = 3 ∨ k9 = 4 := by omega
   rcases hk9 with rfl | rfl | rfl | rfl | rfl
   ·obtain rfl : xk = 0 := (nI_eq (by omega) (by decide)).mp c1
    refine lv_tableOut (tgt := 52) hx hb dX10_isOfKind_1 (by decide) (by decide) ?_
    refine lv_iconst (v := nI 1) hx hb dX10_isOfKind_52 (by decide) ?_
    exact retSz hx hb hr hlocks (by decide) (by first | decide | exact absurd c1 (by rw [nI_toInt (by omega)]; omega)) dX10_isOfKind_53
   ·obtain rfl : xk = 1 := (nI_eq (by omega) (by decide)).mp c1
    refine lv_tableIn (off := 31) (tgt := 32) hx hb dX10_isOfKind_1 (by decide) (by decide) (by decide) (by decide) ?_
    refine lv_aload_n hx hb dX10_isOfKind_32 rfl (lv_at hl 0 rfl) ?_
    refine va_instNo hx hb hown cl318 (hC.2.2.1 ("BoiledEggs$Trier", "BoiledEggs$Doubter") (by decide +kernel)) (va_recv hC.1 hP (ci := 9) (q0 := 0) rfl rfl) dX10_isOfKind_33 ?_
    refine top_i (y := zI false) (by decide) ?_
    exact retSz hx hb hr hlocks (zI_or _) (by decide) dX10_isOfKind_36
   ·obtain rfl : xk = 2 := (nI_eq (by omega) (by decide)).mp c1
    refine lv_tableIn (off := 36) (tgt := 37) hx hb dX10_isOfKind_1 (by decide) (by decide) (by decide) (by decide) ?_
    refine lv_aload_n hx hb dX10_isOfKind_37 rfl (lv_at hl 0 rfl) ?_
    refine va_instNo hx hb hown cl321 (hC.2.2.1 ("BoiledEggs$Trier", "BoiledEggs$Bold") (by decide +kernel)) (va_recv hC.1 hP (ci := 9) (q0 := 0) rfl rfl) dX10_isOfKind_38 ?_
    refine top_i (y := zI false) (by decide) ?_
    exact retSz hx hb hr hlocks (zI_or _) (by decide) dX10_isOfKind_41
   ·obtain rfl : xk = 3 := (nI_eq (by omega) (by decide)).mp c1
    refine lv_tableIn (off := 41) (tgt := 42) hx hb dX10_isOfKind_1 (by decide) (by decide) (by decide) (by decide) ?_
    refine lv_aload_n hx hb dX10_isOfKind_42 rfl (lv_at hl 0 rfl) ?_
    refine va_instNo hx hb hown cl324 (hC.2.2.1 ("BoiledEggs$Trier", "BoiledEggs$Hungry") (by decide +kernel)) (va_recv hC.1 hP (ci := 9) (q0 := 0) rfl rfl) dX10_isOfKind_43 ?_
    refine top_i (y := zI false) (by decide) ?_
    exact retSz hx hb hr hlocks (zI_or _) (by decide) dX10_isOfKind_46
   ·obtain rfl : xk = 4 := (nI_eq (by omega) (by decide)).mp c1
    refine lv_tableIn (off := 46) (tgt := 47) hx hb dX10_isOfKind_1 (by decide) (by decide) (by decide) (by decide) ?_
    refine lv_aload_n hx hb dX10_isOfKind_47 rfl (lv_at hl 0 rfl) ?_
    refine va_instNo hx hb hown cl327 (hC.2.2.1 ("BoiledEggs$Trier", "BoiledEggs$Greedy") (by decide +kernel)) (va_recv hC.1 hP (ci := 9) (q0 := 0) rfl rfl) dX10_isOfKind_48 ?_
    refine top_i (y := zI false) (by decide) ?_
    exact retSz hx hb hr hlocks (zI_or _) (by decide) dX10_isOfKind_51
  ·refine lv_tableOut (tgt := 52) hx hb dX10_isOfKind_1 (by omega) (by decide) ?_
   refine lv_iconst (v := nI 1) hx hb dX10_isOfKind_52 (by decide) ?_
   exact retSz hx hb hr hlocks (by decide) (by first | decide | exact absurd c1 (by rw [nI_toInt (by omega)]; omega)) dX10_isOfKind_53

set_option maxHeartbeats 4000000 in
set_option maxRecDepth 100000 in
/-- BoiledEggs.isOfKind  -/
theorem k_X10_isOfKind_1 (l : Launch) (g : GG) (oX : Nat) (xk : Nat) (hk0 : xk < 5) : Met l yX10_isOfKind wsX10_isOfKind ({ frames := 0, cells := 0, slots := 0, locals := 0 }) (pS g [.ref oX, .int (nI xk)] [(oX, .inr (2, []))]) (vp_Si (fun r => r = (zI (asK (nI 1) (nI xk))))) 0 0 noF := by
  refine metS (cc := cX10_isOfKind) (maxL := 2) (ret := (some .boolean)) (by decide) rfl (Nat.le_of_ble_eq_true rfl) ?_
  intro p e s m below meth c hx hb hr hts hown hlocks hml hC hP ls hl
  have hl : lv_has ls 2 [(0, .ref oX), (1, .int (nI xk))] := hl
  have hown : s.vm.findClass RX10 = some m.cls := hown
  have hts : ∀ w ∈ wsX10_isOfKind, w.before ([.ref oX, .int (nI xk)] : List Value).toArray s = true := hts
  have cl318 := hts (.classLink RX10 318 "BoiledEggs$Doubter") (by decide +kernel)
  have cl321 := hts (.classLink RX10 321 "BoiledEggs$Bold") (by decide +kernel)
  have cl324 := hts (.classLink RX10 324 "BoiledEggs$Hungry") (by decide +kernel)
  have cl327 := hts (.classLink RX10 327 "BoiledEggs$Greedy") (by decide +kernel)
  refine lv_iload_n hx hb dX10_isOfKind_0 rfl (lv_at hl 1 rfl) ?_
  rcases sw_cases (nI xk) 5 (by decide) with ⟨k9, hk9, c1⟩ | c1
  ·have hk9 : k9 = 0 ∨ k9 = 1 ∨ k9 = 2 ∨ k9 = 3 ∨ k9 = 4 := by omega
   rcases hk9 with rfl | rfl | rfl | rfl | rfl
   ·obtain rfl : xk = 0 := (nI_eq (by omega) (by decide)).mp c1
    refine lv_tableOut (tgt := 52) hx hb dX10_isOfKind_1 (by decide) (by decide) ?_
    refine lv_iconst (v := nI 1) hx hb dX10_isOfKind_52 (by decide) ?_
    exact retSz hx hb hr hlocks (by decide) (by first | decide | exact absurd c1 (by rw [nI_toInt (by omega)]; omega)) dX10_isOfKind_53
   ·obtain rfl : xk = 1 := (nI_eq (by omega) (by decide)).mp c1
    refine lv_tableIn (off := 31) (tgt := 32) hx hb dX10_isOfKind_1 (by decide) (by decide) (by decide) (by decide) ?_
    refine lv_aload_n hx hb dX10_isOfKind_32 rfl (lv_at hl 0 rfl) ?_
    refine va_instS hx hb hown cl318 (hC.1.1 2 _ rfl).2 (va_recv hC.1 hP (ci := 2) (q0 := 0) rfl rfl) dX10_isOfKind_33 ?_
    refine top_i (y := zI true) (by decide) ?_
    exact retSz hx hb hr hlocks (zI_or _) (by decide) dX10_isOfKind_36
   ·obtain rfl : xk = 2 := (nI_eq (by omega) (by decide)).mp c1
    refine lv_tableIn (off := 36) (tgt := 37) hx hb dX10_isOfKind_1 (by decide) (by decide) (by decide) (by decide) ?_
    refine lv_aload_n hx hb dX10_isOfKind_37 rfl (lv_at hl 0 rfl) ?_
    refine va_instNo hx hb hown cl321 (hC.2.2.1 ("BoiledEggs$Doubter", "BoiledEggs$Bold") (by decide +kernel)) (va_recv hC.1 hP (ci := 2) (q0 := 0) rfl rfl) dX10_isOfKind_38 ?_
    refine top_i (y := zI false) (by decide) ?_
    exact retSz hx hb hr hlocks (zI_or _) (by decide) dX10_isOfKind_41
   ·obtain rfl : xk = 3 := (nI_eq (by omega) (by decide)).mp c1
    refine lv_tableIn (off := 41) (tgt := 42) hx hb dX10_isOfKind_1 (by decide) (by decide) (by decide) (by decide) ?_
    refine lv_aload_n hx hb dX10_isOfKind_42 rfl (lv_at hl 0 rfl) ?_
    refine va_instNo hx hb hown cl324 (hC.2.2.1 ("BoiledEggs$Doubter", "BoiledEggs$Hungry") (by decide +kernel)) (va_recv hC.1 hP (ci := 2) (q0 := 0) rfl rfl) dX10_isOfKind_43 ?_
    refine top_i (y := zI false) (by decide) ?_
    exact retSz hx hb hr hlocks (zI_or _) (by decide) dX10_isOfKind_46
   ·obtain rfl : xk = 4 := (nI_eq (by omega) (by decide)).mp c1
    refine lv_tableIn (off := 46) (tgt := 47) hx hb dX10_isOfKind_1 (by decide) (by decide) (by decide) (by decide) ?_
    refine lv_aload_n hx hb dX10_isOfKind_47 rfl (lv_at hl 0 rfl) ?_
    refine va_instNo hx hb hown cl327 (hC.2.2.1 ("BoiledEggs$Doubter", "BoiledEggs$Greedy") (by decide +kernel)) (va_recv hC.1 hP (ci := 2) (q0 := 0) rfl rfl) dX10_isOfKind_48 ?_
    refine top_i (y := zI false) (by decide) ?_
    exact retSz hx hb hr hlocks (zI_or _) (by decide) dX10_isOfKind_51
  ·refine lv_tableOut (tgt := 52) hx hb dX10_isOfKind_1 (by omega) (by decide) ?_
   refine lv_iconst (v := nI 1) hx hb dX10_isOfKind_52 (by decide) ?_
   exact retSz hx hb hr hlocks (by decide) (by first | decide | exact absurd c1 (by rw [nI_toInt (by omega)]; omega)) dX10_isOfKind_53

set_option maxHeartbeats 4000000 in
set_option maxRecDepth 100000 in
/-- BoiledEggs.isOfKind  -/
theorem k_X10_isOfKind_2 (l : Launch) (g : GG) (oX : Nat) (xk : Nat) (hk0 : xk < 5) : Met l yX10_isOfKind wsX10_isOfKind ({ frames := 0, cells := 0, slots := 0, locals := 0 }) (pS g [.ref oX, .int (nI xk)] [(oX, .inr (0, []))]) (vp_Si (fun r => r = (zI (asK (nI 2) (nI xk))))) 0 0 noF := by
  refine metS (cc := cX10_isOfKind) (maxL := 2) (ret := (some .boolean)) (by decide) rfl (Nat.le_of_ble_eq_true rfl) ?_
  intro p e s m below meth c hx hb hr hts hown hlocks hml hC hP ls hl
  have hl : lv_has ls 2 [(0, .ref oX), (1, .int (nI xk))] := hl
  have hown : s.vm.findClass RX10 = some m.cls := hown
  have hts : ∀ w ∈ wsX10_isOfKind, w.before ([.ref oX, .int (nI xk)] : List Value).toArray s = true := hts
  have cl318 := hts (.classLink RX10 318 "BoiledEggs$Doubter") (by decide +kernel)
  have cl321 := hts (.classLink RX10 321 "BoiledEggs$Bold") (by decide +kernel)
  have cl324 := hts (.classLink RX10 324 "BoiledEggs$Hungry") (by decide +kernel)
  have cl327 := hts (.classLink RX10 327 "BoiledEggs$Greedy") (by decide +kernel)
  refine lv_iload_n hx hb dX10_isOfKind_0 rfl (lv_at hl 1 rfl) ?_
  rcases sw_cases (nI xk) 5 (by decide) with ⟨k9, hk9, c1⟩ | c1
  ·have hk9 : k9 = 0 ∨ k9 = 1 ∨ k9 = 2 ∨ k9 = 3 ∨ k9 = 4 := by omega
   rcases hk9 with rfl | rfl | rfl | rfl | rfl
   ·obtain rfl : xk = 0 := (nI_eq (by omega) (by decide)).mp c1
    refine lv_tableOut (tgt := 52) hx hb dX10_isOfKind_1 (by decide) (by decide) ?_
    refine lv_iconst (v := nI 1) hx hb dX10_isOfKind_52 (by decide) ?_
    exact retSz hx hb hr hlocks (by decide) (by first | decide | exact absurd c1 (by rw [nI_toInt (by omega)]; omega)) dX10_isOfKind_53
   ·obtain rfl : xk = 1 := (nI_eq (by omega) (by decide)).mp c1
    refine lv_tableIn (off := 31) (tgt := 32) hx hb dX10_isOfKind_1 (by decide) (by decide) (by decide) (by decide) ?_
    refine lv_aload_n hx hb dX10_isOfKind_32 rfl (lv_at hl 0 rfl) ?_
    refine va_instNo hx hb hown cl318 (hC.2.2.1 ("BoiledEggs$Bold", "BoiledEggs$Doubter") (by decide +kernel)) (va_recv hC.1 hP (ci := 0) (q0 := 0) rfl rfl) dX10_isOfKind_33 ?_
    refine top_i (y := zI false) (by decide) ?_
    exact retSz hx hb hr hlocks (zI_or _) (by decide) dX10_isOfKind_36
   ·obtain rfl : xk = 2 := (nI_eq (by omega) (by decide)).mp c1
    refine lv_tableIn (off := 36) (tgt := 37) hx hb dX10_isOfKind_1 (by decide) (by decide) (by decide) (by decide) ?_
    refine lv_aload_n hx hb dX10_isOfKind_37 rfl (lv_at hl 0 rfl) ?_
    refine va_instS hx hb hown cl321 (hC.1.1 0 _ rfl).2 (va_recv hC.1 hP (ci := 0) (q0 := 0) rfl rfl) dX10_isOfKind_38 ?_
    refine top_i (y := zI true) (by decide) ?_
    exact retSz hx hb hr hlocks (zI_or _) (by decide) dX10_isOfKind_41
   ·obtain rfl : xk = 3 := (nI_eq (by omega) (by decide)).mp c1
    refine lv_tableIn (off := 41) (tgt := 42) hx hb dX10_isOfKind_1 (by decide) (by decide) (by decide) (by decide) ?_
    refine lv_aload_n hx hb dX10_isOfKind_42 rfl (lv_at hl 0 rfl) ?_
    refine va_instNo hx hb hown cl324 (hC.2.2.1 ("BoiledEggs$Bold", "BoiledEggs$Hungry") (by decide +kernel)) (va_recv hC.1 hP (ci := 0) (q0 := 0) rfl rfl) dX10_isOfKind_43 ?_
    refine top_i (y := zI false) (by decide) ?_
    exact retSz hx hb hr hlocks (zI_or _) (by decide) dX10_isOfKind_46
   ·obtain rfl : xk = 4 := (nI_eq (by omega) (by decide)).mp c1
    refine lv_tableIn (off := 46) (tgt := 47) hx hb dX10_isOfKind_1 (by decide) (by decide) (by decide) (by decide) ?_
    refine lv_aload_n hx hb dX10_isOfKind_47 rfl (lv_at hl 0 rfl) ?_
    refine va_instNo hx hb hown cl327 (hC.2.2.1 ("BoiledEggs$Bold", "BoiledEggs$Greedy") (by decide +kernel)) (va_recv hC.1 hP (ci := 0) (q0 := 0) rfl rfl) dX10_isOfKind_48 ?_
    refine top_i (y := zI false) (by decide) ?_
    exact retSz hx hb hr hlocks (zI_or _) (by decide) dX10_isOfKind_51
  ·refine lv_tableOut (tgt := 52) hx hb dX10_isOfKind_1 (by omega) (by decide) ?_
   refine lv_iconst (v := nI 1) hx hb dX10_isOfKind_52 (by decide) ?_
   exact retSz hx hb hr hlocks (by decide) (by first | decide | exact absurd c1 (by rw [nI_toInt (by omega)]; omega)) dX10_isOfKind_53

set_option maxHeartbeats 4000000 in
set_option maxRecDepth 100000 in
/-- BoiledEggs.isOfKind  -/
theorem k_X10_isOfKind_3 (l : Launch) (g : GG) (oX : Nat) (xk : Nat) (hk0 : xk < 5) : Met l yX10_isOfKind wsX10_isOfKind ({ frames := 0, cells := 0, slots := 0, locals := 0 }) (pS g [.ref oX, .int (nI xk)] [(oX, .inr (5, []))]) (vp_Si (fun r => r = (zI (asK (nI 3) (nI xk))))) 0 0 noF := by
  refine metS (cc := cX10_isOfKind) (maxL := 2) (ret := (some .boolean)) (by decide) rfl (Nat.le_of_ble_eq_true rfl) ?_
  intro p e s m below meth c hx hb hr hts hown hlocks hml hC hP ls hl
  have hl : lv_has ls 2 [(0, .ref oX), (1, .int (nI xk))] := hl
  have hown : s.vm.findClass RX10 = some m.cls := hown
  have hts : ∀ w ∈ wsX10_isOfKind, w.before ([.ref oX, .int (nI xk)] : List Value).toArray s = true := hts
  have cl318 := hts (.classLink RX10 318 "BoiledEggs$Doubter") (by decide +kernel)
  have cl321 := hts (.classLink RX10 321 "BoiledEggs$Bold") (by decide +kernel)
  have cl324 := hts (.classLink RX10 324 "BoiledEggs$Hungry") (by decide +kernel)
  have cl327 := hts (.classLink RX10 327 "BoiledEggs$Greedy") (by decide +kernel)
  refine lv_iload_n hx hb dX10_isOfKind_0 rfl (lv_at hl 1 rfl) ?_
  rcases sw_cases (nI xk) 5 (by decide) with ⟨k9, hk9, c1⟩ | c1
  ·have hk9 : k9 = 0 ∨ k9 = 1 ∨ k9 = 2 ∨ k9 = 3 ∨ k9 = 4 := by omega
   rcases hk9 with rfl | rfl | rfl | rfl | rfl
   ·obtain rfl : xk = 0 := (nI_eq (by omega) (by decide)).mp c1
    refine lv_tableOut (tgt := 52) hx hb dX10_isOfKind_1 (by decide) (by decide) ?_
    refine lv_iconst (v := nI 1) hx hb dX10_isOfKind_52 (by decide) ?_
    exact retSz hx hb hr hlocks (by decide) (by first | decide | exact absurd c1 (by rw [nI_toInt (by omega)]; omega)) dX10_isOfKind_53
   ·obtain rfl : xk = 1 := (nI_eq (by omega) (by decide)).mp c1
    refine lv_tableIn (off := 31) (tgt := 32) hx hb dX10_isOfKind_1 (by decide) (by decide) (by decide) (by decide) ?_
    refine lv_aload_n hx hb dX10_isOfKind_32 rfl (lv_at hl 0 rfl) ?_
    refine va_instNo hx hb hown cl318 (hC.2.2.1 ("BoiledEggs$Hungry", "BoiledEggs$Doubter") (by decide +kernel)) (va_recv hC.1 hP (ci := 5) (q0 := 0) rfl rfl) dX10_isOfKind_33 ?_
    refine top_i (y := zI false) (by decide) ?_
    exact retSz hx hb hr hlocks (zI_or _) (by decide) dX10_isOfKind_36
   ·obtain rfl : xk = 2 := (nI_eq (by omega) (by decide)).mp c1
    refine lv_tableIn (off := 36) (tgt := 37) hx hb dX10_isOfKind_1 (by decide) (by decide) (by decide) (by decide) ?_
    refine lv_aload_n hx hb dX10_isOfKind_37 rfl (lv_at hl 0 rfl) ?_
    refine va_instNo hx hb hown cl321 (hC.2.2.1 ("BoiledEggs$Hungry", "BoiledEggs$Bold") (by decide +kernel)) (va_recv hC.1 hP (ci := 5) (q0 := 0) rfl rfl) dX10_isOfKind_38 ?_
    refine top_i (y := zI false) (by decide) ?_
    exact retSz hx hb hr hlocks (zI_or _) (by decide) dX10_isOfKind_41
   ·obtain rfl : xk = 3 := (nI_eq (by omega) (by decide)).mp c1
    refine lv_tableIn (off := 41) (tgt := 42) hx hb dX10_isOfKind_1 (by decide) (by decide) (by decide) (by decide) ?_
    refine lv_aload_n hx hb dX10_isOfKind_42 rfl (lv_at hl 0 rfl) ?_
    refine va_instS hx hb hown cl324 (hC.1.1 5 _ rfl).2 (va_recv hC.1 hP (ci := 5) (q0 := 0) rfl rfl) dX10_isOfKind_43 ?_
    refine top_i (y := zI true) (by decide) ?_
    exact retSz hx hb hr hlocks (zI_or _) (by decide) dX10_isOfKind_46
   ·obtain rfl : xk = 4 := (nI_eq (by omega) (by decide)).mp c1
    refine lv_tableIn (off := 46) (tgt := 47) hx hb dX10_isOfKind_1 (by decide) (by decide) (by decide) (by decide) ?_
    refine lv_aload_n hx hb dX10_isOfKind_47 rfl (lv_at hl 0 rfl) ?_
    refine va_instNo hx hb hown cl327 (hC.2.2.1 ("BoiledEggs$Hungry", "BoiledEggs$Greedy") (by decide +kernel)) (va_recv hC.1 hP (ci := 5) (q0 := 0) rfl rfl) dX10_isOfKind_48 ?_
    refine top_i (y := zI false) (by decide) ?_
    exact retSz hx hb hr hlocks (zI_or _) (by decide) dX10_isOfKind_51
  ·refine lv_tableOut (tgt := 52) hx hb dX10_isOfKind_1 (by omega) (by decide) ?_
   refine lv_iconst (v := nI 1) hx hb dX10_isOfKind_52 (by decide) ?_
   exact retSz hx hb hr hlocks (by decide) (by first | decide | exact absurd c1 (by rw [nI_toInt (by omega)]; omega)) dX10_isOfKind_53

set_option maxHeartbeats 4000000 in
set_option maxRecDepth 100000 in
/-- BoiledEggs.isOfKind  -/
theorem k_X10_isOfKind_4 (l : Launch) (g : GG) (oX : Nat) (xk : Nat) (hk0 : xk < 5) : Met l yX10_isOfKind wsX10_isOfKind ({ frames := 0, cells := 0, slots := 0, locals := 0 }) (pS g [.ref oX, .int (nI xk)] [(oX, .inr (4, []))]) (vp_Si (fun r => r = (zI (asK (nI 4) (nI xk))))) 0 0 noF := by
  refine metS (cc := cX10_isOfKind) (maxL := 2) (ret := (some .boolean)) (by decide) rfl (Nat.le_of_ble_eq_true rfl) ?_
  intro p e s m below meth c hx hb hr hts hown hlocks hml hC hP ls hl
  have hl : lv_has ls 2 [(0, .ref oX), (1, .int (nI xk))] := hl
  have hown : s.vm.findClass RX10 = some m.cls := hown
  have hts : ∀ w ∈ wsX10_isOfKind, w.before ([.ref oX, .int (nI xk)] : List Value).toArray s = true := hts
  have cl318 := hts (.classLink RX10 318 "BoiledEggs$Doubter") (by decide +kernel)
  have cl321 := hts (.classLink RX10 321 "BoiledEggs$Bold") (by decide +kernel)
  have cl324 := hts (.classLink RX10 324 "BoiledEggs$Hungry") (by decide +kernel)
  have cl327 := hts (.classLink RX10 327 "BoiledEggs$Greedy") (by decide +kernel)
  refine lv_iload_n hx hb dX10_isOfKind_0 rfl (lv_at hl 1 rfl) ?_
  rcases sw_cases (nI xk) 5 (by decide) with ⟨k9, hk9, c1⟩ | c1
  ·have hk9 : k9 = 0 ∨ k9 = 1 ∨ k9 = 2 ∨ k9 = 3 ∨ k9 = 4 := by omega
   rcases hk9 with rfl | rfl | rfl | rfl | rfl
   ·obtain rfl : xk = 0 := (nI_eq (by omega) (by decide)).mp c1
    refine lv_tableOut (tgt := 52) hx hb dX10_isOfKind_1 (by decide) (by decide) ?_
    refine lv_iconst (v := nI 1) hx hb dX10_isOfKind_52 (by decide) ?_
    exact retSz hx hb hr hlocks (by decide) (by first | decide | exact absurd c1 (by rw [nI_toInt (by omega)]; omega)) dX10_isOfKind_53
   ·obtain rfl : xk = 1 := (nI_eq (by omega) (by decide)).mp c1
    refine lv_tableIn (off := 31) (tgt := 32) hx hb dX10_isOfKind_1 (by decide) (by decide) (by decide) (by decide) ?_
    refine lv_aload_n hx hb dX10_isOfKind_32 rfl (lv_at hl 0 rfl) ?_
    refine va_instNo hx hb hown cl318 (hC.2.2.1 ("BoiledEggs$Greedy", "BoiledEggs$Doubter") (by decide +kernel)) (va_recv hC.1 hP (ci := 4) (q0 := 0) rfl rfl) dX10_isOfKind_33 ?_
    refine top_i (y := zI false) (by decide) ?_
    exact retSz hx hb hr hlocks (zI_or _) (by decide) dX10_isOfKind_36
   ·obtain rfl : xk = 2 := (nI_eq (by omega) (by decide)).mp c1
    refine lv_tableIn (off := 36) (tgt := 37) hx hb dX10_isOfKind_1 (by decide) (by decide) (by decide) (by decide) ?_
    refine lv_aload_n hx hb dX10_isOfKind_37 rfl (lv_at hl 0 rfl) ?_
    refine va_instNo hx hb hown cl321 (hC.2.2.1 ("BoiledEggs$Greedy", "BoiledEggs$Bold") (by decide +kernel)) (va_recv hC.1 hP (ci := 4) (q0 := 0) rfl rfl) dX10_isOfKind_38 ?_
    refine top_i (y := zI false) (by decide) ?_
    exact retSz hx hb hr hlocks (zI_or _) (by decide) dX10_isOfKind_41
   ·obtain rfl : xk = 3 := (nI_eq (by omega) (by decide)).mp c1
    refine lv_tableIn (off := 41) (tgt := 42) hx hb dX10_isOfKind_1 (by decide) (by decide) (by decide) (by decide) ?_
    refine lv_aload_n hx hb dX10_isOfKind_42 rfl (lv_at hl 0 rfl) ?_
    refine va_instY hx hb hown cl324 (hC.2.1 (.castable "BoiledEggs$Greedy" "BoiledEggs$Hungry") (by decide +kernel)) (va_recv hC.1 hP (ci := 4) (q0 := 0) rfl rfl) dX10_isOfKind_43 ?_
    refine top_i (y := zI true) (by decide) ?_
    exact retSz hx hb hr hlocks (zI_or _) (by decide) dX10_isOfKind_46
   ·obtain rfl : xk = 4 := (nI_eq (by omega) (by decide)).mp c1
    refine lv_tableIn (off := 46) (tgt := 47) hx hb dX10_isOfKind_1 (by decide) (by decide) (by decide) (by decide) ?_
    refine lv_aload_n hx hb dX10_isOfKind_47 rfl (lv_at hl 0 rfl) ?_
    refine va_instS hx hb hown cl327 (hC.1.1 4 _ rfl).2 (va_recv hC.1 hP (ci := 4) (q0 := 0) rfl rfl) dX10_isOfKind_48 ?_
    refine top_i (y := zI true) (by decide) ?_
    exact retSz hx hb hr hlocks (zI_or _) (by decide) dX10_isOfKind_51
  ·refine lv_tableOut (tgt := 52) hx hb dX10_isOfKind_1 (by omega) (by decide) ?_
   refine lv_iconst (v := nI 1) hx hb dX10_isOfKind_52 (by decide) ?_
   exact retSz hx hb hr hlocks (by decide) (by first | decide | exact absurd c1 (by rw [nI_toInt (by omega)]; omega)) dX10_isOfKind_53

set_option maxHeartbeats 4000000 in
set_option maxRecDepth 100000 in
/-- BoiledEggs.about  -/
theorem k_X10_about_n (l : Launch) (g : GG) (oM : Nat) (oP : Nat) (oH : Nat) (oT : Nat) (oK : Nat) (oR : Nat) (oD : Nat) (aT : Nat) (tC : Nat) (tK : Nat) (iK : Int32) (kR : Nat) (bD : Nat) (xt : Int32) (xq : Int32) (hT : tC ≤ 4) (hzz : isE tC xt = false) : Met l yX10_about wsX10_about ({ frames := 1, cells := 0, slots := 0, locals := 21 }) (pS g [.ref oM, .int xt, .int xq] [(oM, .inr (10, [.ref oP, .ref oH, .ref oT, .ref oK, .ref oR, .ref oD, .ref aT, .int (nI tC), .int (nI tK), .int iK, .int (nI kR), .int (nI bD)]))]) (vp_Si (fun r => r = (-101))) 0 0 noF := by
  refine metS (cc := cX10_about) (maxL := 4) (ret := (some .int)) (by decide) rfl (Nat.le_of_ble_eq_true rfl) ?_
  intro p e s m below meth c hx hb hr hts hown hlocks hml hC hP ls hl
  have hl : lv_has ls 4 [(0, .ref oM), (1, .int xt), (2, .int xq)] := hl
  have hown : s.vm.findClass RX10 = some m.cls := hown
  have hts : ∀ w ∈ wsX10_about, w.before ([.ref oM, .int xt, .int xq] : List Value).toArray s = true := hts
  refine lv_aload_n hx hb dX10_about_0 rfl (lv_at hl 0 rfl) ?_
  refine lv_iload_n hx hb dX10_about_1 rfl (lv_at hl 1 rfl) ?_
  refine goSq (T := none) (va_runV (As := [.int xt]) (rest := []) ⟨hx, hb, hml, hown, hts⟩ (k_X10_trierOf_n l g oM oP oH oT oK oR oD aT tC tK iK kR bD xt (by first | assumption | exact Nat.zero_le _ | omega) (by first | assumption | exact Nat.zero_le _ | omega)) (cwV 1 hts gX10_about_X10_trierOf rfl rfl rfl ⟨rfl, hdX10_trierOf⟩ ⟨Nat.le_of_ble_eq_true rfl, Nat.le_of_ble_eq_true rfl⟩) (preVS hC (hP.sub [0] rfl) (va_recv hC.1 hP (ci := 10) (q0 := 0) rfl rfl)) rfl rfl hl.1 rfl (lv_room (Nat.le_of_ble_eq_true rfl)) dX10_about_2 ⟨Nat.le_of_ble_eq_true rfl, Nat.le_of_ble_eq_true rfl⟩) ?_
  refine lv_astore_nN (lv' := [(3, .null), (0, .ref oM), (1, .int xt), (2, .int xq)]) hx hb dX10_about_5 rfl hl (by decide) rfl (fun ls hl => ?_)
  refine lv_aload_nN hx hb dX10_about_6 rfl (lv_at hl 0 rfl) ?_
  refine lv_ifnonnullN hx hb dX10_about_7 ?_
  refine lv_bipush (v := (-101)) hx hb dX10_about_10 (by decide) ?_
  exact retSi hx hb hr hlocks (rfl) dX10_about_12

set_option maxHeartbeats 4000000 in
set_option maxRecDepth 100000 in
/-- BoiledEggs.as  -/
theorem k_X10_as_n (l : Launch) (g : GG) (oM : Nat) (oP : Nat) (oH : Nat) (oT : Nat) (oK : Nat) (oR : Nat) (oD : Nat) (aT : Nat) (tC : Nat) (tK : Nat) (iK : Int32) (kR : Nat) (bD : Nat) (xt : Int32) (xk : Int32) (hT : tC ≤ 4) (hzz : isE tC xt = false) : Met l yX10_as wsX10_as ({ frames := 1, cells := 0, slots := 0, locals := 21 }) (pS g [.ref oM, .int xt, .int xk] [(oM, .inr (10, [.ref oP, .ref oH, .ref oT, .ref oK, .ref oR, .ref oD, .ref aT, .int (nI tC), .int (nI tK), .int iK, .int (nI kR), .int (nI bD)]))]) (vp_Si (fun r => r = (-101))) 0 0 noF := by
  refine metS (cc := cX10_as) (maxL := 4) (ret := (some .int)) (by decide) rfl (Nat.le_of_ble_eq_true rfl) ?_
  intro p e s m below meth c hx hb hr hts hown hlocks hml hC hP ls hl
  have hl : lv_has ls 4 [(0, .ref oM), (1, .int xt), (2, .int xk)] := hl
  have hown : s.vm.findClass RX10 = some m.cls := hown
  have hts : ∀ w ∈ wsX10_as, w.before ([.ref oM, .int xt, .int xk] : List Value).toArray s = true := hts
  refine lv_aload_n hx hb dX10_as_0 rfl (lv_at hl 0 rfl) ?_
  refine lv_iload_n hx hb dX10_as_1 rfl (lv_at hl 1 rfl) ?_
  refine goSq (T := none) (va_runV (As := [.int xt]) (rest := []) ⟨hx, hb, hml, hown, hts⟩ (k_X10_trierOf_n l g oM oP oH oT oK oR oD aT tC tK iK kR bD xt (by first | assumption | exact Nat.zero_le _ | omega) (by first | assumption | exact Nat.zero_le _ | omega)) (cwV 1 hts gX10_as_X10_trierOf rfl rfl rfl ⟨rfl, hdX10_trierOf⟩ ⟨Nat.le_of_ble_eq_true rfl, Nat.le_of_ble_eq_true rfl⟩) (preVS hC (hP.sub [0] rfl) (va_recv hC.1 hP (ci := 10) (q0 := 0) rfl rfl)) rfl rfl hl.1 rfl (lv_room (Nat.le_of_ble_eq_true rfl)) dX10_as_2 ⟨Nat.le_of_ble_eq_true rfl, Nat.le_of_ble_eq_true rfl⟩) ?_
  refine lv_astore_nN (lv' := [(3, .null), (0, .ref oM), (1, .int xt), (2, .int xk)]) hx hb dX10_as_5 rfl hl (by decide) rfl (fun ls hl => ?_)
  refine lv_aload_nN hx hb dX10_as_6 rfl (lv_at hl 0 rfl) ?_
  refine lv_ifnonnullN hx hb dX10_as_7 ?_
  refine lv_bipush (v := (-101)) hx hb dX10_as_10 (by decide) ?_
  exact retSi hx hb hr hlocks (rfl) dX10_as_12

set_option maxHeartbeats 4000000 in
set_option maxRecDepth 100000 in
/-- BoiledEggs.about  -/
theorem k_X10_about_0 (l : Launch) (g : GG) (oX : Nat) (oM : Nat) (oP : Nat) (oH : Nat) (oT : Nat) (oK : Nat) (oR : Nat) (oD : Nat) (aT : Nat) (tC : Nat) (tK : Nat) (iK : Int32) (kR : Nat) (bD : Nat) (aB : Nat) (aW : Nat) (aS : Nat) (aU : Nat) (aK : Nat) (fi : Nat) (ib : Nat) (sn : Nat) (fB : Nat → Nat) (fW : Nat → Nat) (tr : Nat → Option Nat) (xt : Nat) (xq : Int32) (hT : tC ≤ 4) (hx0 : xt < tC) (htr : tr xt = some oX) (hf0 : fi ≤ 20) (hB : ∀ j, fB j < 64) (hib : ib < 64) : Met l yX10_about wsX10_about ({ frames := 6, cells := 0, slots := 0, locals := 200 }) (pS g [.ref oM, .int (nI xt), .int xq] [(oX, .inr (9, [])), (oM, .inr (10, [.ref oP, .ref oH, .ref oT, .ref oK, .ref oR, .ref oD, .ref aT, .int (nI tC), .int (nI tK), .int iK, .int (nI kR), .int (nI bD)])), (aT, .inl (g.2.2.2.2, 4, .inr (.inr (.inr (.inr tr))))), (oT, .inr (8, [.ref aB, .ref aW, .ref aS, .ref aU, .ref aK, .int (nI fi), .int (nI ib), .int (nI sn)])), (aB, .inl (g.2.1, 20, .inl (fun j => nI (fB j)))), (aW, .inl (g.2.2.1, 20, .inr (.inl (fun j => lN (fW j)))))]) (vp_Si (fun r => r = (abC fB fW fi ib (nI 0) xq))) 0 0 noF := by
  refine metS (cc := cX10_about) (maxL := 4) (ret := (some .int)) (by decide) rfl (Nat.le_of_ble_eq_true rfl) ?_
  intro p e s m below meth c hx hb hr hts hown hlocks hml hC hP ls hl
  have hl : lv_has ls 4 [(0, .ref oM), (1, .int (nI xt)), (2, .int xq)] := hl
  have hown : s.vm.findClass RX10 = some m.cls := hown
  have hts : ∀ w ∈ wsX10_about, w.before ([.ref oM, .int (nI xt), .int xq] : List Value).toArray s = true := hts
  have hinX10 := (by decide +kernel : ∀ w ∈ u_ws RX10 TX10 12, w ∈ wsX10_about)
  have f26 := hts (.fieldLink RX10 26 "BoiledEggs" "told" "LBoiledEggs$Told;") (by decide +kernel)
  refine lv_aload_n hx hb dX10_about_0 rfl (lv_at hl 0 rfl) ?_
  refine lv_iload_n hx hb dX10_about_1 rfl (lv_at hl 1 rfl) ?_
  refine goSq (T := tr xt) (va_runV (As := [.int (nI xt)]) (rest := []) ⟨hx, hb, hml, hown, hts⟩ (k_X10_trierOf_s l g oM oP oH oT oK oR oD aT tC tK iK kR bD tr xt (by first | assumption | exact Nat.zero_le _ | omega) (by first | assumption | exact Nat.zero_le _ | omega)) (cwV 1 hts gX10_about_X10_trierOf rfl rfl rfl ⟨rfl, hdX10_trierOf⟩ ⟨Nat.le_of_ble_eq_true rfl, Nat.le_of_ble_eq_true rfl⟩) (preVS hC (hP.sub [1, 2] rfl) (va_recv hC.1 hP (ci := 10) (q0 := 1) rfl rfl)) rfl rfl hl.1 rfl (lv_room (Nat.le_of_ble_eq_true rfl)) dX10_about_2 ⟨Nat.le_of_ble_eq_true rfl, Nat.le_of_ble_eq_true rfl⟩) ?_
  refine top_r (y := some oX) (htr) ?_
  refine lv_astore_n (lv' := [(3, .ref oX), (0, .ref oM), (1, .int (nI xt)), (2, .int xq)]) hx hb dX10_about_5 rfl hl (by decide) rfl (fun ls hl => ?_)
  refine lv_aload_n hx hb dX10_about_6 rfl (lv_at hl 0 rfl) ?_
  refine lv_ifnonnull (tgt := 13) hx hb dX10_about_7 (by decide) ?_
  refine lv_iload_n hx hb dX10_about_13 rfl (lv_at hl 3 rfl) ?_
  refine lv_if_lt (tgt := 22) hx hb dX10_about_14 (by decide) (fun c14 => ?_) (fun c14 => ?_)
  ·have hq9 : wth xq (nI 0) (nI 1) = false := by rw [wth_iff (by decide) (by decide)]; have := z_lt c14; exact decide_eq_false (by omega)
   refine lv_bipush (v := (-102)) hx hb dX10_about_22 (by decide) ?_
   exact retSi hx hb hr hlocks (by rw [abC, if_neg (by rw [hq9]; decide)]) dX10_about_24
  ·refine lv_iload_n hx hb dX10_about_17 rfl (lv_at hl 3 rfl) ?_
   refine lv_iconst (v := nI 1) hx hb dX10_about_18 (by decide) ?_
   refine lv_icmp_le (tgt := 25) hx hb dX10_about_19 (by decide) (fun c19 => ?_) (fun c19 => ?_)
   ·have hq9 : wth xq (nI 0) (nI 1) = true := by rw [wth_iff (by decide) (by decide)]; have h1 := z_nlt c14; have h2 := (x_le (by decide)).mp c19; exact decide_eq_true (by omega)
    refine lv_iload_n hx hb dX10_about_25 rfl (lv_at hl 3 rfl) ?_
    refine lv_if_ne (tgt := 36) hx hb dX10_about_26 (by decide) (fun c26 => ?_) (fun c26 => ?_)
    ·refine lv_aload_n hx hb dX10_about_36 rfl (lv_at hl 0 rfl) ?_
     refine lv_aload_n hx hb dX10_about_37 rfl (lv_at hl 1 rfl) ?_
     refine va_get (D := g.1) (ci := 10) (v := .ref oT) (C := RX10) (T := TX10) (N := 12) hx hb hts hinX10 hown hC.1 hP 1 rfl rfl 2 (by decide) f26 (fun _ h9 => h9) rfl dX10_about_38 ?_
     refine goSi (T := cnx fB fW fi ib (nI 0)) (va_runV (As := [.ref oT]) (rest := []) ⟨hx, hb, hml, hown, hts⟩ (k_X9_nextEgg_X9 l g oX oT aB aW aS aU aK fi ib sn fB fW (by first | assumption | exact Nat.zero_le _ | omega) (by first | assumption | exact Nat.zero_le _ | omega) (by first | assumption | exact Nat.zero_le _ | omega)) (cwV 1 hts gX10_about_X9_nextEgg rfl rfl rfl ⟨rfl, hdX9_nextEgg⟩ ⟨Nat.le_of_ble_eq_true rfl, Nat.le_of_ble_eq_true rfl⟩) (preVS hC (hP.sub [0, 3, 4, 5] rfl) (va_recv hC.1 hP (ci := 9) (q0 := 0) rfl rfl)) rfl rfl hl.1 rfl (lv_room (Nat.le_of_ble_eq_true rfl)) dX10_about_41 ⟨Nat.le_of_ble_eq_true rfl, Nat.le_of_ble_eq_true rfl⟩) ?_
     exact retSi hx hb hr hlocks (by first | rw [abC, if_pos hq9, if_pos c26] | rw [abC, if_pos hq9, if_neg c26]) dX10_about_44
    ·refine lv_aload_n hx hb dX10_about_29 rfl (lv_at hl 0 rfl) ?_
     refine goSi (T := nI 0) (va_runV (As := []) (rest := []) ⟨hx, hb, hml, hown, hts⟩ (k_X9_kind l g oX ) (cwV 0 hts gX10_about_X9_kind rfl rfl rfl ⟨rfl, hdX9_kind⟩ ⟨Nat.le_of_ble_eq_true rfl, Nat.le_of_ble_eq_true rfl⟩) (preVS hC (hP.sub [] rfl) (va_recv hC.1 hP (ci := 9) (q0 := 0) rfl rfl)) rfl rfl hl.1 rfl (lv_room (Nat.le_of_ble_eq_true rfl)) dX10_about_30 ⟨Nat.le_of_ble_eq_true rfl, Nat.le_of_ble_eq_true rfl⟩) ?_
     refine lv_goto (tgt := 44) hx hb dX10_about_33 (by decide) ?_
     exact retSi hx hb hr hlocks (by first | rw [abC, if_pos hq9, if_pos c26] | rw [abC, if_pos hq9, if_neg c26]) dX10_about_44
   ·have hq9 : wth xq (nI 0) (nI 1) = false := by rw [wth_iff (by decide) (by decide)]; have h2 : ¬ xq.toInt ≤ ((1 : Nat) : Int) := fun h => c19 ((x_le (by decide)).mpr h); exact decide_eq_false (by omega)
    refine lv_bipush (v := (-102)) hx hb dX10_about_22 (by decide) ?_
    exact retSi hx hb hr hlocks (by rw [abC, if_neg (by rw [hq9]; decide)]) dX10_about_24

set_option maxHeartbeats 4000000 in
set_option maxRecDepth 100000 in
/-- BoiledEggs.as  -/
theorem k_X10_as_0 (l : Launch) (g : GG) (oX : Nat) (oM : Nat) (oP : Nat) (oH : Nat) (oT : Nat) (oK : Nat) (oR : Nat) (oD : Nat) (aT : Nat) (tC : Nat) (tK : Nat) (iK : Int32) (kR : Nat) (bD : Nat) (tr : Nat → Option Nat) (xt : Nat) (xk : Int32) (hT : tC ≤ 4) (hx0 : xt < tC) (htr : tr xt = some oX) : Met l yX10_as wsX10_as ({ frames := 4, cells := 0, slots := 0, locals := 150 }) (pS g [.ref oM, .int (nI xt), .int xk] [(oX, .inr (9, [])), (oM, .inr (10, [.ref oP, .ref oH, .ref oT, .ref oK, .ref oR, .ref oD, .ref aT, .int (nI tC), .int (nI tK), .int iK, .int (nI kR), .int (nI bD)])), (aT, .inl (g.2.2.2.2, 4, .inr (.inr (.inr (.inr tr)))))]) (vp_Si (fun r => r = (asC 0 (nI xt) xk))) 0 0 noF := by
  refine metS (cc := cX10_as) (maxL := 4) (ret := (some .int)) (by decide) rfl (Nat.le_of_ble_eq_true rfl) ?_
  intro p e s m below meth c hx hb hr hts hown hlocks hml hC hP ls hl
  have hl : lv_has ls 4 [(0, .ref oM), (1, .int (nI xt)), (2, .int xk)] := hl
  have hown : s.vm.findClass RX10 = some m.cls := hown
  have hts : ∀ w ∈ wsX10_as, w.before ([.ref oM, .int (nI xt), .int xk] : List Value).toArray s = true := hts
  refine lv_aload_n hx hb dX10_as_0 rfl (lv_at hl 0 rfl) ?_
  refine lv_iload_n hx hb dX10_as_1 rfl (lv_at hl 1 rfl) ?_
  refine goSq (T := tr xt) (va_runV (As := [.int (nI xt)]) (rest := []) ⟨hx, hb, hml, hown, hts⟩ (k_X10_trierOf_s l g oM oP oH oT oK oR oD aT tC tK iK kR bD tr xt (by first | assumption | exact Nat.zero_le _ | omega) (by first | assumption | exact Nat.zero_le _ | omega)) (cwV 1 hts gX10_as_X10_trierOf rfl rfl rfl ⟨rfl, hdX10_trierOf⟩ ⟨Nat.le_of_ble_eq_true rfl, Nat.le_of_ble_eq_true rfl⟩) (preVS hC (hP.sub [1, 2] rfl) (va_recv hC.1 hP (ci := 10) (q0 := 1) rfl rfl)) rfl rfl hl.1 rfl (lv_room (Nat.le_of_ble_eq_true rfl)) dX10_as_2 ⟨Nat.le_of_ble_eq_true rfl, Nat.le_of_ble_eq_true rfl⟩) ?_
  refine top_r (y := some oX) (htr) ?_
  refine lv_astore_n (lv' := [(3, .ref oX), (0, .ref oM), (1, .int (nI xt)), (2, .int xk)]) hx hb dX10_as_5 rfl hl (by decide) rfl (fun ls hl => ?_)
  refine lv_aload_n hx hb dX10_as_6 rfl (lv_at hl 0 rfl) ?_
  refine lv_ifnonnull (tgt := 13) hx hb dX10_as_7 (by decide) ?_
  refine lv_iload_n hx hb dX10_as_13 rfl (lv_at hl 3 rfl) ?_
  refine goSi (T := zI (wth xk (nI 0) (nI 4))) (va_runS (As := [.int xk]) (rest := []) ⟨hx, hb, hml, hown, hts⟩ (k_X10_isKind l g xk ) (va_cwS 1 hts gX10_as_X10_isKind rfl rfl rfl hdX10_isKind ⟨Nat.le_of_ble_eq_true rfl, Nat.le_of_ble_eq_true rfl⟩) (preSS hC (hP.sub [] rfl)) rfl rfl hl.1 rfl (lv_room (Nat.le_of_ble_eq_true rfl)) dX10_as_14 ⟨Nat.le_of_ble_eq_true rfl, Nat.le_of_ble_eq_true rfl⟩) ?_
  refine lv_if_ne (tgt := 23) hx hb dX10_as_17 (by decide) (fun c17 => ?_) (fun c17 => ?_)
  ·have c17 := zI_t.mp c17
   obtain ⟨k, hk, rfl⟩ := wth_n c17
   refine lv_aload_n hx hb dX10_as_23 rfl (lv_at hl 0 rfl) ?_
   refine lv_iload_n hx hb dX10_as_24 rfl (lv_at hl 3 rfl) ?_
   refine goSi (T := zI (asK (nI 0) (nI k))) (va_runS (As := [.ref oX, .int (nI k)]) (rest := []) ⟨hx, hb, hml, hown, hts⟩ (k_X10_isOfKind_0 l g oX k (by first | assumption | exact Nat.zero_le _ | omega)) (va_cwS 2 hts gX10_as_X10_isOfKind rfl rfl rfl hdX10_isOfKind ⟨Nat.le_of_ble_eq_true rfl, Nat.le_of_ble_eq_true rfl⟩) (preSS hC (hP.sub [0] rfl)) rfl rfl hl.1 rfl (lv_room (Nat.le_of_ble_eq_true rfl)) dX10_as_25 ⟨Nat.le_of_ble_eq_true rfl, Nat.le_of_ble_eq_true rfl⟩) ?_
   refine lv_if_eq (tgt := 35) hx hb dX10_as_28 (by decide) (fun c28 => ?_) (fun c28 => ?_)
   ·have c28 := zI_f.mp c28
    refine lv_iconst (v := (-1)) hx hb dX10_as_35 (by decide) ?_
    exact retSi hx hb hr hlocks (by first | rw [asC, if_pos c17, if_pos c28] | rw [asC, if_pos c17, if_neg (by rw [c28]; decide)]) dX10_as_36
   ·have c28 := zI_t.mp c28
    refine lv_iload_n hx hb dX10_as_31 rfl (lv_at hl 2 rfl) ?_
    refine lv_goto (tgt := 36) hx hb dX10_as_32 (by decide) ?_
    exact retSi hx hb hr hlocks (by first | rw [asC, if_pos c17, if_pos c28] | rw [asC, if_pos c17, if_neg (by rw [c28]; decide)]) dX10_as_36
  ·have c17 := zI_f.mp c17
   refine lv_bipush (v := (-102)) hx hb dX10_as_20 (by decide) ?_
   exact retSi hx hb hr hlocks (by rw [asC, if_neg (by rw [c17]; decide)]) dX10_as_22

set_option maxHeartbeats 4000000 in
set_option maxRecDepth 100000 in
/-- BoiledEggs.about  -/
theorem k_X10_about_1 (l : Launch) (g : GG) (oX : Nat) (oM : Nat) (oP : Nat) (oH : Nat) (oT : Nat) (oK : Nat) (oR : Nat) (oD : Nat) (aT : Nat) (tC : Nat) (tK : Nat) (iK : Int32) (kR : Nat) (bD : Nat) (aB : Nat) (aW : Nat) (aS : Nat) (aU : Nat) (aK : Nat) (fi : Nat) (ib : Nat) (sn : Nat) (fB : Nat → Nat) (fW : Nat → Nat) (tr : Nat → Option Nat) (xt : Nat) (xq : Int32) (hT : tC ≤ 4) (hx0 : xt < tC) (htr : tr xt = some oX) (hf0 : fi ≤ 20) (hB : ∀ j, fB j < 64) (hib : ib < 64) : Met l yX10_about wsX10_about ({ frames := 6, cells := 0, slots := 0, locals := 200 }) (pS g [.ref oM, .int (nI xt), .int xq] [(oX, .inr (2, [])), (oM, .inr (10, [.ref oP, .ref oH, .ref oT, .ref oK, .ref oR, .ref oD, .ref aT, .int (nI tC), .int (nI tK), .int iK, .int (nI kR), .int (nI bD)])), (aT, .inl (g.2.2.2.2, 4, .inr (.inr (.inr (.inr tr))))), (oT, .inr (8, [.ref aB, .ref aW, .ref aS, .ref aU, .ref aK, .int (nI fi), .int (nI ib), .int (nI sn)])), (aB, .inl (g.2.1, 20, .inl (fun j => nI (fB j)))), (aW, .inl (g.2.2.1, 20, .inr (.inl (fun j => lN (fW j)))))]) (vp_Si (fun r => r = (abC fB fW fi ib (nI 1) xq))) 0 0 noF := by
  refine metS (cc := cX10_about) (maxL := 4) (ret := (some .int)) (by decide) rfl (Nat.le_of_ble_eq_true rfl) ?_
  intro p e s m below meth c hx hb hr hts hown hlocks hml hC hP ls hl
  have hl : lv_has ls 4 [(0, .ref oM), (1, .int (nI xt)), (2, .int xq)] := hl
  have hown : s.vm.findClass RX10 = some m.cls := hown
  have hts : ∀ w ∈ wsX10_about, w.before ([.ref oM, .int (nI xt), .int xq] : List Value).toArray s = true := hts
  have hinX10 := (by decide +kernel : ∀ w ∈ u_ws RX10 TX10 12, w ∈ wsX10_about)
  have f26 := hts (.fieldLink RX10 26 "BoiledEggs" "told" "LBoiledEggs$Told;") (by decide +kernel)
  have ocX9_kind := (by decide +kernel : Cond.code yX9_kind cX9_kind 1 (some .int) ∈ wsX10_about)
  refine lv_aload_n hx hb dX10_about_0 rfl (lv_at hl 0 rfl) ?_
  refine lv_iload_n hx hb dX10_about_1 rfl (lv_at hl 1 rfl) ?_
  refine goSq (T := tr xt) (va_runV (As := [.int (nI xt)]) (rest := []) ⟨hx, hb, hml, hown, hts⟩ (k_X10_trierOf_s l g oM oP oH oT oK oR oD aT tC tK iK kR bD tr xt (by first | assumption | exact Nat.zero_le _ | omega) (by first | assumption | exact Nat.zero_le _ | omega)) (cwV 1 hts gX10_about_X10_trierOf rfl rfl rfl ⟨rfl, hdX10_trierOf⟩ ⟨Nat.le_of_ble_eq_true rfl, Nat.le_of_ble_eq_true rfl⟩) (preVS hC (hP.sub [1, 2] rfl) (va_recv hC.1 hP (ci := 10) (q0 := 1) rfl rfl)) rfl rfl hl.1 rfl (lv_room (Nat.le_of_ble_eq_true rfl)) dX10_about_2 ⟨Nat.le_of_ble_eq_true rfl, Nat.le_of_ble_eq_true rfl⟩) ?_
  refine top_r (y := some oX) (htr) ?_
  refine lv_astore_n (lv' := [(3, .ref oX), (0, .ref oM), (1, .int (nI xt)), (2, .int xq)]) hx hb dX10_about_5 rfl hl (by decide) rfl (fun ls hl => ?_)
  refine lv_aload_n hx hb dX10_about_6 rfl (lv_at hl 0 rfl) ?_
  refine lv_ifnonnull (tgt := 13) hx hb dX10_about_7 (by decide) ?_
  refine lv_iload_n hx hb dX10_about_13 rfl (lv_at hl 3 rfl) ?_
  refine lv_if_lt (tgt := 22) hx hb dX10_about_14 (by decide) (fun c14 => ?_) (fun c14 => ?_)
  ·have hq9 : wth xq (nI 0) (nI 1) = false := by rw [wth_iff (by decide) (by decide)]; have := z_lt c14; exact decide_eq_false (by omega)
   refine lv_bipush (v := (-102)) hx hb dX10_about_22 (by decide) ?_
   exact retSi hx hb hr hlocks (by rw [abC, if_neg (by rw [hq9]; decide)]) dX10_about_24
  ·refine lv_iload_n hx hb dX10_about_17 rfl (lv_at hl 3 rfl) ?_
   refine lv_iconst (v := nI 1) hx hb dX10_about_18 (by decide) ?_
   refine lv_icmp_le (tgt := 25) hx hb dX10_about_19 (by decide) (fun c19 => ?_) (fun c19 => ?_)
   ·have hq9 : wth xq (nI 0) (nI 1) = true := by rw [wth_iff (by decide) (by decide)]; have h1 := z_nlt c14; have h2 := (x_le (by decide)).mp c19; exact decide_eq_true (by omega)
    refine lv_iload_n hx hb dX10_about_25 rfl (lv_at hl 3 rfl) ?_
    refine lv_if_ne (tgt := 36) hx hb dX10_about_26 (by decide) (fun c26 => ?_) (fun c26 => ?_)
    ·refine lv_aload_n hx hb dX10_about_36 rfl (lv_at hl 0 rfl) ?_
     refine lv_aload_n hx hb dX10_about_37 rfl (lv_at hl 1 rfl) ?_
     refine va_get (D := g.1) (ci := 10) (v := .ref oT) (C := RX10) (T := TX10) (N := 12) hx hb hts hinX10 hown hC.1 hP 1 rfl rfl 2 (by decide) f26 (fun _ h9 => h9) rfl dX10_about_38 ?_
     refine goSi (T := cnx fB fW fi ib (nI 1)) (va_runU (As := [.ref oT]) (rest := []) ⟨hx, hb, hml, hown, hts⟩ (k_X9_nextEgg_X2 l g oX oT aB aW aS aU aK fi ib sn fB fW (by first | assumption | exact Nat.zero_le _ | omega) (by first | assumption | exact Nat.zero_le _ | omega) (by first | assumption | exact Nat.zero_le _ | omega)) (va_cwU 1 hts gX10_about_X9_nextEgg_u227X2 rfl rfl rfl rfl (by decide +kernel) ⟨Nat.le_of_ble_eq_true rfl, Nat.le_of_ble_eq_true rfl⟩) (preVS hC (hP.sub [0, 3, 4, 5] rfl) (va_recv hC.1 hP (ci := 2) (q0 := 0) rfl rfl)) rfl rfl hl.1 rfl (lv_room (Nat.le_of_ble_eq_true rfl)) dX10_about_41 ⟨Nat.le_of_ble_eq_true rfl, Nat.le_of_ble_eq_true rfl⟩) ?_
     exact retSi hx hb hr hlocks (by first | rw [abC, if_pos hq9, if_pos c26] | rw [abC, if_pos hq9, if_neg c26]) dX10_about_44
    ·refine lv_aload_n hx hb dX10_about_29 rfl (lv_at hl 0 rfl) ?_
     refine goSi (T := nI 1) (va_runU (As := []) (rest := []) ⟨hx, hb, hml, hown, hts⟩ (k_X2_kind l g oX ) (va_cwO 0 hts gX10_about_X2_kind_u224X2 rfl rfl rfl ocX9_kind (by decide +kernel) ⟨Nat.le_of_ble_eq_true rfl, Nat.le_of_ble_eq_true rfl⟩) (preVS hC (hP.sub [] rfl) (va_recv hC.1 hP (ci := 2) (q0 := 0) rfl rfl)) rfl rfl hl.1 rfl (lv_room (Nat.le_of_ble_eq_true rfl)) dX10_about_30 ⟨Nat.le_of_ble_eq_true rfl, Nat.le_of_ble_eq_true rfl⟩) ?_
     refine lv_goto (tgt := 44) hx hb dX10_about_33 (by decide) ?_
     exact retSi hx hb hr hlocks (by first | rw [abC, if_pos hq9, if_pos c26] | rw [abC, if_pos hq9, if_neg c26]) dX10_about_44
   ·have hq9 : wth xq (nI 0) (nI 1) = false := by rw [wth_iff (by decide) (by decide)]; have h2 : ¬ xq.toInt ≤ ((1 : Nat) : Int) := fun h => c19 ((x_le (by decide)).mpr h); exact decide_eq_false (by omega)
    refine lv_bipush (v := (-102)) hx hb dX10_about_22 (by decide) ?_
    exact retSi hx hb hr hlocks (by rw [abC, if_neg (by rw [hq9]; decide)]) dX10_about_24

set_option maxHeartbeats 4000000 in
set_option maxRecDepth 100000 in
/-- BoiledEggs.as  -/
theorem k_X10_as_1 (l : Launch) (g : GG) (oX : Nat) (oM : Nat) (oP : Nat) (oH : Nat) (oT : Nat) (oK : Nat) (oR : Nat) (oD : Nat) (aT : Nat) (tC : Nat) (tK : Nat) (iK : Int32) (kR : Nat) (bD : Nat) (tr : Nat → Option Nat) (xt : Nat) (xk : Int32) (hT : tC ≤ 4) (hx0 : xt < tC) (htr : tr xt = some oX) : Met l yX10_as wsX10_as ({ frames := 4, cells := 0, slots := 0, locals := 150 }) (pS g [.ref oM, .int (nI xt), .int xk] [(oX, .inr (2, [])), (oM, .inr (10, [.ref oP, .ref oH, .ref oT, .ref oK, .ref oR, .ref oD, .ref aT, .int (nI tC), .int (nI tK), .int iK, .int (nI kR), .int (nI bD)])), (aT, .inl (g.2.2.2.2, 4, .inr (.inr (.inr (.inr tr)))))]) (vp_Si (fun r => r = (asC 1 (nI xt) xk))) 0 0 noF := by
  refine metS (cc := cX10_as) (maxL := 4) (ret := (some .int)) (by decide) rfl (Nat.le_of_ble_eq_true rfl) ?_
  intro p e s m below meth c hx hb hr hts hown hlocks hml hC hP ls hl
  have hl : lv_has ls 4 [(0, .ref oM), (1, .int (nI xt)), (2, .int xk)] := hl
  have hown : s.vm.findClass RX10 = some m.cls := hown
  have hts : ∀ w ∈ wsX10_as, w.before ([.ref oM, .int (nI xt), .int xk] : List Value).toArray s = true := hts
  refine lv_aload_n hx hb dX10_as_0 rfl (lv_at hl 0 rfl) ?_
  refine lv_iload_n hx hb dX10_as_1 rfl (lv_at hl 1 rfl) ?_
  refine goSq (T := tr xt) (va_runV (As := [.int (nI xt)]) (rest := []) ⟨hx, hb, hml, hown, hts⟩ (k_X10_trierOf_s l g oM oP oH oT oK oR oD aT tC tK iK kR bD tr xt (by first | assumption | exact Nat.zero_le _ | omega) (by first | assumption | exact Nat.zero_le _ | omega)) (cwV 1 hts gX10_as_X10_trierOf rfl rfl rfl ⟨rfl, hdX10_trierOf⟩ ⟨Nat.le_of_ble_eq_true rfl, Nat.le_of_ble_eq_true rfl⟩) (preVS hC (hP.sub [1, 2] rfl) (va_recv hC.1 hP (ci := 10) (q0 := 1) rfl rfl)) rfl rfl hl.1 rfl (lv_room (Nat.le_of_ble_eq_true rfl)) dX10_as_2 ⟨Nat.le_of_ble_eq_true rfl, Nat.le_of_ble_eq_true rfl⟩) ?_
  refine top_r (y := some oX) (htr) ?_
  refine lv_astore_n (lv' := [(3, .ref oX), (0, .ref oM), (1, .int (nI xt)), (2, .int xk)]) hx hb dX10_as_5 rfl hl (by decide) rfl (fun ls hl => ?_)
  refine lv_aload_n hx hb dX10_as_6 rfl (lv_at hl 0 rfl) ?_
  refine lv_ifnonnull (tgt := 13) hx hb dX10_as_7 (by decide) ?_
  refine lv_iload_n hx hb dX10_as_13 rfl (lv_at hl 3 rfl) ?_
  refine goSi (T := zI (wth xk (nI 0) (nI 4))) (va_runS (As := [.int xk]) (rest := []) ⟨hx, hb, hml, hown, hts⟩ (k_X10_isKind l g xk ) (va_cwS 1 hts gX10_as_X10_isKind rfl rfl rfl hdX10_isKind ⟨Nat.le_of_ble_eq_true rfl, Nat.le_of_ble_eq_true rfl⟩) (preSS hC (hP.sub [] rfl)) rfl rfl hl.1 rfl (lv_room (Nat.le_of_ble_eq_true rfl)) dX10_as_14 ⟨Nat.le_of_ble_eq_true rfl, Nat.le_of_ble_eq_true rfl⟩) ?_
  refine lv_if_ne (tgt := 23) hx hb dX10_as_17 (by decide) (fun c17 => ?_) (fun c17 => ?_)
  ·have c17 := zI_t.mp c17
   obtain ⟨k, hk, rfl⟩ := wth_n c17
   refine lv_aload_n hx hb dX10_as_23 rfl (lv_at hl 0 rfl) ?_
   refine lv_iload_n hx hb dX10_as_24 rfl (lv_at hl 3 rfl) ?_
   refine goSi (T := zI (asK (nI 1) (nI k))) (va_runS (As := [.ref oX, .int (nI k)]) (rest := []) ⟨hx, hb, hml, hown, hts⟩ (k_X10_isOfKind_1 l g oX k (by first | assumption | exact Nat.zero_le _ | omega)) (va_cwS 2 hts gX10_as_X10_isOfKind rfl rfl rfl hdX10_isOfKind ⟨Nat.le_of_ble_eq_true rfl, Nat.le_of_ble_eq_true rfl⟩) (preSS hC (hP.sub [0] rfl)) rfl rfl hl.1 rfl (lv_room (Nat.le_of_ble_eq_true rfl)) dX10_as_25 ⟨Nat.le_of_ble_eq_true rfl, Nat.le_of_ble_eq_true rfl⟩) ?_
   refine lv_if_eq (tgt := 35) hx hb dX10_as_28 (by decide) (fun c28 => ?_) (fun c28 => ?_)
   ·have c28 := zI_f.mp c28
    refine lv_iconst (v := (-1)) hx hb dX10_as_35 (by decide) ?_
    exact retSi hx hb hr hlocks (by first | rw [asC, if_pos c17, if_pos c28] | rw [asC, if_pos c17, if_neg (by rw [c28]; decide)]) dX10_as_36
   ·have c28 := zI_t.mp c28
    refine lv_iload_n hx hb dX10_as_31 rfl (lv_at hl 2 rfl) ?_
    refine lv_goto (tgt := 36) hx hb dX10_as_32 (by decide) ?_
    exact retSi hx hb hr hlocks (by first | rw [asC, if_pos c17, if_pos c28] | rw [asC, if_pos c17, if_neg (by rw [c28]; decide)]) dX10_as_36
  ·have c17 := zI_f.mp c17
   refine lv_bipush (v := (-102)) hx hb dX10_as_20 (by decide) ?_
   exact retSi hx hb hr hlocks (by rw [asC, if_neg (by rw [c17]; decide)]) dX10_as_22

set_option maxHeartbeats 4000000 in
set_option maxRecDepth 100000 in
/-- BoiledEggs.about  -/
theorem k_X10_about_2 (l : Launch) (g : GG) (oX : Nat) (oM : Nat) (oP : Nat) (oH : Nat) (oT : Nat) (oK : Nat) (oR : Nat) (oD : Nat) (aT : Nat) (tC : Nat) (tK : Nat) (iK : Int32) (kR : Nat) (bD : Nat) (aB : Nat) (aW : Nat) (aS : Nat) (aU : Nat) (aK : Nat) (fi : Nat) (ib : Nat) (sn : Nat) (fB : Nat → Nat) (fW : Nat → Nat) (tr : Nat → Option Nat) (xt : Nat) (xq : Int32) (hT : tC ≤ 4) (hx0 : xt < tC) (htr : tr xt = some oX) (hf0 : fi ≤ 20) (hB : ∀ j, fB j < 64) (hib : ib < 64) : Met l yX10_about wsX10_about ({ frames := 6, cells := 0, slots := 0, locals := 200 }) (pS g [.ref oM, .int (nI xt), .int xq] [(oX, .inr (0, [])), (oM, .inr (10, [.ref oP, .ref oH, .ref oT, .ref oK, .ref oR, .ref oD, .ref aT, .int (nI tC), .int (nI tK), .int iK, .int (nI kR), .int (nI bD)])), (aT, .inl (g.2.2.2.2, 4, .inr (.inr (.inr (.inr tr))))), (oT, .inr (8, [.ref aB, .ref aW, .ref aS, .ref aU, .ref aK, .int (nI fi), .int (nI ib), .int (nI sn)])), (aB, .inl (g.2.1, 20, .inl (fun j => nI (fB j)))), (aW, .inl (g.2.2.1, 20, .inr (.inl (fun j => lN (fW j)))))]) (vp_Si (fun r => r = (abC fB fW fi ib (nI 2) xq))) 0 0 noF := by
  refine metS (cc := cX10_about) (maxL := 4) (ret := (some .int)) (by decide) rfl (Nat.le_of_ble_eq_true rfl) ?_
  intro p e s m below meth c hx hb hr hts hown hlocks hml hC hP ls hl
  have hl : lv_has ls 4 [(0, .ref oM), (1, .int (nI xt)), (2, .int xq)] := hl
  have hown : s.vm.findClass RX10 = some m.cls := hown
  have hts : ∀ w ∈ wsX10_about, w.before ([.ref oM, .int (nI xt), .int xq] : List Value).toArray s = true := hts
  have hinX10 := (by decide +kernel : ∀ w ∈ u_ws RX10 TX10 12, w ∈ wsX10_about)
  have f26 := hts (.fieldLink RX10 26 "BoiledEggs" "told" "LBoiledEggs$Told;") (by decide +kernel)
  have ocX9_kind := (by decide +kernel : Cond.code yX9_kind cX9_kind 1 (some .int) ∈ wsX10_about)
  refine lv_aload_n hx hb dX10_about_0 rfl (lv_at hl 0 rfl) ?_
  refine lv_iload_n hx hb dX10_about_1 rfl (lv_at hl 1 rfl) ?_
  refine goSq (T := tr xt) (va_runV (As := [.int (nI xt)]) (rest := []) ⟨hx, hb, hml, hown, hts⟩ (k_X10_trierOf_s l g oM oP oH oT oK oR oD aT tC tK iK kR bD tr xt (by first | assumption | exact Nat.zero_le _ | omega) (by first | assumption | exact Nat.zero_le _ | omega)) (cwV 1 hts gX10_about_X10_trierOf rfl rfl rfl ⟨rfl, hdX10_trierOf⟩ ⟨Nat.le_of_ble_eq_true rfl, Nat.le_of_ble_eq_true rfl⟩) (preVS hC (hP.sub [1, 2] rfl) (va_recv hC.1 hP (ci := 10) (q0 := 1) rfl rfl)) rfl rfl hl.1 rfl (lv_room (Nat.le_of_ble_eq_true rfl)) dX10_about_2 ⟨Nat.le_of_ble_eq_true rfl, Nat.le_of_ble_eq_true rfl⟩) ?_
  refine top_r (y := some oX) (htr) ?_
  refine lv_astore_n (lv' := [(3, .ref oX), (0, .ref oM), (1, .int (nI xt)), (2, .int xq)]) hx hb dX10_about_5 rfl hl (by decide) rfl (fun ls hl => ?_)
  refine lv_aload_n hx hb dX10_about_6 rfl (lv_at hl 0 rfl) ?_
  refine lv_ifnonnull (tgt := 13) hx hb dX10_about_7 (by decide) ?_
  refine lv_iload_n hx hb dX10_about_13 rfl (lv_at hl 3 rfl) ?_
  refine lv_if_lt (tgt := 22) hx hb dX10_about_14 (by decide) (fun c14 => ?_) (fun c14 => ?_)
  ·have hq9 : wth xq (nI 0) (nI 1) = false := by rw [wth_iff (by decide) (by decide)]; have := z_lt c14; exact decide_eq_false (by omega)
   refine lv_bipush (v := (-102)) hx hb dX10_about_22 (by decide) ?_
   exact retSi hx hb hr hlocks (by rw [abC, if_neg (by rw [hq9]; decide)]) dX10_about_24
  ·refine lv_iload_n hx hb dX10_about_17 rfl (lv_at hl 3 rfl) ?_
   refine lv_iconst (v := nI 1) hx hb dX10_about_18 (by decide) ?_
   refine lv_icmp_le (tgt := 25) hx hb dX10_about_19 (by decide) (fun c19 => ?_) (fun c19 => ?_)
   ·have hq9 : wth xq (nI 0) (nI 1) = true := by rw [wth_iff (by decide) (by decide)]; have h1 := z_nlt c14; have h2 := (x_le (by decide)).mp c19; exact decide_eq_true (by omega)
    refine lv_iload_n hx hb dX10_about_25 rfl (lv_at hl 3 rfl) ?_
    refine lv_if_ne (tgt := 36) hx hb dX10_about_26 (by decide) (fun c26 => ?_) (fun c26 => ?_)
    ·refine lv_aload_n hx hb dX10_about_36 rfl (lv_at hl 0 rfl) ?_
     refine lv_aload_n hx hb dX10_about_37 rfl (lv_at hl 1 rfl) ?_
     refine va_get (D := g.1) (ci := 10) (v := .ref oT) (C := RX10) (T := TX10) (N := 12) hx hb hts hinX10 hown hC.1 hP 1 rfl rfl 2 (by decide) f26 (fun _ h9 => h9) rfl dX10_about_38 ?_
     refine goSi (T := cnx fB fW fi ib (nI 2)) (va_runU (As := [.ref oT]) (rest := []) ⟨hx, hb, hml, hown, hts⟩ (k_X9_nextEgg_X0 l g oX oT aB aW aS aU aK fi ib sn fB fW (by first | assumption | exact Nat.zero_le _ | omega) (by first | assumption | exact Nat.zero_le _ | omega) (by first | assumption | exact Nat.zero_le _ | omega)) (va_cwU 1 hts gX10_about_X9_nextEgg_u227X0 rfl rfl rfl rfl (by decide +kernel) ⟨Nat.le_of_ble_eq_true rfl, Nat.le_of_ble_eq_true rfl⟩) (preVS hC (hP.sub [0, 3, 4, 5] rfl) (va_recv hC.1 hP (ci := 0) (q0 := 0) rfl rfl)) rfl rfl hl.1 rfl (lv_room (Nat.le_of_ble_eq_true rfl)) dX10_about_41 ⟨Nat.le_of_ble_eq_true rfl, Nat.le_of_ble_eq_true rfl⟩) ?_
     exact retSi hx hb hr hlocks (by first | rw [abC, if_pos hq9, if_pos c26] | rw [abC, if_pos hq9, if_neg c26]) dX10_about_44
    ·refine lv_aload_n hx hb dX10_about_29 rfl (lv_at hl 0 rfl) ?_
     refine goSi (T := nI 2) (va_runU (As := []) (rest := []) ⟨hx, hb, hml, hown, hts⟩ (k_X0_kind l g oX ) (va_cwO 0 hts gX10_about_X0_kind_u224X0 rfl rfl rfl ocX9_kind (by decide +kernel) ⟨Nat.le_of_ble_eq_true rfl, Nat.le_of_ble_eq_true rfl⟩) (preVS hC (hP.sub [] rfl) (va_recv hC.1 hP (ci := 0) (q0 := 0) rfl rfl)) rfl rfl hl.1 rfl (lv_room (Nat.le_of_ble_eq_true rfl)) dX10_about_30 ⟨Nat.le_of_ble_eq_true rfl, Nat.le_of_ble_eq_true rfl⟩) ?_
     refine lv_goto (tgt := 44) hx hb dX10_about_33 (by decide) ?_
     exact retSi hx hb hr hlocks (by first | rw [abC, if_pos hq9, if_pos c26] | rw [abC, if_pos hq9, if_neg c26]) dX10_about_44
   ·have hq9 : wth xq (nI 0) (nI 1) = false := by rw [wth_iff (by decide) (by decide)]; have h2 : ¬ xq.toInt ≤ ((1 : Nat) : Int) := fun h => c19 ((x_le (by decide)).mpr h); exact decide_eq_false (by omega)
    refine lv_bipush (v := (-102)) hx hb dX10_about_22 (by decide) ?_
    exact retSi hx hb hr hlocks (by rw [abC, if_neg (by rw [hq9]; decide)]) dX10_about_24

set_option maxHeartbeats 4000000 in
set_option maxRecDepth 100000 in
/-- BoiledEggs.as  -/
theorem k_X10_as_2 (l : Launch) (g : GG) (oX : Nat) (oM : Nat) (oP : Nat) (oH : Nat) (oT : Nat) (oK : Nat) (oR : Nat) (oD : Nat) (aT : Nat) (tC : Nat) (tK : Nat) (iK : Int32) (kR : Nat) (bD : Nat) (tr : Nat → Option Nat) (xt : Nat) (xk : Int32) (hT : tC ≤ 4) (hx0 : xt < tC) (htr : tr xt = some oX) : Met l yX10_as wsX10_as ({ frames := 4, cells := 0, slots := 0, locals := 150 }) (pS g [.ref oM, .int (nI xt), .int xk] [(oX, .inr (0, [])), (oM, .inr (10, [.ref oP, .ref oH, .ref oT, .ref oK, .ref oR, .ref oD, .ref aT, .int (nI tC), .int (nI tK), .int iK, .int (nI kR), .int (nI bD)])), (aT, .inl (g.2.2.2.2, 4, .inr (.inr (.inr (.inr tr)))))]) (vp_Si (fun r => r = (asC 2 (nI xt) xk))) 0 0 noF := by
  refine metS (cc := cX10_as) (maxL := 4) (ret := (some .int)) (by decide) rfl (Nat.le_of_ble_eq_true rfl) ?_
  intro p e s m below meth c hx hb hr hts hown hlocks hml hC hP ls hl
  have hl : lv_has ls 4 [(0, .ref oM), (1, .int (nI xt)), (2, .int xk)] := hl
  have hown : s.vm.findClass RX10 = some m.cls := hown
  have hts : ∀ w ∈ wsX10_as, w.before ([.ref oM, .int (nI xt), .int xk] : List Value).toArray s = true := hts
  refine lv_aload_n hx hb dX10_as_0 rfl (lv_at hl 0 rfl) ?_
  refine lv_iload_n hx hb dX10_as_1 rfl (lv_at hl 1 rfl) ?_
  refine goSq (T := tr xt) (va_runV (As := [.int (nI xt)]) (rest := []) ⟨hx, hb, hml, hown, hts⟩ (k_X10_trierOf_s l g oM oP oH oT oK oR oD aT tC tK iK kR bD tr xt (by first | assumption | exact Nat.zero_le _ | omega) (by first | assumption | exact Nat.zero_le _ | omega)) (cwV 1 hts gX10_as_X10_trierOf rfl rfl rfl ⟨rfl, hdX10_trierOf⟩ ⟨Nat.le_of_ble_eq_true rfl, Nat.le_of_ble_eq_true rfl⟩) (preVS hC (hP.sub [1, 2] rfl) (va_recv hC.1 hP (ci := 10) (q0 := 1) rfl rfl)) rfl rfl hl.1 rfl (lv_room (Nat.le_of_ble_eq_true rfl)) dX10_as_2 ⟨Nat.le_of_ble_eq_true rfl, Nat.le_of_ble_eq_true rfl⟩) ?_
  refine top_r (y := some oX) (htr) ?_
  refine lv_astore_n (lv' := [(3, .ref oX), (0, .ref oM), (1, .int (nI xt)), (2, .int xk)]) hx hb dX10_as_5 rfl hl (by decide) rfl (fun ls hl => ?_)
  refine lv_aload_n hx hb dX10_as_6 rfl (lv_at hl 0 rfl) ?_
  refine lv_ifnonnull (tgt := 13) hx hb dX10_as_7 (by decide) ?_
  refine lv_iload_n hx hb dX10_as_13 rfl (lv_at hl 3 rfl) ?_
  refine goSi (T := zI (wth xk (nI 0) (nI 4))) (va_runS (As := [.int xk]) (rest := []) ⟨hx, hb, hml, hown, hts⟩ (k_X10_isKind l g xk ) (va_cwS 1 hts gX10_as_X10_isKind rfl rfl rfl hdX10_isKind ⟨Nat.le_of_ble_eq_true rfl, Nat.le_of_ble_eq_true rfl⟩) (preSS hC (hP.sub [] rfl)) rfl rfl hl.1 rfl (lv_room (Nat.le_of_ble_eq_true rfl)) dX10_as_14 ⟨Nat.le_of_ble_eq_true rfl, Nat.le_of_ble_eq_true rfl⟩) ?_
  refine lv_if_ne (tgt := 23) hx hb dX10_as_17 (by decide) (fun c17 => ?_) (fun c17 => ?_)
  ·have c17 := zI_t.mp c17
   obtain ⟨k, hk, rfl⟩ := wth_n c17
   refine lv_aload_n hx hb dX10_as_23 rfl (lv_at hl 0 rfl) ?_
   refine lv_iload_n hx hb dX10_as_24 rfl (lv_at hl 3 rfl) ?_
   refine goSi (T := zI (asK (nI 2) (nI k))) (va_runS (As := [.ref oX, .int (nI k)]) (rest := []) ⟨hx, hb, hml, hown, hts⟩ (k_X10_isOfKind_2 l g oX k (by first | assumption | exact Nat.zero_le _ | omega)) (va_cwS 2 hts gX10_as_X10_isOfKind rfl rfl rfl hdX10_isOfKind ⟨Nat.le_of_ble_eq_true rfl, Nat.le_of_ble_eq_true rfl⟩) (preSS hC (hP.sub [0] rfl)) rfl rfl hl.1 rfl (lv_room (Nat.le_of_ble_eq_true rfl)) dX10_as_25 ⟨Nat.le_of_ble_eq_true rfl, Nat.le_of_ble_eq_true rfl⟩) ?_
   refine lv_if_eq (tgt := 35) hx hb dX10_as_28 (by decide) (fun c28 => ?_) (fun c28 => ?_)
   ·have c28 := zI_f.mp c28
    refine lv_iconst (v := (-1)) hx hb dX10_as_35 (by decide) ?_
    exact retSi hx hb hr hlocks (by first | rw [asC, if_pos c17, if_pos c28] | rw [asC, if_pos c17, if_neg (by rw [c28]; decide)]) dX10_as_36
   ·have c28 := zI_t.mp c28
    refine lv_iload_n hx hb dX10_as_31 rfl (lv_at hl 2 rfl) ?_
    refine lv_goto (tgt := 36) hx hb dX10_as_32 (by decide) ?_
    exact retSi hx hb hr hlocks (by first | rw [asC, if_pos c17, if_pos c28] | rw [asC, if_pos c17, if_neg (by rw [c28]; decide)]) dX10_as_36
  ·have c17 := zI_f.mp c17
   refine lv_bipush (v := (-102)) hx hb dX10_as_20 (by decide) ?_
   exact retSi hx hb hr hlocks (by rw [asC, if_neg (by rw [c17]; decide)]) dX10_as_22

set_option maxHeartbeats 4000000 in
set_option maxRecDepth 100000 in
/-- BoiledEggs.about  -/
theorem k_X10_about_3 (l : Launch) (g : GG) (oX : Nat) (oM : Nat) (oP : Nat) (oH : Nat) (oT : Nat) (oK : Nat) (oR : Nat) (oD : Nat) (aT : Nat) (tC : Nat) (tK : Nat) (iK : Int32) (kR : Nat) (bD : Nat) (aB : Nat) (aW : Nat) (aS : Nat) (aU : Nat) (aK : Nat) (fi : Nat) (ib : Nat) (sn : Nat) (fB : Nat → Nat) (fW : Nat → Nat) (tr : Nat → Option Nat) (xt : Nat) (xq : Int32) (hT : tC ≤ 4) (hx0 : xt < tC) (htr : tr xt = some oX) (hf0 : fi ≤ 20) (hB : ∀ j, fB j < 64) (hib : ib < 64) : Met l yX10_about wsX10_about ({ frames := 6, cells := 0, slots := 0, locals := 200 }) (pS g [.ref oM, .int (nI xt), .int xq] [(oX, .inr (5, [])), (oM, .inr (10, [.ref oP, .ref oH, .ref oT, .ref oK, .ref oR, .ref oD, .ref aT, .int (nI tC), .int (nI tK), .int iK, .int (nI kR), .int (nI bD)])), (aT, .inl (g.2.2.2.2, 4, .inr (.inr (.inr (.inr tr))))), (oT, .inr (8, [.ref aB, .ref aW, .ref aS, .ref aU, .ref aK, .int (nI fi), .int (nI ib), .int (nI sn)])), (aB, .inl (g.2.1, 20, .inl (fun j => nI (fB j)))), (aW, .inl (g.2.2.1, 20, .inr (.inl (fun j => lN (fW j)))))]) (vp_Si (fun r => r = (abC fB fW fi ib (nI 3) xq))) 0 0 noF := by
  refine metS (cc := cX10_about) (maxL := 4) (ret := (some .int)) (by decide) rfl (Nat.le_of_ble_eq_true rfl) ?_
  intro p e s m below meth c hx hb hr hts hown hlocks hml hC hP ls hl
  have hl : lv_has ls 4 [(0, .ref oM), (1, .int (nI xt)), (2, .int xq)] := hl
  have hown : s.vm.findClass RX10 = some m.cls := hown
  have hts : ∀ w ∈ wsX10_about, w.before ([.ref oM, .int (nI xt), .int xq] : List Value).toArray s = true := hts
  have hinX10 := (by decide +kernel : ∀ w ∈ u_ws RX10 TX10 12, w ∈ wsX10_about)
  have f26 := hts (.fieldLink RX10 26 "BoiledEggs" "told" "LBoiledEggs$Told;") (by decide +kernel)
  have ocX9_kind := (by decide +kernel : Cond.code yX9_kind cX9_kind 1 (some .int) ∈ wsX10_about)
  refine lv_aload_n hx hb dX10_about_0 rfl (lv_at hl 0 rfl) ?_
  refine lv_iload_n hx hb dX10_about_1 rfl (lv_at hl 1 rfl) ?_
  refine goSq (T := tr xt) (va_runV (As := [.int (nI xt)]) (rest := []) ⟨hx, hb, hml, hown, hts⟩ (k_X10_trierOf_s l g oM oP oH oT oK oR oD aT tC tK iK kR bD tr xt (by first | assumption | exact Nat.zero_le _ | omega) (by first | assumption | exact Nat.zero_le _ | omega)) (cwV 1 hts gX10_about_X10_trierOf rfl rfl rfl ⟨rfl, hdX10_trierOf⟩ ⟨Nat.le_of_ble_eq_true rfl, Nat.le_of_ble_eq_true rfl⟩) (preVS hC (hP.sub [1, 2] rfl) (va_recv hC.1 hP (ci := 10) (q0 := 1) rfl rfl)) rfl rfl hl.1 rfl (lv_room (Nat.le_of_ble_eq_true rfl)) dX10_about_2 ⟨Nat.le_of_ble_eq_true rfl, Nat.le_of_ble_eq_true rfl⟩) ?_
  refine top_r (y := some oX) (htr) ?_
  refine lv_astore_n (lv' := [(3, .ref oX), (0, .ref oM), (1, .int (nI xt)), (2, .int xq)]) hx hb dX10_about_5 rfl hl (by decide) rfl (fun ls hl => ?_)
  refine lv_aload_n hx hb dX10_about_6 rfl (lv_at hl 0 rfl) ?_
  refine lv_ifnonnull (tgt := 13) hx hb dX10_about_7 (by decide) ?_
  refine lv_iload_n hx hb dX10_about_13 rfl (lv_at hl 3 rfl) ?_
  refine lv_if_lt (tgt := 22) hx hb dX10_about_14 (by decide) (fun c14 => ?_) (fun c14 => ?_)
  ·have hq9 : wth xq (nI 0) (nI 1) = false := by rw [wth_iff (by decide) (by decide)]; have := z_lt c14; exact decide_eq_false (by omega)
   refine lv_bipush (v := (-102)) hx hb dX10_about_22 (by decide) ?_
   exact retSi hx hb hr hlocks (by rw [abC, if_neg (by rw [hq9]; decide)]) dX10_about_24
  ·refine lv_iload_n hx hb dX10_about_17 rfl (lv_at hl 3 rfl) ?_
   refine lv_iconst (v := nI 1) hx hb dX10_about_18 (by decide) ?_
   refine lv_icmp_le (tgt := 25) hx hb dX10_about_19 (by decide) (fun c19 => ?_) (fun c19 => ?_)
   ·have hq9 : wth xq (nI 0) (nI 1) = true := by rw [wth_iff (by decide) (by decide)]; have h1 := z_nlt c14; have h2 := (x_le (by decide)).mp c19; exact decide_eq_true (by omega)
    refine lv_iload_n hx hb dX10_about_25 rfl (lv_at hl 3 rfl) ?_
    refine lv_if_ne (tgt := 36) hx hb dX10_about_26 (by decide) (fun c26 => ?_) (fun c26 => ?_)
    ·refine lv_aload_n hx hb dX10_about_36 rfl (lv_at hl 0 rfl) ?_
     refine lv_aload_n hx hb dX10_about_37 rfl (lv_at hl 1 rfl) ?_
     refine va_get (D := g.1) (ci := 10) (v := .ref oT) (C := RX10) (T := TX10) (N := 12) hx hb hts hinX10 hown hC.1 hP 1 rfl rfl 2 (by decide) f26 (fun _ h9 => h9) rfl dX10_about_38 ?_
     refine goSi (T := cnx fB fW fi ib (nI 3)) (va_runU (As := [.ref oT]) (rest := []) ⟨hx, hb, hml, hown, hts⟩ (k_X9_nextEgg_X5 l g oX oT aB aW aS aU aK fi ib sn fB fW (by first | assumption | exact Nat.zero_le _ | omega) (by first | assumption | exact Nat.zero_le _ | omega) (by first | assumption | exact Nat.zero_le _ | omega)) (va_cwU 1 hts gX10_about_X9_nextEgg_u227X5 rfl rfl rfl rfl (by decide +kernel) ⟨Nat.le_of_ble_eq_true rfl, Nat.le_of_ble_eq_true rfl⟩) (preVS hC (hP.sub [0, 3, 4, 5] rfl) (va_recv hC.1 hP (ci := 5) (q0 := 0) rfl rfl)) rfl rfl hl.1 rfl (lv_room (Nat.le_of_ble_eq_true rfl)) dX10_about_41 ⟨Nat.le_of_ble_eq_true rfl, Nat.le_of_ble_eq_true rfl⟩) ?_
     exact retSi hx hb hr hlocks (by first | rw [abC, if_pos hq9, if_pos c26] | rw [abC, if_pos hq9, if_neg c26]) dX10_about_44
    ·refine lv_aload_n hx hb dX10_about_29 rfl (lv_at hl 0 rfl) ?_
     refine goSi (T := nI 3) (va_runU (As := []) (rest := []) ⟨hx, hb, hml, hown, hts⟩ (k_X5_kind l g oX ) (va_cwO 0 hts gX10_about_X5_kind_u224X5 rfl rfl rfl ocX9_kind (by decide +kernel) ⟨Nat.le_of_ble_eq_true rfl, Nat.le_of_ble_eq_true rfl⟩) (preVS hC (hP.sub [] rfl) (va_recv hC.1 hP (ci := 5) (q0 := 0) rfl rfl)) rfl rfl hl.1 rfl (lv_room (Nat.le_of_ble_eq_true rfl)) dX10_about_30 ⟨Nat.le_of_ble_eq_true rfl, Nat.le_of_ble_eq_true rfl⟩) ?_
     refine lv_goto (tgt := 44) hx hb dX10_about_33 (by decide) ?_
     exact retSi hx hb hr hlocks (by first | rw [abC, if_pos hq9, if_pos c26] | rw [abC, if_pos hq9, if_neg c26]) dX10_about_44
   ·have hq9 : wth xq (nI 0) (nI 1) = false := by rw [wth_iff (by decide) (by decide)]; have h2 : ¬ xq.toInt ≤ ((1 : Nat) : Int) := fun h => c19 ((x_le (by decide)).mpr h); exact decide_eq_false (by omega)
    refine lv_bipush (v := (-102)) hx hb dX10_about_22 (by decide) ?_
    exact retSi hx hb hr hlocks (by rw [abC, if_neg (by rw [hq9]; decide)]) dX10_about_24

set_option maxHeartbeats 4000000 in
set_option maxRecDepth 100000 in
/-- BoiledEggs.as  -/
theorem k_X10_as_3 (l : Launch) (g : GG) (oX : Nat) (oM : Nat) (oP : Nat) (oH : Nat) (oT : Nat) (oK : Nat) (oR : Nat) (oD : Nat) (aT : Nat) (tC : Nat) (tK : Nat) (iK : Int32) (kR : Nat) (bD : Nat) (tr : Nat → Option Nat) (xt : Nat) (xk : Int32) (hT : tC ≤ 4) (hx0 : xt < tC) (htr : tr xt = some oX) : Met l yX10_as wsX10_as ({ frames := 4, cells := 0, slots := 0, locals := 150 }) (pS g [.ref oM, .int (nI xt), .int xk] [(oX, .inr (5, [])), (oM, .inr (10, [.ref oP, .ref oH, .ref oT, .ref oK, .ref oR, .ref oD, .ref aT, .int (nI tC), .int (nI tK), .int iK, .int (nI kR), .int (nI bD)])), (aT, .inl (g.2.2.2.2, 4, .inr (.inr (.inr (.inr tr)))))]) (vp_Si (fun r => r = (asC 3 (nI xt) xk))) 0 0 noF := by
  refine metS (cc := cX10_as) (maxL := 4) (ret := (some .int)) (by decide) rfl (Nat.le_of_ble_eq_true rfl) ?_
  intro p e s m below meth c hx hb hr hts hown hlocks hml hC hP ls hl
  have hl : lv_has ls 4 [(0, .ref oM), (1, .int (nI xt)), (2, .int xk)] := hl
  have hown : s.vm.findClass RX10 = some m.cls := hown
  have hts : ∀ w ∈ wsX10_as, w.before ([.ref oM, .int (nI xt), .int xk] : List Value).toArray s = true := hts
  refine lv_aload_n hx hb dX10_as_0 rfl (lv_at hl 0 rfl) ?_
  refine lv_iload_n hx hb dX10_as_1 rfl (lv_at hl 1 rfl) ?_
  refine goSq (T := tr xt) (va_runV (As := [.int (nI xt)]) (rest := []) ⟨hx, hb, hml, hown, hts⟩ (k_X10_trierOf_s l g oM oP oH oT oK oR oD aT tC tK iK kR bD tr xt (by first | assumption | exact Nat.zero_le _ | omega) (by first | assumption | exact Nat.zero_le _ | omega)) (cwV 1 hts gX10_as_X10_trierOf rfl rfl rfl ⟨rfl, hdX10_trierOf⟩ ⟨Nat.le_of_ble_eq_true rfl, Nat.le_of_ble_eq_true rfl⟩) (preVS hC (hP.sub [1, 2] rfl) (va_recv hC.1 hP (ci := 10) (q0 := 1) rfl rfl)) rfl rfl hl.1 rfl (lv_room (Nat.le_of_ble_eq_true rfl)) dX10_as_2 ⟨Nat.le_of_ble_eq_true rfl, Nat.le_of_ble_eq_true rfl⟩) ?_
  refine top_r (y := some oX) (htr) ?_
  refine lv_astore_n (lv' := [(3, .ref oX), (0, .ref oM), (1, .int (nI xt)), (2, .int xk)]) hx hb dX10_as_5 rfl hl (by decide) rfl (fun ls hl => ?_)
  refine lv_aload_n hx hb dX10_as_6 rfl (lv_at hl 0 rfl) ?_
  refine lv_ifnonnull (tgt := 13) hx hb dX10_as_7 (by decide) ?_
  refine lv_iload_n hx hb dX10_as_13 rfl (lv_at hl 3 rfl) ?_
  refine goSi (T := zI (wth xk (nI 0) (nI 4))) (va_runS (As := [.int xk]) (rest := []) ⟨hx, hb, hml, hown, hts⟩ (k_X10_isKind l g xk ) (va_cwS 1 hts gX10_as_X10_isKind rfl rfl rfl hdX10_isKind ⟨Nat.le_of_ble_eq_true rfl, Nat.le_of_ble_eq_true rfl⟩) (preSS hC (hP.sub [] rfl)) rfl rfl hl.1 rfl (lv_room (Nat.le_of_ble_eq_true rfl)) dX10_as_14 ⟨Nat.le_of_ble_eq_true rfl, Nat.le_of_ble_eq_true rfl⟩) ?_
  refine lv_if_ne (tgt := 23) hx hb dX10_as_17 (by decide) (fun c17 => ?_) (fun c17 => ?_)
  ·have c17 := zI_t.mp c17
   obtain ⟨k, hk, rfl⟩ := wth_n c17
   refine lv_aload_n hx hb dX10_as_23 rfl (lv_at hl 0 rfl) ?_
   refine lv_iload_n hx hb dX10_as_24 rfl (lv_at hl 3 rfl) ?_
   refine goSi (T := zI (asK (nI 3) (nI k))) (va_runS (As := [.ref oX, .int (nI k)]) (rest := []) ⟨hx, hb, hml, hown, hts⟩ (k_X10_isOfKind_3 l g oX k (by first | assumption | exact Nat.zero_le _ | omega)) (va_cwS 2 hts gX10_as_X10_isOfKind rfl rfl rfl hdX10_isOfKind ⟨Nat.le_of_ble_eq_true rfl, Nat.le_of_ble_eq_true rfl⟩) (preSS hC (hP.sub [0] rfl)) rfl rfl hl.1 rfl (lv_room (Nat.le_of_ble_eq_true rfl)) dX10_as_25 ⟨Nat.le_of_ble_eq_true rfl, Nat.le_of_ble_eq_true rfl⟩) ?_
   refine lv_if_eq (tgt := 35) hx hb dX10_as_28 (by decide) (fun c28 => ?_) (fun c28 => ?_)
   ·have c28 := zI_f.mp c28
    refine lv_iconst (v := (-1)) hx hb dX10_as_35 (by decide) ?_
    exact retSi hx hb hr hlocks (by first | rw [asC, if_pos c17, if_pos c28] | rw [asC, if_pos c17, if_neg (by rw [c28]; decide)]) dX10_as_36
   ·have c28 := zI_t.mp c28
    refine lv_iload_n hx hb dX10_as_31 rfl (lv_at hl 2 rfl) ?_
    refine lv_goto (tgt := 36) hx hb dX10_as_32 (by decide) ?_
    exact retSi hx hb hr hlocks (by first | rw [asC, if_pos c17, if_pos c28] | rw [asC, if_pos c17, if_neg (by rw [c28]; decide)]) dX10_as_36
  ·have c17 := zI_f.mp c17
   refine lv_bipush (v := (-102)) hx hb dX10_as_20 (by decide) ?_
   exact retSi hx hb hr hlocks (by rw [asC, if_neg (by rw [c17]; decide)]) dX10_as_22

set_option maxHeartbeats 4000000 in
set_option maxRecDepth 100000 in
/-- BoiledEggs.about  -/
theorem k_X10_about_4 (l : Launch) (g : GG) (oX : Nat) (oM : Nat) (oP : Nat) (oH : Nat) (oT : Nat) (oK : Nat) (oR : Nat) (oD : Nat) (aT : Nat) (tC : Nat) (tK : Nat) (iK : Int32) (kR : Nat) (bD : Nat) (aB : Nat) (aW : Nat) (aS : Nat) (aU : Nat) (aK : Nat) (fi : Nat) (ib : Nat) (sn : Nat) (fB : Nat → Nat) (fW : Nat → Nat) (tr : Nat → Option Nat) (xt : Nat) (xq : Int32) (hT : tC ≤ 4) (hx0 : xt < tC) (htr : tr xt = some oX) (hf0 : fi ≤ 20) (hB : ∀ j, fB j < 64) (hib : ib < 64) : Met l yX10_about wsX10_about ({ frames := 6, cells := 0, slots := 0, locals := 200 }) (pS g [.ref oM, .int (nI xt), .int xq] [(oX, .inr (4, [])), (oM, .inr (10, [.ref oP, .ref oH, .ref oT, .ref oK, .ref oR, .ref oD, .ref aT, .int (nI tC), .int (nI tK), .int iK, .int (nI kR), .int (nI bD)])), (aT, .inl (g.2.2.2.2, 4, .inr (.inr (.inr (.inr tr))))), (oT, .inr (8, [.ref aB, .ref aW, .ref aS, .ref aU, .ref aK, .int (nI fi), .int (nI ib), .int (nI sn)])), (aB, .inl (g.2.1, 20, .inl (fun j => nI (fB j)))), (aW, .inl (g.2.2.1, 20, .inr (.inl (fun j => lN (fW j)))))]) (vp_Si (fun r => r = (abC fB fW fi ib (nI 4) xq))) 0 0 noF := by
  refine metS (cc := cX10_about) (maxL := 4) (ret := (some .int)) (by decide) rfl (Nat.le_of_ble_eq_true rfl) ?_
  intro p e s m below meth c hx hb hr hts hown hlocks hml hC hP ls hl
  have hl : lv_has ls 4 [(0, .ref oM), (1, .int (nI xt)), (2, .int xq)] := hl
  have hown : s.vm.findClass RX10 = some m.cls := hown
  have hts : ∀ w ∈ wsX10_about, w.before ([.ref oM, .int (nI xt), .int xq] : List Value).toArray s = true := hts
  have hinX10 := (by decide +kernel : ∀ w ∈ u_ws RX10 TX10 12, w ∈ wsX10_about)
  have f26 := hts (.fieldLink RX10 26 "BoiledEggs" "told" "LBoiledEggs$Told;") (by decide +kernel)
  have ocX9_kind := (by decide +kernel : Cond.code yX9_kind cX9_kind 1 (some .int) ∈ wsX10_about)
  refine lv_aload_n hx hb dX10_about_0 rfl (lv_at hl 0 rfl) ?_
  refine lv_iload_n hx hb dX10_about_1 rfl (lv_at hl 1 rfl) ?_
  refine goSq (T := tr xt) (va_runV (As := [.int (nI xt)]) (rest := []) ⟨hx, hb, hml, hown, hts⟩ (k_X10_trierOf_s l g oM oP oH oT oK oR oD aT tC tK iK kR bD tr xt (by first | assumption | exact Nat.zero_le _ | omega) (by first | assumption | exact Nat.zero_le _ | omega)) (cwV 1 hts gX10_about_X10_trierOf rfl rfl rfl ⟨rfl, hdX10_trierOf⟩ ⟨Nat.le_of_ble_eq_true rfl, Nat.le_of_ble_eq_true rfl⟩) (preVS hC (hP.sub [1, 2] rfl) (va_recv hC.1 hP (ci := 10) (q0 := 1) rfl rfl)) rfl rfl hl.1 rfl (lv_room (Nat.le_of_ble_eq_true rfl)) dX10_about_2 ⟨Nat.le_of_ble_eq_true rfl, Nat.le_of_ble_eq_true rfl⟩) ?_
  refine top_r (y := some oX) (htr) ?_
  refine lv_astore_n (lv' := [(3, .ref oX), (0, .ref oM), (1, .int (nI xt)), (2, .int xq)]) hx hb dX10_about_5 rfl hl (by decide) rfl (fun ls hl => ?_)
  refine lv_aload_n hx hb dX10_about_6 rfl (lv_at hl 0 rfl) ?_
  refine lv_ifnonnull (tgt := 13) hx hb dX10_about_7 (by decide) ?_
  refine lv_iload_n hx hb dX10_about_13 rfl (lv_at hl 3 rfl) ?_
  refine lv_if_lt (tgt := 22) hx hb dX10_about_14 (by decide) (fun c14 => ?_) (fun c14 => ?_)
  ·have hq9 : wth xq (nI 0) (nI 1) = false := by rw [wth_iff (by decide) (by decide)]; have := z_lt c14; exact decide_eq_false (by omega)
   refine lv_bipush (v := (-102)) hx hb dX10_about_22 (by decide) ?_
   exact retSi hx hb hr hlocks (by rw [abC, if_neg (by rw [hq9]; decide)]) dX10_about_24
  ·refine lv_iload_n hx hb dX10_about_17 rfl (lv_at hl 3 rfl) ?_
   refine lv_iconst (v := nI 1) hx hb dX10_about_18 (by decide) ?_
   refine lv_icmp_le (tgt := 25) hx hb dX10_about_19 (by decide) (fun c19 => ?_) (fun c19 => ?_)
   ·have hq9 : wth xq (nI 0) (nI 1) = true := by rw [wth_iff (by decide) (by decide)]; have h1 := z_nlt c14; have h2 := (x_le (by decide)).mp c19; exact decide_eq_true (by omega)
    refine lv_iload_n hx hb dX10_about_25 rfl (lv_at hl 3 rfl) ?_
    refine lv_if_ne (tgt := 36) hx hb dX10_about_26 (by decide) (fun c26 => ?_) (fun c26 => ?_)
    ·refine lv_aload_n hx hb dX10_about_36 rfl (lv_at hl 0 rfl) ?_
     refine lv_aload_n hx hb dX10_about_37 rfl (lv_at hl 1 rfl) ?_
     refine va_get (D := g.1) (ci := 10) (v := .ref oT) (C := RX10) (T := TX10) (N := 12) hx hb hts hinX10 hown hC.1 hP 1 rfl rfl 2 (by decide) f26 (fun _ h9 => h9) rfl dX10_about_38 ?_
     refine goSi (T := cnx fB fW fi ib (nI 4)) (va_runU (As := [.ref oT]) (rest := []) ⟨hx, hb, hml, hown, hts⟩ (k_X9_nextEgg_X4 l g oX oT aB aW aS aU aK fi ib sn fB fW (by first | assumption | exact Nat.zero_le _ | omega) (by first | assumption | exact Nat.zero_le _ | omega) (by first | assumption | exact Nat.zero_le _ | omega)) (va_cwU 1 hts gX10_about_X9_nextEgg_u227X4 rfl rfl rfl rfl (by decide +kernel) ⟨Nat.le_of_ble_eq_true rfl, Nat.le_of_ble_eq_true rfl⟩) (preVS hC (hP.sub [0, 3, 4, 5] rfl) (va_recv hC.1 hP (ci := 4) (q0 := 0) rfl rfl)) rfl rfl hl.1 rfl (lv_room (Nat.le_of_ble_eq_true rfl)) dX10_about_41 ⟨Nat.le_of_ble_eq_true rfl, Nat.le_of_ble_eq_true rfl⟩) ?_
     exact retSi hx hb hr hlocks (by first | rw [abC, if_pos hq9, if_pos c26] | rw [abC, if_pos hq9, if_neg c26]) dX10_about_44
    ·refine lv_aload_n hx hb dX10_about_29 rfl (lv_at hl 0 rfl) ?_
     refine goSi (T := nI 4) (va_runU (As := []) (rest := []) ⟨hx, hb, hml, hown, hts⟩ (k_X4_kind l g oX ) (va_cwO 0 hts gX10_about_X4_kind_u224X4 rfl rfl rfl ocX9_kind (by decide +kernel) ⟨Nat.le_of_ble_eq_true rfl, Nat.le_of_ble_eq_true rfl⟩) (preVS hC (hP.sub [] rfl) (va_recv hC.1 hP (ci := 4) (q0 := 0) rfl rfl)) rfl rfl hl.1 rfl (lv_room (Nat.le_of_ble_eq_true rfl)) dX10_about_30 ⟨Nat.le_of_ble_eq_true rfl, Nat.le_of_ble_eq_true rfl⟩) ?_
     refine lv_goto (tgt := 44) hx hb dX10_about_33 (by decide) ?_
     exact retSi hx hb hr hlocks (by first | rw [abC, if_pos hq9, if_pos c26] | rw [abC, if_pos hq9, if_neg c26]) dX10_about_44
   ·have hq9 : wth xq (nI 0) (nI 1) = false := by rw [wth_iff (by decide) (by decide)]; have h2 : ¬ xq.toInt ≤ ((1 : Nat) : Int) := fun h => c19 ((x_le (by decide)).mpr h); exact decide_eq_false (by omega)
    refine lv_bipush (v := (-102)) hx hb dX10_about_22 (by decide) ?_
    exact retSi hx hb hr hlocks (by rw [abC, if_neg (by rw [hq9]; decide)]) dX10_about_24

set_option maxHeartbeats 4000000 in
set_option maxRecDepth 100000 in
/-- BoiledEggs.as  -/
theorem k_X10_as_4 (l : Launch) (g : GG) (oX : Nat) (oM : Nat) (oP : Nat) (oH : Nat) (oT : Nat) (oK : Nat) (oR : Nat) (oD : Nat) (aT : Nat) (tC : Nat) (tK : Nat) (iK : Int32) (kR : Nat) (bD : Nat) (tr : Nat → Option Nat) (xt : Nat) (xk : Int32) (hT : tC ≤ 4) (hx0 : xt < tC) (htr : tr xt = some oX) : Met l yX10_as wsX10_as ({ frames := 4, cells := 0, slots := 0, locals := 150 }) (pS g [.ref oM, .int (nI xt), .int xk] [(oX, .inr (4, [])), (oM, .inr (10, [.ref oP, .ref oH, .ref oT, .ref oK, .ref oR, .ref oD, .ref aT, .int (nI tC), .int (nI tK), .int iK, .int (nI kR), .int (nI bD)])), (aT, .inl (g.2.2.2.2, 4, .inr (.inr (.inr (.inr tr)))))]) (vp_Si (fun r => r = (asC 4 (nI xt) xk))) 0 0 noF := by
  refine metS (cc := cX10_as) (maxL := 4) (ret := (some .int)) (by decide) rfl (Nat.le_of_ble_eq_true rfl) ?_
  intro p e s m below meth c hx hb hr hts hown hlocks hml hC hP ls hl
  have hl : lv_has ls 4 [(0, .ref oM), (1, .int (nI xt)), (2, .int xk)] := hl
  have hown : s.vm.findClass RX10 = some m.cls := hown
  have hts : ∀ w ∈ wsX10_as, w.before ([.ref oM, .int (nI xt), .int xk] : List Value).toArray s = true := hts
  refine lv_aload_n hx hb dX10_as_0 rfl (lv_at hl 0 rfl) ?_
  refine lv_iload_n hx hb dX10_as_1 rfl (lv_at hl 1 rfl) ?_
  refine goSq (T := tr xt) (va_runV (As := [.int (nI xt)]) (rest := []) ⟨hx, hb, hml, hown, hts⟩ (k_X10_trierOf_s l g oM oP oH oT oK oR oD aT tC tK iK kR bD tr xt (by first | assumption | exact Nat.zero_le _ | omega) (by first | assumption | exact Nat.zero_le _ | omega)) (cwV 1 hts gX10_as_X10_trierOf rfl rfl rfl ⟨rfl, hdX10_trierOf⟩ ⟨Nat.le_of_ble_eq_true rfl, Nat.le_of_ble_eq_true rfl⟩) (preVS hC (hP.sub [1, 2] rfl) (va_recv hC.1 hP (ci := 10) (q0 := 1) rfl rfl)) rfl rfl hl.1 rfl (lv_room (Nat.le_of_ble_eq_true rfl)) dX10_as_2 ⟨Nat.le_of_ble_eq_true rfl, Nat.le_of_ble_eq_true rfl⟩) ?_
  refine top_r (y := some oX) (htr) ?_
  refine lv_astore_n (lv' := [(3, .ref oX), (0, .ref oM), (1, .int (nI xt)), (2, .int xk)]) hx hb dX10_as_5 rfl hl (by decide) rfl (fun ls hl => ?_)
  refine lv_aload_n hx hb dX10_as_6 rfl (lv_at hl 0 rfl) ?_
  refine lv_ifnonnull (tgt := 13) hx hb dX10_as_7 (by decide) ?_
  refine lv_iload_n hx hb dX10_as_13 rfl (lv_at hl 3 rfl) ?_
  refine goSi (T := zI (wth xk (nI 0) (nI 4))) (va_runS (As := [.int xk]) (rest := []) ⟨hx, hb, hml, hown, hts⟩ (k_X10_isKind l g xk ) (va_cwS 1 hts gX10_as_X10_isKind rfl rfl rfl hdX10_isKind ⟨Nat.le_of_ble_eq_true rfl, Nat.le_of_ble_eq_true rfl⟩) (preSS hC (hP.sub [] rfl)) rfl rfl hl.1 rfl (lv_room (Nat.le_of_ble_eq_true rfl)) dX10_as_14 ⟨Nat.le_of_ble_eq_true rfl, Nat.le_of_ble_eq_true rfl⟩) ?_
  refine lv_if_ne (tgt := 23) hx hb dX10_as_17 (by decide) (fun c17 => ?_) (fun c17 => ?_)
  ·have c17 := zI_t.mp c17
   obtain ⟨k, hk, rfl⟩ := wth_n c17
   refine lv_aload_n hx hb dX10_as_23 rfl (lv_at hl 0 rfl) ?_
   refine lv_iload_n hx hb dX10_as_24 rfl (lv_at hl 3 rfl) ?_
   refine goSi (T := zI (asK (nI 4) (nI k))) (va_runS (As := [.ref oX, .int (nI k)]) (rest := []) ⟨hx, hb, hml, hown, hts⟩ (k_X10_isOfKind_4 l g oX k (by first | assumption | exact Nat.zero_le _ | omega)) (va_cwS 2 hts gX10_as_X10_isOfKind rfl rfl rfl hdX10_isOfKind ⟨Nat.le_of_ble_eq_true rfl, Nat.le_of_ble_eq_true rfl⟩) (preSS hC (hP.sub [0] rfl)) rfl rfl hl.1 rfl (lv_room (Nat.le_of_ble_eq_true rfl)) dX10_as_25 ⟨Nat.le_of_ble_eq_true rfl, Nat.le_of_ble_eq_true rfl⟩) ?_
   refine lv_if_eq (tgt := 35) hx hb dX10_as_28 (by decide) (fun c28 => ?_) (fun c28 => ?_)
   ·have c28 := zI_f.mp c28
    refine lv_iconst (v := (-1)) hx hb dX10_as_35 (by decide) ?_
    exact retSi hx hb hr hlocks (by first | rw [asC, if_pos c17, if_pos c28] | rw [asC, if_pos c17, if_neg (by rw [c28]; decide)]) dX10_as_36
   ·have c28 := zI_t.mp c28
    refine lv_iload_n hx hb dX10_as_31 rfl (lv_at hl 2 rfl) ?_
    refine lv_goto (tgt := 36) hx hb dX10_as_32 (by decide) ?_
    exact retSi hx hb hr hlocks (by first | rw [asC, if_pos c17, if_pos c28] | rw [asC, if_pos c17, if_neg (by rw [c28]; decide)]) dX10_as_36
  ·have c17 := zI_f.mp c17
   refine lv_bipush (v := (-102)) hx hb dX10_as_20 (by decide) ?_
   exact retSi hx hb hr hlocks (by rw [asC, if_neg (by rw [c17]; decide)]) dX10_as_22

theorem k_X10_newTrier (l : Launch) (g : GG) (sz : Nat) (xk : Nat) (hk0 : xk < 5) : Met l yX10_newTrier wsX10_newTrier ({ frames := 4, cells := 1, slots := 0, locals := 120 }) (pM g sz [.int (nI xk)] []) (qMr g (fun (_ : Unit) => True) (fun (_ : Unit) (ra : Nat) => [(ra, .inr (kc xk, []))]) (va_A [] sz)) 1 0 (va_A [] sz) := by
  rcases (show xk = 0 ∨ xk = 1 ∨ xk = 2 ∨ xk = 3 ∨ xk = 4 by omega) with rfl | rfl | rfl | rfl | rfl
  · exact k_X10_newTrier_0 l g sz
  · exact k_X10_newTrier_1 l g sz
  · exact k_X10_newTrier_2 l g sz
  · exact k_X10_newTrier_3 l g sz
  · exact k_X10_newTrier_4 l g sz

theorem k_X10_about_v (l : Launch) (g : GG) (oX : Nat) (oM : Nat) (oP : Nat) (oH : Nat) (oT : Nat) (oK : Nat) (oR : Nat) (oD : Nat) (aT : Nat) (tC : Nat) (tK : Nat) (iK : Int32) (kR : Nat) (bD : Nat) (aB : Nat) (aW : Nat) (aS : Nat) (aU : Nat) (aK : Nat) (fi : Nat) (ib : Nat) (sn : Nat) (fB : Nat → Nat) (fW : Nat → Nat) (tr : Nat → Option Nat) (xt : Nat) (xq : Int32) (kk : Nat) (hT : tC ≤ 4) (hx0 : xt < tC) (htr : tr xt = some oX) (hf0 : fi ≤ 20) (hB : ∀ j, fB j < 64) (hib : ib < 64) (hk0 : kk < 5) : Met l yX10_about wsX10_about ({ frames := 6, cells := 0, slots := 0, locals := 200 }) (pS g [.ref oM, .int (nI xt), .int xq] [(oX, .inr (kc kk, [])), (oM, .inr (10, [.ref oP, .ref oH, .ref oT, .ref oK, .ref oR, .ref oD, .ref aT, .int (nI tC), .int (nI tK), .int iK, .int (nI kR), .int (nI bD)])), (aT, .inl (g.2.2.2.2, 4, .inr (.inr (.inr (.inr tr))))), (oT, .inr (8, [.ref aB, .ref aW, .ref aS, .ref aU, .ref aK, .int (nI fi), .int (nI ib), .int (nI sn)])), (aB, .inl (g.2.1, 20, .inl (fun j => nI (fB j)))), (aW, .inl (g.2.2.1, 20, .inr (.inl (fun j => lN (fW j)))))]) (vp_Si (fun r => r = (abC fB fW fi ib (nI kk) xq))) 0 0 noF := by
  rcases (show kk = 0 ∨ kk = 1 ∨ kk = 2 ∨ kk = 3 ∨ kk = 4 by omega) with rfl | rfl | rfl | rfl | rfl
  · exact k_X10_about_0 l g oX oM oP oH oT oK oR oD aT tC tK iK kR bD aB aW aS aU aK fi ib sn fB fW tr xt xq hT hx0 htr hf0 hB hib
  · exact k_X10_about_1 l g oX oM oP oH oT oK oR oD aT tC tK iK kR bD aB aW aS aU aK fi ib sn fB fW tr xt xq hT hx0 htr hf0 hB hib
  · exact k_X10_about_2 l g oX oM oP oH oT oK oR oD aT tC tK iK kR bD aB aW aS aU aK fi ib sn fB fW tr xt xq hT hx0 htr hf0 hB hib
  · exact k_X10_about_3 l g oX oM oP oH oT oK oR oD aT tC tK iK kR bD aB aW aS aU aK fi ib sn fB fW tr xt xq hT hx0 htr hf0 hB hib
  · exact k_X10_about_4 l g oX oM oP oH oT oK oR oD aT tC tK iK kR bD aB aW aS aU aK fi ib sn fB fW tr xt xq hT hx0 htr hf0 hB hib

theorem k_X10_as_v (l : Launch) (g : GG) (oX : Nat) (oM : Nat) (oP : Nat) (oH : Nat) (oT : Nat) (oK : Nat) (oR : Nat) (oD : Nat) (aT : Nat) (tC : Nat) (tK : Nat) (iK : Int32) (kR : Nat) (bD : Nat) (tr : Nat → Option Nat) (xt : Nat) (xk : Int32) (kk : Nat) (hT : tC ≤ 4) (hx0 : xt < tC) (htr : tr xt = some oX) (hk0 : kk < 5) : Met l yX10_as wsX10_as ({ frames := 4, cells := 0, slots := 0, locals := 150 }) (pS g [.ref oM, .int (nI xt), .int xk] [(oX, .inr (kc kk, [])), (oM, .inr (10, [.ref oP, .ref oH, .ref oT, .ref oK, .ref oR, .ref oD, .ref aT, .int (nI tC), .int (nI tK), .int iK, .int (nI kR), .int (nI bD)])), (aT, .inl (g.2.2.2.2, 4, .inr (.inr (.inr (.inr tr)))))]) (vp_Si (fun r => r = (asC kk (nI xt) xk))) 0 0 noF := by
  rcases (show kk = 0 ∨ kk = 1 ∨ kk = 2 ∨ kk = 3 ∨ kk = 4 by omega) with rfl | rfl | rfl | rfl | rfl
  · exact k_X10_as_0 l g oX oM oP oH oT oK oR oD aT tC tK iK kR bD tr xt xk hT hx0 htr
  · exact k_X10_as_1 l g oX oM oP oH oT oK oR oD aT tC tK iK kR bD tr xt xk hT hx0 htr
  · exact k_X10_as_2 l g oX oM oP oH oT oK oR oD aT tC tK iK kR bD tr xt xk hT hx0 htr
  · exact k_X10_as_3 l g oX oM oP oH oT oK oR oD aT tC tK iK kR bD tr xt xk hT hx0 htr
  · exact k_X10_as_4 l g oX oM oP oH oT oK oR oD aT tC tK iK kR bD tr xt xk hT hx0 htr
