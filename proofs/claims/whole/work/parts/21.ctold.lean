theorem smB_t {B w : Nat → Nat} {e i : Nat} (h : (B i).testBit e = true) : smB B w e (i + 1) = smB B w e i + w i := if_pos h
theorem smB_f {B w : Nat → Nat} {e i : Nat} (h : (B i).testBit e = false) : smB B w e (i + 1) = smB B w e i := if_neg (by rw [h]; decide)
theorem bgS_t {hh : Nat → Nat} {E B : Nat} {fB fW : Nat → Nat} {i : Nat} (h : popS i 6 = B) : bgS hh E B fB fW (i + 1) = kpS (bgS hh E B fB fW i) i (hbP hh E i) := if_pos h
theorem bgS_f {hh : Nat → Nat} {E B : Nat} {fB fW : Nat → Nat} {i : Nat} (h : ¬ popS i 6 = B) : bgS hh E B fB fW (i + 1) = bgS hh E B fB fW i := if_neg h
set_option maxHeartbeats 4000000 in
set_option maxRecDepth 100000 in
/-- BoiledEggs$Told.isInBox  -/
theorem k_X8_isInBox (l : Launch) (g : GG) (oT : Nat) (aB : Nat) (aW : Nat) (aS : Nat) (aU : Nat) (aK : Nat) (fi : Nat) (ib : Nat) (sn : Nat) (xe : Nat) (he0 : xe < 31) (hib : ib < 64) : Met l yX8_isInBox wsX8_isInBox ({ frames := 1, cells := 0, slots := 0, locals := 21 }) (pS g [.ref oT, .int (nI xe)] [(oT, .inr (8, [.ref aB, .ref aW, .ref aS, .ref aU, .ref aK, .int (nI fi), .int (nI ib), .int (nI sn)]))]) (vp_Si (fun r => r = (zI (ib.testBit xe)))) 0 0 noF := by
  refine metS (cc := cX8_isInBox) (maxL := 2) (ret := (some .boolean)) (by decide) rfl (Nat.le_of_ble_eq_true rfl) ?_
  intro p e s m below meth c hx hb hr hts hown hlocks hml hC hP ls hl
  have hl : lv_has ls 2 [(0, .ref oT), (1, .int (nI xe))] := hl
  have hown : s.vm.findClass RX8 = some m.cls := hown
  have hts : ∀ w ∈ wsX8_isInBox, w.before ([.ref oT, .int (nI xe)] : List Value).toArray s = true := hts
  have hinX8 := (by decide +kernel : ∀ w ∈ u_ws RX8 TX8 8, w ∈ wsX8_isInBox)
  have f55 := hts (.fieldLink RX8 55 "BoiledEggs$Told" "inBox" "I") (by decide +kernel)
  have iniX10 := hts (.initialized RX10) (by decide +kernel)
  have st78 := hts (.static yX10_has) (by decide +kernel)
  refine lv_aload_n hx hb dX8_isInBox_0 rfl (lv_at hl 0 rfl) ?_
  refine va_get (D := g.1) (ci := 8) (v := .int (nI ib)) (C := RX8) (T := TX8) (N := 8) hx hb hts hinX8 hown hC.1 hP 0 rfl rfl 6 (by decide) f55 (fun _ h9 => h9) rfl dX8_isInBox_1 ?_
  refine lv_iload_n hx hb dX8_isInBox_4 rfl (lv_at hl 1 rfl) ?_
  refine goSi (T := zI (ib.testBit xe)) (va_runSN (As := [.int (nI ib), .int (nI xe)]) (rest := []) ⟨hx, hb, hml, hown, hts⟩ (k_X10_has l g ib xe (by first | assumption | exact Nat.zero_le _ | omega) (by first | assumption | exact Nat.zero_le _ | omega)) ⟨va_cnB 2 hts gX8_isInBox_X10_has_n78 rfl rfl rfl (hC.2.1 (.methodLinkNest RX8 78 yX10_has "BoiledEggs") (by decide +kernel)) iniX10 hdX10_has ⟨Nat.le_of_ble_eq_true rfl, Nat.le_of_ble_eq_true rfl⟩, st78, trivial⟩ (preSS hC (hP.sub [] rfl)) rfl rfl hl.1 rfl (lv_room (Nat.le_of_ble_eq_true rfl)) dX8_isInBox_5 ⟨Nat.le_of_ble_eq_true rfl, Nat.le_of_ble_eq_true rfl⟩) ?_
  exact retSz hx hb hr hlocks (zI_or _) (rfl) dX8_isInBox_8

set_option maxHeartbeats 4000000 in
set_option maxRecDepth 100000 in
/-- BoiledEggs$Told.howManyInBox  -/
theorem k_X8_howManyInBox (l : Launch) (g : GG) (oT : Nat) (aB : Nat) (aW : Nat) (aS : Nat) (aU : Nat) (aK : Nat) (fi : Nat) (ib : Nat) (sn : Nat) (hib : ib < 64) : Met l yX8_howManyInBox wsX8_howManyInBox ({ frames := 1, cells := 0, slots := 0, locals := 20 }) (pS g [.ref oT] [(oT, .inr (8, [.ref aB, .ref aW, .ref aS, .ref aU, .ref aK, .int (nI fi), .int (nI ib), .int (nI sn)]))]) (vp_Si (fun r => r = (nI (popS ib 6)))) 0 0 noF := by
  refine metS (cc := cX8_howManyInBox) (maxL := 1) (ret := (some .int)) (by decide) rfl (Nat.le_of_ble_eq_true rfl) ?_
  intro p e s m below meth c hx hb hr hts hown hlocks hml hC hP ls hl
  have hl : lv_has ls 1 [(0, .ref oT)] := hl
  have hown : s.vm.findClass RX8 = some m.cls := hown
  have hts : ∀ w ∈ wsX8_howManyInBox, w.before ([.ref oT] : List Value).toArray s = true := hts
  have hinX8 := (by decide +kernel : ∀ w ∈ u_ws RX8 TX8 8, w ∈ wsX8_howManyInBox)
  have f55 := hts (.fieldLink RX8 55 "BoiledEggs$Told" "inBox" "I") (by decide +kernel)
  refine lv_aload_n hx hb dX8_howManyInBox_0 rfl (lv_at hl 0 rfl) ?_
  refine va_get (D := g.1) (ci := 8) (v := .int (nI ib)) (C := RX8) (T := TX8) (N := 8) hx hb hts hinX8 hown hC.1 hP 0 rfl rfl 6 (by decide) f55 (fun _ h9 => h9) rfl dX8_howManyInBox_1 ?_
  refine goSi (T := nI (popS ib 6)) (va_runS (As := [.int (nI ib)]) (rest := []) ⟨hx, hb, hml, hown, hts⟩ (k_J6_bitCount l g ib (by first | assumption | exact Nat.zero_le _ | omega)) (va_cwS 1 hts gX8_howManyInBox_J6_bitCount_0f7a4 rfl rfl rfl hdJ6_bitCount_0f7a4 ⟨Nat.le_of_ble_eq_true rfl, Nat.le_of_ble_eq_true rfl⟩) (preSS hC (hP.sub [] rfl)) rfl rfl hl.1 rfl (lv_room (Nat.le_of_ble_eq_true rfl)) dX8_howManyInBox_4 ⟨Nat.le_of_ble_eq_true rfl, Nat.le_of_ble_eq_true rfl⟩) ?_
  exact retSi hx hb hr hlocks (rfl) dX8_howManyInBox_7

set_option maxHeartbeats 4000000 in
set_option maxRecDepth 100000 in
/-- BoiledEggs$Told.<init>  -/
theorem k_X8_init (l : Launch) (g : GG) (sz : Nat) (oT : Nat)  : Met l yX8_init wsX8_init ({ frames := 1, cells := 5, slots := 58, locals := 20 }) (pM g sz [.ref oT] [(oT, .inr (8, [.null, .null, .null, .null, .null, .int 0, .int 0, .int 0]))]) (qMv g (fun (_ : Nat × Nat × Nat × Nat × Nat) => True) (fun (u : Nat × Nat × Nat × Nat × Nat) => [(oT, .inr (8, [.ref u.1, .ref u.2.1, .ref u.2.2.1, .ref u.2.2.2.1, .ref u.2.2.2.2, .int (nI 0), .int (nI 0), .int (nI 0)])), (u.1, .inl (g.2.1, 20, .inl (fun j => nI (zz j)))), (u.2.1, .inl (g.2.2.1, 20, .inr (.inl (fun j => lN (zz j))))), (u.2.2.1, .inl (g.2.1, 6, .inl (fun j => nI (zz j)))), (u.2.2.2.1, .inl (g.2.1, 6, .inl (fun j => nI (zz j)))), (u.2.2.2.2, .inl (g.2.1, 6, .inl (fun _ => 0)))]) (va_A [(oT, .inr (8, [.null, .null, .null, .null, .null, .int 0, .int 0, .int 0]))] sz)) 5 58 (va_A [(oT, .inr (8, [.null, .null, .null, .null, .null, .int 0, .int 0, .int 0]))] sz) := by
  refine metM (Qf := fun A => (qMv g (fun (_ : Nat × Nat × Nat × Nat × Nat) => True) (fun (u : Nat × Nat × Nat × Nat × Nat) => [(oT, .inr (8, [.ref u.1, .ref u.2.1, .ref u.2.2.1, .ref u.2.2.2.1, .ref u.2.2.2.2, .int (nI 0), .int (nI 0), .int (nI 0)])), (u.1, .inl (g.2.1, 20, .inl (fun j => nI (zz j)))), (u.2.1, .inl (g.2.2.1, 20, .inr (.inl (fun j => lN (zz j))))), (u.2.2.1, .inl (g.2.1, 6, .inl (fun j => nI (zz j)))), (u.2.2.2.1, .inl (g.2.1, 6, .inl (fun j => nI (zz j)))), (u.2.2.2.2, .inl (g.2.1, 6, .inl (fun _ => 0)))]) A)) (cc := cX8_init) (maxL := 1) (ret := none) (by decide) rfl (Nat.le_of_ble_eq_true rfl) ?_
  intro p e s m below meth c hx hb hr hts hown hlocks hml hin0 hC A hA hP hD hS ls hl
  have hl : lv_has ls 1 [(0, .ref oT)] := hl
  have hown : s.vm.findClass RX8 = some m.cls := hown
  have hts : ∀ w ∈ wsX8_init, w.before ([.ref oT] : List Value).toArray s = true := hts
  have lo3 := hts (.methodLink RX8 3 objectInit) (by decide +kernel)
  have oi := hts (.instanceMethod objectInit) (by decide +kernel)
  have oc := hts (.code objectInit ⟨#[0xb1]⟩ 1 none) (by decide +kernel)
  have acint := hts (.arrayClass .int) (by decide +kernel)
  have hinX8 := (by decide +kernel : ∀ w ∈ u_ws RX8 TX8 8, w ∈ wsX8_init)
  have f9 := hts (.fieldLink RX8 9 "BoiledEggs$Told" "boxes" "[I") (by decide +kernel)
  have aclong := hts (.arrayClass .long) (by decide +kernel)
  have f15 := hts (.fieldLink RX8 15 "BoiledEggs$Told" "weights" "[J") (by decide +kernel)
  have f19 := hts (.fieldLink RX8 19 "BoiledEggs$Told" "spins" "[I") (by decide +kernel)
  have f22 := hts (.fieldLink RX8 22 "BoiledEggs$Told" "turned" "[I") (by decide +kernel)
  have f25 := hts (.fieldLink RX8 25 "BoiledEggs$Told" "known" "[I") (by decide +kernel)
  refine lv_aload_n hx hb dX8_init_0 rfl (lv_at hl 0 rfl) ?_
  refine W.objInit hx hb hown lo3 oi oc rfl (by rw [hml]; exact hl.1) rfl dX8_init_1 (Nat.le_of_ble_eq_true rfl) (Nat.le_of_ble_eq_true rfl) ?_
  refine W.eq (g2 := F0 m 4 ls []) rfl ?_
  refine lv_aload_n hx hb dX8_init_4 rfl (lv_at hl 0 rfl) ?_
  refine lv_bipush (v := nI 20) hx hb dX8_init_5 (by decide) ?_
  refine new_i (N := 20) hx hb hC acint hP hD hS hA (by decide) (by decide) (by decide) (Nat.le_of_ble_eq_true rfl) (Nat.le_of_ble_eq_true rfl) dX8_init_7 (fun q_1 H hP hD hS => ?_)
  have hP : va_P g.1 vwCl [(oT, .inr (8, [.null, .null, .null, .null, .null, .int 0, .int 0, .int 0])), (q_1, .inl (g.2.1, 20, .inl (fun _ => 0)))] H := hP
  have hD : va_D A [(oT, .inr (8, [.null, .null, .null, .null, .null, .int 0, .int 0, .int 0])), (q_1, .inl (g.2.1, 20, .inl (fun _ => 0)))] := hD
  refine W.widen (k := 1) (n := 20) (Nat.le_of_ble_eq_true rfl) (Nat.le_of_ble_eq_true rfl) ?_
  refine va_putF (D := g.1) (ci := 8) (v := .ref q_1) (ty := .array .int) (C := RX8) (T := TX8) (N := 8) hx hb hts hinX8 tyX8 tyX8_ok nmX8 hown hC.1 hP hD hS 0 rfl rfl 0 (by decide) f9 (fun _ h9 => h9) rfl hin0 rfl (by decide +kernel) rfl rfl (Nat.le_of_ble_eq_true rfl) dX8_init_9 (fun H locs hP hD hS => ?_)
  have hP : va_P g.1 vwCl [(oT, .inr (8, [.ref q_1, .null, .null, .null, .null, .int 0, .int 0, .int 0])), (q_1, .inl (g.2.1, 20, .inl (fun _ => 0)))] H := hP
  have hD : va_D A [(oT, .inr (8, [.ref q_1, .null, .null, .null, .null, .int 0, .int 0, .int 0])), (q_1, .inl (g.2.1, 20, .inl (fun _ => 0)))] := hD
  refine lv_aload_n hx hb dX8_init_12 rfl (lv_at hl 0 rfl) ?_
  refine lv_bipush (v := nI 20) hx hb dX8_init_13 (by decide) ?_
  refine new_l (N := 20) hx hb hC aclong hP hD hS hA (by decide) (by decide) (by decide) (Nat.le_of_ble_eq_true rfl) (Nat.le_of_ble_eq_true rfl) dX8_init_15 (fun q_2 H hP hD hS => ?_)
  have hP : va_P g.1 vwCl [(oT, .inr (8, [.ref q_1, .null, .null, .null, .null, .int 0, .int 0, .int 0])), (q_1, .inl (g.2.1, 20, .inl (fun _ => 0))), (q_2, .inl (g.2.2.1, 20, .inr (.inl (fun _ => 0))))] H := hP
  have hD : va_D A [(oT, .inr (8, [.ref q_1, .null, .null, .null, .null, .int 0, .int 0, .int 0])), (q_1, .inl (g.2.1, 20, .inl (fun _ => 0))), (q_2, .inl (g.2.2.1, 20, .inr (.inl (fun _ => 0))))] := hD
  refine W.widen (k := 2) (n := 40) (Nat.le_of_ble_eq_true rfl) (Nat.le_of_ble_eq_true rfl) ?_
  refine va_putF (D := g.1) (ci := 8) (v := .ref q_2) (ty := .array .long) (C := RX8) (T := TX8) (N := 8) hx hb hts hinX8 tyX8 tyX8_ok nmX8 hown hC.1 hP hD hS 0 rfl rfl 1 (by decide) f15 (fun _ h9 => h9) rfl hin0 rfl (by decide +kernel) rfl rfl (Nat.le_of_ble_eq_true rfl) dX8_init_17 (fun H locs hP hD hS => ?_)
  have hP : va_P g.1 vwCl [(oT, .inr (8, [.ref q_1, .ref q_2, .null, .null, .null, .int 0, .int 0, .int 0])), (q_1, .inl (g.2.1, 20, .inl (fun _ => 0))), (q_2, .inl (g.2.2.1, 20, .inr (.inl (fun _ => 0))))] H := hP
  have hD : va_D A [(oT, .inr (8, [.ref q_1, .ref q_2, .null, .null, .null, .int 0, .int 0, .int 0])), (q_1, .inl (g.2.1, 20, .inl (fun _ => 0))), (q_2, .inl (g.2.2.1, 20, .inr (.inl (fun _ => 0))))] := hD
  refine lv_aload_n hx hb dX8_init_20 rfl (lv_at hl 0 rfl) ?_
  refine lv_bipush (v := nI 6) hx hb dX8_init_21 (by decide) ?_
  refine new_i (N := 6) hx hb hC acint hP hD hS hA (by decide) (by decide) (by decide) (Nat.le_of_ble_eq_true rfl) (Nat.le_of_ble_eq_true rfl) dX8_init_23 (fun q_3 H hP hD hS => ?_)
  have hP : va_P g.1 vwCl [(oT, .inr (8, [.ref q_1, .ref q_2, .null, .null, .null, .int 0, .int 0, .int 0])), (q_1, .inl (g.2.1, 20, .inl (fun _ => 0))), (q_2, .inl (g.2.2.1, 20, .inr (.inl (fun _ => 0)))), (q_3, .inl (g.2.1, 6, .inl (fun _ => 0)))] H := hP
  have hD : va_D A [(oT, .inr (8, [.ref q_1, .ref q_2, .null, .null, .null, .int 0, .int 0, .int 0])), (q_1, .inl (g.2.1, 20, .inl (fun _ => 0))), (q_2, .inl (g.2.2.1, 20, .inr (.inl (fun _ => 0)))), (q_3, .inl (g.2.1, 6, .inl (fun _ => 0)))] := hD
  refine W.widen (k := 3) (n := 46) (Nat.le_of_ble_eq_true rfl) (Nat.le_of_ble_eq_true rfl) ?_
  refine va_putF (D := g.1) (ci := 8) (v := .ref q_3) (ty := .array .int) (C := RX8) (T := TX8) (N := 8) hx hb hts hinX8 tyX8 tyX8_ok nmX8 hown hC.1 hP hD hS 0 rfl rfl 2 (by decide) f19 (fun _ h9 => h9) rfl hin0 rfl (by decide +kernel) rfl rfl (Nat.le_of_ble_eq_true rfl) dX8_init_25 (fun H locs hP hD hS => ?_)
  have hP : va_P g.1 vwCl [(oT, .inr (8, [.ref q_1, .ref q_2, .ref q_3, .null, .null, .int 0, .int 0, .int 0])), (q_1, .inl (g.2.1, 20, .inl (fun _ => 0))), (q_2, .inl (g.2.2.1, 20, .inr (.inl (fun _ => 0)))), (q_3, .inl (g.2.1, 6, .inl (fun _ => 0)))] H := hP
  have hD : va_D A [(oT, .inr (8, [.ref q_1, .ref q_2, .ref q_3, .null, .null, .int 0, .int 0, .int 0])), (q_1, .inl (g.2.1, 20, .inl (fun _ => 0))), (q_2, .inl (g.2.2.1, 20, .inr (.inl (fun _ => 0)))), (q_3, .inl (g.2.1, 6, .inl (fun _ => 0)))] := hD
  refine lv_aload_n hx hb dX8_init_28 rfl (lv_at hl 0 rfl) ?_
  refine lv_bipush (v := nI 6) hx hb dX8_init_29 (by decide) ?_
  refine new_i (N := 6) hx hb hC acint hP hD hS hA (by decide) (by decide) (by decide) (Nat.le_of_ble_eq_true rfl) (Nat.le_of_ble_eq_true rfl) dX8_init_31 (fun q_4 H hP hD hS => ?_)
  have hP : va_P g.1 vwCl [(oT, .inr (8, [.ref q_1, .ref q_2, .ref q_3, .null, .null, .int 0, .int 0, .int 0])), (q_1, .inl (g.2.1, 20, .inl (fun _ => 0))), (q_2, .inl (g.2.2.1, 20, .inr (.inl (fun _ => 0)))), (q_3, .inl (g.2.1, 6, .inl (fun _ => 0))), (q_4, .inl (g.2.1, 6, .inl (fun _ => 0)))] H := hP
  have hD : va_D A [(oT, .inr (8, [.ref q_1, .ref q_2, .ref q_3, .null, .null, .int 0, .int 0, .int 0])), (q_1, .inl (g.2.1, 20, .inl (fun _ => 0))), (q_2, .inl (g.2.2.1, 20, .inr (.inl (fun _ => 0)))), (q_3, .inl (g.2.1, 6, .inl (fun _ => 0))), (q_4, .inl (g.2.1, 6, .inl (fun _ => 0)))] := hD
  refine W.widen (k := 4) (n := 52) (Nat.le_of_ble_eq_true rfl) (Nat.le_of_ble_eq_true rfl) ?_
  refine va_putF (D := g.1) (ci := 8) (v := .ref q_4) (ty := .array .int) (C := RX8) (T := TX8) (N := 8) hx hb hts hinX8 tyX8 tyX8_ok nmX8 hown hC.1 hP hD hS 0 rfl rfl 3 (by decide) f22 (fun _ h9 => h9) rfl hin0 rfl (by decide +kernel) rfl rfl (Nat.le_of_ble_eq_true rfl) dX8_init_33 (fun H locs hP hD hS => ?_)
  have hP : va_P g.1 vwCl [(oT, .inr (8, [.ref q_1, .ref q_2, .ref q_3, .ref q_4, .null, .int 0, .int 0, .int 0])), (q_1, .inl (g.2.1, 20, .inl (fun _ => 0))), (q_2, .inl (g.2.2.1, 20, .inr (.inl (fun _ => 0)))), (q_3, .inl (g.2.1, 6, .inl (fun _ => 0))), (q_4, .inl (g.2.1, 6, .inl (fun _ => 0)))] H := hP
  have hD : va_D A [(oT, .inr (8, [.ref q_1, .ref q_2, .ref q_3, .ref q_4, .null, .int 0, .int 0, .int 0])), (q_1, .inl (g.2.1, 20, .inl (fun _ => 0))), (q_2, .inl (g.2.2.1, 20, .inr (.inl (fun _ => 0)))), (q_3, .inl (g.2.1, 6, .inl (fun _ => 0))), (q_4, .inl (g.2.1, 6, .inl (fun _ => 0)))] := hD
  refine lv_aload_n hx hb dX8_init_36 rfl (lv_at hl 0 rfl) ?_
  refine lv_bipush (v := nI 6) hx hb dX8_init_37 (by decide) ?_
  refine new_i (N := 6) hx hb hC acint hP hD hS hA (by decide) (by decide) (by decide) (Nat.le_of_ble_eq_true rfl) (Nat.le_of_ble_eq_true rfl) dX8_init_39 (fun q_5 H hP hD hS => ?_)
  have hP : va_P g.1 vwCl [(oT, .inr (8, [.ref q_1, .ref q_2, .ref q_3, .ref q_4, .null, .int 0, .int 0, .int 0])), (q_1, .inl (g.2.1, 20, .inl (fun _ => 0))), (q_2, .inl (g.2.2.1, 20, .inr (.inl (fun _ => 0)))), (q_3, .inl (g.2.1, 6, .inl (fun _ => 0))), (q_4, .inl (g.2.1, 6, .inl (fun _ => 0))), (q_5, .inl (g.2.1, 6, .inl (fun _ => 0)))] H := hP
  have hD : va_D A [(oT, .inr (8, [.ref q_1, .ref q_2, .ref q_3, .ref q_4, .null, .int 0, .int 0, .int 0])), (q_1, .inl (g.2.1, 20, .inl (fun _ => 0))), (q_2, .inl (g.2.2.1, 20, .inr (.inl (fun _ => 0)))), (q_3, .inl (g.2.1, 6, .inl (fun _ => 0))), (q_4, .inl (g.2.1, 6, .inl (fun _ => 0))), (q_5, .inl (g.2.1, 6, .inl (fun _ => 0)))] := hD
  refine W.widen (k := 5) (n := 58) (Nat.le_of_ble_eq_true rfl) (Nat.le_of_ble_eq_true rfl) ?_
  refine va_putF (D := g.1) (ci := 8) (v := .ref q_5) (ty := .array .int) (C := RX8) (T := TX8) (N := 8) hx hb hts hinX8 tyX8 tyX8_ok nmX8 hown hC.1 hP hD hS 0 rfl rfl 4 (by decide) f25 (fun _ h9 => h9) rfl hin0 rfl (by decide +kernel) rfl rfl (Nat.le_of_ble_eq_true rfl) dX8_init_41 (fun H locs hP hD hS => ?_)
  have hP : va_P g.1 vwCl [(oT, .inr (8, [.ref q_1, .ref q_2, .ref q_3, .ref q_4, .ref q_5, .int 0, .int 0, .int 0])), (q_1, .inl (g.2.1, 20, .inl (fun _ => 0))), (q_2, .inl (g.2.2.1, 20, .inr (.inl (fun _ => 0)))), (q_3, .inl (g.2.1, 6, .inl (fun _ => 0))), (q_4, .inl (g.2.1, 6, .inl (fun _ => 0))), (q_5, .inl (g.2.1, 6, .inl (fun _ => 0)))] H := hP
  have hD : va_D A [(oT, .inr (8, [.ref q_1, .ref q_2, .ref q_3, .ref q_4, .ref q_5, .int 0, .int 0, .int 0])), (q_1, .inl (g.2.1, 20, .inl (fun _ => 0))), (q_2, .inl (g.2.2.1, 20, .inr (.inl (fun _ => 0)))), (q_3, .inl (g.2.1, 6, .inl (fun _ => 0))), (q_4, .inl (g.2.1, 6, .inl (fun _ => 0))), (q_5, .inl (g.2.1, 6, .inl (fun _ => 0)))] := hD
  refine W.widen (k := 5) (n := 58) (Nat.le_of_ble_eq_true rfl) (Nat.le_of_ble_eq_true rfl) ?_
  exact retMv (w := [(oT, .inr (8, [.ref q_1, .ref q_2, .ref q_3, .ref q_4, .ref q_5, .int 0, .int 0, .int 0])), (q_1, .inl (g.2.1, 20, .inl (fun _ => 0))), (q_2, .inl (g.2.2.1, 20, .inr (.inl (fun _ => 0)))), (q_3, .inl (g.2.1, 6, .inl (fun _ => 0))), (q_4, .inl (g.2.1, 6, .inl (fun _ => 0))), (q_5, .inl (g.2.1, 6, .inl (fun _ => 0)))]) hx hb hr hlocks (hP.sub [0, 1, 2, 3, 4, 5] rfl) (hD.sub [0, 1, 2, 3, 4, 5] (by decide) rfl) hS (q_1, q_2, q_3, q_4, q_5) (rfl) (trivial) dX8_init_44

set_option maxHeartbeats 4000000 in
set_option maxRecDepth 100000 in
/-- BoiledEggs$Told.keep  -/
theorem k_X8_keep (l : Launch) (g : GG) (sz : Nat) (oT : Nat) (aB : Nat) (aW : Nat) (aS : Nat) (aU : Nat) (aK : Nat) (fi : Nat) (ib : Nat) (sn : Nat) (fB : Nat → Nat) (fW : Nat → Nat) (xb : Nat) (xv : Nat) (hf0 : fi ≤ 20) (hv0 : xv < 2 ^ 63) : Met l yX8_keep wsX8_keep ({ frames := 0, cells := 0, slots := 0, locals := 0 }) (pM g sz [.ref oT, .int (nI xb), .long (lN xv)] [(oT, .inr (8, [.ref aB, .ref aW, .ref aS, .ref aU, .ref aK, .int (nI fi), .int (nI ib), .int (nI sn)])), (aB, .inl (g.2.1, 20, .inl (fun j => nI (fB j)))), (aW, .inl (g.2.2.1, 20, .inr (.inl (fun j => lN (fW j)))))]) (qMv g (fun (_ : Unit) => True) (fun (_ : Unit) => [(oT, .inr (8, [.ref aB, .ref aW, .ref aS, .ref aU, .ref aK, .int (nI (kF fi xv)), .int (nI ib), .int (nI sn)])), (aB, .inl (g.2.1, 20, .inl (fun j => nI (kB fB fi xb xv j)))), (aW, .inl (g.2.2.1, 20, .inr (.inl (fun j => lN (kW fW fi xv j)))))]) (va_A [(oT, .inr (8, [.ref aB, .ref aW, .ref aS, .ref aU, .ref aK, .int (nI fi), .int (nI ib), .int (nI sn)])), (aB, .inl (g.2.1, 20, .inl (fun j => nI (fB j)))), (aW, .inl (g.2.2.1, 20, .inr (.inl (fun j => lN (fW j)))))] sz)) 0 0 (va_A [(oT, .inr (8, [.ref aB, .ref aW, .ref aS, .ref aU, .ref aK, .int (nI fi), .int (nI ib), .int (nI sn)])), (aB, .inl (g.2.1, 20, .inl (fun j => nI (fB j)))), (aW, .inl (g.2.2.1, 20, .inr (.inl (fun j => lN (fW j)))))] sz) := by
  refine metM (Qf := fun A => (qMv g (fun (_ : Unit) => True) (fun (_ : Unit) => [(oT, .inr (8, [.ref aB, .ref aW, .ref aS, .ref aU, .ref aK, .int (nI (kF fi xv)), .int (nI ib), .int (nI sn)])), (aB, .inl (g.2.1, 20, .inl (fun j => nI (kB fB fi xb xv j)))), (aW, .inl (g.2.2.1, 20, .inr (.inl (fun j => lN (kW fW fi xv j)))))]) A)) (cc := cX8_keep) (maxL := 4) (ret := none) (by decide) rfl (Nat.le_of_ble_eq_true rfl) ?_
  intro p e s m below meth c hx hb hr hts hown hlocks hml hin0 hC A hA hP hD hS ls hl
  have hl : lv_has ls 4 [(0, .ref oT), (1, .int (nI xb)), (2, .long (lN xv))] := hl
  have hown : s.vm.findClass RX8 = some m.cls := hown
  have hts : ∀ w ∈ wsX8_keep, w.before ([.ref oT, .int (nI xb), .long (lN xv)] : List Value).toArray s = true := hts
  have hinX8 := (by decide +kernel : ∀ w ∈ u_ws RX8 TX8 8, w ∈ wsX8_keep)
  have f28 := hts (.fieldLink RX8 28 "BoiledEggs$Told" "fitting" "I") (by decide +kernel)
  have f9 := hts (.fieldLink RX8 9 "BoiledEggs$Told" "boxes" "[I") (by decide +kernel)
  have f15 := hts (.fieldLink RX8 15 "BoiledEggs$Told" "weights" "[J") (by decide +kernel)
  refine lv_lload_n hx hb dX8_keep_0 rfl (lv_at hl 2 rfl) ?_
  refine lv_lconst (v := lN 0) hx hb dX8_keep_1 (by decide) ?_
  refine lc_le (tgt := 45) hx hb dX8_keep_2 dX8_keep_3 (by decide) (fun c2 => ?_) (fun c2 => ?_)
  ·have c2 : xv ≤ 0 := (pk_lLE (a := xv) (b := 0) (by omega) (by omega)).mp c2
   exact retMv (w := [(oT, .inr (8, [.ref aB, .ref aW, .ref aS, .ref aU, .ref aK, .int (nI fi), .int (nI ib), .int (nI sn)])), (aB, .inl (g.2.1, 20, .inl (fun j => nI (fB j)))), (aW, .inl (g.2.2.1, 20, .inr (.inl (fun j => lN (fW j)))))]) hx hb hr hlocks (hP.sub [0, 1, 2] rfl) (hD.sub [0, 1, 2] (by decide) rfl) hS () (by rw [kF, kB, kW, decide_eq_false (show ¬ (0 < xv ∧ fi < 20) by omega)] <;> rfl) (trivial) dX8_keep_45
  ·have c2 : ¬ xv ≤ 0 := fun h9 => c2 ((pk_lLE (a := xv) (b := 0) (by omega) (by omega)).mpr h9)
   refine lv_aload_n hx hb dX8_keep_6 rfl (lv_at hl 0 rfl) ?_
   refine va_get (D := g.1) (ci := 8) (v := .int (nI fi)) (C := RX8) (T := TX8) (N := 8) hx hb hts hinX8 hown hC.1 hP 0 rfl rfl 5 (by decide) f28 (fun _ h9 => h9) rfl dX8_keep_7 ?_
   refine lv_bipush (v := nI 20) hx hb dX8_keep_10 (by decide) ?_
   refine lv_icmp_ge (tgt := 45) hx hb dX8_keep_12 (by decide) (fun c12 => ?_) (fun c12 => ?_)
   ·have c12 : 20 ≤ fi := (nI_leI (a := 20) (b := fi) (by omega) (by omega)).mp c12
    exact retMv (w := [(oT, .inr (8, [.ref aB, .ref aW, .ref aS, .ref aU, .ref aK, .int (nI fi), .int (nI ib), .int (nI sn)])), (aB, .inl (g.2.1, 20, .inl (fun j => nI (fB j)))), (aW, .inl (g.2.2.1, 20, .inr (.inl (fun j => lN (fW j)))))]) hx hb hr hlocks (hP.sub [0, 1, 2] rfl) (hD.sub [0, 1, 2] (by decide) rfl) hS () (by rw [kF, kB, kW, decide_eq_false (show ¬ (0 < xv ∧ fi < 20) by omega)] <;> rfl) (trivial) dX8_keep_45
   ·have c12 : ¬ 20 ≤ fi := fun h9 => c12 ((nI_leI (a := 20) (b := fi) (by omega) (by omega)).mpr h9)
    refine lv_aload_n hx hb dX8_keep_15 rfl (lv_at hl 0 rfl) ?_
    refine va_get (D := g.1) (ci := 8) (v := .ref aB) (C := RX8) (T := TX8) (N := 8) hx hb hts hinX8 hown hC.1 hP 0 rfl rfl 0 (by decide) f9 (fun _ h9 => h9) rfl dX8_keep_16 ?_
    refine lv_aload_n hx hb dX8_keep_19 rfl (lv_at hl 0 rfl) ?_
    refine va_get (D := g.1) (ci := 8) (v := .int (nI fi)) (C := RX8) (T := TX8) (N := 8) hx hb hts hinX8 hown hC.1 hP 0 rfl rfl 5 (by decide) f28 (fun _ h9 => h9) rfl dX8_keep_20 ?_
    refine lv_iload_n hx hb dX8_keep_23 rfl (lv_at hl 1 rfl) ?_
    refine ast_in (f := fB) (j := fi) (v := xb) hx hb hC hP hD hS 1 rfl (by omega) (by decide) dX8_keep_24 (fun H locs hP hD hS => ?_)
    have hP : va_P g.1 vwCl [(oT, .inr (8, [.ref aB, .ref aW, .ref aS, .ref aU, .ref aK, .int (nI fi), .int (nI ib), .int (nI sn)])), (aB, .inl (g.2.1, 20, .inl (fun j => nI (updN fB fi xb j)))), (aW, .inl (g.2.2.1, 20, .inr (.inl (fun j => lN (fW j)))))] H := hP
    have hD : va_D A [(oT, .inr (8, [.ref aB, .ref aW, .ref aS, .ref aU, .ref aK, .int (nI fi), .int (nI ib), .int (nI sn)])), (aB, .inl (g.2.1, 20, .inl (fun j => nI (updN fB fi xb j)))), (aW, .inl (g.2.2.1, 20, .inr (.inl (fun j => lN (fW j)))))] := hD
    refine lv_aload_n hx hb dX8_keep_25 rfl (lv_at hl 0 rfl) ?_
    refine va_get (D := g.1) (ci := 8) (v := .ref aW) (C := RX8) (T := TX8) (N := 8) hx hb hts hinX8 hown hC.1 hP 0 rfl rfl 1 (by decide) f15 (fun _ h9 => h9) rfl dX8_keep_26 ?_
    refine lv_aload_n hx hb dX8_keep_29 rfl (lv_at hl 0 rfl) ?_
    refine va_get (D := g.1) (ci := 8) (v := .int (nI fi)) (C := RX8) (T := TX8) (N := 8) hx hb hts hinX8 hown hC.1 hP 0 rfl rfl 5 (by decide) f28 (fun _ h9 => h9) rfl dX8_keep_30 ?_
    refine lv_lload_n hx hb dX8_keep_33 rfl (lv_at hl 2 rfl) ?_
    refine ast_ln (f := fW) (j := fi) (v := xv) hx hb hC hP hD hS 2 rfl (by omega) (by decide) dX8_keep_34 (fun H locs hP hD hS => ?_)
    have hP : va_P g.1 vwCl [(oT, .inr (8, [.ref aB, .ref aW, .ref aS, .ref aU, .ref aK, .int (nI fi), .int (nI ib), .int (nI sn)])), (aB, .inl (g.2.1, 20, .inl (fun j => nI (updN fB fi xb j)))), (aW, .inl (g.2.2.1, 20, .inr (.inl (fun j => lN (updN fW fi xv j)))))] H := hP
    have hD : va_D A [(oT, .inr (8, [.ref aB, .ref aW, .ref aS, .ref aU, .ref aK, .int (nI fi), .int (nI ib), .int (nI sn)])), (aB, .inl (g.2.1, 20, .inl (fun j => nI (updN fB fi xb j)))), (aW, .inl (g.2.2.1, 20, .inr (.inl (fun j => lN (updN fW fi xv j)))))] := hD
    refine lv_aload_n hx hb dX8_keep_35 rfl (lv_at hl 0 rfl) ?_
    refine lv_dup hx hb dX8_keep_36 rfl ?_
    refine va_get (D := g.1) (ci := 8) (v := .int (nI fi)) (C := RX8) (T := TX8) (N := 8) hx hb hts hinX8 hown hC.1 hP 0 rfl rfl 5 (by decide) f28 (fun _ h9 => h9) rfl dX8_keep_37 ?_
    refine lv_iconst (v := nI 1) hx hb dX8_keep_40 (by decide) ?_
    refine lv_iadd hx hb dX8_keep_41 ?_
    refine top_i (y := nI (fi + 1)) (nI_add _ _) ?_
    refine va_put (D := g.1) (ci := 8) (v := .int (nI (fi + 1))) (ty := .int) (C := RX8) (T := TX8) (N := 8) hx hb hts hinX8 tyX8 tyX8_ok nmX8 hown hC.1 hP hD hS 0 rfl rfl 5 (by decide) f28 (fun _ h9 => h9) rfl (by decide +kernel) rfl rfl (Nat.le_of_ble_eq_true rfl) dX8_keep_42 (fun H locs hP hD hS => ?_)
    have hP : va_P g.1 vwCl [(oT, .inr (8, [.ref aB, .ref aW, .ref aS, .ref aU, .ref aK, .int (nI (fi + 1)), .int (nI ib), .int (nI sn)])), (aB, .inl (g.2.1, 20, .inl (fun j => nI (updN fB fi xb j)))), (aW, .inl (g.2.2.1, 20, .inr (.inl (fun j => lN (updN fW fi xv j)))))] H := hP
    have hD : va_D A [(oT, .inr (8, [.ref aB, .ref aW, .ref aS, .ref aU, .ref aK, .int (nI (fi + 1)), .int (nI ib), .int (nI sn)])), (aB, .inl (g.2.1, 20, .inl (fun j => nI (updN fB fi xb j)))), (aW, .inl (g.2.2.1, 20, .inr (.inl (fun j => lN (updN fW fi xv j)))))] := hD
    exact retMv (w := [(oT, .inr (8, [.ref aB, .ref aW, .ref aS, .ref aU, .ref aK, .int (nI (fi + 1)), .int (nI ib), .int (nI sn)])), (aB, .inl (g.2.1, 20, .inl (fun j => nI (updN fB fi xb j)))), (aW, .inl (g.2.2.1, 20, .inr (.inl (fun j => lN (updN fW fi xv j)))))]) hx hb hr hlocks (hP.sub [0, 1, 2] rfl) (hD.sub [0, 1, 2] (by decide) rfl) hS () (by rw [kF, kB, kW, decide_eq_true (show 0 < xv ∧ fi < 20 by omega)] <;> rfl) (trivial) dX8_keep_45

set_option maxHeartbeats 4000000 in
set_option maxRecDepth 100000 in
/-- BoiledEggs$Told.allWeight  -/
theorem k_X8_allWeight (l : Launch) (g : GG) (oT : Nat) (aB : Nat) (aW : Nat) (aS : Nat) (aU : Nat) (aK : Nat) (fi : Nat) (ib : Nat) (sn : Nat) (fW : Nat → Nat) (hf0 : fi ≤ 20) : Met l yX8_allWeight wsX8_allWeight ({ frames := 0, cells := 0, slots := 0, locals := 0 }) (pS g [.ref oT] [(oT, .inr (8, [.ref aB, .ref aW, .ref aS, .ref aU, .ref aK, .int (nI fi), .int (nI ib), .int (nI sn)])), (aW, .inl (g.2.2.1, 20, .inr (.inl (fun j => lN (fW j)))))]) (vp_Sl (fun r => r = (lN (smN fW fi)))) 0 0 noF := by
  refine metS (cc := cX8_allWeight) (maxL := 4) (ret := (some .long)) (by decide) rfl (Nat.le_of_ble_eq_true rfl) ?_
  intro p e s m below meth c hx hb hr hts hown hlocks hml hC hP ls hl
  have hl : lv_has ls 4 [(0, .ref oT)] := hl
  have hown : s.vm.findClass RX8 = some m.cls := hown
  have hts : ∀ w ∈ wsX8_allWeight, w.before ([.ref oT] : List Value).toArray s = true := hts
  have hinX8 := (by decide +kernel : ∀ w ∈ u_ws RX8 TX8 8, w ∈ wsX8_allWeight)
  have f28 := hts (.fieldLink RX8 28 "BoiledEggs$Told" "fitting" "I") (by decide +kernel)
  have f15 := hts (.fieldLink RX8 15 "BoiledEggs$Told" "weights" "[J") (by decide +kernel)
  refine lv_lconst (v := lN 0) hx hb dX8_allWeight_0 (by decide) ?_
  refine lv_lstore_n (lv' := [(1, .long (lN 0)), (0, .ref oT)]) hx hb dX8_allWeight_1 rfl hl (by decide) rfl (fun ls hl => ?_)
  refine lv_iconst (v := nI 0) hx hb dX8_allWeight_2 (by decide) ?_
  refine lv_istore_n (lv' := [(3, .int (nI 0)), (1, .long (lN 0)), (0, .ref oT)]) hx hb dX8_allWeight_3 rfl hl (by decide) rfl (fun ls hl => ?_)
  have hL4 : ∀ (n_9 : Nat) (i : Nat), fi - i < n_9 → (i ≤ fi) → ∀ ls : Array Slot, lv_has ls 4 [(0, .ref oT), (1, .long (lN (smN fW i))), (3, .int (nI i))] → W p l e ({ frames := 0, cells := 0, slots := 0, locals := 0 }) s m ([.ref oT] : List Value).toArray below meth c s.heap [] 0 0 (MQ below (vp_Sl (fun r => r = (lN (smN fW fi)))) ([.ref oT] : List Value).toArray s 0 0 noF) (F0 m 4 ls []) := by
   intro n_9
   induction n_9 with
   | zero => intro i hn_9; exact absurd hn_9 (Nat.not_lt_zero _)
   | succ n_9 ih4 =>
    intro i hn_9 hi ls hl
    refine lv_iload_n hx hb dX8_allWeight_4 rfl (lv_at hl 2 rfl) ?_
    refine lv_aload_n hx hb dX8_allWeight_5 rfl (lv_at hl 0 rfl) ?_
    refine va_get (D := g.1) (ci := 8) (v := .int (nI fi)) (C := RX8) (T := TX8) (N := 8) hx hb hts hinX8 hown hC.1 hP 0 rfl rfl 5 (by decide) f28 (fun _ h9 => h9) rfl dX8_allWeight_6 ?_
    refine lv_icmp_ge (tgt := 27) hx hb dX8_allWeight_9 (by decide) (fun c9 => ?_) (fun c9 => ?_)
    ·have c9 : fi ≤ i := (nI_leI (a := fi) (b := i) (by omega) (by omega)).mp c9
     refine lv_lload_n hx hb dX8_allWeight_27 rfl (lv_at hl 1 rfl) ?_
     exact retSl hx hb hr hlocks (by rw [show fi = i by omega]) dX8_allWeight_28
    ·have c9 : ¬ fi ≤ i := fun h9 => c9 ((nI_leI (a := fi) (b := i) (by omega) (by omega)).mpr h9)
     refine lv_lload_n hx hb dX8_allWeight_12 rfl (lv_at hl 1 rfl) ?_
     refine lv_aload_n hx hb dX8_allWeight_13 rfl (lv_at hl 0 rfl) ?_
     refine va_get (D := g.1) (ci := 8) (v := .ref aW) (C := RX8) (T := TX8) (N := 8) hx hb hts hinX8 hown hC.1 hP 0 rfl rfl 1 (by decide) f15 (fun _ h9 => h9) rfl dX8_allWeight_14 ?_
     refine lv_iload_n hx hb dX8_allWeight_17 rfl (lv_at hl 2 rfl) ?_
     refine ald_l (f := fun j => lN (fW j)) (j := i) hx hb hC hP 1 rfl (by omega) (by decide) dX8_allWeight_18 ?_
     refine lv_ladd hx hb dX8_allWeight_19 ?_
     refine top_l (y := lN ((smN fW i) + (fW i))) (lN_add _ _) ?_
     refine lv_lstore_n (lv' := [(1, .long (lN ((smN fW i) + (fW i)))), (0, .ref oT), (3, .int (nI i))]) hx hb dX8_allWeight_20 rfl hl (by decide) rfl (fun ls hl => ?_)
     refine lv_iinc (v := nI (i + 1)) (lv' := [(3, .int (nI (i + 1))), (1, .long (lN ((smN fW i) + (fW i)))), (0, .ref oT)]) hx hb dX8_allWeight_21 hl (k := 2) rfl (iinc1 _) (by decide) rfl (fun ls hl => ?_)
     refine lv_goto (tgt := 4) hx hb dX8_allWeight_24 (by decide) ?_
     exact ih4 (i + 1) (by omega) (by first | assumption | exact Nat.zero_le _ | omega) ls (lv_sub hl [2, 1, 0] rfl)
  exact hL4 _ 0 (Nat.lt_succ_self _) (by first | assumption | exact Nat.zero_le _ | omega) ls (lv_sub hl [2, 1, 0] rfl)

set_option maxHeartbeats 4000000 in
set_option maxRecDepth 100000 in
/-- BoiledEggs$Told.boiledWeight  -/
theorem k_X8_boiledWeight (l : Launch) (g : GG) (oT : Nat) (aB : Nat) (aW : Nat) (aS : Nat) (aU : Nat) (aK : Nat) (fi : Nat) (ib : Nat) (sn : Nat) (fB : Nat → Nat) (fW : Nat → Nat) (xe : Nat) (hf0 : fi ≤ 20) (hB : ∀ j, fB j < 64) (he0 : xe < 31) : Met l yX8_boiledWeight wsX8_boiledWeight ({ frames := 1, cells := 0, slots := 0, locals := 21 }) (pS g [.ref oT, .int (nI xe)] [(oT, .inr (8, [.ref aB, .ref aW, .ref aS, .ref aU, .ref aK, .int (nI fi), .int (nI ib), .int (nI sn)])), (aB, .inl (g.2.1, 20, .inl (fun j => nI (fB j)))), (aW, .inl (g.2.2.1, 20, .inr (.inl (fun j => lN (fW j)))))]) (vp_Sl (fun r => r = (lN (smB fB fW xe fi)))) 0 0 noF := by
  refine metS (cc := cX8_boiledWeight) (maxL := 5) (ret := (some .long)) (by decide) rfl (Nat.le_of_ble_eq_true rfl) ?_
  intro p e s m below meth c hx hb hr hts hown hlocks hml hC hP ls hl
  have hl : lv_has ls 5 [(0, .ref oT), (1, .int (nI xe))] := hl
  have hown : s.vm.findClass RX8 = some m.cls := hown
  have hts : ∀ w ∈ wsX8_boiledWeight, w.before ([.ref oT, .int (nI xe)] : List Value).toArray s = true := hts
  have hinX8 := (by decide +kernel : ∀ w ∈ u_ws RX8 TX8 8, w ∈ wsX8_boiledWeight)
  have f28 := hts (.fieldLink RX8 28 "BoiledEggs$Told" "fitting" "I") (by decide +kernel)
  have f9 := hts (.fieldLink RX8 9 "BoiledEggs$Told" "boxes" "[I") (by decide +kernel)
  have iniX10 := hts (.initialized RX10) (by decide +kernel)
  have st78 := hts (.static yX10_has) (by decide +kernel)
  have f15 := hts (.fieldLink RX8 15 "BoiledEggs$Told" "weights" "[J") (by decide +kernel)
  refine lv_lconst (v := lN 0) hx hb dX8_boiledWeight_0 (by decide) ?_
  refine lv_lstore_n (lv' := [(2, .long (lN 0)), (0, .ref oT), (1, .int (nI xe))]) hx hb dX8_boiledWeight_1 rfl hl (by decide) rfl (fun ls hl => ?_)
  refine lv_iconst (v := nI 0) hx hb dX8_boiledWeight_2 (by decide) ?_
  refine lv_istore (lv' := [(4, .int (nI 0)), (2, .long (lN 0)), (0, .ref oT), (1, .int (nI xe))]) hx hb dX8_boiledWeight_3 hl (by decide) rfl (fun ls hl => ?_)
  have hL5 : ∀ (n_9 : Nat) (i : Nat), fi - i < n_9 → (i ≤ fi) → ∀ ls : Array Slot, lv_has ls 5 [(0, .ref oT), (1, .int (nI xe)), (2, .long (lN (smB fB fW xe i))), (4, .int (nI i))] → W p l e ({ frames := 1, cells := 0, slots := 0, locals := 21 }) s m ([.ref oT, .int (nI xe)] : List Value).toArray below meth c s.heap [] 0 0 (MQ below (vp_Sl (fun r => r = (lN (smB fB fW xe fi)))) ([.ref oT, .int (nI xe)] : List Value).toArray s 0 0 noF) (F0 m 5 ls []) := by
   intro n_9
   induction n_9 with
   | zero => intro i hn_9; exact absurd hn_9 (Nat.not_lt_zero _)
   | succ n_9 ih5 =>
    intro i hn_9 hi ls hl
    refine lv_iload hx hb dX8_boiledWeight_5 (lv_at hl 3 rfl) ?_
    refine lv_aload_n hx hb dX8_boiledWeight_7 rfl (lv_at hl 0 rfl) ?_
    refine va_get (D := g.1) (ci := 8) (v := .int (nI fi)) (C := RX8) (T := TX8) (N := 8) hx hb hts hinX8 hown hC.1 hP 0 rfl rfl 5 (by decide) f28 (fun _ h9 => h9) rfl dX8_boiledWeight_8 ?_
    refine lv_icmp_ge (tgt := 44) hx hb dX8_boiledWeight_11 (by decide) (fun c11 => ?_) (fun c11 => ?_)
    ·have c11 : fi ≤ i := (nI_leI (a := fi) (b := i) (by omega) (by omega)).mp c11
     refine lv_lload_n hx hb dX8_boiledWeight_44 rfl (lv_at hl 2 rfl) ?_
     exact retSl hx hb hr hlocks (by rw [show fi = i by omega]) dX8_boiledWeight_45
    ·have c11 : ¬ fi ≤ i := fun h9 => c11 ((nI_leI (a := fi) (b := i) (by omega) (by omega)).mpr h9)
     have hJ38 : ∀ ls : Array Slot, lv_has ls 5 [(0, .ref oT), (1, .int (nI xe)), (2, .long (lN (smB fB fW xe (i + 1)))), (4, .int (nI i))] → W p l e ({ frames := 1, cells := 0, slots := 0, locals := 21 }) s m ([.ref oT, .int (nI xe)] : List Value).toArray below meth c s.heap [] 0 0 (MQ below (vp_Sl (fun r => r = (lN (smB fB fW xe fi)))) ([.ref oT, .int (nI xe)] : List Value).toArray s 0 0 noF) (F0 m 38 ls []) := by
      intro  ls hl
      refine lv_iinc (v := nI (i + 1)) (lv' := [(4, .int (nI (i + 1))), (0, .ref oT), (1, .int (nI xe)), (2, .long (lN (smB fB fW xe (i + 1))))]) hx hb dX8_boiledWeight_38 hl (k := 3) rfl (iinc1 _) (by decide) rfl (fun ls hl => ?_)
      refine lv_goto (tgt := 5) hx hb dX8_boiledWeight_41 (by decide) ?_
      exact ih5 (i + 1) (by omega) (by first | assumption | exact Nat.zero_le _ | omega) ls (lv_sub hl [1, 2, 3, 0] rfl)
     refine lv_aload_n hx hb dX8_boiledWeight_14 rfl (lv_at hl 0 rfl) ?_
     refine va_get (D := g.1) (ci := 8) (v := .ref aB) (C := RX8) (T := TX8) (N := 8) hx hb hts hinX8 hown hC.1 hP 0 rfl rfl 0 (by decide) f9 (fun _ h9 => h9) rfl dX8_boiledWeight_15 ?_
     refine lv_iload hx hb dX8_boiledWeight_18 (lv_at hl 3 rfl) ?_
     refine ald_i (f := fun j => nI (fB j)) (j := i) hx hb hC hP 1 rfl (by omega) (by decide) dX8_boiledWeight_20 ?_
     refine lv_iload_n hx hb dX8_boiledWeight_21 rfl (lv_at hl 1 rfl) ?_
     refine goSi (T := zI ((fB i).testBit xe)) (va_runSN (As := [.int (nI (fB i)), .int (nI xe)]) (rest := []) ⟨hx, hb, hml, hown, hts⟩ (k_X10_has l g (fB i) xe (by have := hB i; omega) (by first | assumption | exact Nat.zero_le _ | omega)) ⟨va_cnB 2 hts gX8_boiledWeight_X10_has_n78 rfl rfl rfl (hC.2.1 (.methodLinkNest RX8 78 yX10_has "BoiledEggs") (by decide +kernel)) iniX10 hdX10_has ⟨Nat.le_of_ble_eq_true rfl, Nat.le_of_ble_eq_true rfl⟩, st78, trivial⟩ (preSS hC (hP.sub [] rfl)) rfl rfl hl.1 rfl (lv_room (Nat.le_of_ble_eq_true rfl)) dX8_boiledWeight_22 ⟨Nat.le_of_ble_eq_true rfl, Nat.le_of_ble_eq_true rfl⟩) ?_
     refine lv_if_eq (tgt := 38) hx hb dX8_boiledWeight_25 (by decide) (fun c25 => ?_) (fun c25 => ?_)
     ·have c25 := zI_f.mp c25
      have hl : lv_has ls 5 [(0, .ref oT), (1, .int (nI xe)), (2, .long (lN (smB fB fW xe (i + 1)))), (4, .int (nI i))] := lv_val hl 2 rfl (congrArg Value.long (show lN (smB fB fW xe i) = lN (smB fB fW xe (i + 1)) from by rw [smB_f c25]))
      exact hJ38   ls (lv_sub hl [0, 1, 2, 3] rfl)
     ·have c25 := zI_t.mp c25
      refine lv_lload_n hx hb dX8_boiledWeight_28 rfl (lv_at hl 2 rfl) ?_
      refine lv_aload_n hx hb dX8_boiledWeight_29 rfl (lv_at hl 0 rfl) ?_
      refine va_get (D := g.1) (ci := 8) (v := .ref aW) (C := RX8) (T := TX8) (N := 8) hx hb hts hinX8 hown hC.1 hP 0 rfl rfl 1 (by decide) f15 (fun _ h9 => h9) rfl dX8_boiledWeight_30 ?_
      refine lv_iload hx hb dX8_boiledWeight_33 (lv_at hl 3 rfl) ?_
      refine ald_l (f := fun j => lN (fW j)) (j := i) hx hb hC hP 2 rfl (by omega) (by decide) dX8_boiledWeight_35 ?_
      refine lv_ladd hx hb dX8_boiledWeight_36 ?_
      refine top_l (y := lN ((smB fB fW xe i) + (fW i))) (lN_add _ _) ?_
      refine lv_lstore_n (lv' := [(2, .long (lN ((smB fB fW xe i) + (fW i)))), (0, .ref oT), (1, .int (nI xe)), (4, .int (nI i))]) hx hb dX8_boiledWeight_37 rfl hl (by decide) rfl (fun ls hl => ?_)
      have hl : lv_has ls 5 [(2, .long (lN (smB fB fW xe (i + 1)))), (0, .ref oT), (1, .int (nI xe)), (4, .int (nI i))] := lv_val hl 0 rfl (congrArg Value.long (show lN ((smB fB fW xe i) + (fW i)) = lN (smB fB fW xe (i + 1)) from by rw [smB_t c25]))
      exact hJ38   ls (lv_sub hl [1, 2, 0, 3] rfl)
  exact hL5 _ 0 (Nat.lt_succ_self _) (by first | assumption | exact Nat.zero_le _ | omega) ls (lv_sub hl [2, 3, 1, 0] rfl)

set_option maxHeartbeats 4000000 in
set_option maxRecDepth 100000 in
/-- BoiledEggs$Told.canBe  -/
theorem k_X8_canBe (l : Launch) (g : GG) (oT : Nat) (aB : Nat) (aW : Nat) (aS : Nat) (aU : Nat) (aK : Nat) (fi : Nat) (ib : Nat) (sn : Nat) (fB : Nat → Nat) (fW : Nat → Nat) (xe : Nat) (x1 : Nat) (x2 : Nat) (hf0 : fi ≤ 20) (hB : ∀ j, fB j < 64) (ha0 : smN fW fi < 2 ^ 56) (he0 : xe < 31) (h1 : x1 ≤ 10) (h2 : x2 ≤ 10) : Met l yX8_canBe wsX8_canBe ({ frames := 2, cells := 0, slots := 0, locals := 45 }) (pS g [.ref oT, .int (nI xe), .int (nI x1), .int (nI x2)] [(oT, .inr (8, [.ref aB, .ref aW, .ref aS, .ref aU, .ref aK, .int (nI fi), .int (nI ib), .int (nI sn)])), (aB, .inl (g.2.1, 20, .inl (fun j => nI (fB j)))), (aW, .inl (g.2.2.1, 20, .inr (.inl (fun j => lN (fW j)))))]) (vp_Si (fun r => r = (zI (cbS fB fW xe fi x1 x2)))) 0 0 noF := by
  refine metS (cc := cX8_canBe) (maxL := 6) (ret := (some .boolean)) (by decide) rfl (Nat.le_of_ble_eq_true rfl) ?_
  intro p e s m below meth c hx hb hr hts hown hlocks hml hC hP ls hl
  have hl : lv_has ls 6 [(0, .ref oT), (1, .int (nI xe)), (2, .int (nI x1)), (3, .int (nI x2))] := hl
  have hown : s.vm.findClass RX8 = some m.cls := hown
  have hts : ∀ w ∈ wsX8_canBe, w.before ([.ref oT, .int (nI xe), .int (nI x1), .int (nI x2)] : List Value).toArray s = true := hts
  have hle := smB_le fB fW xe fi
  have hm1 := Nat.mul_le_mul (Nat.le_refl (smB fB fW xe fi)) h1
  have hm2 := Nat.mul_le_mul (Nat.le_refl (smN fW fi - smB fB fW xe fi)) h2
  refine lv_aload_n hx hb dX8_canBe_0 rfl (lv_at hl 0 rfl) ?_
  refine lv_iload_n hx hb dX8_canBe_1 rfl (lv_at hl 1 rfl) ?_
  refine goSl (T := lN (smB fB fW xe fi)) (va_runV (As := [.int (nI xe)]) (rest := []) ⟨hx, hb, hml, hown, hts⟩ (k_X8_boiledWeight l g oT aB aW aS aU aK fi ib sn fB fW xe (by first | assumption | exact Nat.zero_le _ | omega) (by first | assumption | exact Nat.zero_le _ | omega) (by first | assumption | exact Nat.zero_le _ | omega)) (cwV 1 hts gX8_canBe_X8_boiledWeight rfl rfl rfl ⟨rfl, hdX8_boiledWeight⟩ ⟨Nat.le_of_ble_eq_true rfl, Nat.le_of_ble_eq_true rfl⟩) (preVS hC (hP.sub [0, 1, 2] rfl) (va_recv hC.1 hP (ci := 8) (q0 := 0) rfl rfl)) rfl rfl hl.1 rfl (lv_room (Nat.le_of_ble_eq_true rfl)) dX8_canBe_2 ⟨Nat.le_of_ble_eq_true rfl, Nat.le_of_ble_eq_true rfl⟩) ?_
  refine lv_lstore (lv' := [(4, .long (lN (smB fB fW xe fi))), (0, .ref oT), (1, .int (nI xe)), (2, .int (nI x1)), (3, .int (nI x2))]) hx hb dX8_canBe_5 hl (by decide) rfl (fun ls hl => ?_)
  refine lv_lload hx hb dX8_canBe_7 (lv_at hl 0 rfl) ?_
  refine lv_iload_n hx hb dX8_canBe_9 rfl (lv_at hl 3 rfl) ?_
  refine lv_i2l (v := lN x1) hx hb dX8_canBe_10 (nI_l (by omega)) ?_
  refine lv_lmul hx hb dX8_canBe_11 ?_
  refine top_l (y := lN ((smB fB fW xe fi) * x1)) (lN_mul _ _) ?_
  refine lv_aload_n hx hb dX8_canBe_12 rfl (lv_at hl 1 rfl) ?_
  refine goSl (T := lN (smN fW fi)) (va_runV (As := []) (rest := [.long (lN ((smB fB fW xe fi) * x1))]) ⟨hx, hb, hml, hown, hts⟩ (k_X8_allWeight l g oT aB aW aS aU aK fi ib sn fW (by first | assumption | exact Nat.zero_le _ | omega)) (cwV 0 hts gX8_canBe_X8_allWeight rfl rfl rfl ⟨rfl, hdX8_allWeight⟩ ⟨Nat.le_of_ble_eq_true rfl, Nat.le_of_ble_eq_true rfl⟩) (preVS hC (hP.sub [0, 2] rfl) (va_recv hC.1 hP (ci := 8) (q0 := 0) rfl rfl)) rfl rfl hl.1 rfl (lv_room (Nat.le_of_ble_eq_true rfl)) dX8_canBe_13 ⟨Nat.le_of_ble_eq_true rfl, Nat.le_of_ble_eq_true rfl⟩) ?_
  refine lv_lload hx hb dX8_canBe_16 (lv_at hl 0 rfl) ?_
  refine lv_lsub hx hb dX8_canBe_18 ?_
  refine top_l (y := lN (smN fW fi - smB fB fW xe fi)) (lN_sub hle) ?_
  refine lv_iload_n hx hb dX8_canBe_19 rfl (lv_at hl 4 rfl) ?_
  refine lv_i2l (v := lN x2) hx hb dX8_canBe_20 (nI_l (by omega)) ?_
  refine lv_lmul hx hb dX8_canBe_21 ?_
  refine top_l (y := lN ((smN fW fi - smB fB fW xe fi) * x2)) (lN_mul _ _) ?_
  refine lv_ladd hx hb dX8_canBe_22 ?_
  refine top_l (y := lN (((smB fB fW xe fi) * x1) + ((smN fW fi - smB fB fW xe fi) * x2))) (lN_add _ _) ?_
  refine lv_lconst (v := lN 0) hx hb dX8_canBe_23 (by decide) ?_
  refine lc_le (tgt := 32) hx hb dX8_canBe_24 dX8_canBe_25 (by decide) (fun c24 => ?_) (fun c24 => ?_)
  ·have c24 : (((smB fB fW xe fi) * x1) + ((smN fW fi - smB fB fW xe fi) * x2)) ≤ 0 := (pk_lLE (a := ((smB fB fW xe fi) * x1) + ((smN fW fi - smB fB fW xe fi) * x2)) (b := 0) (by omega) (by omega)).mp c24
   refine lv_iconst (v := nI 0) hx hb dX8_canBe_32 (by decide) ?_
   exact retSz hx hb hr hlocks (by decide) (by first | exact zI_1 (decide_eq_true (by omega)) | exact zI_0 (decide_eq_false (by omega))) dX8_canBe_33
  ·have c24 : ¬ (((smB fB fW xe fi) * x1) + ((smN fW fi - smB fB fW xe fi) * x2)) ≤ 0 := fun h9 => c24 ((pk_lLE (a := ((smB fB fW xe fi) * x1) + ((smN fW fi - smB fB fW xe fi) * x2)) (b := 0) (by omega) (by omega)).mpr h9)
   refine lv_iconst (v := nI 1) hx hb dX8_canBe_28 (by decide) ?_
   refine lv_goto (tgt := 33) hx hb dX8_canBe_29 (by decide) ?_
   exact retSz hx hb hr hlocks (by decide) (by first | exact zI_1 (decide_eq_true (by omega)) | exact zI_0 (decide_eq_false (by omega))) dX8_canBe_33

set_option maxHeartbeats 4000000 in
set_option maxRecDepth 100000 in
/-- BoiledEggs$Told.canBeSure  -/
theorem k_X8_canBeSure (l : Launch) (g : GG) (oT : Nat) (aB : Nat) (aW : Nat) (aS : Nat) (aU : Nat) (aK : Nat) (fi : Nat) (ib : Nat) (sn : Nat) (fB : Nat → Nat) (fW : Nat → Nat) (xe : Nat) (xb : Bool) (hf0 : fi ≤ 20) (hB : ∀ j, fB j < 64) (ha0 : smN fW fi < 2 ^ 56) (he0 : xe < 31) : Met l yX8_canBeSure wsX8_canBeSure ({ frames := 3, cells := 0, slots := 0, locals := 70 }) (pS g [.ref oT, .int (nI xe), .int (zI xb)] [(oT, .inr (8, [.ref aB, .ref aW, .ref aS, .ref aU, .ref aK, .int (nI fi), .int (nI ib), .int (nI sn)])), (aB, .inl (g.2.1, 20, .inl (fun j => nI (fB j)))), (aW, .inl (g.2.2.1, 20, .inr (.inl (fun j => lN (fW j)))))]) (vp_Si (fun r => r = (zI (cbS fB fW xe fi (cond xb 1 0) (cond xb 0 1))))) 0 0 noF := by
  refine metS (cc := cX8_canBeSure) (maxL := 3) (ret := (some .boolean)) (by decide) rfl (Nat.le_of_ble_eq_true rfl) ?_
  intro p e s m below meth c hx hb hr hts hown hlocks hml hC hP ls hl
  have hl : lv_has ls 3 [(0, .ref oT), (1, .int (nI xe)), (2, .int (zI xb))] := hl
  have hown : s.vm.findClass RX8 = some m.cls := hown
  have hts : ∀ w ∈ wsX8_canBeSure, w.before ([.ref oT, .int (nI xe), .int (zI xb)] : List Value).toArray s = true := hts
  refine lv_aload_n hx hb dX8_canBeSure_0 rfl (lv_at hl 0 rfl) ?_
  refine lv_iload_n hx hb dX8_canBeSure_1 rfl (lv_at hl 1 rfl) ?_
  have hJ11 : ∀ ls : Array Slot, lv_has ls 3 [(0, .ref oT), (1, .int (nI xe)), (2, .int (zI xb))] → W p l e ({ frames := 3, cells := 0, slots := 0, locals := 70 }) s m ([.ref oT, .int (nI xe), .int (zI xb)] : List Value).toArray below meth c s.heap [] 0 0 (MQ below (vp_Si (fun r => r = (zI (cbS fB fW xe fi (cond xb 1 0) (cond xb 0 1))))) ([.ref oT, .int (nI xe), .int (zI xb)] : List Value).toArray s 0 0 noF) (F0 m 11 ls [.int (nI (cond xb 1 0)), .int (nI xe), .ref oT]) := by
   intro  ls hl
   have hJ20 : ∀ ls : Array Slot, lv_has ls 3 [(0, .ref oT), (1, .int (nI xe)), (2, .int (zI xb))] → W p l e ({ frames := 3, cells := 0, slots := 0, locals := 70 }) s m ([.ref oT, .int (nI xe), .int (zI xb)] : List Value).toArray below meth c s.heap [] 0 0 (MQ below (vp_Si (fun r => r = (zI (cbS fB fW xe fi (cond xb 1 0) (cond xb 0 1))))) ([.ref oT, .int (nI xe), .int (zI xb)] : List Value).toArray s 0 0 noF) (F0 m 20 ls [.int (nI (cond xb 0 1)), .int (nI (cond xb 1 0)), .int (nI xe), .ref oT]) := by
    intro  ls hl
    refine goSi (T := zI (cbS fB fW xe fi (cond xb 1 0) (cond xb 0 1))) (va_runV (As := [.int (nI xe), .int (nI (cond xb 1 0)), .int (nI (cond xb 0 1))]) (rest := []) ⟨hx, hb, hml, hown, hts⟩ (k_X8_canBe l g oT aB aW aS aU aK fi ib sn fB fW xe (cond xb 1 0) (cond xb 0 1) (by first | assumption | exact Nat.zero_le _ | omega) (by first | assumption | exact Nat.zero_le _ | omega) (by first | assumption | exact Nat.zero_le _ | omega) (by first | assumption | exact Nat.zero_le _ | omega) (by cases xb <;> decide) (by cases xb <;> decide)) (cwV 3 hts gX8_canBeSure_X8_canBe rfl rfl rfl ⟨rfl, hdX8_canBe⟩ ⟨Nat.le_of_ble_eq_true rfl, Nat.le_of_ble_eq_true rfl⟩) (preVS hC (hP.sub [0, 1, 2] rfl) (va_recv hC.1 hP (ci := 8) (q0 := 0) rfl rfl)) rfl rfl hl.1 rfl (lv_room (Nat.le_of_ble_eq_true rfl)) dX8_canBeSure_20 ⟨Nat.le_of_ble_eq_true rfl, Nat.le_of_ble_eq_true rfl⟩) ?_
    exact retSz hx hb hr hlocks (zI_or _) (rfl) dX8_canBeSure_23
   refine lv_iload_n hx hb dX8_canBeSure_11 rfl (lv_at hl 2 rfl) ?_
   refine lv_if_eq (tgt := 19) hx hb dX8_canBeSure_12 (by decide) (fun c12 => ?_) (fun c12 => ?_)
   ·have c12 := zI_f.mp c12
    refine lv_iconst (v := nI 1) hx hb dX8_canBeSure_19 (by decide) ?_
    refine top_i (y := nI (cond xb 0 1)) (by rw [c12]; rfl) ?_
    exact hJ20   ls (lv_sub hl [0, 1, 2] rfl)
   ·have c12 := zI_t.mp c12
    refine lv_iconst (v := nI 0) hx hb dX8_canBeSure_15 (by decide) ?_
    refine lv_goto (tgt := 20) hx hb dX8_canBeSure_16 (by decide) ?_
    refine top_i (y := nI (cond xb 0 1)) (by rw [c12]; rfl) ?_
    exact hJ20   ls (lv_sub hl [0, 1, 2] rfl)
  refine lv_iload_n hx hb dX8_canBeSure_2 rfl (lv_at hl 2 rfl) ?_
  refine lv_if_eq (tgt := 10) hx hb dX8_canBeSure_3 (by decide) (fun c3 => ?_) (fun c3 => ?_)
  ·have c3 := zI_f.mp c3
   refine lv_iconst (v := nI 0) hx hb dX8_canBeSure_10 (by decide) ?_
   refine top_i (y := nI (cond xb 1 0)) (by rw [c3]; rfl) ?_
   exact hJ11   ls (lv_sub hl [0, 1, 2] rfl)
  ·have c3 := zI_t.mp c3
   refine lv_iconst (v := nI 1) hx hb dX8_canBeSure_6 (by decide) ?_
   refine lv_goto (tgt := 11) hx hb dX8_canBeSure_7 (by decide) ?_
   refine top_i (y := nI (cond xb 1 0)) (by rw [c3]; rfl) ?_
   exact hJ11   ls (lv_sub hl [0, 1, 2] rfl)

set_option maxHeartbeats 4000000 in
set_option maxRecDepth 100000 in
/-- BoiledEggs$Told.weigh  -/
theorem k_X8_weigh (l : Launch) (g : GG) (sz : Nat) (oT : Nat) (aB : Nat) (aW : Nat) (aS : Nat) (aU : Nat) (aK : Nat) (fi : Nat) (ib : Nat) (sn : Nat) (fB : Nat → Nat) (fW : Nat → Nat) (xe : Nat) (x1 : Nat) (x2 : Nat) (hf0 : fi ≤ 20) (hB : ∀ j, fB j < 64) (ha0 : smN fW fi < 2 ^ 56) (he0 : xe < 31) (h1 : x1 ≤ 10) (h2 : x2 ≤ 10) : Met l yX8_weigh wsX8_weigh ({ frames := 1, cells := 0, slots := 0, locals := 23 }) (pM g sz [.ref oT, .int (nI xe), .int (nI x1), .int (nI x2)] [(oT, .inr (8, [.ref aB, .ref aW, .ref aS, .ref aU, .ref aK, .int (nI fi), .int (nI ib), .int (nI sn)])), (aB, .inl (g.2.1, 20, .inl (fun j => nI (fB j)))), (aW, .inl (g.2.2.1, 20, .inr (.inl (fun j => lN (fW j)))))]) (qMv g (fun (_ : Unit) => True) (fun (_ : Unit) => [(oT, .inr (8, [.ref aB, .ref aW, .ref aS, .ref aU, .ref aK, .int (nI ((wgS xe x1 x2 fB fW fi).2.2)), .int (nI ib), .int (nI sn)])), (aB, .inl (g.2.1, 20, .inl (fun j => nI ((wgS xe x1 x2 fB fW fi).1 j)))), (aW, .inl (g.2.2.1, 20, .inr (.inl (fun j => lN ((wgS xe x1 x2 fB fW fi).2.1 j)))))]) (va_A [(oT, .inr (8, [.ref aB, .ref aW, .ref aS, .ref aU, .ref aK, .int (nI fi), .int (nI ib), .int (nI sn)])), (aB, .inl (g.2.1, 20, .inl (fun j => nI (fB j)))), (aW, .inl (g.2.2.1, 20, .inr (.inl (fun j => lN (fW j)))))] sz)) 0 0 (va_A [(oT, .inr (8, [.ref aB, .ref aW, .ref aS, .ref aU, .ref aK, .int (nI fi), .int (nI ib), .int (nI sn)])), (aB, .inl (g.2.1, 20, .inl (fun j => nI (fB j)))), (aW, .inl (g.2.2.1, 20, .inr (.inl (fun j => lN (fW j)))))] sz) := by
  refine metM (Qf := fun A => (qMv g (fun (_ : Unit) => True) (fun (_ : Unit) => [(oT, .inr (8, [.ref aB, .ref aW, .ref aS, .ref aU, .ref aK, .int (nI ((wgS xe x1 x2 fB fW fi).2.2)), .int (nI ib), .int (nI sn)])), (aB, .inl (g.2.1, 20, .inl (fun j => nI ((wgS xe x1 x2 fB fW fi).1 j)))), (aW, .inl (g.2.2.1, 20, .inr (.inl (fun j => lN ((wgS xe x1 x2 fB fW fi).2.1 j)))))]) A)) (cc := cX8_weigh) (maxL := 6) (ret := none) (by decide) rfl (Nat.le_of_ble_eq_true rfl) ?_
  intro p e s m below meth c hx hb hr hts hown hlocks hml hin0 hC A hA hP hD hS ls hl
  have hl : lv_has ls 6 [(0, .ref oT), (1, .int (nI xe)), (2, .int (nI x1)), (3, .int (nI x2))] := hl
  have hown : s.vm.findClass RX8 = some m.cls := hown
  have hts : ∀ w ∈ wsX8_weigh, w.before ([.ref oT, .int (nI xe), .int (nI x1), .int (nI x2)] : List Value).toArray s = true := hts
  have hinX8 := (by decide +kernel : ∀ w ∈ u_ws RX8 TX8 8, w ∈ wsX8_weigh)
  have f28 := hts (.fieldLink RX8 28 "BoiledEggs$Told" "fitting" "I") (by decide +kernel)
  have f9 := hts (.fieldLink RX8 9 "BoiledEggs$Told" "boxes" "[I") (by decide +kernel)
  have f15 := hts (.fieldLink RX8 15 "BoiledEggs$Told" "weights" "[J") (by decide +kernel)
  have iniX10 := hts (.initialized RX10) (by decide +kernel)
  have st78 := hts (.static yX10_has) (by decide +kernel)
  refine lv_aload_n hx hb dX8_weigh_0 rfl (lv_at hl 0 rfl) ?_
  refine va_get (D := g.1) (ci := 8) (v := .int (nI fi)) (C := RX8) (T := TX8) (N := 8) hx hb hts hinX8 hown hC.1 hP 0 rfl rfl 5 (by decide) f28 (fun _ h9 => h9) rfl dX8_weigh_1 ?_
  refine lv_istore (lv' := [(4, .int (nI fi)), (0, .ref oT), (1, .int (nI xe)), (2, .int (nI x1)), (3, .int (nI x2))]) hx hb dX8_weigh_4 hl (by decide) rfl (fun ls hl => ?_)
  refine lv_aload_n hx hb dX8_weigh_6 rfl (lv_at hl 1 rfl) ?_
  refine lv_iconst (v := nI 0) hx hb dX8_weigh_7 (by decide) ?_
  refine va_put (D := g.1) (ci := 8) (v := .int (nI 0)) (ty := .int) (C := RX8) (T := TX8) (N := 8) hx hb hts hinX8 tyX8 tyX8_ok nmX8 hown hC.1 hP hD hS 0 rfl rfl 5 (by decide) f28 (fun _ h9 => h9) rfl (by decide +kernel) rfl rfl (Nat.le_of_ble_eq_true rfl) dX8_weigh_8 (fun H locs hP hD hS => ?_)
  have hP : va_P g.1 vwCl [(oT, .inr (8, [.ref aB, .ref aW, .ref aS, .ref aU, .ref aK, .int (nI 0), .int (nI ib), .int (nI sn)])), (aB, .inl (g.2.1, 20, .inl (fun j => nI (fB j)))), (aW, .inl (g.2.2.1, 20, .inr (.inl (fun j => lN (fW j)))))] H := hP
  have hD : va_D A [(oT, .inr (8, [.ref aB, .ref aW, .ref aS, .ref aU, .ref aK, .int (nI 0), .int (nI ib), .int (nI sn)])), (aB, .inl (g.2.1, 20, .inl (fun j => nI (fB j)))), (aW, .inl (g.2.2.1, 20, .inr (.inl (fun j => lN (fW j)))))] := hD
  refine lv_iconst (v := nI 0) hx hb dX8_weigh_11 (by decide) ?_
  refine lv_istore (lv' := [(5, .int (nI 0)), (4, .int (nI fi)), (0, .ref oT), (1, .int (nI xe)), (2, .int (nI x1)), (3, .int (nI x2))]) hx hb dX8_weigh_12 hl (by decide) rfl (fun ls hl => ?_)
  have hL14 : ∀ (n_9 : Nat) (i : Nat), fi - i < n_9 → (i ≤ fi) → ∀ (H : Heap) (locs : List Loc), va_P g.1 vwCl [(oT, .inr (8, [.ref aB, .ref aW, .ref aS, .ref aU, .ref aK, .int (nI ((wgS xe x1 x2 fB fW i).2.2)), .int (nI ib), .int (nI sn)])), (aB, .inl (g.2.1, 20, .inl (fun j => nI ((wgS xe x1 x2 fB fW i).1 j)))), (aW, .inl (g.2.2.1, 20, .inr (.inl (fun j => lN ((wgS xe x1 x2 fB fW i).2.1 j)))))] H → va_D A [(oT, .inr (8, [.ref aB, .ref aW, .ref aS, .ref aU, .ref aK, .int (nI ((wgS xe x1 x2 fB fW i).2.2)), .int (nI ib), .int (nI sn)])), (aB, .inl (g.2.1, 20, .inl (fun j => nI ((wgS xe x1 x2 fB fW i).1 j)))), (aW, .inl (g.2.2.1, 20, .inr (.inl (fun j => lN ((wgS xe x1 x2 fB fW i).2.1 j)))))] → va_S A s.heap H locs → ∀ ls : Array Slot, lv_has ls 6 [(0, .ref oT), (1, .int (nI xe)), (2, .int (nI x1)), (3, .int (nI x2)), (4, .int (nI fi)), (5, .int (nI i))] → W p l e ({ frames := 1, cells := 0, slots := 0, locals := 23 }) s m ([.ref oT, .int (nI xe), .int (nI x1), .int (nI x2)] : List Value).toArray below meth c H locs 0 0 (MQ below (qMv g (fun (_ : Unit) => True) (fun (_ : Unit) => [(oT, .inr (8, [.ref aB, .ref aW, .ref aS, .ref aU, .ref aK, .int (nI ((wgS xe x1 x2 fB fW fi).2.2)), .int (nI ib), .int (nI sn)])), (aB, .inl (g.2.1, 20, .inl (fun j => nI ((wgS xe x1 x2 fB fW fi).1 j)))), (aW, .inl (g.2.2.1, 20, .inr (.inl (fun j => lN ((wgS xe x1 x2 fB fW fi).2.1 j)))))]) A) ([.ref oT, .int (nI xe), .int (nI x1), .int (nI x2)] : List Value).toArray s 0 0 A) (F0 m 14 ls []) := by
   intro n_9
   induction n_9 with
   | zero => intro i hn_9; exact absurd hn_9 (Nat.not_lt_zero _)
   | succ n_9 ih14 =>
    intro i hn_9 hi H locs hP hD hS ls hl
    refine lv_iload hx hb dX8_weigh_14 (lv_at hl 5 rfl) ?_
    refine lv_iload hx hb dX8_weigh_16 (lv_at hl 4 rfl) ?_
    refine lv_icmp_ge (tgt := 66) hx hb dX8_weigh_18 (by decide) (fun c18 => ?_) (fun c18 => ?_)
    ·have c18 : fi ≤ i := (nI_leI (a := fi) (b := i) (by omega) (by omega)).mp c18
     exact retMv (w := [(oT, .inr (8, [.ref aB, .ref aW, .ref aS, .ref aU, .ref aK, .int (nI ((wgS xe x1 x2 fB fW i).2.2)), .int (nI ib), .int (nI sn)])), (aB, .inl (g.2.1, 20, .inl (fun j => nI ((wgS xe x1 x2 fB fW i).1 j)))), (aW, .inl (g.2.2.1, 20, .inr (.inl (fun j => lN ((wgS xe x1 x2 fB fW i).2.1 j)))))]) hx hb hr hlocks (hP.sub [0, 1, 2] rfl) (hD.sub [0, 1, 2] (by decide) rfl) hS () (by rw [show fi = i by omega] <;> rfl) (trivial) dX8_weigh_66
    ·have c18 : ¬ fi ≤ i := fun h9 => c18 ((nI_leI (a := fi) (b := i) (by omega) (by omega)).mpr h9)
     obtain ⟨hk1, hk2⟩ := wgS_keep xe x1 x2 fB fW i
     obtain ⟨hk3, hk4⟩ := hk2 i (Nat.le_refl _)
     have hBi := hB i
     have hWi := smN_le (w := fW) (show i < fi by omega)
     refine lv_aload_n hx hb dX8_weigh_21 rfl (lv_at hl 0 rfl) ?_
     refine lv_aload_n hx hb dX8_weigh_22 rfl (lv_at hl 0 rfl) ?_
     refine va_get (D := g.1) (ci := 8) (v := .ref aB) (C := RX8) (T := TX8) (N := 8) hx hb hts hinX8 hown hC.1 hP 0 rfl rfl 0 (by decide) f9 (fun _ h9 => h9) rfl dX8_weigh_23 ?_
     refine lv_iload hx hb dX8_weigh_26 (lv_at hl 5 rfl) ?_
     refine ald_i (f := fun j => nI ((wgS xe x1 x2 fB fW i).1 j)) (j := i) hx hb hC hP 1 rfl (by omega) (by decide) dX8_weigh_28 ?_
     refine lv_aload_n hx hb dX8_weigh_29 rfl (lv_at hl 0 rfl) ?_
     refine va_get (D := g.1) (ci := 8) (v := .ref aW) (C := RX8) (T := TX8) (N := 8) hx hb hts hinX8 hown hC.1 hP 0 rfl rfl 1 (by decide) f15 (fun _ h9 => h9) rfl dX8_weigh_30 ?_
     refine lv_iload hx hb dX8_weigh_33 (lv_at hl 5 rfl) ?_
     refine ald_l (f := fun j => lN ((wgS xe x1 x2 fB fW i).2.1 j)) (j := i) hx hb hC hP 2 rfl (by omega) (by decide) dX8_weigh_35 ?_
     have hJ55 : ∀ (H : Heap) (locs : List Loc), va_P g.1 vwCl [(oT, .inr (8, [.ref aB, .ref aW, .ref aS, .ref aU, .ref aK, .int (nI ((wgS xe x1 x2 fB fW i).2.2)), .int (nI ib), .int (nI sn)])), (aB, .inl (g.2.1, 20, .inl (fun j => nI ((wgS xe x1 x2 fB fW i).1 j)))), (aW, .inl (g.2.2.1, 20, .inr (.inl (fun j => lN ((wgS xe x1 x2 fB fW i).2.1 j)))))] H → va_D A [(oT, .inr (8, [.ref aB, .ref aW, .ref aS, .ref aU, .ref aK, .int (nI ((wgS xe x1 x2 fB fW i).2.2)), .int (nI ib), .int (nI sn)])), (aB, .inl (g.2.1, 20, .inl (fun j => nI ((wgS xe x1 x2 fB fW i).1 j)))), (aW, .inl (g.2.2.1, 20, .inr (.inl (fun j => lN ((wgS xe x1 x2 fB fW i).2.1 j)))))] → va_S A s.heap H locs → ∀ ls : Array Slot, lv_has ls 6 [(0, .ref oT), (1, .int (nI xe)), (2, .int (nI x1)), (3, .int (nI x2)), (4, .int (nI fi)), (5, .int (nI i))] → W p l e ({ frames := 1, cells := 0, slots := 0, locals := 23 }) s m ([.ref oT, .int (nI xe), .int (nI x1), .int (nI x2)] : List Value).toArray below meth c H locs 0 0 (MQ below (qMv g (fun (_ : Unit) => True) (fun (_ : Unit) => [(oT, .inr (8, [.ref aB, .ref aW, .ref aS, .ref aU, .ref aK, .int (nI ((wgS xe x1 x2 fB fW fi).2.2)), .int (nI ib), .int (nI sn)])), (aB, .inl (g.2.1, 20, .inl (fun j => nI ((wgS xe x1 x2 fB fW fi).1 j)))), (aW, .inl (g.2.2.1, 20, .inr (.inl (fun j => lN ((wgS xe x1 x2 fB fW fi).2.1 j)))))]) A) ([.ref oT, .int (nI xe), .int (nI x1), .int (nI x2)] : List Value).toArray s 0 0 A) (F0 m 55 ls [.int (nI (if ((wgS xe x1 x2 fB fW i).1 i).testBit xe then x1 else x2)), .long (lN ((wgS xe x1 x2 fB fW i).2.1 i)), .int (nI ((wgS xe x1 x2 fB fW i).1 i)), .ref oT]) := by
      intro  H locs hP hD hS ls hl
      refine lv_i2l (v := lN (if ((wgS xe x1 x2 fB fW i).1 i).testBit xe then x1 else x2)) hx hb dX8_weigh_55 (nI_l (by split <;> omega)) ?_
      refine lv_lmul hx hb dX8_weigh_56 ?_
      refine top_l (y := lN (((wgS xe x1 x2 fB fW i).2.1 i) * (if ((wgS xe x1 x2 fB fW i).1 i).testBit xe then x1 else x2))) (lN_mul _ _) ?_
      refine goMv (S := Unit) (wr := []) (va_runV (As := [.int (nI ((wgS xe x1 x2 fB fW i).1 i)), .long (lN (((wgS xe x1 x2 fB fW i).2.1 i) * (if ((wgS xe x1 x2 fB fW i).1 i).testBit xe then x1 else x2)))]) (rest := []) ⟨hx, hb, hml, hown, hts⟩ (k_X8_keep l g _ oT aB aW aS aU aK ((wgS xe x1 x2 fB fW i).2.2) ib sn ((wgS xe x1 x2 fB fW i).1) ((wgS xe x1 x2 fB fW i).2.1) ((wgS xe x1 x2 fB fW i).1 i) (((wgS xe x1 x2 fB fW i).2.1 i) * (if ((wgS xe x1 x2 fB fW i).1 i).testBit xe then x1 else x2)) (by first | assumption | exact Nat.zero_le _ | omega) (by rw [hk4]; have h9 : (if ((wgS xe x1 x2 fB fW i).1 i).testBit xe then x1 else x2) ≤ 10 := (by split <;> assumption); have h8 := Nat.mul_le_mul (Nat.le_refl (fW i)) h9; omega)) (cwV 2 hts gX8_weigh_X8_keep rfl rfl rfl ⟨rfl, hdX8_keep⟩ ⟨Nat.le_of_ble_eq_true rfl, Nat.le_of_ble_eq_true rfl⟩) (preVM hC (hP.sub [0, 1, 2] rfl) (hD.sub [0, 1, 2] (by decide) rfl) (va_recv hC.1 hP (ci := 8) (q0 := 0) rfl rfl)) rfl rfl hl.1 rfl (lv_room (Nat.le_of_ble_eq_true rfl)) dX8_weigh_57 ⟨Nat.le_of_ble_eq_true rfl, Nat.le_of_ble_eq_true rfl⟩) hP hD hS hA [0, 1, 2] [] rfl rfl (by decide) (by decide) (fun _ H locs hw_9 hP hD hS => ?_)
      have hP : va_P g.1 vwCl [(oT, .inr (8, [.ref aB, .ref aW, .ref aS, .ref aU, .ref aK, .int (nI (kF ((wgS xe x1 x2 fB fW i).2.2) (((wgS xe x1 x2 fB fW i).2.1 i) * (if ((wgS xe x1 x2 fB fW i).1 i).testBit xe then x1 else x2)))), .int (nI ib), .int (nI sn)])), (aB, .inl (g.2.1, 20, .inl (fun j => nI (kB ((wgS xe x1 x2 fB fW i).1) ((wgS xe x1 x2 fB fW i).2.2) ((wgS xe x1 x2 fB fW i).1 i) (((wgS xe x1 x2 fB fW i).2.1 i) * (if ((wgS xe x1 x2 fB fW i).1 i).testBit xe then x1 else x2)) j)))), (aW, .inl (g.2.2.1, 20, .inr (.inl (fun j => lN (kW ((wgS xe x1 x2 fB fW i).2.1) ((wgS xe x1 x2 fB fW i).2.2) (((wgS xe x1 x2 fB fW i).2.1 i) * (if ((wgS xe x1 x2 fB fW i).1 i).testBit xe then x1 else x2)) j)))))] H := hP
      have hD : va_D A [(oT, .inr (8, [.ref aB, .ref aW, .ref aS, .ref aU, .ref aK, .int (nI (kF ((wgS xe x1 x2 fB fW i).2.2) (((wgS xe x1 x2 fB fW i).2.1 i) * (if ((wgS xe x1 x2 fB fW i).1 i).testBit xe then x1 else x2)))), .int (nI ib), .int (nI sn)])), (aB, .inl (g.2.1, 20, .inl (fun j => nI (kB ((wgS xe x1 x2 fB fW i).1) ((wgS xe x1 x2 fB fW i).2.2) ((wgS xe x1 x2 fB fW i).1 i) (((wgS xe x1 x2 fB fW i).2.1 i) * (if ((wgS xe x1 x2 fB fW i).1 i).testBit xe then x1 else x2)) j)))), (aW, .inl (g.2.2.1, 20, .inr (.inl (fun j => lN (kW ((wgS xe x1 x2 fB fW i).2.1) ((wgS xe x1 x2 fB fW i).2.2) (((wgS xe x1 x2 fB fW i).2.1 i) * (if ((wgS xe x1 x2 fB fW i).1 i).testBit xe then x1 else x2)) j)))))] := hD
      refine lv_iinc (v := nI (i + 1)) (lv' := [(5, .int (nI (i + 1))), (0, .ref oT), (1, .int (nI xe)), (2, .int (nI x1)), (3, .int (nI x2)), (4, .int (nI fi))]) hx hb dX8_weigh_60 hl (k := 5) rfl (iinc1 _) (by decide) rfl (fun ls hl => ?_)
      refine lv_goto (tgt := 14) hx hb dX8_weigh_63 (by decide) ?_
      exact ih14 (i + 1) (by omega) (by first | assumption | exact Nat.zero_le _ | omega) _ _ hP hD hS ls (lv_sub hl [1, 2, 3, 4, 5, 0] rfl)
     refine lv_aload_n hx hb dX8_weigh_36 rfl (lv_at hl 0 rfl) ?_
     refine va_get (D := g.1) (ci := 8) (v := .ref aB) (C := RX8) (T := TX8) (N := 8) hx hb hts hinX8 hown hC.1 hP 0 rfl rfl 0 (by decide) f9 (fun _ h9 => h9) rfl dX8_weigh_37 ?_
     refine lv_iload hx hb dX8_weigh_40 (lv_at hl 5 rfl) ?_
     refine ald_i (f := fun j => nI ((wgS xe x1 x2 fB fW i).1 j)) (j := i) hx hb hC hP 1 rfl (by omega) (by decide) dX8_weigh_42 ?_
     refine lv_iload_n hx hb dX8_weigh_43 rfl (lv_at hl 1 rfl) ?_
     refine goSi (T := zI (((wgS xe x1 x2 fB fW i).1 i).testBit xe)) (va_runSN (As := [.int (nI ((wgS xe x1 x2 fB fW i).1 i)), .int (nI xe)]) (rest := [.long (lN ((wgS xe x1 x2 fB fW i).2.1 i)), .int (nI ((wgS xe x1 x2 fB fW i).1 i)), .ref oT]) ⟨hx, hb, hml, hown, hts⟩ (k_X10_has l g ((wgS xe x1 x2 fB fW i).1 i) xe (by rw [hk3]; omega) (by first | assumption | exact Nat.zero_le _ | omega)) ⟨va_cnB 2 hts gX8_weigh_X10_has_n78 rfl rfl rfl (hC.2.1 (.methodLinkNest RX8 78 yX10_has "BoiledEggs") (by decide +kernel)) iniX10 hdX10_has ⟨Nat.le_of_ble_eq_true rfl, Nat.le_of_ble_eq_true rfl⟩, st78, trivial⟩ (preSS hC (hP.sub [] rfl)) rfl rfl hl.1 rfl (lv_room (Nat.le_of_ble_eq_true rfl)) dX8_weigh_44 ⟨Nat.le_of_ble_eq_true rfl, Nat.le_of_ble_eq_true rfl⟩) ?_
     refine lv_if_eq (tgt := 54) hx hb dX8_weigh_47 (by decide) (fun c47 => ?_) (fun c47 => ?_)
     ·have c47 := zI_f.mp c47
      refine lv_iload_n hx hb dX8_weigh_54 rfl (lv_at hl 3 rfl) ?_
      refine top_i (y := nI (if ((wgS xe x1 x2 fB fW i).1 i).testBit xe then x1 else x2)) (by first | rw [if_pos c47] | rw [if_neg (by rw [c47]; decide)]) ?_
      exact hJ55   _ _ hP hD hS ls (lv_sub hl [0, 1, 2, 3, 4, 5] rfl)
     ·have c47 := zI_t.mp c47
      refine lv_iload_n hx hb dX8_weigh_50 rfl (lv_at hl 2 rfl) ?_
      refine lv_goto (tgt := 55) hx hb dX8_weigh_51 (by decide) ?_
      refine top_i (y := nI (if ((wgS xe x1 x2 fB fW i).1 i).testBit xe then x1 else x2)) (by first | rw [if_pos c47] | rw [if_neg (by rw [c47]; decide)]) ?_
      exact hJ55   _ _ hP hD hS ls (lv_sub hl [0, 1, 2, 3, 4, 5] rfl)
  exact hL14 _ 0 (Nat.lt_succ_self _) (by first | assumption | exact Nat.zero_le _ | omega) _ _ hP hD hS ls (lv_sub hl [2, 3, 4, 5, 1, 0] rfl)

set_option maxHeartbeats 4000000 in
set_option maxRecDepth 100000 in
/-- BoiledEggs$Told.countSpin  -/
theorem k_X8_countSpin (l : Launch) (g : GG) (sz : Nat) (oT : Nat) (aB : Nat) (aW : Nat) (aS : Nat) (aU : Nat) (aK : Nat) (fi : Nat) (ib : Nat) (sn : Nat) (fS : Nat → Nat) (fU : Nat → Nat) (xe : Nat) (xb : Bool) (he0 : xe < 6) : Met l yX8_countSpin wsX8_countSpin ({ frames := 0, cells := 0, slots := 0, locals := 0 }) (pM g sz [.ref oT, .int (nI xe), .int (zI xb)] [(oT, .inr (8, [.ref aB, .ref aW, .ref aS, .ref aU, .ref aK, .int (nI fi), .int (nI ib), .int (nI sn)])), (aS, .inl (g.2.1, 6, .inl (fun j => nI (fS j)))), (aU, .inl (g.2.1, 6, .inl (fun j => nI (fU j))))]) (qMv g (fun (_ : Unit) => True) (fun (_ : Unit) => [(oT, .inr (8, [.ref aB, .ref aW, .ref aS, .ref aU, .ref aK, .int (nI fi), .int (nI ib), .int (nI (sn + 1))])), (aS, .inl (g.2.1, 6, .inl (fun j => nI (sp1 fS xe j)))), (aU, .inl (g.2.1, 6, .inl (fun j => nI (cond xb (updN fU xe (fU xe + 1)) fU j))))]) (va_A [(oT, .inr (8, [.ref aB, .ref aW, .ref aS, .ref aU, .ref aK, .int (nI fi), .int (nI ib), .int (nI sn)])), (aS, .inl (g.2.1, 6, .inl (fun j => nI (fS j)))), (aU, .inl (g.2.1, 6, .inl (fun j => nI (fU j))))] sz)) 0 0 (va_A [(oT, .inr (8, [.ref aB, .ref aW, .ref aS, .ref aU, .ref aK, .int (nI fi), .int (nI ib), .int (nI sn)])), (aS, .inl (g.2.1, 6, .inl (fun j => nI (fS j)))), (aU, .inl (g.2.1, 6, .inl (fun j => nI (fU j))))] sz) := by
  refine metM (Qf := fun A => (qMv g (fun (_ : Unit) => True) (fun (_ : Unit) => [(oT, .inr (8, [.ref aB, .ref aW, .ref aS, .ref aU, .ref aK, .int (nI fi), .int (nI ib), .int (nI (sn + 1))])), (aS, .inl (g.2.1, 6, .inl (fun j => nI (sp1 fS xe j)))), (aU, .inl (g.2.1, 6, .inl (fun j => nI (cond xb (updN fU xe (fU xe + 1)) fU j))))]) A)) (cc := cX8_countSpin) (maxL := 3) (ret := none) (by decide) rfl (Nat.le_of_ble_eq_true rfl) ?_
  intro p e s m below meth c hx hb hr hts hown hlocks hml hin0 hC A hA hP hD hS ls hl
  have hl : lv_has ls 3 [(0, .ref oT), (1, .int (nI xe)), (2, .int (zI xb))] := hl
  have hown : s.vm.findClass RX8 = some m.cls := hown
  have hts : ∀ w ∈ wsX8_countSpin, w.before ([.ref oT, .int (nI xe), .int (zI xb)] : List Value).toArray s = true := hts
  have hinX8 := (by decide +kernel : ∀ w ∈ u_ws RX8 TX8 8, w ∈ wsX8_countSpin)
  have f19 := hts (.fieldLink RX8 19 "BoiledEggs$Told" "spins" "[I") (by decide +kernel)
  have f58 := hts (.fieldLink RX8 58 "BoiledEggs$Told" "allSpins" "I") (by decide +kernel)
  have f22 := hts (.fieldLink RX8 22 "BoiledEggs$Told" "turned" "[I") (by decide +kernel)
  refine lv_aload_n hx hb dX8_countSpin_0 rfl (lv_at hl 0 rfl) ?_
  refine va_get (D := g.1) (ci := 8) (v := .ref aS) (C := RX8) (T := TX8) (N := 8) hx hb hts hinX8 hown hC.1 hP 0 rfl rfl 2 (by decide) f19 (fun _ h9 => h9) rfl dX8_countSpin_1 ?_
  refine lv_iload_n hx hb dX8_countSpin_4 rfl (lv_at hl 1 rfl) ?_
  refine lv_dup2_11 hx hb dX8_countSpin_5 rfl rfl ?_
  refine ald_i (f := fun j => nI (fS j)) (j := xe) hx hb hC hP 1 rfl (by omega) (by decide) dX8_countSpin_6 ?_
  refine lv_iconst (v := nI 1) hx hb dX8_countSpin_7 (by decide) ?_
  refine lv_iadd hx hb dX8_countSpin_8 ?_
  refine top_i (y := nI ((fS xe) + 1)) (nI_add _ _) ?_
  refine ast_in (f := fS) (j := xe) (v := (fS xe) + 1) hx hb hC hP hD hS 1 rfl (by omega) (by decide) dX8_countSpin_9 (fun H locs hP hD hS => ?_)
  have hP : va_P g.1 vwCl [(oT, .inr (8, [.ref aB, .ref aW, .ref aS, .ref aU, .ref aK, .int (nI fi), .int (nI ib), .int (nI sn)])), (aS, .inl (g.2.1, 6, .inl (fun j => nI (updN fS xe ((fS xe) + 1) j)))), (aU, .inl (g.2.1, 6, .inl (fun j => nI (fU j))))] H := hP
  have hD : va_D A [(oT, .inr (8, [.ref aB, .ref aW, .ref aS, .ref aU, .ref aK, .int (nI fi), .int (nI ib), .int (nI sn)])), (aS, .inl (g.2.1, 6, .inl (fun j => nI (updN fS xe ((fS xe) + 1) j)))), (aU, .inl (g.2.1, 6, .inl (fun j => nI (fU j))))] := hD
  have hJ24 : ∀ (H : Heap) (locs : List Loc), va_P g.1 vwCl [(oT, .inr (8, [.ref aB, .ref aW, .ref aS, .ref aU, .ref aK, .int (nI fi), .int (nI ib), .int (nI sn)])), (aS, .inl (g.2.1, 6, .inl (fun j => nI (updN fS xe ((fS xe) + 1) j)))), (aU, .inl (g.2.1, 6, .inl (fun j => nI (cond xb (updN fU xe (fU xe + 1)) fU j))))] H → va_D A [(oT, .inr (8, [.ref aB, .ref aW, .ref aS, .ref aU, .ref aK, .int (nI fi), .int (nI ib), .int (nI sn)])), (aS, .inl (g.2.1, 6, .inl (fun j => nI (updN fS xe ((fS xe) + 1) j)))), (aU, .inl (g.2.1, 6, .inl (fun j => nI (cond xb (updN fU xe (fU xe + 1)) fU j))))] → va_S A s.heap H locs → ∀ ls : Array Slot, lv_has ls 3 [(0, .ref oT), (1, .int (nI xe)), (2, .int (zI xb))] → W p l e ({ frames := 0, cells := 0, slots := 0, locals := 0 }) s m ([.ref oT, .int (nI xe), .int (zI xb)] : List Value).toArray below meth c H locs 0 0 (MQ below (qMv g (fun (_ : Unit) => True) (fun (_ : Unit) => [(oT, .inr (8, [.ref aB, .ref aW, .ref aS, .ref aU, .ref aK, .int (nI fi), .int (nI ib), .int (nI (sn + 1))])), (aS, .inl (g.2.1, 6, .inl (fun j => nI (sp1 fS xe j)))), (aU, .inl (g.2.1, 6, .inl (fun j => nI (cond xb (updN fU xe (fU xe + 1)) fU j))))]) A) ([.ref oT, .int (nI xe), .int (zI xb)] : List Value).toArray s 0 0 A) (F0 m 24 ls []) := by
   intro  H locs hP hD hS ls hl
   refine lv_aload_n hx hb dX8_countSpin_24 rfl (lv_at hl 0 rfl) ?_
   refine lv_dup hx hb dX8_countSpin_25 rfl ?_
   refine va_get (D := g.1) (ci := 8) (v := .int (nI sn)) (C := RX8) (T := TX8) (N := 8) hx hb hts hinX8 hown hC.1 hP 0 rfl rfl 7 (by decide) f58 (fun _ h9 => h9) rfl dX8_countSpin_26 ?_
   refine lv_iconst (v := nI 1) hx hb dX8_countSpin_29 (by decide) ?_
   refine lv_iadd hx hb dX8_countSpin_30 ?_
   refine top_i (y := nI (sn + 1)) (nI_add _ _) ?_
   refine va_put (D := g.1) (ci := 8) (v := .int (nI (sn + 1))) (ty := .int) (C := RX8) (T := TX8) (N := 8) hx hb hts hinX8 tyX8 tyX8_ok nmX8 hown hC.1 hP hD hS 0 rfl rfl 7 (by decide) f58 (fun _ h9 => h9) rfl (by decide +kernel) rfl rfl (Nat.le_of_ble_eq_true rfl) dX8_countSpin_31 (fun H locs hP hD hS => ?_)
   have hP : va_P g.1 vwCl [(oT, .inr (8, [.ref aB, .ref aW, .ref aS, .ref aU, .ref aK, .int (nI fi), .int (nI ib), .int (nI (sn + 1))])), (aS, .inl (g.2.1, 6, .inl (fun j => nI (updN fS xe ((fS xe) + 1) j)))), (aU, .inl (g.2.1, 6, .inl (fun j => nI (cond xb (updN fU xe (fU xe + 1)) fU j))))] H := hP
   have hD : va_D A [(oT, .inr (8, [.ref aB, .ref aW, .ref aS, .ref aU, .ref aK, .int (nI fi), .int (nI ib), .int (nI (sn + 1))])), (aS, .inl (g.2.1, 6, .inl (fun j => nI (updN fS xe ((fS xe) + 1) j)))), (aU, .inl (g.2.1, 6, .inl (fun j => nI (cond xb (updN fU xe (fU xe + 1)) fU j))))] := hD
   exact retMv (w := [(oT, .inr (8, [.ref aB, .ref aW, .ref aS, .ref aU, .ref aK, .int (nI fi), .int (nI ib), .int (nI (sn + 1))])), (aS, .inl (g.2.1, 6, .inl (fun j => nI (updN fS xe ((fS xe) + 1) j)))), (aU, .inl (g.2.1, 6, .inl (fun j => nI (cond xb (updN fU xe (fU xe + 1)) fU j))))]) hx hb hr hlocks (hP.sub [0, 1, 2] rfl) (hD.sub [0, 1, 2] (by decide) rfl) hS () (rfl) (trivial) dX8_countSpin_34
  refine lv_iload_n hx hb dX8_countSpin_10 rfl (lv_at hl 2 rfl) ?_
  refine lv_if_eq (tgt := 24) hx hb dX8_countSpin_11 (by decide) (fun c11 => ?_) (fun c11 => ?_)
  ·have c11 := zI_f.mp c11
   exact hJ24   _ _ (by rw [c11]; exact hP) (by rw [c11]; exact hD) hS ls (lv_sub hl [0, 1, 2] rfl)
  ·have c11 := zI_t.mp c11
   refine lv_aload_n hx hb dX8_countSpin_14 rfl (lv_at hl 0 rfl) ?_
   refine va_get (D := g.1) (ci := 8) (v := .ref aU) (C := RX8) (T := TX8) (N := 8) hx hb hts hinX8 hown hC.1 hP 0 rfl rfl 3 (by decide) f22 (fun _ h9 => h9) rfl dX8_countSpin_15 ?_
   refine lv_iload_n hx hb dX8_countSpin_18 rfl (lv_at hl 1 rfl) ?_
   refine lv_dup2_11 hx hb dX8_countSpin_19 rfl rfl ?_
   refine ald_i (f := fun j => nI (fU j)) (j := xe) hx hb hC hP 2 rfl (by omega) (by decide) dX8_countSpin_20 ?_
   refine lv_iconst (v := nI 1) hx hb dX8_countSpin_21 (by decide) ?_
   refine lv_iadd hx hb dX8_countSpin_22 ?_
   refine top_i (y := nI ((fU xe) + 1)) (nI_add _ _) ?_
   refine ast_in (f := fU) (j := xe) (v := (fU xe) + 1) hx hb hC hP hD hS 2 rfl (by omega) (by decide) dX8_countSpin_23 (fun H locs hP hD hS => ?_)
   have hP : va_P g.1 vwCl [(oT, .inr (8, [.ref aB, .ref aW, .ref aS, .ref aU, .ref aK, .int (nI fi), .int (nI ib), .int (nI sn)])), (aS, .inl (g.2.1, 6, .inl (fun j => nI (updN fS xe ((fS xe) + 1) j)))), (aU, .inl (g.2.1, 6, .inl (fun j => nI (updN fU xe ((fU xe) + 1) j))))] H := hP
   have hD : va_D A [(oT, .inr (8, [.ref aB, .ref aW, .ref aS, .ref aU, .ref aK, .int (nI fi), .int (nI ib), .int (nI sn)])), (aS, .inl (g.2.1, 6, .inl (fun j => nI (updN fS xe ((fS xe) + 1) j)))), (aU, .inl (g.2.1, 6, .inl (fun j => nI (updN fU xe ((fU xe) + 1) j))))] := hD
   exact hJ24   _ _ (by rw [c11]; exact hP) (by rw [c11]; exact hD) hS ls (lv_sub hl [0, 1, 2] rfl)

set_option maxHeartbeats 4000000 in
set_option maxRecDepth 100000 in
/-- BoiledEggs$Told.makeSure  -/
theorem k_X8_makeSure (l : Launch) (g : GG) (sz : Nat) (oT : Nat) (aB : Nat) (aW : Nat) (aS : Nat) (aU : Nat) (aK : Nat) (fi : Nat) (ib : Nat) (sn : Nat) (fB : Nat → Nat) (fW : Nat → Nat) (fK : Nat → Int32) (xe : Nat) (xb : Bool) (hf0 : fi ≤ 20) (hB : ∀ j, fB j < 64) (ha0 : smN fW fi < 2 ^ 56) (he0 : xe < 6) : Met l yX8_makeSure wsX8_makeSure ({ frames := 2, cells := 0, slots := 0, locals := 48 }) (pM g sz [.ref oT, .int (nI xe), .int (zI xb)] [(oT, .inr (8, [.ref aB, .ref aW, .ref aS, .ref aU, .ref aK, .int (nI fi), .int (nI ib), .int (nI sn)])), (aB, .inl (g.2.1, 20, .inl (fun j => nI (fB j)))), (aW, .inl (g.2.2.1, 20, .inr (.inl (fun j => lN (fW j))))), (aK, .inl (g.2.1, 6, .inl fK))]) (qMv g (fun (_ : Unit) => True) (fun (_ : Unit) => [(oT, .inr (8, [.ref aB, .ref aW, .ref aS, .ref aU, .ref aK, .int (nI ((wgS xe (cond xb 1 0) (cond xb 0 1) fB fW fi).2.2)), .int (nI ib), .int (nI sn)])), (aB, .inl (g.2.1, 20, .inl (fun j => nI ((wgS xe (cond xb 1 0) (cond xb 0 1) fB fW fi).1 j)))), (aW, .inl (g.2.2.1, 20, .inr (.inl (fun j => lN ((wgS xe (cond xb 1 0) (cond xb 0 1) fB fW fi).2.1 j))))), (aK, .inl (g.2.1, 6, .inl (upd fK xe (zI xb))))]) (va_A [(oT, .inr (8, [.ref aB, .ref aW, .ref aS, .ref aU, .ref aK, .int (nI fi), .int (nI ib), .int (nI sn)])), (aB, .inl (g.2.1, 20, .inl (fun j => nI (fB j)))), (aW, .inl (g.2.2.1, 20, .inr (.inl (fun j => lN (fW j))))), (aK, .inl (g.2.1, 6, .inl fK))] sz)) 0 0 (va_A [(oT, .inr (8, [.ref aB, .ref aW, .ref aS, .ref aU, .ref aK, .int (nI fi), .int (nI ib), .int (nI sn)])), (aB, .inl (g.2.1, 20, .inl (fun j => nI (fB j)))), (aW, .inl (g.2.2.1, 20, .inr (.inl (fun j => lN (fW j))))), (aK, .inl (g.2.1, 6, .inl fK))] sz) := by
  refine metM (Qf := fun A => (qMv g (fun (_ : Unit) => True) (fun (_ : Unit) => [(oT, .inr (8, [.ref aB, .ref aW, .ref aS, .ref aU, .ref aK, .int (nI ((wgS xe (cond xb 1 0) (cond xb 0 1) fB fW fi).2.2)), .int (nI ib), .int (nI sn)])), (aB, .inl (g.2.1, 20, .inl (fun j => nI ((wgS xe (cond xb 1 0) (cond xb 0 1) fB fW fi).1 j)))), (aW, .inl (g.2.2.1, 20, .inr (.inl (fun j => lN ((wgS xe (cond xb 1 0) (cond xb 0 1) fB fW fi).2.1 j))))), (aK, .inl (g.2.1, 6, .inl (upd fK xe (zI xb))))]) A)) (cc := cX8_makeSure) (maxL := 3) (ret := none) (by decide) rfl (Nat.le_of_ble_eq_true rfl) ?_
  intro p e s m below meth c hx hb hr hts hown hlocks hml hin0 hC A hA hP hD hS ls hl
  have hl : lv_has ls 3 [(0, .ref oT), (1, .int (nI xe)), (2, .int (zI xb))] := hl
  have hown : s.vm.findClass RX8 = some m.cls := hown
  have hts : ∀ w ∈ wsX8_makeSure, w.before ([.ref oT, .int (nI xe), .int (zI xb)] : List Value).toArray s = true := hts
  have hinX8 := (by decide +kernel : ∀ w ∈ u_ws RX8 TX8 8, w ∈ wsX8_makeSure)
  have f25 := hts (.fieldLink RX8 25 "BoiledEggs$Told" "known" "[I") (by decide +kernel)
  refine lv_aload_n hx hb dX8_makeSure_0 rfl (lv_at hl 0 rfl) ?_
  refine lv_iload_n hx hb dX8_makeSure_1 rfl (lv_at hl 1 rfl) ?_
  have hJ11 : ∀ (H : Heap) (locs : List Loc), va_P g.1 vwCl [(oT, .inr (8, [.ref aB, .ref aW, .ref aS, .ref aU, .ref aK, .int (nI fi), .int (nI ib), .int (nI sn)])), (aB, .inl (g.2.1, 20, .inl (fun j => nI (fB j)))), (aW, .inl (g.2.2.1, 20, .inr (.inl (fun j => lN (fW j))))), (aK, .inl (g.2.1, 6, .inl fK))] H → va_D A [(oT, .inr (8, [.ref aB, .ref aW, .ref aS, .ref aU, .ref aK, .int (nI fi), .int (nI ib), .int (nI sn)])), (aB, .inl (g.2.1, 20, .inl (fun j => nI (fB j)))), (aW, .inl (g.2.2.1, 20, .inr (.inl (fun j => lN (fW j))))), (aK, .inl (g.2.1, 6, .inl fK))] → va_S A s.heap H locs → ∀ ls : Array Slot, lv_has ls 3 [(0, .ref oT), (1, .int (nI xe)), (2, .int (zI xb))] → W p l e ({ frames := 2, cells := 0, slots := 0, locals := 48 }) s m ([.ref oT, .int (nI xe), .int (zI xb)] : List Value).toArray below meth c H locs 0 0 (MQ below (qMv g (fun (_ : Unit) => True) (fun (_ : Unit) => [(oT, .inr (8, [.ref aB, .ref aW, .ref aS, .ref aU, .ref aK, .int (nI ((wgS xe (cond xb 1 0) (cond xb 0 1) fB fW fi).2.2)), .int (nI ib), .int (nI sn)])), (aB, .inl (g.2.1, 20, .inl (fun j => nI ((wgS xe (cond xb 1 0) (cond xb 0 1) fB fW fi).1 j)))), (aW, .inl (g.2.2.1, 20, .inr (.inl (fun j => lN ((wgS xe (cond xb 1 0) (cond xb 0 1) fB fW fi).2.1 j))))), (aK, .inl (g.2.1, 6, .inl (upd fK xe (zI xb))))]) A) ([.ref oT, .int (nI xe), .int (zI xb)] : List Value).toArray s 0 0 A) (F0 m 11 ls [.int (nI (cond xb 1 0)), .int (nI xe), .ref oT]) := by
   intro  H locs hP hD hS ls hl
   have hJ20 : ∀ (H : Heap) (locs : List Loc), va_P g.1 vwCl [(oT, .inr (8, [.ref aB, .ref aW, .ref aS, .ref aU, .ref aK, .int (nI fi), .int (nI ib), .int (nI sn)])), (aB, .inl (g.2.1, 20, .inl (fun j => nI (fB j)))), (aW, .inl (g.2.2.1, 20, .inr (.inl (fun j => lN (fW j))))), (aK, .inl (g.2.1, 6, .inl fK))] H → va_D A [(oT, .inr (8, [.ref aB, .ref aW, .ref aS, .ref aU, .ref aK, .int (nI fi), .int (nI ib), .int (nI sn)])), (aB, .inl (g.2.1, 20, .inl (fun j => nI (fB j)))), (aW, .inl (g.2.2.1, 20, .inr (.inl (fun j => lN (fW j))))), (aK, .inl (g.2.1, 6, .inl fK))] → va_S A s.heap H locs → ∀ ls : Array Slot, lv_has ls 3 [(0, .ref oT), (1, .int (nI xe)), (2, .int (zI xb))] → W p l e ({ frames := 2, cells := 0, slots := 0, locals := 48 }) s m ([.ref oT, .int (nI xe), .int (zI xb)] : List Value).toArray below meth c H locs 0 0 (MQ below (qMv g (fun (_ : Unit) => True) (fun (_ : Unit) => [(oT, .inr (8, [.ref aB, .ref aW, .ref aS, .ref aU, .ref aK, .int (nI ((wgS xe (cond xb 1 0) (cond xb 0 1) fB fW fi).2.2)), .int (nI ib), .int (nI sn)])), (aB, .inl (g.2.1, 20, .inl (fun j => nI ((wgS xe (cond xb 1 0) (cond xb 0 1) fB fW fi).1 j)))), (aW, .inl (g.2.2.1, 20, .inr (.inl (fun j => lN ((wgS xe (cond xb 1 0) (cond xb 0 1) fB fW fi).2.1 j))))), (aK, .inl (g.2.1, 6, .inl (upd fK xe (zI xb))))]) A) ([.ref oT, .int (nI xe), .int (zI xb)] : List Value).toArray s 0 0 A) (F0 m 20 ls [.int (nI (cond xb 0 1)), .int (nI (cond xb 1 0)), .int (nI xe), .ref oT]) := by
    intro  H locs hP hD hS ls hl
    refine goMv (S := Unit) (wr := [(aK, .inl (g.2.1, 6, .inl fK))]) (va_runV (As := [.int (nI xe), .int (nI (cond xb 1 0)), .int (nI (cond xb 0 1))]) (rest := []) ⟨hx, hb, hml, hown, hts⟩ (k_X8_weigh l g _ oT aB aW aS aU aK fi ib sn fB fW xe (cond xb 1 0) (cond xb 0 1) (by first | assumption | exact Nat.zero_le _ | omega) (by first | assumption | exact Nat.zero_le _ | omega) (by first | assumption | exact Nat.zero_le _ | omega) (by first | assumption | exact Nat.zero_le _ | omega) (by cases xb <;> decide) (by cases xb <;> decide)) (cwV 3 hts gX8_makeSure_X8_weigh rfl rfl rfl ⟨rfl, hdX8_weigh⟩ ⟨Nat.le_of_ble_eq_true rfl, Nat.le_of_ble_eq_true rfl⟩) (preVM hC (hP.sub [0, 1, 2] rfl) (hD.sub [0, 1, 2] (by decide) rfl) (va_recv hC.1 hP (ci := 8) (q0 := 0) rfl rfl)) rfl rfl hl.1 rfl (lv_room (Nat.le_of_ble_eq_true rfl)) dX8_makeSure_20 ⟨Nat.le_of_ble_eq_true rfl, Nat.le_of_ble_eq_true rfl⟩) hP hD hS hA [0, 1, 2] [3] rfl rfl (by decide) (by decide) (fun _ H locs hw_9 hP hD hS => ?_)
    have hP : va_P g.1 vwCl [(aK, .inl (g.2.1, 6, .inl fK)), (oT, .inr (8, [.ref aB, .ref aW, .ref aS, .ref aU, .ref aK, .int (nI ((wgS xe (cond xb 1 0) (cond xb 0 1) fB fW fi).2.2)), .int (nI ib), .int (nI sn)])), (aB, .inl (g.2.1, 20, .inl (fun j => nI ((wgS xe (cond xb 1 0) (cond xb 0 1) fB fW fi).1 j)))), (aW, .inl (g.2.2.1, 20, .inr (.inl (fun j => lN ((wgS xe (cond xb 1 0) (cond xb 0 1) fB fW fi).2.1 j)))))] H := hP
    have hD : va_D A [(aK, .inl (g.2.1, 6, .inl fK)), (oT, .inr (8, [.ref aB, .ref aW, .ref aS, .ref aU, .ref aK, .int (nI ((wgS xe (cond xb 1 0) (cond xb 0 1) fB fW fi).2.2)), .int (nI ib), .int (nI sn)])), (aB, .inl (g.2.1, 20, .inl (fun j => nI ((wgS xe (cond xb 1 0) (cond xb 0 1) fB fW fi).1 j)))), (aW, .inl (g.2.2.1, 20, .inr (.inl (fun j => lN ((wgS xe (cond xb 1 0) (cond xb 0 1) fB fW fi).2.1 j)))))] := hD
    refine lv_aload_n hx hb dX8_makeSure_23 rfl (lv_at hl 0 rfl) ?_
    refine va_get (D := g.1) (ci := 8) (v := .ref aK) (C := RX8) (T := TX8) (N := 8) hx hb hts hinX8 hown hC.1 hP 1 rfl rfl 4 (by decide) f25 (fun _ h9 => h9) rfl dX8_makeSure_24 ?_
    refine lv_iload_n hx hb dX8_makeSure_27 rfl (lv_at hl 1 rfl) ?_
    have hJ37 : ∀ (H : Heap) (locs : List Loc), va_P g.1 vwCl [(aK, .inl (g.2.1, 6, .inl fK)), (oT, .inr (8, [.ref aB, .ref aW, .ref aS, .ref aU, .ref aK, .int (nI ((wgS xe (cond xb 1 0) (cond xb 0 1) fB fW fi).2.2)), .int (nI ib), .int (nI sn)])), (aB, .inl (g.2.1, 20, .inl (fun j => nI ((wgS xe (cond xb 1 0) (cond xb 0 1) fB fW fi).1 j)))), (aW, .inl (g.2.2.1, 20, .inr (.inl (fun j => lN ((wgS xe (cond xb 1 0) (cond xb 0 1) fB fW fi).2.1 j)))))] H → va_D A [(aK, .inl (g.2.1, 6, .inl fK)), (oT, .inr (8, [.ref aB, .ref aW, .ref aS, .ref aU, .ref aK, .int (nI ((wgS xe (cond xb 1 0) (cond xb 0 1) fB fW fi).2.2)), .int (nI ib), .int (nI sn)])), (aB, .inl (g.2.1, 20, .inl (fun j => nI ((wgS xe (cond xb 1 0) (cond xb 0 1) fB fW fi).1 j)))), (aW, .inl (g.2.2.1, 20, .inr (.inl (fun j => lN ((wgS xe (cond xb 1 0) (cond xb 0 1) fB fW fi).2.1 j)))))] → va_S A s.heap H locs → ∀ ls : Array Slot, lv_has ls 3 [(0, .ref oT), (1, .int (nI xe)), (2, .int (zI xb))] → W p l e ({ frames := 2, cells := 0, slots := 0, locals := 48 }) s m ([.ref oT, .int (nI xe), .int (zI xb)] : List Value).toArray below meth c H locs 0 0 (MQ below (qMv g (fun (_ : Unit) => True) (fun (_ : Unit) => [(oT, .inr (8, [.ref aB, .ref aW, .ref aS, .ref aU, .ref aK, .int (nI ((wgS xe (cond xb 1 0) (cond xb 0 1) fB fW fi).2.2)), .int (nI ib), .int (nI sn)])), (aB, .inl (g.2.1, 20, .inl (fun j => nI ((wgS xe (cond xb 1 0) (cond xb 0 1) fB fW fi).1 j)))), (aW, .inl (g.2.2.1, 20, .inr (.inl (fun j => lN ((wgS xe (cond xb 1 0) (cond xb 0 1) fB fW fi).2.1 j))))), (aK, .inl (g.2.1, 6, .inl (upd fK xe (zI xb))))]) A) ([.ref oT, .int (nI xe), .int (zI xb)] : List Value).toArray s 0 0 A) (F0 m 37 ls [.int (zI xb), .int (nI xe), .ref aK]) := by
     intro  H locs hP hD hS ls hl
     refine ast_i (f := fK) (j := xe) hx hb hC hP hD hS 0 rfl (by omega) (by decide) dX8_makeSure_37 (fun H locs hP hD hS => ?_)
     have hP : va_P g.1 vwCl [(aK, .inl (g.2.1, 6, .inl (upd fK xe (zI xb)))), (oT, .inr (8, [.ref aB, .ref aW, .ref aS, .ref aU, .ref aK, .int (nI ((wgS xe (cond xb 1 0) (cond xb 0 1) fB fW fi).2.2)), .int (nI ib), .int (nI sn)])), (aB, .inl (g.2.1, 20, .inl (fun j => nI ((wgS xe (cond xb 1 0) (cond xb 0 1) fB fW fi).1 j)))), (aW, .inl (g.2.2.1, 20, .inr (.inl (fun j => lN ((wgS xe (cond xb 1 0) (cond xb 0 1) fB fW fi).2.1 j)))))] H := hP
     have hD : va_D A [(aK, .inl (g.2.1, 6, .inl (upd fK xe (zI xb)))), (oT, .inr (8, [.ref aB, .ref aW, .ref aS, .ref aU, .ref aK, .int (nI ((wgS xe (cond xb 1 0) (cond xb 0 1) fB fW fi).2.2)), .int (nI ib), .int (nI sn)])), (aB, .inl (g.2.1, 20, .inl (fun j => nI ((wgS xe (cond xb 1 0) (cond xb 0 1) fB fW fi).1 j)))), (aW, .inl (g.2.2.1, 20, .inr (.inl (fun j => lN ((wgS xe (cond xb 1 0) (cond xb 0 1) fB fW fi).2.1 j)))))] := hD
     exact retMv (w := [(oT, .inr (8, [.ref aB, .ref aW, .ref aS, .ref aU, .ref aK, .int (nI ((wgS xe (cond xb 1 0) (cond xb 0 1) fB fW fi).2.2)), .int (nI ib), .int (nI sn)])), (aB, .inl (g.2.1, 20, .inl (fun j => nI ((wgS xe (cond xb 1 0) (cond xb 0 1) fB fW fi).1 j)))), (aW, .inl (g.2.2.1, 20, .inr (.inl (fun j => lN ((wgS xe (cond xb 1 0) (cond xb 0 1) fB fW fi).2.1 j))))), (aK, .inl (g.2.1, 6, .inl (upd fK xe (zI xb))))]) hx hb hr hlocks (hP.sub [1, 2, 3, 0] rfl) (hD.sub [1, 2, 3, 0] (by decide) rfl) hS () (rfl) (trivial) dX8_makeSure_38
    refine lv_iload_n hx hb dX8_makeSure_28 rfl (lv_at hl 2 rfl) ?_
    refine lv_if_eq (tgt := 36) hx hb dX8_makeSure_29 (by decide) (fun c29 => ?_) (fun c29 => ?_)
    ·have c29 := zI_f.mp c29
     refine lv_iconst (v := nI 0) hx hb dX8_makeSure_36 (by decide) ?_
     refine top_i (y := zI xb) (by rw [c29]; rfl) ?_
     exact hJ37   _ _ hP hD hS ls (lv_sub hl [0, 1, 2] rfl)
    ·have c29 := zI_t.mp c29
     refine lv_iconst (v := nI 1) hx hb dX8_makeSure_32 (by decide) ?_
     refine lv_goto (tgt := 37) hx hb dX8_makeSure_33 (by decide) ?_
     refine top_i (y := zI xb) (by rw [c29]; rfl) ?_
     exact hJ37   _ _ hP hD hS ls (lv_sub hl [0, 1, 2] rfl)
   refine lv_iload_n hx hb dX8_makeSure_11 rfl (lv_at hl 2 rfl) ?_
   refine lv_if_eq (tgt := 19) hx hb dX8_makeSure_12 (by decide) (fun c12 => ?_) (fun c12 => ?_)
   ·have c12 := zI_f.mp c12
    refine lv_iconst (v := nI 1) hx hb dX8_makeSure_19 (by decide) ?_
    refine top_i (y := nI (cond xb 0 1)) (by rw [c12]; rfl) ?_
    exact hJ20   _ _ hP hD hS ls (lv_sub hl [0, 1, 2] rfl)
   ·have c12 := zI_t.mp c12
    refine lv_iconst (v := nI 0) hx hb dX8_makeSure_15 (by decide) ?_
    refine lv_goto (tgt := 20) hx hb dX8_makeSure_16 (by decide) ?_
    refine top_i (y := nI (cond xb 0 1)) (by rw [c12]; rfl) ?_
    exact hJ20   _ _ hP hD hS ls (lv_sub hl [0, 1, 2] rfl)
  refine lv_iload_n hx hb dX8_makeSure_2 rfl (lv_at hl 2 rfl) ?_
  refine lv_if_eq (tgt := 10) hx hb dX8_makeSure_3 (by decide) (fun c3 => ?_) (fun c3 => ?_)
  ·have c3 := zI_f.mp c3
   refine lv_iconst (v := nI 0) hx hb dX8_makeSure_10 (by decide) ?_
   refine top_i (y := nI (cond xb 1 0)) (by rw [c3]; rfl) ?_
   exact hJ11   _ _ hP hD hS ls (lv_sub hl [0, 1, 2] rfl)
  ·have c3 := zI_t.mp c3
   refine lv_iconst (v := nI 1) hx hb dX8_makeSure_6 (by decide) ?_
   refine lv_goto (tgt := 11) hx hb dX8_makeSure_7 (by decide) ?_
   refine top_i (y := nI (cond xb 1 0)) (by rw [c3]; rfl) ?_
   exact hJ11   _ _ hP hD hS ls (lv_sub hl [0, 1, 2] rfl)

set_option maxHeartbeats 4000000 in
set_option maxRecDepth 100000 in
/-- BoiledEggs$Told.takeOut  -/
theorem k_X8_takeOut (l : Launch) (g : GG) (sz : Nat) (oT : Nat) (aB : Nat) (aW : Nat) (aS : Nat) (aU : Nat) (aK : Nat) (fi : Nat) (ib : Nat) (sn : Nat) (xe : Nat) (he0 : xe < 6) (hib : ib < 64) : Met l yX8_takeOut wsX8_takeOut ({ frames := 0, cells := 0, slots := 0, locals := 0 }) (pM g sz [.ref oT, .int (nI xe)] [(oT, .inr (8, [.ref aB, .ref aW, .ref aS, .ref aU, .ref aK, .int (nI fi), .int (nI ib), .int (nI sn)]))]) (qMv g (fun (_ : Unit) => True) (fun (_ : Unit) => [(oT, .inr (8, [.ref aB, .ref aW, .ref aS, .ref aU, .ref aK, .int (nI fi), .int (nI (andn ib (2 ^ xe))), .int (nI sn)]))]) (va_A [(oT, .inr (8, [.ref aB, .ref aW, .ref aS, .ref aU, .ref aK, .int (nI fi), .int (nI ib), .int (nI sn)]))] sz)) 0 0 (va_A [(oT, .inr (8, [.ref aB, .ref aW, .ref aS, .ref aU, .ref aK, .int (nI fi), .int (nI ib), .int (nI sn)]))] sz) := by
  refine metM (Qf := fun A => (qMv g (fun (_ : Unit) => True) (fun (_ : Unit) => [(oT, .inr (8, [.ref aB, .ref aW, .ref aS, .ref aU, .ref aK, .int (nI fi), .int (nI (andn ib (2 ^ xe))), .int (nI sn)]))]) A)) (cc := cX8_takeOut) (maxL := 2) (ret := none) (by decide) rfl (Nat.le_of_ble_eq_true rfl) ?_
  intro p e s m below meth c hx hb hr hts hown hlocks hml hin0 hC A hA hP hD hS ls hl
  have hl : lv_has ls 2 [(0, .ref oT), (1, .int (nI xe))] := hl
  have hown : s.vm.findClass RX8 = some m.cls := hown
  have hts : ∀ w ∈ wsX8_takeOut, w.before ([.ref oT, .int (nI xe)] : List Value).toArray s = true := hts
  have h2k := p2lt he0
  have hinX8 := (by decide +kernel : ∀ w ∈ u_ws RX8 TX8 8, w ∈ wsX8_takeOut)
  have f55 := hts (.fieldLink RX8 55 "BoiledEggs$Told" "inBox" "I") (by decide +kernel)
  refine lv_aload_n hx hb dX8_takeOut_0 rfl (lv_at hl 0 rfl) ?_
  refine lv_dup hx hb dX8_takeOut_1 rfl ?_
  refine va_get (D := g.1) (ci := 8) (v := .int (nI ib)) (C := RX8) (T := TX8) (N := 8) hx hb hts hinX8 hown hC.1 hP 0 rfl rfl 6 (by decide) f55 (fun _ h9 => h9) rfl dX8_takeOut_2 ?_
  refine lv_iconst (v := nI 1) hx hb dX8_takeOut_5 (by decide) ?_
  refine lv_iload_n hx hb dX8_takeOut_6 rfl (lv_at hl 1 rfl) ?_
  refine lv_ishl hx hb dX8_takeOut_7 ?_
  refine top_i (y := nI (2 ^ xe)) (shl1_nI (by omega)) ?_
  refine lv_iconst (v := (-1)) hx hb dX8_takeOut_8 (by decide) ?_
  refine lv_ixor hx hb dX8_takeOut_9 ?_
  refine lv_iand hx hb dX8_takeOut_10 ?_
  refine top_i (y := nI (andn ib (2 ^ xe))) (andn_nI _ hib _ h2k) ?_
  refine va_put (D := g.1) (ci := 8) (v := .int (nI (andn ib (2 ^ xe)))) (ty := .int) (C := RX8) (T := TX8) (N := 8) hx hb hts hinX8 tyX8 tyX8_ok nmX8 hown hC.1 hP hD hS 0 rfl rfl 6 (by decide) f55 (fun _ h9 => h9) rfl (by decide +kernel) rfl rfl (Nat.le_of_ble_eq_true rfl) dX8_takeOut_11 (fun H locs hP hD hS => ?_)
  have hP : va_P g.1 vwCl [(oT, .inr (8, [.ref aB, .ref aW, .ref aS, .ref aU, .ref aK, .int (nI fi), .int (nI (andn ib (2 ^ xe))), .int (nI sn)]))] H := hP
  have hD : va_D A [(oT, .inr (8, [.ref aB, .ref aW, .ref aS, .ref aU, .ref aK, .int (nI fi), .int (nI (andn ib (2 ^ xe))), .int (nI sn)]))] := hD
  exact retMv (w := [(oT, .inr (8, [.ref aB, .ref aW, .ref aS, .ref aU, .ref aK, .int (nI fi), .int (nI (andn ib (2 ^ xe))), .int (nI sn)]))]) hx hb hr hlocks (hP.sub [0] rfl) (hD.sub [0] (by decide) rfl) hS () (rfl) (trivial) dX8_takeOut_14

set_option maxHeartbeats 4000000 in
set_option maxRecDepth 100000 in
/-- BoiledEggs$Told.eggAtPlace  -/
theorem k_X8_eggAtPlace (l : Launch) (g : GG) (oT : Nat) (aB : Nat) (aW : Nat) (aS : Nat) (aU : Nat) (aK : Nat) (fi : Nat) (ib : Nat) (sn : Nat) (xp : Nat) (hib : ib < 64) (hp0 : xp < 2 ^ 31) : Met l yX8_eggAtPlace wsX8_eggAtPlace ({ frames := 2, cells := 0, slots := 0, locals := 42 }) (pS g [.ref oT, .int (nI xp)] [(oT, .inr (8, [.ref aB, .ref aW, .ref aS, .ref aU, .ref aK, .int (nI fi), .int (nI ib), .int (nI sn)]))]) (vp_Si (fun r => r = (eap ib xp 6 0 0))) 0 0 noF := by
  refine metS (cc := cX8_eggAtPlace) (maxL := 4) (ret := (some .int)) (by decide) rfl (Nat.le_of_ble_eq_true rfl) ?_
  intro p e s m below meth c hx hb hr hts hown hlocks hml hC hP ls hl
  have hl : lv_has ls 4 [(0, .ref oT), (1, .int (nI xp))] := hl
  have hown : s.vm.findClass RX8 = some m.cls := hown
  have hts : ∀ w ∈ wsX8_eggAtPlace, w.before ([.ref oT, .int (nI xp)] : List Value).toArray s = true := hts
  refine lv_iconst (v := nI 0) hx hb dX8_eggAtPlace_0 (by decide) ?_
  refine lv_istore_n (lv' := [(2, .int (nI 0)), (0, .ref oT), (1, .int (nI xp))]) hx hb dX8_eggAtPlace_1 rfl hl (by decide) rfl (fun ls hl => ?_)
  refine lv_iconst (v := nI 0) hx hb dX8_eggAtPlace_2 (by decide) ?_
  refine lv_istore_n (lv' := [(3, .int (nI 0)), (2, .int (nI 0)), (0, .ref oT), (1, .int (nI xp))]) hx hb dX8_eggAtPlace_3 rfl hl (by decide) rfl (fun ls hl => ?_)
  have hL4 : ∀ (n_9 : Nat) (i : Nat) (a : Nat), 6 - i < n_9 → (i ≤ 6) → (a ≤ i) → (eap ib xp (6 - i) i a = eap ib xp 6 0 0) → ∀ ls : Array Slot, lv_has ls 4 [(0, .ref oT), (1, .int (nI xp)), (2, .int (nI a)), (3, .int (nI i))] → W p l e ({ frames := 2, cells := 0, slots := 0, locals := 42 }) s m ([.ref oT, .int (nI xp)] : List Value).toArray below meth c s.heap [] 0 0 (MQ below (vp_Si (fun r => r = (eap ib xp 6 0 0))) ([.ref oT, .int (nI xp)] : List Value).toArray s 0 0 noF) (F0 m 4 ls []) := by
   intro n_9
   induction n_9 with
   | zero => intro i a hn_9; exact absurd hn_9 (Nat.not_lt_zero _)
   | succ n_9 ih4 =>
    intro i a hn_9 hi ha9 hf ls hl
    refine lv_iload_n hx hb dX8_eggAtPlace_4 rfl (lv_at hl 3 rfl) ?_
    refine lv_bipush (v := nI 6) hx hb dX8_eggAtPlace_5 (by decide) ?_
    refine lv_icmp_ge (tgt := 34) hx hb dX8_eggAtPlace_7 (by decide) (fun c7 => ?_) (fun c7 => ?_)
    ·have c7 : 6 ≤ i := (nI_leI (a := 6) (b := i) (by omega) (by omega)).mp c7
     refine lv_iconst (v := (-1)) hx hb dX8_eggAtPlace_34 (by decide) ?_
     exact retSi hx hb hr hlocks (by rw [← hf, eap_e (by omega)]) dX8_eggAtPlace_35
    ·have c7 : ¬ 6 ≤ i := fun h9 => c7 ((nI_leI (a := 6) (b := i) (by omega) (by omega)).mpr h9)
     refine lv_aload_n hx hb dX8_eggAtPlace_10 rfl (lv_at hl 0 rfl) ?_
     refine lv_iload_n hx hb dX8_eggAtPlace_11 rfl (lv_at hl 3 rfl) ?_
     refine goSi (T := zI (ib.testBit i)) (va_runV (As := [.int (nI i)]) (rest := []) ⟨hx, hb, hml, hown, hts⟩ (k_X8_isInBox l g oT aB aW aS aU aK fi ib sn i (by first | assumption | exact Nat.zero_le _ | omega) (by first | assumption | exact Nat.zero_le _ | omega)) (cwV 1 hts gX8_eggAtPlace_X8_isInBox rfl rfl rfl ⟨rfl, hdX8_isInBox⟩ ⟨Nat.le_of_ble_eq_true rfl, Nat.le_of_ble_eq_true rfl⟩) (preVS hC (hP.sub [0] rfl) (va_recv hC.1 hP (ci := 8) (q0 := 0) rfl rfl)) rfl rfl hl.1 rfl (lv_room (Nat.le_of_ble_eq_true rfl)) dX8_eggAtPlace_12 ⟨Nat.le_of_ble_eq_true rfl, Nat.le_of_ble_eq_true rfl⟩) ?_
     refine lv_if_eq (tgt := 28) hx hb dX8_eggAtPlace_15 (by decide) (fun c15 => ?_) (fun c15 => ?_)
     ·have c15 := zI_f.mp c15
      refine lv_iinc (v := nI (i + 1)) (lv' := [(3, .int (nI (i + 1))), (0, .ref oT), (1, .int (nI xp)), (2, .int (nI a))]) hx hb dX8_eggAtPlace_28 hl (k := 3) rfl (iinc1 _) (by decide) rfl (fun ls hl => ?_)
      refine lv_goto (tgt := 4) hx hb dX8_eggAtPlace_31 (by decide) ?_
      exact ih4 (i + 1) a (by omega) (by omega) (by omega) (by rw [← hf]; first | exact eap_z c15 (by omega) | exact eap_n c15 c20 (by omega)) ls (lv_sub hl [1, 2, 3, 0] rfl)
     ·have c15 := zI_t.mp c15
      refine lv_iload_n hx hb dX8_eggAtPlace_18 rfl (lv_at hl 2 rfl) ?_
      refine lv_iload_n hx hb dX8_eggAtPlace_19 rfl (lv_at hl 1 rfl) ?_
      refine lv_icmp_ne (tgt := 25) hx hb dX8_eggAtPlace_20 (by decide) (fun c20 => ?_) (fun c20 => ?_)
      ·have c20 : ¬ a = xp := fun h9 => c20 ((nI_eq (a := a) (b := xp) (by omega) (by omega)).mpr h9)
       refine lv_iinc (v := nI (a + 1)) (lv' := [(2, .int (nI (a + 1))), (0, .ref oT), (1, .int (nI xp)), (3, .int (nI i))]) hx hb dX8_eggAtPlace_25 hl (k := 2) rfl (iinc1 _) (by decide) rfl (fun ls hl => ?_)
       refine lv_iinc (v := nI (i + 1)) (lv' := [(3, .int (nI (i + 1))), (2, .int (nI (a + 1))), (0, .ref oT), (1, .int (nI xp))]) hx hb dX8_eggAtPlace_28 hl (k := 3) rfl (iinc1 _) (by decide) rfl (fun ls hl => ?_)
       refine lv_goto (tgt := 4) hx hb dX8_eggAtPlace_31 (by decide) ?_
       exact ih4 (i + 1) (a + 1) (by omega) (by omega) (by omega) (by rw [← hf]; first | exact eap_z c15 (by omega) | exact eap_n c15 c20 (by omega)) ls (lv_sub hl [2, 3, 1, 0] rfl)
      ·have c20 : a = xp := (nI_eq (a := a) (b := xp) (by omega) (by omega)).mp c20
       refine lv_iload_n hx hb dX8_eggAtPlace_23 rfl (lv_at hl 3 rfl) ?_
       exact retSi hx hb hr hlocks (by rw [← hf, eap_r c15 c20 (by omega)]) dX8_eggAtPlace_24
  exact hL4 _ 0 0 (Nat.lt_succ_self _) (Nat.zero_le _) (Nat.le_refl _) (rfl) ls (lv_sub hl [2, 3, 1, 0] rfl)

set_option maxHeartbeats 4000000 in
set_option maxRecDepth 100000 in
/-- BoiledEggs$Told.fittingBox  -/
theorem k_X8_fittingBox (l : Launch) (g : GG) (oT : Nat) (aB : Nat) (aW : Nat) (aS : Nat) (aU : Nat) (aK : Nat) (fi : Nat) (ib : Nat) (sn : Nat) (fB : Nat → Nat) (xn : Nat) (hf0 : fi ≤ 20) (hn0 : xn < fi) : Met l yX8_fittingBox wsX8_fittingBox ({ frames := 0, cells := 0, slots := 0, locals := 0 }) (pS g [.ref oT, .int (nI xn)] [(oT, .inr (8, [.ref aB, .ref aW, .ref aS, .ref aU, .ref aK, .int (nI fi), .int (nI ib), .int (nI sn)])), (aB, .inl (g.2.1, 20, .inl (fun j => nI (fB j))))]) (vp_Si (fun r => r = (nI (fB xn)))) 0 0 noF := by
  refine metS (cc := cX8_fittingBox) (maxL := 2) (ret := (some .int)) (by decide) rfl (Nat.le_of_ble_eq_true rfl) ?_
  intro p e s m below meth c hx hb hr hts hown hlocks hml hC hP ls hl
  have hl : lv_has ls 2 [(0, .ref oT), (1, .int (nI xn))] := hl
  have hown : s.vm.findClass RX8 = some m.cls := hown
  have hts : ∀ w ∈ wsX8_fittingBox, w.before ([.ref oT, .int (nI xn)] : List Value).toArray s = true := hts
  have hinX8 := (by decide +kernel : ∀ w ∈ u_ws RX8 TX8 8, w ∈ wsX8_fittingBox)
  have f28 := hts (.fieldLink RX8 28 "BoiledEggs$Told" "fitting" "I") (by decide +kernel)
  have f9 := hts (.fieldLink RX8 9 "BoiledEggs$Told" "boxes" "[I") (by decide +kernel)
  refine lv_iload_n hx hb dX8_fittingBox_0 rfl (lv_at hl 1 rfl) ?_
  refine lv_if_lt (tgt := 21) hx hb dX8_fittingBox_1 (by decide) (fun hz => absurd hz (nI_pos (by omega))) (fun _ => ?_)
  refine lv_iload_n hx hb dX8_fittingBox_4 rfl (lv_at hl 1 rfl) ?_
  refine lv_aload_n hx hb dX8_fittingBox_5 rfl (lv_at hl 0 rfl) ?_
  refine va_get (D := g.1) (ci := 8) (v := .int (nI fi)) (C := RX8) (T := TX8) (N := 8) hx hb hts hinX8 hown hC.1 hP 0 rfl rfl 5 (by decide) f28 (fun _ h9 => h9) rfl dX8_fittingBox_6 ?_
  refine lv_icmp_ge (tgt := 21) hx hb dX8_fittingBox_9 (by decide) (fun hz => absurd hz (nI_ge hn0 (by omega))) (fun _ => ?_)
  refine lv_aload_n hx hb dX8_fittingBox_12 rfl (lv_at hl 0 rfl) ?_
  refine va_get (D := g.1) (ci := 8) (v := .ref aB) (C := RX8) (T := TX8) (N := 8) hx hb hts hinX8 hown hC.1 hP 0 rfl rfl 0 (by decide) f9 (fun _ h9 => h9) rfl dX8_fittingBox_13 ?_
  refine lv_iload_n hx hb dX8_fittingBox_16 rfl (lv_at hl 1 rfl) ?_
  refine ald_i (f := fun j => nI (fB j)) (j := xn) hx hb hC hP 1 rfl (by omega) (by decide) dX8_fittingBox_17 ?_
  refine lv_goto (tgt := 22) hx hb dX8_fittingBox_18 (by decide) ?_
  exact retSi hx hb hr hlocks (rfl) dX8_fittingBox_22

set_option maxHeartbeats 4000000 in
set_option maxRecDepth 100000 in
/-- BoiledEggs$Told.heaviestBox  -/
theorem k_X8_heaviestBox (l : Launch) (g : GG) (oT : Nat) (aB : Nat) (aW : Nat) (aS : Nat) (aU : Nat) (aK : Nat) (fi : Nat) (ib : Nat) (sn : Nat) (fB : Nat → Nat) (fW : Nat → Nat) (hf0 : fi ≤ 20) (hw0 : ∀ j, fW j < 2 ^ 63) : Met l yX8_heaviestBox wsX8_heaviestBox ({ frames := 0, cells := 0, slots := 0, locals := 0 }) (pS g [.ref oT] [(oT, .inr (8, [.ref aB, .ref aW, .ref aS, .ref aU, .ref aK, .int (nI fi), .int (nI ib), .int (nI sn)])), (aB, .inl (g.2.1, 20, .inl (fun j => nI (fB j)))), (aW, .inl (g.2.2.1, 20, .inr (.inl (fun j => lN (fW j)))))]) (vp_Si (fun r => r = (nI (fB (fo (hvF fW) 0 (fi - 1)))))) 0 0 noF := by
  refine metS (cc := cX8_heaviestBox) (maxL := 3) (ret := (some .int)) (by decide) rfl (Nat.le_of_ble_eq_true rfl) ?_
  intro p e s m below meth c hx hb hr hts hown hlocks hml hC hP ls hl
  have hl : lv_has ls 3 [(0, .ref oT)] := hl
  have hown : s.vm.findClass RX8 = some m.cls := hown
  have hts : ∀ w ∈ wsX8_heaviestBox, w.before ([.ref oT] : List Value).toArray s = true := hts
  have hinX8 := (by decide +kernel : ∀ w ∈ u_ws RX8 TX8 8, w ∈ wsX8_heaviestBox)
  have f28 := hts (.fieldLink RX8 28 "BoiledEggs$Told" "fitting" "I") (by decide +kernel)
  have f9 := hts (.fieldLink RX8 9 "BoiledEggs$Told" "boxes" "[I") (by decide +kernel)
  have f15 := hts (.fieldLink RX8 15 "BoiledEggs$Told" "weights" "[J") (by decide +kernel)
  refine lv_iconst (v := nI 0) hx hb dX8_heaviestBox_0 (by decide) ?_
  refine lv_istore_n (lv' := [(1, .int (nI 0)), (0, .ref oT)]) hx hb dX8_heaviestBox_1 rfl hl (by decide) rfl (fun ls hl => ?_)
  refine lv_iconst (v := nI 1) hx hb dX8_heaviestBox_2 (by decide) ?_
  refine lv_istore_n (lv' := [(2, .int (nI 1)), (1, .int (nI 0)), (0, .ref oT)]) hx hb dX8_heaviestBox_3 rfl hl (by decide) rfl (fun ls hl => ?_)
  have hL4 : ∀ (n_9 : Nat) (k : Nat), 20 - k < n_9 → (k ≤ fi - 1) → ∀ ls : Array Slot, lv_has ls 3 [(0, .ref oT), (1, .int (nI (fo (hvF fW) 0 k))), (2, .int (nI (k + 1)))] → W p l e ({ frames := 0, cells := 0, slots := 0, locals := 0 }) s m ([.ref oT] : List Value).toArray below meth c s.heap [] 0 0 (MQ below (vp_Si (fun r => r = (nI (fB (fo (hvF fW) 0 (fi - 1)))))) ([.ref oT] : List Value).toArray s 0 0 noF) (F0 m 4 ls []) := by
   intro n_9
   induction n_9 with
   | zero => intro k hn_9; exact absurd hn_9 (Nat.not_lt_zero _)
   | succ n_9 ih4 =>
    intro k hn_9 hk ls hl
    refine lv_iload_n hx hb dX8_heaviestBox_4 rfl (lv_at hl 2 rfl) ?_
    refine lv_aload_n hx hb dX8_heaviestBox_5 rfl (lv_at hl 0 rfl) ?_
    refine va_get (D := g.1) (ci := 8) (v := .int (nI fi)) (C := RX8) (T := TX8) (N := 8) hx hb hts hinX8 hown hC.1 hP 0 rfl rfl 5 (by decide) f28 (fun _ h9 => h9) rfl dX8_heaviestBox_6 ?_
    refine lv_icmp_ge (tgt := 36) hx hb dX8_heaviestBox_9 (by decide) (fun c9 => ?_) (fun c9 => ?_)
    ·have c9 : fi ≤ (k + 1) := (nI_leI (a := fi) (b := k + 1) (by omega) (by omega)).mp c9
     have hhv := hv_le fW k
     refine lv_aload_n hx hb dX8_heaviestBox_36 rfl (lv_at hl 0 rfl) ?_
     refine va_get (D := g.1) (ci := 8) (v := .ref aB) (C := RX8) (T := TX8) (N := 8) hx hb hts hinX8 hown hC.1 hP 0 rfl rfl 0 (by decide) f9 (fun _ h9 => h9) rfl dX8_heaviestBox_37 ?_
     refine lv_iload_n hx hb dX8_heaviestBox_40 rfl (lv_at hl 1 rfl) ?_
     refine ald_i (f := fun j => nI (fB j)) (j := fo (hvF fW) 0 k) hx hb hC hP 1 rfl (by omega) (by decide) dX8_heaviestBox_41 ?_
     exact retSi hx hb hr hlocks (by rw [show fi - 1 = k by omega]) dX8_heaviestBox_42
    ·have c9 : ¬ fi ≤ (k + 1) := fun h9 => c9 ((nI_leI (a := fi) (b := k + 1) (by omega) (by omega)).mpr h9)
     have hhv := hv_le fW k
     have hv1 := hw0 (k + 1)
     have hv2 := hw0 (fo (hvF fW) 0 k)
     have hJ30 : ∀ ls : Array Slot, lv_has ls 3 [(0, .ref oT), (1, .int (nI (fo (hvF fW) 0 (k + 1)))), (2, .int (nI (k + 1)))] → W p l e ({ frames := 0, cells := 0, slots := 0, locals := 0 }) s m ([.ref oT] : List Value).toArray below meth c s.heap [] 0 0 (MQ below (vp_Si (fun r => r = (nI (fB (fo (hvF fW) 0 (fi - 1)))))) ([.ref oT] : List Value).toArray s 0 0 noF) (F0 m 30 ls []) := by
      intro  ls hl
      refine lv_iinc (v := nI ((k + 1) + 1)) (lv' := [(2, .int (nI ((k + 1) + 1))), (0, .ref oT), (1, .int (nI (fo (hvF fW) 0 (k + 1))))]) hx hb dX8_heaviestBox_30 hl (k := 2) rfl (iinc1 _) (by decide) rfl (fun ls hl => ?_)
      refine lv_goto (tgt := 4) hx hb dX8_heaviestBox_33 (by decide) ?_
      exact ih4 (k + 1) (by omega) (by first | assumption | exact Nat.zero_le _ | omega) ls (lv_sub hl [1, 2, 0] rfl)
     refine lv_aload_n hx hb dX8_heaviestBox_12 rfl (lv_at hl 0 rfl) ?_
     refine va_get (D := g.1) (ci := 8) (v := .ref aW) (C := RX8) (T := TX8) (N := 8) hx hb hts hinX8 hown hC.1 hP 0 rfl rfl 1 (by decide) f15 (fun _ h9 => h9) rfl dX8_heaviestBox_13 ?_
     refine lv_iload_n hx hb dX8_heaviestBox_16 rfl (lv_at hl 2 rfl) ?_
     refine ald_l (f := fun j => lN (fW j)) (j := k + 1) hx hb hC hP 2 rfl (by omega) (by decide) dX8_heaviestBox_17 ?_
     refine lv_aload_n hx hb dX8_heaviestBox_18 rfl (lv_at hl 0 rfl) ?_
     refine va_get (D := g.1) (ci := 8) (v := .ref aW) (C := RX8) (T := TX8) (N := 8) hx hb hts hinX8 hown hC.1 hP 0 rfl rfl 1 (by decide) f15 (fun _ h9 => h9) rfl dX8_heaviestBox_19 ?_
     refine lv_iload_n hx hb dX8_heaviestBox_22 rfl (lv_at hl 1 rfl) ?_
     refine ald_l (f := fun j => lN (fW j)) (j := fo (hvF fW) 0 k) hx hb hC hP 2 rfl (by omega) (by decide) dX8_heaviestBox_23 ?_
     refine lc_le (tgt := 30) hx hb dX8_heaviestBox_24 dX8_heaviestBox_25 (by decide) (fun c24 => ?_) (fun c24 => ?_)
     ·have c24 : (fW (k + 1)) ≤ (fW (fo (hvF fW) 0 k)) := (pk_lLE (a := fW (k + 1)) (b := fW (fo (hvF fW) 0 k)) (by omega) (by omega)).mp c24
      have hl : lv_has ls 3 [(0, .ref oT), (1, .int (nI (fo (hvF fW) 0 (k + 1)))), (2, .int (nI (k + 1)))] := lv_val hl 1 rfl (congrArg Value.int (show nI (fo (hvF fW) 0 k) = nI (fo (hvF fW) 0 (k + 1)) from by rw [fo_s, hvF, if_neg (by omega)]))
      exact hJ30   ls (lv_sub hl [0, 1, 2] rfl)
     ·have c24 : ¬ (fW (k + 1)) ≤ (fW (fo (hvF fW) 0 k)) := fun h9 => c24 ((pk_lLE (a := fW (k + 1)) (b := fW (fo (hvF fW) 0 k)) (by omega) (by omega)).mpr h9)
      refine lv_iload_n hx hb dX8_heaviestBox_28 rfl (lv_at hl 2 rfl) ?_
      refine lv_istore_n (lv' := [(1, .int (nI (k + 1))), (0, .ref oT), (2, .int (nI (k + 1)))]) hx hb dX8_heaviestBox_29 rfl hl (by decide) rfl (fun ls hl => ?_)
      have hl : lv_has ls 3 [(1, .int (nI (fo (hvF fW) 0 (k + 1)))), (0, .ref oT), (2, .int (nI (k + 1)))] := lv_val hl 0 rfl (congrArg Value.int (show nI (k + 1) = nI (fo (hvF fW) 0 (k + 1)) from by rw [fo_s, hvF, if_pos (by omega)]))
      exact hJ30   ls (lv_sub hl [1, 0, 2] rfl)
  exact hL4 _ 0 (Nat.lt_succ_self _) (by first | assumption | exact Nat.zero_le _ | omega) ls (lv_sub hl [2, 1, 0] rfl)

set_option maxHeartbeats 4000000 in
set_option maxRecDepth 100000 in
/-- BoiledEggs$Told.surelyBoiled  -/
theorem k_X8_surelyBoiled (l : Launch) (g : GG) (oT : Nat) (aB : Nat) (aW : Nat) (aS : Nat) (aU : Nat) (aK : Nat) (fi : Nat) (ib : Nat) (sn : Nat) (fB : Nat → Nat) (xm : Nat) (hf0 : fi ≤ 20) : Met l yX8_surelyBoiled wsX8_surelyBoiled ({ frames := 0, cells := 0, slots := 0, locals := 0 }) (pS g [.ref oT, .int (nI xm)] [(oT, .inr (8, [.ref aB, .ref aW, .ref aS, .ref aU, .ref aK, .int (nI fi), .int (nI ib), .int (nI sn)])), (aB, .inl (g.2.1, 20, .inl (fun j => nI (fB j))))]) (vp_Si (fun r => r = (nI (srB fB xm fi)))) 0 0 noF := by
  refine metS (cc := cX8_surelyBoiled) (maxL := 4) (ret := (some .int)) (by decide) rfl (Nat.le_of_ble_eq_true rfl) ?_
  intro p e s m below meth c hx hb hr hts hown hlocks hml hC hP ls hl
  have hl : lv_has ls 4 [(0, .ref oT), (1, .int (nI xm))] := hl
  have hown : s.vm.findClass RX8 = some m.cls := hown
  have hts : ∀ w ∈ wsX8_surelyBoiled, w.before ([.ref oT, .int (nI xm)] : List Value).toArray s = true := hts
  have hinX8 := (by decide +kernel : ∀ w ∈ u_ws RX8 TX8 8, w ∈ wsX8_surelyBoiled)
  have f28 := hts (.fieldLink RX8 28 "BoiledEggs$Told" "fitting" "I") (by decide +kernel)
  have f9 := hts (.fieldLink RX8 9 "BoiledEggs$Told" "boxes" "[I") (by decide +kernel)
  refine lv_iload_n hx hb dX8_surelyBoiled_0 rfl (lv_at hl 1 rfl) ?_
  refine lv_istore_n (lv' := [(2, .int (nI xm)), (0, .ref oT), (1, .int (nI xm))]) hx hb dX8_surelyBoiled_1 rfl hl (by decide) rfl (fun ls hl => ?_)
  refine lv_iconst (v := nI 0) hx hb dX8_surelyBoiled_2 (by decide) ?_
  refine lv_istore_n (lv' := [(3, .int (nI 0)), (2, .int (nI xm)), (0, .ref oT), (1, .int (nI xm))]) hx hb dX8_surelyBoiled_3 rfl hl (by decide) rfl (fun ls hl => ?_)
  have hL4 : ∀ (n_9 : Nat) (i : Nat), fi - i < n_9 → (i ≤ fi) → ∀ ls : Array Slot, lv_has ls 4 [(0, .ref oT), (1, .int (nI xm)), (2, .int (nI (srB fB xm i))), (3, .int (nI i))] → W p l e ({ frames := 0, cells := 0, slots := 0, locals := 0 }) s m ([.ref oT, .int (nI xm)] : List Value).toArray below meth c s.heap [] 0 0 (MQ below (vp_Si (fun r => r = (nI (srB fB xm fi)))) ([.ref oT, .int (nI xm)] : List Value).toArray s 0 0 noF) (F0 m 4 ls []) := by
   intro n_9
   induction n_9 with
   | zero => intro i hn_9; exact absurd hn_9 (Nat.not_lt_zero _)
   | succ n_9 ih4 =>
    intro i hn_9 hi ls hl
    refine lv_iload_n hx hb dX8_surelyBoiled_4 rfl (lv_at hl 3 rfl) ?_
    refine lv_aload_n hx hb dX8_surelyBoiled_5 rfl (lv_at hl 0 rfl) ?_
    refine va_get (D := g.1) (ci := 8) (v := .int (nI fi)) (C := RX8) (T := TX8) (N := 8) hx hb hts hinX8 hown hC.1 hP 0 rfl rfl 5 (by decide) f28 (fun _ h9 => h9) rfl dX8_surelyBoiled_6 ?_
    refine lv_icmp_ge (tgt := 27) hx hb dX8_surelyBoiled_9 (by decide) (fun c9 => ?_) (fun c9 => ?_)
    ·have c9 : fi ≤ i := (nI_leI (a := fi) (b := i) (by omega) (by omega)).mp c9
     refine lv_iload_n hx hb dX8_surelyBoiled_27 rfl (lv_at hl 2 rfl) ?_
     exact retSi hx hb hr hlocks (by rw [show fi = i by omega]) dX8_surelyBoiled_28
    ·have c9 : ¬ fi ≤ i := fun h9 => c9 ((nI_leI (a := fi) (b := i) (by omega) (by omega)).mpr h9)
     refine lv_iload_n hx hb dX8_surelyBoiled_12 rfl (lv_at hl 2 rfl) ?_
     refine lv_aload_n hx hb dX8_surelyBoiled_13 rfl (lv_at hl 0 rfl) ?_
     refine va_get (D := g.1) (ci := 8) (v := .ref aB) (C := RX8) (T := TX8) (N := 8) hx hb hts hinX8 hown hC.1 hP 0 rfl rfl 0 (by decide) f9 (fun _ h9 => h9) rfl dX8_surelyBoiled_14 ?_
     refine lv_iload_n hx hb dX8_surelyBoiled_17 rfl (lv_at hl 3 rfl) ?_
     refine ald_i (f := fun j => nI (fB j)) (j := i) hx hb hC hP 1 rfl (by omega) (by decide) dX8_surelyBoiled_18 ?_
     refine lv_iand hx hb dX8_surelyBoiled_19 ?_
     refine top_i (y := nI (srB fB xm (i + 1))) (and_nI _ _) ?_
     refine lv_istore_n (lv' := [(2, .int (nI (srB fB xm (i + 1)))), (0, .ref oT), (1, .int (nI xm)), (3, .int (nI i))]) hx hb dX8_surelyBoiled_20 rfl hl (by decide) rfl (fun ls hl => ?_)
     refine lv_iinc (v := nI (i + 1)) (lv' := [(3, .int (nI (i + 1))), (2, .int (nI (srB fB xm (i + 1)))), (0, .ref oT), (1, .int (nI xm))]) hx hb dX8_surelyBoiled_21 hl (k := 3) rfl (iinc1 _) (by decide) rfl (fun ls hl => ?_)
     refine lv_goto (tgt := 4) hx hb dX8_surelyBoiled_24 (by decide) ?_
     exact ih4 (i + 1) (by omega) (by first | assumption | exact Nat.zero_le _ | omega) ls (lv_sub hl [2, 3, 1, 0] rfl)
  exact hL4 _ 0 (Nat.lt_succ_self _) (by first | assumption | exact Nat.zero_le _ | omega) ls (lv_sub hl [2, 3, 1, 0] rfl)

set_option maxHeartbeats 4000000 in
set_option maxRecDepth 100000 in
/-- BoiledEggs$Told.surelyRaw  -/
theorem k_X8_surelyRaw (l : Launch) (g : GG) (oT : Nat) (aB : Nat) (aW : Nat) (aS : Nat) (aU : Nat) (aK : Nat) (fi : Nat) (ib : Nat) (sn : Nat) (fB : Nat → Nat) (xm : Nat) (hf0 : fi ≤ 20) (hB : ∀ j, fB j < 64) (hm0 : xm < 64) : Met l yX8_surelyRaw wsX8_surelyRaw ({ frames := 0, cells := 0, slots := 0, locals := 0 }) (pS g [.ref oT, .int (nI xm)] [(oT, .inr (8, [.ref aB, .ref aW, .ref aS, .ref aU, .ref aK, .int (nI fi), .int (nI ib), .int (nI sn)])), (aB, .inl (g.2.1, 20, .inl (fun j => nI (fB j))))]) (vp_Si (fun r => r = (nI (srN fB xm fi)))) 0 0 noF := by
  refine metS (cc := cX8_surelyRaw) (maxL := 4) (ret := (some .int)) (by decide) rfl (Nat.le_of_ble_eq_true rfl) ?_
  intro p e s m below meth c hx hb hr hts hown hlocks hml hC hP ls hl
  have hl : lv_has ls 4 [(0, .ref oT), (1, .int (nI xm))] := hl
  have hown : s.vm.findClass RX8 = some m.cls := hown
  have hts : ∀ w ∈ wsX8_surelyRaw, w.before ([.ref oT, .int (nI xm)] : List Value).toArray s = true := hts
  have hinX8 := (by decide +kernel : ∀ w ∈ u_ws RX8 TX8 8, w ∈ wsX8_surelyRaw)
  have f28 := hts (.fieldLink RX8 28 "BoiledEggs$Told" "fitting" "I") (by decide +kernel)
  have f9 := hts (.fieldLink RX8 9 "BoiledEggs$Told" "boxes" "[I") (by decide +kernel)
  refine lv_iload_n hx hb dX8_surelyRaw_0 rfl (lv_at hl 1 rfl) ?_
  refine lv_istore_n (lv' := [(2, .int (nI xm)), (0, .ref oT), (1, .int (nI xm))]) hx hb dX8_surelyRaw_1 rfl hl (by decide) rfl (fun ls hl => ?_)
  refine lv_iconst (v := nI 0) hx hb dX8_surelyRaw_2 (by decide) ?_
  refine lv_istore_n (lv' := [(3, .int (nI 0)), (2, .int (nI xm)), (0, .ref oT), (1, .int (nI xm))]) hx hb dX8_surelyRaw_3 rfl hl (by decide) rfl (fun ls hl => ?_)
  have hL4 : ∀ (n_9 : Nat) (i : Nat), fi - i < n_9 → (i ≤ fi) → ∀ ls : Array Slot, lv_has ls 4 [(0, .ref oT), (1, .int (nI xm)), (2, .int (nI (srN fB xm i))), (3, .int (nI i))] → W p l e ({ frames := 0, cells := 0, slots := 0, locals := 0 }) s m ([.ref oT, .int (nI xm)] : List Value).toArray below meth c s.heap [] 0 0 (MQ below (vp_Si (fun r => r = (nI (srN fB xm fi)))) ([.ref oT, .int (nI xm)] : List Value).toArray s 0 0 noF) (F0 m 4 ls []) := by
   intro n_9
   induction n_9 with
   | zero => intro i hn_9; exact absurd hn_9 (Nat.not_lt_zero _)
   | succ n_9 ih4 =>
    intro i hn_9 hi ls hl
    refine lv_iload_n hx hb dX8_surelyRaw_4 rfl (lv_at hl 3 rfl) ?_
    refine lv_aload_n hx hb dX8_surelyRaw_5 rfl (lv_at hl 0 rfl) ?_
    refine va_get (D := g.1) (ci := 8) (v := .int (nI fi)) (C := RX8) (T := TX8) (N := 8) hx hb hts hinX8 hown hC.1 hP 0 rfl rfl 5 (by decide) f28 (fun _ h9 => h9) rfl dX8_surelyRaw_6 ?_
    refine lv_icmp_ge (tgt := 29) hx hb dX8_surelyRaw_9 (by decide) (fun c9 => ?_) (fun c9 => ?_)
    ·have c9 : fi ≤ i := (nI_leI (a := fi) (b := i) (by omega) (by omega)).mp c9
     refine lv_iload_n hx hb dX8_surelyRaw_29 rfl (lv_at hl 2 rfl) ?_
     exact retSi hx hb hr hlocks (by rw [show fi = i by omega]) dX8_surelyRaw_30
    ·have c9 : ¬ fi ≤ i := fun h9 => c9 ((nI_leI (a := fi) (b := i) (by omega) (by omega)).mpr h9)
     refine lv_iload_n hx hb dX8_surelyRaw_12 rfl (lv_at hl 2 rfl) ?_
     refine lv_aload_n hx hb dX8_surelyRaw_13 rfl (lv_at hl 0 rfl) ?_
     refine va_get (D := g.1) (ci := 8) (v := .ref aB) (C := RX8) (T := TX8) (N := 8) hx hb hts hinX8 hown hC.1 hP 0 rfl rfl 0 (by decide) f9 (fun _ h9 => h9) rfl dX8_surelyRaw_14 ?_
     refine lv_iload_n hx hb dX8_surelyRaw_17 rfl (lv_at hl 3 rfl) ?_
     refine ald_i (f := fun j => nI (fB j)) (j := i) hx hb hC hP 1 rfl (by omega) (by decide) dX8_surelyRaw_18 ?_
     refine lv_iconst (v := (-1)) hx hb dX8_surelyRaw_19 (by decide) ?_
     refine lv_ixor hx hb dX8_surelyRaw_20 ?_
     refine lv_iand hx hb dX8_surelyRaw_21 ?_
     refine top_i (y := nI (srN fB xm (i + 1))) (andn_nI _ (by have := srN_le fB xm i; omega) _ (hB i)) ?_
     refine lv_istore_n (lv' := [(2, .int (nI (srN fB xm (i + 1)))), (0, .ref oT), (1, .int (nI xm)), (3, .int (nI i))]) hx hb dX8_surelyRaw_22 rfl hl (by decide) rfl (fun ls hl => ?_)
     refine lv_iinc (v := nI (i + 1)) (lv' := [(3, .int (nI (i + 1))), (2, .int (nI (srN fB xm (i + 1)))), (0, .ref oT), (1, .int (nI xm))]) hx hb dX8_surelyRaw_23 hl (k := 3) rfl (iinc1 _) (by decide) rfl (fun ls hl => ?_)
     refine lv_goto (tgt := 4) hx hb dX8_surelyRaw_26 (by decide) ?_
     exact ih4 (i + 1) (by omega) (by first | assumption | exact Nat.zero_le _ | omega) ls (lv_sub hl [2, 3, 1, 0] rfl)
  exact hL4 _ 0 (Nat.lt_succ_self _) (by first | assumption | exact Nat.zero_le _ | omega) ls (lv_sub hl [2, 3, 1, 0] rfl)

set_option maxHeartbeats 4000000 in
set_option maxRecDepth 100000 in
/-- BoiledEggs$Told.hasRawInBox  -/
theorem k_X8_hasRawInBox (l : Launch) (g : GG) (oT : Nat) (aB : Nat) (aW : Nat) (aS : Nat) (aU : Nat) (aK : Nat) (fi : Nat) (ib : Nat) (sn : Nat) (fB : Nat → Nat) (xr : Nat) (hf0 : fi ≤ 20) (hB : ∀ j, fB j < 64) (hib : ib < 64) (hr0 : xr ≤ 6) : Met l yX8_hasRawInBox wsX8_hasRawInBox ({ frames := 1, cells := 0, slots := 0, locals := 20 }) (pS g [.ref oT, .int (nI xr)] [(oT, .inr (8, [.ref aB, .ref aW, .ref aS, .ref aU, .ref aK, .int (nI fi), .int (nI ib), .int (nI sn)])), (aB, .inl (g.2.1, 20, .inl (fun j => nI (fB j))))]) (vp_Si (fun r => r = (zI (hrB fB ib xr fi)))) 0 0 noF := by
  refine metS (cc := cX8_hasRawInBox) (maxL := 3) (ret := (some .boolean)) (by decide) rfl (Nat.le_of_ble_eq_true rfl) ?_
  intro p e s m below meth c hx hb hr hts hown hlocks hml hC hP ls hl
  have hl : lv_has ls 3 [(0, .ref oT), (1, .int (nI xr))] := hl
  have hown : s.vm.findClass RX8 = some m.cls := hown
  have hts : ∀ w ∈ wsX8_hasRawInBox, w.before ([.ref oT, .int (nI xr)] : List Value).toArray s = true := hts
  have hinX8 := (by decide +kernel : ∀ w ∈ u_ws RX8 TX8 8, w ∈ wsX8_hasRawInBox)
  have f28 := hts (.fieldLink RX8 28 "BoiledEggs$Told" "fitting" "I") (by decide +kernel)
  have f55 := hts (.fieldLink RX8 55 "BoiledEggs$Told" "inBox" "I") (by decide +kernel)
  have f9 := hts (.fieldLink RX8 9 "BoiledEggs$Told" "boxes" "[I") (by decide +kernel)
  refine lv_iconst (v := nI 0) hx hb dX8_hasRawInBox_0 (by decide) ?_
  refine lv_istore_n (lv' := [(2, .int (nI 0)), (0, .ref oT), (1, .int (nI xr))]) hx hb dX8_hasRawInBox_1 rfl hl (by decide) rfl (fun ls hl => ?_)
  have hL2 : ∀ (n_9 : Nat) (i : Nat), fi - i < n_9 → (i ≤ fi) → (ff (hrG fB ib xr) (fi - i) i = ff (hrG fB ib xr) fi 0) → ∀ ls : Array Slot, lv_has ls 3 [(0, .ref oT), (1, .int (nI xr)), (2, .int (nI i))] → W p l e ({ frames := 1, cells := 0, slots := 0, locals := 20 }) s m ([.ref oT, .int (nI xr)] : List Value).toArray below meth c s.heap [] 0 0 (MQ below (vp_Si (fun r => r = (zI (hrB fB ib xr fi)))) ([.ref oT, .int (nI xr)] : List Value).toArray s 0 0 noF) (F0 m 2 ls []) := by
   intro n_9
   induction n_9 with
   | zero => intro i hn_9; exact absurd hn_9 (Nat.not_lt_zero _)
   | succ n_9 ih2 =>
    intro i hn_9 hi hf ls hl
    refine lv_iload_n hx hb dX8_hasRawInBox_2 rfl (lv_at hl 2 rfl) ?_
    refine lv_aload_n hx hb dX8_hasRawInBox_3 rfl (lv_at hl 0 rfl) ?_
    refine va_get (D := g.1) (ci := 8) (v := .int (nI fi)) (C := RX8) (T := TX8) (N := 8) hx hb hts hinX8 hown hC.1 hP 0 rfl rfl 5 (by decide) f28 (fun _ h9 => h9) rfl dX8_hasRawInBox_4 ?_
    refine lv_icmp_ge (tgt := 38) hx hb dX8_hasRawInBox_7 (by decide) (fun c7 => ?_) (fun c7 => ?_)
    ·have c7 : fi ≤ i := (nI_leI (a := fi) (b := i) (by omega) (by omega)).mp c7
     refine lv_iconst (v := nI 1) hx hb dX8_hasRawInBox_38 (by decide) ?_
     exact retSz hx hb hr hlocks (by decide) (zI_1 (decide_eq_true (by rw [← hf, ff_e (by omega)]; omega))) dX8_hasRawInBox_39
    ·have c7 : ¬ fi ≤ i := fun h9 => c7 ((nI_leI (a := fi) (b := i) (by omega) (by omega)).mpr h9)
     have hal := andn_le ib (fB i)
     have hpl := popS_le (andn ib (fB i)) 6
     refine lv_aload_n hx hb dX8_hasRawInBox_10 rfl (lv_at hl 0 rfl) ?_
     refine va_get (D := g.1) (ci := 8) (v := .int (nI ib)) (C := RX8) (T := TX8) (N := 8) hx hb hts hinX8 hown hC.1 hP 0 rfl rfl 6 (by decide) f55 (fun _ h9 => h9) rfl dX8_hasRawInBox_11 ?_
     refine lv_aload_n hx hb dX8_hasRawInBox_14 rfl (lv_at hl 0 rfl) ?_
     refine va_get (D := g.1) (ci := 8) (v := .ref aB) (C := RX8) (T := TX8) (N := 8) hx hb hts hinX8 hown hC.1 hP 0 rfl rfl 0 (by decide) f9 (fun _ h9 => h9) rfl dX8_hasRawInBox_15 ?_
     refine lv_iload_n hx hb dX8_hasRawInBox_18 rfl (lv_at hl 2 rfl) ?_
     refine ald_i (f := fun j => nI (fB j)) (j := i) hx hb hC hP 1 rfl (by omega) (by decide) dX8_hasRawInBox_19 ?_
     refine lv_iconst (v := (-1)) hx hb dX8_hasRawInBox_20 (by decide) ?_
     refine lv_ixor hx hb dX8_hasRawInBox_21 ?_
     refine lv_iand hx hb dX8_hasRawInBox_22 ?_
     refine top_i (y := nI (andn ib (fB i))) (andn_nI _ hib _ (hB i)) ?_
     refine goSi (T := nI (popS (andn ib (fB i)) 6)) (va_runS (As := [.int (nI (andn ib (fB i)))]) (rest := []) ⟨hx, hb, hml, hown, hts⟩ (k_J6_bitCount l g (andn ib (fB i)) (by first | assumption | exact Nat.zero_le _ | omega)) (va_cwS 1 hts gX8_hasRawInBox_J6_bitCount_0f7a4 rfl rfl rfl hdJ6_bitCount_0f7a4 ⟨Nat.le_of_ble_eq_true rfl, Nat.le_of_ble_eq_true rfl⟩) (preSS hC (hP.sub [] rfl)) rfl rfl hl.1 rfl (lv_room (Nat.le_of_ble_eq_true rfl)) dX8_hasRawInBox_23 ⟨Nat.le_of_ble_eq_true rfl, Nat.le_of_ble_eq_true rfl⟩) ?_
     refine lv_iload_n hx hb dX8_hasRawInBox_26 rfl (lv_at hl 1 rfl) ?_
     refine lv_icmp_ge (tgt := 32) hx hb dX8_hasRawInBox_27 (by decide) (fun c27 => ?_) (fun c27 => ?_)
     ·have c27 : xr ≤ (popS (andn ib (fB i)) 6) := (nI_leI (a := xr) (b := popS (andn ib (fB i)) 6) (by omega) (by omega)).mp c27
      refine lv_iinc (v := nI (i + 1)) (lv' := [(2, .int (nI (i + 1))), (0, .ref oT), (1, .int (nI xr))]) hx hb dX8_hasRawInBox_32 hl (k := 2) rfl (iinc1 _) (by decide) rfl (fun ls hl => ?_)
      refine lv_goto (tgt := 2) hx hb dX8_hasRawInBox_35 (by decide) ?_
      exact ih2 (i + 1) (by omega) (by omega) (by rw [← hf]; exact ff_t (decide_eq_true c27) (by omega)) ls (lv_sub hl [1, 2, 0] rfl)
     ·have c27 : ¬ xr ≤ (popS (andn ib (fB i)) 6) := fun h9 => c27 ((nI_leI (a := xr) (b := popS (andn ib (fB i)) 6) (by omega) (by omega)).mpr h9)
      refine lv_iconst (v := nI 0) hx hb dX8_hasRawInBox_30 (by decide) ?_
      exact retSz hx hb hr hlocks (by decide) (zI_0 (decide_eq_false (by rw [← hf, ff_f (decide_eq_false c27) (by omega)]; omega))) dX8_hasRawInBox_31
  exact hL2 _ 0 (Nat.lt_succ_self _) (Nat.zero_le _) (rfl) ls (lv_sub hl [1, 2, 0] rfl)

set_option maxHeartbeats 4000000 in
set_option maxRecDepth 100000 in
/-- BoiledEggs$Told.begin  -/
theorem k_X8_begin (l : Launch) (g : GG) (sz : Nat) (oT : Nat) (aB : Nat) (aW : Nat) (aS : Nat) (aU : Nat) (aK : Nat) (fi : Nat) (ib : Nat) (sn : Nat) (oH : Nat) (aH : Nat) (nE : Nat) (nB : Nat) (nTb : Nat) (nTr : Nat) (nFa : Nat) (fB : Nat → Nat) (fW : Nat → Nat) (fS : Nat → Nat) (fU : Nat → Nat) (fK : Nat → Int32) (hh : Nat → Nat) (hE : nE ≤ 6) (hnB : nB < 1000) (hh0 : ∀ k, hh k < 1000) (hhb : ∀ b, b < 64 → hbP hh nE b < 2 ^ 63) : Met l yX8_begin wsX8_begin ({ frames := 2, cells := 0, slots := 0, locals := 45 }) (pM g sz [.ref oT, .ref oH] [(oT, .inr (8, [.ref aB, .ref aW, .ref aS, .ref aU, .ref aK, .int (nI fi), .int (nI ib), .int (nI sn)])), (aB, .inl (g.2.1, 20, .inl (fun j => nI (fB j)))), (aW, .inl (g.2.2.1, 20, .inr (.inl (fun j => lN (fW j))))), (aS, .inl (g.2.1, 6, .inl (fun j => nI (fS j)))), (aU, .inl (g.2.1, 6, .inl (fun j => nI (fU j)))), (aK, .inl (g.2.1, 6, .inl fK)), (oH, .inr (6, [.ref aH, .int (nI nE), .int (nI nB), .int (nI nTb), .int (nI nTr), .int (nI nFa)])), (aH, .inl (g.2.1, 6, .inl (fun j => nI (hh j))))]) (qMv g (fun (_ : Unit) => True) (fun (_ : Unit) => [(oT, .inr (8, [.ref aB, .ref aW, .ref aS, .ref aU, .ref aK, .int (nI ((bgS hh nE nB fB fW (2 ^ nE)).2.2)), .int (nI (2 ^ nE - 1)), .int (nI 0)])), (aB, .inl (g.2.1, 20, .inl (fun j => nI ((bgS hh nE nB fB fW (2 ^ nE)).1 j)))), (aW, .inl (g.2.2.1, 20, .inr (.inl (fun j => lN ((bgS hh nE nB fB fW (2 ^ nE)).2.1 j))))), (aS, .inl (g.2.1, 6, .inl (fun j => nI (fo zF fS 6 j)))), (aU, .inl (g.2.1, 6, .inl (fun j => nI (fo zF fU 6 j)))), (aK, .inl (g.2.1, 6, .inl (fo nF fK 6))), (oH, .inr (6, [.ref aH, .int (nI nE), .int (nI nB), .int (nI nTb), .int (nI nTr), .int (nI nFa)])), (aH, .inl (g.2.1, 6, .inl (fun j => nI (hh j))))]) (va_A [(oT, .inr (8, [.ref aB, .ref aW, .ref aS, .ref aU, .ref aK, .int (nI fi), .int (nI ib), .int (nI sn)])), (aB, .inl (g.2.1, 20, .inl (fun j => nI (fB j)))), (aW, .inl (g.2.2.1, 20, .inr (.inl (fun j => lN (fW j))))), (aS, .inl (g.2.1, 6, .inl (fun j => nI (fS j)))), (aU, .inl (g.2.1, 6, .inl (fun j => nI (fU j)))), (aK, .inl (g.2.1, 6, .inl fK)), (oH, .inr (6, [.ref aH, .int (nI nE), .int (nI nB), .int (nI nTb), .int (nI nTr), .int (nI nFa)])), (aH, .inl (g.2.1, 6, .inl (fun j => nI (hh j))))] sz)) 0 0 (va_A [(oT, .inr (8, [.ref aB, .ref aW, .ref aS, .ref aU, .ref aK, .int (nI fi), .int (nI ib), .int (nI sn)])), (aB, .inl (g.2.1, 20, .inl (fun j => nI (fB j)))), (aW, .inl (g.2.2.1, 20, .inr (.inl (fun j => lN (fW j))))), (aS, .inl (g.2.1, 6, .inl (fun j => nI (fS j)))), (aU, .inl (g.2.1, 6, .inl (fun j => nI (fU j)))), (aK, .inl (g.2.1, 6, .inl fK)), (oH, .inr (6, [.ref aH, .int (nI nE), .int (nI nB), .int (nI nTb), .int (nI nTr), .int (nI nFa)])), (aH, .inl (g.2.1, 6, .inl (fun j => nI (hh j))))] sz) := by
  refine metM (Qf := fun A => (qMv g (fun (_ : Unit) => True) (fun (_ : Unit) => [(oT, .inr (8, [.ref aB, .ref aW, .ref aS, .ref aU, .ref aK, .int (nI ((bgS hh nE nB fB fW (2 ^ nE)).2.2)), .int (nI (2 ^ nE - 1)), .int (nI 0)])), (aB, .inl (g.2.1, 20, .inl (fun j => nI ((bgS hh nE nB fB fW (2 ^ nE)).1 j)))), (aW, .inl (g.2.2.1, 20, .inr (.inl (fun j => lN ((bgS hh nE nB fB fW (2 ^ nE)).2.1 j))))), (aS, .inl (g.2.1, 6, .inl (fun j => nI (fo zF fS 6 j)))), (aU, .inl (g.2.1, 6, .inl (fun j => nI (fo zF fU 6 j)))), (aK, .inl (g.2.1, 6, .inl (fo nF fK 6))), (oH, .inr (6, [.ref aH, .int (nI nE), .int (nI nB), .int (nI nTb), .int (nI nTr), .int (nI nFa)])), (aH, .inl (g.2.1, 6, .inl (fun j => nI (hh j))))]) A)) (cc := cX8_begin) (maxL := 4) (ret := none) (by decide) rfl (Nat.le_of_ble_eq_true rfl) ?_
  intro p e s m below meth c hx hb hr hts hown hlocks hml hin0 hC A hA hP hD hS ls hl
  have hl : lv_has ls 4 [(0, .ref oT), (1, .ref oH)] := hl
  have hown : s.vm.findClass RX8 = some m.cls := hown
  have hts : ∀ w ∈ wsX8_begin, w.before ([.ref oT, .ref oH] : List Value).toArray s = true := hts
  have h2E := p2le hE
  have h1E := Nat.one_le_two_pow (n := nE)
  have hinX8 := (by decide +kernel : ∀ w ∈ u_ws RX8 TX8 8, w ∈ wsX8_begin)
  have f28 := hts (.fieldLink RX8 28 "BoiledEggs$Told" "fitting" "I") (by decide +kernel)
  have f55 := hts (.fieldLink RX8 55 "BoiledEggs$Told" "inBox" "I") (by decide +kernel)
  have f58 := hts (.fieldLink RX8 58 "BoiledEggs$Told" "allSpins" "I") (by decide +kernel)
  have f19 := hts (.fieldLink RX8 19 "BoiledEggs$Told" "spins" "[I") (by decide +kernel)
  have f22 := hts (.fieldLink RX8 22 "BoiledEggs$Told" "turned" "[I") (by decide +kernel)
  have f25 := hts (.fieldLink RX8 25 "BoiledEggs$Told" "known" "[I") (by decide +kernel)
  have hinX6 := (by decide +kernel : ∀ w ∈ u_ws RX6 TX6 6, w ∈ wsX8_begin)
  have f44 := va_Nw.use (A := ([.ref oT, .ref oH] : List Value).toArray) rfl (hC.2.1 (.fieldLinkNest RX8 44 "BoiledEggs$Kitchen" "boiled" "I" "BoiledEggs") (by decide +kernel))
  refine lv_aload_n hx hb dX8_begin_0 rfl (lv_at hl 0 rfl) ?_
  refine lv_iconst (v := nI 0) hx hb dX8_begin_1 (by decide) ?_
  refine va_put (D := g.1) (ci := 8) (v := .int (nI 0)) (ty := .int) (C := RX8) (T := TX8) (N := 8) hx hb hts hinX8 tyX8 tyX8_ok nmX8 hown hC.1 hP hD hS 0 rfl rfl 5 (by decide) f28 (fun _ h9 => h9) rfl (by decide +kernel) rfl rfl (Nat.le_of_ble_eq_true rfl) dX8_begin_2 (fun H locs hP hD hS => ?_)
  have hP : va_P g.1 vwCl [(oT, .inr (8, [.ref aB, .ref aW, .ref aS, .ref aU, .ref aK, .int (nI 0), .int (nI ib), .int (nI sn)])), (aB, .inl (g.2.1, 20, .inl (fun j => nI (fB j)))), (aW, .inl (g.2.2.1, 20, .inr (.inl (fun j => lN (fW j))))), (aS, .inl (g.2.1, 6, .inl (fun j => nI (fS j)))), (aU, .inl (g.2.1, 6, .inl (fun j => nI (fU j)))), (aK, .inl (g.2.1, 6, .inl fK)), (oH, .inr (6, [.ref aH, .int (nI nE), .int (nI nB), .int (nI nTb), .int (nI nTr), .int (nI nFa)])), (aH, .inl (g.2.1, 6, .inl (fun j => nI (hh j))))] H := hP
  have hD : va_D A [(oT, .inr (8, [.ref aB, .ref aW, .ref aS, .ref aU, .ref aK, .int (nI 0), .int (nI ib), .int (nI sn)])), (aB, .inl (g.2.1, 20, .inl (fun j => nI (fB j)))), (aW, .inl (g.2.2.1, 20, .inr (.inl (fun j => lN (fW j))))), (aS, .inl (g.2.1, 6, .inl (fun j => nI (fS j)))), (aU, .inl (g.2.1, 6, .inl (fun j => nI (fU j)))), (aK, .inl (g.2.1, 6, .inl fK)), (oH, .inr (6, [.ref aH, .int (nI nE), .int (nI nB), .int (nI nTb), .int (nI nTr), .int (nI nFa)])), (aH, .inl (g.2.1, 6, .inl (fun j => nI (hh j))))] := hD
  refine lv_aload_n hx hb dX8_begin_5 rfl (lv_at hl 1 rfl) ?_
  refine goSi (T := nI (2 ^ nE - 1)) (va_runV (As := []) (rest := []) ⟨hx, hb, hml, hown, hts⟩ (k_X6_allEggs l g oH aH nE nB nTb nTr nFa (by first | assumption | exact Nat.zero_le _ | omega)) (cwV 0 hts gX8_begin_X6_allEggs rfl rfl rfl ⟨rfl, hdX6_allEggs⟩ ⟨Nat.le_of_ble_eq_true rfl, Nat.le_of_ble_eq_true rfl⟩) (preVS hC (hP.sub [6] rfl) (va_recv hC.1 hP (ci := 6) (q0 := 6) rfl rfl)) rfl rfl hl.1 rfl (lv_room (Nat.le_of_ble_eq_true rfl)) dX8_begin_6 ⟨Nat.le_of_ble_eq_true rfl, Nat.le_of_ble_eq_true rfl⟩) ?_
  refine lv_istore_n (lv' := [(2, .int (nI (2 ^ nE - 1))), (0, .ref oT), (1, .ref oH)]) hx hb dX8_begin_9 rfl hl (by decide) rfl (fun ls hl => ?_)
  refine lv_iconst (v := nI 0) hx hb dX8_begin_10 (by decide) ?_
  refine lv_istore_n (lv' := [(3, .int (nI 0)), (2, .int (nI (2 ^ nE - 1))), (0, .ref oT), (1, .ref oH)]) hx hb dX8_begin_11 rfl hl (by decide) rfl (fun ls hl => ?_)
  have hL12 : ∀ (n_9 : Nat) (i : Nat), 2 ^ nE - i < n_9 → (i ≤ 2 ^ nE) → ∀ (H : Heap) (locs : List Loc), va_P g.1 vwCl [(oT, .inr (8, [.ref aB, .ref aW, .ref aS, .ref aU, .ref aK, .int (nI ((bgS hh nE nB fB fW i).2.2)), .int (nI ib), .int (nI sn)])), (aB, .inl (g.2.1, 20, .inl (fun j => nI ((bgS hh nE nB fB fW i).1 j)))), (aW, .inl (g.2.2.1, 20, .inr (.inl (fun j => lN ((bgS hh nE nB fB fW i).2.1 j))))), (aS, .inl (g.2.1, 6, .inl (fun j => nI (fS j)))), (aU, .inl (g.2.1, 6, .inl (fun j => nI (fU j)))), (aK, .inl (g.2.1, 6, .inl fK)), (oH, .inr (6, [.ref aH, .int (nI nE), .int (nI nB), .int (nI nTb), .int (nI nTr), .int (nI nFa)])), (aH, .inl (g.2.1, 6, .inl (fun j => nI (hh j))))] H → va_D A [(oT, .inr (8, [.ref aB, .ref aW, .ref aS, .ref aU, .ref aK, .int (nI ((bgS hh nE nB fB fW i).2.2)), .int (nI ib), .int (nI sn)])), (aB, .inl (g.2.1, 20, .inl (fun j => nI ((bgS hh nE nB fB fW i).1 j)))), (aW, .inl (g.2.2.1, 20, .inr (.inl (fun j => lN ((bgS hh nE nB fB fW i).2.1 j))))), (aS, .inl (g.2.1, 6, .inl (fun j => nI (fS j)))), (aU, .inl (g.2.1, 6, .inl (fun j => nI (fU j)))), (aK, .inl (g.2.1, 6, .inl fK)), (oH, .inr (6, [.ref aH, .int (nI nE), .int (nI nB), .int (nI nTb), .int (nI nTr), .int (nI nFa)])), (aH, .inl (g.2.1, 6, .inl (fun j => nI (hh j))))] → va_S A s.heap H locs → ∀ ls : Array Slot, lv_has ls 4 [(0, .ref oT), (1, .ref oH), (2, .int (nI (2 ^ nE - 1))), (3, .int (nI i))] → W p l e ({ frames := 2, cells := 0, slots := 0, locals := 45 }) s m ([.ref oT, .ref oH] : List Value).toArray below meth c H locs 0 0 (MQ below (qMv g (fun (_ : Unit) => True) (fun (_ : Unit) => [(oT, .inr (8, [.ref aB, .ref aW, .ref aS, .ref aU, .ref aK, .int (nI ((bgS hh nE nB fB fW (2 ^ nE)).2.2)), .int (nI (2 ^ nE - 1)), .int (nI 0)])), (aB, .inl (g.2.1, 20, .inl (fun j => nI ((bgS hh nE nB fB fW (2 ^ nE)).1 j)))), (aW, .inl (g.2.2.1, 20, .inr (.inl (fun j => lN ((bgS hh nE nB fB fW (2 ^ nE)).2.1 j))))), (aS, .inl (g.2.1, 6, .inl (fun j => nI (fo zF fS 6 j)))), (aU, .inl (g.2.1, 6, .inl (fun j => nI (fo zF fU 6 j)))), (aK, .inl (g.2.1, 6, .inl (fo nF fK 6))), (oH, .inr (6, [.ref aH, .int (nI nE), .int (nI nB), .int (nI nTb), .int (nI nTr), .int (nI nFa)])), (aH, .inl (g.2.1, 6, .inl (fun j => nI (hh j))))]) A) ([.ref oT, .ref oH] : List Value).toArray s 0 0 A) (F0 m 12 ls []) := by
   intro n_9
   induction n_9 with
   | zero => intro i hn_9; exact absurd hn_9 (Nat.not_lt_zero _)
   | succ n_9 ih12 =>
    intro i hn_9 hi H locs hP hD hS ls hl
    refine lv_iload_n hx hb dX8_begin_12 rfl (lv_at hl 3 rfl) ?_
    refine lv_iload_n hx hb dX8_begin_13 rfl (lv_at hl 2 rfl) ?_
    refine lv_icmp_gt (tgt := 44) hx hb dX8_begin_14 (by decide) (fun c14 => ?_) (fun c14 => ?_)
    ·have c14 : (2 ^ nE - 1) < i := (nI_ltI (a := 2 ^ nE - 1) (b := i) (by omega) (by omega)).mp c14
     refine lv_iconst (v := nI 0) hx hb dX8_begin_44 (by decide) ?_
     refine lv_istore_n (lv' := [(3, .int (nI 0)), (0, .ref oT), (1, .ref oH), (2, .int (nI (2 ^ nE - 1)))]) hx hb dX8_begin_45 rfl hl (by decide) rfl (fun ls hl => ?_)
     have hL46 : ∀ (n_9 : Nat) (k : Nat), 6 - k < n_9 → (k ≤ 6) → ∀ (H : Heap) (locs : List Loc), va_P g.1 vwCl [(oT, .inr (8, [.ref aB, .ref aW, .ref aS, .ref aU, .ref aK, .int (nI ((bgS hh nE nB fB fW i).2.2)), .int (nI ib), .int (nI sn)])), (aB, .inl (g.2.1, 20, .inl (fun j => nI ((bgS hh nE nB fB fW i).1 j)))), (aW, .inl (g.2.2.1, 20, .inr (.inl (fun j => lN ((bgS hh nE nB fB fW i).2.1 j))))), (aS, .inl (g.2.1, 6, .inl (fun j => nI (fo zF fS k j)))), (aU, .inl (g.2.1, 6, .inl (fun j => nI (fo zF fU k j)))), (aK, .inl (g.2.1, 6, .inl (fo nF fK k))), (oH, .inr (6, [.ref aH, .int (nI nE), .int (nI nB), .int (nI nTb), .int (nI nTr), .int (nI nFa)])), (aH, .inl (g.2.1, 6, .inl (fun j => nI (hh j))))] H → va_D A [(oT, .inr (8, [.ref aB, .ref aW, .ref aS, .ref aU, .ref aK, .int (nI ((bgS hh nE nB fB fW i).2.2)), .int (nI ib), .int (nI sn)])), (aB, .inl (g.2.1, 20, .inl (fun j => nI ((bgS hh nE nB fB fW i).1 j)))), (aW, .inl (g.2.2.1, 20, .inr (.inl (fun j => lN ((bgS hh nE nB fB fW i).2.1 j))))), (aS, .inl (g.2.1, 6, .inl (fun j => nI (fo zF fS k j)))), (aU, .inl (g.2.1, 6, .inl (fun j => nI (fo zF fU k j)))), (aK, .inl (g.2.1, 6, .inl (fo nF fK k))), (oH, .inr (6, [.ref aH, .int (nI nE), .int (nI nB), .int (nI nTb), .int (nI nTr), .int (nI nFa)])), (aH, .inl (g.2.1, 6, .inl (fun j => nI (hh j))))] → va_S A s.heap H locs → ∀ ls : Array Slot, lv_has ls 4 [(0, .ref oT), (1, .ref oH), (2, .int (nI (2 ^ nE - 1))), (3, .int (nI k))] → W p l e ({ frames := 2, cells := 0, slots := 0, locals := 45 }) s m ([.ref oT, .ref oH] : List Value).toArray below meth c H locs 0 0 (MQ below (qMv g (fun (_ : Unit) => True) (fun (_ : Unit) => [(oT, .inr (8, [.ref aB, .ref aW, .ref aS, .ref aU, .ref aK, .int (nI ((bgS hh nE nB fB fW (2 ^ nE)).2.2)), .int (nI (2 ^ nE - 1)), .int (nI 0)])), (aB, .inl (g.2.1, 20, .inl (fun j => nI ((bgS hh nE nB fB fW (2 ^ nE)).1 j)))), (aW, .inl (g.2.2.1, 20, .inr (.inl (fun j => lN ((bgS hh nE nB fB fW (2 ^ nE)).2.1 j))))), (aS, .inl (g.2.1, 6, .inl (fun j => nI (fo zF fS 6 j)))), (aU, .inl (g.2.1, 6, .inl (fun j => nI (fo zF fU 6 j)))), (aK, .inl (g.2.1, 6, .inl (fo nF fK 6))), (oH, .inr (6, [.ref aH, .int (nI nE), .int (nI nB), .int (nI nTb), .int (nI nTr), .int (nI nFa)])), (aH, .inl (g.2.1, 6, .inl (fun j => nI (hh j))))]) A) ([.ref oT, .ref oH] : List Value).toArray s 0 0 A) (F0 m 46 ls []) := by
      intro n_9
      induction n_9 with
      | zero => intro k hn_9; exact absurd hn_9 (Nat.not_lt_zero _)
      | succ n_9 ih46 =>
       intro k hn_9 hk H locs hP hD hS ls hl
       refine lv_iload_n hx hb dX8_begin_46 rfl (lv_at hl 3 rfl) ?_
       refine lv_bipush (v := nI 6) hx hb dX8_begin_47 (by decide) ?_
       refine lv_icmp_ge (tgt := 79) hx hb dX8_begin_49 (by decide) (fun c49 => ?_) (fun c49 => ?_)
       ·have c49 : 6 ≤ k := (nI_leI (a := 6) (b := k) (by omega) (by omega)).mp c49
        refine lv_aload_n hx hb dX8_begin_79 rfl (lv_at hl 0 rfl) ?_
        refine lv_iload_n hx hb dX8_begin_80 rfl (lv_at hl 2 rfl) ?_
        refine va_put (D := g.1) (ci := 8) (v := .int (nI (2 ^ nE - 1))) (ty := .int) (C := RX8) (T := TX8) (N := 8) hx hb hts hinX8 tyX8 tyX8_ok nmX8 hown hC.1 hP hD hS 0 rfl rfl 6 (by decide) f55 (fun _ h9 => h9) rfl (by decide +kernel) rfl rfl (Nat.le_of_ble_eq_true rfl) dX8_begin_81 (fun H locs hP hD hS => ?_)
        have hP : va_P g.1 vwCl [(oT, .inr (8, [.ref aB, .ref aW, .ref aS, .ref aU, .ref aK, .int (nI ((bgS hh nE nB fB fW i).2.2)), .int (nI (2 ^ nE - 1)), .int (nI sn)])), (aB, .inl (g.2.1, 20, .inl (fun j => nI ((bgS hh nE nB fB fW i).1 j)))), (aW, .inl (g.2.2.1, 20, .inr (.inl (fun j => lN ((bgS hh nE nB fB fW i).2.1 j))))), (aS, .inl (g.2.1, 6, .inl (fun j => nI (fo zF fS k j)))), (aU, .inl (g.2.1, 6, .inl (fun j => nI (fo zF fU k j)))), (aK, .inl (g.2.1, 6, .inl (fo nF fK k))), (oH, .inr (6, [.ref aH, .int (nI nE), .int (nI nB), .int (nI nTb), .int (nI nTr), .int (nI nFa)])), (aH, .inl (g.2.1, 6, .inl (fun j => nI (hh j))))] H := hP
        have hD : va_D A [(oT, .inr (8, [.ref aB, .ref aW, .ref aS, .ref aU, .ref aK, .int (nI ((bgS hh nE nB fB fW i).2.2)), .int (nI (2 ^ nE - 1)), .int (nI sn)])), (aB, .inl (g.2.1, 20, .inl (fun j => nI ((bgS hh nE nB fB fW i).1 j)))), (aW, .inl (g.2.2.1, 20, .inr (.inl (fun j => lN ((bgS hh nE nB fB fW i).2.1 j))))), (aS, .inl (g.2.1, 6, .inl (fun j => nI (fo zF fS k j)))), (aU, .inl (g.2.1, 6, .inl (fun j => nI (fo zF fU k j)))), (aK, .inl (g.2.1, 6, .inl (fo nF fK k))), (oH, .inr (6, [.ref aH, .int (nI nE), .int (nI nB), .int (nI nTb), .int (nI nTr), .int (nI nFa)])), (aH, .inl (g.2.1, 6, .inl (fun j => nI (hh j))))] := hD
        refine lv_aload_n hx hb dX8_begin_84 rfl (lv_at hl 0 rfl) ?_
        refine lv_iconst (v := nI 0) hx hb dX8_begin_85 (by decide) ?_
        refine va_put (D := g.1) (ci := 8) (v := .int (nI 0)) (ty := .int) (C := RX8) (T := TX8) (N := 8) hx hb hts hinX8 tyX8 tyX8_ok nmX8 hown hC.1 hP hD hS 0 rfl rfl 7 (by decide) f58 (fun _ h9 => h9) rfl (by decide +kernel) rfl rfl (Nat.le_of_ble_eq_true rfl) dX8_begin_86 (fun H locs hP hD hS => ?_)
        have hP : va_P g.1 vwCl [(oT, .inr (8, [.ref aB, .ref aW, .ref aS, .ref aU, .ref aK, .int (nI ((bgS hh nE nB fB fW i).2.2)), .int (nI (2 ^ nE - 1)), .int (nI 0)])), (aB, .inl (g.2.1, 20, .inl (fun j => nI ((bgS hh nE nB fB fW i).1 j)))), (aW, .inl (g.2.2.1, 20, .inr (.inl (fun j => lN ((bgS hh nE nB fB fW i).2.1 j))))), (aS, .inl (g.2.1, 6, .inl (fun j => nI (fo zF fS k j)))), (aU, .inl (g.2.1, 6, .inl (fun j => nI (fo zF fU k j)))), (aK, .inl (g.2.1, 6, .inl (fo nF fK k))), (oH, .inr (6, [.ref aH, .int (nI nE), .int (nI nB), .int (nI nTb), .int (nI nTr), .int (nI nFa)])), (aH, .inl (g.2.1, 6, .inl (fun j => nI (hh j))))] H := hP
        have hD : va_D A [(oT, .inr (8, [.ref aB, .ref aW, .ref aS, .ref aU, .ref aK, .int (nI ((bgS hh nE nB fB fW i).2.2)), .int (nI (2 ^ nE - 1)), .int (nI 0)])), (aB, .inl (g.2.1, 20, .inl (fun j => nI ((bgS hh nE nB fB fW i).1 j)))), (aW, .inl (g.2.2.1, 20, .inr (.inl (fun j => lN ((bgS hh nE nB fB fW i).2.1 j))))), (aS, .inl (g.2.1, 6, .inl (fun j => nI (fo zF fS k j)))), (aU, .inl (g.2.1, 6, .inl (fun j => nI (fo zF fU k j)))), (aK, .inl (g.2.1, 6, .inl (fo nF fK k))), (oH, .inr (6, [.ref aH, .int (nI nE), .int (nI nB), .int (nI nTb), .int (nI nTr), .int (nI nFa)])), (aH, .inl (g.2.1, 6, .inl (fun j => nI (hh j))))] := hD
        exact retMv (w := [(oT, .inr (8, [.ref aB, .ref aW, .ref aS, .ref aU, .ref aK, .int (nI ((bgS hh nE nB fB fW i).2.2)), .int (nI (2 ^ nE - 1)), .int (nI 0)])), (aB, .inl (g.2.1, 20, .inl (fun j => nI ((bgS hh nE nB fB fW i).1 j)))), (aW, .inl (g.2.2.1, 20, .inr (.inl (fun j => lN ((bgS hh nE nB fB fW i).2.1 j))))), (aS, .inl (g.2.1, 6, .inl (fun j => nI (fo zF fS k j)))), (aU, .inl (g.2.1, 6, .inl (fun j => nI (fo zF fU k j)))), (aK, .inl (g.2.1, 6, .inl (fo nF fK k))), (oH, .inr (6, [.ref aH, .int (nI nE), .int (nI nB), .int (nI nTb), .int (nI nTr), .int (nI nFa)])), (aH, .inl (g.2.1, 6, .inl (fun j => nI (hh j))))]) hx hb hr hlocks (hP.sub [0, 1, 2, 3, 4, 5, 6, 7] rfl) (hD.sub [0, 1, 2, 3, 4, 5, 6, 7] (by decide) rfl) hS () (by rw [show 2 ^ nE = i by omega, show k = 6 by omega] <;> rfl) (trivial) dX8_begin_89
       ·have c49 : ¬ 6 ≤ k := fun h9 => c49 ((nI_leI (a := 6) (b := k) (by omega) (by omega)).mpr h9)
        refine lv_aload_n hx hb dX8_begin_52 rfl (lv_at hl 0 rfl) ?_
        refine va_get (D := g.1) (ci := 8) (v := .ref aS) (C := RX8) (T := TX8) (N := 8) hx hb hts hinX8 hown hC.1 hP 0 rfl rfl 2 (by decide) f19 (fun _ h9 => h9) rfl dX8_begin_53 ?_
        refine lv_iload_n hx hb dX8_begin_56 rfl (lv_at hl 3 rfl) ?_
        refine lv_iconst (v := nI 0) hx hb dX8_begin_57 (by decide) ?_
        refine ast_in (f := fo zF fS k) (j := k) (v := 0) hx hb hC hP hD hS 3 rfl (by omega) (by decide) dX8_begin_58 (fun H locs hP hD hS => ?_)
        have hP : va_P g.1 vwCl [(oT, .inr (8, [.ref aB, .ref aW, .ref aS, .ref aU, .ref aK, .int (nI ((bgS hh nE nB fB fW i).2.2)), .int (nI ib), .int (nI sn)])), (aB, .inl (g.2.1, 20, .inl (fun j => nI ((bgS hh nE nB fB fW i).1 j)))), (aW, .inl (g.2.2.1, 20, .inr (.inl (fun j => lN ((bgS hh nE nB fB fW i).2.1 j))))), (aS, .inl (g.2.1, 6, .inl (fun j => nI (updN (fo zF fS k) k 0 j)))), (aU, .inl (g.2.1, 6, .inl (fun j => nI (fo zF fU k j)))), (aK, .inl (g.2.1, 6, .inl (fo nF fK k))), (oH, .inr (6, [.ref aH, .int (nI nE), .int (nI nB), .int (nI nTb), .int (nI nTr), .int (nI nFa)])), (aH, .inl (g.2.1, 6, .inl (fun j => nI (hh j))))] H := hP
        have hD : va_D A [(oT, .inr (8, [.ref aB, .ref aW, .ref aS, .ref aU, .ref aK, .int (nI ((bgS hh nE nB fB fW i).2.2)), .int (nI ib), .int (nI sn)])), (aB, .inl (g.2.1, 20, .inl (fun j => nI ((bgS hh nE nB fB fW i).1 j)))), (aW, .inl (g.2.2.1, 20, .inr (.inl (fun j => lN ((bgS hh nE nB fB fW i).2.1 j))))), (aS, .inl (g.2.1, 6, .inl (fun j => nI (updN (fo zF fS k) k 0 j)))), (aU, .inl (g.2.1, 6, .inl (fun j => nI (fo zF fU k j)))), (aK, .inl (g.2.1, 6, .inl (fo nF fK k))), (oH, .inr (6, [.ref aH, .int (nI nE), .int (nI nB), .int (nI nTb), .int (nI nTr), .int (nI nFa)])), (aH, .inl (g.2.1, 6, .inl (fun j => nI (hh j))))] := hD
        refine lv_aload_n hx hb dX8_begin_59 rfl (lv_at hl 0 rfl) ?_
        refine va_get (D := g.1) (ci := 8) (v := .ref aU) (C := RX8) (T := TX8) (N := 8) hx hb hts hinX8 hown hC.1 hP 0 rfl rfl 3 (by decide) f22 (fun _ h9 => h9) rfl dX8_begin_60 ?_
        refine lv_iload_n hx hb dX8_begin_63 rfl (lv_at hl 3 rfl) ?_
        refine lv_iconst (v := nI 0) hx hb dX8_begin_64 (by decide) ?_
        refine ast_in (f := fo zF fU k) (j := k) (v := 0) hx hb hC hP hD hS 4 rfl (by omega) (by decide) dX8_begin_65 (fun H locs hP hD hS => ?_)
        have hP : va_P g.1 vwCl [(oT, .inr (8, [.ref aB, .ref aW, .ref aS, .ref aU, .ref aK, .int (nI ((bgS hh nE nB fB fW i).2.2)), .int (nI ib), .int (nI sn)])), (aB, .inl (g.2.1, 20, .inl (fun j => nI ((bgS hh nE nB fB fW i).1 j)))), (aW, .inl (g.2.2.1, 20, .inr (.inl (fun j => lN ((bgS hh nE nB fB fW i).2.1 j))))), (aS, .inl (g.2.1, 6, .inl (fun j => nI (updN (fo zF fS k) k 0 j)))), (aU, .inl (g.2.1, 6, .inl (fun j => nI (updN (fo zF fU k) k 0 j)))), (aK, .inl (g.2.1, 6, .inl (fo nF fK k))), (oH, .inr (6, [.ref aH, .int (nI nE), .int (nI nB), .int (nI nTb), .int (nI nTr), .int (nI nFa)])), (aH, .inl (g.2.1, 6, .inl (fun j => nI (hh j))))] H := hP
        have hD : va_D A [(oT, .inr (8, [.ref aB, .ref aW, .ref aS, .ref aU, .ref aK, .int (nI ((bgS hh nE nB fB fW i).2.2)), .int (nI ib), .int (nI sn)])), (aB, .inl (g.2.1, 20, .inl (fun j => nI ((bgS hh nE nB fB fW i).1 j)))), (aW, .inl (g.2.2.1, 20, .inr (.inl (fun j => lN ((bgS hh nE nB fB fW i).2.1 j))))), (aS, .inl (g.2.1, 6, .inl (fun j => nI (updN (fo zF fS k) k 0 j)))), (aU, .inl (g.2.1, 6, .inl (fun j => nI (updN (fo zF fU k) k 0 j)))), (aK, .inl (g.2.1, 6, .inl (fo nF fK k))), (oH, .inr (6, [.ref aH, .int (nI nE), .int (nI nB), .int (nI nTb), .int (nI nTr), .int (nI nFa)])), (aH, .inl (g.2.1, 6, .inl (fun j => nI (hh j))))] := hD
        refine lv_aload_n hx hb dX8_begin_66 rfl (lv_at hl 0 rfl) ?_
        refine va_get (D := g.1) (ci := 8) (v := .ref aK) (C := RX8) (T := TX8) (N := 8) hx hb hts hinX8 hown hC.1 hP 0 rfl rfl 4 (by decide) f25 (fun _ h9 => h9) rfl dX8_begin_67 ?_
        refine lv_iload_n hx hb dX8_begin_70 rfl (lv_at hl 3 rfl) ?_
        refine lv_iconst (v := (-1)) hx hb dX8_begin_71 (by decide) ?_
        refine ast_i (f := fo nF fK k) (j := k) hx hb hC hP hD hS 5 rfl (by omega) (by decide) dX8_begin_72 (fun H locs hP hD hS => ?_)
        have hP : va_P g.1 vwCl [(oT, .inr (8, [.ref aB, .ref aW, .ref aS, .ref aU, .ref aK, .int (nI ((bgS hh nE nB fB fW i).2.2)), .int (nI ib), .int (nI sn)])), (aB, .inl (g.2.1, 20, .inl (fun j => nI ((bgS hh nE nB fB fW i).1 j)))), (aW, .inl (g.2.2.1, 20, .inr (.inl (fun j => lN ((bgS hh nE nB fB fW i).2.1 j))))), (aS, .inl (g.2.1, 6, .inl (fun j => nI (updN (fo zF fS k) k 0 j)))), (aU, .inl (g.2.1, 6, .inl (fun j => nI (updN (fo zF fU k) k 0 j)))), (aK, .inl (g.2.1, 6, .inl (upd (fo nF fK k) k (-1)))), (oH, .inr (6, [.ref aH, .int (nI nE), .int (nI nB), .int (nI nTb), .int (nI nTr), .int (nI nFa)])), (aH, .inl (g.2.1, 6, .inl (fun j => nI (hh j))))] H := hP
        have hD : va_D A [(oT, .inr (8, [.ref aB, .ref aW, .ref aS, .ref aU, .ref aK, .int (nI ((bgS hh nE nB fB fW i).2.2)), .int (nI ib), .int (nI sn)])), (aB, .inl (g.2.1, 20, .inl (fun j => nI ((bgS hh nE nB fB fW i).1 j)))), (aW, .inl (g.2.2.1, 20, .inr (.inl (fun j => lN ((bgS hh nE nB fB fW i).2.1 j))))), (aS, .inl (g.2.1, 6, .inl (fun j => nI (updN (fo zF fS k) k 0 j)))), (aU, .inl (g.2.1, 6, .inl (fun j => nI (updN (fo zF fU k) k 0 j)))), (aK, .inl (g.2.1, 6, .inl (upd (fo nF fK k) k (-1)))), (oH, .inr (6, [.ref aH, .int (nI nE), .int (nI nB), .int (nI nTb), .int (nI nTr), .int (nI nFa)])), (aH, .inl (g.2.1, 6, .inl (fun j => nI (hh j))))] := hD
        refine lv_iinc (v := nI (k + 1)) (lv' := [(3, .int (nI (k + 1))), (0, .ref oT), (1, .ref oH), (2, .int (nI (2 ^ nE - 1)))]) hx hb dX8_begin_73 hl (k := 3) rfl (iinc1 _) (by decide) rfl (fun ls hl => ?_)
        refine lv_goto (tgt := 46) hx hb dX8_begin_76 (by decide) ?_
        exact ih46 (k + 1) (by omega) (by first | assumption | exact Nat.zero_le _ | omega) _ _ hP hD hS ls (lv_sub hl [1, 2, 3, 0] rfl)
     exact hL46 _ 0 (Nat.lt_succ_self _) (by first | assumption | exact Nat.zero_le _ | omega) _ _ hP hD hS ls (lv_sub hl [1, 2, 3, 0] rfl)
    ·have c14 : ¬ (2 ^ nE - 1) < i := fun h9 => c14 ((nI_ltI (a := 2 ^ nE - 1) (b := i) (by omega) (by omega)).mpr h9)
     have hpl := popS_le i 6
     have hb20 := bgS_20 hh nE nB fB fW i
     have hJ38 : ∀ (H : Heap) (locs : List Loc), va_P g.1 vwCl [(oT, .inr (8, [.ref aB, .ref aW, .ref aS, .ref aU, .ref aK, .int (nI ((bgS hh nE nB fB fW (i + 1)).2.2)), .int (nI ib), .int (nI sn)])), (aB, .inl (g.2.1, 20, .inl (fun j => nI ((bgS hh nE nB fB fW (i + 1)).1 j)))), (aW, .inl (g.2.2.1, 20, .inr (.inl (fun j => lN ((bgS hh nE nB fB fW (i + 1)).2.1 j))))), (aS, .inl (g.2.1, 6, .inl (fun j => nI (fS j)))), (aU, .inl (g.2.1, 6, .inl (fun j => nI (fU j)))), (aK, .inl (g.2.1, 6, .inl fK)), (oH, .inr (6, [.ref aH, .int (nI nE), .int (nI nB), .int (nI nTb), .int (nI nTr), .int (nI nFa)])), (aH, .inl (g.2.1, 6, .inl (fun j => nI (hh j))))] H → va_D A [(oT, .inr (8, [.ref aB, .ref aW, .ref aS, .ref aU, .ref aK, .int (nI ((bgS hh nE nB fB fW (i + 1)).2.2)), .int (nI ib), .int (nI sn)])), (aB, .inl (g.2.1, 20, .inl (fun j => nI ((bgS hh nE nB fB fW (i + 1)).1 j)))), (aW, .inl (g.2.2.1, 20, .inr (.inl (fun j => lN ((bgS hh nE nB fB fW (i + 1)).2.1 j))))), (aS, .inl (g.2.1, 6, .inl (fun j => nI (fS j)))), (aU, .inl (g.2.1, 6, .inl (fun j => nI (fU j)))), (aK, .inl (g.2.1, 6, .inl fK)), (oH, .inr (6, [.ref aH, .int (nI nE), .int (nI nB), .int (nI nTb), .int (nI nTr), .int (nI nFa)])), (aH, .inl (g.2.1, 6, .inl (fun j => nI (hh j))))] → va_S A s.heap H locs → ∀ ls : Array Slot, lv_has ls 4 [(0, .ref oT), (1, .ref oH), (2, .int (nI (2 ^ nE - 1))), (3, .int (nI i))] → W p l e ({ frames := 2, cells := 0, slots := 0, locals := 45 }) s m ([.ref oT, .ref oH] : List Value).toArray below meth c H locs 0 0 (MQ below (qMv g (fun (_ : Unit) => True) (fun (_ : Unit) => [(oT, .inr (8, [.ref aB, .ref aW, .ref aS, .ref aU, .ref aK, .int (nI ((bgS hh nE nB fB fW (2 ^ nE)).2.2)), .int (nI (2 ^ nE - 1)), .int (nI 0)])), (aB, .inl (g.2.1, 20, .inl (fun j => nI ((bgS hh nE nB fB fW (2 ^ nE)).1 j)))), (aW, .inl (g.2.2.1, 20, .inr (.inl (fun j => lN ((bgS hh nE nB fB fW (2 ^ nE)).2.1 j))))), (aS, .inl (g.2.1, 6, .inl (fun j => nI (fo zF fS 6 j)))), (aU, .inl (g.2.1, 6, .inl (fun j => nI (fo zF fU 6 j)))), (aK, .inl (g.2.1, 6, .inl (fo nF fK 6))), (oH, .inr (6, [.ref aH, .int (nI nE), .int (nI nB), .int (nI nTb), .int (nI nTr), .int (nI nFa)])), (aH, .inl (g.2.1, 6, .inl (fun j => nI (hh j))))]) A) ([.ref oT, .ref oH] : List Value).toArray s 0 0 A) (F0 m 38 ls []) := by
      intro  H locs hP hD hS ls hl
      refine lv_iinc (v := nI (i + 1)) (lv' := [(3, .int (nI (i + 1))), (0, .ref oT), (1, .ref oH), (2, .int (nI (2 ^ nE - 1)))]) hx hb dX8_begin_38 hl (k := 3) rfl (iinc1 _) (by decide) rfl (fun ls hl => ?_)
      refine lv_goto (tgt := 12) hx hb dX8_begin_41 (by decide) ?_
      exact ih12 (i + 1) (by omega) (by first | assumption | exact Nat.zero_le _ | omega) _ _ hP hD hS ls (lv_sub hl [1, 2, 3, 0] rfl)
     refine lv_iload_n hx hb dX8_begin_17 rfl (lv_at hl 3 rfl) ?_
     refine goSi (T := nI (popS i 6)) (va_runS (As := [.int (nI i)]) (rest := []) ⟨hx, hb, hml, hown, hts⟩ (k_J6_bitCount l g i (by first | assumption | exact Nat.zero_le _ | omega)) (va_cwS 1 hts gX8_begin_J6_bitCount_0f7a4 rfl rfl rfl hdJ6_bitCount_0f7a4 ⟨Nat.le_of_ble_eq_true rfl, Nat.le_of_ble_eq_true rfl⟩) (preSS hC (hP.sub [] rfl)) rfl rfl hl.1 rfl (lv_room (Nat.le_of_ble_eq_true rfl)) dX8_begin_18 ⟨Nat.le_of_ble_eq_true rfl, Nat.le_of_ble_eq_true rfl⟩) ?_
     refine lv_aload_n hx hb dX8_begin_21 rfl (lv_at hl 1 rfl) ?_
     refine va_getN (D := g.1) (ci := 6) (v := .int (nI nB)) (C := RX6) (T := TX6) (N := 6) hx hb hts hinX6 hown hC.1 hP 6 rfl rfl 2 (by decide) f44 (fun _ h9 => h9) rfl dX8_begin_22 ?_
     refine lv_icmp_ne (tgt := 38) hx hb dX8_begin_25 (by decide) (fun c25 => ?_) (fun c25 => ?_)
     ·have c25 : ¬ (popS i 6) = nB := fun h9 => c25 ((nI_eq (a := popS i 6) (b := nB) (by omega) (by omega)).mpr h9)
      exact hJ38   _ _ (by rw [bgS_f c25]; exact hP) (by rw [bgS_f c25]; exact hD) hS ls (lv_sub hl [0, 1, 2, 3] rfl)
     ·have c25 : (popS i 6) = nB := (nI_eq (a := popS i 6) (b := nB) (by omega) (by omega)).mp c25
      refine lv_aload_n hx hb dX8_begin_28 rfl (lv_at hl 0 rfl) ?_
      refine lv_iload_n hx hb dX8_begin_29 rfl (lv_at hl 3 rfl) ?_
      refine lv_aload_n hx hb dX8_begin_30 rfl (lv_at hl 1 rfl) ?_
      refine lv_iload_n hx hb dX8_begin_31 rfl (lv_at hl 3 rfl) ?_
      refine goSl (T := lN (hbP hh nE i)) (va_runV (As := [.int (nI i)]) (rest := [.int (nI i), .ref oT]) ⟨hx, hb, hml, hown, hts⟩ (k_X6_habitsOf l g oH aH nE nB nTb nTr nFa hh i (by first | assumption | exact Nat.zero_le _ | omega) (by first | assumption | exact Nat.zero_le _ | omega) (by first | assumption | exact Nat.zero_le _ | omega)) (cwV 1 hts gX8_begin_X6_habitsOf rfl rfl rfl ⟨rfl, hdX6_habitsOf⟩ ⟨Nat.le_of_ble_eq_true rfl, Nat.le_of_ble_eq_true rfl⟩) (preVS hC (hP.sub [6, 7] rfl) (va_recv hC.1 hP (ci := 6) (q0 := 6) rfl rfl)) rfl rfl hl.1 rfl (lv_room (Nat.le_of_ble_eq_true rfl)) dX8_begin_32 ⟨Nat.le_of_ble_eq_true rfl, Nat.le_of_ble_eq_true rfl⟩) ?_
      refine goMv (S := Unit) (wr := [(aS, .inl (g.2.1, 6, .inl (fun j => nI (fS j)))), (aU, .inl (g.2.1, 6, .inl (fun j => nI (fU j)))), (aK, .inl (g.2.1, 6, .inl fK)), (oH, .inr (6, [.ref aH, .int (nI nE), .int (nI nB), .int (nI nTb), .int (nI nTr), .int (nI nFa)])), (aH, .inl (g.2.1, 6, .inl (fun j => nI (hh j))))]) (va_runV (As := [.int (nI i), .long (lN (hbP hh nE i))]) (rest := []) ⟨hx, hb, hml, hown, hts⟩ (k_X8_keep l g _ oT aB aW aS aU aK ((bgS hh nE nB fB fW i).2.2) ib sn ((bgS hh nE nB fB fW i).1) ((bgS hh nE nB fB fW i).2.1) i (hbP hh nE i) (by first | assumption | exact Nat.zero_le _ | omega) (hhb i (by omega))) (cwV 2 hts gX8_begin_X8_keep rfl rfl rfl ⟨rfl, hdX8_keep⟩ ⟨Nat.le_of_ble_eq_true rfl, Nat.le_of_ble_eq_true rfl⟩) (preVM hC (hP.sub [0, 1, 2] rfl) (hD.sub [0, 1, 2] (by decide) rfl) (va_recv hC.1 hP (ci := 8) (q0 := 0) rfl rfl)) rfl rfl hl.1 rfl (lv_room (Nat.le_of_ble_eq_true rfl)) dX8_begin_35 ⟨Nat.le_of_ble_eq_true rfl, Nat.le_of_ble_eq_true rfl⟩) hP hD hS hA [0, 1, 2] [3, 4, 5, 6, 7] rfl rfl (by decide) (by decide) (fun _ H locs hw_9 hP hD hS => ?_)
      have hP : va_P g.1 vwCl [(aS, .inl (g.2.1, 6, .inl (fun j => nI (fS j)))), (aU, .inl (g.2.1, 6, .inl (fun j => nI (fU j)))), (aK, .inl (g.2.1, 6, .inl fK)), (oH, .inr (6, [.ref aH, .int (nI nE), .int (nI nB), .int (nI nTb), .int (nI nTr), .int (nI nFa)])), (aH, .inl (g.2.1, 6, .inl (fun j => nI (hh j)))), (oT, .inr (8, [.ref aB, .ref aW, .ref aS, .ref aU, .ref aK, .int (nI (kF ((bgS hh nE nB fB fW i).2.2) (hbP hh nE i))), .int (nI ib), .int (nI sn)])), (aB, .inl (g.2.1, 20, .inl (fun j => nI (kB ((bgS hh nE nB fB fW i).1) ((bgS hh nE nB fB fW i).2.2) i (hbP hh nE i) j)))), (aW, .inl (g.2.2.1, 20, .inr (.inl (fun j => lN (kW ((bgS hh nE nB fB fW i).2.1) ((bgS hh nE nB fB fW i).2.2) (hbP hh nE i) j)))))] H := hP
      have hD : va_D A [(aS, .inl (g.2.1, 6, .inl (fun j => nI (fS j)))), (aU, .inl (g.2.1, 6, .inl (fun j => nI (fU j)))), (aK, .inl (g.2.1, 6, .inl fK)), (oH, .inr (6, [.ref aH, .int (nI nE), .int (nI nB), .int (nI nTb), .int (nI nTr), .int (nI nFa)])), (aH, .inl (g.2.1, 6, .inl (fun j => nI (hh j)))), (oT, .inr (8, [.ref aB, .ref aW, .ref aS, .ref aU, .ref aK, .int (nI (kF ((bgS hh nE nB fB fW i).2.2) (hbP hh nE i))), .int (nI ib), .int (nI sn)])), (aB, .inl (g.2.1, 20, .inl (fun j => nI (kB ((bgS hh nE nB fB fW i).1) ((bgS hh nE nB fB fW i).2.2) i (hbP hh nE i) j)))), (aW, .inl (g.2.2.1, 20, .inr (.inl (fun j => lN (kW ((bgS hh nE nB fB fW i).2.1) ((bgS hh nE nB fB fW i).2.2) (hbP hh nE i) j)))))] := hD
      exact hJ38   _ _ (by rw [bgS_t c25]; exact (hP.sub [5, 6, 7, 0, 1, 2, 3, 4] rfl)) (by rw [bgS_t c25]; exact (hD.sub [5, 6, 7, 0, 1, 2, 3, 4] (by decide) rfl)) hS ls (lv_sub hl [0, 1, 2, 3] rfl)
  exact hL12 _ 0 (Nat.lt_succ_self _) (by first | assumption | exact Nat.zero_le _ | omega) _ _ hP hD hS ls (lv_sub hl [2, 3, 1, 0] rfl)

set_option maxHeartbeats 4000000 in
set_option maxRecDepth 100000 in
/-- BoiledEggs$Told.copyFrom  -/
theorem k_X8_copyFrom (l : Launch) (g : GG) (sz : Nat) (oT : Nat) (aB : Nat) (aW : Nat) (aS : Nat) (aU : Nat) (aK : Nat) (fi : Nat) (ib : Nat) (sn : Nat) (oK : Nat) (bB : Nat) (bW : Nat) (bS : Nat) (bU : Nat) (bK : Nat) (gi : Nat) (gb : Nat) (gn : Nat) (fB : Nat → Nat) (fW : Nat → Nat) (fS : Nat → Nat) (fU : Nat → Nat) (fK : Nat → Int32) (gB : Nat → Nat) (gW : Nat → Nat) (gS : Nat → Nat) (gU : Nat → Nat) (gK : Nat → Int32)  : Met l yX8_copyFrom wsX8_copyFrom ({ frames := 1, cells := 0, slots := 0, locals := 35 }) (pM g sz [.ref oT, .ref oK] [(oT, .inr (8, [.ref aB, .ref aW, .ref aS, .ref aU, .ref aK, .int (nI fi), .int (nI ib), .int (nI sn)])), (aB, .inl (g.2.1, 20, .inl (fun j => nI (fB j)))), (aW, .inl (g.2.2.1, 20, .inr (.inl (fun j => lN (fW j))))), (aS, .inl (g.2.1, 6, .inl (fun j => nI (fS j)))), (aU, .inl (g.2.1, 6, .inl (fun j => nI (fU j)))), (aK, .inl (g.2.1, 6, .inl fK)), (oK, .inr (8, [.ref bB, .ref bW, .ref bS, .ref bU, .ref bK, .int (nI gi), .int (nI gb), .int (nI gn)])), (bB, .inl (g.2.1, 20, .inl (fun j => nI (gB j)))), (bW, .inl (g.2.2.1, 20, .inr (.inl (fun j => lN (gW j))))), (bS, .inl (g.2.1, 6, .inl (fun j => nI (gS j)))), (bU, .inl (g.2.1, 6, .inl (fun j => nI (gU j)))), (bK, .inl (g.2.1, 6, .inl gK))]) (qMv g (fun (_ : Unit) => True) (fun (_ : Unit) => [(oT, .inr (8, [.ref aB, .ref aW, .ref aS, .ref aU, .ref aK, .int (nI gi), .int (nI gb), .int (nI gn)])), (aB, .inl (g.2.1, 20, .inl (fun j => nI (cpN gB fB 20 j)))), (aW, .inl (g.2.2.1, 20, .inr (.inl (fun j => lN (cpN gW fW 20 j))))), (aS, .inl (g.2.1, 6, .inl (fun j => nI (cpN gS fS 6 j)))), (aU, .inl (g.2.1, 6, .inl (fun j => nI (cpN gU fU 6 j)))), (aK, .inl (g.2.1, 6, .inl (cpN gK fK 6))), (oK, .inr (8, [.ref bB, .ref bW, .ref bS, .ref bU, .ref bK, .int (nI gi), .int (nI gb), .int (nI gn)])), (bB, .inl (g.2.1, 20, .inl (fun j => nI (gB j)))), (bW, .inl (g.2.2.1, 20, .inr (.inl (fun j => lN (gW j))))), (bS, .inl (g.2.1, 6, .inl (fun j => nI (gS j)))), (bU, .inl (g.2.1, 6, .inl (fun j => nI (gU j)))), (bK, .inl (g.2.1, 6, .inl gK))]) (va_A [(oT, .inr (8, [.ref aB, .ref aW, .ref aS, .ref aU, .ref aK, .int (nI fi), .int (nI ib), .int (nI sn)])), (aB, .inl (g.2.1, 20, .inl (fun j => nI (fB j)))), (aW, .inl (g.2.2.1, 20, .inr (.inl (fun j => lN (fW j))))), (aS, .inl (g.2.1, 6, .inl (fun j => nI (fS j)))), (aU, .inl (g.2.1, 6, .inl (fun j => nI (fU j)))), (aK, .inl (g.2.1, 6, .inl fK)), (oK, .inr (8, [.ref bB, .ref bW, .ref bS, .ref bU, .ref bK, .int (nI gi), .int (nI gb), .int (nI gn)])), (bB, .inl (g.2.1, 20, .inl (fun j => nI (gB j)))), (bW, .inl (g.2.2.1, 20, .inr (.inl (fun j => lN (gW j))))), (bS, .inl (g.2.1, 6, .inl (fun j => nI (gS j)))), (bU, .inl (g.2.1, 6, .inl (fun j => nI (gU j)))), (bK, .inl (g.2.1, 6, .inl gK))] sz)) 0 0 (va_A [(oT, .inr (8, [.ref aB, .ref aW, .ref aS, .ref aU, .ref aK, .int (nI fi), .int (nI ib), .int (nI sn)])), (aB, .inl (g.2.1, 20, .inl (fun j => nI (fB j)))), (aW, .inl (g.2.2.1, 20, .inr (.inl (fun j => lN (fW j))))), (aS, .inl (g.2.1, 6, .inl (fun j => nI (fS j)))), (aU, .inl (g.2.1, 6, .inl (fun j => nI (fU j)))), (aK, .inl (g.2.1, 6, .inl fK)), (oK, .inr (8, [.ref bB, .ref bW, .ref bS, .ref bU, .ref bK, .int (nI gi), .int (nI gb), .int (nI gn)])), (bB, .inl (g.2.1, 20, .inl (fun j => nI (gB j)))), (bW, .inl (g.2.2.1, 20, .inr (.inl (fun j => lN (gW j))))), (bS, .inl (g.2.1, 6, .inl (fun j => nI (gS j)))), (bU, .inl (g.2.1, 6, .inl (fun j => nI (gU j)))), (bK, .inl (g.2.1, 6, .inl gK))] sz) := by
  refine metM (Qf := fun A => (qMv g (fun (_ : Unit) => True) (fun (_ : Unit) => [(oT, .inr (8, [.ref aB, .ref aW, .ref aS, .ref aU, .ref aK, .int (nI gi), .int (nI gb), .int (nI gn)])), (aB, .inl (g.2.1, 20, .inl (fun j => nI (cpN gB fB 20 j)))), (aW, .inl (g.2.2.1, 20, .inr (.inl (fun j => lN (cpN gW fW 20 j))))), (aS, .inl (g.2.1, 6, .inl (fun j => nI (cpN gS fS 6 j)))), (aU, .inl (g.2.1, 6, .inl (fun j => nI (cpN gU fU 6 j)))), (aK, .inl (g.2.1, 6, .inl (cpN gK fK 6))), (oK, .inr (8, [.ref bB, .ref bW, .ref bS, .ref bU, .ref bK, .int (nI gi), .int (nI gb), .int (nI gn)])), (bB, .inl (g.2.1, 20, .inl (fun j => nI (gB j)))), (bW, .inl (g.2.2.1, 20, .inr (.inl (fun j => lN (gW j))))), (bS, .inl (g.2.1, 6, .inl (fun j => nI (gS j)))), (bU, .inl (g.2.1, 6, .inl (fun j => nI (gU j)))), (bK, .inl (g.2.1, 6, .inl gK))]) A)) (cc := cX8_copyFrom) (maxL := 2) (ret := none) (by decide) rfl (Nat.le_of_ble_eq_true rfl) ?_
  intro p e s m below meth c hx hb hr hts hown hlocks hml hin0 hC A hA hP hD hS ls hl
  have hl : lv_has ls 2 [(0, .ref oT), (1, .ref oK)] := hl
  have hown : s.vm.findClass RX8 = some m.cls := hown
  have hts : ∀ w ∈ wsX8_copyFrom, w.before ([.ref oT, .ref oK] : List Value).toArray s = true := hts
  have hinX8 := (by decide +kernel : ∀ w ∈ u_ws RX8 TX8 8, w ∈ wsX8_copyFrom)
  have f9 := hts (.fieldLink RX8 9 "BoiledEggs$Told" "boxes" "[I") (by decide +kernel)
  have ml61 := hts (.methodLink RX8 61 arraycopyName) (by decide +kernel)
  have an := hts (.native arraycopyName) (by decide +kernel)
  have as_ := hts (.static arraycopyName) (by decide +kernel)
  have ai := hts (.initialized "java/lang/System") (by decide +kernel)
  have f15 := hts (.fieldLink RX8 15 "BoiledEggs$Told" "weights" "[J") (by decide +kernel)
  have f19 := hts (.fieldLink RX8 19 "BoiledEggs$Told" "spins" "[I") (by decide +kernel)
  have f22 := hts (.fieldLink RX8 22 "BoiledEggs$Told" "turned" "[I") (by decide +kernel)
  have f25 := hts (.fieldLink RX8 25 "BoiledEggs$Told" "known" "[I") (by decide +kernel)
  have f28 := hts (.fieldLink RX8 28 "BoiledEggs$Told" "fitting" "I") (by decide +kernel)
  have f55 := hts (.fieldLink RX8 55 "BoiledEggs$Told" "inBox" "I") (by decide +kernel)
  have f58 := hts (.fieldLink RX8 58 "BoiledEggs$Told" "allSpins" "I") (by decide +kernel)
  refine lv_aload_n hx hb dX8_copyFrom_0 rfl (lv_at hl 1 rfl) ?_
  refine va_get (D := g.1) (ci := 8) (v := .ref bB) (C := RX8) (T := TX8) (N := 8) hx hb hts hinX8 hown hC.1 hP 6 rfl rfl 0 (by decide) f9 (fun _ h9 => h9) rfl dX8_copyFrom_1 ?_
  refine lv_iconst (v := nI 0) hx hb dX8_copyFrom_4 (by decide) ?_
  refine lv_aload_n hx hb dX8_copyFrom_5 rfl (lv_at hl 0 rfl) ?_
  refine va_get (D := g.1) (ci := 8) (v := .ref aB) (C := RX8) (T := TX8) (N := 8) hx hb hts hinX8 hown hC.1 hP 0 rfl rfl 0 (by decide) f9 (fun _ h9 => h9) rfl dX8_copyFrom_6 ?_
  refine lv_iconst (v := nI 0) hx hb dX8_copyFrom_9 (by decide) ?_
  refine lv_bipush (v := nI 20) hx hb dX8_copyFrom_10 (by decide) ?_
  refine cp_i (f := fun j => nI (gB j)) (h := fun j => nI (fB j)) (n := 20) hx hb (by rw [hml]; exact hl.1.symm) hC hown ml61 an as_ ai hP hD hS 7 1 rfl rfl (by decide) (Nat.le_of_ble_eq_true rfl) (Nat.le_of_ble_eq_true rfl) dX8_copyFrom_12 (fun H locs hP hD hS => ?_)
  rw [cpy_nI] at hP hD
  have hP : va_P g.1 vwCl [(oT, .inr (8, [.ref aB, .ref aW, .ref aS, .ref aU, .ref aK, .int (nI fi), .int (nI ib), .int (nI sn)])), (aB, .inl (g.2.1, 20, .inl (fun j => nI (cpN gB fB 20 j)))), (aW, .inl (g.2.2.1, 20, .inr (.inl (fun j => lN (fW j))))), (aS, .inl (g.2.1, 6, .inl (fun j => nI (fS j)))), (aU, .inl (g.2.1, 6, .inl (fun j => nI (fU j)))), (aK, .inl (g.2.1, 6, .inl fK)), (oK, .inr (8, [.ref bB, .ref bW, .ref bS, .ref bU, .ref bK, .int (nI gi), .int (nI gb), .int (nI gn)])), (bB, .inl (g.2.1, 20, .inl (fun j => nI (gB j)))), (bW, .inl (g.2.2.1, 20, .inr (.inl (fun j => lN (gW j))))), (bS, .inl (g.2.1, 6, .inl (fun j => nI (gS j)))), (bU, .inl (g.2.1, 6, .inl (fun j => nI (gU j)))), (bK, .inl (g.2.1, 6, .inl gK))] H := hP
  have hD : va_D A [(oT, .inr (8, [.ref aB, .ref aW, .ref aS, .ref aU, .ref aK, .int (nI fi), .int (nI ib), .int (nI sn)])), (aB, .inl (g.2.1, 20, .inl (fun j => nI (cpN gB fB 20 j)))), (aW, .inl (g.2.2.1, 20, .inr (.inl (fun j => lN (fW j))))), (aS, .inl (g.2.1, 6, .inl (fun j => nI (fS j)))), (aU, .inl (g.2.1, 6, .inl (fun j => nI (fU j)))), (aK, .inl (g.2.1, 6, .inl fK)), (oK, .inr (8, [.ref bB, .ref bW, .ref bS, .ref bU, .ref bK, .int (nI gi), .int (nI gb), .int (nI gn)])), (bB, .inl (g.2.1, 20, .inl (fun j => nI (gB j)))), (bW, .inl (g.2.2.1, 20, .inr (.inl (fun j => lN (gW j))))), (bS, .inl (g.2.1, 6, .inl (fun j => nI (gS j)))), (bU, .inl (g.2.1, 6, .inl (fun j => nI (gU j)))), (bK, .inl (g.2.1, 6, .inl gK))] := hD
  refine lv_aload_n hx hb dX8_copyFrom_15 rfl (lv_at hl 1 rfl) ?_
  refine va_get (D := g.1) (ci := 8) (v := .ref bW) (C := RX8) (T := TX8) (N := 8) hx hb hts hinX8 hown hC.1 hP 6 rfl rfl 1 (by decide) f15 (fun _ h9 => h9) rfl dX8_copyFrom_16 ?_
  refine lv_iconst (v := nI 0) hx hb dX8_copyFrom_19 (by decide) ?_
  refine lv_aload_n hx hb dX8_copyFrom_20 rfl (lv_at hl 0 rfl) ?_
  refine va_get (D := g.1) (ci := 8) (v := .ref aW) (C := RX8) (T := TX8) (N := 8) hx hb hts hinX8 hown hC.1 hP 0 rfl rfl 1 (by decide) f15 (fun _ h9 => h9) rfl dX8_copyFrom_21 ?_
  refine lv_iconst (v := nI 0) hx hb dX8_copyFrom_24 (by decide) ?_
  refine lv_bipush (v := nI 20) hx hb dX8_copyFrom_25 (by decide) ?_
  refine cp_l (f := fun j => lN (gW j)) (h := fun j => lN (fW j)) (n := 20) hx hb (by rw [hml]; exact hl.1.symm) hC hown ml61 an as_ ai hP hD hS 8 2 rfl rfl (by decide) (Nat.le_of_ble_eq_true rfl) (Nat.le_of_ble_eq_true rfl) dX8_copyFrom_27 (fun H locs hP hD hS => ?_)
  rw [cpy_lN] at hP hD
  have hP : va_P g.1 vwCl [(oT, .inr (8, [.ref aB, .ref aW, .ref aS, .ref aU, .ref aK, .int (nI fi), .int (nI ib), .int (nI sn)])), (aB, .inl (g.2.1, 20, .inl (fun j => nI (cpN gB fB 20 j)))), (aW, .inl (g.2.2.1, 20, .inr (.inl (fun j => lN (cpN gW fW 20 j))))), (aS, .inl (g.2.1, 6, .inl (fun j => nI (fS j)))), (aU, .inl (g.2.1, 6, .inl (fun j => nI (fU j)))), (aK, .inl (g.2.1, 6, .inl fK)), (oK, .inr (8, [.ref bB, .ref bW, .ref bS, .ref bU, .ref bK, .int (nI gi), .int (nI gb), .int (nI gn)])), (bB, .inl (g.2.1, 20, .inl (fun j => nI (gB j)))), (bW, .inl (g.2.2.1, 20, .inr (.inl (fun j => lN (gW j))))), (bS, .inl (g.2.1, 6, .inl (fun j => nI (gS j)))), (bU, .inl (g.2.1, 6, .inl (fun j => nI (gU j)))), (bK, .inl (g.2.1, 6, .inl gK))] H := hP
  have hD : va_D A [(oT, .inr (8, [.ref aB, .ref aW, .ref aS, .ref aU, .ref aK, .int (nI fi), .int (nI ib), .int (nI sn)])), (aB, .inl (g.2.1, 20, .inl (fun j => nI (cpN gB fB 20 j)))), (aW, .inl (g.2.2.1, 20, .inr (.inl (fun j => lN (cpN gW fW 20 j))))), (aS, .inl (g.2.1, 6, .inl (fun j => nI (fS j)))), (aU, .inl (g.2.1, 6, .inl (fun j => nI (fU j)))), (aK, .inl (g.2.1, 6, .inl fK)), (oK, .inr (8, [.ref bB, .ref bW, .ref bS, .ref bU, .ref bK, .int (nI gi), .int (nI gb), .int (nI gn)])), (bB, .inl (g.2.1, 20, .inl (fun j => nI (gB j)))), (bW, .inl (g.2.2.1, 20, .inr (.inl (fun j => lN (gW j))))), (bS, .inl (g.2.1, 6, .inl (fun j => nI (gS j)))), (bU, .inl (g.2.1, 6, .inl (fun j => nI (gU j)))), (bK, .inl (g.2.1, 6, .inl gK))] := hD
  refine lv_aload_n hx hb dX8_copyFrom_30 rfl (lv_at hl 1 rfl) ?_
  refine va_get (D := g.1) (ci := 8) (v := .ref bS) (C := RX8) (T := TX8) (N := 8) hx hb hts hinX8 hown hC.1 hP 6 rfl rfl 2 (by decide) f19 (fun _ h9 => h9) rfl dX8_copyFrom_31 ?_
  refine lv_iconst (v := nI 0) hx hb dX8_copyFrom_34 (by decide) ?_
  refine lv_aload_n hx hb dX8_copyFrom_35 rfl (lv_at hl 0 rfl) ?_
  refine va_get (D := g.1) (ci := 8) (v := .ref aS) (C := RX8) (T := TX8) (N := 8) hx hb hts hinX8 hown hC.1 hP 0 rfl rfl 2 (by decide) f19 (fun _ h9 => h9) rfl dX8_copyFrom_36 ?_
  refine lv_iconst (v := nI 0) hx hb dX8_copyFrom_39 (by decide) ?_
  refine lv_bipush (v := nI 6) hx hb dX8_copyFrom_40 (by decide) ?_
  refine cp_i (f := fun j => nI (gS j)) (h := fun j => nI (fS j)) (n := 6) hx hb (by rw [hml]; exact hl.1.symm) hC hown ml61 an as_ ai hP hD hS 9 3 rfl rfl (by decide) (Nat.le_of_ble_eq_true rfl) (Nat.le_of_ble_eq_true rfl) dX8_copyFrom_42 (fun H locs hP hD hS => ?_)
  rw [cpy_nI] at hP hD
  have hP : va_P g.1 vwCl [(oT, .inr (8, [.ref aB, .ref aW, .ref aS, .ref aU, .ref aK, .int (nI fi), .int (nI ib), .int (nI sn)])), (aB, .inl (g.2.1, 20, .inl (fun j => nI (cpN gB fB 20 j)))), (aW, .inl (g.2.2.1, 20, .inr (.inl (fun j => lN (cpN gW fW 20 j))))), (aS, .inl (g.2.1, 6, .inl (fun j => nI (cpN gS fS 6 j)))), (aU, .inl (g.2.1, 6, .inl (fun j => nI (fU j)))), (aK, .inl (g.2.1, 6, .inl fK)), (oK, .inr (8, [.ref bB, .ref bW, .ref bS, .ref bU, .ref bK, .int (nI gi), .int (nI gb), .int (nI gn)])), (bB, .inl (g.2.1, 20, .inl (fun j => nI (gB j)))), (bW, .inl (g.2.2.1, 20, .inr (.inl (fun j => lN (gW j))))), (bS, .inl (g.2.1, 6, .inl (fun j => nI (gS j)))), (bU, .inl (g.2.1, 6, .inl (fun j => nI (gU j)))), (bK, .inl (g.2.1, 6, .inl gK))] H := hP
  have hD : va_D A [(oT, .inr (8, [.ref aB, .ref aW, .ref aS, .ref aU, .ref aK, .int (nI fi), .int (nI ib), .int (nI sn)])), (aB, .inl (g.2.1, 20, .inl (fun j => nI (cpN gB fB 20 j)))), (aW, .inl (g.2.2.1, 20, .inr (.inl (fun j => lN (cpN gW fW 20 j))))), (aS, .inl (g.2.1, 6, .inl (fun j => nI (cpN gS fS 6 j)))), (aU, .inl (g.2.1, 6, .inl (fun j => nI (fU j)))), (aK, .inl (g.2.1, 6, .inl fK)), (oK, .inr (8, [.ref bB, .ref bW, .ref bS, .ref bU, .ref bK, .int (nI gi), .int (nI gb), .int (nI gn)])), (bB, .inl (g.2.1, 20, .inl (fun j => nI (gB j)))), (bW, .inl (g.2.2.1, 20, .inr (.inl (fun j => lN (gW j))))), (bS, .inl (g.2.1, 6, .inl (fun j => nI (gS j)))), (bU, .inl (g.2.1, 6, .inl (fun j => nI (gU j)))), (bK, .inl (g.2.1, 6, .inl gK))] := hD
  refine lv_aload_n hx hb dX8_copyFrom_45 rfl (lv_at hl 1 rfl) ?_
  refine va_get (D := g.1) (ci := 8) (v := .ref bU) (C := RX8) (T := TX8) (N := 8) hx hb hts hinX8 hown hC.1 hP 6 rfl rfl 3 (by decide) f22 (fun _ h9 => h9) rfl dX8_copyFrom_46 ?_
  refine lv_iconst (v := nI 0) hx hb dX8_copyFrom_49 (by decide) ?_
  refine lv_aload_n hx hb dX8_copyFrom_50 rfl (lv_at hl 0 rfl) ?_
  refine va_get (D := g.1) (ci := 8) (v := .ref aU) (C := RX8) (T := TX8) (N := 8) hx hb hts hinX8 hown hC.1 hP 0 rfl rfl 3 (by decide) f22 (fun _ h9 => h9) rfl dX8_copyFrom_51 ?_
  refine lv_iconst (v := nI 0) hx hb dX8_copyFrom_54 (by decide) ?_
  refine lv_bipush (v := nI 6) hx hb dX8_copyFrom_55 (by decide) ?_
  refine cp_i (f := fun j => nI (gU j)) (h := fun j => nI (fU j)) (n := 6) hx hb (by rw [hml]; exact hl.1.symm) hC hown ml61 an as_ ai hP hD hS 10 4 rfl rfl (by decide) (Nat.le_of_ble_eq_true rfl) (Nat.le_of_ble_eq_true rfl) dX8_copyFrom_57 (fun H locs hP hD hS => ?_)
  rw [cpy_nI] at hP hD
  have hP : va_P g.1 vwCl [(oT, .inr (8, [.ref aB, .ref aW, .ref aS, .ref aU, .ref aK, .int (nI fi), .int (nI ib), .int (nI sn)])), (aB, .inl (g.2.1, 20, .inl (fun j => nI (cpN gB fB 20 j)))), (aW, .inl (g.2.2.1, 20, .inr (.inl (fun j => lN (cpN gW fW 20 j))))), (aS, .inl (g.2.1, 6, .inl (fun j => nI (cpN gS fS 6 j)))), (aU, .inl (g.2.1, 6, .inl (fun j => nI (cpN gU fU 6 j)))), (aK, .inl (g.2.1, 6, .inl fK)), (oK, .inr (8, [.ref bB, .ref bW, .ref bS, .ref bU, .ref bK, .int (nI gi), .int (nI gb), .int (nI gn)])), (bB, .inl (g.2.1, 20, .inl (fun j => nI (gB j)))), (bW, .inl (g.2.2.1, 20, .inr (.inl (fun j => lN (gW j))))), (bS, .inl (g.2.1, 6, .inl (fun j => nI (gS j)))), (bU, .inl (g.2.1, 6, .inl (fun j => nI (gU j)))), (bK, .inl (g.2.1, 6, .inl gK))] H := hP
  have hD : va_D A [(oT, .inr (8, [.ref aB, .ref aW, .ref aS, .ref aU, .ref aK, .int (nI fi), .int (nI ib), .int (nI sn)])), (aB, .inl (g.2.1, 20, .inl (fun j => nI (cpN gB fB 20 j)))), (aW, .inl (g.2.2.1, 20, .inr (.inl (fun j => lN (cpN gW fW 20 j))))), (aS, .inl (g.2.1, 6, .inl (fun j => nI (cpN gS fS 6 j)))), (aU, .inl (g.2.1, 6, .inl (fun j => nI (cpN gU fU 6 j)))), (aK, .inl (g.2.1, 6, .inl fK)), (oK, .inr (8, [.ref bB, .ref bW, .ref bS, .ref bU, .ref bK, .int (nI gi), .int (nI gb), .int (nI gn)])), (bB, .inl (g.2.1, 20, .inl (fun j => nI (gB j)))), (bW, .inl (g.2.2.1, 20, .inr (.inl (fun j => lN (gW j))))), (bS, .inl (g.2.1, 6, .inl (fun j => nI (gS j)))), (bU, .inl (g.2.1, 6, .inl (fun j => nI (gU j)))), (bK, .inl (g.2.1, 6, .inl gK))] := hD
  refine lv_aload_n hx hb dX8_copyFrom_60 rfl (lv_at hl 1 rfl) ?_
  refine va_get (D := g.1) (ci := 8) (v := .ref bK) (C := RX8) (T := TX8) (N := 8) hx hb hts hinX8 hown hC.1 hP 6 rfl rfl 4 (by decide) f25 (fun _ h9 => h9) rfl dX8_copyFrom_61 ?_
  refine lv_iconst (v := nI 0) hx hb dX8_copyFrom_64 (by decide) ?_
  refine lv_aload_n hx hb dX8_copyFrom_65 rfl (lv_at hl 0 rfl) ?_
  refine va_get (D := g.1) (ci := 8) (v := .ref aK) (C := RX8) (T := TX8) (N := 8) hx hb hts hinX8 hown hC.1 hP 0 rfl rfl 4 (by decide) f25 (fun _ h9 => h9) rfl dX8_copyFrom_66 ?_
  refine lv_iconst (v := nI 0) hx hb dX8_copyFrom_69 (by decide) ?_
  refine lv_bipush (v := nI 6) hx hb dX8_copyFrom_70 (by decide) ?_
  refine cp_i (f := gK) (h := fK) (n := 6) hx hb (by rw [hml]; exact hl.1.symm) hC hown ml61 an as_ ai hP hD hS 11 5 rfl rfl (by decide) (Nat.le_of_ble_eq_true rfl) (Nat.le_of_ble_eq_true rfl) dX8_copyFrom_72 (fun H locs hP hD hS => ?_)
  rw [cpy_raw] at hP hD
  have hP : va_P g.1 vwCl [(oT, .inr (8, [.ref aB, .ref aW, .ref aS, .ref aU, .ref aK, .int (nI fi), .int (nI ib), .int (nI sn)])), (aB, .inl (g.2.1, 20, .inl (fun j => nI (cpN gB fB 20 j)))), (aW, .inl (g.2.2.1, 20, .inr (.inl (fun j => lN (cpN gW fW 20 j))))), (aS, .inl (g.2.1, 6, .inl (fun j => nI (cpN gS fS 6 j)))), (aU, .inl (g.2.1, 6, .inl (fun j => nI (cpN gU fU 6 j)))), (aK, .inl (g.2.1, 6, .inl (cpN gK fK 6))), (oK, .inr (8, [.ref bB, .ref bW, .ref bS, .ref bU, .ref bK, .int (nI gi), .int (nI gb), .int (nI gn)])), (bB, .inl (g.2.1, 20, .inl (fun j => nI (gB j)))), (bW, .inl (g.2.2.1, 20, .inr (.inl (fun j => lN (gW j))))), (bS, .inl (g.2.1, 6, .inl (fun j => nI (gS j)))), (bU, .inl (g.2.1, 6, .inl (fun j => nI (gU j)))), (bK, .inl (g.2.1, 6, .inl gK))] H := hP
  have hD : va_D A [(oT, .inr (8, [.ref aB, .ref aW, .ref aS, .ref aU, .ref aK, .int (nI fi), .int (nI ib), .int (nI sn)])), (aB, .inl (g.2.1, 20, .inl (fun j => nI (cpN gB fB 20 j)))), (aW, .inl (g.2.2.1, 20, .inr (.inl (fun j => lN (cpN gW fW 20 j))))), (aS, .inl (g.2.1, 6, .inl (fun j => nI (cpN gS fS 6 j)))), (aU, .inl (g.2.1, 6, .inl (fun j => nI (cpN gU fU 6 j)))), (aK, .inl (g.2.1, 6, .inl (cpN gK fK 6))), (oK, .inr (8, [.ref bB, .ref bW, .ref bS, .ref bU, .ref bK, .int (nI gi), .int (nI gb), .int (nI gn)])), (bB, .inl (g.2.1, 20, .inl (fun j => nI (gB j)))), (bW, .inl (g.2.2.1, 20, .inr (.inl (fun j => lN (gW j))))), (bS, .inl (g.2.1, 6, .inl (fun j => nI (gS j)))), (bU, .inl (g.2.1, 6, .inl (fun j => nI (gU j)))), (bK, .inl (g.2.1, 6, .inl gK))] := hD
  refine lv_aload_n hx hb dX8_copyFrom_75 rfl (lv_at hl 0 rfl) ?_
  refine lv_aload_n hx hb dX8_copyFrom_76 rfl (lv_at hl 1 rfl) ?_
  refine va_get (D := g.1) (ci := 8) (v := .int (nI gi)) (C := RX8) (T := TX8) (N := 8) hx hb hts hinX8 hown hC.1 hP 6 rfl rfl 5 (by decide) f28 (fun _ h9 => h9) rfl dX8_copyFrom_77 ?_
  refine va_put (D := g.1) (ci := 8) (v := .int (nI gi)) (ty := .int) (C := RX8) (T := TX8) (N := 8) hx hb hts hinX8 tyX8 tyX8_ok nmX8 hown hC.1 hP hD hS 0 rfl rfl 5 (by decide) f28 (fun _ h9 => h9) rfl (by decide +kernel) rfl rfl (Nat.le_of_ble_eq_true rfl) dX8_copyFrom_80 (fun H locs hP hD hS => ?_)
  have hP : va_P g.1 vwCl [(oT, .inr (8, [.ref aB, .ref aW, .ref aS, .ref aU, .ref aK, .int (nI gi), .int (nI ib), .int (nI sn)])), (aB, .inl (g.2.1, 20, .inl (fun j => nI (cpN gB fB 20 j)))), (aW, .inl (g.2.2.1, 20, .inr (.inl (fun j => lN (cpN gW fW 20 j))))), (aS, .inl (g.2.1, 6, .inl (fun j => nI (cpN gS fS 6 j)))), (aU, .inl (g.2.1, 6, .inl (fun j => nI (cpN gU fU 6 j)))), (aK, .inl (g.2.1, 6, .inl (cpN gK fK 6))), (oK, .inr (8, [.ref bB, .ref bW, .ref bS, .ref bU, .ref bK, .int (nI gi), .int (nI gb), .int (nI gn)])), (bB, .inl (g.2.1, 20, .inl (fun j => nI (gB j)))), (bW, .inl (g.2.2.1, 20, .inr (.inl (fun j => lN (gW j))))), (bS, .inl (g.2.1, 6, .inl (fun j => nI (gS j)))), (bU, .inl (g.2.1, 6, .inl (fun j => nI (gU j)))), (bK, .inl (g.2.1, 6, .inl gK))] H := hP
  have hD : va_D A [(oT, .inr (8, [.ref aB, .ref aW, .ref aS, .ref aU, .ref aK, .int (nI gi), .int (nI ib), .int (nI sn)])), (aB, .inl (g.2.1, 20, .inl (fun j => nI (cpN gB fB 20 j)))), (aW, .inl (g.2.2.1, 20, .inr (.inl (fun j => lN (cpN gW fW 20 j))))), (aS, .inl (g.2.1, 6, .inl (fun j => nI (cpN gS fS 6 j)))), (aU, .inl (g.2.1, 6, .inl (fun j => nI (cpN gU fU 6 j)))), (aK, .inl (g.2.1, 6, .inl (cpN gK fK 6))), (oK, .inr (8, [.ref bB, .ref bW, .ref bS, .ref bU, .ref bK, .int (nI gi), .int (nI gb), .int (nI gn)])), (bB, .inl (g.2.1, 20, .inl (fun j => nI (gB j)))), (bW, .inl (g.2.2.1, 20, .inr (.inl (fun j => lN (gW j))))), (bS, .inl (g.2.1, 6, .inl (fun j => nI (gS j)))), (bU, .inl (g.2.1, 6, .inl (fun j => nI (gU j)))), (bK, .inl (g.2.1, 6, .inl gK))] := hD
  refine lv_aload_n hx hb dX8_copyFrom_83 rfl (lv_at hl 0 rfl) ?_
  refine lv_aload_n hx hb dX8_copyFrom_84 rfl (lv_at hl 1 rfl) ?_
  refine va_get (D := g.1) (ci := 8) (v := .int (nI gb)) (C := RX8) (T := TX8) (N := 8) hx hb hts hinX8 hown hC.1 hP 6 rfl rfl 6 (by decide) f55 (fun _ h9 => h9) rfl dX8_copyFrom_85 ?_
  refine va_put (D := g.1) (ci := 8) (v := .int (nI gb)) (ty := .int) (C := RX8) (T := TX8) (N := 8) hx hb hts hinX8 tyX8 tyX8_ok nmX8 hown hC.1 hP hD hS 0 rfl rfl 6 (by decide) f55 (fun _ h9 => h9) rfl (by decide +kernel) rfl rfl (Nat.le_of_ble_eq_true rfl) dX8_copyFrom_88 (fun H locs hP hD hS => ?_)
  have hP : va_P g.1 vwCl [(oT, .inr (8, [.ref aB, .ref aW, .ref aS, .ref aU, .ref aK, .int (nI gi), .int (nI gb), .int (nI sn)])), (aB, .inl (g.2.1, 20, .inl (fun j => nI (cpN gB fB 20 j)))), (aW, .inl (g.2.2.1, 20, .inr (.inl (fun j => lN (cpN gW fW 20 j))))), (aS, .inl (g.2.1, 6, .inl (fun j => nI (cpN gS fS 6 j)))), (aU, .inl (g.2.1, 6, .inl (fun j => nI (cpN gU fU 6 j)))), (aK, .inl (g.2.1, 6, .inl (cpN gK fK 6))), (oK, .inr (8, [.ref bB, .ref bW, .ref bS, .ref bU, .ref bK, .int (nI gi), .int (nI gb), .int (nI gn)])), (bB, .inl (g.2.1, 20, .inl (fun j => nI (gB j)))), (bW, .inl (g.2.2.1, 20, .inr (.inl (fun j => lN (gW j))))), (bS, .inl (g.2.1, 6, .inl (fun j => nI (gS j)))), (bU, .inl (g.2.1, 6, .inl (fun j => nI (gU j)))), (bK, .inl (g.2.1, 6, .inl gK))] H := hP
  have hD : va_D A [(oT, .inr (8, [.ref aB, .ref aW, .ref aS, .ref aU, .ref aK, .int (nI gi), .int (nI gb), .int (nI sn)])), (aB, .inl (g.2.1, 20, .inl (fun j => nI (cpN gB fB 20 j)))), (aW, .inl (g.2.2.1, 20, .inr (.inl (fun j => lN (cpN gW fW 20 j))))), (aS, .inl (g.2.1, 6, .inl (fun j => nI (cpN gS fS 6 j)))), (aU, .inl (g.2.1, 6, .inl (fun j => nI (cpN gU fU 6 j)))), (aK, .inl (g.2.1, 6, .inl (cpN gK fK 6))), (oK, .inr (8, [.ref bB, .ref bW, .ref bS, .ref bU, .ref bK, .int (nI gi), .int (nI gb), .int (nI gn)])), (bB, .inl (g.2.1, 20, .inl (fun j => nI (gB j)))), (bW, .inl (g.2.2.1, 20, .inr (.inl (fun j => lN (gW j))))), (bS, .inl (g.2.1, 6, .inl (fun j => nI (gS j)))), (bU, .inl (g.2.1, 6, .inl (fun j => nI (gU j)))), (bK, .inl (g.2.1, 6, .inl gK))] := hD
  refine lv_aload_n hx hb dX8_copyFrom_91 rfl (lv_at hl 0 rfl) ?_
  refine lv_aload_n hx hb dX8_copyFrom_92 rfl (lv_at hl 1 rfl) ?_
  refine va_get (D := g.1) (ci := 8) (v := .int (nI gn)) (C := RX8) (T := TX8) (N := 8) hx hb hts hinX8 hown hC.1 hP 6 rfl rfl 7 (by decide) f58 (fun _ h9 => h9) rfl dX8_copyFrom_93 ?_
  refine va_put (D := g.1) (ci := 8) (v := .int (nI gn)) (ty := .int) (C := RX8) (T := TX8) (N := 8) hx hb hts hinX8 tyX8 tyX8_ok nmX8 hown hC.1 hP hD hS 0 rfl rfl 7 (by decide) f58 (fun _ h9 => h9) rfl (by decide +kernel) rfl rfl (Nat.le_of_ble_eq_true rfl) dX8_copyFrom_96 (fun H locs hP hD hS => ?_)
  have hP : va_P g.1 vwCl [(oT, .inr (8, [.ref aB, .ref aW, .ref aS, .ref aU, .ref aK, .int (nI gi), .int (nI gb), .int (nI gn)])), (aB, .inl (g.2.1, 20, .inl (fun j => nI (cpN gB fB 20 j)))), (aW, .inl (g.2.2.1, 20, .inr (.inl (fun j => lN (cpN gW fW 20 j))))), (aS, .inl (g.2.1, 6, .inl (fun j => nI (cpN gS fS 6 j)))), (aU, .inl (g.2.1, 6, .inl (fun j => nI (cpN gU fU 6 j)))), (aK, .inl (g.2.1, 6, .inl (cpN gK fK 6))), (oK, .inr (8, [.ref bB, .ref bW, .ref bS, .ref bU, .ref bK, .int (nI gi), .int (nI gb), .int (nI gn)])), (bB, .inl (g.2.1, 20, .inl (fun j => nI (gB j)))), (bW, .inl (g.2.2.1, 20, .inr (.inl (fun j => lN (gW j))))), (bS, .inl (g.2.1, 6, .inl (fun j => nI (gS j)))), (bU, .inl (g.2.1, 6, .inl (fun j => nI (gU j)))), (bK, .inl (g.2.1, 6, .inl gK))] H := hP
  have hD : va_D A [(oT, .inr (8, [.ref aB, .ref aW, .ref aS, .ref aU, .ref aK, .int (nI gi), .int (nI gb), .int (nI gn)])), (aB, .inl (g.2.1, 20, .inl (fun j => nI (cpN gB fB 20 j)))), (aW, .inl (g.2.2.1, 20, .inr (.inl (fun j => lN (cpN gW fW 20 j))))), (aS, .inl (g.2.1, 6, .inl (fun j => nI (cpN gS fS 6 j)))), (aU, .inl (g.2.1, 6, .inl (fun j => nI (cpN gU fU 6 j)))), (aK, .inl (g.2.1, 6, .inl (cpN gK fK 6))), (oK, .inr (8, [.ref bB, .ref bW, .ref bS, .ref bU, .ref bK, .int (nI gi), .int (nI gb), .int (nI gn)])), (bB, .inl (g.2.1, 20, .inl (fun j => nI (gB j)))), (bW, .inl (g.2.2.1, 20, .inr (.inl (fun j => lN (gW j))))), (bS, .inl (g.2.1, 6, .inl (fun j => nI (gS j)))), (bU, .inl (g.2.1, 6, .inl (fun j => nI (gU j)))), (bK, .inl (g.2.1, 6, .inl gK))] := hD
  exact retMv (w := [(oT, .inr (8, [.ref aB, .ref aW, .ref aS, .ref aU, .ref aK, .int (nI gi), .int (nI gb), .int (nI gn)])), (aB, .inl (g.2.1, 20, .inl (fun j => nI (cpN gB fB 20 j)))), (aW, .inl (g.2.2.1, 20, .inr (.inl (fun j => lN (cpN gW fW 20 j))))), (aS, .inl (g.2.1, 6, .inl (fun j => nI (cpN gS fS 6 j)))), (aU, .inl (g.2.1, 6, .inl (fun j => nI (cpN gU fU 6 j)))), (aK, .inl (g.2.1, 6, .inl (cpN gK fK 6))), (oK, .inr (8, [.ref bB, .ref bW, .ref bS, .ref bU, .ref bK, .int (nI gi), .int (nI gb), .int (nI gn)])), (bB, .inl (g.2.1, 20, .inl (fun j => nI (gB j)))), (bW, .inl (g.2.2.1, 20, .inr (.inl (fun j => lN (gW j))))), (bS, .inl (g.2.1, 6, .inl (fun j => nI (gS j)))), (bU, .inl (g.2.1, 6, .inl (fun j => nI (gU j)))), (bK, .inl (g.2.1, 6, .inl gK))]) hx hb hr hlocks (hP.sub [0, 1, 2, 3, 4, 5, 6, 7, 8, 9, 10, 11] rfl) (hD.sub [0, 1, 2, 3, 4, 5, 6, 7, 8, 9, 10, 11] (by decide) rfl) hS () (rfl) (trivial) dX8_copyFrom_99
