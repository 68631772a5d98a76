/-! the reference's numbers -/
def wOK (E tb tr : Nat) (hab sp tu : Nat → Nat) : Prop := E ≤ 6 ∧ tb ≤ 9 ∧ tr ≤ 9 ∧ (∀ j, tu j ≤ sp j) ∧ (∀ j, sp j < 1000) ∧ (∀ j, hab j < 1000)
theorem p2le {e : Nat} (h : e ≤ 6) : 2 ^ e ≤ 64 := Nat.pow_le_pow_right (by decide) h
theorem popS_step (b k : Nat) : popS b (k + 1) = popS b k + b / 2 ^ k % 2 := rfl
theorem popS_le (b : Nat) : ∀ k, popS b k ≤ k
  | 0 => Nat.le_refl 0
  | k + 1 => by have h1 := popS_le b k; have h2 : b / 2 ^ k % 2 < 2 := Nat.mod_lt _ (by decide); rw [popS_step]; omega
def mCd (kn : Nat → Int32) (b e : Nat) : Bool := decide (kn e = -1 ∨ kn e = zI (b.testBit e))
def mTn (tb tr : Nat) (b e : Nat) : Nat := if b.testBit e then tb else tr
def mC (hab : Nat → Nat) (kn : Nat → Int32) (b e : Nat) : Nat := if mCd kn b e then (if b.testBit e then hab e else 1) else 0
def spu (tn s t : Nat) : Nat := pw tn t * pw (10 - tn) (s - t)
def mX (tb tr b : Nat) (eg : Int32) (k e : Nat) : Nat := if nI e = eg then pw (mTn tb tr b e) k else 1
def mWF (tb tr : Nat) (hab sp tu : Nat → Nat) (kn : Nat → Int32) (b : Nat) (eg : Int32) (k : Nat) : Nat → Nat → Nat := fun a e => a * mC hab kn b e * spu (mTn tb tr b e) (sp e) (tu e) * mX tb tr b eg k e
def mW (E B tb tr : Nat) (hab sp tu : Nat → Nat) (kn : Nat → Int32) (b : Nat) (eg : Int32) (k : Nat) : Nat := if popS b 6 = B ∧ b < 2 ^ E then fo (mWF tb tr hab sp tu kn b eg k) 1 E else 0
abbrev WT : Type := Nat → Int32 → Nat → Nat
def tot (w : WT) (E : Nat) (eg : Int32) (k : Nat) : Nat := fo (fun a b => a + w b eg k) 0 (2 ^ E)
def bwt (w : WT) (E e k : Nat) : Nat := fo (fun a b => a + (if b.testBit e then w b (nI e) k else 0)) 0 (2 ^ E)
def low (a b : Nat) (part : Int32) : Nat := if part = 0 then a / Nat.gcd a b else b / Nat.gcd a b
theorem mTn_lt {tb tr : Nat} (h1 : tb ≤ 9) (h2 : tr ≤ 9) (b e : Nat) : mTn tb tr b e ≤ 9 := by unfold mTn; split <;> assumption
set_option maxHeartbeats 4000000 in
set_option maxRecDepth 100000 in
/-- BoiledEggsModel.spun  -/
theorem k_X11_spun (l : Launch) (g : GG) (mo : Nat) (mE : Nat) (mKi : Nat) (mB : Nat) (mTb : Nat) (mTr : Nat) (mFa : Nat) (aHab : Nat) (mIb : Nat) (mS : Nat) (aSp : Nat) (aTu : Nat) (aKn : Nat) (mT : Nat) (aKd : Nat) (mAs : Nat) (mPl : Nat) (aPg : Nat) (aWo : Nat) (aWs : Nat) (aMe : Nat) (mBf : Int32) (aBw : Nat) (mSd : Int64) (mIk : Int32) (mKk : Nat) (mKb : Nat) (mKs : Nat) (mKt : Nat) (aKsp : Nat) (aKtu : Nat) (aKkn : Nat) (mH : Int64) (sp : Nat → Nat) (tu : Nat → Nat) (xe : Nat) (xt : Nat) (he0 : xe < 6) (ht0 : xt ≤ 10) (hle : tu xe ≤ sp xe) (hs0 : sp xe < 1000) : Met l yX11_spun wsX11_spun ({ frames := 1, cells := 0, slots := 0, locals := 24 }) (pS g [.ref mo, .int (nI xe), .int (nI xt)] [(mo, .inr (11, [.int (nI mE), .int (nI mKi), .int (nI mB), .int (nI mTb), .int (nI mTr), .int (nI mFa), .ref aHab, .int (nI mIb), .int (nI mS), .ref aSp, .ref aTu, .ref aKn, .int (nI mT), .ref aKd, .int (nI mAs), .int (nI mPl), .ref aPg, .ref aWo, .ref aWs, .ref aMe, .int mBf, .ref aBw, .long mSd, .int mIk, .int (nI mKk), .int (nI mKb), .int (nI mKs), .int (nI mKt), .ref aKsp, .ref aKtu, .ref aKkn, .long mH])), (aSp, .inl (g.2.1, 6, .inl (fun j => nI (sp j)))), (aTu, .inl (g.2.1, 6, .inl (fun j => nI (tu j))))]) (vp_Sl (fun r => r = (lN (spu xt (sp xe) (tu xe))))) 0 0 noF := by
  refine metS (cc := cX11_spun) (maxL := 3) (ret := (some .long)) (by decide) rfl (Nat.le_of_ble_eq_true rfl) ?_
  intro p e s m below meth c hx hb hr hts hown hlocks hml hC hP ls hl
  have hl : lv_has ls 3 [(0, .ref mo), (1, .int (nI xe)), (2, .int (nI xt))] := hl
  have hown : s.vm.findClass RX11 = some m.cls := hown
  have hts : ∀ w ∈ wsX11_spun, w.before ([.ref mo, .int (nI xe), .int (nI xt)] : List Value).toArray s = true := hts
  have hinX11 := (by decide +kernel : ∀ w ∈ u_ws RX11 TX11 32, w ∈ wsX11_spun)
  have f16 := hts (.fieldLink RX11 16 "BoiledEggsModel" "turnedOf" "[I") (by decide +kernel)
  have f13 := hts (.fieldLink RX11 13 "BoiledEggsModel" "spinsOf" "[I") (by decide +kernel)
  refine lv_iload_n hx hb dX11_spun_0 rfl (lv_at hl 2 rfl) ?_
  refine lv_aload_n hx hb dX11_spun_1 rfl (lv_at hl 0 rfl) ?_
  refine va_get (D := g.1) (ci := 11) (v := .ref aTu) (C := RX11) (T := TX11) (N := 32) hx hb hts hinX11 hown hC.1 hP 0 rfl rfl 10 (by decide) f16 (fun _ h9 => h9) rfl dX11_spun_2 ?_
  refine lv_iload_n hx hb dX11_spun_5 rfl (lv_at hl 1 rfl) ?_
  refine ald_i (f := fun j => nI (tu j)) (j := xe) hx hb hC hP 2 rfl (by omega) (by decide) dX11_spun_6 ?_
  refine goSl (T := lN (pw xt (tu xe))) (va_runS (As := [.int (nI xt), .int (nI (tu xe))]) (rest := []) ⟨hx, hb, hml, hown, hts⟩ (k_X11_power l g xt (tu xe) (by first | assumption | exact Nat.zero_le _ | omega) (by first | assumption | exact Nat.zero_le _ | omega)) (va_cwS 2 hts gX11_spun_X11_power rfl rfl rfl hdX11_power ⟨Nat.le_of_ble_eq_true rfl, Nat.le_of_ble_eq_true rfl⟩) (preSS hC (hP.sub [] rfl)) rfl rfl hl.1 rfl (lv_room (Nat.le_of_ble_eq_true rfl)) dX11_spun_7 ⟨Nat.le_of_ble_eq_true rfl, Nat.le_of_ble_eq_true rfl⟩) ?_
  refine lv_bipush (v := nI 10) hx hb dX11_spun_10 (by decide) ?_
  refine lv_iload_n hx hb dX11_spun_12 rfl (lv_at hl 2 rfl) ?_
  refine lv_isub hx hb dX11_spun_13 ?_
  refine top_i (y := nI (10 - xt)) (pk_sub ht0) ?_
  refine lv_aload_n hx hb dX11_spun_14 rfl (lv_at hl 0 rfl) ?_
  refine va_get (D := g.1) (ci := 11) (v := .ref aSp) (C := RX11) (T := TX11) (N := 32) hx hb hts hinX11 hown hC.1 hP 0 rfl rfl 9 (by decide) f13 (fun _ h9 => h9) rfl dX11_spun_15 ?_
  refine lv_iload_n hx hb dX11_spun_18 rfl (lv_at hl 1 rfl) ?_
  refine ald_i (f := fun j => nI (sp j)) (j := xe) hx hb hC hP 1 rfl (by omega) (by decide) dX11_spun_19 ?_
  refine lv_aload_n hx hb dX11_spun_20 rfl (lv_at hl 0 rfl) ?_
  refine va_get (D := g.1) (ci := 11) (v := .ref aTu) (C := RX11) (T := TX11) (N := 32) hx hb hts hinX11 hown hC.1 hP 0 rfl rfl 10 (by decide) f16 (fun _ h9 => h9) rfl dX11_spun_21 ?_
  refine lv_iload_n hx hb dX11_spun_24 rfl (lv_at hl 1 rfl) ?_
  refine ald_i (f := fun j => nI (tu j)) (j := xe) hx hb hC hP 2 rfl (by omega) (by decide) dX11_spun_25 ?_
  refine lv_isub hx hb dX11_spun_26 ?_
  refine top_i (y := nI (sp xe - tu xe)) (pk_sub hle) ?_
  refine goSl (T := lN (pw (10 - xt) (sp xe - tu xe))) (va_runS (As := [.int (nI (10 - xt)), .int (nI (sp xe - tu xe))]) (rest := [.long (lN (pw xt (tu xe)))]) ⟨hx, hb, hml, hown, hts⟩ (k_X11_power l g (10 - xt) (sp xe - tu xe) (by first | assumption | exact Nat.zero_le _ | omega) (by first | assumption | exact Nat.zero_le _ | omega)) (va_cwS 2 hts gX11_spun_X11_power rfl rfl rfl hdX11_power ⟨Nat.le_of_ble_eq_true rfl, Nat.le_of_ble_eq_true rfl⟩) (preSS hC (hP.sub [] rfl)) rfl rfl hl.1 rfl (lv_room (Nat.le_of_ble_eq_true rfl)) dX11_spun_27 ⟨Nat.le_of_ble_eq_true rfl, Nat.le_of_ble_eq_true rfl⟩) ?_
  refine lv_lmul hx hb dX11_spun_30 ?_
  refine top_l (y := lN ((pw xt (tu xe)) * (pw (10 - xt) (sp xe - tu xe)))) (lN_mul _ _) ?_
  exact retSl hx hb hr hlocks (rfl) dX11_spun_31

set_option maxHeartbeats 4000000 in
set_option maxRecDepth 100000 in
/-- BoiledEggsModel.weight  -/
theorem k_X11_weight (l : Launch) (g : GG) (mo : Nat) (mE : Nat) (mKi : Nat) (mB : Nat) (mTb : Nat) (mTr : Nat) (mFa : Nat) (aHab : Nat) (mIb : Nat) (mS : Nat) (aSp : Nat) (aTu : Nat) (aKn : Nat) (mT : Nat) (aKd : Nat) (mAs : Nat) (mPl : Nat) (aPg : Nat) (aWo : Nat) (aWs : Nat) (aMe : Nat) (mBf : Int32) (aBw : Nat) (mSd : Int64) (mIk : Int32) (mKk : Nat) (mKb : Nat) (mKs : Nat) (mKt : Nat) (aKsp : Nat) (aKtu : Nat) (aKkn : Nat) (mH : Int64) (hab : Nat → Nat) (sp : Nat → Nat) (tu : Nat → Nat) (kn : Nat → Int32) (xb : Nat) (xg : Int32) (xk : Nat) (hok : wOK mE mTb mTr hab sp tu) (hB0 : mB < 1000) (hb0 : xb < 2 ^ 31) (hk0 : xk < 1000) : Met l yX11_weight wsX11_weight ({ frames := 2, cells := 0, slots := 0, locals := 46 }) (pS g [.ref mo, .int (nI xb), .int xg, .int (nI xk)] [(mo, .inr (11, [.int (nI mE), .int (nI mKi), .int (nI mB), .int (nI mTb), .int (nI mTr), .int (nI mFa), .ref aHab, .int (nI mIb), .int (nI mS), .ref aSp, .ref aTu, .ref aKn, .int (nI mT), .ref aKd, .int (nI mAs), .int (nI mPl), .ref aPg, .ref aWo, .ref aWs, .ref aMe, .int mBf, .ref aBw, .long mSd, .int mIk, .int (nI mKk), .int (nI mKb), .int (nI mKs), .int (nI mKt), .ref aKsp, .ref aKtu, .ref aKkn, .long mH])), (aHab, .inl (g.2.1, 6, .inl (fun j => nI (hab j)))), (aSp, .inl (g.2.1, 6, .inl (fun j => nI (sp j)))), (aTu, .inl (g.2.1, 6, .inl (fun j => nI (tu j)))), (aKn, .inl (g.2.1, 6, .inl kn))]) (vp_Sl (fun r => r = (lN ((mW mE mB mTb mTr hab sp tu kn) xb xg xk)))) 0 0 noF := by
  refine metS (cc := cX11_weight) (maxL := 10) (ret := (some .long)) (by decide) rfl (Nat.le_of_ble_eq_true rfl) ?_
  intro p e s m below meth c hx hb hr hts hown hlocks hml hC hP ls hl
  have hl : lv_has ls 10 [(0, .ref mo), (1, .int (nI xb)), (2, .int xg), (3, .int (nI xk))] := hl
  have hown : s.vm.findClass RX11 = some m.cls := hown
  have hts : ∀ w ∈ wsX11_weight, w.before ([.ref mo, .int (nI xb), .int xg, .int (nI xk)] : List Value).toArray s = true := hts
  obtain ⟨hE, htb, htr, htu, hsp, hha⟩ := id hok
  have h2E := p2le hE
  have hinX11 := (by decide +kernel : ∀ w ∈ u_ws RX11 TX11 32, w ∈ wsX11_weight)
  have f74 := hts (.fieldLink RX11 74 "BoiledEggsModel" "boiled" "I") (by decide +kernel)
  have f71 := hts (.fieldLink RX11 71 "BoiledEggsModel" "eggs" "I") (by decide +kernel)
  have f7 := hts (.fieldLink RX11 7 "BoiledEggsModel" "habitOf" "[I") (by decide +kernel)
  have f80 := hts (.fieldLink RX11 80 "BoiledEggsModel" "turnsRaw" "I") (by decide +kernel)
  have f77 := hts (.fieldLink RX11 77 "BoiledEggsModel" "turnsBoiled" "I") (by decide +kernel)
  have f19 := hts (.fieldLink RX11 19 "BoiledEggsModel" "knownOf" "[I") (by decide +kernel)
  refine lv_iload_n hx hb dX11_weight_0 rfl (lv_at hl 1 rfl) ?_
  refine goSi (T := nI (popS xb 6)) (va_runS (As := [.int (nI xb)]) (rest := []) ⟨hx, hb, hml, hown, hts⟩ (k_X11_size l g xb (by first | assumption | exact Nat.zero_le _ | omega)) (va_cwS 1 hts gX11_weight_X11_size rfl rfl rfl hdX11_size ⟨Nat.le_of_ble_eq_true rfl, Nat.le_of_ble_eq_true rfl⟩) (preSS hC (hP.sub [] rfl)) rfl rfl hl.1 rfl (lv_room (Nat.le_of_ble_eq_true rfl)) dX11_weight_1 ⟨Nat.le_of_ble_eq_true rfl, Nat.le_of_ble_eq_true rfl⟩) ?_
  refine lv_aload_n hx hb dX11_weight_4 rfl (lv_at hl 0 rfl) ?_
  refine va_get (D := g.1) (ci := 11) (v := .int (nI mB)) (C := RX11) (T := TX11) (N := 32) hx hb hts hinX11 hown hC.1 hP 0 rfl rfl 2 (by decide) f74 (fun _ h9 => h9) rfl dX11_weight_5 ?_
  refine lv_icmp_ne (tgt := 21) hx hb dX11_weight_8 (by decide) (fun c8 => ?_) (fun c8 => ?_)
  ·have c8 : ¬ (popS xb 6) = mB := fun h9 => c8 ((nI_eq (a := popS xb 6) (b := mB) (by have := popS_le xb 6; omega) (by have := popS_le xb 6; omega)).mpr h9)
   refine lv_lconst (v := lN 0) hx hb dX11_weight_21 (by decide) ?_
   exact retSl hx hb hr hlocks (by rw [mW, if_neg (by omega)]) dX11_weight_22
  ·have c8 : (popS xb 6) = mB := (nI_eq (a := popS xb 6) (b := mB) (by have := popS_le xb 6; omega) (by have := popS_le xb 6; omega)).mp c8
   refine lv_iload_n hx hb dX11_weight_11 rfl (lv_at hl 1 rfl) ?_
   refine lv_iconst (v := nI 1) hx hb dX11_weight_12 (by decide) ?_
   refine lv_aload_n hx hb dX11_weight_13 rfl (lv_at hl 0 rfl) ?_
   refine va_get (D := g.1) (ci := 11) (v := .int (nI mE)) (C := RX11) (T := TX11) (N := 32) hx hb hts hinX11 hown hC.1 hP 0 rfl rfl 0 (by decide) f71 (fun _ h9 => h9) rfl dX11_weight_14 ?_
   refine lv_ishl hx hb dX11_weight_17 ?_
   refine top_i (y := nI (2 ^ mE)) (shl1_nI (by omega)) ?_
   refine lv_icmp_lt (tgt := 23) hx hb dX11_weight_18 (by decide) (fun c18 => ?_) (fun c18 => ?_)
   ·have c18 : xb < (2 ^ mE) := (nI_ltI (a := xb) (b := 2 ^ mE) (by omega) (by omega)).mp c18
    refine lv_lconst (v := lN 1) hx hb dX11_weight_23 (by decide) ?_
    refine lv_lstore (lv' := [(4, .long (lN 1)), (0, .ref mo), (1, .int (nI xb)), (2, .int xg), (3, .int (nI xk))]) hx hb dX11_weight_24 hl (by decide) rfl (fun ls hl => ?_)
    refine lv_iconst (v := nI 0) hx hb dX11_weight_26 (by decide) ?_
    refine lv_istore (lv' := [(6, .int (nI 0)), (4, .long (lN 1)), (0, .ref mo), (1, .int (nI xb)), (2, .int xg), (3, .int (nI xk))]) hx hb dX11_weight_27 hl (by decide) rfl (fun ls hl => ?_)
    have hL29 : ∀ (n_9 : Nat) (i : Nat), mE - i < n_9 → (i ≤ mE) → ∀ ls : Array Slot, lv_has ls 10 [(0, .ref mo), (1, .int (nI xb)), (2, .int xg), (3, .int (nI xk)), (4, .long (lN (fo (mWF mTb mTr hab sp tu kn xb xg xk) 1 i))), (6, .int (nI i))] → W p l e ({ frames := 2, cells := 0, slots := 0, locals := 46 }) s m ([.ref mo, .int (nI xb), .int xg, .int (nI xk)] : List Value).toArray below meth c s.heap [] 0 0 (MQ below (vp_Sl (fun r => r = (lN ((mW mE mB mTb mTr hab sp tu kn) xb xg xk)))) ([.ref mo, .int (nI xb), .int xg, .int (nI xk)] : List Value).toArray s 0 0 noF) (F0 m 29 ls []) := by
     intro n_9
     induction n_9 with
     | zero => intro i hn_9; exact absurd hn_9 (Nat.not_lt_zero _)
     | succ n_9 ih29 =>
      intro i hn_9 hi ls hl
      refine lv_iload hx hb dX11_weight_29 (lv_at hl 5 rfl) ?_
      refine lv_aload_n hx hb dX11_weight_31 rfl (lv_at hl 0 rfl) ?_
      refine va_get (D := g.1) (ci := 11) (v := .int (nI mE)) (C := RX11) (T := TX11) (N := 32) hx hb hts hinX11 hown hC.1 hP 0 rfl rfl 0 (by decide) f71 (fun _ h9 => h9) rfl dX11_weight_32 ?_
      refine lv_icmp_ge (tgt := 173) hx hb dX11_weight_35 (by decide) (fun c35 => ?_) (fun c35 => ?_)
      ·have c35 : mE ≤ i := (nI_leI (a := mE) (b := i) (by omega) (by omega)).mp c35
       refine lv_lload hx hb dX11_weight_173 (lv_at hl 4 rfl) ?_
       exact retSl hx hb hr hlocks (by have h9 : i = mE := (by omega); rw [mW, if_pos ⟨by omega, by omega⟩, h9]) dX11_weight_175
      ·have c35 : ¬ mE ≤ i := fun h9 => c35 ((nI_leI (a := mE) (b := i) (by omega) (by omega)).mpr h9)
       have hJ84 : ∀ ls : Array Slot, lv_has ls 10 [(0, .ref mo), (1, .int (nI xb)), (2, .int xg), (3, .int (nI xk)), (4, .long (lN (fo (mWF mTb mTr hab sp tu kn xb xg xk) 1 i))), (6, .int (nI i)), (7, .int (zI (xb.testBit i))), (8, .int (zI (mCd kn xb i)))] → W p l e ({ frames := 2, cells := 0, slots := 0, locals := 46 }) s m ([.ref mo, .int (nI xb), .int xg, .int (nI xk)] : List Value).toArray below meth c s.heap [] 0 0 (MQ below (vp_Sl (fun r => r = (lN ((mW mE mB mTb mTr hab sp tu kn) xb xg xk)))) ([.ref mo, .int (nI xb), .int xg, .int (nI xk)] : List Value).toArray s 0 0 noF) (F0 m 84 ls []) := by
        intro  ls hl
        have hJ102 : ∀ ls : Array Slot, lv_has ls 10 [(0, .ref mo), (1, .int (nI xb)), (2, .int xg), (3, .int (nI xk)), (4, .long (lN (fo (mWF mTb mTr hab sp tu kn xb xg xk) 1 i))), (6, .int (nI i)), (7, .int (zI (xb.testBit i))), (8, .int (zI (mCd kn xb i))), (9, .int (nI (mTn mTb mTr xb i)))] → W p l e ({ frames := 2, cells := 0, slots := 0, locals := 46 }) s m ([.ref mo, .int (nI xb), .int xg, .int (nI xk)] : List Value).toArray below meth c s.heap [] 0 0 (MQ below (vp_Sl (fun r => r = (lN ((mW mE mB mTb mTr hab sp tu kn) xb xg xk)))) ([.ref mo, .int (nI xb), .int xg, .int (nI xk)] : List Value).toArray s 0 0 noF) (F0 m 102 ls []) := by
         intro  ls hl
         refine lv_lload hx hb dX11_weight_102 (lv_at hl 4 rfl) ?_
         have hJ130 : ∀ ls : Array Slot, lv_has ls 10 [(0, .ref mo), (1, .int (nI xb)), (2, .int xg), (3, .int (nI xk)), (4, .long (lN (fo (mWF mTb mTr hab sp tu kn xb xg xk) 1 i))), (6, .int (nI i)), (7, .int (zI (xb.testBit i))), (8, .int (zI (mCd kn xb i))), (9, .int (nI (mTn mTb mTr xb i)))] → W p l e ({ frames := 2, cells := 0, slots := 0, locals := 46 }) s m ([.ref mo, .int (nI xb), .int xg, .int (nI xk)] : List Value).toArray below meth c s.heap [] 0 0 (MQ below (vp_Sl (fun r => r = (lN ((mW mE mB mTb mTr hab sp tu kn) xb xg xk)))) ([.ref mo, .int (nI xb), .int xg, .int (nI xk)] : List Value).toArray s 0 0 noF) (F0 m 130 ls [.long (lN (mC hab kn xb i)), .long (lN (fo (mWF mTb mTr hab sp tu kn xb xg xk) 1 i))]) := by
          intro  ls hl
          refine lv_lmul hx hb dX11_weight_130 ?_
          refine top_l (y := lN ((fo (mWF mTb mTr hab sp tu kn xb xg xk) 1 i) * (mC hab kn xb i))) (lN_mul _ _) ?_
          refine lv_lstore (lv' := [(4, .long (lN ((fo (mWF mTb mTr hab sp tu kn xb xg xk) 1 i) * (mC hab kn xb i)))), (0, .ref mo), (1, .int (nI xb)), (2, .int xg), (3, .int (nI xk)), (6, .int (nI i)), (7, .int (zI (xb.testBit i))), (8, .int (zI (mCd kn xb i))), (9, .int (nI (mTn mTb mTr xb i)))]) hx hb dX11_weight_131 hl (by decide) rfl (fun ls hl => ?_)
          refine lv_lload hx hb dX11_weight_133 (lv_at hl 0 rfl) ?_
          refine lv_aload_n hx hb dX11_weight_135 rfl (lv_at hl 1 rfl) ?_
          refine lv_iload hx hb dX11_weight_136 (lv_at hl 5 rfl) ?_
          refine lv_iload hx hb dX11_weight_138 (lv_at hl 8 rfl) ?_
          refine goSl (T := lN (spu (mTn mTb mTr xb i) (sp i) (tu i))) (va_runV (As := [.int (nI i), .int (nI (mTn mTb mTr xb i))]) (rest := [.long (lN ((fo (mWF mTb mTr hab sp tu kn xb xg xk) 1 i) * (mC hab kn xb i)))]) ⟨hx, hb, hml, hown, hts⟩ (k_X11_spun l g mo mE mKi mB mTb mTr mFa aHab mIb mS aSp aTu aKn mT aKd mAs mPl aPg aWo aWs aMe mBf aBw mSd mIk mKk mKb mKs mKt aKsp aKtu aKkn mH sp tu i (mTn mTb mTr xb i) (by omega) (Nat.le_trans (mTn_lt htb htr _ _) (by decide)) (htu i) (hsp i)) (cwV 2 hts gX11_weight_X11_spun rfl rfl rfl ⟨rfl, hdX11_spun⟩ ⟨Nat.le_of_ble_eq_true rfl, Nat.le_of_ble_eq_true rfl⟩) (preVS hC (hP.sub [0, 2, 3] rfl) (va_recv hC.1 hP (ci := 11) (q0 := 0) rfl rfl)) rfl rfl hl.1 rfl (lv_room (Nat.le_of_ble_eq_true rfl)) dX11_weight_140 ⟨Nat.le_of_ble_eq_true rfl, Nat.le_of_ble_eq_true rfl⟩) ?_
          refine lv_lmul hx hb dX11_weight_143 ?_
          refine top_l (y := lN (((fo (mWF mTb mTr hab sp tu kn xb xg xk) 1 i) * (mC hab kn xb i)) * (spu (mTn mTb mTr xb i) (sp i) (tu i)))) (lN_mul _ _) ?_
          refine lv_lstore (lv' := [(4, .long (lN (((fo (mWF mTb mTr hab sp tu kn xb xg xk) 1 i) * (mC hab kn xb i)) * (spu (mTn mTb mTr xb i) (sp i) (tu i))))), (0, .ref mo), (1, .int (nI xb)), (2, .int xg), (3, .int (nI xk)), (6, .int (nI i)), (7, .int (zI (xb.testBit i))), (8, .int (zI (mCd kn xb i))), (9, .int (nI (mTn mTb mTr xb i)))]) hx hb dX11_weight_144 hl (by decide) rfl (fun ls hl => ?_)
          refine lv_lload hx hb dX11_weight_146 (lv_at hl 0 rfl) ?_
          have hJ164 : ∀ ls : Array Slot, lv_has ls 10 [(0, .ref mo), (1, .int (nI xb)), (2, .int xg), (3, .int (nI xk)), (4, .long (lN (((fo (mWF mTb mTr hab sp tu kn xb xg xk) 1 i) * (mC hab kn xb i)) * (spu (mTn mTb mTr xb i) (sp i) (tu i))))), (6, .int (nI i)), (7, .int (zI (xb.testBit i))), (8, .int (zI (mCd kn xb i))), (9, .int (nI (mTn mTb mTr xb i)))] → W p l e ({ frames := 2, cells := 0, slots := 0, locals := 46 }) s m ([.ref mo, .int (nI xb), .int xg, .int (nI xk)] : List Value).toArray below meth c s.heap [] 0 0 (MQ below (vp_Sl (fun r => r = (lN ((mW mE mB mTb mTr hab sp tu kn) xb xg xk)))) ([.ref mo, .int (nI xb), .int xg, .int (nI xk)] : List Value).toArray s 0 0 noF) (F0 m 164 ls [.long (lN (mX mTb mTr xb xg xk i)), .long (lN (((fo (mWF mTb mTr hab sp tu kn xb xg xk) 1 i) * (mC hab kn xb i)) * (spu (mTn mTb mTr xb i) (sp i) (tu i))))]) := by
           intro  ls hl
           refine lv_lmul hx hb dX11_weight_164 ?_
           refine top_l (y := lN ((((fo (mWF mTb mTr hab sp tu kn xb xg xk) 1 i) * (mC hab kn xb i)) * (spu (mTn mTb mTr xb i) (sp i) (tu i))) * (mX mTb mTr xb xg xk i))) (lN_mul _ _) ?_
           refine lv_lstore (lv' := [(4, .long (lN ((((fo (mWF mTb mTr hab sp tu kn xb xg xk) 1 i) * (mC hab kn xb i)) * (spu (mTn mTb mTr xb i) (sp i) (tu i))) * (mX mTb mTr xb xg xk i)))), (0, .ref mo), (1, .int (nI xb)), (2, .int xg), (3, .int (nI xk)), (6, .int (nI i)), (7, .int (zI (xb.testBit i))), (8, .int (zI (mCd kn xb i))), (9, .int (nI (mTn mTb mTr xb i)))]) hx hb dX11_weight_165 hl (by decide) rfl (fun ls hl => ?_)
           refine lv_iinc (v := nI (i + 1)) (lv' := [(6, .int (nI (i + 1))), (4, .long (lN ((((fo (mWF mTb mTr hab sp tu kn xb xg xk) 1 i) * (mC hab kn xb i)) * (spu (mTn mTb mTr xb i) (sp i) (tu i))) * (mX mTb mTr xb xg xk i)))), (0, .ref mo), (1, .int (nI xb)), (2, .int xg), (3, .int (nI xk)), (7, .int (zI (xb.testBit i))), (8, .int (zI (mCd kn xb i))), (9, .int (nI (mTn mTb mTr xb i)))]) hx hb dX11_weight_167 hl (k := 5) rfl (iinc1 _) (by decide) rfl (fun ls hl => ?_)
           refine lv_goto (tgt := 29) hx hb dX11_weight_170 (by decide) ?_
           exact ih29 (i + 1) (by omega) (by first | assumption | exact Nat.zero_le _ | omega) ls (lv_sub hl [2, 3, 4, 5, 1, 0] rfl)
          refine lv_iload hx hb dX11_weight_148 (lv_at hl 5 rfl) ?_
          refine lv_iload_n hx hb dX11_weight_150 rfl (lv_at hl 3 rfl) ?_
          refine lv_icmp_ne (tgt := 163) hx hb dX11_weight_151 (by decide) (fun c151 => ?_) (fun c151 => ?_)
          ·refine lv_lconst (v := lN 1) hx hb dX11_weight_163 (by decide) ?_
           refine top_l (y := lN (mX mTb mTr xb xg xk i)) (by simp [mX, c151]) ?_
           exact hJ164   ls (lv_sub hl [1, 2, 3, 4, 0, 5, 6, 7, 8] rfl)
          ·refine lv_iload hx hb dX11_weight_154 (lv_at hl 8 rfl) ?_
           refine lv_iload_n hx hb dX11_weight_156 rfl (lv_at hl 4 rfl) ?_
           refine goSl (T := lN (pw (mTn mTb mTr xb i) xk)) (va_runS (As := [.int (nI (mTn mTb mTr xb i)), .int (nI xk)]) (rest := [.long (lN (((fo (mWF mTb mTr hab sp tu kn xb xg xk) 1 i) * (mC hab kn xb i)) * (spu (mTn mTb mTr xb i) (sp i) (tu i))))]) ⟨hx, hb, hml, hown, hts⟩ (k_X11_power l g (mTn mTb mTr xb i) xk (Nat.lt_of_le_of_lt (mTn_lt htb htr _ _) (by decide)) (by first | assumption | exact Nat.zero_le _ | omega)) (va_cwS 2 hts gX11_weight_X11_power rfl rfl rfl hdX11_power ⟨Nat.le_of_ble_eq_true rfl, Nat.le_of_ble_eq_true rfl⟩) (preSS hC (hP.sub [] rfl)) rfl rfl hl.1 rfl (lv_room (Nat.le_of_ble_eq_true rfl)) dX11_weight_157 ⟨Nat.le_of_ble_eq_true rfl, Nat.le_of_ble_eq_true rfl⟩) ?_
           refine lv_goto (tgt := 164) hx hb dX11_weight_160 (by decide) ?_
           refine top_l (y := lN (mX mTb mTr xb xg xk i)) (by simp [mX, c151]) ?_
           exact hJ164   ls (lv_sub hl [1, 2, 3, 4, 0, 5, 6, 7, 8] rfl)
         refine lv_iload hx hb dX11_weight_104 (lv_at hl 7 rfl) ?_
         refine lv_if_eq (tgt := 129) hx hb dX11_weight_106 (by decide) (fun c106 => ?_) (fun c106 => ?_)
         ·have c106 := zI_f.mp c106
          refine lv_lconst (v := lN 0) hx hb dX11_weight_129 (by decide) ?_
          refine top_l (y := lN (mC hab kn xb i)) (by first | simp [mC, c106, c111] | simp [mC, c106]) ?_
          exact hJ130   ls (lv_sub hl [0, 1, 2, 3, 4, 5, 6, 7, 8] rfl)
         ·have c106 := zI_t.mp c106
          refine lv_iload hx hb dX11_weight_109 (lv_at hl 6 rfl) ?_
          refine lv_if_eq (tgt := 125) hx hb dX11_weight_111 (by decide) (fun c111 => ?_) (fun c111 => ?_)
          ·have c111 := zI_f.mp c111
           refine lv_lconst (v := lN 1) hx hb dX11_weight_125 (by decide) ?_
           refine lv_goto (tgt := 130) hx hb dX11_weight_126 (by decide) ?_
           refine top_l (y := lN (mC hab kn xb i)) (by first | simp [mC, c106, c111] | simp [mC, c106]) ?_
           exact hJ130   ls (lv_sub hl [0, 1, 2, 3, 4, 5, 6, 7, 8] rfl)
          ·have c111 := zI_t.mp c111
           refine lv_aload_n hx hb dX11_weight_114 rfl (lv_at hl 0 rfl) ?_
           refine va_get (D := g.1) (ci := 11) (v := .ref aHab) (C := RX11) (T := TX11) (N := 32) hx hb hts hinX11 hown hC.1 hP 0 rfl rfl 6 (by decide) f7 (fun _ h9 => h9) rfl dX11_weight_115 ?_
           refine lv_iload hx hb dX11_weight_118 (lv_at hl 5 rfl) ?_
           refine ald_i (f := fun j => nI (hab j)) (j := i) hx hb hC hP 1 rfl (by omega) (by decide) dX11_weight_120 ?_
           refine lv_i2l (v := lN (hab i)) hx hb dX11_weight_121 (nI_l (by have := hha i; omega)) ?_
           refine lv_goto (tgt := 130) hx hb dX11_weight_122 (by decide) ?_
           refine top_l (y := lN (mC hab kn xb i)) (by first | simp [mC, c106, c111] | simp [mC, c106]) ?_
           exact hJ130   ls (lv_sub hl [0, 1, 2, 3, 4, 5, 6, 7, 8] rfl)
        refine lv_iload hx hb dX11_weight_84 (lv_at hl 6 rfl) ?_
        refine lv_if_eq (tgt := 96) hx hb dX11_weight_86 (by decide) (fun c86 => ?_) (fun c86 => ?_)
        ·have c86 := zI_f.mp c86
         refine lv_aload_n hx hb dX11_weight_96 rfl (lv_at hl 0 rfl) ?_
         refine va_get (D := g.1) (ci := 11) (v := .int (nI mTr)) (C := RX11) (T := TX11) (N := 32) hx hb hts hinX11 hown hC.1 hP 0 rfl rfl 4 (by decide) f80 (fun _ h9 => h9) rfl dX11_weight_97 ?_
         refine lv_istore (lv' := [(9, .int (nI mTr)), (0, .ref mo), (1, .int (nI xb)), (2, .int xg), (3, .int (nI xk)), (4, .long (lN (fo (mWF mTb mTr hab sp tu kn xb xg xk) 1 i))), (6, .int (nI i)), (7, .int (zI (xb.testBit i))), (8, .int (zI (mCd kn xb i)))]) hx hb dX11_weight_100 hl (by decide) rfl (fun ls hl => ?_)
         have hl : lv_has ls 10 [(9, .int (nI (mTn mTb mTr xb i))), (0, .ref mo), (1, .int (nI xb)), (2, .int xg), (3, .int (nI xk)), (4, .long (lN (fo (mWF mTb mTr hab sp tu kn xb xg xk) 1 i))), (6, .int (nI i)), (7, .int (zI (xb.testBit i))), (8, .int (zI (mCd kn xb i)))] := lv_val hl 0 rfl (congrArg Value.int (show nI mTr = nI (mTn mTb mTr xb i) from by simp [mTn, c86]))
         exact hJ102   ls (lv_sub hl [1, 2, 3, 4, 5, 6, 7, 8, 0] rfl)
        ·have c86 := zI_t.mp c86
         refine lv_aload_n hx hb dX11_weight_89 rfl (lv_at hl 0 rfl) ?_
         refine va_get (D := g.1) (ci := 11) (v := .int (nI mTb)) (C := RX11) (T := TX11) (N := 32) hx hb hts hinX11 hown hC.1 hP 0 rfl rfl 3 (by decide) f77 (fun _ h9 => h9) rfl dX11_weight_90 ?_
         refine lv_goto (tgt := 100) hx hb dX11_weight_93 (by decide) ?_
         refine lv_istore (lv' := [(9, .int (nI mTb)), (0, .ref mo), (1, .int (nI xb)), (2, .int xg), (3, .int (nI xk)), (4, .long (lN (fo (mWF mTb mTr hab sp tu kn xb xg xk) 1 i))), (6, .int (nI i)), (7, .int (zI (xb.testBit i))), (8, .int (zI (mCd kn xb i)))]) hx hb dX11_weight_100 hl (by decide) rfl (fun ls hl => ?_)
         have hl : lv_has ls 10 [(9, .int (nI (mTn mTb mTr xb i))), (0, .ref mo), (1, .int (nI xb)), (2, .int xg), (3, .int (nI xk)), (4, .long (lN (fo (mWF mTb mTr hab sp tu kn xb xg xk) 1 i))), (6, .int (nI i)), (7, .int (zI (xb.testBit i))), (8, .int (zI (mCd kn xb i)))] := lv_val hl 0 rfl (congrArg Value.int (show nI mTb = nI (mTn mTb mTr xb i) from by simp [mTn, c86]))
         exact hJ102   ls (lv_sub hl [1, 2, 3, 4, 5, 6, 7, 8, 0] rfl)
       refine lv_iload_n hx hb dX11_weight_38 rfl (lv_at hl 1 rfl) ?_
       refine lv_iload hx hb dX11_weight_39 (lv_at hl 5 rfl) ?_
       refine goSi (T := zI (xb.testBit i)) (va_runS (As := [.int (nI xb), .int (nI i)]) (rest := []) ⟨hx, hb, hml, hown, hts⟩ (k_X11_has l g xb i (by first | assumption | exact Nat.zero_le _ | omega) (by first | assumption | exact Nat.zero_le _ | omega)) (va_cwS 2 hts gX11_weight_X11_has rfl rfl rfl hdX11_has ⟨Nat.le_of_ble_eq_true rfl, Nat.le_of_ble_eq_true rfl⟩) (preSS hC (hP.sub [] rfl)) rfl rfl hl.1 rfl (lv_room (Nat.le_of_ble_eq_true rfl)) dX11_weight_41 ⟨Nat.le_of_ble_eq_true rfl, Nat.le_of_ble_eq_true rfl⟩) ?_
       refine lv_istore (lv' := [(7, .int (zI (xb.testBit i))), (0, .ref mo), (1, .int (nI xb)), (2, .int xg), (3, .int (nI xk)), (4, .long (lN (fo (mWF mTb mTr hab sp tu kn xb xg xk) 1 i))), (6, .int (nI i))]) hx hb dX11_weight_44 hl (by decide) rfl (fun ls hl => ?_)
       refine lv_aload_n hx hb dX11_weight_46 rfl (lv_at hl 1 rfl) ?_
       refine va_get (D := g.1) (ci := 11) (v := .ref aKn) (C := RX11) (T := TX11) (N := 32) hx hb hts hinX11 hown hC.1 hP 0 rfl rfl 11 (by decide) f19 (fun _ h9 => h9) rfl dX11_weight_47 ?_
       refine lv_iload hx hb dX11_weight_50 (lv_at hl 6 rfl) ?_
       refine ald_i (f := kn) (j := i) hx hb hC hP 4 rfl (by omega) (by decide) dX11_weight_52 ?_
       refine lv_iconst (v := (-1)) hx hb dX11_weight_53 (by decide) ?_
       refine lv_icmp_eq (tgt := 77) hx hb dX11_weight_54 (by decide) (fun c54 => ?_) (fun c54 => ?_)
       ·refine lv_iconst (v := nI 1) hx hb dX11_weight_77 (by decide) ?_
        refine lv_goto (tgt := 82) hx hb dX11_weight_78 (by decide) ?_
        refine lv_istore (lv' := [(8, .int (nI 1)), (7, .int (zI (xb.testBit i))), (0, .ref mo), (1, .int (nI xb)), (2, .int xg), (3, .int (nI xk)), (4, .long (lN (fo (mWF mTb mTr hab sp tu kn xb xg xk) 1 i))), (6, .int (nI i))]) hx hb dX11_weight_82 hl (by decide) rfl (fun ls hl => ?_)
        have hl : lv_has ls 10 [(8, .int (zI (mCd kn xb i))), (7, .int (zI (xb.testBit i))), (0, .ref mo), (1, .int (nI xb)), (2, .int xg), (3, .int (nI xk)), (4, .long (lN (fo (mWF mTb mTr hab sp tu kn xb xg xk) 1 i))), (6, .int (nI i))] := lv_val hl 0 rfl (congrArg Value.int (show nI 1 = zI (mCd kn xb i) from by first | exact zI_1 (decide_eq_true (Or.inl c54)) | exact zI_1 (decide_eq_true (Or.inr (by rw [c66]; exact c74))) | exact zI_0 (decide_eq_false (fun h9 => h9.elim c54 (fun h9 => c74 (by rw [c66] at h9; exact h9))))))
        exact hJ84   ls (lv_sub hl [2, 3, 4, 5, 6, 7, 1, 0] rfl)
       ·refine lv_aload_n hx hb dX11_weight_57 rfl (lv_at hl 1 rfl) ?_
        refine va_get (D := g.1) (ci := 11) (v := .ref aKn) (C := RX11) (T := TX11) (N := 32) hx hb hts hinX11 hown hC.1 hP 0 rfl rfl 11 (by decide) f19 (fun _ h9 => h9) rfl dX11_weight_58 ?_
        refine lv_iload hx hb dX11_weight_61 (lv_at hl 6 rfl) ?_
        refine ald_i (f := kn) (j := i) hx hb hC hP 4 rfl (by omega) (by decide) dX11_weight_63 ?_
        refine lv_iload hx hb dX11_weight_64 (lv_at hl 0 rfl) ?_
        refine lv_if_eq (tgt := 73) hx hb dX11_weight_66 (by decide) (fun c66 => ?_) (fun c66 => ?_)
        ·have c66 := zI_f.mp c66
         refine lv_iconst (v := nI 0) hx hb dX11_weight_73 (by decide) ?_
         refine lv_icmp_ne (tgt := 81) hx hb dX11_weight_74 (by decide) (fun c74 => ?_) (fun c74 => ?_)
         ·refine lv_iconst (v := nI 0) hx hb dX11_weight_81 (by decide) ?_
          refine lv_istore (lv' := [(8, .int (nI 0)), (7, .int (zI (xb.testBit i))), (0, .ref mo), (1, .int (nI xb)), (2, .int xg), (3, .int (nI xk)), (4, .long (lN (fo (mWF mTb mTr hab sp tu kn xb xg xk) 1 i))), (6, .int (nI i))]) hx hb dX11_weight_82 hl (by decide) rfl (fun ls hl => ?_)
          have hl : lv_has ls 10 [(8, .int (zI (mCd kn xb i))), (7, .int (zI (xb.testBit i))), (0, .ref mo), (1, .int (nI xb)), (2, .int xg), (3, .int (nI xk)), (4, .long (lN (fo (mWF mTb mTr hab sp tu kn xb xg xk) 1 i))), (6, .int (nI i))] := lv_val hl 0 rfl (congrArg Value.int (show nI 0 = zI (mCd kn xb i) from by first | exact zI_1 (decide_eq_true (Or.inl c54)) | exact zI_1 (decide_eq_true (Or.inr (by rw [c66]; exact c74))) | exact zI_0 (decide_eq_false (fun h9 => h9.elim c54 (fun h9 => c74 (by rw [c66] at h9; exact h9))))))
          exact hJ84   ls (lv_sub hl [2, 3, 4, 5, 6, 7, 1, 0] rfl)
         ·refine lv_iconst (v := nI 1) hx hb dX11_weight_77 (by decide) ?_
          refine lv_goto (tgt := 82) hx hb dX11_weight_78 (by decide) ?_
          refine lv_istore (lv' := [(8, .int (nI 1)), (7, .int (zI (xb.testBit i))), (0, .ref mo), (1, .int (nI xb)), (2, .int xg), (3, .int (nI xk)), (4, .long (lN (fo (mWF mTb mTr hab sp tu kn xb xg xk) 1 i))), (6, .int (nI i))]) hx hb dX11_weight_82 hl (by decide) rfl (fun ls hl => ?_)
          have hl : lv_has ls 10 [(8, .int (zI (mCd kn xb i))), (7, .int (zI (xb.testBit i))), (0, .ref mo), (1, .int (nI xb)), (2, .int xg), (3, .int (nI xk)), (4, .long (lN (fo (mWF mTb mTr hab sp tu kn xb xg xk) 1 i))), (6, .int (nI i))] := lv_val hl 0 rfl (congrArg Value.int (show nI 1 = zI (mCd kn xb i) from by first | exact zI_1 (decide_eq_true (Or.inl c54)) | exact zI_1 (decide_eq_true (Or.inr (by rw [c66]; exact c74))) | exact zI_0 (decide_eq_false (fun h9 => h9.elim c54 (fun h9 => c74 (by rw [c66] at h9; exact h9))))))
          exact hJ84   ls (lv_sub hl [2, 3, 4, 5, 6, 7, 1, 0] rfl)
        ·have c66 := zI_t.mp c66
         refine lv_iconst (v := nI 1) hx hb dX11_weight_69 (by decide) ?_
         refine lv_goto (tgt := 74) hx hb dX11_weight_70 (by decide) ?_
         refine lv_icmp_ne (tgt := 81) hx hb dX11_weight_74 (by decide) (fun c74 => ?_) (fun c74 => ?_)
         ·refine lv_iconst (v := nI 0) hx hb dX11_weight_81 (by decide) ?_
          refine lv_istore (lv' := [(8, .int (nI 0)), (7, .int (zI (xb.testBit i))), (0, .ref mo), (1, .int (nI xb)), (2, .int xg), (3, .int (nI xk)), (4, .long (lN (fo (mWF mTb mTr hab sp tu kn xb xg xk) 1 i))), (6, .int (nI i))]) hx hb dX11_weight_82 hl (by decide) rfl (fun ls hl => ?_)
          have hl : lv_has ls 10 [(8, .int (zI (mCd kn xb i))), (7, .int (zI (xb.testBit i))), (0, .ref mo), (1, .int (nI xb)), (2, .int xg), (3, .int (nI xk)), (4, .long (lN (fo (mWF mTb mTr hab sp tu kn xb xg xk) 1 i))), (6, .int (nI i))] := lv_val hl 0 rfl (congrArg Value.int (show nI 0 = zI (mCd kn xb i) from by first | exact zI_1 (decide_eq_true (Or.inl c54)) | exact zI_1 (decide_eq_true (Or.inr (by rw [c66]; exact c74))) | exact zI_0 (decide_eq_false (fun h9 => h9.elim c54 (fun h9 => c74 (by rw [c66] at h9; exact h9))))))
          exact hJ84   ls (lv_sub hl [2, 3, 4, 5, 6, 7, 1, 0] rfl)
         ·refine lv_iconst (v := nI 1) hx hb dX11_weight_77 (by decide) ?_
          refine lv_goto (tgt := 82) hx hb dX11_weight_78 (by decide) ?_
          refine lv_istore (lv' := [(8, .int (nI 1)), (7, .int (zI (xb.testBit i))), (0, .ref mo), (1, .int (nI xb)), (2, .int xg), (3, .int (nI xk)), (4, .long (lN (fo (mWF mTb mTr hab sp tu kn xb xg xk) 1 i))), (6, .int (nI i))]) hx hb dX11_weight_82 hl (by decide) rfl (fun ls hl => ?_)
          have hl : lv_has ls 10 [(8, .int (zI (mCd kn xb i))), (7, .int (zI (xb.testBit i))), (0, .ref mo), (1, .int (nI xb)), (2, .int xg), (3, .int (nI xk)), (4, .long (lN (fo (mWF mTb mTr hab sp tu kn xb xg xk) 1 i))), (6, .int (nI i))] := lv_val hl 0 rfl (congrArg Value.int (show nI 1 = zI (mCd kn xb i) from by first | exact zI_1 (decide_eq_true (Or.inl c54)) | exact zI_1 (decide_eq_true (Or.inr (by rw [c66]; exact c74))) | exact zI_0 (decide_eq_false (fun h9 => h9.elim c54 (fun h9 => c74 (by rw [c66] at h9; exact h9))))))
          exact hJ84   ls (lv_sub hl [2, 3, 4, 5, 6, 7, 1, 0] rfl)
    exact hL29 _ 0 (Nat.lt_succ_self _) (by first | assumption | exact Nat.zero_le _ | omega) ls (lv_sub hl [2, 3, 4, 5, 1, 0] rfl)
   ·have c18 : ¬ xb < (2 ^ mE) := fun h9 => c18 ((nI_ltI (a := xb) (b := 2 ^ mE) (by omega) (by omega)).mpr h9)
    refine lv_lconst (v := lN 0) hx hb dX11_weight_21 (by decide) ?_
    exact retSl hx hb hr hlocks (by rw [mW, if_neg (by omega)]) dX11_weight_22

set_option maxHeartbeats 4000000 in
set_option maxRecDepth 100000 in
/-- BoiledEggsModel.total  -/
theorem k_X11_total (l : Launch) (g : GG) (mo : Nat) (mE : Nat) (mKi : Nat) (mB : Nat) (mTb : Nat) (mTr : Nat) (mFa : Nat) (aHab : Nat) (mIb : Nat) (mS : Nat) (aSp : Nat) (aTu : Nat) (aKn : Nat) (mT : Nat) (aKd : Nat) (mAs : Nat) (mPl : Nat) (aPg : Nat) (aWo : Nat) (aWs : Nat) (aMe : Nat) (mBf : Int32) (aBw : Nat) (mSd : Int64) (mIk : Int32) (mKk : Nat) (mKb : Nat) (mKs : Nat) (mKt : Nat) (aKsp : Nat) (aKtu : Nat) (aKkn : Nat) (mH : Int64) (hab : Nat → Nat) (sp : Nat → Nat) (tu : Nat → Nat) (kn : Nat → Int32) (xg : Int32) (xk : Nat) (hok : wOK mE mTb mTr hab sp tu) (hB0 : mB < 1000) (hk0 : xk < 1000) : Met l yX11_total wsX11_total ({ frames := 3, cells := 0, slots := 0, locals := 75 }) (pS g [.ref mo, .int xg, .int (nI xk)] [(mo, .inr (11, [.int (nI mE), .int (nI mKi), .int (nI mB), .int (nI mTb), .int (nI mTr), .int (nI mFa), .ref aHab, .int (nI mIb), .int (nI mS), .ref aSp, .ref aTu, .ref aKn, .int (nI mT), .ref aKd, .int (nI mAs), .int (nI mPl), .ref aPg, .ref aWo, .ref aWs, .ref aMe, .int mBf, .ref aBw, .long mSd, .int mIk, .int (nI mKk), .int (nI mKb), .int (nI mKs), .int (nI mKt), .ref aKsp, .ref aKtu, .ref aKkn, .long mH])), (aHab, .inl (g.2.1, 6, .inl (fun j => nI (hab j)))), (aSp, .inl (g.2.1, 6, .inl (fun j => nI (sp j)))), (aTu, .inl (g.2.1, 6, .inl (fun j => nI (tu j)))), (aKn, .inl (g.2.1, 6, .inl kn))]) (vp_Sl (fun r => r = (lN (tot (mW mE mB mTb mTr hab sp tu kn) mE xg xk)))) 0 0 noF := by
  refine metS (cc := cX11_total) (maxL := 6) (ret := (some .long)) (by decide) rfl (Nat.le_of_ble_eq_true rfl) ?_
  intro p e s m below meth c hx hb hr hts hown hlocks hml hC hP ls hl
  have hl : lv_has ls 6 [(0, .ref mo), (1, .int xg), (2, .int (nI xk))] := hl
  have hown : s.vm.findClass RX11 = some m.cls := hown
  have hts : ∀ w ∈ wsX11_total, w.before ([.ref mo, .int xg, .int (nI xk)] : List Value).toArray s = true := hts
  obtain ⟨hE, htb, htr, htu, hsp, hha⟩ := id hok
  have h2E := p2le hE
  have hinX11 := (by decide +kernel : ∀ w ∈ u_ws RX11 TX11 32, w ∈ wsX11_total)
  have f71 := hts (.fieldLink RX11 71 "BoiledEggsModel" "eggs" "I") (by decide +kernel)
  refine lv_lconst (v := lN 0) hx hb dX11_total_0 (by decide) ?_
  refine lv_lstore_n (lv' := [(3, .long (lN 0)), (0, .ref mo), (1, .int xg), (2, .int (nI xk))]) hx hb dX11_total_1 rfl hl (by decide) rfl (fun ls hl => ?_)
  refine lv_iconst (v := nI 0) hx hb dX11_total_2 (by decide) ?_
  refine lv_istore (lv' := [(5, .int (nI 0)), (3, .long (lN 0)), (0, .ref mo), (1, .int xg), (2, .int (nI xk))]) hx hb dX11_total_3 hl (by decide) rfl (fun ls hl => ?_)
  have hL5 : ∀ (n_9 : Nat) (i : Nat), 2 ^ mE - i < n_9 → (i ≤ 2 ^ mE) → ∀ ls : Array Slot, lv_has ls 6 [(0, .ref mo), (1, .int xg), (2, .int (nI xk)), (3, .long (lN (fo (fun a b => a + (mW mE mB mTb mTr hab sp tu kn) b xg xk) 0 i))), (5, .int (nI i))] → W p l e ({ frames := 3, cells := 0, slots := 0, locals := 75 }) s m ([.ref mo, .int xg, .int (nI xk)] : List Value).toArray below meth c s.heap [] 0 0 (MQ below (vp_Sl (fun r => r = (lN (tot (mW mE mB mTb mTr hab sp tu kn) mE xg xk)))) ([.ref mo, .int xg, .int (nI xk)] : List Value).toArray s 0 0 noF) (F0 m 5 ls []) := by
   intro n_9
   induction n_9 with
   | zero => intro i hn_9; exact absurd hn_9 (Nat.not_lt_zero _)
   | succ n_9 ih5 =>
    intro i hn_9 hi ls hl
    refine lv_iload hx hb dX11_total_5 (lv_at hl 4 rfl) ?_
    refine lv_iconst (v := nI 1) hx hb dX11_total_7 (by decide) ?_
    refine lv_aload_n hx hb dX11_total_8 rfl (lv_at hl 0 rfl) ?_
    refine va_get (D := g.1) (ci := 11) (v := .int (nI mE)) (C := RX11) (T := TX11) (N := 32) hx hb hts hinX11 hown hC.1 hP 0 rfl rfl 0 (by decide) f71 (fun _ h9 => h9) rfl dX11_total_9 ?_
    refine lv_ishl hx hb dX11_total_12 ?_
    refine top_i (y := nI (2 ^ mE)) (shl1_nI (by omega)) ?_
    refine lv_icmp_ge (tgt := 33) hx hb dX11_total_13 (by decide) (fun c13 => ?_) (fun c13 => ?_)
    ·have c13 : (2 ^ mE) ≤ i := (nI_leI (a := 2 ^ mE) (b := i) (by omega) (by omega)).mp c13
     refine lv_lload_n hx hb dX11_total_33 rfl (lv_at hl 3 rfl) ?_
     exact retSl hx hb hr hlocks (by have h9 : i = 2 ^ mE := (by omega); rw [tot, h9]) dX11_total_34
    ·have c13 : ¬ (2 ^ mE) ≤ i := fun h9 => c13 ((nI_leI (a := 2 ^ mE) (b := i) (by omega) (by omega)).mpr h9)
     refine lv_lload_n hx hb dX11_total_16 rfl (lv_at hl 3 rfl) ?_
     refine lv_aload_n hx hb dX11_total_17 rfl (lv_at hl 0 rfl) ?_
     refine lv_iload hx hb dX11_total_18 (lv_at hl 4 rfl) ?_
     refine lv_iload_n hx hb dX11_total_20 rfl (lv_at hl 1 rfl) ?_
     refine lv_iload_n hx hb dX11_total_21 rfl (lv_at hl 2 rfl) ?_
     refine goSl (T := lN ((mW mE mB mTb mTr hab sp tu kn) i xg xk)) (va_runV (As := [.int (nI i), .int xg, .int (nI xk)]) (rest := [.long (lN (fo (fun a b => a + (mW mE mB mTb mTr hab sp tu kn) b xg xk) 0 i))]) ⟨hx, hb, hml, hown, hts⟩ (k_X11_weight l g mo mE mKi mB mTb mTr mFa aHab mIb mS aSp aTu aKn mT aKd mAs mPl aPg aWo aWs aMe mBf aBw mSd mIk mKk mKb mKs mKt aKsp aKtu aKkn mH hab sp tu kn i xg xk (by first | assumption | exact Nat.zero_le _ | omega) (by first | assumption | exact Nat.zero_le _ | omega) (by first | assumption | exact Nat.zero_le _ | omega) (by first | assumption | exact Nat.zero_le _ | omega)) (cwV 3 hts gX11_total_X11_weight rfl rfl rfl ⟨rfl, hdX11_weight⟩ ⟨Nat.le_of_ble_eq_true rfl, Nat.le_of_ble_eq_true rfl⟩) (preVS hC (hP.sub [0, 1, 2, 3, 4] rfl) (va_recv hC.1 hP (ci := 11) (q0 := 0) rfl rfl)) rfl rfl hl.1 rfl (lv_room (Nat.le_of_ble_eq_true rfl)) dX11_total_22 ⟨Nat.le_of_ble_eq_true rfl, Nat.le_of_ble_eq_true rfl⟩) ?_
     refine lv_ladd hx hb dX11_total_25 ?_
     refine top_l (y := lN ((fo (fun a b => a + (mW mE mB mTb mTr hab sp tu kn) b xg xk) 0 i) + ((mW mE mB mTb mTr hab sp tu kn) i xg xk))) (lN_add _ _) ?_
     refine lv_lstore_n (lv' := [(3, .long (lN ((fo (fun a b => a + (mW mE mB mTb mTr hab sp tu kn) b xg xk) 0 i) + ((mW mE mB mTb mTr hab sp tu kn) i xg xk)))), (0, .ref mo), (1, .int xg), (2, .int (nI xk)), (5, .int (nI i))]) hx hb dX11_total_26 rfl hl (by decide) rfl (fun ls hl => ?_)
     refine lv_iinc (v := nI (i + 1)) (lv' := [(5, .int (nI (i + 1))), (3, .long (lN ((fo (fun a b => a + (mW mE mB mTb mTr hab sp tu kn) b xg xk) 0 i) + ((mW mE mB mTb mTr hab sp tu kn) i xg xk)))), (0, .ref mo), (1, .int xg), (2, .int (nI xk))]) hx hb dX11_total_27 hl (k := 4) rfl (iinc1 _) (by decide) rfl (fun ls hl => ?_)
     refine lv_goto (tgt := 5) hx hb dX11_total_30 (by decide) ?_
     exact ih5 (i + 1) (by omega) (by first | assumption | exact Nat.zero_le _ | omega) ls (lv_sub hl [2, 3, 4, 1, 0] rfl)
  exact hL5 _ 0 (Nat.lt_succ_self _) (by first | assumption | exact Nat.zero_le _ | omega) ls (lv_sub hl [2, 3, 4, 1, 0] rfl)

set_option maxHeartbeats 4000000 in
set_option maxRecDepth 100000 in
/-- BoiledEggsModel.boiledWeight  -/
theorem k_X11_boiledWeight (l : Launch) (g : GG) (mo : Nat) (mE : Nat) (mKi : Nat) (mB : Nat) (mTb : Nat) (mTr : Nat) (mFa : Nat) (aHab : Nat) (mIb : Nat) (mS : Nat) (aSp : Nat) (aTu : Nat) (aKn : Nat) (mT : Nat) (aKd : Nat) (mAs : Nat) (mPl : Nat) (aPg : Nat) (aWo : Nat) (aWs : Nat) (aMe : Nat) (mBf : Int32) (aBw : Nat) (mSd : Int64) (mIk : Int32) (mKk : Nat) (mKb : Nat) (mKs : Nat) (mKt : Nat) (aKsp : Nat) (aKtu : Nat) (aKkn : Nat) (mH : Int64) (hab : Nat → Nat) (sp : Nat → Nat) (tu : Nat → Nat) (kn : Nat → Int32) (xe : Nat) (xk : Nat) (hok : wOK mE mTb mTr hab sp tu) (hB0 : mB < 1000) (hk0 : xk < 1000) (he0 : xe < 31) : Met l yX11_boiledWeight wsX11_boiledWeight ({ frames := 3, cells := 0, slots := 0, locals := 75 }) (pS g [.ref mo, .int (nI xe), .int (nI xk)] [(mo, .inr (11, [.int (nI mE), .int (nI mKi), .int (nI mB), .int (nI mTb), .int (nI mTr), .int (nI mFa), .ref aHab, .int (nI mIb), .int (nI mS), .ref aSp, .ref aTu, .ref aKn, .int (nI mT), .ref aKd, .int (nI mAs), .int (nI mPl), .ref aPg, .ref aWo, .ref aWs, .ref aMe, .int mBf, .ref aBw, .long mSd, .int mIk, .int (nI mKk), .int (nI mKb), .int (nI mKs), .int (nI mKt), .ref aKsp, .ref aKtu, .ref aKkn, .long mH])), (aHab, .inl (g.2.1, 6, .inl (fun j => nI (hab j)))), (aSp, .inl (g.2.1, 6, .inl (fun j => nI (sp j)))), (aTu, .inl (g.2.1, 6, .inl (fun j => nI (tu j)))), (aKn, .inl (g.2.1, 6, .inl kn))]) (vp_Sl (fun r => r = (lN (bwt (mW mE mB mTb mTr hab sp tu kn) mE xe xk)))) 0 0 noF := by
  refine metS (cc := cX11_boiledWeight) (maxL := 6) (ret := (some .long)) (by decide) rfl (Nat.le_of_ble_eq_true rfl) ?_
  intro p e s m below meth c hx hb hr hts hown hlocks hml hC hP ls hl
  have hl : lv_has ls 6 [(0, .ref mo), (1, .int (nI xe)), (2, .int (nI xk))] := hl
  have hown : s.vm.findClass RX11 = some m.cls := hown
  have hts : ∀ w ∈ wsX11_boiledWeight, w.before ([.ref mo, .int (nI xe), .int (nI xk)] : List Value).toArray s = true := hts
  obtain ⟨hE, htb, htr, htu, hsp, hha⟩ := id hok
  have h2E := p2le hE
  have hinX11 := (by decide +kernel : ∀ w ∈ u_ws RX11 TX11 32, w ∈ wsX11_boiledWeight)
  have f71 := hts (.fieldLink RX11 71 "BoiledEggsModel" "eggs" "I") (by decide +kernel)
  refine lv_lconst (v := lN 0) hx hb dX11_boiledWeight_0 (by decide) ?_
  refine lv_lstore_n (lv' := [(3, .long (lN 0)), (0, .ref mo), (1, .int (nI xe)), (2, .int (nI xk))]) hx hb dX11_boiledWeight_1 rfl hl (by decide) rfl (fun ls hl => ?_)
  refine lv_iconst (v := nI 0) hx hb dX11_boiledWeight_2 (by decide) ?_
  refine lv_istore (lv' := [(5, .int (nI 0)), (3, .long (lN 0)), (0, .ref mo), (1, .int (nI xe)), (2, .int (nI xk))]) hx hb dX11_boiledWeight_3 hl (by decide) rfl (fun ls hl => ?_)
  have hL5 : ∀ (n_9 : Nat) (i : Nat), 2 ^ mE - i < n_9 → (i ≤ 2 ^ mE) → ∀ ls : Array Slot, lv_has ls 6 [(0, .ref mo), (1, .int (nI xe)), (2, .int (nI xk)), (3, .long (lN (fo (fun a b => a + (if b.testBit xe then (mW mE mB mTb mTr hab sp tu kn) b (nI xe) xk else 0)) 0 i))), (5, .int (nI i))] → W p l e ({ frames := 3, cells := 0, slots := 0, locals := 75 }) s m ([.ref mo, .int (nI xe), .int (nI xk)] : List Value).toArray below meth c s.heap [] 0 0 (MQ below (vp_Sl (fun r => r = (lN (bwt (mW mE mB mTb mTr hab sp tu kn) mE xe xk)))) ([.ref mo, .int (nI xe), .int (nI xk)] : List Value).toArray s 0 0 noF) (F0 m 5 ls []) := by
   intro n_9
   induction n_9 with
   | zero => intro i hn_9; exact absurd hn_9 (Nat.not_lt_zero _)
   | succ n_9 ih5 =>
    intro i hn_9 hi ls hl
    refine lv_iload hx hb dX11_boiledWeight_5 (lv_at hl 4 rfl) ?_
    refine lv_iconst (v := nI 1) hx hb dX11_boiledWeight_7 (by decide) ?_
    refine lv_aload_n hx hb dX11_boiledWeight_8 rfl (lv_at hl 0 rfl) ?_
    refine va_get (D := g.1) (ci := 11) (v := .int (nI mE)) (C := RX11) (T := TX11) (N := 32) hx hb hts hinX11 hown hC.1 hP 0 rfl rfl 0 (by decide) f71 (fun _ h9 => h9) rfl dX11_boiledWeight_9 ?_
    refine lv_ishl hx hb dX11_boiledWeight_12 ?_
    refine top_i (y := nI (2 ^ mE)) (shl1_nI (by omega)) ?_
    refine lv_icmp_ge (tgt := 46) hx hb dX11_boiledWeight_13 (by decide) (fun c13 => ?_) (fun c13 => ?_)
    ·have c13 : (2 ^ mE) ≤ i := (nI_leI (a := 2 ^ mE) (b := i) (by omega) (by omega)).mp c13
     refine lv_lload_n hx hb dX11_boiledWeight_46 rfl (lv_at hl 3 rfl) ?_
     exact retSl hx hb hr hlocks (by have h9 : i = 2 ^ mE := (by omega); rw [bwt, h9]) dX11_boiledWeight_47
    ·have c13 : ¬ (2 ^ mE) ≤ i := fun h9 => c13 ((nI_leI (a := 2 ^ mE) (b := i) (by omega) (by omega)).mpr h9)
     refine lv_lload_n hx hb dX11_boiledWeight_16 rfl (lv_at hl 3 rfl) ?_
     have hJ38 : ∀ ls : Array Slot, lv_has ls 6 [(0, .ref mo), (1, .int (nI xe)), (2, .int (nI xk)), (3, .long (lN (fo (fun a b => a + (if b.testBit xe then (mW mE mB mTb mTr hab sp tu kn) b (nI xe) xk else 0)) 0 i))), (5, .int (nI i))] → W p l e ({ frames := 3, cells := 0, slots := 0, locals := 75 }) s m ([.ref mo, .int (nI xe), .int (nI xk)] : List Value).toArray below meth c s.heap [] 0 0 (MQ below (vp_Sl (fun r => r = (lN (bwt (mW mE mB mTb mTr hab sp tu kn) mE xe xk)))) ([.ref mo, .int (nI xe), .int (nI xk)] : List Value).toArray s 0 0 noF) (F0 m 38 ls [.long (lN (if i.testBit xe then (mW mE mB mTb mTr hab sp tu kn) i (nI xe) xk else 0)), .long (lN (fo (fun a b => a + (if b.testBit xe then (mW mE mB mTb mTr hab sp tu kn) b (nI xe) xk else 0)) 0 i))]) := by
      intro  ls hl
      refine lv_ladd hx hb dX11_boiledWeight_38 ?_
      refine top_l (y := lN ((fo (fun a b => a + (if b.testBit xe then (mW mE mB mTb mTr hab sp tu kn) b (nI xe) xk else 0)) 0 i) + (if i.testBit xe then (mW mE mB mTb mTr hab sp tu kn) i (nI xe) xk else 0))) (lN_add _ _) ?_
      refine lv_lstore_n (lv' := [(3, .long (lN ((fo (fun a b => a + (if b.testBit xe then (mW mE mB mTb mTr hab sp tu kn) b (nI xe) xk else 0)) 0 i) + (if i.testBit xe then (mW mE mB mTb mTr hab sp tu kn) i (nI xe) xk else 0)))), (0, .ref mo), (1, .int (nI xe)), (2, .int (nI xk)), (5, .int (nI i))]) hx hb dX11_boiledWeight_39 rfl hl (by decide) rfl (fun ls hl => ?_)
      refine lv_iinc (v := nI (i + 1)) (lv' := [(5, .int (nI (i + 1))), (3, .long (lN ((fo (fun a b => a + (if b.testBit xe then (mW mE mB mTb mTr hab sp tu kn) b (nI xe) xk else 0)) 0 i) + (if i.testBit xe then (mW mE mB mTb mTr hab sp tu kn) i (nI xe) xk else 0)))), (0, .ref mo), (1, .int (nI xe)), (2, .int (nI xk))]) hx hb dX11_boiledWeight_40 hl (k := 4) rfl (iinc1 _) (by decide) rfl (fun ls hl => ?_)
      refine lv_goto (tgt := 5) hx hb dX11_boiledWeight_43 (by decide) ?_
      exact ih5 (i + 1) (by omega) (by first | assumption | exact Nat.zero_le _ | omega) ls (lv_sub hl [2, 3, 4, 1, 0] rfl)
     refine lv_iload hx hb dX11_boiledWeight_17 (lv_at hl 4 rfl) ?_
     refine lv_iload_n hx hb dX11_boiledWeight_19 rfl (lv_at hl 1 rfl) ?_
     refine goSi (T := zI (i.testBit xe)) (va_runS (As := [.int (nI i), .int (nI xe)]) (rest := [.long (lN (fo (fun a b => a + (if b.testBit xe then (mW mE mB mTb mTr hab sp tu kn) b (nI xe) xk else 0)) 0 i))]) ⟨hx, hb, hml, hown, hts⟩ (k_X11_has l g i xe (by first | assumption | exact Nat.zero_le _ | omega) (by first | assumption | exact Nat.zero_le _ | omega)) (va_cwS 2 hts gX11_boiledWeight_X11_has rfl rfl rfl hdX11_has ⟨Nat.le_of_ble_eq_true rfl, Nat.le_of_ble_eq_true rfl⟩) (preSS hC (hP.sub [] rfl)) rfl rfl hl.1 rfl (lv_room (Nat.le_of_ble_eq_true rfl)) dX11_boiledWeight_20 ⟨Nat.le_of_ble_eq_true rfl, Nat.le_of_ble_eq_true rfl⟩) ?_
     refine lv_if_eq (tgt := 37) hx hb dX11_boiledWeight_23 (by decide) (fun c23 => ?_) (fun c23 => ?_)
     ·have c23 := zI_f.mp c23
      refine lv_lconst (v := lN 0) hx hb dX11_boiledWeight_37 (by decide) ?_
      refine top_l (y := lN (if i.testBit xe then (mW mE mB mTb mTr hab sp tu kn) i (nI xe) xk else 0)) (by simp [c23]) ?_
      exact hJ38   ls (lv_sub hl [0, 1, 2, 3, 4] rfl)
     ·have c23 := zI_t.mp c23
      refine lv_aload_n hx hb dX11_boiledWeight_26 rfl (lv_at hl 0 rfl) ?_
      refine lv_iload hx hb dX11_boiledWeight_27 (lv_at hl 4 rfl) ?_
      refine lv_iload_n hx hb dX11_boiledWeight_29 rfl (lv_at hl 1 rfl) ?_
      refine lv_iload_n hx hb dX11_boiledWeight_30 rfl (lv_at hl 2 rfl) ?_
      refine goSl (T := lN ((mW mE mB mTb mTr hab sp tu kn) i (nI xe) xk)) (va_runV (As := [.int (nI i), .int (nI xe), .int (nI xk)]) (rest := [.long (lN (fo (fun a b => a + (if b.testBit xe then (mW mE mB mTb mTr hab sp tu kn) b (nI xe) xk else 0)) 0 i))]) ⟨hx, hb, hml, hown, hts⟩ (k_X11_weight l g mo mE mKi mB mTb mTr mFa aHab mIb mS aSp aTu aKn mT aKd mAs mPl aPg aWo aWs aMe mBf aBw mSd mIk mKk mKb mKs mKt aKsp aKtu aKkn mH hab sp tu kn i (nI xe) xk (by first | assumption | exact Nat.zero_le _ | omega) (by first | assumption | exact Nat.zero_le _ | omega) (by first | assumption | exact Nat.zero_le _ | omega) (by first | assumption | exact Nat.zero_le _ | omega)) (cwV 3 hts gX11_boiledWeight_X11_weight rfl rfl rfl ⟨rfl, hdX11_weight⟩ ⟨Nat.le_of_ble_eq_true rfl, Nat.le_of_ble_eq_true rfl⟩) (preVS hC (hP.sub [0, 1, 2, 3, 4] rfl) (va_recv hC.1 hP (ci := 11) (q0 := 0) rfl rfl)) rfl rfl hl.1 rfl (lv_room (Nat.le_of_ble_eq_true rfl)) dX11_boiledWeight_31 ⟨Nat.le_of_ble_eq_true rfl, Nat.le_of_ble_eq_true rfl⟩) ?_
      refine lv_goto (tgt := 38) hx hb dX11_boiledWeight_34 (by decide) ?_
      refine top_l (y := lN (if i.testBit xe then (mW mE mB mTb mTr hab sp tu kn) i (nI xe) xk else 0)) (by simp [c23]) ?_
      exact hJ38   ls (lv_sub hl [0, 1, 2, 3, 4] rfl)
  exact hL5 _ 0 (Nat.lt_succ_self _) (by first | assumption | exact Nat.zero_le _ | omega) ls (lv_sub hl [2, 3, 4, 1, 0] rfl)

set_option maxHeartbeats 4000000 in
set_option maxRecDepth 100000 in
/-- BoiledEggsModel.lowest  -/
theorem k_X11_lowest (l : Launch) (g : GG) (xa : Nat) (xb : Nat) (xp : Int32) (ha0 : xa < 2 ^ 63) (hb0 : xb < 2 ^ 63) (hp0 : 0 < xb) : Met l yX11_lowest wsX11_lowest ({ frames := 0, cells := 0, slots := 0, locals := 0 }) (pS g [.long (lN xa), .long (lN xb), .int xp] []) (vp_Sl (fun r => r = (lN (low xa xb xp)))) 0 0 noF := by
  refine metS (cc := cX11_lowest) (maxL := 11) (ret := (some .long)) (by decide) rfl (Nat.le_of_ble_eq_true rfl) ?_
  intro p e s m below meth c hx hb hr hts hown hlocks hml hC hP ls hl
  have hl : lv_has ls 11 [(0, .long (lN xa)), (2, .long (lN xb)), (4, .int xp)] := hl
  have hown : s.vm.findClass RX11 = some m.cls := hown
  have hts : ∀ w ∈ wsX11_lowest, w.before ([.long (lN xa), .long (lN xb), .int xp] : List Value).toArray s = true := hts
  refine lv_lload_n hx hb dX11_lowest_0 rfl (lv_at hl 0 rfl) ?_
  refine lv_lstore (lv' := [(5, .long (lN xa)), (0, .long (lN xa)), (2, .long (lN xb)), (4, .int xp)]) hx hb dX11_lowest_1 hl (by decide) rfl (fun ls hl => ?_)
  refine lv_lload_n hx hb dX11_lowest_3 rfl (lv_at hl 2 rfl) ?_
  refine lv_lstore (lv' := [(7, .long (lN xb)), (5, .long (lN xa)), (0, .long (lN xa)), (2, .long (lN xb)), (4, .int xp)]) hx hb dX11_lowest_4 hl (by decide) rfl (fun ls hl => ?_)
  have hL6 : ∀ (n_9 : Nat) (u : Nat) (v : Nat), v < n_9 → (u < 2 ^ 63) → (v < 2 ^ 63) → (Nat.gcd u v = Nat.gcd xa xb) → (0 < u + v) → ∀ ls : Array Slot, lv_has ls 11 [(0, .long (lN xa)), (2, .long (lN xb)), (4, .int xp), (5, .long (lN u)), (7, .long (lN v))] → W p l e ({ frames := 0, cells := 0, slots := 0, locals := 0 }) s m ([.long (lN xa), .long (lN xb), .int xp] : List Value).toArray below meth c s.heap [] 0 0 (MQ below (vp_Sl (fun r => r = (lN (low xa xb xp)))) ([.long (lN xa), .long (lN xb), .int xp] : List Value).toArray s 0 0 noF) (F0 m 6 ls []) := by
   intro n_9
   induction n_9 with
   | zero => intro u v hn_9; exact absurd hn_9 (Nat.not_lt_zero _)
   | succ n_9 ih6 =>
    intro u v hn_9 hu hv hg hpos ls hl
    refine lv_lload hx hb dX11_lowest_6 (lv_at hl 4 rfl) ?_
    refine lv_lconst (v := lN 0) hx hb dX11_lowest_8 (by decide) ?_
    refine lc_eq (tgt := 31) hx hb dX11_lowest_9 dX11_lowest_10 (by decide) (fun c9 => ?_) (fun c9 => ?_)
    ·have c9 : v = 0 := (pk_lEQ (a := v) (b := 0) (by omega) (by omega)).mp c9
     refine lv_iload hx hb dX11_lowest_31 (lv_at hl 2 rfl) ?_
     refine lv_if_ne (tgt := 43) hx hb dX11_lowest_33 (by decide) (fun c33 => ?_) (fun c33 => ?_)
     ·refine lv_lload_n hx hb dX11_lowest_43 rfl (lv_at hl 1 rfl) ?_
      refine lv_lload hx hb dX11_lowest_44 (lv_at hl 3 rfl) ?_
      refine lv_ldiv hx hb dX11_lowest_46 (fun h9 => (show ¬ u = 0 by omega) ((pk_lEQ (by omega) (by decide)).mp h9)) ?_
      refine top_l (y := lN (xb / u)) (pk_lDiv hb0 (by omega) hu) ?_
      exact retSl hx hb hr hlocks (by have h9 : u = Nat.gcd xa xb := (by rw [← hg, c9, Nat.gcd_zero_right]); first | rw [low, if_pos c33, h9] | rw [low, if_neg c33, h9]) dX11_lowest_47
     ·refine lv_lload_n hx hb dX11_lowest_36 rfl (lv_at hl 0 rfl) ?_
      refine lv_lload hx hb dX11_lowest_37 (lv_at hl 3 rfl) ?_
      refine lv_ldiv hx hb dX11_lowest_39 (fun h9 => (show ¬ u = 0 by omega) ((pk_lEQ (by omega) (by decide)).mp h9)) ?_
      refine top_l (y := lN (xa / u)) (pk_lDiv ha0 (by omega) hu) ?_
      refine lv_goto (tgt := 47) hx hb dX11_lowest_40 (by decide) ?_
      exact retSl hx hb hr hlocks (by have h9 : u = Nat.gcd xa xb := (by rw [← hg, c9, Nat.gcd_zero_right]); first | rw [low, if_pos c33, h9] | rw [low, if_neg c33, h9]) dX11_lowest_47
    ·have c9 : ¬ v = 0 := fun h9 => c9 ((pk_lEQ (a := v) (b := 0) (by omega) (by omega)).mpr h9)
     refine lv_lload hx hb dX11_lowest_13 (lv_at hl 3 rfl) ?_
     refine lv_lload hx hb dX11_lowest_15 (lv_at hl 4 rfl) ?_
     refine lv_lrem hx hb dX11_lowest_17 (fun h9 => c9 ((pk_lEQ (by omega) (by decide)).mp h9)) ?_
     refine top_l (y := lN (u % v)) (pk_lRem hu (by omega) hv) ?_
     refine lv_lstore (lv' := [(9, .long (lN (u % v))), (0, .long (lN xa)), (2, .long (lN xb)), (4, .int xp), (5, .long (lN u)), (7, .long (lN v))]) hx hb dX11_lowest_18 hl (by decide) rfl (fun ls hl => ?_)
     refine lv_lload hx hb dX11_lowest_20 (lv_at hl 5 rfl) ?_
     refine lv_lstore (lv' := [(5, .long (lN v)), (9, .long (lN (u % v))), (0, .long (lN xa)), (2, .long (lN xb)), (4, .int xp), (7, .long (lN v))]) hx hb dX11_lowest_22 hl (by decide) rfl (fun ls hl => ?_)
     refine lv_lload hx hb dX11_lowest_24 (lv_at hl 1 rfl) ?_
     refine lv_lstore (lv' := [(7, .long (lN (u % v))), (5, .long (lN v)), (9, .long (lN (u % v))), (0, .long (lN xa)), (2, .long (lN xb)), (4, .int xp)]) hx hb dX11_lowest_26 hl (by decide) rfl (fun ls hl => ?_)
     refine lv_goto (tgt := 6) hx hb dX11_lowest_28 (by decide) ?_
     exact ih6 v (u % v) (by have := Nat.mod_lt u (show 0 < v by omega); omega) (hv) (Nat.lt_of_lt_of_le (Nat.mod_lt _ (by omega)) (by omega)) (by rw [← hg, Nat.gcd_comm u v, Nat.gcd_rec v u, Nat.gcd_comm]) (by omega) ls (lv_sub hl [3, 4, 5, 1, 0] rfl)
  exact hL6 _ xa xb (Nat.lt_succ_self _) (ha0) (hb0) (rfl) (by omega) ls (lv_sub hl [2, 3, 4, 1, 0] rfl)

set_option maxHeartbeats 4000000 in
set_option maxRecDepth 100000 in
/-- BoiledEggsModel.figure  -/
theorem k_X11_figure (l : Launch) (g : GG) (mo : Nat) (mE : Nat) (mKi : Nat) (mB : Nat) (mTb : Nat) (mTr : Nat) (mFa : Nat) (aHab : Nat) (mIb : Nat) (mS : Nat) (aSp : Nat) (aTu : Nat) (aKn : Nat) (mT : Nat) (aKd : Nat) (mAs : Nat) (mPl : Nat) (aPg : Nat) (aWo : Nat) (aWs : Nat) (aMe : Nat) (mBf : Int32) (aBw : Nat) (mSd : Int64) (mIk : Int32) (mKk : Nat) (mKb : Nat) (mKs : Nat) (mKt : Nat) (aKsp : Nat) (aKtu : Nat) (aKkn : Nat) (mH : Int64) (pg : Nat → Nat) (xk : Nat) (hk0 : xk < 14) (hg0 : 48 ≤ pg xk) : Met l yX11_figure wsX11_figure ({ frames := 0, cells := 0, slots := 0, locals := 0 }) (pS g [.ref mo, .int (nI xk)] [(mo, .inr (11, [.int (nI mE), .int (nI mKi), .int (nI mB), .int (nI mTb), .int (nI mTr), .int (nI mFa), .ref aHab, .int (nI mIb), .int (nI mS), .ref aSp, .ref aTu, .ref aKn, .int (nI mT), .ref aKd, .int (nI mAs), .int (nI mPl), .ref aPg, .ref aWo, .ref aWs, .ref aMe, .int mBf, .ref aBw, .long mSd, .int mIk, .int (nI mKk), .int (nI mKb), .int (nI mKs), .int (nI mKt), .ref aKsp, .ref aKtu, .ref aKkn, .long mH])), (aPg, .inl (g.2.2.2.1, 14, .inl (fun j => nI (pg j))))]) (vp_Si (fun r => r = (nI (pg xk - 48)))) 0 0 noF := by
  refine metS (cc := cX11_figure) (maxL := 2) (ret := (some .int)) (by decide) rfl (Nat.le_of_ble_eq_true rfl) ?_
  intro p e s m below meth c hx hb hr hts hown hlocks hml hC hP ls hl
  have hl : lv_has ls 2 [(0, .ref mo), (1, .int (nI xk))] := hl
  have hown : s.vm.findClass RX11 = some m.cls := hown
  have hts : ∀ w ∈ wsX11_figure, w.before ([.ref mo, .int (nI xk)] : List Value).toArray s = true := hts
  have hinX11 := (by decide +kernel : ∀ w ∈ u_ws RX11 TX11 32, w ∈ wsX11_figure)
  have f25 := hts (.fieldLink RX11 25 "BoiledEggsModel" "page" "[B") (by decide +kernel)
  refine lv_aload_n hx hb dX11_figure_0 rfl (lv_at hl 0 rfl) ?_
  refine va_get (D := g.1) (ci := 11) (v := .ref aPg) (C := RX11) (T := TX11) (N := 32) hx hb hts hinX11 hown hC.1 hP 0 rfl rfl 16 (by decide) f25 (fun _ h9 => h9) rfl dX11_figure_1 ?_
  refine lv_iload_n hx hb dX11_figure_4 rfl (lv_at hl 1 rfl) ?_
  refine ald_b (f := fun j => nI (pg j)) (j := xk) hx hb hC hP 1 rfl (by omega) (by decide) dX11_figure_5 ?_
  refine lv_bipush (v := nI 48) hx hb dX11_figure_6 (by decide) ?_
  refine lv_isub hx hb dX11_figure_8 ?_
  refine top_i (y := nI (pg xk - 48)) (pk_sub hg0) ?_
  exact retSi hx hb hr hlocks (rfl) dX11_figure_9
