set_option maxHeartbeats 4000000 in
set_option maxRecDepth 100000 in
/-- the law at trier -/
theorem lw_trier {p : Program} {l : Launch} {e : Env} {s : State} {m : MethodId} {below : List Frame} {meth : Method} {c : Code} {b L : Nat} {xs : Nat → Int32} {g : GG} {oM mo i k : Nat} {H : Heap} {locs : List Loc} {ls : Array Slot} {Q : State → Prop} (X : LX p s m c b L xs g) (hi : i + 4 ≤ L) (hL : L ≤ 256) (hk : k ≤ 100) (hl : lv_has ls 4 [(3, .int (nI i)), (2, .ref mo), (1, .ref oM), (0, .ref b)]) (hW : LW g (fun q => s.heap.size ≤ q) oM mo k H) (hS : va_S (fun q => s.heap.size ≤ q) s.heap H locs) (kk : KT p l e s m below meth c b oM mo g k Q ls) : W p l e room_1 s m #[Value.ref b] below meth c H locs (37 + k) 4713 Q (F0 m 547 ls []) := by
  obtain ⟨hx, hb, hml, hown, hts, hX, hbl, hC⟩ := id X
  obtain ⟨oP, aC, oH, aH, oT, aB, aW, aS, aU, aK, oK, bB, bW, bS, bU, bK, oR, rW, rC, rO, oD, aT, aHab, aSp, aTu, aKn, aKd, aPg, aWo, aWs, aMe, aBw, aKsp, aKtu, aKkn, E, B, tb, tw, fa, kR, ib, sn, tC, tK, bD, cN, gb, gn, fi, gi, qb, mKk, iK, qP, qN, mBf, mIk, qS, mSd, mH, cp, kd, hh, fB, fW, fS, fU, gB, gW, gS, gU, xW, xC, xO, hab, sp, tu, wo, wr, me, bw, ksp, ktu, fK, gK, kn, kkn, tr, pl, h0, h1, h2, h3, hP, hD⟩ := hW
  obtain ⟨hE, hB6, htb, htw, hfa, hcN, hkR, hbD, hKk, htC, hqb, hcp, hhh, hhab, hEq⟩ := id h0
  obtain ⟨hTB, hZ, hTI⟩ := id h1
  obtain ⟨hKB, hKI, hKT⟩ := id h2
  have hA : ∀ q : Nat, s.heap.size ≤ q → (fun q : Nat => s.heap.size ≤ q) q := fun _ h => h
  have hR0 : 37 + k ≤ room_1.cells := by show 37 + k ≤ 600000; omega
  have hR1 : 37 + k + 1 ≤ room_1.cells := by show 37 + k + 1 ≤ 600000; omega
  have hok : wOK E tb tw hab sp tu := ⟨hE, htb, htw, hTB.1, fun j => by have := hTB.2.1 j; omega, hhab⟩
  have htot := tot_lt hTB hTI
  by_cases hq9 : trOK E tC (xs (i + 1)) = true
  · obtain ⟨q1, q2⟩ := Bool.and_eq_true_iff.mp hq9
    obtain ⟨q2, q3⟩ := Bool.and_eq_true_iff.mp q2
    have q2 := of_decide_eq_true q2
    have q3 := of_decide_eq_true q3
    obtain ⟨v, hv, hxv⟩ := wth_n q1
    refine lv_aload_n hx hb dL_law_547 rfl (lv_at hl 2 rfl) ?_
    refine ld_arg1 X hi hL hl hS dL_law_548 dL_law_549 dL_law_550 dL_law_551 dL_law_552 ?_
    refine top_i (y := nI v) hxv ?_
    refine goPi (S := Nat) (X' := fun (u : Nat) => ((WC g oM oP aC oH aH oT aB aW aS aU aK oK bB bW bS bU bK oR rW rC rO oD aT E B tb tw fa kR ib sn (tC + 1) tK bD cN gb gn fi gi qb iK qP qN qS cp hh fB fW fS fU gB gW gS gU xW xC xO fK gK (va_up tr tC (some u)) ++ WM g mo aHab aSp aTu aKn aKd aPg aWo aWs aMe aBw aKsp aKtu aKkn E B tb tw fa kR ib sn tC tK bD cN gb gn mKk mBf mIk mSd mH cp kd hab sp tu wo wr me bw ksp ktu kn kkn) ++ [(u, .inr (kc v, []))])) (va_runV (As := [.int (nI v)]) (rest := []) ⟨hx, hb, hml, hown, hts⟩ (k_X10_trier_y l g _ oM oP oH oT oK oR oD aT tC tK iK kR bD aH E B tb tw fa tr v (hE) (by omega) (by omega) (by omega)) (cwV 1 hts gL_law_X10_trier rfl rfl rfl ⟨rfl, hdX10_trier⟩ ⟨Nat.le_of_ble_eq_true rfl, Nat.le_of_ble_eq_true rfl⟩) (preVM hC (hP.sub [0, 3, 22] rfl) (hD.sub [0, 3, 22] (by decide) rfl) (va_recv hC.1 hP (ci := 10) (q0 := 0) rfl rfl)) rfl rfl hl.1 rfl (lv_room (Nat.le_of_ble_eq_true rfl)) dL_law_553 ⟨hR1, Nat.le_of_ble_eq_true rfl⟩) hP hD hS hA [0, 3, 22] [1, 2, 4, 5, 6, 7, 8, 9, 10, 11, 12, 13, 14, 15, 16, 17, 18, 19, 20, 21, 23, 24, 25, 26, 27, 28, 29, 30, 31, 32, 33, 34, 35, 36] [34, 0, 1, 35, 2, 3, 4, 5, 6, 7, 8, 9, 10, 11, 12, 13, 14, 15, 16, 17, 18, 19, 36, 20, 21, 22, 23, 24, 25, 26, 27, 28, 29, 30, 31, 32, 33, 37] rfl rfl (by decide) (by decide) (by decide) (fun _ => rfl) (fun r9 u9 H locs hw9 hP hD hS => ?_)
    subst hw9
    rw [List.append_assoc] at hP hD
    refine lv_aload_n hx hb dL_law_556 rfl (lv_at hl 1 rfl) ?_
    refine ld_arg1 X hi hL hl hS dL_law_557 dL_law_558 dL_law_559 dL_law_560 dL_law_561 ?_
    refine goPi (S := Unit) (X' := fun _ => (WC g oM oP aC oH aH oT aB aW aS aU aK oK bB bW bS bU bK oR rW rC rO oD aT E B tb tw fa kR ib sn (tC + 1) tK bD cN gb gn fi gi qb iK qP qN qS cp hh fB fW fS fU gB gW gS gU xW xC xO fK gK (va_up tr tC (some u9)) ++ WM g mo aHab aSp aTu aKn aKd aPg aWo aWs aMe aBw aKsp aKtu aKkn E B tb tw fa kR ib sn (cond (trOK E tC (xs (i + 1))) (tC + 1) tC) tK bD cN gb gn mKk mBf mIk mSd mH cp (cond (trOK E tC (xs (i + 1))) (updN kd tC (ix (xs (i + 1)))) kd) hab sp tu wo wr me bw ksp ktu kn kkn)) (va_runV (As := [.int (xs (i + 1))]) (rest := [.int (nI tC)]) ⟨hx, hb, hml, hown, hts⟩ (k_X11_trier l g _ mo E kR B tb tw fa aHab ib sn aSp aTu aKn tC aKd bD cN aPg aWo aWs aMe mBf aBw mSd mIk mKk gb gn tK aKsp aKtu aKkn mH kd (xs (i + 1)) (hE) (htC)) (cwV 1 hts gL_law_X11_trier rfl rfl rfl ⟨rfl, hdX11_trier⟩ ⟨Nat.le_of_ble_eq_true rfl, Nat.le_of_ble_eq_true rfl⟩) (preVM hC (hP.sub [23, 28] rfl) (hD.sub [23, 28] (by decide) rfl) (va_recv hC.1 hP (ci := 11) (q0 := 23) rfl rfl)) rfl rfl hl.1 rfl (lv_room (Nat.le_of_ble_eq_true rfl)) dL_law_562 ⟨hR1, Nat.le_of_ble_eq_true rfl⟩) hP hD hS hA [23, 28] [0, 1, 2, 3, 4, 5, 6, 7, 8, 9, 10, 11, 12, 13, 14, 15, 16, 17, 18, 19, 20, 21, 22, 24, 25, 26, 27, 29, 30, 31, 32, 33, 34, 35, 36] [0, 1, 2, 3, 4, 5, 6, 7, 8, 9, 10, 11, 12, 13, 14, 15, 16, 17, 18, 19, 20, 21, 22, 35, 23, 24, 25, 26, 36, 27, 28, 29, 30, 31, 32, 33, 34] rfl rfl (by decide) (by decide) (by decide) (fun _ => rfl) (fun r9 _ H locs hw9 hP hD hS => ?_)
    subst hw9
    refine lv_icmp_eq (tgt := 765) hx hb dL_law_565 (by decide) (fun _ => ?_) (fun hz => absurd (by rw [trR, if_pos q1, if_neg (by omega), if_neg (by omega)]) hz)
    rw [hq9] at hP hD
    rw [hxv, ix_nI (by omega)] at hP hD
    have hI := I_tri (a := u9) (x := v) h0 h1 h2 h3 (by omega) (by omega) (by omega)
    exact kk _ _ ⟨_, _, _, _, _, _, _, _, _, _, _, _, _, _, _, _, _, _, _, _, _, _, _, _, _, _, _, _, _, _, _, _, _, _, _, _, _, _, _, _, _, _, _, _, _, _, _, _, _, _, _, _, _, _, _, _, _, _, _, _, _, _, _, _, _, _, _, _, _, _, _, _, _, _, _, _, _, _, _, _, _, _, _, _, _, _, _, _, _, _, hI.1, hI.2.1, hI.2.2.1, hI.2.2.2, hP, hD⟩ hS
  · have hq9 : trOK E tC (xs (i + 1)) = false := by simpa using hq9
    refine lv_aload_n hx hb dL_law_547 rfl (lv_at hl 2 rfl) ?_
    refine ld_arg1 X hi hL hl hS dL_law_548 dL_law_549 dL_law_550 dL_law_551 dL_law_552 ?_
    refine goSi (T := trR E tC (xs (i + 1))) (va_runV (As := [.int (xs (i + 1))]) (rest := []) ⟨hx, hb, hml, hown, hts⟩ (k_X10_trier_n l g oM oP oH oT oK oR oD aT tC tK iK kR bD aH E B tb tw fa (xs (i + 1)) (hE) (htC) (hq9)) (cwV 1 hts gL_law_X10_trier rfl rfl rfl ⟨rfl, hdX10_trier⟩ ⟨Nat.le_of_ble_eq_true rfl, Nat.le_of_ble_eq_true rfl⟩) (preVS hC (hP.sub [0, 3] rfl) (va_recv hC.1 hP (ci := 10) (q0 := 0) rfl rfl)) rfl rfl hl.1 rfl (lv_room (Nat.le_of_ble_eq_true rfl)) dL_law_553 ⟨hR0, Nat.le_of_ble_eq_true rfl⟩) ?_
    refine lv_aload_n hx hb dL_law_556 rfl (lv_at hl 1 rfl) ?_
    refine ld_arg1 X hi hL hl hS dL_law_557 dL_law_558 dL_law_559 dL_law_560 dL_law_561 ?_
    refine goPi (S := Unit) (X' := fun _ => (WC g oM oP aC oH aH oT aB aW aS aU aK oK bB bW bS bU bK oR rW rC rO oD aT E B tb tw fa kR ib sn tC tK bD cN gb gn fi gi qb iK qP qN qS cp hh fB fW fS fU gB gW gS gU xW xC xO fK gK tr ++ WM g mo aHab aSp aTu aKn aKd aPg aWo aWs aMe aBw aKsp aKtu aKkn E B tb tw fa kR ib sn (cond (trOK E tC (xs (i + 1))) (tC + 1) tC) tK bD cN gb gn mKk mBf mIk mSd mH cp (cond (trOK E tC (xs (i + 1))) (updN kd tC (ix (xs (i + 1)))) kd) hab sp tu wo wr me bw ksp ktu kn kkn)) (va_runV (As := [.int (xs (i + 1))]) (rest := [.int (trR E tC (xs (i + 1)))]) ⟨hx, hb, hml, hown, hts⟩ (k_X11_trier l g _ mo E kR B tb tw fa aHab ib sn aSp aTu aKn tC aKd bD cN aPg aWo aWs aMe mBf aBw mSd mIk mKk gb gn tK aKsp aKtu aKkn mH kd (xs (i + 1)) (hE) (htC)) (cwV 1 hts gL_law_X11_trier rfl rfl rfl ⟨rfl, hdX11_trier⟩ ⟨Nat.le_of_ble_eq_true rfl, Nat.le_of_ble_eq_true rfl⟩) (preVM hC (hP.sub [23, 28] rfl) (hD.sub [23, 28] (by decide) rfl) (va_recv hC.1 hP (ci := 11) (q0 := 23) rfl rfl)) rfl rfl hl.1 rfl (lv_room (Nat.le_of_ble_eq_true rfl)) dL_law_562 ⟨hR0, Nat.le_of_ble_eq_true rfl⟩) hP hD hS hA [23, 28] [0, 1, 2, 3, 4, 5, 6, 7, 8, 9, 10, 11, 12, 13, 14, 15, 16, 17, 18, 19, 20, 21, 22, 24, 25, 26, 27, 29, 30, 31, 32, 33, 34, 35, 36] [0, 1, 2, 3, 4, 5, 6, 7, 8, 9, 10, 11, 12, 13, 14, 15, 16, 17, 18, 19, 20, 21, 22, 35, 23, 24, 25, 26, 36, 27, 28, 29, 30, 31, 32, 33, 34] rfl rfl (by decide) (by decide) (by decide) (fun _ => rfl) (fun r9 _ H locs hw9 hP hD hS => ?_)
    subst hw9
    refine lv_icmp_eq (tgt := 765) hx hb dL_law_565 (by decide) (fun _ => ?_) (fun hz => absurd (rfl) hz)
    rw [hq9] at hP hD
    refine W.widen (k := 37 + (k + 1)) (n := 4713) (by omega) (Nat.le_refl _) ?_
    exact kk _ _ ⟨_, _, _, _, _, _, _, _, _, _, _, _, _, _, _, _, _, _, _, _, _, _, _, _, _, _, _, _, _, _, _, _, _, _, _, _, _, _, _, _, _, _, _, _, _, _, _, _, _, _, _, _, _, _, _, _, _, _, _, _, _, _, _, _, _, _, _, _, _, _, _, _, _, _, _, _, _, _, _, _, _, _, _, _, _, _, _, _, _, _, h0.mono, h1.mono, h2.mono, h3, hP, hD⟩ hS

set_option maxHeartbeats 4000000 in
set_option maxRecDepth 100000 in
/-- the law at about -/
theorem lw_about {p : Program} {l : Launch} {e : Env} {s : State} {m : MethodId} {below : List Frame} {meth : Method} {c : Code} {b L : Nat} {xs : Nat → Int32} {g : GG} {oM mo i k : Nat} {H : Heap} {locs : List Loc} {ls : Array Slot} {Q : State → Prop} (X : LX p s m c b L xs g) (hi : i + 4 ≤ L) (hL : L ≤ 256) (hk : k ≤ 100) (hl : lv_has ls 4 [(3, .int (nI i)), (2, .ref mo), (1, .ref oM), (0, .ref b)]) (hW : LW g (fun q => s.heap.size ≤ q) oM mo k H) (hS : va_S (fun q => s.heap.size ≤ q) s.heap H locs) (kk : KT p l e s m below meth c b oM mo g k Q ls) : W p l e room_1 s m #[Value.ref b] below meth c H locs (37 + k) 4713 Q (F0 m 570 ls []) := by
  obtain ⟨hx, hb, hml, hown, hts, hX, hbl, hC⟩ := id X
  obtain ⟨oP, aC, oH, aH, oT, aB, aW, aS, aU, aK, oK, bB, bW, bS, bU, bK, oR, rW, rC, rO, oD, aT, aHab, aSp, aTu, aKn, aKd, aPg, aWo, aWs, aMe, aBw, aKsp, aKtu, aKkn, E, B, tb, tw, fa, kR, ib, sn, tC, tK, bD, cN, gb, gn, fi, gi, qb, mKk, iK, qP, qN, mBf, mIk, qS, mSd, mH, cp, kd, hh, fB, fW, fS, fU, gB, gW, gS, gU, xW, xC, xO, hab, sp, tu, wo, wr, me, bw, ksp, ktu, fK, gK, kn, kkn, tr, pl, h0, h1, h2, h3, hP, hD⟩ := hW
  obtain ⟨hE, hB6, htb, htw, hfa, hcN, hkR, hbD, hKk, htC, hqb, hcp, hhh, hhab, hEq⟩ := id h0
  obtain ⟨hTB, hZ, hTI⟩ := id h1
  obtain ⟨hKB, hKI, hKT⟩ := id h2
  have hA : ∀ q : Nat, s.heap.size ≤ q → (fun q : Nat => s.heap.size ≤ q) q := fun _ h => h
  have hR0 : 37 + k ≤ room_1.cells := by show 37 + k ≤ 600000; omega
  have hR1 : 37 + k + 1 ≤ room_1.cells := by show 37 + k + 1 ≤ 600000; omega
  have hok : wOK E tb tw hab sp tu := ⟨hE, htb, htw, hTB.1, fun j => by have := hTB.2.1 j; omega, hhab⟩
  have htot := tot_lt hTB hTI
  by_cases hq9 : isE tC (xs (i + 1)) = true
  · obtain ⟨v, hv, hxv⟩ := isE_t hq9
    obtain ⟨ox9, ht9, hm9, hk9⟩ := h3 v hv
    have hE9 : 0 < E := by rcases Nat.eq_zero_or_pos E with h | h; · have := (hZ h).1; omega; · exact h
    refine lv_aload_n hx hb dL_law_570 rfl (lv_at hl 2 rfl) ?_
    refine ld_arg1 X hi hL hl hS dL_law_571 dL_law_572 dL_law_573 dL_law_574 dL_law_575 ?_
    refine top_i (y := nI v) hxv ?_
    refine ld_arg2 X hi hL hl hS dL_law_576 dL_law_577 dL_law_578 dL_law_579 dL_law_580 ?_
    refine goSi (T := abC fB fW fi ib (nI (kd v)) (xs (i + 2))) (va_runV (As := [.int (nI v), .int (xs (i + 2))]) (rest := []) ⟨hx, hb, hml, hown, hts⟩ (k_X10_about_v l g ox9 oM oP oH oT oK oR oD aT tC tK iK kR bD aB aW aS aU aK fi ib sn fB fW tr v (xs (i + 2)) (kd v) (htC) (hv) (ht9) (hTB.2.2.2.2.1) (hTB.2.2.2.2.2.1) (hTB.2.2.2.1) (hk9)) (cwV 2 hts gL_law_X10_about rfl rfl rfl ⟨rfl, hdX10_about⟩ ⟨Nat.le_of_ble_eq_true rfl, Nat.le_of_ble_eq_true rfl⟩) (preVS hC ((plP hP hm9).app (hP.sub [0, 22, 5, 6, 7] rfl)) (va_recv hC.1 hP (ci := 10) (q0 := 0) rfl rfl)) rfl rfl hl.1 rfl (lv_room (Nat.le_of_ble_eq_true rfl)) dL_law_581 ⟨hR0, Nat.le_of_ble_eq_true rfl⟩) ?_
    refine lv_aload_n hx hb dL_law_584 rfl (lv_at hl 1 rfl) ?_
    refine ld_arg1 X hi hL hl hS dL_law_585 dL_law_586 dL_law_587 dL_law_588 dL_law_589 ?_
    refine ld_arg2 X hi hL hl hS dL_law_590 dL_law_591 dL_law_592 dL_law_593 dL_law_594 ?_
    refine goSi (T := abtR (mW E B tb tw hab sp tu kn) E ib tC kd (xs (i + 1)) (xs (i + 2))) (va_runV (As := [.int (xs (i + 1)), .int (xs (i + 2))]) (rest := [.int (abC fB fW fi ib (nI (kd v)) (xs (i + 2)))]) ⟨hx, hb, hml, hown, hts⟩ (k_X11_about l g mo E kR B tb tw fa aHab ib sn aSp aTu aKn tC aKd bD cN aPg aWo aWs aMe mBf aBw mSd mIk mKk gb gn tK aKsp aKtu aKkn mH hab sp tu kn kd (xs (i + 1)) (xs (i + 2)) (hok) (by omega) (hTB.2.2.2.1) (htC)) (cwV 2 hts gL_law_X11_about rfl rfl rfl ⟨rfl, hdX11_about⟩ ⟨Nat.le_of_ble_eq_true rfl, Nat.le_of_ble_eq_true rfl⟩) (preVS hC (hP.sub [23, 24, 25, 26, 27, 28] rfl) (va_recv hC.1 hP (ci := 11) (q0 := 23) rfl rfl)) rfl rfl hl.1 rfl (lv_room (Nat.le_of_ble_eq_true rfl)) dL_law_595 ⟨hR0, Nat.le_of_ble_eq_true rfl⟩) ?_
    refine lv_icmp_eq (tgt := 765) hx hb dL_law_598 (by decide) (fun _ => ?_) (fun hz => absurd (by rw [abtR, if_pos hq9, hxv, ix_nI (by omega), c_abt (hTI hE9).1 (hTI hE9).2.1 hE]) hz)
    refine W.widen (k := 37 + (k + 1)) (n := 4713) (by omega) (Nat.le_refl _) ?_
    exact kk _ _ ⟨_, _, _, _, _, _, _, _, _, _, _, _, _, _, _, _, _, _, _, _, _, _, _, _, _, _, _, _, _, _, _, _, _, _, _, _, _, _, _, _, _, _, _, _, _, _, _, _, _, _, _, _, _, _, _, _, _, _, _, _, _, _, _, _, _, _, _, _, _, _, _, _, _, _, _, _, _, _, _, _, _, _, _, _, _, _, _, _, _, _, h0.mono, h1.mono, h2.mono, h3, hP, hD⟩ hS
  · refine lv_aload_n hx hb dL_law_570 rfl (lv_at hl 2 rfl) ?_
    refine ld_arg1 X hi hL hl hS dL_law_571 dL_law_572 dL_law_573 dL_law_574 dL_law_575 ?_
    refine ld_arg2 X hi hL hl hS dL_law_576 dL_law_577 dL_law_578 dL_law_579 dL_law_580 ?_
    refine goSi (T := -101) (va_runV (As := [.int (xs (i + 1)), .int (xs (i + 2))]) (rest := []) ⟨hx, hb, hml, hown, hts⟩ (k_X10_about_n l g oM oP oH oT oK oR oD aT tC tK iK kR bD (xs (i + 1)) (xs (i + 2)) (htC) (by simpa using hq9)) (cwV 2 hts gL_law_X10_about rfl rfl rfl ⟨rfl, hdX10_about⟩ ⟨Nat.le_of_ble_eq_true rfl, Nat.le_of_ble_eq_true rfl⟩) (preVS hC (hP.sub [0] rfl) (va_recv hC.1 hP (ci := 10) (q0 := 0) rfl rfl)) rfl rfl hl.1 rfl (lv_room (Nat.le_of_ble_eq_true rfl)) dL_law_581 ⟨hR0, Nat.le_of_ble_eq_true rfl⟩) ?_
    refine lv_aload_n hx hb dL_law_584 rfl (lv_at hl 1 rfl) ?_
    refine ld_arg1 X hi hL hl hS dL_law_585 dL_law_586 dL_law_587 dL_law_588 dL_law_589 ?_
    refine ld_arg2 X hi hL hl hS dL_law_590 dL_law_591 dL_law_592 dL_law_593 dL_law_594 ?_
    refine goSi (T := abtR (mW E B tb tw hab sp tu kn) E ib tC kd (xs (i + 1)) (xs (i + 2))) (va_runV (As := [.int (xs (i + 1)), .int (xs (i + 2))]) (rest := [.int (-101)]) ⟨hx, hb, hml, hown, hts⟩ (k_X11_about l g mo E kR B tb tw fa aHab ib sn aSp aTu aKn tC aKd bD cN aPg aWo aWs aMe mBf aBw mSd mIk mKk gb gn tK aKsp aKtu aKkn mH hab sp tu kn kd (xs (i + 1)) (xs (i + 2)) (hok) (by omega) (hTB.2.2.2.1) (htC)) (cwV 2 hts gL_law_X11_about rfl rfl rfl ⟨rfl, hdX11_about⟩ ⟨Nat.le_of_ble_eq_true rfl, Nat.le_of_ble_eq_true rfl⟩) (preVS hC (hP.sub [23, 24, 25, 26, 27, 28] rfl) (va_recv hC.1 hP (ci := 11) (q0 := 23) rfl rfl)) rfl rfl hl.1 rfl (lv_room (Nat.le_of_ble_eq_true rfl)) dL_law_595 ⟨hR0, Nat.le_of_ble_eq_true rfl⟩) ?_
    refine lv_icmp_eq (tgt := 765) hx hb dL_law_598 (by decide) (fun _ => ?_) (fun hz => absurd (by rw [abtR, if_neg hq9]) hz)
    refine W.widen (k := 37 + (k + 1)) (n := 4713) (by omega) (Nat.le_refl _) ?_
    exact kk _ _ ⟨_, _, _, _, _, _, _, _, _, _, _, _, _, _, _, _, _, _, _, _, _, _, _, _, _, _, _, _, _, _, _, _, _, _, _, _, _, _, _, _, _, _, _, _, _, _, _, _, _, _, _, _, _, _, _, _, _, _, _, _, _, _, _, _, _, _, _, _, _, _, _, _, _, _, _, _, _, _, _, _, _, _, _, _, _, _, _, _, _, _, h0.mono, h1.mono, h2.mono, h3, hP, hD⟩ hS

set_option maxHeartbeats 4000000 in
set_option maxRecDepth 100000 in
/-- the law at as -/
theorem lw_as {p : Program} {l : Launch} {e : Env} {s : State} {m : MethodId} {below : List Frame} {meth : Method} {c : Code} {b L : Nat} {xs : Nat → Int32} {g : GG} {oM mo i k : Nat} {H : Heap} {locs : List Loc} {ls : Array Slot} {Q : State → Prop} (X : LX p s m c b L xs g) (hi : i + 4 ≤ L) (hL : L ≤ 256) (hk : k ≤ 100) (hl : lv_has ls 4 [(3, .int (nI i)), (2, .ref mo), (1, .ref oM), (0, .ref b)]) (hW : LW g (fun q => s.heap.size ≤ q) oM mo k H) (hS : va_S (fun q => s.heap.size ≤ q) s.heap H locs) (kk : KT p l e s m below meth c b oM mo g k Q ls) : W p l e room_1 s m #[Value.ref b] below meth c H locs (37 + k) 4713 Q (F0 m 603 ls []) := by
  obtain ⟨hx, hb, hml, hown, hts, hX, hbl, hC⟩ := id X
  obtain ⟨oP, aC, oH, aH, oT, aB, aW, aS, aU, aK, oK, bB, bW, bS, bU, bK, oR, rW, rC, rO, oD, aT, aHab, aSp, aTu, aKn, aKd, aPg, aWo, aWs, aMe, aBw, aKsp, aKtu, aKkn, E, B, tb, tw, fa, kR, ib, sn, tC, tK, bD, cN, gb, gn, fi, gi, qb, mKk, iK, qP, qN, mBf, mIk, qS, mSd, mH, cp, kd, hh, fB, fW, fS, fU, gB, gW, gS, gU, xW, xC, xO, hab, sp, tu, wo, wr, me, bw, ksp, ktu, fK, gK, kn, kkn, tr, pl, h0, h1, h2, h3, hP, hD⟩ := hW
  obtain ⟨hE, hB6, htb, htw, hfa, hcN, hkR, hbD, hKk, htC, hqb, hcp, hhh, hhab, hEq⟩ := id h0
  obtain ⟨hTB, hZ, hTI⟩ := id h1
  obtain ⟨hKB, hKI, hKT⟩ := id h2
  have hA : ∀ q : Nat, s.heap.size ≤ q → (fun q : Nat => s.heap.size ≤ q) q := fun _ h => h
  have hR0 : 37 + k ≤ room_1.cells := by show 37 + k ≤ 600000; omega
  have hR1 : 37 + k + 1 ≤ room_1.cells := by show 37 + k + 1 ≤ 600000; omega
  have hok : wOK E tb tw hab sp tu := ⟨hE, htb, htw, hTB.1, fun j => by have := hTB.2.1 j; omega, hhab⟩
  have htot := tot_lt hTB hTI
  by_cases hq9 : isE tC (xs (i + 1)) = true
  · obtain ⟨v, hv, hxv⟩ := isE_t hq9
    obtain ⟨ox9, ht9, hm9, hk9⟩ := h3 v hv
    have hE9 : 0 < E := by rcases Nat.eq_zero_or_pos E with h | h; · have := (hZ h).1; omega; · exact h
    refine lv_aload_n hx hb dL_law_603 rfl (lv_at hl 2 rfl) ?_
    refine ld_arg1 X hi hL hl hS dL_law_604 dL_law_605 dL_law_606 dL_law_607 dL_law_608 ?_
    refine top_i (y := nI v) hxv ?_
    refine ld_arg2 X hi hL hl hS dL_law_609 dL_law_610 dL_law_611 dL_law_612 dL_law_613 ?_
    refine goSi (T := asC (kd v) (nI v) (xs (i + 2))) (va_runV (As := [.int (nI v), .int (xs (i + 2))]) (rest := []) ⟨hx, hb, hml, hown, hts⟩ (k_X10_as_v l g ox9 oM oP oH oT oK oR oD aT tC tK iK kR bD tr v (xs (i + 2)) (kd v) (htC) (hv) (ht9) (hk9)) (cwV 2 hts gL_law_X10_as rfl rfl rfl ⟨rfl, hdX10_as⟩ ⟨Nat.le_of_ble_eq_true rfl, Nat.le_of_ble_eq_true rfl⟩) (preVS hC ((plP hP hm9).app (hP.sub [0, 22] rfl)) (va_recv hC.1 hP (ci := 10) (q0 := 0) rfl rfl)) rfl rfl hl.1 rfl (lv_room (Nat.le_of_ble_eq_true rfl)) dL_law_614 ⟨hR0, Nat.le_of_ble_eq_true rfl⟩) ?_
    refine lv_aload_n hx hb dL_law_617 rfl (lv_at hl 1 rfl) ?_
    refine ld_arg1 X hi hL hl hS dL_law_618 dL_law_619 dL_law_620 dL_law_621 dL_law_622 ?_
    refine ld_arg2 X hi hL hl hS dL_law_623 dL_law_624 dL_law_625 dL_law_626 dL_law_627 ?_
    refine goSi (T := asR tC kd (xs (i + 1)) (xs (i + 2))) (va_runV (As := [.int (xs (i + 1)), .int (xs (i + 2))]) (rest := [.int (asC (kd v) (nI v) (xs (i + 2)))]) ⟨hx, hb, hml, hown, hts⟩ (k_X11_as l g mo E kR B tb tw fa aHab ib sn aSp aTu aKn tC aKd bD cN aPg aWo aWs aMe mBf aBw mSd mIk mKk gb gn tK aKsp aKtu aKkn mH kd (xs (i + 1)) (xs (i + 2)) (htC)) (cwV 2 hts gL_law_X11_as rfl rfl rfl ⟨rfl, hdX11_as⟩ ⟨Nat.le_of_ble_eq_true rfl, Nat.le_of_ble_eq_true rfl⟩) (preVS hC (hP.sub [23, 28] rfl) (va_recv hC.1 hP (ci := 11) (q0 := 23) rfl rfl)) rfl rfl hl.1 rfl (lv_room (Nat.le_of_ble_eq_true rfl)) dL_law_628 ⟨hR0, Nat.le_of_ble_eq_true rfl⟩) ?_
    refine lv_icmp_eq (tgt := 765) hx hb dL_law_631 (by decide) (fun _ => ?_) (fun hz => absurd (by rw [asR, if_pos hq9, hxv, ix_nI (by omega)]; rfl) hz)
    refine W.widen (k := 37 + (k + 1)) (n := 4713) (by omega) (Nat.le_refl _) ?_
    exact kk _ _ ⟨_, _, _, _, _, _, _, _, _, _, _, _, _, _, _, _, _, _, _, _, _, _, _, _, _, _, _, _, _, _, _, _, _, _, _, _, _, _, _, _, _, _, _, _, _, _, _, _, _, _, _, _, _, _, _, _, _, _, _, _, _, _, _, _, _, _, _, _, _, _, _, _, _, _, _, _, _, _, _, _, _, _, _, _, _, _, _, _, _, _, h0.mono, h1.mono, h2.mono, h3, hP, hD⟩ hS
  · refine lv_aload_n hx hb dL_law_603 rfl (lv_at hl 2 rfl) ?_
    refine ld_arg1 X hi hL hl hS dL_law_604 dL_law_605 dL_law_606 dL_law_607 dL_law_608 ?_
    refine ld_arg2 X hi hL hl hS dL_law_609 dL_law_610 dL_law_611 dL_law_612 dL_law_613 ?_
    refine goSi (T := -101) (va_runV (As := [.int (xs (i + 1)), .int (xs (i + 2))]) (rest := []) ⟨hx, hb, hml, hown, hts⟩ (k_X10_as_n l g oM oP oH oT oK oR oD aT tC tK iK kR bD (xs (i + 1)) (xs (i + 2)) (htC) (by simpa using hq9)) (cwV 2 hts gL_law_X10_as rfl rfl rfl ⟨rfl, hdX10_as⟩ ⟨Nat.le_of_ble_eq_true rfl, Nat.le_of_ble_eq_true rfl⟩) (preVS hC (hP.sub [0] rfl) (va_recv hC.1 hP (ci := 10) (q0 := 0) rfl rfl)) rfl rfl hl.1 rfl (lv_room (Nat.le_of_ble_eq_true rfl)) dL_law_614 ⟨hR0, Nat.le_of_ble_eq_true rfl⟩) ?_
    refine lv_aload_n hx hb dL_law_617 rfl (lv_at hl 1 rfl) ?_
    refine ld_arg1 X hi hL hl hS dL_law_618 dL_law_619 dL_law_620 dL_law_621 dL_law_622 ?_
    refine ld_arg2 X hi hL hl hS dL_law_623 dL_law_624 dL_law_625 dL_law_626 dL_law_627 ?_
    refine goSi (T := asR tC kd (xs (i + 1)) (xs (i + 2))) (va_runV (As := [.int (xs (i + 1)), .int (xs (i + 2))]) (rest := [.int (-101)]) ⟨hx, hb, hml, hown, hts⟩ (k_X11_as l g mo E kR B tb tw fa aHab ib sn aSp aTu aKn tC aKd bD cN aPg aWo aWs aMe mBf aBw mSd mIk mKk gb gn tK aKsp aKtu aKkn mH kd (xs (i + 1)) (xs (i + 2)) (htC)) (cwV 2 hts gL_law_X11_as rfl rfl rfl ⟨rfl, hdX11_as⟩ ⟨Nat.le_of_ble_eq_true rfl, Nat.le_of_ble_eq_true rfl⟩) (preVS hC (hP.sub [23, 28] rfl) (va_recv hC.1 hP (ci := 11) (q0 := 23) rfl rfl)) rfl rfl hl.1 rfl (lv_room (Nat.le_of_ble_eq_true rfl)) dL_law_628 ⟨hR0, Nat.le_of_ble_eq_true rfl⟩) ?_
    refine lv_icmp_eq (tgt := 765) hx hb dL_law_631 (by decide) (fun _ => ?_) (fun hz => absurd (by rw [asR, if_neg hq9]) hz)
    refine W.widen (k := 37 + (k + 1)) (n := 4713) (by omega) (Nat.le_refl _) ?_
    exact kk _ _ ⟨_, _, _, _, _, _, _, _, _, _, _, _, _, _, _, _, _, _, _, _, _, _, _, _, _, _, _, _, _, _, _, _, _, _, _, _, _, _, _, _, _, _, _, _, _, _, _, _, _, _, _, _, _, _, _, _, _, _, _, _, _, _, _, _, _, _, _, _, _, _, _, _, _, _, _, _, _, _, _, _, _, _, _, _, _, _, _, _, _, _, h0.mono, h1.mono, h2.mono, h3, hP, hD⟩ hS

set_option maxHeartbeats 4000000 in
set_option maxRecDepth 100000 in
/-- the law at digest -/
theorem lw_digest {p : Program} {l : Launch} {e : Env} {s : State} {m : MethodId} {below : List Frame} {meth : Method} {c : Code} {b L : Nat} {xs : Nat → Int32} {g : GG} {oM mo i k : Nat} {H : Heap} {locs : List Loc} {ls : Array Slot} {Q : State → Prop} (X : LX p s m c b L xs g) (hi : i + 4 ≤ L) (hL : L ≤ 256) (hk : k ≤ 100) (hl : lv_has ls 4 [(3, .int (nI i)), (2, .ref mo), (1, .ref oM), (0, .ref b)]) (hW : LW g (fun q => s.heap.size ≤ q) oM mo k H) (hS : va_S (fun q => s.heap.size ≤ q) s.heap H locs) (kk : KT p l e s m below meth c b oM mo g k Q ls) : W p l e room_1 s m #[Value.ref b] below meth c H locs (37 + k) 4713 Q (F0 m 751 ls []) := by
  obtain ⟨hx, hb, hml, hown, hts, hX, hbl, hC⟩ := id X
  obtain ⟨oP, aC, oH, aH, oT, aB, aW, aS, aU, aK, oK, bB, bW, bS, bU, bK, oR, rW, rC, rO, oD, aT, aHab, aSp, aTu, aKn, aKd, aPg, aWo, aWs, aMe, aBw, aKsp, aKtu, aKkn, E, B, tb, tw, fa, kR, ib, sn, tC, tK, bD, cN, gb, gn, fi, gi, qb, mKk, iK, qP, qN, mBf, mIk, qS, mSd, mH, cp, kd, hh, fB, fW, fS, fU, gB, gW, gS, gU, xW, xC, xO, hab, sp, tu, wo, wr, me, bw, ksp, ktu, fK, gK, kn, kkn, tr, pl, h0, h1, h2, h3, hP, hD⟩ := hW
  obtain ⟨hE, hB6, htb, htw, hfa, hcN, hkR, hbD, hKk, htC, hqb, hcp, hhh, hhab, hEq⟩ := id h0
  obtain ⟨hTB, hZ, hTI⟩ := id h1
  obtain ⟨hKB, hKI, hKT⟩ := id h2
  have hA : ∀ q : Nat, s.heap.size ≤ q → (fun q : Nat => s.heap.size ≤ q) q := fun _ h => h
  have hR0 : 37 + k ≤ room_1.cells := by show 37 + k ≤ 600000; omega
  have hR1 : 37 + k + 1 ≤ room_1.cells := by show 37 + k + 1 ≤ 600000; omega
  have hok : wOK E tb tw hab sp tu := ⟨hE, htb, htw, hTB.1, fun j => by have := hTB.2.1 j; omega, hhab⟩
  have htot := tot_lt hTB hTI
  refine lv_aload_n hx hb dL_law_751 rfl (lv_at hl 2 rfl) ?_
  refine goSl (T := (fo (dgC (fun k => swA [nI E, nI B, nI tb, nI tw, nI fa, nI (popS ib 6), nI sn, nI tC, nI cN, nI kR, nI bD] (-102) (nI k))) (fo (dgP cp) (if E = 0 then (fo (dgT (fun t q => abC fB fW fi ib (nI (kd t)) q)) (fo (dgE (fun e k => ceggR E hh fS fU fK ib (nI e) (nI k)) (fun e p => clkR E fB fW fi (nI e) p)) (lN 787) E) tC) else (fo (fun h k => mixH h (cftR fB fi E (nI k)).toInt64) (mixH (fo (dgT (fun t q => abC fB fW fi ib (nI (kd t)) q)) (fo (dgE (fun e k => ceggR E hh fS fU fK ib (nI e) (nI k)) (fun e p => clkR E fB fW fi (nI e) p)) (lN 787) E) tC) (lkC fB fW fi).toInt64) 3)) cN) 11)) (va_runV (As := []) (rest := []) ⟨hx, hb, hml, hown, hts⟩ (k_X10_digest l g oM oP oH oT oK oR oD aT tC tK iK kR bD aH E B tb tw fa aB aW aS aU aK fi ib sn aC cN hh fB fW fS fU fK cp tr kd pl (hE) (hTB.2.2.2.2.1) (hTB.2.2.2.2.2.1) (hTB.lt42) (hTB.2.2.2.1) (fun h => (hTI h).2.2.1) (hTB.2.2.2.2.2.2.1) (htC) (hcN) (hcp) (h3)) (cwV 0 hts gL_law_X10_digest rfl rfl rfl ⟨rfl, hdX10_digest⟩ ⟨Nat.le_of_ble_eq_true rfl, Nat.le_of_ble_eq_true rfl⟩) (preVS hC (hP.part [0, 3, 4, 5, 6, 7, 8, 9, 10, 1, 2, 22] rfl) (va_recv hC.1 hP (ci := 10) (q0 := 0) rfl rfl)) rfl rfl hl.1 rfl (lv_room (Nat.le_of_ble_eq_true rfl)) dL_law_752 ⟨hR0, Nat.le_of_ble_eq_true rfl⟩) ?_
  refine lv_aload_n hx hb dL_law_755 rfl (lv_at hl 1 rfl) ?_
  refine goPl (S := Unit) (X' := fun _ => (WC g oM oP aC oH aH oT aB aW aS aU aK oK bB bW bS bU bK oR rW rC rO oD aT E B tb tw fa kR ib sn tC tK bD cN gb gn fi gi qb iK qP qN qS cp hh fB fW fS fU gB gW gS gU xW xC xO fK gK tr ++ WM g mo aHab aSp aTu aKn aKd aPg aWo aWs aMe aBw aKsp aKtu aKkn E B tb tw fa kR ib sn tC tK bD cN gb gn mKk mBf mIk mSd (fo (dgC (fun k => swA [nI E, nI B, nI tb, nI tw, nI fa, nI (popS ib 6), nI sn, nI tC, nI cN, nI kR, nI bD] (-102) (nI k))) (fo (dgP cp) (if E = 0 then (fo (dgT (fun t q => trNow (mW E B tb tw hab sp tu kn) E ib (nI (kd t)) q)) (fo (dgE (fun e k => swA (eggL hab sp tu ib e) (kn e) (nI k)) (fun e p => lN (low (bwt (mW E B tb tw hab sp tu kn) E e 0) (tot (mW E B tb tw hab sp tu kn) E (-1) 0) p))) (lN 787) E) tC) else (dgK (lkst (w0 (mW E B tb tw hab sp tu kn)) (2 ^ E)) (fitsN (w0 (mW E B tb tw hab sp tu kn)) E (nI 0)) (fitsN (w0 (mW E B tb tw hab sp tu kn)) E (nI 1)) (fitsN (w0 (mW E B tb tw hab sp tu kn)) E (nI 2)) (fo (dgT (fun t q => trNow (mW E B tb tw hab sp tu kn) E ib (nI (kd t)) q)) (fo (dgE (fun e k => swA (eggL hab sp tu ib e) (kn e) (nI k)) (fun e p => lN (low (bwt (mW E B tb tw hab sp tu kn) E e 0) (tot (mW E B tb tw hab sp tu kn) E (-1) 0) p))) (lN 787) E) tC))) cN) 11) cp kd hab sp tu wo wr me bw ksp ktu kn kkn)) (va_runV (As := []) (rest := [.long (fo (dgC (fun k => swA [nI E, nI B, nI tb, nI tw, nI fa, nI (popS ib 6), nI sn, nI tC, nI cN, nI kR, nI bD] (-102) (nI k))) (fo (dgP cp) (if E = 0 then (fo (dgT (fun t q => abC fB fW fi ib (nI (kd t)) q)) (fo (dgE (fun e k => ceggR E hh fS fU fK ib (nI e) (nI k)) (fun e p => clkR E fB fW fi (nI e) p)) (lN 787) E) tC) else (fo (fun h k => mixH h (cftR fB fi E (nI k)).toInt64) (mixH (fo (dgT (fun t q => abC fB fW fi ib (nI (kd t)) q)) (fo (dgE (fun e k => ceggR E hh fS fU fK ib (nI e) (nI k)) (fun e p => clkR E fB fW fi (nI e) p)) (lN 787) E) tC) (lkC fB fW fi).toInt64) 3)) cN) 11)]) ⟨hx, hb, hml, hown, hts⟩ (k_X11_digest l g _ mo E kR B tb tw fa aHab ib sn aSp aTu aKn tC aKd bD cN aPg aWo aWs aMe mBf aBw mSd mIk mKk gb gn tK aKsp aKtu aKkn mH hab sp tu kn kd cp (hok) (by omega) (fun b => Nat.lt_of_le_of_lt (w_le b) (by omega)) (hTB.2.2.2.1) (htC) (hcN) (hcp) (by omega) (tot_pos hTI) (fun e => Nat.lt_of_le_of_lt (bwt_le e) (by omega))) (cwV 0 hts gL_law_X11_digest rfl rfl rfl ⟨rfl, hdX11_digest⟩ ⟨Nat.le_of_ble_eq_true rfl, Nat.le_of_ble_eq_true rfl⟩) (preVM hC (hP.sub [23, 24, 25, 26, 27, 28, 29] rfl) (hD.sub [23, 24, 25, 26, 27, 28, 29] (by decide) rfl) (va_recv hC.1 hP (ci := 11) (q0 := 23) rfl rfl)) rfl rfl hl.1 rfl (lv_room (Nat.le_of_ble_eq_true rfl)) dL_law_756 ⟨hR0, Nat.le_of_ble_eq_true rfl⟩) hP hD hS hA [23, 24, 25, 26, 27, 28, 29] [0, 1, 2, 3, 4, 5, 6, 7, 8, 9, 10, 11, 12, 13, 14, 15, 16, 17, 18, 19, 20, 21, 22, 30, 31, 32, 33, 34, 35, 36] [0, 1, 2, 3, 4, 5, 6, 7, 8, 9, 10, 11, 12, 13, 14, 15, 16, 17, 18, 19, 20, 21, 22, 30, 31, 32, 33, 34, 35, 36, 23, 24, 25, 26, 27, 28, 29] rfl rfl (by decide) (by decide) (by decide) (fun _ => rfl) (fun r9 _ H locs hw9 hP hD hS => ?_)
  subst hw9
  refine lc_eq (tgt := 765) hx hb dL_law_759 dL_law_760 (by decide) (fun _ => ?_) (fun hz => absurd (c_dg hE (fun h => (hZ h).1) (fun h => (hTI h).1) (fun h => (hTI h).2.1) (fun h => (hTI h).fip) hEq (fun j hj => (hTI (by omega)).2.2.2.1 j hj) (fun j hj => (hTI (by omega)).2.2.2.2.1 j hj) (fun j hj => (hTI (by omega)).2.2.2.2.2.1 j hj)) hz)
  refine W.widen (k := 37 + (k + 1)) (n := 4713) (by omega) (Nat.le_refl _) ?_
  exact kk _ _ ⟨_, _, _, _, _, _, _, _, _, _, _, _, _, _, _, _, _, _, _, _, _, _, _, _, _, _, _, _, _, _, _, _, _, _, _, _, _, _, _, _, _, _, _, _, _, _, _, _, _, _, _, _, _, _, _, _, _, _, _, _, _, _, _, _, _, _, _, _, _, _, _, _, _, _, _, _, _, _, _, _, _, _, _, _, _, _, _, _, _, _, h0.mono, h1.mono, h2.mono, h3, hP, hD⟩ hS
