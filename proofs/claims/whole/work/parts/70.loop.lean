set_option maxHeartbeats 4000000 in
set_option maxRecDepth 100000 in
/-- the law's loop -/
theorem law_loop {p : Program} (l : Launch) {e : Env} {s : State} {m : MethodId} {below : List Frame} {meth : Method} {c : Code} {b L : Nat} {xs : Nat → Int32} {g : GG} {oM mo : Nat} (X : LX p s m c b L xs g) (hL : L ≤ 256) (hr : meth.sig.returnType = ret) (hlocks : meth.locks = false) : ∀ (n i k : Nat), 64 < n + k → i = 4 * k → i ≤ L → ∀ (H : Heap) (locs : List Loc), LW g (fun q => s.heap.size ≤ q) oM mo k H → va_S (fun q => s.heap.size ≤ q) s.heap H locs → ∀ ls : Array Slot, lv_has ls 4 [(3, .int (nI i)), (2, .ref mo), (1, .ref oM), (0, .ref b)] → W p l e room_1 s m #[Value.ref b] below meth c H locs (37 + k) 4713 (lw_Z below #[Value.ref b] s) (F0 m 18 ls []) := by
  intro n
  induction n with
  | zero => intro i k h1 h2 h3; exact absurd h1 (by omega)
  | succ n ih =>
    intro i k hn hik hiL H locs hW hS ls hl
    obtain ⟨hx, hb, hml, hown, hts, hX, hbl, hC⟩ := id X
    have hbA : ¬ (fun q : Nat => s.heap.size ≤ q) b := Nat.not_le.mpr hbl
    refine lv_iload_n hx hb dL_law_18 rfl (lv_at hl 0 rfl) ?_
    refine lv_aload_n hx hb dL_law_19 rfl (lv_at hl 3 rfl) ?_
    refine va_slen hx hb hX hbl hbA hS dL_law_20 ?_
    refine lv_iconst (v := nI 4) hx hb dL_law_21 (by decide) ?_
    refine lv_isub hx hb dL_law_22 ?_
    refine lv_icmp_gt (tgt := 771) hx hb dL_law_23 (by decide) (fun hc => ?_) (fun hc => ?_)
    · refine lv_iconst (v := 1) hx hb dL_law_771 (by decide) ?_
      refine va_forget (fun q hq => hS.2.2 q hq) ?_
      refine W.widen (k := 600000) (n := 7302250) (by omega) (by omega) ?_
      exact lw_ret hx hb hr hlocks dL_law_772
    · have hlt : i + 4 ≤ L := by
        have h1 : (nI L - nI 4).toInt = (L : Int) - 4 := pk_sub_toInt (by omega) (by decide)
        have h2 : (nI i).toInt = (i : Int) := nI_toInt (by omega)
        rcases Nat.lt_or_ge L (i + 4) with q | q
        · exact absurd ((tI_lt (nI L - nI 4) (nI i)).mpr (by rw [h1, h2]; omega)) hc
        · exact q
      have hgo : KT p l e s m below meth c b oM mo g k (lw_Z below #[Value.ref b] s) ls := by
        intro H1 locs1 hW1 hS1
        refine lv_iinc (v := nI (i + 4)) (lv' := [(3, .int (nI (i + 4))), (2, .ref mo), (1, .ref oM), (0, .ref b)]) hx hb dL_law_765 hl (k := 0) rfl (iincn _ _ _ (by decide)) (by decide) rfl (fun ls hl => ?_)
        refine lv_goto (tgt := 18) hx hb dL_law_768 (by decide) ?_
        exact ih (i + 4) (k + 1) (by omega) (by omega) (by omega) H1 locs1 hW1 hS1 ls hl
      refine lv_aload_n hx hb dL_law_26 rfl (lv_at hl 3 rfl) ?_
      refine lv_iload_n hx hb dL_law_27 rfl (lv_at hl 0 rfl) ?_
      refine va_sld hx hb hX hbl hbA hS (vp_in_nI (by omega) (by omega)) dL_law_28 ?_
      refine lv_bipush (v := nI 31) hx hb dL_law_29 (by decide) ?_
      refine lv_iand hx hb dL_law_31 ?_
      generalize xs (nI i).toNatClampNeg &&& nI 31 = z
      refine LW_elim hW (fun oP aC oH aH oT aB aW aS aU aK oK bB bW bS bU bK oR rW rC rO oD aT aHab aSp aTu aKn aKd aPg aWo aWs aMe aBw aKsp aKtu aKkn E B tb tw fa kR ib sn tC tK bD cN gb gn fi gi qb mKk iK qP qN mBf mIk qS mSd mH cp kd hh fB fW fS fU gB gW gS gU xW xC xO hab sp tu wo wr me bw ksp ktu fK gK kn kkn tr pl h0 h1 h2 h3 hP hD => ?_)
      rcases sw_cases z 23 (by decide) with ⟨v, hv, hz⟩ | hz
      · have hv : v = 0 ∨ v = 1 ∨ v = 2 ∨ v = 3 ∨ v = 4 ∨ v = 5 ∨ v = 6 ∨ v = 7 ∨ v = 8 ∨ v = 9 ∨ v = 10 ∨ v = 11 ∨ v = 12 ∨ v = 13 ∨ v = 14 ∨ v = 15 ∨ v = 16 ∨ v = 17 ∨ v = 18 ∨ v = 19 ∨ v = 20 ∨ v = 21 ∨ v = 22 := by omega
        subst hz
        rcases hv with rfl | rfl | rfl | rfl | rfl | rfl | rfl | rfl | rfl | rfl | rfl | rfl | rfl | rfl | rfl | rfl | rfl | rfl | rfl | rfl | rfl | rfl | rfl
        · refine lv_tableIn (off := 108) (tgt := 140) hx hb dL_law_32 (by decide) (by decide) (by decide) (by decide) ?_
          exact lw_letter X hlt hL (by omega) hl h0 h1 h2 h3 hP hD hS hgo
        · refine lv_tableIn (off := 131) (tgt := 163) hx hb dL_law_32 (by decide) (by decide) (by decide) (by decide) ?_
          exact lw_blank X hlt hL (by omega) hl h0 h1 h2 h3 hP hD hS hgo
        · refine lv_tableIn (off := 144) (tgt := 176) hx hb dL_law_32 (by decide) (by decide) (by decide) (by decide) ?_
          exact lw_fault X hlt hL (by omega) hl h0 h1 h2 h3 hP hD hS hgo
        · refine lv_tableIn (off := 157) (tgt := 189) hx hb dL_law_32 (by decide) (by decide) (by decide) (by decide) ?_
          exact lw_kitchen X hlt hL (by omega) hl h0 h1 h2 h3 hP hD hS hgo
        · refine lv_tableIn (off := 170) (tgt := 202) hx hb dL_law_32 (by decide) (by decide) (by decide) (by decide) ?_
          exact lw_egg X hlt hL (by omega) hl h0 h1 h2 h3 hP hD hS hgo
        · refine lv_tableIn (off := 203) (tgt := 235) hx hb dL_law_32 (by decide) (by decide) (by decide) (by decide) ?_
          exact lw_spin X hlt hL (by omega) hl h0 h1 h2 h3 hP hD hS hgo
        · refine lv_tableIn (off := 252) (tgt := 284) hx hb dL_law_32 (by decide) (by decide) (by decide) (by decide) ?_
          exact lw_stop X hlt hL (by omega) hl h0 h1 h2 h3 hP hD hS hgo
        · refine lv_tableIn (off := 285) (tgt := 317) hx hb dL_law_32 (by decide) (by decide) (by decide) (by decide) ?_
          exact lw_crack X hlt hL (by omega) hl h0 h1 h2 h3 hP hD hS hgo
        · refine lv_tableIn (off := 334) (tgt := 366) hx hb dL_law_32 (by decide) (by decide) (by decide) (by decide) ?_
          exact lw_likely X hlt hL (by omega) hl h0 h1 h2 h3 hP hD hS hgo
        · refine lv_tableIn (off := 368) (tgt := 400) hx hb dL_law_32 (by decide) (by decide) (by decide) (by decide) ?_
          exact lw_likeliest X hlt hL (by omega) hl h0 h1 h2 h3 hP hD hS hgo
        · refine lv_tableIn (off := 381) (tgt := 413) hx hb dL_law_32 (by decide) (by decide) (by decide) (by decide) ?_
          exact lw_turning X hlt hL (by omega) hl h0 h1 h2 h3 hP hD hS hgo
        · refine lv_tableIn (off := 414) (tgt := 446) hx hb dL_law_32 (by decide) (by decide) (by decide) (by decide) ?_
          exact lw_worst X hlt hL (by omega) hl h0 h1 h2 h3 hP hD hS hgo
        · refine lv_tableIn (off := 447) (tgt := 479) hx hb dL_law_32 (by decide) (by decide) (by decide) (by decide) ?_
          exact lw_mean X hlt hL (by omega) hl h0 h1 h2 h3 hP hD hS hgo
        · refine lv_tableIn (off := 481) (tgt := 513) hx hb dL_law_32 (by decide) (by decide) (by decide) (by decide) ?_
          exact lw_risk X hlt hL (by omega) hl h0 h1 h2 h3 hP hD hS hgo
        · refine lv_tableIn (off := 515) (tgt := 547) hx hb dL_law_32 (by decide) (by decide) (by decide) (by decide) ?_
          exact lw_trier X hlt hL (by omega) hl h0 h1 h2 h3 hP hD hS hgo
        · refine lv_tableIn (off := 538) (tgt := 570) hx hb dL_law_32 (by decide) (by decide) (by decide) (by decide) ?_
          exact lw_about X hlt hL (by omega) hl h0 h1 h2 h3 hP hD hS hgo
        · refine lv_tableIn (off := 571) (tgt := 603) hx hb dL_law_32 (by decide) (by decide) (by decide) (by decide) ?_
          exact lw_as X hlt hL (by omega) hl h0 h1 h2 h3 hP hD hS hgo
        · refine lv_tableIn (off := 604) (tgt := 636) hx hb dL_law_32 (by decide) (by decide) (by decide) (by decide) ?_
          exact lw_fits X hlt hL (by omega) hl h0 h1 h2 h3 hP hD hS hgo
        · refine lv_tableIn (off := 627) (tgt := 659) hx hb dL_law_32 (by decide) (by decide) (by decide) (by decide) ?_
          exact lw_mornings X hlt hL (by omega) hl h0 h1 h2 h3 hP hD hS hgo
        · refine lv_tableIn (off := 670) (tgt := 702) hx hb dL_law_32 (by decide) (by decide) (by decide) (by decide) ?_
          exact lw_image X hlt hL (by omega) hl h0 h1 h2 h3 hP hD hS hgo
        · refine lv_tableIn (off := 683) (tgt := 715) hx hb dL_law_32 (by decide) (by decide) (by decide) (by decide) ?_
          exact lw_restore X hlt hL (by omega) hl h0 h1 h2 h3 hP hD hS hgo
        · refine lv_tableIn (off := 696) (tgt := 728) hx hb dL_law_32 (by decide) (by decide) (by decide) (by decide) ?_
          exact lw_count X hlt hL (by omega) hl h0 h1 h2 h3 hP hD hS hgo
        · refine lv_tableIn (off := 719) (tgt := 751) hx hb dL_law_32 (by decide) (by decide) (by decide) (by decide) ?_
          exact lw_digest X hlt hL (by omega) hl h0 h1 h2 h3 hP hD hS hgo
      · refine lv_tableOut (tgt := 765) hx hb dL_law_32 (by omega) (by decide) ?_
        refine W.widen (k := 37 + (k + 1)) (n := 4713) (by omega) (Nat.le_refl _) ?_
        exact hgo _ _ ⟨_, _, _, _, _, _, _, _, _, _, _, _, _, _, _, _, _, _, _, _, _, _, _, _, _, _, _, _, _, _, _, _, _, _, _, _, _, _, _, _, _, _, _, _, _, _, _, _, _, _, _, _, _, _, _, _, _, _, _, _, _, _, _, _, _, _, _, _, _, _, _, _, _, _, _, _, _, _, _, _, _, _, _, _, _, _, _, _, _, _, h0.mono, h1.mono, h2.mono, h3, hP, hD⟩ hS
