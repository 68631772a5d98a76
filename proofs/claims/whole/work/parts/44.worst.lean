/-! worst and mean agree -/
section
variable {E B tb tr : Nat} {hab sp tu : Nat → Nat} {kn : Nat → Int32} {fB fW : Nat → Nat} {fi ib r : Nat} {xW xC xO wo bw : Nat → Nat} {qb : Nat} {T : LB}
theorem x_wo (hc : Cpl (wN E B tb tr hab sp tu kn) (2 ^ E) fB fW fi) (hE : E ≤ 6) {s : Nat} (hs : s < pw 3 (popS ib 6)) : brW E ib (wN E B tb tr hab sp tu kn) wo bw (xst ib s) = (slA (popS ib 6) r (cbT fB fW fi ib xW xC xO qb)).1 s := by
  rw [brW_Sm hE (xst_lt ib s) (fun e he h => xst_in he h), c_W hc ib xW xC xO qb r (pw 3 (popS ib 6)) s (by omega) hs]
theorem x_sp (hc : Cpl (wN E B tb tr hab sp tu kn) (2 ^ E) fB fW fi) {s e : Nat} (hs : s < pw 3 (popS ib 6)) (he : e < 6) (hb : ib.testBit e = true) (hd : dig s (popS ib e) = 0) : (slA (popS ib 6) r (cbT fB fW fi ib xW xC xO qb)).1 s = (slA (popS ib 6) r (cbT fB fW fi ib xW xC xO qb)).1 (s + 1 * pw 3 (popS ib e)) + (slA (popS ib 6) r (cbT fB fW fi ib xW xC xO qb)).1 (s + 2 * pw 3 (popS ib e)) := by
  have hp := popS_lt he hb
  have s1 := (dig_set hs hp hd (show 1 < 3 by decide)).1
  have s2 := (dig_set hs hp hd (show 2 < 3 by decide)).1
  rw [c_W hc ib xW xC xO qb r _ s (Nat.le_add_left _ _) hs, c_W hc ib xW xC xO qb r _ _ (Nat.le_add_left _ _) s1, c_W hc ib xW xC xO qb r _ _ (Nat.le_add_left _ _) s2, xst_set hs he hb hd (by decide), xst_set hs he hb hd (by decide)]
  exact Sm_split (xst_lt ib s) he (by rw [xst_dig he, if_pos hb]; exact hd) _
theorem x_wb (hc : Cpl (wN E B tb tr hab sp tu kn) (2 ^ E) fB fW fi) {s : Nat} (hs : s < pw 3 (popS ib 6)) : (slA (popS ib 6) r (cbT fB fW fi ib xW xC xO qb)).1 s ≤ smN fW fi := by
  rw [c_W hc ib xW xC xO qb r _ s (Nat.le_add_left _ _) hs, cpl_smN hc]
  exact Sm_le _ _ _
theorem x_ful (hc : Cpl (wN E B tb tr hab sp tu kn) (2 ^ E) fB fW fi) (hE : E ≤ 6) (hib : ib < 64) (hr : hrB fB ib r fi = true) {s : Nat} (hs : s < pw 3 (popS ib 6)) (hw : fo (whF s) 0 (popS ib 6) = 0) (h0 : 0 < (slA (popS ib 6) r (cbT fB fW fi ib xW xC xO qb)).1 s) : r ≤ fo (hadF s) 0 (popS ib 6) := by
  have h2E := p2le hE
  rw [c_W hc ib xW xC xO qb r _ s (Nat.le_add_left _ _) hs] at h0
  obtain ⟨b, h1, h2, h3⟩ := Sm_ex _ h0
  rw [had_box hib (by omega) hs hw h2]
  rw [c_hr hc hE, w0_N, isB, is_iff] at hr
  rcases hr b (by omega) with q | q
  · rw [bwV, if_pos h1] at q; omega
  · exact q
theorem x_eq (hc : Cpl (wN E B tb tr hab sp tu kn) (2 ^ E) fB fW fi) (hE : E ≤ 6) (hib : ib < 2 ^ E) (hb : smN fW fi < 2 ^ 42) (hr : hrB fB ib r fi = true) {s : Nat} (hs : s < pw 3 (popS ib 6)) : (slA (popS ib 6) r (cbT fB fW fi ib xW xC xO qb)).2.1 s = (laA (brW E ib (wN E B tb tr hab sp tu kn) wo bw) E ib r T).2.1 (xst ib s) ∧ (slA (popS ib 6) r (cbT fB fW fi ib xW xC xO qb)).2.2.1 s = (laA (brW E ib (wN E B tb tr hab sp tu kn) wo bw) E ib r T).1 (xst ib s) ∧ (slA (popS ib 6) r (cbT fB fW fi ib xW xC xO qb)).2.2.1 s ≤ whc s (popS ib 6) ∧ (slA (popS ib 6) r (cbT fB fW fi ib xW xC xO qb)).2.1 s ≤ whc s (popS ib 6) * (slA (popS ib 6) r (cbT fB fW fi ib xW xC xO qb)).1 s := by
  have h2E := p2le hE
  exact br_eq hE hib (fun s hs => x_wo hc hE hs) (fun s e hs he hb hd => x_sp hc hs he hb hd) (fun s hs => by have := x_wb (r := r) (xW := xW) (xC := xC) (xO := xO) (qb := qb) hc hs; omega) (fun s hs hw h0 => x_ful hc hE (by omega) hr hs hw h0) (pw 3 (popS ib 6)) s (Nat.le_add_left _ _) hs
end
