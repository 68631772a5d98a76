/-! worst and mean agree: the answers -/
theorem dig_0 (e : Nat) : dig 0 e = 0 := by unfold dig; rw [Nat.zero_div]
theorem xst_0 (ib : Nat) : xst ib 0 = 0 := by
  apply dig_ext (n := 6) (xst_lt ib 0) (pw3_pos 6)
  intro e he
  rw [xst_dig he, dig_0, dig_0]
  split <;> rfl
theorem had_0 : ∀ n, fo (hadF 0) 0 n = 0
  | 0 => rfl
  | n + 1 => by rw [fo_s, had_0 n, hadF, dig_0, if_neg (by decide)]
theorem egs_01 : popS (egs 0 1) 6 = 0 := by decide +kernel
theorem eap_at {ib e : Nat} (hb : ib.testBit e = true) : ∀ n k, k ≤ e → e < n + k → eap ib (popS ib e) n k (popS ib k) = nI e
  | 0, k, h1, h2 => by omega
  | n + 1, k, h1, h2 => by
    rw [eap]
    by_cases hk : k = e
    · subst hk
      rw [if_pos hb, if_pos rfl]
    · have ih := eap_at hb n (k + 1) (by omega) (by omega)
      by_cases hbk : ib.testBit k = true
      · rw [if_pos hbk, if_neg (fun h => hk (popS_inj hbk hb h))]
        rw [popS_bit, if_pos hbk] at ih
        exact ih
      · rw [if_neg hbk]
        rw [popS_bit, if_neg hbk, Nat.add_zero] at ih
        exact ih
theorem Sm_0 (w : Nat → Nat) (N : Nat) : Sm w N 0 = fo (fun a b => a + w b) 0 N := fo_congr N (fun b _ a => by rw [if_pos (mt_iff.mpr (fun e _ => Or.inl (dig_0 e)))])
section
variable {E B tb tr : Nat} {hab sp tu : Nat → Nat} {kn : Nat → Int32} {fB fW : Nat → Nat} {fi ib r : Nat} {xW xC xO wo bw : Nat → Nat} {qb : Nat} {T : LB}
theorem x_s0 (hc : Cpl (wN E B tb tr hab sp tu kn) (2 ^ E) fB fW fi) : (slA (popS ib 6) r (cbT fB fW fi ib xW xC xO qb)).1 0 = smN fW fi := by
  rw [c_W hc ib xW xC xO qb r _ 0 (Nat.le_add_left _ _) (pw3_pos _), xst_0, Sm_0, cpl_smN hc]
theorem x_w0 (hc : Cpl (wN E B tb tr hab sp tu kn) (2 ^ E) fB fW fi) (hE : E ≤ 6) : brW E ib (wN E B tb tr hab sp tu kn) wo bw 0 = smN fW fi := by
  have h := x_wo (wo := wo) (bw := bw) (r := 1) (ib := ib) (xW := fun _ => 0) (xC := fun _ => 0) (xO := fun _ => 0) (qb := 0) hc hE (pw3_pos (popS ib 6))
  rw [xst_0] at h
  rw [h, x_s0 hc]
theorem x_first (hc : Cpl (wN E B tb tr hab sp tu kn) (2 ^ E) fB fW fi) (hE : E ≤ 6) (hib : ib < 2 ^ E) (hb : smN fW fi < 2 ^ 42) (hr : hrB fB ib r fi = true) (hr1 : 1 ≤ r) (hp : 0 < smN fW fi) : eap ib (csl fB fW fi ib xW xC xO qb r).2.2.2 6 0 0 = (laA (brW E ib (wN E B tb tr hab sp tu kn) wo bw) E ib r T).2.2 := by
  have h2E := p2le hE
  have hn := popS_le ib 6
  have h0 := pw3_pos (popS ib 6)
  have hW0 := x_s0 (ib := ib) (r := r) (xW := xW) (xC := xC) (xO := xO) (qb := qb) hc
  have hw : ¬ fo (whF 0) 0 (popS ib 6) = 0 := fun h9 => by
    have h8 := x_ful (xW := xW) (xC := xC) (xO := xO) (qb := qb) hc hE (by omega) hr h0 h9 (by rw [hW0]; exact hp)
    rw [had_0] at h8
    omega
  have e1 : fo (slF (popS ib 6) r) (cbT fB fW fi ib xW xC xO qb) (pw 3 (popS ib 6) - 1 - 0 + 1) = brS (popS ib 6) r (fo (slF (popS ib 6) r) (cbT fB fW fi ib xW xC xO qb) (pw 3 (popS ib 6) - 1 - 0)) 0 := by
    rw [fo_s, slF, show pw 3 (popS ib 6) - 1 - (pw 3 (popS ib 6) - 1 - 0) = 0 by omega]
  rw [show pw 3 (popS ib 6) - 1 - 0 + 1 = pw 3 (popS ib 6) by omega] at e1
  have hat : ∀ j, 0 < j → (fo (slF (popS ib 6) r) (cbT fB fW fi ib xW xC xO qb) (pw 3 (popS ib 6) - 1 - 0)).1 j = (slA (popS ib 6) r (cbT fB fW fi ib xW xC xO qb)).1 j ∧ (fo (slF (popS ib 6) r) (cbT fB fW fi ib xW xC xO qb) (pw 3 (popS ib 6) - 1 - 0)).2.1 j = (slA (popS ib 6) r (cbT fB fW fi ib xW xC xO qb)).2.1 j ∧ (fo (slF (popS ib 6) r) (cbT fB fW fi ib xW xC xO qb) (pw 3 (popS ib 6) - 1 - 0)).2.2.1 j = (slA (popS ib 6) r (cbT fB fW fi ib xW xC xO qb)).2.2.1 j := fun j hj => sl_at hj h0
  generalize hT0 : fo (slF (popS ib 6) r) (cbT fB fW fi ib xW xC xO qb) (pw 3 (popS ib 6) - 1 - 0) = T0 at e1 hat
  have hsl : slA (popS ib 6) r (cbT fB fW fi ib xW xC xO qb) = brS (popS ib 6) r T0 0 := e1
  have hwp := wh_pos hn h0 hw
  have hsw := sl_W (T := cbT fB fW fi ib xW xC xO qb) (nd := r) hn h0
  rw [if_neg hw] at hsw
  have h1 : 0 < (cbW (popS ib 6) T0 0).1 0 ∧ fo (hadF 0) 0 (popS ib 6) < r := by
    refine ⟨?_, by rw [had_0]; omega⟩
    show 0 < updN T0.1 0 (T0.1 (0 + 1 * fo (whF 0) 0 (popS ib 6)) + T0.1 (0 + 2 * fo (whF 0) 0 (popS ib 6))) 0
    rw [updN_s, (hat _ (by omega)).1, (hat _ (by omega)).1, ← hsw, hW0]
    exact hp
  rw [brS_2 hw h1] at hsl
  have hbest : (csl fB fW fi ib xW xC xO qb r).2.2.2 = (fo (bnF (cbW (popS ib 6) T0 0).2.1 (cbW (popS ib 6) T0 0).2.2.1 0) (bn0 (cbW (popS ib 6) T0 0).2.2.2) (popS ib 6)).2.2 := by
    rw [csl_slA, hsl]; rfl
  have hj : ∀ j, 0 < j → (cbW (popS ib 6) T0 0).2.1 j = (slA (popS ib 6) r (cbT fB fW fi ib xW xC xO qb)).2.1 j ∧ (cbW (popS ib 6) T0 0).2.2.1 j = (slA (popS ib 6) r (cbT fB fW fi ib xW xC xO qb)).2.2.1 j := fun j hj => ⟨(updN_n (by omega)).trans (hat j hj).2.1, (updN_n (by omega)).trans (hat j hj).2.2⟩
  have hcg := (bnF_congr (C := (cbW (popS ib 6) T0 0).2.1) (O := (cbW (popS ib 6) T0 0).2.2.1) (C' := (slA (popS ib 6) r (cbT fB fW fi ib xW xC xO qb)).2.1) (O' := (slA (popS ib 6) r (cbT fB fW fi ib xW xC xO qb)).2.2.1) (s := 0) (q := (cbW (popS ib 6) T0 0).2.2.2) (q' := (cbW (popS ib 6) T0 0).2.2.2) (popS ib 6) (fun i _ _ => by
    have h3 := pw3_pos i
    unfold bnC bnO
    rw [(hj _ (by omega)).1, (hj _ (by omega)).1, (hj _ (by omega)).2, (hj _ (by omega)).2]
    exact ⟨rfl, rfl⟩)).2.2 (Or.inr rfl)
  generalize (cbW (popS ib 6) T0 0).2.2.2 = q at hcg hbest
  have hst : ∀ n, n < 6 → ib.testBit n = true → dig 0 (popS ib n) = 0 → bnC (slA (popS ib 6) r (cbT fB fW fi ib xW xC xO qb)).2.1 0 (popS ib n) = (laA (brW E ib (wN E B tb tr hab sp tu kn) wo bw) E ib r T).2.1 (xst ib 0 + pw 3 n) + (laA (brW E ib (wN E B tb tr hab sp tu kn) wo bw) E ib r T).2.1 (xst ib 0 + 2 * pw 3 n) ∧ lsN (brW E ib (wN E B tb tr hab sp tu kn) wo bw) (laA (brW E ib (wN E B tb tr hab sp tu kn) wo bw) E ib r T).1 (xst ib 0) n = 1 + bnO (slA (popS ib 6) r (cbT fB fW fi ib xW xC xO qb)).2.2.1 0 (popS ib n) ∧ bnC (slA (popS ib 6) r (cbT fB fW fi ib xW xC xO qb)).2.1 0 (popS ib n) < 2 ^ 60 ∧ bnO (slA (popS ib 6) r (cbT fB fW fi ib xW xC xO qb)).2.2.1 0 (popS ib n) ≤ 5 := by
    intro n hn6 hbn hd
    have hpl := popS_lt hn6 hbn
    have s1 := (dig_set h0 hpl hd (show 1 < 3 by decide)).1
    have s2 := (dig_set h0 hpl hd (show 2 < 3 by decide)).1
    obtain ⟨i1, i2, i3, i4⟩ := x_eq (T := T) (wo := wo) (bw := bw) (xW := xW) (xC := xC) (xO := xO) (qb := qb) hc hE hib hb hr s1
    obtain ⟨j1, j2, j3, j4⟩ := x_eq (T := T) (wo := wo) (bw := bw) (xW := xW) (xC := xC) (xO := xO) (qb := qb) hc hE hib hb hr s2
    have k1 := x_wb (r := r) (xW := xW) (xC := xC) (xO := xO) (qb := qb) hc s1
    have k2 := x_wb (r := r) (xW := xW) (xC := xC) (xO := xO) (qb := qb) hc s2
    have x1 := xst_set h0 hn6 hbn hd (show 1 < 3 by decide)
    have x2 := xst_set h0 hn6 hbn hd (show 2 < 3 by decide)
    have w1 := whc_set h0 hpl hd (show 1 < 3 by decide) (by decide) (popS ib 6) (Nat.le_refl _)
    have w2 := whc_set h0 hpl hd (show 2 < 3 by decide) (by decide) (popS ib 6) (Nat.le_refl _)
    rw [if_pos hpl] at w1 w2
    have hwc := whc_le 0 (popS ib 6)
    have y1 : xst ib 0 + pw 3 n = xst ib (0 + 1 * pw 3 (popS ib n)) := by rw [x1, Nat.one_mul]
    have m1 := Nat.mul_le_mul (show whc (0 + 1 * pw 3 (popS ib n)) (popS ib 6) ≤ 6 by omega) k1
    have m2 := Nat.mul_le_mul (show whc (0 + 2 * pw 3 (popS ib n)) (popS ib 6) ≤ 6 by omega) k2
    refine ⟨?_, ?_, ?_, ?_⟩
    · rw [y1, ← x2]
      show (slA (popS ib 6) r (cbT fB fW fi ib xW xC xO qb)).2.1 _ + (slA (popS ib 6) r (cbT fB fW fi ib xW xC xO qb)).2.1 _ = _
      rw [i1, j1]
    · show 1 + lgr _ _ (xst ib 0 + pw 3 n) (xst ib 0 + 2 * pw 3 n) = _
      rw [y1, ← x2, lgr_mx (fun h9 => (la_0 (xst_lt _ _) (Or.inl h9)).1) (fun h9 => (la_0 (xst_lt _ _) (Or.inl h9)).1), ← i2, ← j2]
      rfl
    · show (slA (popS ib 6) r (cbT fB fW fi ib xW xC xO qb)).2.1 _ + (slA (popS ib 6) r (cbT fB fW fi ib xW xC xO qb)).2.1 _ < _
      have a1 := Nat.le_trans i4 m1
      have a2 := Nat.le_trans j4 m2
      omega
    · unfold bnO
      split <;> omega
  have hwk := wk_all (q := q) hst E hE
  have hcut : popS ib 6 = popS ib E := by
    have h9 := popS_cut hib (6 - E)
    rw [show E + (6 - E) = 6 by omega] at h9
    exact h9
  rw [← hcut] at hwk
  obtain ⟨pz, q1, q2, _⟩ : ∃ p, p < popS ib 6 ∧ dig 0 p = 0 ∧ True := by
    rcases wh_or 0 (popS ib 6) with q | ⟨p, q1, q2, q3⟩
    · exact absurd q hw
    · exact ⟨p, q1, q2, trivial⟩
  obtain ⟨ez, z1, z2, z3⟩ := popS_egg 6 pz q1
  obtain ⟨g1, g2, g3, g4⟩ := hst ez z1 z2 (dig_0 _)
  rw [z3] at g4
  have hmin := (bnF_min (C := (slA (popS ib 6) r (cbT fB fW fi ib xW xC xO qb)).2.1) (O := (slA (popS ib 6) r (cbT fB fW fi ib xW xC xO qb)).2.2.1) (q := q) q2 (popS ib 6) q1).2
  rcases hwk with ⟨y1, _⟩ | ⟨y1, y2, y3, y4, y5, ee, y6, y7, y8, y9⟩
  · rw [y1] at hmin
    have : (bn0 q).2.1 = 2147483647 := rfl
    omega
  · rw [hbest, hcg, ← y8]
    have ha := eap_at y7 6 0 (Nat.zero_le _) (by omega)
    rw [show popS ib 0 = 0 from rfl] at ha
    rw [ha, la_b hE (by rw [x_w0 hc hE, egs_01]; omega), ← y9, xst_0]
    rfl
theorem c_wst (hc : Cpl (wN E B tb tr hab sp tu kn) (2 ^ E) fB fW fi) (hE : E ≤ 6) (hib : ib < 2 ^ E) (hb : smN fW fi < 2 ^ 42) (hp : 0 < smN fW fi) (as : Nat) (wr me : Nat → Nat) (bf x q : Int32) : cwsR E ib as fB fW fi xW xC xO qb x q = wstR E ib as (w0 (mW E B tb tr hab sp tu kn)) wo wr me bw bf x q := by
  unfold cwsR wstR
  by_cases h1 : (wth x (nI 1) (nI 6) && wth q (nI 0) (nI 1)) = true
  · rw [if_pos h1, if_pos h1]
    by_cases h2 : 0 < E ∧ as < 60
    · rw [if_pos h2, if_pos h2, ← c_hr hc hE]
      by_cases h3 : hrB fB ib (ix x) fi = true
      · rw [if_pos h3, if_pos h3, w0_N]
        obtain ⟨k, hk, rfl⟩ := wth_n (Bool.and_eq_true_iff.mp h1).1
        rw [ix_nI (by omega)] at h3 ⊢
        have hx := x_eq (wo := wo) (bw := bw) (T := (wr, me, bf)) (xW := xW) (xC := xC) (xO := xO) (qb := qb) hc hE hib hb h3 (pw3_pos (popS ib 6))
        rw [xst_0] at hx
        have e3 : brA E ib (wN E B tb tr hab sp tu kn) wo wr me bw bf k = laA (brW E ib (wN E B tb tr hab sp tu kn) wo bw) E ib k (wr, me, bf) := rfl
        rw [x_first (wo := wo) (bw := bw) (T := (wr, me, bf)) hc hE hib hb h3 hk.1 hp, e3, csl_slA, hx.2.1]
      · rw [if_neg h3, if_neg h3]
    · rw [if_neg h2, if_neg h2]
  · rw [if_neg h1, if_neg h1]
theorem c_men (hc : Cpl (wN E B tb tr hab sp tu kn) (2 ^ E) fB fW fi) (hE : E ≤ 6) (hib : ib < 2 ^ E) (hb : smN fW fi < 2 ^ 42) (as : Nat) (wr me : Nat → Nat) (bf x q : Int32) : cmnR E ib as fB fW fi xW xC xO qb x q = menR E ib as (w0 (mW E B tb tr hab sp tu kn)) wo wr me bw bf x q := by
  unfold cmnR menR
  by_cases h1 : (wth x (nI 1) (nI 6) && wth q (nI 0) (nI 1)) = true
  · rw [if_pos h1, if_pos h1]
    by_cases h2 : 0 < E ∧ as < 60
    · rw [if_pos h2, if_pos h2, ← c_hr hc hE]
      by_cases h3 : hrB fB ib (ix x) fi = true
      · rw [if_pos h3, if_pos h3, w0_N]
        have hx := x_eq (wo := wo) (bw := bw) (T := (wr, me, bf)) (xW := xW) (xC := xC) (xO := xO) (qb := qb) hc hE hib hb h3 (pw3_pos (popS ib 6))
        rw [xst_0] at hx
        have e3 : brA E ib (wN E B tb tr hab sp tu kn) wo wr me bw bf (ix x) = laA (brW E ib (wN E B tb tr hab sp tu kn) wo bw) E ib (ix x) (wr, me, bf) := rfl
        rw [e3, csl_slA, hx.1, x_w0 hc hE]
      · rw [if_neg h3, if_neg h3]
    · rw [if_neg h2, if_neg h2]
  · rw [if_neg h1, if_neg h1]
end
