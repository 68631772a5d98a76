/-! the numbers of the class's breaking stay small -/
section
variable {E B tb tr : Nat} {hab sp tu : Nat → Nat} {kn : Nat → Int32} {fB fW : Nat → Nat} {fi ib r : Nat} {xW xC xO : Nat → Nat} {qb : Nat}
theorem x_cb (hc : Cpl (wN E B tb tr hab sp tu kn) (2 ^ E) fB fW fi) (hE : E ≤ 6) (hib : ib < 2 ^ E) (hb : smN fW fi < 2 ^ 42) (hr : hrB fB ib r fi = true) : cbOK (popS ib 6) r (fo (spF fB fW ib) (fo zF xW (pw 3 (popS ib 6))) fi, xC, xO, qb) := by
  intro k hk j hj
  have hwc := whc_le j (popS ib 6)
  have hn := popS_le ib 6
  have hx := x_eq (wo := fun _ => 0) (bw := fun _ => 0) (T := (fun _ => 0, fun _ => 0, 0)) (xW := xW) (xC := xC) (xO := xO) (qb := qb) hc hE hib hb hr hj
  have hw := x_wb (r := r) (xW := xW) (xC := xC) (xO := xO) (qb := qb) hc hj
  have hm := Nat.mul_le_mul (show whc j (popS ib 6) ≤ 6 by omega) hw
  by_cases hq : pw 3 (popS ib 6) - k ≤ j
  · have hf := sl_far (T := cbT fB fW fi ib xW xC xO qb) (nd := r) (np := popS ib 6) hq (pw 3 (popS ib 6) - k) (by omega)
    rw [show k + (pw 3 (popS ib 6) - k) = pw 3 (popS ib 6) by omega] at hf
    obtain ⟨f1, f2, f3⟩ := hf
    refine ⟨?_, fun _ => ⟨?_, ?_⟩⟩
    · show (fo (slF (popS ib 6) r) (cbT fB fW fi ib xW xC xO qb) k).1 j < _
      rw [← f1]
      exact Nat.lt_of_le_of_lt hw (by omega)
    · show (fo (slF (popS ib 6) r) (cbT fB fW fi ib xW xC xO qb) k).2.1 j < _
      rw [← f2]
      exact Nat.lt_of_le_of_lt (Nat.le_trans hx.2.2.2 hm) (by omega)
    · show (fo (slF (popS ib 6) r) (cbT fB fW fi ib xW xC xO qb) k).2.2.1 j < _
      rw [← f3]
      exact Nat.lt_of_le_of_lt hx.2.2.1 (by omega)
  · refine ⟨?_, fun h9 => absurd h9 hq⟩
    show (fo (slF (popS ib 6) r) (cbT fB fW fi ib xW xC xO qb) k).1 j < _
    rw [sl_before k (by omega), c_W0 hc ib xW xC xO qb hj]
    refine Nat.lt_of_le_of_lt (sum_le _ (fun b _ => ?_)) (show fo (fun a b => a + wN E B tb tr hab sp tu kn b) 0 (2 ^ E) < 2 ^ 60 by rw [← cpl_smN hc]; omega)
    split
    · exact Nat.le_refl _
    · exact Nat.zero_le _
theorem x_co (hc : Cpl (wN E B tb tr hab sp tu kn) (2 ^ E) fB fW fi) (hE : E ≤ 6) (hib : ib < 2 ^ E) (hb : smN fW fi < 2 ^ 42) (hr : hrB fB ib r fi = true) : (csl fB fW fi ib xW xC xO qb r).2.1 0 < 2 ^ 48 := by
  have hp := pw3_pos (popS ib 6)
  have hwc := whc_le 0 (popS ib 6)
  have hn := popS_le ib 6
  have hx := x_eq (wo := fun _ => 0) (bw := fun _ => 0) (T := (fun _ => 0, fun _ => 0, 0)) (xW := xW) (xC := xC) (xO := xO) (qb := qb) hc hE hib hb hr hp
  have hw := x_wb (r := r) (xW := xW) (xC := xC) (xO := xO) (qb := qb) hc hp
  have hm := Nat.mul_le_mul (show whc 0 (popS ib 6) ≤ 6 by omega) hw
  rw [csl_slA]
  exact Nat.lt_of_le_of_lt (Nat.le_trans hx.2.2.2 hm) (by omega)
end
