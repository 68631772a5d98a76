/-! the reference's weights at a state -/
theorem bwU_at (E : Nat) (w bw : Nat → Nat) (j : Nat) : ∀ n, j < n → fo (bwU E w) bw n j = bwV E w j
  | 0, h => absurd h (Nat.not_lt_zero _)
  | n + 1, h => by
    rw [fo_s, bwU]
    by_cases q : j = n
    · rw [q]; exact updN_s _ _ _
    · rw [updN_n q]; exact bwU_at E w bw j n (by omega)
theorem lwU_at (E ib : Nat) (bw wo : Nat → Nat) (j : Nat) : ∀ n, j < n → fo (lwU E ib bw) wo n j = lwV E ib bw j
  | 0, h => absurd h (Nat.not_lt_zero _)
  | n + 1, h => by
    rw [fo_s, lwU]
    by_cases q : j = n
    · rw [q]; exact updN_s _ _ _
    · rw [updN_n q]; exact lwU_at E ib bw wo j n (by omega)
theorem Sm_congr {w w' : Nat → Nat} {S : Nat} (N : Nat) (h : ∀ b, b < N → w b = w' b) : Sm w N S = Sm w' N S := fo_congr N (fun b hb a => by rw [h b hb])
theorem brW_Sm {E ib : Nat} {w wo bw : Nat → Nat} (hE : E ≤ 6) {S : Nat} (hS : S < 729) (hin : ∀ e, e < 6 → dig S e ≠ 0 → ib.testBit e = true) : brW E ib w wo bw S = Sm w (2 ^ E) S := by
  have h2E := p2le hE
  unfold brW
  rw [lwU_at _ _ _ _ _ 729 hS, lw_Sm hin]
  exact Sm_congr _ (fun b hb => by rw [bwU_at _ _ _ _ 64 (by omega), bwV, if_pos hb])
theorem xst_in {ib s e : Nat} (he : e < 6) (h : dig (xst ib s) e ≠ 0) : ib.testBit e = true := by
  rw [xst_dig he] at h
  by_cases hb : ib.testBit e = true
  · exact hb
  · rw [if_neg hb] at h; exact absurd rfl h
theorem Sm_le (w : Nat → Nat) (S : Nat) : ∀ N, Sm w N S ≤ fo (fun a b => a + w b) 0 N := fun N => sum_le N (fun b _ => by split; exact Nat.le_refl _; exact Nat.zero_le _)
/-- a box that matches a state without whole places has as many raw eggs in the box as the state says -/
theorem had_box {ib s b : Nat} (hib : ib < 64) (hb : b < 64) (hs : s < pw 3 (popS ib 6)) (hw : fo (whF s) 0 (popS ib 6) = 0) (hm : mt (xst ib s) b = true) : fo (hadF s) 0 (popS ib 6) = popS (andn ib b) 6 := by
  rw [had_x]
  have hp : ∀ n, n ≤ 6 → popS (andn ib b) n = fo (fun a e => a + (if xd ib s e = 1 then 1 else 0)) 0 n := by
    intro n
    induction n with
    | zero => intro _; rfl
    | succ n ih =>
      intro hn
      rw [popS_bit, fo_s, ih (by omega)]
      have h63 : (63 : Nat).testBit n = true := by
        rcases (show n = 0 ∨ n = 1 ∨ n = 2 ∨ n = 3 ∨ n = 4 ∨ n = 5 by omega) with rfl | rfl | rfl | rfl | rfl | rfl <;> decide
      have hbit : (andn ib b).testBit n = (ib.testBit n && !b.testBit n) := by
        unfold andn
        rw [Nat.testBit_and, Nat.testBit_xor, h63]
        cases b.testBit n <;> rfl
      rw [hbit]
      have h1 := mt_iff.mp hm n (by omega)
      rw [xst_dig (by omega)] at h1
      unfold xd
      cases hi : ib.testBit n
      · simp
      · rw [hi, if_pos rfl] at h1
        have h2 := wh_zero _ hw (popS ib n) (popS_lt (by omega) hi)
        have h3 := h1.resolve_left h2
        rw [h3]
        cases b.testBit n <;> simp
  exact (hp 6 (Nat.le_refl _)).symm
