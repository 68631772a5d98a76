/-! counts of raw and of whole -/
theorem had_x (ib s : Nat) : ∀ n, fo (hadF s) 0 (popS ib n) = fo (fun a e => a + (if xd ib s e = 1 then 1 else 0)) 0 n
  | 0 => rfl
  | n + 1 => by
    have ih := had_x ib s n
    rw [fo_s, ← ih, popS_bit]
    by_cases hb : ib.testBit n = true
    · rw [if_pos hb, fo_s, hadF, xd, if_pos hb]
      split <;> rfl
    · rw [if_neg hb, Nat.add_zero, xd, if_neg hb]; rfl
theorem pop_x (S f : Nat) : ∀ n, n ≤ 6 → popS (egs S f) n = fo (fun a e => a + (if egB f (dig S e) then 1 else 0)) 0 n
  | 0, _ => rfl
  | n + 1, h => by
    have ih := pop_x S f n (by omega)
    rw [popS_bit, fo_s, ih, egs_bit, decide_eq_true (show n < 6 by omega), Bool.true_and]
theorem had_eq (ib s : Nat) : fo (hadF s) 0 (popS ib 6) = popS (egs (xst ib s) 1) 6 := by
  rw [had_x, pop_x _ _ 6 (Nat.le_refl _)]
  refine fo_congr 6 (fun e he a => ?_)
  have h1 : dig (xst ib s) e = xd ib s e := num_dig (xd_lt ib s) 6 e he
  rw [h1]
  unfold egB
  by_cases q : xd ib s e = 1
  · rw [if_pos q, q]; rfl
  · rw [if_neg q, if_neg]
    rw [if_neg (by decide)]
    exact fun h9 => q (of_decide_eq_true h9)
/-- how many places are whole -/
def whc (s n : Nat) : Nat := fo (fun a p => a + (if dig s p = 0 then 1 else 0)) 0 n
theorem whc_le (s : Nat) : ∀ n, whc s n ≤ n
  | 0 => Nat.le_refl _
  | n + 1 => by have h := whc_le s n; show whc s n + _ ≤ _; split <;> omega
theorem whc_set {s n p c : Nat} (hs : s < pw 3 n) (hp : p < n) (h0 : dig s p = 0) (hc : c < 3) (hc0 : c ≠ 0) : ∀ m, m ≤ n → whc s m = whc (s + c * pw 3 p) m + (if p < m then 1 else 0)
  | 0, _ => rfl
  | m + 1, hm => by
    have ih := whc_set hs hp h0 hc hc0 m (by omega)
    have h2 := (dig_set hs hp h0 hc).2 m (by omega)
    show whc s m + _ = whc _ m + _ + _
    rw [ih, h2]
    by_cases q : m = p
    · subst q
      rw [if_pos rfl, if_pos h0, if_neg hc0, if_neg (Nat.lt_irrefl _), if_pos (Nat.lt_succ_self _)]
    · rw [if_neg q]
      by_cases q2 : p < m
      · rw [if_pos q2, if_pos (show p < m + 1 by omega), Nat.add_right_comm]
      · rw [if_neg q2, if_neg (show ¬ p < m + 1 by omega), Nat.add_zero, Nat.add_zero]
theorem lgr_mx {wo wr : Nat → Nat} {x y : Nat} (hx : wo x = 0 → wr x = 0) (hy : wo y = 0 → wr y = 0) : lgr wo wr x y = if wr x < wr y then wr y else wr x := by
  have h1 : (if 0 < wo x then wr x else 0) = wr x := by
    split
    · rfl
    · exact (hx (by omega)).symm
  have h2 : (if 0 < wo y then wr y else 0) = wr y := by
    split
    · rfl
    · exact (hy (by omega)).symm
  unfold lgr
  rw [h1, h2]
  split <;> split <;> omega
/-- where nothing is whole, what has weight has raw eggs enough -/
theorem Sm_ex {w : Nat → Nat} {S : Nat} : ∀ N, 0 < Sm w N S → ∃ b, b < N ∧ mt S b = true ∧ 0 < w b
  | 0, h => absurd h (Nat.lt_irrefl _)
  | N + 1, h => by
    by_cases q : 0 < Sm w N S
    · obtain ⟨b, h1, h2⟩ := Sm_ex N q
      exact ⟨b, by omega, h2⟩
    · have h9 : 0 < Sm w N S + (if mt S N then w N else 0) := h
      cases hm : mt S N
      · rw [hm] at h9; simp at h9; omega
      · rw [hm] at h9; simp at h9
        exact ⟨N, by omega, hm, by omega⟩
