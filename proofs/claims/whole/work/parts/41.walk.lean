/-! the walk over the places against the walk over the eggs -/
def wkR (X : BNS) (Y : LST) (q ib n W : Nat) : Prop := (X = bn0 q ∧ Y = (7, false, 0, -1)) ∨ (Y.2.1 = true ∧ Y.1 = 1 + X.2.1 ∧ X.2.1 ≤ 5 ∧ Y.2.2.1 = W + X.1 ∧ X.1 < 2 ^ 60 ∧ ∃ e, e < n ∧ ib.testBit e = true ∧ popS ib e = X.2.2 ∧ Y.2.2.2 = nI e)
theorem wkR_s {X : BNS} {Y : LST} {q ib n W : Nat} (h : wkR X Y q ib n W) : wkR X Y q ib (n + 1) W := by
  rcases h with h | ⟨h1, h2, h3, h4, h5, e, h6, h7⟩
  · exact Or.inl h
  · exact Or.inr ⟨h1, h2, h3, h4, h5, e, by omega, h7⟩
theorem wk_step {C O wo wr me : Nat → Nat} {ib s S n q : Nat} {X : BNS} {Y : LST} (hb : ib.testBit n = true) (hd : dig s (popS ib n) = 0) (hD : dig S n = 0) (h1 : bnC C s (popS ib n) = me (S + pw 3 n) + me (S + 2 * pw 3 n)) (h2 : lsN wo wr S n = 1 + bnO O s (popS ib n)) (h3 : bnC C s (popS ib n) < 2 ^ 60) (h4 : bnO O s (popS ib n) ≤ 5) (h : wkR X Y q ib n (wo S)) : wkR (bnF C O s X (popS ib n)) (lsF wo wr me ib S Y n) q ib (n + 1) (wo S) := by
  have hT : lsT wo me S n = wo S + bnC C s (popS ib n) := by rw [h1]; unfold lsT; omega
  rw [bnF_1 hd, lsF_2 hb hD]
  unfold lsH
  rw [h2, hT]
  right
  rcases h with ⟨rfl, rfl⟩ | ⟨g1, g2, g3, g4, g5, e, g6, g7, g8, g9⟩
  · have a1 : bnC C s (popS ib n) < (bn0 q).1 := by show _ < 9223372036854775807; omega
    have a2 : bnO O s (popS ib n) < (bn0 q).2.1 := by show _ < 2147483647; omega
    rw [if_pos a1, if_pos a2, if_pos a1]
    simp only [lsQ_t (S := ((7, false, 0, -1) : LST)) rfl, if_true]
    refine ⟨trivial, ?_, h4, ?_, h3, n, by omega, hb, rfl, ?_⟩
    · rw [if_pos (by omega)]
    · first | rfl | trivial
    · first | rfl | trivial
  · have hQ : lsQ Y (wo S + bnC C s (popS ib n)) = decide (bnC C s (popS ib n) < X.1) := by
      unfold lsQ
      rw [g1, g4]
      show (false || decide _) = decide _
      rw [Bool.false_or]
      exact decide_eq_decide.mpr (by omega)
    rw [hQ, g2, g4]
    by_cases hc : bnC C s (popS ib n) < X.1
    · simp only [decide_eq_true hc, hc, if_true]
      refine ⟨trivial, ?_, ?_, rfl, h3, n, by omega, hb, rfl, rfl⟩
      · show (if _ < _ then _ else _) = 1 + (if _ < _ then _ else _)
        by_cases ho : bnO O s (popS ib n) < X.2.1
        · rw [if_pos ho, if_pos (by omega)]
        · rw [if_neg ho, if_neg (by omega)]
      · show (if _ < _ then _ else _) ≤ 5
        split <;> omega
    · simp only [decide_eq_false hc, hc, if_false, Bool.false_eq_true]
      refine ⟨trivial, ?_, ?_, rfl, g5, e, by omega, g7, g8, g9⟩
      · show (if _ < _ then _ else _) = 1 + (if _ < _ then _ else _)
        by_cases ho : bnO O s (popS ib n) < X.2.1
        · rw [if_pos ho, if_pos (by omega)]
        · rw [if_neg ho, if_neg (by omega)]
      · show (if _ < _ then _ else _) ≤ 5
        split <;> omega
theorem wk_all {C O wo wr me : Nat → Nat} {ib s q : Nat} (hst : ∀ n, n < 6 → ib.testBit n = true → dig s (popS ib n) = 0 → bnC C s (popS ib n) = me (xst ib s + pw 3 n) + me (xst ib s + 2 * pw 3 n) ∧ lsN wo wr (xst ib s) n = 1 + bnO O s (popS ib n) ∧ bnC C s (popS ib n) < 2 ^ 60 ∧ bnO O s (popS ib n) ≤ 5) : ∀ n, n ≤ 6 → wkR (fo (bnF C O s) (bn0 q) (popS ib n)) (fo (lsF wo wr me ib (xst ib s)) (7, false, 0, -1) n) q ib n (wo (xst ib s))
  | 0, _ => Or.inl ⟨rfl, rfl⟩
  | n + 1, hn => by
    have ih := wk_all (q := q) hst n (by omega)
    rw [popS_bit, fo_s (lsF wo wr me ib (xst ib s))]
    by_cases hb : ib.testBit n = true
    · rw [if_pos hb, fo_s (bnF C O s)]
      have hx : dig (xst ib s) n = dig s (popS ib n) := by rw [xst_dig (by omega), if_pos hb]
      by_cases hd : dig s (popS ib n) = 0
      · obtain ⟨h1, h2, h3, h4⟩ := hst n (by omega) hb hd
        exact wk_step hb hd (hx.trans hd) h1 h2 h3 h4 ih
      · rw [bnF_0 hd, lsF_1 (by rw [hx]; exact hd)]
        exact wkR_s ih
    · rw [if_neg hb, Nat.add_zero, lsF_0 (by simpa using hb)]
      exact wkR_s ih
