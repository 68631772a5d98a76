/-! the solved states and the laid states agree -/
theorem popS_cut {ib E : Nat} (h : ib < 2 ^ E) : ∀ d, popS ib (E + d) = popS ib E
  | 0 => rfl
  | d + 1 => by
    show popS ib ((E + d) + 1) = _
    rw [popS_bit, bit_hi h (Nat.le_add_right E d), popS_cut h d]; rfl
theorem bnF_min {C O : Nat → Nat} {s q p : Nat} (hd : dig s p = 0) : ∀ n, p < n → (fo (bnF C O s) (bn0 q) n).1 ≤ bnC C s p ∧ (fo (bnF C O s) (bn0 q) n).2.1 ≤ bnO O s p
  | 0, h => absurd h (Nat.not_lt_zero _)
  | n + 1, h => by
    rw [fo_s]
    by_cases q9 : n = p
    · subst q9
      rw [bnF_1 hd]
      refine ⟨?_, ?_⟩
      · show (if _ < _ then _ else _) ≤ _
        split <;> omega
      · show (if _ < _ then _ else _) ≤ _
        split <;> omega
    · obtain ⟨h1, h2⟩ := bnF_min (C := C) (O := O) (q := q) hd n (by omega)
      by_cases hn : dig s n = 0
      · rw [bnF_1 hn]
        refine ⟨?_, ?_⟩
        · show (if _ < _ then _ else _) ≤ _
          split <;> omega
        · show (if _ < _ then _ else _) ≤ _
          split <;> omega
      · rw [bnF_0 hn]; exact ⟨h1, h2⟩
theorem br_eq {E ib r : Nat} {wo : Nat → Nat} {T : LB} {K : CB} (hE : E ≤ 6) (hib : ib < 2 ^ E)
    (hWo : ∀ s, s < pw 3 (popS ib 6) → wo (xst ib s) = (slA (popS ib 6) r K).1 s)
    (hsp : ∀ s e, s < pw 3 (popS ib 6) → e < 6 → ib.testBit e = true → dig s (popS ib e) = 0 → (slA (popS ib 6) r K).1 s = (slA (popS ib 6) r K).1 (s + 1 * pw 3 (popS ib e)) + (slA (popS ib 6) r K).1 (s + 2 * pw 3 (popS ib e)))
    (hWb : ∀ s, s < pw 3 (popS ib 6) → (slA (popS ib 6) r K).1 s < 2 ^ 43)
    (hful : ∀ s, s < pw 3 (popS ib 6) → fo (whF s) 0 (popS ib 6) = 0 → 0 < (slA (popS ib 6) r K).1 s → r ≤ fo (hadF s) 0 (popS ib 6)) :
    ∀ k s, pw 3 (popS ib 6) ≤ s + k → s < pw 3 (popS ib 6) → (slA (popS ib 6) r K).2.1 s = (laA wo E ib r T).2.1 (xst ib s) ∧ (slA (popS ib 6) r K).2.2.1 s = (laA wo E ib r T).1 (xst ib s) ∧ (slA (popS ib 6) r K).2.2.1 s ≤ whc s (popS ib 6) ∧ (slA (popS ib 6) r K).2.1 s ≤ whc s (popS ib 6) * (slA (popS ib 6) r K).1 s
  | 0, s, h1, h2 => by omega
  | k + 1, s, h1, hs => by
    have hn := popS_le ib 6
    have hX := xst_lt ib s
    obtain ⟨c0, c1⟩ := sl_CO (T := K) (nd := r) hn hs
    by_cases hg : 0 < (slA (popS ib 6) r K).1 s ∧ fo (hadF s) 0 (popS ib 6) < r
    · have hw : ¬ fo (whF s) 0 (popS ib 6) = 0 := fun h9 => by have := hful s hs h9 hg.1; omega
      obtain ⟨a1, a2⟩ := c1 hw hg
      have hr : ¬ (wo (xst ib s) = 0 ∨ r ≤ popS (egs (xst ib s) 1) 6) := by rw [hWo s hs, ← had_eq]; omega
      obtain ⟨b1, b2⟩ := la_1 (T := T) hE hX hr
      have hst : ∀ n, n < 6 → ib.testBit n = true → dig s (popS ib n) = 0 → bnC (slA (popS ib 6) r K).2.1 s (popS ib n) = (laA wo E ib r T).2.1 (xst ib s + pw 3 n) + (laA wo E ib r T).2.1 (xst ib s + 2 * pw 3 n) ∧ lsN wo (laA wo E ib r T).1 (xst ib s) n = 1 + bnO (slA (popS ib 6) r K).2.2.1 s (popS ib n) ∧ bnC (slA (popS ib 6) r K).2.1 s (popS ib n) < 2 ^ 60 ∧ bnO (slA (popS ib 6) r K).2.2.1 s (popS ib n) + 1 ≤ whc s (popS ib 6) ∧ bnC (slA (popS ib 6) r K).2.1 s (popS ib n) + (slA (popS ib 6) r K).1 s ≤ whc s (popS ib 6) * (slA (popS ib 6) r K).1 s := by
        intro n hn6 hb hd
        have hp := popS_lt hn6 hb
        have s1 := (dig_set hs hp hd (show 1 < 3 by decide)).1
        have s2 := (dig_set hs hp hd (show 2 < 3 by decide)).1
        have h3 := pw3_pos (popS ib n)
        obtain ⟨i1, i2, i3, i4⟩ := br_eq (T := T) hE hib hWo hsp hWb hful k (s + 1 * pw 3 (popS ib n)) (by omega) s1
        obtain ⟨j1, j2, j3, j4⟩ := br_eq (T := T) hE hib hWo hsp hWb hful k (s + 2 * pw 3 (popS ib n)) (by omega) s2
        have x1 := xst_set hs hn6 hb hd (show 1 < 3 by decide)
        have x2 := xst_set hs hn6 hb hd (show 2 < 3 by decide)
        have w1 := whc_set hs hp hd (show 1 < 3 by decide) (by decide) (popS ib 6) (Nat.le_refl _)
        have w2 := whc_set hs hp hd (show 2 < 3 by decide) (by decide) (popS ib 6) (Nat.le_refl _)
        rw [if_pos hp] at w1 w2
        have hws := hsp s n hs hn6 hb hd
        have hwc := whc_le s (popS ib 6)
        have y1 : xst ib s + pw 3 n = xst ib (s + 1 * pw 3 (popS ib n)) := by rw [x1, Nat.one_mul]
        rw [y1, ← x2]
        have hlim : bnC (slA (popS ib 6) r K).2.1 s (popS ib n) + (slA (popS ib 6) r K).1 s ≤ whc s (popS ib 6) * (slA (popS ib 6) r K).1 s := by
          have e1 : whc (s + 1 * pw 3 (popS ib n)) (popS ib 6) = whc s (popS ib 6) - 1 := by omega
          have e2 : whc (s + 2 * pw 3 (popS ib n)) (popS ib 6) = whc s (popS ib 6) - 1 := by omega
          rw [e1] at i4
          rw [e2] at j4
          obtain ⟨m, hm⟩ : ∃ m, whc s (popS ib 6) = m + 1 := ⟨whc s (popS ib 6) - 1, by omega⟩
          rw [hm] at i4 j4 ⊢
          rw [show m + 1 - 1 = m from rfl] at i4 j4
          rw [Nat.add_mul, Nat.one_mul]
          have hmm : m * (slA (popS ib 6) r K).1 s = m * (slA (popS ib 6) r K).1 (s + 1 * pw 3 (popS ib n)) + m * (slA (popS ib 6) r K).1 (s + 2 * pw 3 (popS ib n)) := by rw [hws, Nat.mul_add]
          show (slA (popS ib 6) r K).2.1 _ + (slA (popS ib 6) r K).2.1 _ + _ ≤ _
          omega
        refine ⟨?_, ?_, ?_, ?_, hlim⟩
        · show (slA (popS ib 6) r K).2.1 _ + (slA (popS ib 6) r K).2.1 _ = _
          rw [i1, j1]
        · show 1 + lgr wo _ (xst ib s + pw 3 n) (xst ib s + 2 * pw 3 n) = _
          rw [y1, ← x2, lgr_mx (fun h9 => (la_0 (xst_lt _ _) (Or.inl h9)).1) (fun h9 => (la_0 (xst_lt _ _) (Or.inl h9)).1), ← i2, ← j2]
          rfl
        · have hb1 := hWb s hs
          have hmul := Nat.mul_le_mul_right ((slA (popS ib 6) r K).1 s) (show whc s (popS ib 6) ≤ 6 by omega)
          omega
        · unfold bnO
          split <;> omega
      have hwc := whc_le s (popS ib 6)
      have hwk := wk_all (q := 0) (C := (slA (popS ib 6) r K).2.1) (O := (slA (popS ib 6) r K).2.2.1) (wo := wo) (wr := (laA wo E ib r T).1) (me := (laA wo E ib r T).2.1) (ib := ib) (s := s) (fun n h1 h2 h3 => by
        obtain ⟨g1, g2, g3, g4, g5⟩ := hst n h1 h2 h3
        exact ⟨g1, g2, g3, by omega⟩) E hE
      have hcut : popS ib 6 = popS ib E := by
        have := popS_cut hib (6 - E)
        rw [show E + (6 - E) = 6 by omega] at this
        exact this
      rw [← hcut] at hwk
      obtain ⟨p, q1, q2, _⟩ : ∃ p, p < popS ib 6 ∧ dig s p = 0 ∧ True := by
        rcases wh_or s (popS ib 6) with q | ⟨p, q1, q2, q3⟩
        · exact absurd q hw
        · exact ⟨p, q1, q2, trivial⟩
      obtain ⟨e, e1, e2, e3⟩ := popS_egg 6 p q1
      obtain ⟨g1, g2, g3, g4, g5⟩ := hst e e1 e2 (by rw [e3]; exact q2)
      obtain ⟨m1, m2⟩ := bnF_min (C := (slA (popS ib 6) r K).2.1) (O := (slA (popS ib 6) r K).2.2.1) (q := 0) q2 (popS ib 6) q1
      rw [e3] at g3 g4 g5
      rcases hwk with ⟨z1, _⟩ | ⟨z1, z2, z3, z4, z5, _⟩
      · rw [z1] at m2
        have : (bn0 0).2.1 = 2147483647 := rfl
        omega
      · refine ⟨?_, ?_, ?_, ?_⟩
        · rw [a1, b2]
          show _ = cond (laW wo E ib r T (xst ib s)).2.1 _ 0
          unfold laW
          rw [z1, z4, hWo s hs]; rfl
        · rw [a2, b1]
          unfold laW
          rw [z2]
        · rw [a2]; omega
        · rw [a1]; omega
    · obtain ⟨a1, a2⟩ := c0 (Or.inr hg)
      have hr : wo (xst ib s) = 0 ∨ r ≤ popS (egs (xst ib s) 1) 6 := by rw [hWo s hs, ← had_eq]; omega
      obtain ⟨b1, b2⟩ := la_0 (T := T) (E := E) (ib := ib) hX hr
      rw [a1, a2, b1, b2]
      exact ⟨rfl, rfl, Nat.zero_le _, Nat.zero_le _⟩
