/-! the numbers of the reference's breaking stay small -/
theorem lw_out {E ib S f : Nat} {bw : Nat → Nat} (hf : f < 6) (hd : dig S f ≠ 0) (hb : ib.testBit f = false) : lwV E ib bw S = 0 := by
  unfold lwV
  rw [if_neg]
  intro h
  have h1 := congrArg (fun x => Nat.testBit x f) h
  have h63 : (63 : Nat).testBit f = true := by
    rcases (show f = 0 ∨ f = 1 ∨ f = 2 ∨ f = 3 ∨ f = 4 ∨ f = 5 by omega) with rfl | rfl | rfl | rfl | rfl | rfl <;> decide
  have hp : 0 < dig S f := by omega
  simp [andn, Nat.testBit_and, Nat.testBit_xor, egs_bit, h63, hf, hb, egB, hp] at h1
theorem lsF_some {wo wr me : Nat → Nat} {ib S : Nat} : ∀ n, (fo (lsF wo wr me ib S) (7, false, 0, -1) n).2.1 = true → ∃ e, e < n ∧ ib.testBit e = true ∧ dig S e = 0 ∧ (fo (lsF wo wr me ib S) (7, false, 0, -1) n).2.2.1 = lsT wo me S e
  | 0, h => by cases h
  | n + 1, h => by
    rw [fo_s] at h ⊢
    have ih := lsF_some (wo := wo) (wr := wr) (me := me) (ib := ib) (S := S) n
    by_cases h1 : ib.testBit n = true
    · by_cases h2 : dig S n = 0
      · rw [lsF_2 h1 h2]
        unfold lsH
        by_cases hq : lsQ (fo (lsF wo wr me ib S) (7, false, 0, -1) n) (lsT wo me S n) = true
        · exact ⟨n, by omega, h1, h2, if_pos hq⟩
        · have ht : (fo (lsF wo wr me ib S) (7, false, 0, -1) n).2.1 = true := by
            cases hz : (fo (lsF wo wr me ib S) (7, false, 0, -1) n).2.1
            · exact absurd (lsQ_t hz) hq
            · rfl
          obtain ⟨e, g1, g2, g3, g4⟩ := ih ht
          exact ⟨e, by omega, g2, g3, (if_neg hq).trans g4⟩
      · rw [lsF_1 h2] at h ⊢
        obtain ⟨e, g1, g2⟩ := ih h
        exact ⟨e, by omega, g2⟩
    · rw [lsF_0 (by simpa using h1)] at h ⊢
      obtain ⟨e, g1, g2⟩ := ih h
      exact ⟨e, by omega, g2⟩
theorem la_bd {wo : Nat → Nat} {E ib r : Nat} {T : LB} (hE : E ≤ 6) (hsp : ∀ S e, S < 729 → e < E → ib.testBit e = true → dig S e = 0 → wo S = wo (S + 1 * pw 3 e) + wo (S + 2 * pw 3 e)) : ∀ k S, 729 ≤ S + k → S < 729 → (laA wo E ib r T).1 S ≤ 7 ∧ (laA wo E ib r T).2.1 S ≤ whc S 6 * wo S
  | 0, S, h1, h2 => by omega
  | k + 1, S, h1, hS => by
    by_cases h : wo S = 0 ∨ r ≤ popS (egs S 1) 6
    · obtain ⟨a1, a2⟩ := la_0 (T := T) (E := E) (ib := ib) hS h
      rw [a1, a2]; exact ⟨Nat.zero_le _, Nat.zero_le _⟩
    · obtain ⟨a1, a2⟩ := la_1 (T := T) hE hS h
      rw [a1, a2]
      refine ⟨lsF_le _ _ _ _ _ _, ?_⟩
      cases hz : (laW wo E ib r T S).2.1
      · exact Nat.zero_le _
      · obtain ⟨e, g1, g2, g3, g4⟩ := lsF_some E hz
        show (laW wo E ib r T S).2.2.1 ≤ _
        unfold laW
        rw [g4]
        have s1 := (dig_set (n := 6) hS (by omega) g3 (show 1 < 3 by decide)).1
        have s2 := (dig_set (n := 6) hS (by omega) g3 (show 2 < 3 by decide)).1
        have h3 := pw3_pos e
        have i := (la_bd (T := T) (r := r) hE hsp k (S + 1 * pw 3 e) (by omega) s1).2
        have j := (la_bd (T := T) (r := r) hE hsp k (S + 2 * pw 3 e) (by omega) s2).2
        have w1 := whc_set (n := 6) hS (by omega) g3 (show 1 < 3 by decide) (by decide) 6 (Nat.le_refl _)
        have w2 := whc_set (n := 6) hS (by omega) g3 (show 2 < 3 by decide) (by decide) 6 (Nat.le_refl _)
        rw [if_pos (show e < 6 by omega)] at w1 w2
        have hws := hsp S e hS g1 g2 g3
        obtain ⟨m, hm⟩ : ∃ m, whc S 6 = m + 1 := ⟨whc (S + 1 * pw 3 e) 6, w1⟩
        rw [show whc (S + 1 * pw 3 e) 6 = m by omega] at i
        rw [show whc (S + 2 * pw 3 e) 6 = m by omega] at j
        rw [hm, Nat.add_mul, Nat.one_mul]
        have hmm : m * wo S = m * wo (S + 1 * pw 3 e) + m * wo (S + 2 * pw 3 e) := by rw [← Nat.mul_add, ← hws]
        unfold lsT
        rw [Nat.one_mul] at i
        rw [Nat.one_mul] at hmm
        omega
