/-! the reference's breaking: what the laid states hold -/
theorem layS_far {wo : Nat → Nat} {E ib raw s j : Nat} {T : LB} (h : j ≠ s) : (layS wo E ib raw T s).1 j = T.1 j ∧ (layS wo E ib raw T s).2.1 j = T.2.1 j := by
  unfold layS
  split
  · exact ⟨updN_n h, updN_n h⟩
  · exact ⟨(updN_n h).trans (updN_n h), (updN_n h).trans (updN_n h)⟩
theorem la_far {wo : Nat → Nat} {E ib raw : Nat} {T : LB} {k j : Nat} (hj : 729 - k ≤ j) : ∀ m, k + m ≤ 729 → (fo (layF wo E ib raw) T (k + m)).1 j = (fo (layF wo E ib raw) T k).1 j ∧ (fo (layF wo E ib raw) T (k + m)).2.1 j = (fo (layF wo E ib raw) T k).2.1 j
  | 0, _ => ⟨rfl, rfl⟩
  | m + 1, h => by
    obtain ⟨h1, h2⟩ := la_far (T := T) (wo := wo) (E := E) (ib := ib) (raw := raw) hj m (by omega)
    have hb := layS_far (wo := wo) (E := E) (ib := ib) (raw := raw) (s := 728 - (k + m)) (j := j) (T := fo (layF wo E ib raw) T (k + m)) (by omega)
    exact ⟨hb.1.trans h1, hb.2.trans h2⟩
def laA (wo : Nat → Nat) (E ib raw : Nat) (T : LB) : LB := fo (layF wo E ib raw) T 729
theorem la_at {wo : Nat → Nat} {E ib raw : Nat} {T : LB} {s j : Nat} (hj : s < j) (hs : s < 729) : (fo (layF wo E ib raw) T (728 - s)).1 j = (laA wo E ib raw T).1 j ∧ (fo (layF wo E ib raw) T (728 - s)).2.1 j = (laA wo E ib raw T).2.1 j := by
  have h := la_far (T := T) (wo := wo) (E := E) (ib := ib) (raw := raw) (k := 728 - s) (j := j) (by omega) (s + 1) (by omega)
  rw [show 728 - s + (s + 1) = 729 by omega] at h
  exact ⟨h.1.symm, h.2.symm⟩
theorem la_own {wo : Nat → Nat} {E ib raw : Nat} {T : LB} {s : Nat} (hs : s < 729) : (laA wo E ib raw T).1 s = (layS wo E ib raw (fo (layF wo E ib raw) T (728 - s)) s).1 s ∧ (laA wo E ib raw T).2.1 s = (layS wo E ib raw (fo (layF wo E ib raw) T (728 - s)) s).2.1 s := by
  have h := la_far (T := T) (wo := wo) (E := E) (ib := ib) (raw := raw) (k := 728 - s + 1) (j := s) (by omega) s (by omega)
  rw [show 728 - s + 1 + s = 729 by omega] at h
  have e : fo (layF wo E ib raw) T (728 - s + 1) = layS wo E ib raw (fo (layF wo E ib raw) T (728 - s)) s := by
    rw [fo_s, layF, show 728 - (728 - s) = s by omega]
  rw [e] at h
  exact h
theorem la_best {wo : Nat → Nat} {E ib raw : Nat} {T : LB} : (laA wo E ib raw T).2.2 = (layS wo E ib raw (fo (layF wo E ib raw) T 728) 0).2.2 := rfl
theorem lsF_congr {wo wr me wr' me' : Nat → Nat} {ib s : Nat} {S : LST} : ∀ n, (∀ e, e < n → dig s e = 0 → wr (s + pw 3 e) = wr' (s + pw 3 e) ∧ wr (s + 2 * pw 3 e) = wr' (s + 2 * pw 3 e) ∧ me (s + pw 3 e) = me' (s + pw 3 e) ∧ me (s + 2 * pw 3 e) = me' (s + 2 * pw 3 e)) → fo (lsF wo wr me ib s) S n = fo (lsF wo wr' me' ib s) S n := fun n h => fo_congr n (fun e he S => by
  by_cases h1 : ib.testBit e = true
  · by_cases h2 : dig s e = 0
    · rw [lsF_2 h1 h2, lsF_2 h1 h2]
      obtain ⟨a1, a2, a3, a4⟩ := h e he h2
      unfold lsH lsN lsT lgr
      rw [a1, a2, a3, a4]
    · rw [lsF_1 h2, lsF_1 h2]
  · rw [lsF_0 (by simpa using h1), lsF_0 (by simpa using h1)])
/-- the walk over the eggs at a state, out of the laid states -/
def laW (wo : Nat → Nat) (E ib raw : Nat) (T : LB) (s : Nat) : LST := fo (lsF wo (laA wo E ib raw T).1 (laA wo E ib raw T).2.1 ib s) (7, false, 0, -1) E
theorem la_walk {wo : Nat → Nat} {E ib raw : Nat} {T : LB} (hE : E ≤ 6) {s : Nat} (hs : s < 729) : fo (lsF wo (updN (fo (layF wo E ib raw) T (728 - s)).1 s 0) (updN (fo (layF wo E ib raw) T (728 - s)).2.1 s 0) ib s) (7, false, 0, -1) E = laW wo E ib raw T s := by
  refine lsF_congr E (fun e he hd => ?_)
  have h7 := dig_two s hs e (by omega) hd
  have h8 := pw3 e (by omega)
  have b1 := la_at (T := T) (wo := wo) (E := E) (ib := ib) (raw := raw) (s := s) (j := s + pw 3 e) (by omega) hs
  have b2 := la_at (T := T) (wo := wo) (E := E) (ib := ib) (raw := raw) (s := s) (j := s + 2 * pw 3 e) (by omega) hs
  exact ⟨(updN_n (by omega)).trans b1.1, (updN_n (by omega)).trans b2.1, (updN_n (by omega)).trans b1.2, (updN_n (by omega)).trans b2.2⟩
theorem la_0 {wo : Nat → Nat} {E ib raw : Nat} {T : LB} {s : Nat} (hs : s < 729) (h : wo s = 0 ∨ raw ≤ popS (egs s 1) 6) : (laA wo E ib raw T).1 s = 0 ∧ (laA wo E ib raw T).2.1 s = 0 := by
  obtain ⟨o1, o2⟩ := la_own (T := T) (wo := wo) (E := E) (ib := ib) (raw := raw) hs
  rw [o1, o2, layS_0 h]
  exact ⟨updN_s _ _ _, updN_s _ _ _⟩
theorem la_1 {wo : Nat → Nat} {E ib raw : Nat} {T : LB} (hE : E ≤ 6) {s : Nat} (hs : s < 729) (h : ¬ (wo s = 0 ∨ raw ≤ popS (egs s 1) 6)) : (laA wo E ib raw T).1 s = (laW wo E ib raw T s).1 ∧ (laA wo E ib raw T).2.1 s = cond (laW wo E ib raw T s).2.1 (laW wo E ib raw T s).2.2.1 0 := by
  obtain ⟨o1, o2⟩ := la_own (T := T) (wo := wo) (E := E) (ib := ib) (raw := raw) hs
  rw [o1, o2, layS_1 h, la_walk hE hs]
  exact ⟨updN_s _ _ _, updN_s _ _ _⟩
theorem la_b {wo : Nat → Nat} {E ib raw : Nat} {T : LB} (hE : E ≤ 6) (h : ¬ (wo 0 = 0 ∨ raw ≤ popS (egs 0 1) 6)) : (laA wo E ib raw T).2.2 = (laW wo E ib raw T 0).2.2.2 := by
  rw [la_best, layS_1 h]
  have := la_walk (wo := wo) (E := E) (ib := ib) (raw := raw) (T := T) hE (s := 0) (by decide)
  rw [← this]
