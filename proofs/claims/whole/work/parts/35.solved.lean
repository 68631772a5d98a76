/-! the class's breaking: what the solved states hold -/
theorem brS_far {np nd s j : Nat} {T : CB} (h : j ≠ s) : (brS np nd T s).1 j = T.1 j ∧ (brS np nd T s).2.1 j = T.2.1 j ∧ (brS np nd T s).2.2.1 j = T.2.2.1 j := by
  unfold brS
  split
  · exact ⟨rfl, updN_n h, updN_n h⟩
  · split
    · exact ⟨updN_n h, (updN_n h).trans (updN_n h), (updN_n h).trans (updN_n h)⟩
    · exact ⟨updN_n h, updN_n h, updN_n h⟩
theorem sl_far {np nd : Nat} {T : CB} {k j : Nat} (hj : pw 3 np - k ≤ j) : ∀ m, k + m ≤ pw 3 np → (fo (slF np nd) T (k + m)).1 j = (fo (slF np nd) T k).1 j ∧ (fo (slF np nd) T (k + m)).2.1 j = (fo (slF np nd) T k).2.1 j ∧ (fo (slF np nd) T (k + m)).2.2.1 j = (fo (slF np nd) T k).2.2.1 j
  | 0, _ => ⟨rfl, rfl, rfl⟩
  | m + 1, h => by
    obtain ⟨h1, h2, h3⟩ := sl_far (T := T) (nd := nd) hj m (by omega)
    have hb := brS_far (np := np) (nd := nd) (s := pw 3 np - 1 - (k + m)) (j := j) (T := fo (slF np nd) T (k + m)) (by omega)
    exact ⟨hb.1.trans h1, hb.2.1.trans h2, hb.2.2.trans h3⟩
theorem sl_before {np nd : Nat} {T : CB} {j : Nat} : ∀ k, j + k < pw 3 np → (fo (slF np nd) T k).1 j = T.1 j
  | 0, _ => rfl
  | k + 1, h => (brS_far (np := np) (nd := nd) (s := pw 3 np - 1 - k) (T := fo (slF np nd) T k) (by omega)).1.trans (sl_before k (by omega))
/-- all states solved -/
def slA (np nd : Nat) (T : CB) : CB := fo (slF np nd) T (pw 3 np)
theorem sl_at {np nd : Nat} {T : CB} {s j : Nat} (hj : s < j) (hs : s < pw 3 np) : (fo (slF np nd) T (pw 3 np - 1 - s)).1 j = (slA np nd T).1 j ∧ (fo (slF np nd) T (pw 3 np - 1 - s)).2.1 j = (slA np nd T).2.1 j ∧ (fo (slF np nd) T (pw 3 np - 1 - s)).2.2.1 j = (slA np nd T).2.2.1 j := by
  have h := sl_far (T := T) (nd := nd) (np := np) (k := pw 3 np - 1 - s) (j := j) (by omega) (s + 1) (by omega)
  rw [show pw 3 np - 1 - s + (s + 1) = pw 3 np by omega] at h
  exact ⟨h.1.symm, h.2.1.symm, h.2.2.symm⟩
theorem sl_own {np nd : Nat} {T : CB} {s : Nat} (hs : s < pw 3 np) : (slA np nd T).1 s = (brS np nd (fo (slF np nd) T (pw 3 np - 1 - s)) s).1 s ∧ (slA np nd T).2.1 s = (brS np nd (fo (slF np nd) T (pw 3 np - 1 - s)) s).2.1 s ∧ (slA np nd T).2.2.1 s = (brS np nd (fo (slF np nd) T (pw 3 np - 1 - s)) s).2.2.1 s := by
  have h := sl_far (T := T) (nd := nd) (np := np) (k := pw 3 np - 1 - s + 1) (j := s) (by omega) s (by omega)
  rw [show pw 3 np - 1 - s + 1 + s = pw 3 np by omega] at h
  have e : fo (slF np nd) T (pw 3 np - 1 - s + 1) = brS np nd (fo (slF np nd) T (pw 3 np - 1 - s)) s := by
    rw [fo_s, slF, show pw 3 np - 1 - (pw 3 np - 1 - s) = s by omega]
  rw [e] at h
  exact h
theorem bnF_congr {C O C' O' : Nat → Nat} {s q q' : Nat} : ∀ n, (∀ i, i < n → dig s i = 0 → bnC C s i = bnC C' s i ∧ bnO O s i = bnO O' s i) → (fo (bnF C O s) (bn0 q) n).1 = (fo (bnF C' O' s) (bn0 q') n).1 ∧ (fo (bnF C O s) (bn0 q) n).2.1 = (fo (bnF C' O' s) (bn0 q') n).2.1 ∧ ((∃ i, i < n ∧ dig s i = 0 ∧ bnC C s i < 9223372036854775807) ∨ q = q' → (fo (bnF C O s) (bn0 q) n).2.2 = (fo (bnF C' O' s) (bn0 q') n).2.2)
  | 0, _ => ⟨rfl, rfl, fun h => by
      rcases h with ⟨i, hi, _⟩ | h
      · exact absurd hi (Nat.not_lt_zero _)
      · exact h⟩
  | n + 1, h => by
    obtain ⟨h1, h2, h3⟩ := bnF_congr (C := C) (O := O) (C' := C') (O' := O') (s := s) (q := q) (q' := q') n (fun i hi => h i (by omega))
    rw [fo_s, fo_s]
    by_cases hd : dig s n = 0
    · obtain ⟨g1, g2⟩ := h n (by omega) hd
      rw [bnF_1 hd, bnF_1 hd, g1, g2, h1, h2]
      refine ⟨rfl, rfl, fun hx => ?_⟩
      show (if _ < _ then n else _) = (if _ < _ then n else _)
      by_cases hl : bnC C' s n < (fo (bnF C' O' s) (bn0 q') n).1
      · rw [if_pos hl, if_pos hl]
      · rw [if_neg hl, if_neg hl]
        refine h3 ?_
        rcases hx with ⟨i, hi, hi2, hi3⟩ | hx
        · rcases Nat.lt_or_ge i n with q9 | q9
          · exact Or.inl ⟨i, q9, hi2, hi3⟩
          · obtain rfl : i = n := by omega
            by_cases he : ∃ i', i' < i ∧ dig s i' = 0 ∧ bnC C s i' < 9223372036854775807
            · exact Or.inl he
            · exfalso
              have hmax : ∀ m, m ≤ i → (fo (bnF C' O' s) (bn0 q') m).1 = 9223372036854775807 := by
                intro m
                induction m with
                | zero => intro _; rfl
                | succ m ih =>
                  intro hm
                  have ih := ih (by omega)
                  rw [fo_s]
                  by_cases hdm : dig s m = 0
                  · rw [bnF_1 hdm, ih]
                    show (if _ < _ then _ else _) = _
                    rw [if_neg]
                    intro h9
                    exact he ⟨m, by omega, hdm, by rw [(h m (by omega) hdm).1]; exact h9⟩
                  · rw [bnF_0 hdm]; exact ih
              rw [hmax i (Nat.le_refl _), ← g1] at hl
              exact hl hi3
        · exact Or.inr hx
    · rw [bnF_0 hd, bnF_0 hd]
      refine ⟨h1, h2, fun hx => h3 ?_⟩
      rcases hx with ⟨i, hi, hi2, hi3⟩ | hx
      · refine Or.inl ⟨i, ?_, hi2, hi3⟩
        rcases Nat.lt_or_ge i n with q9 | q9
        · exact q9
        · rw [show i = n by omega] at hi2; exact absurd hi2 hd
      · exact Or.inr hx
/-- the whole place's step lies above the state -/
theorem wh_pos {np s : Nat} (hn : np ≤ 6) (hs : s < pw 3 np) (h : ¬ fo (whF s) 0 np = 0) : 0 < fo (whF s) 0 np ∧ s + 2 * fo (whF s) 0 np < pw 3 np := by
  rcases wh_or s np with q | ⟨e, q1, q2, q3⟩
  · exact absurd q h
  · have h7 := dig_two3 np (by omega) s hs e q1 q2
    have h8 := pw3 e (by omega)
    rw [q3]; exact ⟨h8.1, h7⟩
theorem sl_W {np nd : Nat} {T : CB} (hn : np ≤ 6) {s : Nat} (hs : s < pw 3 np) : (slA np nd T).1 s = if fo (whF s) 0 np = 0 then T.1 s else (slA np nd T).1 (s + 1 * fo (whF s) 0 np) + (slA np nd T).1 (s + 2 * fo (whF s) 0 np) := by
  rw [(sl_own (T := T) (nd := nd) hs).1]
  by_cases h : fo (whF s) 0 np = 0
  · rw [if_pos h, brS_0 h]
    exact sl_before _ (by omega)
  · rw [if_neg h]
    obtain ⟨h1, h2⟩ := wh_pos hn hs h
    have a1 := (sl_at (T := T) (nd := nd) (np := np) (s := s) (j := s + 1 * fo (whF s) 0 np) (by omega) hs).1
    have a2 := (sl_at (T := T) (nd := nd) (np := np) (s := s) (j := s + 2 * fo (whF s) 0 np) (by omega) hs).1
    have hw : (cbW np (fo (slF np nd) T (pw 3 np - 1 - s)) s).1 s = (slA np nd T).1 (s + 1 * fo (whF s) 0 np) + (slA np nd T).1 (s + 2 * fo (whF s) 0 np) := by
      rw [← a1, ← a2]; exact updN_s _ _ _
    by_cases h9 : 0 < (cbW np (fo (slF np nd) T (pw 3 np - 1 - s)) s).1 s ∧ fo (hadF s) 0 np < nd
    · rw [brS_2 h h9]; exact hw
    · rw [brS_1 h h9]; exact hw
theorem sl_CO {np nd : Nat} {T : CB} (hn : np ≤ 6) {s : Nat} (hs : s < pw 3 np) :
    ((fo (whF s) 0 np = 0 ∨ ¬ (0 < (slA np nd T).1 s ∧ fo (hadF s) 0 np < nd)) → (slA np nd T).2.1 s = 0 ∧ (slA np nd T).2.2.1 s = 0) ∧
    (¬ fo (whF s) 0 np = 0 → 0 < (slA np nd T).1 s ∧ fo (hadF s) 0 np < nd → (slA np nd T).2.1 s = (slA np nd T).1 s + (fo (bnF (slA np nd T).2.1 (slA np nd T).2.2.1 s) (bn0 0) np).1 ∧ (slA np nd T).2.2.1 s = 1 + (fo (bnF (slA np nd T).2.1 (slA np nd T).2.2.1 s) (bn0 0) np).2.1) := by
  obtain ⟨o1, o2, o3⟩ := sl_own (T := T) (nd := nd) hs
  by_cases h : fo (whF s) 0 np = 0
  · refine ⟨fun _ => ?_, fun h9 => absurd h h9⟩
    rw [o2, o3, brS_0 h]
    exact ⟨updN_s _ _ _, updN_s _ _ _⟩
  · by_cases h9 : 0 < (cbW np (fo (slF np nd) T (pw 3 np - 1 - s)) s).1 s ∧ fo (hadF s) 0 np < nd
    · have hw : (cbW np (fo (slF np nd) T (pw 3 np - 1 - s)) s).1 s = (slA np nd T).1 s := by rw [o1, brS_2 h h9]; rfl
      refine ⟨fun hx => ?_, fun _ _ => ?_⟩
      · rw [hw] at h9
        rcases hx with q | q
        · exact absurd q h
        · exact absurd h9 q
      · rw [o2, o3, brS_2 h h9]
        have hg := bnF_congr (C := (cbW np (fo (slF np nd) T (pw 3 np - 1 - s)) s).2.1) (O := (cbW np (fo (slF np nd) T (pw 3 np - 1 - s)) s).2.2.1) (C' := (slA np nd T).2.1) (O' := (slA np nd T).2.2.1) (s := s) (q := (cbW np (fo (slF np nd) T (pw 3 np - 1 - s)) s).2.2.2) (q' := 0) np (fun i hi hd => by
          have h7 := dig_two3 np (by omega) s hs i hi hd
          have h8 := pw3 i (by omega)
          have b1 := sl_at (T := T) (nd := nd) (np := np) (s := s) (j := s + 1 * pw 3 i) (by omega) hs
          have b2 := sl_at (T := T) (nd := nd) (np := np) (s := s) (j := s + 2 * pw 3 i) (by omega) hs
          have c1 : (cbW np (fo (slF np nd) T (pw 3 np - 1 - s)) s).2.1 (s + 1 * pw 3 i) = (slA np nd T).2.1 (s + 1 * pw 3 i) := (updN_n (by omega)).trans b1.2.1
          have c2 : (cbW np (fo (slF np nd) T (pw 3 np - 1 - s)) s).2.1 (s + 2 * pw 3 i) = (slA np nd T).2.1 (s + 2 * pw 3 i) := (updN_n (by omega)).trans b2.2.1
          have d1 : (cbW np (fo (slF np nd) T (pw 3 np - 1 - s)) s).2.2.1 (s + 1 * pw 3 i) = (slA np nd T).2.2.1 (s + 1 * pw 3 i) := (updN_n (by omega)).trans b1.2.2
          have d2 : (cbW np (fo (slF np nd) T (pw 3 np - 1 - s)) s).2.2.1 (s + 2 * pw 3 i) = (slA np nd T).2.2.1 (s + 2 * pw 3 i) := (updN_n (by omega)).trans b2.2.2
          unfold bnC bnO
          rw [c1, c2, d1, d2]
          exact ⟨rfl, rfl⟩)
        refine ⟨(updN_s _ _ _).trans ?_, (updN_s _ _ _).trans ?_⟩
        · rw [hw, hg.1]
        · rw [hg.2.1]
    · have hw : (cbW np (fo (slF np nd) T (pw 3 np - 1 - s)) s).1 s = (slA np nd T).1 s := by rw [o1, brS_1 h h9]
      refine ⟨fun _ => ?_, fun _ hx => absurd (by rw [hw]; exact hx) h9⟩
      rw [o2, o3, brS_1 h h9]
      exact ⟨updN_s _ _ _, updN_s _ _ _⟩
