/-! the weight of a state, on the class's side -/
theorem lst_inv (ib b : Nat) : ∀ n, (fo (lsG ib b) (0, 1) n).2 = pw 3 (popS ib n) ∧ (fo (lsG ib b) (0, 1) n).1 < pw 3 (popS ib n) ∧ ∀ e, e < n → ib.testBit e = true → dig (fo (lsG ib b) (0, 1) n).1 (popS ib e) = if b.testBit e then 2 else 1
  | 0 => ⟨rfl, by show 0 < 1; decide, fun e he => absurd he (Nat.not_lt_zero _)⟩
  | n + 1 => by
    obtain ⟨h1, h2, h3⟩ := lst_inv ib b n
    rw [fo_s, popS_bit]
    by_cases hb : ib.testBit n = true
    · rw [lsG_1 hb, if_pos hb]
      have hd : (if b.testBit n then 2 else 1) < 3 := by split <;> decide
      have hm := Nat.mul_le_mul_right (pw 3 (popS ib n)) (show (if b.testBit n then 2 else 1) ≤ 2 by omega)
      refine ⟨by show _ * 3 = _; rw [h1]; rfl, ?_, fun e he heb => ?_⟩
      · show _ + _ * (if b.testBit n then 2 else 1) < pw 3 (popS ib n + 1)
        rw [h1, pw3_s, Nat.mul_comm (pw 3 (popS ib n)) (if b.testBit n then 2 else 1)]
        omega
      · show dig (_ + _ * (if b.testBit n then 2 else 1)) (popS ib e) = _
        rw [h1, Nat.mul_comm (pw 3 (popS ib n))]
        rcases Nat.lt_or_ge e n with q | q
        · have hlt : popS ib e < popS ib n := by
            have h9 := popS_mono ib n (show e + 1 ≤ n from q)
            rw [popS_bit, if_pos heb] at h9; omega
          rw [dig_low _ _ _ _ hlt]
          exact h3 e q heb
        · obtain rfl : e = n := by omega
          exact dig_top h2 hd
    · rw [lsG_0 (by simpa using hb), if_neg hb, Nat.add_zero]
      refine ⟨h1, h2, fun e he heb => h3 e ?_ heb⟩
      rcases Nat.lt_or_ge e n with q | q
      · exact q
      · rw [show e = n by omega] at heb; exact absurd heb hb
theorem wh_zero {s : Nat} : ∀ n, fo (whF s) 0 n = 0 → ∀ p, p < n → dig s p ≠ 0
  | 0, _, p, hp => absurd hp (Nat.not_lt_zero _)
  | n + 1, h, p, hp => by
    rw [fo_s, whF] at h
    by_cases hd : dig s n = 0
    · rw [if_pos hd] at h
      have := pw3_pos n; omega
    · rw [if_neg hd] at h
      rcases Nat.lt_or_ge p n with q | q
      · exact wh_zero n h p q
      · rw [show p = n by omega]; exact hd
theorem lst_mt {ib s b : Nat} (hs : s < pw 3 (popS ib 6)) (hw : fo (whF s) 0 (popS ib 6) = 0) : lst ib b = s ↔ mt (xst ib s) b = true := by
  obtain ⟨_, h2, h3⟩ := lst_inv ib b 6
  rw [mt_iff]
  constructor
  · intro h e he
    rw [xst_dig he]
    by_cases hb : ib.testBit e = true
    · rw [if_pos hb]
      right
      rw [← h]; exact h3 e he hb
    · rw [if_neg hb]; exact Or.inl rfl
  · intro h
    refine dig_ext h2 hs (fun p hp => ?_)
    obtain ⟨e, g1, g2, g3⟩ := popS_egg 6 p hp
    have h4 := h e g1
    rw [xst_dig g1, if_pos g2, g3] at h4
    have h5 := h3 e g1 g2
    rw [g3] at h5
    rcases h4 with q | q
    · exact absurd q (wh_zero _ hw p hp)
    · exact h5.trans q.symm
theorem zF_at (h : Nat → Nat) (j : Nat) : ∀ n, j < n → fo zF h n j = 0
  | 0, hn => absurd hn (Nat.not_lt_zero _)
  | n + 1, hn => by
    rw [fo_s, zF]
    by_cases q : j = n
    · rw [q]; exact updN_s _ _ _
    · rw [updN_n q]; exact zF_at h j n (by omega)
theorem spF_at (fB fW : Nat → Nat) (ib : Nat) (h : Nat → Nat) (j : Nat) : ∀ n, fo (spF fB fW ib) h n j = h j + fo (fun a i => if lst ib (fB i) = j then a + fW i else a) 0 n
  | 0 => rfl
  | n + 1 => by
    have ih := spF_at fB fW ib h j n
    rw [fo_s, fo_s, spF]
    by_cases q : lst ib (fB n) = j
    · rw [if_pos q, ← q, updN_s, q, ih]; omega
    · rw [if_neg q, updN_n (fun h9 => q h9.symm)]; exact ih
/-- what the class solves with -/
def cbT (fB fW : Nat → Nat) (fi ib : Nat) (xW xC xO : Nat → Nat) (qb : Nat) : CB := (fo (spF fB fW ib) (fo zF xW (pw 3 (popS ib 6))) fi, xC, xO, qb)
theorem csl_slA (fB fW : Nat → Nat) (fi ib : Nat) (xW xC xO : Nat → Nat) (qb r : Nat) : csl fB fW fi ib xW xC xO qb r = slA (popS ib 6) r (cbT fB fW fi ib xW xC xO qb) := rfl
theorem c_W0 {w : Nat → Nat} {N : Nat} {fB fW : Nat → Nat} {fi : Nat} (hc : Cpl w N fB fW fi) (ib : Nat) (xW xC xO : Nat → Nat) (qb : Nat) {s : Nat} (hs : s < pw 3 (popS ib 6)) : (cbT fB fW fi ib xW xC xO qb).1 s = fo (fun a b => a + (if lst ib b = s then w b else 0)) 0 N := by
  show fo (spF fB fW ib) _ fi s = _
  rw [spF_at, zF_at _ _ _ hs, Nat.zero_add]
  refine (fo_all hc (fun a b v => if lst ib b = s then a + v else a) 0).trans (fo_congr N (fun b _ t => ?_))
  split <;> split <;> omega
theorem c_W {w : Nat → Nat} {N : Nat} {fB fW : Nat → Nat} {fi : Nat} (hc : Cpl w N fB fW fi) (ib : Nat) (xW xC xO : Nat → Nat) (qb r : Nat) : ∀ k s, pw 3 (popS ib 6) ≤ s + k → s < pw 3 (popS ib 6) → (slA (popS ib 6) r (cbT fB fW fi ib xW xC xO qb)).1 s = Sm w N (xst ib s)
  | 0, s, h1, h2 => by omega
  | k + 1, s, h1, hs => by
    have hn := popS_le ib 6
    rw [sl_W hn hs]
    by_cases hw : fo (whF s) 0 (popS ib 6) = 0
    · rw [if_pos hw, c_W0 hc ib xW xC xO qb hs]
      exact fo_congr N (fun b _ t => by
        by_cases q : lst ib b = s
        · rw [if_pos q, if_pos ((lst_mt hs hw).mp q)]
        · rw [if_neg q, if_neg (fun h9 => q ((lst_mt hs hw).mpr h9))])
    · rw [if_neg hw]
      obtain ⟨g1, g2⟩ := wh_pos hn hs hw
      rw [c_W hc ib xW xC xO qb r k _ (by omega) (by omega), c_W hc ib xW xC xO qb r k _ (by omega) g2]
      rcases wh_or s (popS ib 6) with q | ⟨p, q1, q2, q3⟩
      · exact absurd q hw
      · obtain ⟨e, e1, e2, e3⟩ := popS_egg 6 p q1
        rw [q3, ← e3, xst_set hs e1 e2 (by rw [e3]; exact q2) (by decide), xst_set hs e1 e2 (by rw [e3]; exact q2) (by decide)]
        exact (Sm_split (xst_lt ib s) e1 (by rw [xst_dig e1, if_pos e2, e3]; exact q2) N).symm
