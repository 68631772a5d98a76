/-! digits to the base 3 -/
theorem pw3_s (n : Nat) : pw 3 (n + 1) = pw 3 n * 3 := rfl
theorem pw3_pos : ∀ n, 0 < pw 3 n
  | 0 => by show 0 < 1; decide
  | n + 1 => by rw [pw3_s]; have := pw3_pos n; omega
def num (d : Nat → Nat) (n : Nat) : Nat := fo (fun a e => a + d e * pw 3 e) 0 n
theorem num_s (d : Nat → Nat) (n : Nat) : num d (n + 1) = num d n + d n * pw 3 n := rfl
theorem num_mod (s : Nat) : ∀ n, num (dig s) n = s % pw 3 n
  | 0 => by show 0 = s % 1; omega
  | n + 1 => by rw [num_s, num_mod s n, pw3_s, Nat.mod_mul, dig, Nat.mul_comm (s / pw 3 n % 3)]
theorem num_own {s n : Nat} (h : s < pw 3 n) : num (dig s) n = s := by rw [num_mod, Nat.mod_eq_of_lt h]
theorem num_lt {d : Nat → Nat} (hd : ∀ e, d e < 3) : ∀ n, num d n < pw 3 n
  | 0 => by show 0 < 1; decide
  | n + 1 => by
    have h1 := num_lt hd n
    have h2 := Nat.mul_le_mul_right (pw 3 n) (show d n ≤ 2 by have := hd n; omega)
    rw [num_s, pw3_s]; omega
theorem dig_low (a c n : Nat) : ∀ e, e < n → dig (a + c * pw 3 n) e = dig a e := fun e he => by
  obtain ⟨k, rfl⟩ : ∃ k, n = e + 1 + k := ⟨n - (e + 1), by omega⟩
  have hp : ∀ k, ∃ m, pw 3 (e + 1 + k) = pw 3 e * (3 * m) := by
    intro k
    induction k with
    | zero => exact ⟨1, by rw [Nat.add_zero, pw3_s, Nat.mul_one]⟩
    | succ k ih =>
      obtain ⟨m, hm⟩ := ih
      exact ⟨m * 3, by rw [show e + 1 + (k + 1) = (e + 1 + k) + 1 by omega, pw3_s, hm, Nat.mul_assoc, Nat.mul_assoc]⟩
  obtain ⟨m, hm⟩ := hp k
  unfold dig
  rw [hm, show c * (pw 3 e * (3 * m)) = pw 3 e * (3 * (c * m)) by rw [Nat.mul_left_comm, Nat.mul_left_comm c 3 m], Nat.add_mul_div_left _ _ (pw3_pos e), Nat.add_mul_mod_self_left]
theorem dig_top {a c n : Nat} (ha : a < pw 3 n) (hc : c < 3) : dig (a + c * pw 3 n) n = c := by
  unfold dig
  rw [Nat.mul_comm c, Nat.add_mul_div_left _ _ (pw3_pos n), Nat.div_eq_of_lt ha, Nat.zero_add, Nat.mod_eq_of_lt hc]
theorem num_dig {d : Nat → Nat} (hd : ∀ e, d e < 3) : ∀ n e, e < n → dig (num d n) e = d e
  | 0, e, h => absurd h (Nat.not_lt_zero _)
  | n + 1, e, h => by
    rw [num_s]
    rcases Nat.lt_or_ge e n with q | q
    · rw [dig_low _ _ _ e q, num_dig hd n e q]
    · rw [show e = n by omega]; exact dig_top (num_lt hd n) (hd n)
theorem num_congr {d d' : Nat → Nat} (n : Nat) (h : ∀ e, e < n → d e = d' e) : num d n = num d' n := fo_congr n (fun e he s => by rw [h e he])
theorem dig_ext {s t n : Nat} (hs : s < pw 3 n) (ht : t < pw 3 n) (h : ∀ e, e < n → dig s e = dig t e) : s = t := by
  rw [← num_own hs, ← num_own ht]; exact num_congr n h
theorem num_upd {d d' : Nat → Nat} {p c : Nat} (hp : d p = 0) (hd : d' p = c) (ho : ∀ e, e ≠ p → d' e = d e) : ∀ n, num d' n = num d n + (if p < n then c * pw 3 p else 0)
  | 0 => by rw [if_neg (Nat.not_lt_zero _)]; rfl
  | n + 1 => by
    have ih := num_upd hp hd ho n
    rw [num_s, num_s, ih]
    by_cases h1 : n = p
    · subst h1
      rw [if_neg (Nat.lt_irrefl _), if_pos (Nat.lt_succ_self _), hp, hd]; omega
    · rw [ho n h1]
      by_cases h2 : p < n
      · rw [if_pos h2, if_pos (by omega)]; omega
      · rw [if_neg h2, if_neg (by omega), Nat.add_zero, Nat.add_zero]
/-- a whole digit set -/
theorem dig_set {s n p c : Nat} (hs : s < pw 3 n) (hp : p < n) (h0 : dig s p = 0) (hc : c < 3) : s + c * pw 3 p < pw 3 n ∧ ∀ q, q < n → dig (s + c * pw 3 p) q = if q = p then c else dig s q := by
  have hd3 : ∀ q, (if q = p then c else dig s q) < 3 := fun q => by split; exact hc; exact dig_lt s q
  have h := num_upd (d := dig s) (d' := fun q => if q = p then c else dig s q) (p := p) (c := c) h0 (if_pos rfl) (fun e he => if_neg he) n
  rw [num_own hs, if_pos hp] at h
  rw [← h]
  exact ⟨num_lt hd3 n, fun q hq => num_dig hd3 n q hq⟩
/-- a state of places as a state of eggs -/
def xd (ib s : Nat) : Nat → Nat := fun e => if ib.testBit e then dig s (popS ib e) else 0
def xst (ib s : Nat) : Nat := num (xd ib s) 6
theorem xd_lt (ib s e : Nat) : xd ib s e < 3 := by unfold xd; split; exact dig_lt _ _; decide
theorem xst_lt (ib s : Nat) : xst ib s < 729 := num_lt (xd_lt ib s) 6
theorem xst_dig {ib s e : Nat} (he : e < 6) : dig (xst ib s) e = if ib.testBit e then dig s (popS ib e) else 0 := num_dig (xd_lt ib s) 6 e he
theorem popS_bit {ib e : Nat} : popS ib (e + 1) = popS ib e + (if ib.testBit e then 1 else 0) := by
  rw [popS_step, Nat.testBit_eq_decide_div_mod_eq]
  rcases Nat.mod_two_eq_zero_or_one (ib / 2 ^ e) with h | h <;> rw [h] <;> rfl
theorem popS_inj {ib e f : Nat} (he : ib.testBit e = true) (hf : ib.testBit f = true) (h : popS ib e = popS ib f) : e = f := by
  have hh : ∀ a b : Nat, ib.testBit a = true → a < b → popS ib a < popS ib b := fun a b ha hab => by
    have h1 := popS_mono ib b (show a + 1 ≤ b from hab)
    rw [popS_bit, if_pos ha] at h1; omega
  rcases Nat.lt_trichotomy e f with q | q | q
  · have := hh e f he q; omega
  · exact q
  · have := hh f e hf q; omega
theorem popS_lt {ib e : Nat} (he : e < 6) (hb : ib.testBit e = true) : popS ib e < popS ib 6 := by
  have h1 := popS_mono ib 6 (show e + 1 ≤ 6 from he)
  rw [popS_bit, if_pos hb] at h1; omega
/-- each place is that of an egg -/
theorem popS_egg {ib : Nat} : ∀ n p, p < popS ib n → ∃ e, e < n ∧ ib.testBit e = true ∧ popS ib e = p
  | 0, p, h => absurd h (Nat.not_lt_zero _)
  | n + 1, p, h => by
    rw [popS_bit] at h
    by_cases hb : ib.testBit n = true
    · rw [if_pos hb] at h
      rcases Nat.lt_or_ge p (popS ib n) with q | q
      · obtain ⟨e, h1, h2⟩ := popS_egg n p q
        exact ⟨e, by omega, h2⟩
      · exact ⟨n, by omega, hb, by omega⟩
    · rw [if_neg hb] at h
      obtain ⟨e, h1, h2⟩ := popS_egg n p (by omega)
      exact ⟨e, by omega, h2⟩
/-- a place broken is its egg broken -/
theorem xst_set {ib s e c : Nat} (hs : s < pw 3 (popS ib 6)) (he : e < 6) (hb : ib.testBit e = true) (h0 : dig s (popS ib e) = 0) (hc : c < 3) : xst ib (s + c * pw 3 (popS ib e)) = xst ib s + c * pw 3 e := by
  have hp := popS_lt he hb
  obtain ⟨h1, h2⟩ := dig_set hs hp h0 hc
  have hz : xd ib s e = 0 := by rw [xd, if_pos hb]; exact h0
  have hd : ∀ f, f < 6 → xd ib (s + c * pw 3 (popS ib e)) f = if f = e then c else xd ib s f := fun f hf => by
    unfold xd
    by_cases hbf : ib.testBit f = true
    · rw [if_pos hbf, if_pos hbf, h2 _ (popS_lt hf hbf)]
      by_cases hfe : f = e
      · rw [hfe, if_pos rfl, if_pos rfl]
      · rw [if_neg (fun h9 => hfe (popS_inj hbf hb h9)), if_neg hfe]
    · rw [if_neg hbf, if_neg hbf, if_neg (fun h9 : f = e => hbf (by rw [h9]; exact hb))]
  unfold xst
  rw [num_congr 6 hd]
  have h := num_upd (d := xd ib s) (d' := fun f => if f = e then c else xd ib s f) (p := e) (c := c) hz (if_pos rfl) (fun f hf => if_neg hf) 6
  rw [if_pos he] at h
  exact h
