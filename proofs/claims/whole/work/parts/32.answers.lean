/-! answers out of the list against answers out of all boxes -/
section
variable {E B tb tr : Nat} {hab sp tu : Nat → Nat} {kn : Nat → Int32} {fB fW : Nat → Nat} {fi : Nat}
theorem w0_N : w0 (mW E B tb tr hab sp tu kn) = wN E B tb tr hab sp tu kn := funext fun b => mW_0 E B tb tr hab sp tu kn b (-1)
theorem tot_0 (hc : Cpl (wN E B tb tr hab sp tu kn) (2 ^ E) fB fW fi) (eg : Int32) : tot (mW E B tb tr hab sp tu kn) E eg 0 = smN fW fi := by
  rw [cpl_smN hc]
  exact fo_congr _ (fun b _ s => by rw [mW_0])
theorem bwt_0 (hc : Cpl (wN E B tb tr hab sp tu kn) (2 ^ E) fB fW fi) (e : Nat) : bwt (mW E B tb tr hab sp tu kn) E e 0 = smB fB fW e fi := by
  rw [cpl_smB hc]
  exact fo_congr _ (fun b _ s => by rw [mW_0])
theorem tot_k (hc : Cpl (wN E B tb tr hab sp tu kn) (2 ^ E) fB fW fi) (hE : E ≤ 6) {e : Nat} (he : e < E) (k : Nat) : tot (mW E B tb tr hab sp tu kn) E (nI e) k = smB fB fW e fi * tb ^ k + (smN fW fi - smB fB fW e fi) * tr ^ k := by
  rw [cpl_smN hc, cpl_smB hc, ← sum_bit2]
  exact fo_congr _ (fun b _ s => by rw [mW_k b k hE he, mTn]; cases b.testBit e <;> simp [pw_pow])
theorem bwt_k (hc : Cpl (wN E B tb tr hab sp tu kn) (2 ^ E) fB fW fi) (hE : E ≤ 6) {e : Nat} (he : e < E) (k : Nat) : bwt (mW E B tb tr hab sp tu kn) E e k = smB fB fW e fi * tb ^ k := by
  rw [cpl_smB hc, ← sum_bit3]
  exact fo_congr _ (fun b _ s => by rw [mW_k b k hE he, mTn]; cases b.testBit e <;> simp [pw_pow])
theorem c_fits (hc : Cpl (wN E B tb tr hab sp tu kn) (2 ^ E) fB fW fi) (q : Int32) : cftR fB fi E q = fitR (mW E B tb tr hab sp tu kn) E q := by
  unfold cftR fitR cftN fitsN
  rw [w0_N, cpl_srB hc, cpl_srN hc, ← hc.1]
theorem c_lik (hc : Cpl (wN E B tb tr hab sp tu kn) (2 ^ E) fB fW fi) (x p : Int32) : clkR E fB fW fi x p = likR (mW E B tb tr hab sp tu kn) E x p := by
  unfold clkR likR
  rw [tot_0 hc, bwt_0 hc]
theorem c_rsk (hc : Cpl (wN E B tb tr hab sp tu kn) (2 ^ E) fB fW fi) (fa ib : Nat) (x p : Int32) : crkR E fa fB fW fi ib x p = rskR (mW E B tb tr hab sp tu kn) E fa ib x p := by
  unfold crkR rskR rskN
  rw [tot_0 hc, bwt_0 hc, Nat.mul_comm fa, Nat.mul_comm 10]
theorem c_tur (hc : Cpl (wN E B tb tr hab sp tu kn) (2 ^ E) fB fW fi) (hE : E ≤ 6) (x t : Int32) : ctR E tb tr fB fW fi x t = turR (mW E B tb tr hab sp tu kn) E x t := by
  unfold ctR turR
  by_cases hx : isE E x = true
  · rw [if_pos hx, if_pos hx]
    obtain ⟨e, he, rfl⟩ := isE_t hx
    rw [ix_nI (by omega)]
    have hq : ctQ tb tr (smB fB fW e fi) (smN fW fi - smB fB fW e fi) (ix t) = trQ (mW E B tb tr hab sp tu kn) E e (ix t) := funext fun k => by
      unfold ctQ trQ
      rw [tot_k hc hE he, bwt_k hc hE he, Nat.mul_comm (ix t), Nat.mul_comm 10]
    rw [hq]
  · rw [if_neg hx, if_neg hx]
theorem bit_nI (ib e : Nat) : nI (ib / 2 ^ e % 2) = zI (ib.testBit e) := by
  rw [Nat.testBit_eq_decide_div_mod_eq]
  rcases Nat.mod_two_eq_zero_or_one (ib / 2 ^ e) with h | h <;> rw [h] <;> decide
theorem c_egg {hh fS fU : Nat → Nat} {fK : Nat → Int32} (ib : Nat) (h1 : ∀ j, j < E → hh j = hab j) (h2 : ∀ j, j < E → fS j = sp j) (h3 : ∀ j, j < E → fU j = tu j) (h4 : ∀ j, j < E → fK j = kn j) (hE : E ≤ 6) (x w : Int32) : ceggR E hh fS fU fK ib x w = eggR E hab sp tu kn ib x w := by
  unfold ceggR eggR
  by_cases hx : isE E x = true
  · rw [if_pos hx, if_pos hx]
    obtain ⟨e, he, rfl⟩ := isE_t hx
    rw [ix_nI (by omega)]
    by_cases hw : wth w (nI 0) (nI 4) = true
    · rw [if_pos hw]
      obtain ⟨k, hk, rfl⟩ := wth_n hw
      have hkt : (nI k).toInt = k := nI_toInt (by omega)
      unfold swA ceggL eggL
      rw [hkt, ix_nI (by omega), h1 e he, h2 e he, h3 e he, h4 e he, bit_nI]
      rcases (show k = 0 ∨ k = 1 ∨ k = 2 ∨ k = 3 ∨ k = 4 by omega) with rfl | rfl | rfl | rfl | rfl <;> rfl
    · rw [if_neg hw]
      unfold swA
      rw [if_pos]
      rw [wth_iff (by decide) (by decide)] at hw
      have hw2 : ¬ (((0 : Nat) : Int) ≤ w.toInt ∧ w.toInt ≤ ((4 : Nat) : Int)) := fun h => hw (decide_eq_true h)
      show w.toInt < 0 ∨ ((5 : Nat) : Int) ≤ w.toInt
      omega
  · rw [if_neg hx, if_neg hx]
theorem c_sc (hc : Cpl (wN E B tb tr hab sp tu kn) (2 ^ E) fB fW fi) (k : Int32) : csc fB fW fi k = scM (mW E B tb tr hab sp tu kn) E k := funext fun e => by
  unfold csc scM
  rw [tot_0 hc, bwt_0 hc]
theorem bit_hi {ib E e : Nat} (h : ib < 2 ^ E) (he : E ≤ e) : ib.testBit e = false := Nat.testBit_lt_two_pow (Nat.lt_of_lt_of_le h (Nat.pow_le_pow_right (by decide) he))
theorem nx_cut {k : Int32} {sc : Nat → Int64} {ib E : Nat} (h : ib < 2 ^ E) : ∀ d, fo (nxF k sc ib) (-1) (E + d) = fo (nxF k sc ib) (-1) E
  | 0 => rfl
  | d + 1 => by
    show fo (nxF k sc ib) (-1) ((E + d) + 1) = _
    rw [fo_s, nx_0 (bit_hi h (Nat.le_add_right E d)), nx_cut h d]
theorem c_nxt (hc : Cpl (wN E B tb tr hab sp tu kn) (2 ^ E) fB fW fi) {ib : Nat} (hib : ib < 2 ^ E) (hE : E ≤ 6) (k : Int32) : cnx fB fW fi ib k = nxt (mW E B tb tr hab sp tu kn) E ib k := by
  unfold cnx nxt
  rw [c_sc hc, show 6 = E + (6 - E) by omega]
  exact nx_cut hib _
theorem c_abt (hc : Cpl (wN E B tb tr hab sp tu kn) (2 ^ E) fB fW fi) {ib : Nat} (hib : ib < 2 ^ E) (hE : E ≤ 6) (k q : Int32) : abC fB fW fi ib k q = if wth q (nI 0) (nI 1) then trNow (mW E B tb tr hab sp tu kn) E ib k q else -102 := by
  unfold abC trNow
  rw [c_nxt hc hib hE]
end
