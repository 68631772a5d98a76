/-! who has raw eggs enough; a kitchen's begin; bounds -/
theorem ff_iff {G : Nat → Bool} : ∀ {n k : Nat}, (∀ j, k ≤ j → j < n + k → G j = true) → ff G n k = n + k
  | 0, k, _ => by show k = 0 + k; omega
  | n + 1, k, h => by
    unfold ff
    rw [if_pos (h k (Nat.le_refl _) (by omega)), ff_iff (n := n) (k := k + 1) (fun j h1 h2 => h j (by omega) (by omega))]
    omega
theorem is_iff {E ib r : Nat} {w : Nat → Nat} : ∀ n, fo (isF E ib r w) true n = true ↔ ∀ b, b < n → bwV E w b = 0 ∨ r ≤ popS (andn ib b) 6
  | 0 => ⟨fun _ b hb => absurd hb (Nat.not_lt_zero _), fun _ => rfl⟩
  | n + 1 => by
    have ih := is_iff (E := E) (ib := ib) (r := r) (w := w) n
    rw [fo_s, isF, Bool.and_eq_true, ih, Bool.or_eq_true, decide_eq_true_iff, decide_eq_true_iff]
    constructor
    · intro h b hb
      rcases Nat.lt_or_ge b n with q | q
      · exact h.1 b q
      · rw [show b = n by omega]; exact h.2
    · intro h
      exact ⟨fun b hb => h b (by omega), h n (by omega)⟩
section
variable {E B tb tr : Nat} {hab sp tu : Nat → Nat} {kn : Nat → Int32} {fB fW : Nat → Nat} {fi : Nat}
theorem c_hr (hc : Cpl (wN E B tb tr hab sp tu kn) (2 ^ E) fB fW fi) (hE : E ≤ 6) (ib r : Nat) : hrB fB ib r fi = isB E ib r (w0 (mW E B tb tr hab sp tu kn)) := by
  have h2E := p2le hE
  rw [w0_N]
  have h1 : isB E ib r (wN E B tb tr hab sp tu kn) = true ↔ ∀ i, i < fi → r ≤ popS (andn ib (fB i)) 6 := by
    unfold isB
    rw [is_iff]
    constructor
    · intro h i hi
      obtain ⟨b, g1, g2, g3, g4, g5⟩ := cpl_in hc _ (Nat.le_refl _) i (by rw [← hc.1]; exact hi)
      rcases h b (by omega) with q | q
      · rw [bwV, if_pos g1] at q; omega
      · rw [g4]; exact q
    · intro h b hb
      by_cases hw : b < 2 ^ E ∧ 0 < wN E B tb tr hab sp tu kn b
      · have g := hc.2 b hw.1 hw.2
        have := h (fitM (wN E B tb tr hab sp tu kn) b) (by rw [hc.1]; exact fitM_lt hw.1 hw.2)
        rw [g.1] at this
        exact Or.inr this
      · left
        unfold bwV
        split
        · next h9 =>
          rcases Nat.eq_zero_or_pos (wN E B tb tr hab sp tu kn b) with q | q
          · exact q
          · exact absurd ⟨h9, q⟩ hw
        · rfl
  have h2 : hrB fB ib r fi = true ↔ ∀ i, i < fi → r ≤ popS (andn ib (fB i)) 6 := by
    unfold hrB
    rw [decide_eq_true_iff]
    constructor
    · intro h i hi
      exact of_decide_eq_true (ff_all (G := hrG fB ib r) (n := fi) (k := 0) (by rw [h]; rfl) i (by omega) (by omega))
    · intro h
      exact (ff_iff (G := hrG fB ib r) (n := fi) (k := 0) (fun j _ h9 => decide_eq_true (h j (by omega)))).trans (by omega)
  exact Bool.eq_iff_iff.mpr (h2.trans h1.symm)
theorem smN_wg (hc : Cpl (wN E B tb tr hab sp tu kn) (2 ^ E) fB fW fi) (h20 : fi ≤ 20) (e x y : Nat) : smN (wgS e x y fB fW fi).2.1 (wgS e x y fB fW fi).2.2 = smB fB fW e fi * x + (smN fW fi - smB fB fW e fi) * y := by
  rw [cpl_smN (cpl_wg hc h20 e x y (w' := fun b => wN E B tb tr hab sp tu kn b * (if b.testBit e then x else y)) (fun _ _ => rfl)), sum_bit2, ← cpl_smN hc, ← cpl_smB hc]
end
theorem hbP_pr (hh : Nat → Nat) (b : Nat) : ∀ n, hbP hh n b = pr (fun e => if b.testBit e then hh e else 1) n
  | 0 => rfl
  | n + 1 => by
    show hbF hh b (hbP hh n b) n = pr _ n * _
    rw [hbP_pr hh b n, hbF]
    show _ = pr _ n * (if b.testBit n then hh n else 1)
    by_cases h : b.testBit n = true
    · rw [if_pos h, if_pos h]
    · rw [if_neg h, if_neg h, Nat.mul_one]
theorem spu_0 (tn : Nat) : spu tn 0 0 = 1 := rfl
theorem wN_new {E B tb tr : Nat} {hab hh sp tu : Nat → Nat} {kn : Nat → Int32} (h1 : ∀ j, j < E → hab j = hh j) (h2 : ∀ j, j < E → sp j = 0) (h3 : ∀ j, j < E → tu j = 0) (h4 : ∀ j, j < E → kn j = -1) (b : Nat) (hb : b < 2 ^ E) : wN E B tb tr hab sp tu kn b = if popS b 6 = B then hbP hh E b else 0 := by
  unfold wN
  by_cases hp : popS b 6 = B
  · rw [if_pos ⟨hp, hb⟩, if_pos hp, hbP_pr]
    refine pr_congr E (fun j hj => ?_)
    unfold gF mC mCd
    rw [h1 j hj, h2 j hj, h3 j hj, h4 j hj, spu_0, Nat.mul_one, decide_eq_true (Or.inl rfl), if_pos rfl]
  · rw [if_neg (fun h => hp h.1), if_neg hp]
theorem cnt20 : ∀ E, E < 7 → ∀ B, B < 7 → fitM (fun b => if popS b 6 = B then 1 else 0) (2 ^ E) ≤ 20 := by decide +kernel
theorem sum6144 : ∀ E, E < 7 → ∀ B, B < 7 → fo (fun a b => a + if popS b 6 = B then 4 ^ B else 0) 0 (2 ^ E) ≤ 6144 := by decide +kernel
theorem sum1 : ∀ E, E < 7 → ∀ B, B ≤ E → 1 ≤ fo (fun a b => a + if popS b 6 = B then 1 else 0) 0 (2 ^ E) := by decide +kernel
theorem sum_le {f g : Nat → Nat} : ∀ n, (∀ b, b < n → f b ≤ g b) → fo (fun a b => a + f b) 0 n ≤ fo (fun a b => a + g b) 0 n
  | 0, _ => Nat.le_refl _
  | n + 1, h => by
    have ih := sum_le n (fun b hb => h b (by omega))
    have := h n (by omega)
    rw [fo_s, fo_s]; omega
theorem hbP_le4 {hh : Nat → Nat} {E : Nat} (h : ∀ e, e < E → hh e ≤ 4) (b : Nat) : ∀ n, n ≤ E → hbP hh n b ≤ 4 ^ popS b n
  | 0, _ => Nat.le_refl _
  | n + 1, hn => by
    have ih := hbP_le4 h b n (by omega)
    show hbF hh b (hbP hh n b) n ≤ 4 ^ (popS b n + b / 2 ^ n % 2)
    rw [hbF, Nat.testBit_eq_decide_div_mod_eq]
    rcases Nat.mod_two_eq_zero_or_one (b / 2 ^ n) with q | q
    · rw [q, if_neg (by decide)]; exact ih
    · rw [q, if_pos (by decide), Nat.pow_succ]
      exact Nat.mul_le_mul ih (h n (by omega))
theorem hbP_ge {hh : Nat → Nat} {E : Nat} (h : ∀ e, e < E → 1 ≤ hh e) (b : Nat) : ∀ n, n ≤ E → 1 ≤ hbP hh n b
  | 0, _ => Nat.le_refl _
  | n + 1, hn => by
    have ih := hbP_ge h b n (by omega)
    show 1 ≤ hbF hh b (hbP hh n b) n
    unfold hbF
    split
    · exact Nat.mul_le_mul ih (h n (by omega))
    · exact ih
theorem popS_mono (b : Nat) {m : Nat} : ∀ n, m ≤ n → popS b m ≤ popS b n
  | 0, h => by rw [Nat.le_zero.mp h]; exact Nat.le_refl _
  | n + 1, h => by
    rcases Nat.lt_or_ge n m with q | q
    · rw [show m = n + 1 by omega]; exact Nat.le_refl _
    · have := popS_mono b n q
      rw [popS_step]; omega
/-- a kitchen begun -/
theorem cpl_begin {E B tb tr : Nat} {hab hh sp tu : Nat → Nat} {kn : Nat → Int32} (B0 W0 : Nat → Nat) (hE : E ≤ 6) (hB : B ≤ E) (h1 : ∀ j, j < E → hab j = hh j) (h2 : ∀ j, j < E → sp j = 0) (h3 : ∀ j, j < E → tu j = 0) (h4 : ∀ j, j < E → kn j = -1) (h5 : ∀ j, j < E → 1 ≤ hh j ∧ hh j ≤ 4) :
    Cpl (wN E B tb tr hab sp tu kn) (2 ^ E) (bgS hh E B B0 W0 (2 ^ E)).1 (bgS hh E B B0 W0 (2 ^ E)).2.1 (bgS hh E B B0 W0 (2 ^ E)).2.2 ∧ smN (bgS hh E B B0 W0 (2 ^ E)).2.1 (bgS hh E B B0 W0 (2 ^ E)).2.2 ≤ 6144 ∧ 0 < smN (bgS hh E B B0 W0 (2 ^ E)).2.1 (bgS hh E B B0 W0 (2 ^ E)).2.2 := by
  have hw := wN_new (B := B) (tb := tb) (tr := tr) h1 h2 h3 h4
  have hle : ∀ n, n ≤ 2 ^ E → fitM (wN E B tb tr hab sp tu kn) n ≤ fitM (fun b => if popS b 6 = B then 1 else 0) n := by
    intro n
    induction n with
    | zero => intro _; exact Nat.le_refl _
    | succ n ih =>
      intro hn
      have ih := ih (by omega)
      rw [fitM_s, fitM_s, hw n (by omega)]
      by_cases hp : popS n 6 = B
      · rw [if_pos hp, if_pos hp, if_pos (show 0 < 1 by decide)]; split <;> omega
      · rw [if_neg hp, if_neg hp]; exact ih
  have h20 := Nat.le_trans (hle _ (Nat.le_refl _)) (cnt20 E (by omega) B (by omega))
  have hc : Cpl (wN E B tb tr hab sp tu kn) (2 ^ E) (bgS hh E B B0 W0 (2 ^ E)).1 (bgS hh E B B0 W0 (2 ^ E)).2.1 (bgS hh E B B0 W0 (2 ^ E)).2.2 := cpl_of (P := fun b => popS b 6 = B) (v := fun b => hbP hh E b) (B0 := B0) (W0 := W0) hw h20 _ rfl
  refine ⟨hc, ?_, ?_⟩
  · rw [cpl_smN hc]
    refine Nat.le_trans (sum_le _ (fun b hb => ?_)) (sum6144 E (by omega) B (by omega))
    rw [hw b hb]
    split
    · next hp =>
      refine Nat.le_trans (hbP_le4 (fun e he => (h5 e he).2) b E (Nat.le_refl _)) ?_
      rw [← hp]
      exact Nat.pow_le_pow_right (by decide) (popS_mono b 6 hE)
    · exact Nat.le_refl _
  · rw [cpl_smN hc]
    refine Nat.le_trans (sum1 E (by omega) B hB) (sum_le _ (fun b hb => ?_))
    rw [hw b hb]
    split
    · exact hbP_ge (fun e he => (h5 e he).1) b E (Nat.le_refl _)
    · exact Nat.le_refl _
