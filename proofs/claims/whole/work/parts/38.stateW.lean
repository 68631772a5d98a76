/-! the weight of a state -/
theorem all_fo {P : Nat → Bool} : ∀ n, fo (fun a e => a && P e) true n = true ↔ ∀ e, e < n → P e = true
  | 0 => ⟨fun _ e he => absurd he (Nat.not_lt_zero _), fun _ => rfl⟩
  | n + 1 => by
    rw [fo_s, Bool.and_eq_true, all_fo n]
    constructor
    · intro h e he
      rcases Nat.lt_or_ge e n with q | q
      · exact h.1 e q
      · rw [show e = n by omega]; exact h.2
    · intro h
      exact ⟨fun e he => h e (by omega), h n (by omega)⟩
def mtE (S b e : Nat) : Bool := decide (dig S e = 0 ∨ dig S e = (if b.testBit e then 2 else 1))
def mt (S b : Nat) : Bool := fo (fun a e => a && mtE S b e) true 6
theorem mt_iff {S b : Nat} : mt S b = true ↔ ∀ e, e < 6 → dig S e = 0 ∨ dig S e = (if b.testBit e then 2 else 1) := by
  unfold mt
  rw [all_fo]
  exact ⟨fun h e he => of_decide_eq_true (h e he), fun h e he => decide_eq_true (h e he)⟩
def Sm (w : Nat → Nat) (N S : Nat) : Nat := fo (fun a b => a + (if mt S b then w b else 0)) 0 N
theorem mt_set {S e c b : Nat} (hS : S < 729) (he : e < 6) (h0 : dig S e = 0) (hc : c < 3) (hc0 : c ≠ 0) : mt (S + c * pw 3 e) b = (mt S b && decide (c = if b.testBit e then 2 else 1)) := by
  obtain ⟨_, h2⟩ := dig_set (n := 6) hS he h0 hc
  refine Bool.eq_iff_iff.mpr ?_
  rw [Bool.and_eq_true]
  rw [mt_iff, mt_iff, decide_eq_true_iff]
  constructor
  · intro h
    refine ⟨fun f hf => ?_, ?_⟩
    · by_cases hfe : f = e
      · rw [hfe]; exact Or.inl h0
      · have := h f hf
        rw [h2 f hf, if_neg hfe] at this
        exact this
    · have := h e he
      rw [h2 e he, if_pos rfl] at this
      rcases this with q | q
      · exact absurd q hc0
      · exact q
  · intro h f hf
    rw [h2 f hf]
    by_cases hfe : f = e
    · rw [if_pos hfe, hfe]; exact Or.inr h.2
    · rw [if_neg hfe]; exact h.1 f hf
theorem Sm_split {w : Nat → Nat} {S e : Nat} (hS : S < 729) (he : e < 6) (h0 : dig S e = 0) : ∀ N, Sm w N S = Sm w N (S + 1 * pw 3 e) + Sm w N (S + 2 * pw 3 e)
  | 0 => rfl
  | N + 1 => by
    have ih := Sm_split (w := w) hS he h0 N
    show Sm w N S + _ = Sm w N _ + _ + (Sm w N _ + _)
    rw [ih, mt_set hS he h0 (by decide) (by decide), mt_set hS he h0 (by decide) (by decide)]
    cases hm : mt S N <;> cases hb : N.testBit e <;> simp <;> omega
theorem eg_bit (s f : Nat) : ∀ n e, (fo (egF s f) 0 n).testBit e = (decide (e < n) && egB f (dig s e))
  | 0, e => by rw [decide_eq_false (Nat.not_lt_zero _)]; exact Nat.zero_testBit e
  | n + 1, e => by
    rw [fo_s, egF, Nat.testBit_or, eg_bit s f n e]
    by_cases h : e = n
    · subst h
      rw [decide_eq_false (Nat.lt_irrefl _), decide_eq_true (Nat.lt_succ_self _)]
      cases egB f (dig s e)
      · simp
      · simp [Nat.testBit_two_pow]
    · have hb : (if egB f (dig s n) then 2 ^ n else 0).testBit e = false := by
        split
        · rw [Nat.testBit_two_pow]; exact decide_eq_false (fun h9 => h h9.symm)
        · exact Nat.zero_testBit e
      rw [hb, Bool.or_false]
      by_cases h2 : e < n
      · rw [decide_eq_true h2, decide_eq_true (show e < n + 1 by omega)]
      · rw [decide_eq_false h2, decide_eq_false (show ¬ e < n + 1 by omega)]
theorem egs_bit (s f e : Nat) : (egs s f).testBit e = (decide (e < 6) && egB f (dig s e)) := eg_bit s f 6 e
theorem mt_eg {S b : Nat} : (b &&& egs S 0 = egs S 2) ↔ mt S b = true := by
  rw [mt_iff]
  constructor
  · intro h e he
    have h1 := congrArg (fun x => Nat.testBit x e) h
    simp only [Nat.testBit_and, egs_bit, decide_eq_true he, Bool.true_and, egB] at h1
    have h3 := dig_lt S e
    cases hb : b.testBit e
    · rw [hb] at h1
      simp at h1
      simp
      omega
    · rw [hb] at h1
      simp at h1
      simp
      omega
  · intro h
    apply Nat.eq_of_testBit_eq
    intro e
    rw [Nat.testBit_and, egs_bit, egs_bit]
    by_cases he : e < 6
    · rw [decide_eq_true he]
      have h1 := h e he
      unfold egB
      cases hb : b.testBit e
      · rw [hb] at h1
        simp at h1 ⊢
        omega
      · rw [hb] at h1
        simp at h1 ⊢
        omega
    · rw [decide_eq_false he]; simp
theorem lw_Sm {E ib S : Nat} {bw : Nat → Nat} (hin : ∀ e, e < 6 → dig S e ≠ 0 → ib.testBit e = true) : lwV E ib bw S = Sm bw (2 ^ E) S := by
  unfold lwV
  rw [if_pos]
  · exact fo_congr _ (fun b _ s => by
      unfold lwF
      by_cases h : b &&& egs S 0 = egs S 2
      · rw [if_pos h, if_pos (mt_eg.mp h)]
      · rw [if_neg h, if_neg (fun h9 => h (mt_eg.mpr h9))])
  · apply Nat.eq_of_testBit_eq
    intro e
    unfold andn
    rw [Nat.testBit_and, Nat.testBit_xor, egs_bit, Nat.zero_testBit]
    by_cases he : e < 6
    · have h63 : (63 : Nat).testBit e = true := by
        rcases (show e = 0 ∨ e = 1 ∨ e = 2 ∨ e = 3 ∨ e = 4 ∨ e = 5 by omega) with rfl | rfl | rfl | rfl | rfl | rfl <;> decide
      rw [h63, decide_eq_true he]
      by_cases hd : dig S e = 0
      · simp [egB, hd]
      · simp [hin e he hd]
    · rw [decide_eq_false he]; rfl
