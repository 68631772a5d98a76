/-! the reference's weights as products -/
def pr (g : Nat → Nat) (n : Nat) : Nat := fo (fun a e => a * g e) 1 n
theorem pr_mul {g h : Nat → Nat} {e c : Nat} : ∀ n, (∀ j, j < n → h j = g j * (if j = e then c else 1)) → pr h n = pr g n * (if e < n then c else 1)
  | 0, _ => by rw [if_neg (Nat.not_lt_zero _)]; rfl
  | n + 1, hh => by
    have ih := pr_mul n (fun j hj => hh j (by omega))
    show pr h n * h n = pr g n * g n * _
    rw [ih, hh n (by omega)]
    by_cases h1 : n = e
    · subst h1
      rw [if_neg (Nat.lt_irrefl _), if_pos rfl, if_pos (Nat.lt_succ_self _), Nat.mul_one, Nat.mul_assoc]
    · rw [if_neg h1, Nat.mul_one]
      by_cases h2 : e < n
      · rw [if_pos h2, if_pos (by omega), Nat.mul_assoc, Nat.mul_assoc, Nat.mul_comm c]
      · rw [if_neg h2, if_neg (by omega), Nat.mul_one, Nat.mul_one]
theorem pr_congr {g h : Nat → Nat} (n : Nat) (hh : ∀ j, j < n → h j = g j) : pr h n = pr g n := fo_congr n (fun i hi s => by rw [hh i hi])
def gF (tb tr : Nat) (hab sp tu : Nat → Nat) (kn : Nat → Int32) (b : Nat) : Nat → Nat := fun e => mC hab kn b e * spu (mTn tb tr b e) (sp e) (tu e)
def wN (E B tb tr : Nat) (hab sp tu : Nat → Nat) (kn : Nat → Int32) (b : Nat) : Nat := if popS b 6 = B ∧ b < 2 ^ E then pr (gF tb tr hab sp tu kn b) E else 0
theorem mX_0 (tb tr b : Nat) (eg : Int32) (e : Nat) : mX tb tr b eg 0 e = 1 := by unfold mX; split <;> rfl
theorem mW_0 (E B tb tr : Nat) (hab sp tu : Nat → Nat) (kn : Nat → Int32) (b : Nat) (eg : Int32) : mW E B tb tr hab sp tu kn b eg 0 = wN E B tb tr hab sp tu kn b := by
  unfold mW wN
  split
  · exact fo_congr E (fun i _ s => by rw [mWF, mX_0, Nat.mul_one, gF, Nat.mul_assoc])
  · rfl
theorem nI_inj6 {a b : Nat} (ha : a < 64) (hb : b < 64) : nI a = nI b ↔ a = b := nI_eq (by omega) (by omega)
theorem mW_k {E B tb tr : Nat} {hab sp tu : Nat → Nat} {kn : Nat → Int32} (b : Nat) {e : Nat} (k : Nat) (hE : E ≤ 6) (he : e < E) : mW E B tb tr hab sp tu kn b (nI e) k = wN E B tb tr hab sp tu kn b * pw (mTn tb tr b e) k := by
  unfold mW wN
  split
  · have h := pr_mul (g := gF tb tr hab sp tu kn b) (h := fun j => gF tb tr hab sp tu kn b j * mX tb tr b (nI e) k j) (e := e) (c := pw (mTn tb tr b e) k) E (fun j hj => by
      unfold mX
      by_cases h9 : j = e
      · subst h9; rw [if_pos rfl, if_pos rfl]
      · rw [if_neg (fun h8 => h9 ((nI_inj6 (by omega) (by omega)).mp h8)), if_neg h9])
    rw [if_pos he] at h
    rw [← h]
    exact fo_congr E (fun i _ s => by show s * mC _ _ _ i * spu _ _ _ * mX _ _ _ _ _ i = s * (mC _ _ _ i * spu _ _ _ * mX _ _ _ _ _ i); simp only [Nat.mul_assoc])
  · rw [Nat.zero_mul]
theorem pw_pow (x : Nat) : ∀ k, pw x k = x ^ k
  | 0 => rfl
  | k + 1 => by show pw x k * x = _; rw [pw_pow x k, Nat.pow_succ]
theorem spu_t {tn s t : Nat} : spu tn (s + 1) (t + 1) = spu tn s t * tn := by
  unfold spu
  rw [show s + 1 - (t + 1) = s - t by omega]
  show pw tn t * tn * _ = _
  rw [Nat.mul_assoc, Nat.mul_assoc, Nat.mul_comm tn]
theorem spu_n {tn s t : Nat} (h : t ≤ s) : spu tn (s + 1) t = spu tn s t * (10 - tn) := by
  unfold spu
  rw [show s + 1 - t = (s - t) + 1 by omega]
  show _ * (pw (10 - tn) (s - t) * (10 - tn)) = _
  rw [Nat.mul_assoc]
/-- an egg spun once more -/
theorem wN_spin {E B tb tr : Nat} {hab sp tu sp' tu' : Nat → Nat} {kn : Nat → Int32} (b : Nat) {e : Nat} (he : e < E) (t : Bool) (hs : ∀ j, j < E → sp' j = sp j + (if j = e then 1 else 0)) (ht : ∀ j, j < E → tu' j = tu j + (if j = e then (cond t 1 0) else 0)) (hle : tu e ≤ sp e) :
    wN E B tb tr hab sp' tu' kn b = wN E B tb tr hab sp tu kn b * (if b.testBit e then tnth t tb else tnth t tr) := by
  unfold wN
  split
  · have h := pr_mul (g := gF tb tr hab sp tu kn b) (h := gF tb tr hab sp' tu' kn b) (e := e) (c := if b.testBit e then tnth t tb else tnth t tr) E (fun j hj => by
      unfold gF
      rw [hs j hj, ht j hj]
      by_cases h9 : j = e
      · subst h9
        rw [if_pos rfl, if_pos rfl, if_pos rfl, Nat.mul_assoc]
        congr 1
        cases t
        · show spu _ (sp j + 1) (tu j) = _
          rw [spu_n hle]
          unfold mTn tnth; split <;> rfl
        · show spu _ (sp j + 1) (tu j + 1) = _
          rw [spu_t]
          unfold mTn tnth; split <;> rfl
      · rw [if_neg h9, if_neg h9, if_neg h9, Nat.add_zero, Nat.add_zero, Nat.mul_one])
    rw [if_pos he] at h
    exact h
  · rw [Nat.zero_mul]
/-- an egg made sure -/
theorem wN_sure {E B tb tr : Nat} {hab sp tu : Nat → Nat} {kn kn' : Nat → Int32} (b : Nat) {e : Nat} (he : e < E) (v : Bool) (hk : ∀ j, j < E → j ≠ e → kn' j = kn j) (hk' : kn' e = zI v) (hok : kn e = -1 ∨ kn e = zI v) :
    wN E B tb tr hab sp tu kn' b = wN E B tb tr hab sp tu kn b * (if b.testBit e then cond v 1 0 else cond v 0 1) := by
  unfold wN
  split
  · have h := pr_mul (g := gF tb tr hab sp tu kn b) (h := gF tb tr hab sp tu kn' b) (e := e) (c := if b.testBit e then cond v 1 0 else cond v 0 1) E (fun j hj => by
      unfold gF
      by_cases h9 : j = e
      · subst h9
        rw [if_pos rfl, Nat.mul_right_comm]
        congr 1
        unfold mC mCd
        rw [hk']
        have z1 : ¬ zI v = -1 := by cases v <;> decide
        have z2 : ∀ u : Bool, zI v = zI u ↔ v = u := fun u => by cases v <;> cases u <;> decide
        rcases hok with h1 | h1
        · rw [h1, decide_eq_true (Or.inl rfl), if_pos rfl]
          cases hb : b.testBit j <;> cases v <;> simp [zI] <;> decide
        · rw [h1]
          cases hb : b.testBit j <;> cases v <;> simp [zI]
      · rw [if_neg h9, Nat.mul_one]
        unfold mC mCd
        rw [hk j hj h9])
    rw [if_pos he] at h
    exact h
  · rw [Nat.zero_mul]
/-- sums by a bit -/
theorem sum_bit (w : Nat → Nat) (e x y : Nat) : ∀ n, fo (fun a b => a + w b * (if b.testBit e then x else y)) 0 n + fo (fun a b => a + (if b.testBit e then w b else 0)) 0 n * y = fo (fun a b => a + (if b.testBit e then w b else 0)) 0 n * x + fo (fun a b => a + w b) 0 n * y
  | 0 => by show 0 + 0 * y = 0 * x + 0 * y; omega
  | n + 1 => by
    have ih := sum_bit w e x y n
    rw [fo_s, fo_s, fo_s]
    cases hb : n.testBit e
    · simp only [Bool.false_eq_true, if_false, Nat.add_zero, Nat.add_mul]
      omega
    · simp only [if_true, Nat.add_mul]
      omega
theorem sum_bit_le (w : Nat → Nat) (e : Nat) : ∀ n, fo (fun a b => a + (if b.testBit e then w b else 0)) 0 n ≤ fo (fun a b => a + w b) 0 n
  | 0 => Nat.le_refl _
  | n + 1 => by
    have ih := sum_bit_le w e n
    rw [fo_s, fo_s]
    split <;> omega
theorem sum_bit2 (w : Nat → Nat) (e x y n : Nat) : fo (fun a b => a + w b * (if b.testBit e then x else y)) 0 n = fo (fun a b => a + (if b.testBit e then w b else 0)) 0 n * x + (fo (fun a b => a + w b) 0 n - fo (fun a b => a + (if b.testBit e then w b else 0)) 0 n) * y := by
  have h := sum_bit w e x y n
  have h2 := Nat.mul_le_mul_right y (sum_bit_le w e n)
  rw [Nat.sub_mul]
  omega
theorem sum_bit3 (w : Nat → Nat) (e x : Nat) : ∀ n, fo (fun a b => a + (if b.testBit e then w b * x else 0)) 0 n = fo (fun a b => a + (if b.testBit e then w b else 0)) 0 n * x
  | 0 => by show 0 = 0 * x; omega
  | n + 1 => by
    have ih := sum_bit3 w e x n
    rw [fo_s, fo_s, ih, Nat.add_mul]
    split
    · rfl
    · rw [Nat.zero_mul]
