theorem brW_out {E ib S f : Nat} {w wo bw : Nat → Nat} (hS : S < 729) (hf : f < 6) (hd : dig S f ≠ 0) (hb : ib.testBit f = false) : brW E ib w wo bw S = 0 := by
  unfold brW
  rw [lwU_at _ _ _ _ _ 729 hS, lw_out hf hd hb]
theorem brW_split {E ib : Nat} {w wo bw : Nat → Nat} (hE : E ≤ 6) {S e : Nat} (hS : S < 729) (he : e < E) (hb : ib.testBit e = true) (hd : dig S e = 0) : brW E ib w wo bw S = brW E ib w wo bw (S + 1 * pw 3 e) + brW E ib w wo bw (S + 2 * pw 3 e) := by
  obtain ⟨s1, d1⟩ := dig_set (n := 6) hS (show e < 6 by omega) hd (show 1 < 3 by decide)
  obtain ⟨s2, d2⟩ := dig_set (n := 6) hS (show e < 6 by omega) hd (show 2 < 3 by decide)
  by_cases hin : ∀ f, f < 6 → dig S f ≠ 0 → ib.testBit f = true
  · have go : ∀ c, (∀ q, q < 6 → dig (S + c * pw 3 e) q = if q = e then c else dig S q) → ∀ f, f < 6 → dig (S + c * pw 3 e) f ≠ 0 → ib.testBit f = true := fun c hc f hf h9 => by
      rw [hc f hf] at h9
      by_cases q : f = e
      · rw [q]; exact hb
      · rw [if_neg q] at h9; exact hin f hf h9
    rw [brW_Sm hE hS hin, brW_Sm hE s1 (go 1 d1), brW_Sm hE s2 (go 2 d2)]
    exact Sm_split hS (by omega) hd _
  · obtain ⟨f, hf⟩ := Classical.not_forall.mp hin
    obtain ⟨h6, hf⟩ := Classical.not_imp.mp hf
    obtain ⟨h7, h8⟩ := Classical.not_imp.mp hf
    have h8 : ib.testBit f = false := by simpa using h8
    have hne : f ≠ e := fun h9 => by rw [h9, hb] at h8; cases h8
    rw [brW_out hS h6 h7 h8, brW_out s1 h6 (by rw [d1 f h6, if_neg hne]; exact h7) h8, brW_out s2 h6 (by rw [d2 f h6, if_neg hne]; exact h7) h8]
theorem brW_le {E ib : Nat} {w wo bw : Nat → Nat} (hE : E ≤ 6) {S : Nat} (hS : S < 729) : brW E ib w wo bw S ≤ fo (fun a b => a + w b) 0 (2 ^ E) := by
  by_cases hin : ∀ f, f < 6 → dig S f ≠ 0 → ib.testBit f = true
  · rw [brW_Sm hE hS hin]; exact Sm_le _ _ _
  · obtain ⟨f, hf⟩ := Classical.not_forall.mp hin
    obtain ⟨h6, hf⟩ := Classical.not_imp.mp hf
    obtain ⟨h7, h8⟩ := Classical.not_imp.mp hf
    rw [brW_out hS h6 h7 (by simpa using h8)]
    exact Nat.zero_le _
theorem x_br {E B tb tr : Nat} {hab sp tu : Nat → Nat} {kn : Nat → Int32} {fB fW : Nat → Nat} {fi : Nat} (hc : Cpl (wN E B tb tr hab sp tu kn) (2 ^ E) fB fW fi) (hE : E ≤ 6) (hb : smN fW fi < 2 ^ 42) (ib : Nat) (wo wr me bw : Nat → Nat) (bf : Int32) (r : Nat) : brOK E ib (w0 (mW E B tb tr hab sp tu kn)) wo wr me bw bf r := by
  rw [w0_N]
  have hle : ∀ j, j < 729 → brW E ib (wN E B tb tr hab sp tu kn) wo bw j ≤ smN fW fi := fun j hj => by rw [cpl_smN hc]; exact brW_le hE hj
  refine ⟨fun j hj => by have := hle j hj; omega, fun i hi j h1 hj => ?_⟩
  have hf : (laA (brW E ib (wN E B tb tr hab sp tu kn) wo bw) E ib r (wr, me, bf)).1 j = (fo (layF (brW E ib (wN E B tb tr hab sp tu kn) wo bw) E ib r) (wr, me, bf) i).1 j ∧ (laA (brW E ib (wN E B tb tr hab sp tu kn) wo bw) E ib r (wr, me, bf)).2.1 j = (fo (layF (brW E ib (wN E B tb tr hab sp tu kn) wo bw) E ib r) (wr, me, bf) i).2.1 j := by
    have h := la_far (T := (wr, me, bf)) (wo := brW E ib (wN E B tb tr hab sp tu kn) wo bw) (E := E) (ib := ib) (raw := r) (k := i) (j := j) h1 (729 - i) (by omega)
    rw [show i + (729 - i) = 729 by omega] at h
    unfold laA
    exact h
  have hd := la_bd (T := (wr, me, bf)) (r := r) hE (fun S e hS he hb hd => brW_split (w := wN E B tb tr hab sp tu kn) (wo := wo) (bw := bw) (ib := ib) hE hS he hb hd) 729 j (by omega) hj
  rw [← hf.1, ← hf.2]
  have hm := Nat.mul_le_mul (whc_le j 6) (hle j hj)
  exact ⟨Nat.lt_of_le_of_lt hd.1 (by decide), Nat.lt_of_le_of_lt (Nat.le_trans hd.2 hm) (by omega)⟩
