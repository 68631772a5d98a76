section
variable {E B tb tr : Nat} {hab sp tu : Nat → Nat} {kn : Nat → Int32} {fB fW : Nat → Nat} {fi : Nat}
theorem tot_f {hab' sp' tu' : Nat → Nat} {kn' : Nat → Int32} (hc : Cpl (wN E B tb tr hab sp tu kn) (2 ^ E) fB fW fi) (e x y : Nat) (h : ∀ b, wN E B tb tr hab' sp' tu' kn' b = wN E B tb tr hab sp tu kn b * (if b.testBit e then x else y)) : tot (mW E B tb tr hab' sp' tu' kn') E (-1) 0 = smB fB fW e fi * x + (smN fW fi - smB fB fW e fi) * y := by
  rw [cpl_smN hc, cpl_smB hc, ← sum_bit2]
  exact fo_congr _ (fun b _ s => by rw [mW_0, h])
theorem sp1_at (sp : Nat → Nat) (e j : Nat) : sp1 sp e j = sp j + (if j = e then 1 else 0) := by
  unfold sp1 updN
  by_cases h : j = e
  · rw [if_pos h, if_pos h, h]
  · rw [if_neg h, if_neg h, Nat.add_zero]
theorem tu1_at (tu : Nat → Nat) (e : Nat) (t : Bool) (j : Nat) : tu1 tu e t j = tu j + (if j = e then cond t 1 0 else 0) := by
  unfold tu1 updN
  by_cases h : j = e
  · rw [if_pos h, if_pos h, h]
  · rw [if_neg h, if_neg h, Nat.add_zero]
theorem wN_spun {e : Nat} (he : e < E) (t : Bool) (hle : tu e ≤ sp e) (b : Nat) : wN E B tb tr hab (sp1 sp e) (tu1 tu e t) kn b = wN E B tb tr hab sp tu kn b * (if b.testBit e then tnth t tb else tnth t tr) :=
  wN_spin b he t (fun j _ => sp1_at sp e j) (fun j _ => tu1_at tu e t j) hle
theorem c_spc (hc : Cpl (wN E B tb tr hab sp tu kn) (2 ^ E) fB fW fi) (hE : E ≤ 6) {e : Nat} (he : e < E) (hle : tu e ≤ sp e) (t : Bool) : cspC tb tr fB fW fi (nI e) t = spinC E B tb tr hab sp tu kn (nI e) t := by
  unfold cspC spinC canT cbS
  rw [ix_nI (by omega), tot_f hc e (tnth t tb) (tnth t tr) (wN_spun he t hle)]
theorem pr_zero {g : Nat → Nat} {e : Nat} (h : g e = 0) : ∀ n, e < n → pr g n = 0
  | 0, hn => absurd hn (Nat.not_lt_zero _)
  | n + 1, hn => by
    show pr g n * g n = 0
    by_cases h1 : e = n
    · rw [← h1, h, Nat.mul_zero]
    · rw [pr_zero h n (by omega), Nat.zero_mul]
theorem wN_zero {e : Nat} (he : e < E) {u : Bool} (hk : kn e = zI u) {b : Nat} (hb : b.testBit e ≠ u) : wN E B tb tr hab sp tu kn b = 0 := by
  unfold wN
  split
  · refine pr_zero (e := e) ?_ E he
    unfold gF mC mCd
    rw [hk, if_neg, Nat.zero_mul]
    intro h9
    have h9 := of_decide_eq_true h9
    revert hb h9
    cases b.testBit e <;> cases u <;> decide
  · rfl
theorem upd_at (kn : Nat → Int32) (e : Nat) (v : Int32) : upd kn e v e = v := by simp [upd]
theorem upd_ne (kn : Nat → Int32) {e j : Nat} (v : Int32) (h : j ≠ e) : upd kn e v j = kn j := by simp [upd, h]
theorem wN_sured {e : Nat} (he : e < E) (v : Bool) (hok : kn e = -1 ∨ kn e = zI v) (b : Nat) : wN E B tb tr hab sp tu (upd kn e (zI v)) b = wN E B tb tr hab sp tu kn b * (if b.testBit e then cond v 1 0 else cond v 0 1) :=
  wN_sure b he v (fun j _ h => upd_ne kn (zI v) h) (upd_at kn e (zI v)) hok
theorem c_kb (hc : Cpl (wN E B tb tr hab sp tu kn) (2 ^ E) fB fW fi) (hE : E ≤ 6) {e : Nat} (he : e < E) (hk : kn e = -1 ∨ kn e = zI true ∨ kn e = zI false) (v : Bool) : kbS fB fW fi (nI e) v = knOK E B tb tr hab sp tu kn e (zI v) := by
  unfold kbS knOK canT cbS
  rw [ix_nI (by omega)]
  by_cases hok : kn e = -1 ∨ kn e = zI v
  · rw [decide_eq_true hok, tot_f hc e (cond v 1 0) (cond v 0 1) (wN_sured he v hok), Bool.true_and]
  · rw [decide_eq_false hok, Bool.false_and]
    have hu : kn e = zI (!v) := by
      rcases hk with h | h | h
      · exact absurd (Or.inl h) hok
      · cases v
        · exact h
        · exact absurd (Or.inr h) hok
      · cases v
        · exact absurd (Or.inr h) hok
        · exact h
    refine decide_eq_false (fun h9 => ?_)
    have h0 : ∀ n, fo (fun a b => a + wN E B tb tr hab sp tu kn b * (if b.testBit e then cond v 1 0 else cond v 0 1)) 0 n = 0 := by
      intro n
      induction n with
      | zero => rfl
      | succ n ih =>
        rw [fo_s, ih]
        by_cases hb : n.testBit e = !v
        · rw [hb]; cases v <;> simp
        · rw [wN_zero he hu hb, Nat.zero_mul]
    have h1 := sum_bit2 (wN E B tb tr hab sp tu kn) e (cond v 1 0) (cond v 0 1) (2 ^ E)
    rw [h0, ← cpl_smN hc, ← cpl_smB hc] at h1
    omega
/-- the heaviest box -/
theorem lk_cpl {w : Nat → Nat} {N : Nat} (hc : Cpl w N fB fW fi) : ∀ n, n ≤ N → fo (lkF w) (-1, 0) n = if fitM w n = 0 then (-1, 0) else (nI (fB (fo (hvF fW) 0 (fitM w n - 1))), fW (fo (hvF fW) 0 (fitM w n - 1)))
  | 0, _ => rfl
  | n + 1, h => by
    have ih := lk_cpl hc n (by omega)
    rw [fo_s, fitM_s, ih]
    by_cases hw : 0 < w n
    · obtain ⟨h1, h2⟩ := hc.2 n (by omega) hw
      rw [if_pos hw, if_neg (Nat.succ_ne_zero _)]
      by_cases h0 : fitM w n = 0
      · rw [h0] at h1 h2
        rw [if_pos h0, h0]
        unfold lkF
        rw [if_pos hw]
        show _ = (nI (fB 0), fW 0)
        rw [h1, h2]
      · rw [if_neg h0]
        obtain ⟨j, hj⟩ : ∃ j, fitM w n = j + 1 := ⟨fitM w n - 1, by omega⟩
        rw [hj] at h1 h2 ⊢
        show lkF w (nI (fB (fo (hvF fW) 0 j)), fW (fo (hvF fW) 0 j)) n = (nI (fB (hvF fW (fo (hvF fW) 0 j) j)), fW (hvF fW (fo (hvF fW) 0 j) j))
        unfold lkF hvF
        rw [h2]
        by_cases hl : fW (fo (hvF fW) 0 j) < w n
        · unfold hvF at hl
          rw [if_pos hl, if_pos hl, h1, h2]
        · unfold hvF at hl
          rw [if_neg hl, if_neg hl]
    · rw [if_neg hw]
      split
      · unfold lkF; rw [if_neg hw]
      · unfold lkF; rw [if_neg (by omega)]
theorem c_lkst (hc : Cpl (wN E B tb tr hab sp tu kn) (2 ^ E) fB fW fi) (h0 : 0 < fi) : lkC fB fW fi = lkst (w0 (mW E B tb tr hab sp tu kn)) (2 ^ E) := by
  unfold lkC lkst
  rw [w0_N, lk_cpl hc _ (Nat.le_refl _), ← hc.1, if_neg (by omega)]
/-- the box of a number -/
theorem bby_cpl {w : Nat → Nat} {c : Nat} (hw : 0 < w c) : ∀ n b, b ≤ c → c < b + n → bby w n b (fitM w c - fitM w b) = nI c
  | 0, b, h1, h2 => by omega
  | n + 1, b, h1, h2 => by
    unfold bby
    by_cases hb : 0 < w b
    · rw [if_pos hb]
      by_cases he : b = c
      · subst he; rw [if_pos (by omega)]
      · have h3 := fitM_lt (w := w) (show b < c by omega) hb
        have h4 := fitM_s w b
        rw [if_pos hb] at h4
        rw [if_neg (by omega), show fitM w c - fitM w b - 1 = fitM w c - fitM w (b + 1) by omega]
        exact bby_cpl hw n (b + 1) (by omega) (by omega)
    · rw [if_neg hb]
      have he : b ≠ c := fun h => hb (h ▸ hw)
      have h4 := fitM_s w b
      rw [if_neg hb] at h4
      rw [← h4]
      exact bby_cpl hw n (b + 1) (by omega) (by omega)
theorem c_bby {w : Nat → Nat} {N : Nat} (hc : Cpl w N fB fW fi) {p : Nat} (hp : p < fi) : bby w N 0 p = nI (fB p) ∧ fB p < N := by
  obtain ⟨b, h1, h2, h3, h4, h5⟩ := cpl_in hc N (Nat.le_refl _) p (by rw [← hc.1]; exact hp)
  have h6 := bby_cpl h2 N 0 (Nat.zero_le _) (by omega)
  rw [h3, show fitM w 0 = 0 from rfl, Nat.sub_zero] at h6
  exact ⟨by rw [h6, h4], by omega⟩
theorem mo_cm (tb tr b : Nat) (a sd : Nat) : ∀ i, fo (moI tb tr b) (a, sd) i = (a + (fo (cmI tb tr b) (0, sd) i).1, (fo (cmI tb tr b) (0, sd) i).2)
  | 0 => rfl
  | i + 1 => by
    have ih := mo_cm tb tr b a sd i
    rw [fo_s, fo_s, ih]
    unfold moI cmI
    dsimp only
    congr 1
    split
    · omega
    · omega
theorem c_mor (hc : Cpl (wN E B tb tr hab sp tu kn) (2 ^ E) fB fW fi) (hE : E ≤ 6) (h0 : 0 < E → 0 < fi) (t sd q : Int32) : cmR tb tr E fB fi t sd q = morR tb tr E (w0 (mW E B tb tr hab sp tu kn)) t sd q := by
  unfold cmR morR
  by_cases hE0 : E = 0
  · rw [if_pos hE0, if_pos hE0]
  rw [if_neg hE0, if_neg hE0]
  have hfi := h0 (by omega)
  have h2E := p2le hE
  have key : ∀ s0 n, fo (cmO tb tr E fB fi) s0 n = fo (moO tb tr E (w0 (mW E B tb tr hab sp tu kn))) s0 n := fun s0 n => fo_congr n (fun i _ s => by
    unfold cmO moO
    rw [w0_N, ← hc.1]
    obtain ⟨h1, h2⟩ := c_bby hc (p := drV (drS s.2) fi) (Nat.mod_lt _ hfi)
    rw [h1, ix_nI (by omega), mo_cm])
  unfold cmN morN
  rw [key]
end
