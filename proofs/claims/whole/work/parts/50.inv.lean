/-! what holds between the class's world and the reference's -/
def TB (k : Nat) (sp tu : Nat → Nat) (ib sn : Nat) (fB fW : Nat → Nat) (fi : Nat) : Prop := (∀ j, tu j ≤ sp j) ∧ (∀ j, sp j ≤ k) ∧ sn ≤ 8 ∧ ib < 64 ∧ fi ≤ 20 ∧ (∀ j, fB j < 64) ∧ (∀ j, fW j < 2 ^ 63) ∧ smN fW fi ≤ 6144 * 10 ^ sn
def TI (E B tb tr : Nat) (hab sp tu : Nat → Nat) (kn : Nat → Int32) (ib : Nat) (fB fW : Nat → Nat) (fi : Nat) (fS fU : Nat → Nat) (fK : Nat → Int32) : Prop := Cpl (wN E B tb tr hab sp tu kn) (2 ^ E) fB fW fi ∧ ib < 2 ^ E ∧ 0 < smN fW fi ∧ (∀ j, j < E → fS j = sp j) ∧ (∀ j, j < E → fU j = tu j) ∧ (∀ j, j < E → fK j = kn j) ∧ ∀ j, j < E → kn j = -1 ∨ kn j = zI true ∨ kn j = zI false
section
variable {k E B tb tr : Nat} {hab sp tu : Nat → Nat} {kn : Nat → Int32} {fB fW : Nat → Nat} {fi ib sn : Nat} {fS fU : Nat → Nat} {fK : Nat → Int32}
theorem TB.mono (h : TB k sp tu ib sn fB fW fi) : TB (k + 1) sp tu ib sn fB fW fi := ⟨h.1, fun j => Nat.le_succ_of_le (h.2.1 j), h.2.2⟩
theorem TB.lt42 (h : TB k sp tu ib sn fB fW fi) : smN fW fi < 2 ^ 42 := by
  obtain ⟨_, _, h3, _, _, _, _, h8⟩ := h
  have h9 : 10 ^ sn ≤ 10 ^ 8 := Nat.pow_le_pow_right (by decide) h3
  exact Nat.lt_of_le_of_lt (Nat.le_trans h8 (Nat.mul_le_mul_left 6144 h9)) (by decide)
theorem TI.fip (h : TI E B tb tr hab sp tu kn ib fB fW fi fS fU fK) : 0 < fi := by
  rcases Nat.eq_zero_or_pos fi with q | q
  · have h3 := h.2.2.1
    rw [q] at h3
    exact absurd h3 (Nat.lt_irrefl _)
  · exact q
theorem tot_lt (hTB : TB k sp tu ib sn fB fW fi) (hTI : 0 < E → TI E B tb tr hab sp tu kn ib fB fW fi fS fU fK) : tot (mW E B tb tr hab sp tu kn) E (-1) 0 < 2 ^ 58 := by
  rcases Nat.eq_zero_or_pos E with h | h
  · subst h
    show 0 + mW 0 B tb tr hab sp tu kn 0 (-1) 0 < _
    rw [mW_0]
    unfold wN
    split
    · show 0 + 1 < _
      decide
    · decide
  · rw [tot_0 (hTI h).1]
    have := hTB.lt42
    omega
theorem tot_pos (hTI : 0 < E → TI E B tb tr hab sp tu kn ib fB fW fi fS fU fK) (h : 0 < E) : 0 < tot (mW E B tb tr hab sp tu kn) E (-1) 0 := by
  rw [tot_0 (hTI h).1]
  exact (hTI h).2.2.1
theorem w_le (b : Nat) : mW E B tb tr hab sp tu kn b (-1) 0 ≤ tot (mW E B tb tr hab sp tu kn) E (-1) 0 := by
  rw [mW_0]
  by_cases hb : b < 2 ^ E
  · have e : tot (mW E B tb tr hab sp tu kn) E (-1) 0 = smN (wN E B tb tr hab sp tu kn) (2 ^ E) := fo_congr _ (fun b _ s => by rw [mW_0])
    rw [e]
    exact smN_le hb
  · unfold wN
    rw [if_neg (fun h => hb h.2)]
    exact Nat.zero_le _
theorem bwt_le (e : Nat) : bwt (mW E B tb tr hab sp tu kn) E e 0 ≤ tot (mW E B tb tr hab sp tu kn) E (-1) 0 := by
  have e1 : tot (mW E B tb tr hab sp tu kn) E (-1) 0 = fo (fun a b => a + wN E B tb tr hab sp tu kn b) 0 (2 ^ E) := fo_congr _ (fun b _ s => by rw [mW_0])
  have e2 : bwt (mW E B tb tr hab sp tu kn) E e 0 = fo (fun a b => a + (if b.testBit e then wN E B tb tr hab sp tu kn b else 0)) 0 (2 ^ E) := fo_congr _ (fun b _ s => by rw [mW_0])
  rw [e1, e2]
  exact sum_bit_le _ _ _
theorem tur_lt (hE : E ≤ 6) (htb : tb ≤ 9) (htr : tr ≤ 9) (hTB : TB k sp tu ib sn fB fW fi) (hTI : 0 < E → TI E B tb tr hab sp tu kn ib fB fW fi fS fU fK) : ∀ e k, k ≤ 5 → e < E → tot (mW E B tb tr hab sp tu kn) E (nI e) k < 2 ^ 58 ∧ bwt (mW E B tb tr hab sp tu kn) E e k < 2 ^ 58 := by
  intro e k hk he
  have hc := (hTI (by omega)).1
  rw [tot_k hc hE he, bwt_k hc hE he]
  have a1 := Nat.mul_le_mul (Nat.le_refl (smB fB fW e fi)) (pow9 htb hk)
  have a2 := Nat.mul_le_mul (Nat.le_refl (smN fW fi - smB fB fW e fi)) (pow9 htr hk)
  have h42 := hTB.lt42
  have hle := smB_le fB fW e fi
  omega
theorem tnth_le {n : Nat} (t : Bool) (h : n ≤ 9) : tnth t n ≤ 10 := by cases t <;> simp [tnth] <;> omega
theorem mix_le {a c x y m : Nat} (h : a ≤ c) (hx : x ≤ m) (hy : y ≤ m) : a * x + (c - a) * y ≤ c * m := by
  have h1 := Nat.mul_le_mul (Nat.le_refl a) hx
  have h2 := Nat.mul_le_mul (Nat.le_refl (c - a)) hy
  have h3 : a * m + (c - a) * m = c * m := by rw [← Nat.add_mul, show a + (c - a) = c by omega]
  omega
theorem spin_lt (htb : tb ≤ 9) (htr : tr ≤ 9) (hTB : TB k sp tu ib sn fB fW fi) (hTI : 0 < E → TI E B tb tr hab sp tu kn ib fB fW fi fS fU fK) (t : Bool) : ∀ j, j < E → tot (mW E B tb tr hab (sp1 sp j) (tu1 tu j t) kn) E (-1) 0 < 2 ^ 60 := by
  intro j hj
  have hc := (hTI (by omega)).1
  rw [tot_f hc j (tnth t tb) (tnth t tr) (fun b => wN_spun hj t (hTB.1 j) b)]
  have h1 := mix_le (smB_le fB fW j fi) (tnth_le t htb) (tnth_le t htr)
  have h42 := hTB.lt42
  omega
theorem pr_le {g h : Nat → Nat} : ∀ n, (∀ j, j < n → g j ≤ h j) → pr g n ≤ pr h n
  | 0, _ => Nat.le_refl _
  | n + 1, q => Nat.mul_le_mul (pr_le n (fun j hj => q j (by omega))) (q n (by omega))
theorem wN_upd_le {e : Nat} {v : Int32} (h : kn e = -1 ∨ kn e = v) (b : Nat) : wN E B tb tr hab sp tu (upd kn e v) b ≤ wN E B tb tr hab sp tu kn b := by
  unfold wN
  split
  · refine pr_le E (fun j _ => ?_)
    unfold gF
    refine Nat.mul_le_mul_right _ ?_
    unfold mC mCd
    by_cases hj : j = e
    · subst hj
      rw [upd_at]
      rcases h with h | h
      · rw [h, decide_eq_true (Or.inl rfl : (-1 : Int32) = -1 ∨ (-1 : Int32) = zI (b.testBit j)), if_pos rfl]
        split
        · exact Nat.le_refl _
        · exact Nat.zero_le _
      · rw [h]
        exact Nat.le_refl _
    · rw [upd_ne _ _ hj]
      exact Nat.le_refl _
  · exact Nat.le_refl _
theorem sure_lt (hTB : TB k sp tu ib sn fB fW fi) (hTI : 0 < E → TI E B tb tr hab sp tu kn ib fB fW fi fS fU fK) : ∀ j v, j < E → (kn j = -1 ∨ kn j = v) → tot (mW E B tb tr hab sp tu (upd kn j v)) E (-1) 0 < 2 ^ 60 := by
  intro j v hj h
  have hc := (hTI (by omega)).1
  have e1 : tot (mW E B tb tr hab sp tu (upd kn j v)) E (-1) 0 = fo (fun a b => a + wN E B tb tr hab sp tu (upd kn j v) b) 0 (2 ^ E) := fo_congr _ (fun b _ s => by rw [mW_0])
  have h1 := sum_le (2 ^ E) (fun b _ => wN_upd_le (E := E) (B := B) (tb := tb) (tr := tr) (hab := hab) (sp := sp) (tu := tu) h b)
  rw [← cpl_smN hc] at h1
  have h42 := hTB.lt42
  rw [e1]
  omega
theorem wgS_63 {e x y M n0 : Nat} (hw : ∀ j, fW j < M) (hx : ∀ j, j < n0 → fW j * x < M ∧ fW j * y < M) : ∀ n, n ≤ n0 → ∀ j, (wgS e x y fB fW n).2.1 j < M
  | 0, _, j => hw j
  | n + 1, hn, j => by
    have ih := wgS_63 (e := e) (x := x) (y := y) hw hx n (by omega)
    have hk := ((wgS_keep e x y fB fW n).2 n (Nat.le_refl _)).2
    show kW (wgS e x y fB fW n).2.1 (wgS e x y fB fW n).2.2 ((wgS e x y fB fW n).2.1 n * (if ((wgS e x y fB fW n).1 n).testBit e then x else y)) j < M
    rw [hk]
    unfold kW
    cases decide (0 < fW n * (if ((wgS e x y fB fW n).1 n).testBit e then x else y) ∧ (wgS e x y fB fW n).2.2 < 20)
    · exact ih j
    · show updN _ _ _ j < M
      unfold updN
      split
      · have h3 := hx n (by omega)
        split
        · exact h3.1
        · exact h3.2
      · exact ih j
theorem wg_TB {e x y : Nat} (hTB : TB k sp tu ib sn fB fW fi) (hc : Cpl (wN E B tb tr hab sp tu kn) (2 ^ E) fB fW fi) (hx : x ≤ 10) (hy : y ≤ 10) : (wgS e x y fB fW fi).2.2 ≤ 20 ∧ (∀ j, (wgS e x y fB fW fi).1 j < 64) ∧ (∀ j, (wgS e x y fB fW fi).2.1 j < 2 ^ 63) := by
  have h42 := hTB.lt42
  obtain ⟨_, _, _, _, h5, h6, h7, _⟩ := hTB
  refine ⟨Nat.le_trans (wgS_keep e x y fB fW fi).1 h5, wgS_lt h6 fi, wgS_63 h7 (fun j hj => ?_) fi (Nat.le_refl _)⟩
  have h1 := smN_le (w := fW) hj
  have h2 := Nat.mul_le_mul h1 hx
  have h3 := Nat.mul_le_mul h1 hy
  omega
theorem in_spin (hTB : TB k sp tu ib sn fB fW fi) (hTI : TI E B tb tr hab sp tu kn ib fB fW fi fS fU fK) (hE : E ≤ 6) (htb : tb ≤ 9) (htr : tr ≤ 9) {e : Nat} (he : e < E) (t : Bool) (hs : sn < 8) (hcan : cspC tb tr fB fW fi (nI e) t = true) :
    TB (k + 1) (sp1 sp e) (tu1 tu e t) ib (sn + 1) (wgS e (tnth t tb) (tnth t tr) fB fW fi).1 (wgS e (tnth t tb) (tnth t tr) fB fW fi).2.1 (wgS e (tnth t tb) (tnth t tr) fB fW fi).2.2 ∧ TI E B tb tr hab (sp1 sp e) (tu1 tu e t) kn ib (wgS e (tnth t tb) (tnth t tr) fB fW fi).1 (wgS e (tnth t tb) (tnth t tr) fB fW fi).2.1 (wgS e (tnth t tb) (tnth t tr) fB fW fi).2.2 (sp1 fS e) (cond t (updN fU e (fU e + 1)) fU) fK := by
  obtain ⟨hc, hi, hp, h1, h2, h3, h4⟩ := hTI
  have hxl := tnth_le t htb
  have hyl := tnth_le t htr
  obtain ⟨g1, g2, g3⟩ := wg_TB (e := e) hTB hc hxl hyl
  obtain ⟨t1, t2, t3, t4, t5, t6, t7, t8⟩ := hTB
  have hsm := smN_wg hc t5 e (tnth t tb) (tnth t tr)
  have hml := mix_le (smB_le fB fW e fi) hxl hyl
  have hcan : 0 < smB fB fW (ix (nI e)) fi * tnth t tb + (smN fW fi - smB fB fW (ix (nI e)) fi) * tnth t tr := of_decide_eq_true hcan
  rw [ix_nI (by omega)] at hcan
  refine ⟨⟨fun j => ?_, fun j => ?_, by omega, t4, g1, g2, g3, ?_⟩, cpl_wg hc t5 e _ _ (fun b _ => wN_spun he t (t1 e) b), hi, by rw [hsm]; exact hcan, fun j hj => ?_, fun j hj => ?_, h3, h4⟩
  · rw [sp1_at, tu1_at]
    have := t1 j
    split
    · cases t <;> simp <;> omega
    · omega
  · rw [sp1_at]
    have := t2 j
    split <;> omega
  · rw [hsm, Nat.pow_succ]
    omega
  · rw [sp1_at, sp1_at, h1 j hj]
  · cases t
    · rw [tu1_at]
      show fU j = _
      rw [h2 j hj]
      split <;> rfl
    · show tu1 fU e true j = _
      rw [tu1_at, tu1_at, h2 j hj]
theorem in_sure (hTB : TB k sp tu ib sn fB fW fi) (hTI : TI E B tb tr hab sp tu kn ib fB fW fi fS fU fK) (hE : E ≤ 6) {e : Nat} (he : e < E) (v : Bool) (hcan : kbS fB fW fi (nI e) v = true) :
    TB k sp tu ib sn (wgS e (cond v 1 0) (cond v 0 1) fB fW fi).1 (wgS e (cond v 1 0) (cond v 0 1) fB fW fi).2.1 (wgS e (cond v 1 0) (cond v 0 1) fB fW fi).2.2 ∧ TI E B tb tr hab sp tu (upd kn e (zI v)) ib (wgS e (cond v 1 0) (cond v 0 1) fB fW fi).1 (wgS e (cond v 1 0) (cond v 0 1) fB fW fi).2.1 (wgS e (cond v 1 0) (cond v 0 1) fB fW fi).2.2 fS fU (upd fK e (zI v)) := by
  obtain ⟨hc, hi, hp, h1, h2, h3, h4⟩ := hTI
  have hok : kn e = -1 ∨ kn e = zI v := by
    have h9 := hcan
    rw [c_kb hc hE he (h4 e he) v] at h9
    exact of_decide_eq_true (Bool.and_eq_true_iff.mp h9).1
  have hxl : cond v 1 0 ≤ 1 := by cases v <;> decide
  have hyl : cond v 0 1 ≤ 1 := by cases v <;> decide
  obtain ⟨g1, g2, g3⟩ := wg_TB (e := e) hTB hc (Nat.le_trans hxl (by decide)) (Nat.le_trans hyl (by decide))
  obtain ⟨t1, t2, t3, t4, t5, t6, t7, t8⟩ := hTB
  have hsm := smN_wg hc t5 e (cond v 1 0) (cond v 0 1)
  have hml := mix_le (smB_le fB fW e fi) hxl hyl
  have hcan : 0 < smB fB fW (ix (nI e)) fi * cond v 1 0 + (smN fW fi - smB fB fW (ix (nI e)) fi) * cond v 0 1 := of_decide_eq_true hcan
  rw [ix_nI (by omega)] at hcan
  refine ⟨⟨t1, t2, t3, t4, g1, g2, g3, ?_⟩, cpl_wg hc t5 e _ _ (fun b _ => wN_sured he v hok b), hi, by rw [hsm]; exact hcan, h1, h2, fun j hj => ?_, fun j hj => ?_⟩
  · rw [hsm]
    omega
  · by_cases hj2 : j = e
    · rw [hj2, upd_at, upd_at]
    · rw [upd_ne _ _ hj2, upd_ne _ _ hj2, h3 j hj]
  · by_cases hj2 : j = e
    · rw [hj2, upd_at]
      cases v
      · exact Or.inr (Or.inr rfl)
      · exact Or.inr (Or.inl rfl)
    · rw [upd_ne _ _ hj2]
      exact h4 j hj
theorem out_TB {jb : Nat} (hTB : TB k sp tu ib sn fB fW fi) (h : jb ≤ ib) : TB k sp tu jb sn fB fW fi := ⟨hTB.1, hTB.2.1, hTB.2.2.1, Nat.lt_of_le_of_lt h hTB.2.2.2.1, hTB.2.2.2.2⟩
theorem out_TI {jb : Nat} (hTI : TI E B tb tr hab sp tu kn ib fB fW fi fS fU fK) (h : jb ≤ ib) : TI E B tb tr hab sp tu kn jb fB fW fi fS fU fK := ⟨hTI.1, Nat.lt_of_le_of_lt h hTI.2.1, hTI.2.2⟩
/-! an image is laid, or taken back -/
theorem cpF_at (f h : Nat → Nat) : ∀ n j, fo (cpF f) h n j = if j < n then f j else h j
  | 0, j => by rw [if_neg (Nat.not_lt_zero _)]; rfl
  | n + 1, j => by
    show updN (fo (cpF f) h n) n (f n) j = _
    by_cases hj : j = n
    · rw [hj, updN_s, if_pos (Nat.lt_succ_self _)]
    · rw [updN_n hj, cpF_at f h n j]
      by_cases h2 : j < n
      · rw [if_pos h2, if_pos (by omega)]
      · rw [if_neg h2, if_neg (by omega)]
theorem cpK_at (f h : Nat → Int32) : ∀ n j, fo (cpK f) h n j = if j < n then f j else h j
  | 0, j => by rw [if_neg (Nat.not_lt_zero _)]; rfl
  | n + 1, j => by
    show upd (fo (cpK f) h n) n (f n) j = _
    by_cases hj : j = n
    · rw [hj, upd_at, if_pos (Nat.lt_succ_self _)]
    · rw [upd_ne _ _ hj, cpK_at f h n j]
      by_cases h2 : j < n
      · rw [if_pos h2, if_pos (by omega)]
      · rw [if_neg h2, if_neg (by omega)]
theorem zF_if (h : Nat → Nat) : ∀ n j, fo zF h n j = if j < n then 0 else h j
  | 0, j => by rw [if_neg (Nat.not_lt_zero _)]; rfl
  | n + 1, j => by
    show updN (fo zF h n) n 0 j = _
    by_cases hj : j = n
    · rw [hj, updN_s, if_pos (Nat.lt_succ_self _)]
    · rw [updN_n hj, zF_if h n j]
      by_cases h2 : j < n
      · rw [if_pos h2, if_pos (by omega)]
      · rw [if_neg h2, if_neg (by omega)]
theorem nF_if (h : Nat → Int32) : ∀ n j, fo nF h n j = if j < n then -1 else h j
  | 0, j => by rw [if_neg (Nat.not_lt_zero _)]; rfl
  | n + 1, j => by
    show upd (fo nF h n) n (-1) j = _
    by_cases hj : j = n
    · rw [hj, upd_at, if_pos (Nat.lt_succ_self _)]
    · rw [upd_ne _ _ hj, nF_if h n j]
      by_cases h2 : j < n
      · rw [if_pos h2, if_pos (by omega)]
      · rw [if_neg h2, if_neg (by omega)]
theorem kHb_at (pg : Nat → Nat) (E : Nat) (h : Nat → Nat) : ∀ n j, fo (kHb pg E) h n j = if j < n then (if j < E then pg (7 + j) - 48 else 0) else h j
  | 0, j => by rw [if_neg (Nat.not_lt_zero _)]; rfl
  | n + 1, j => by
    show updN (fo (kHb pg E) h n) n (if n < E then pg (7 + n) - 48 else 0) j = _
    by_cases hj : j = n
    · rw [hj, updN_s, if_pos (Nat.lt_succ_self _)]
    · rw [updN_n hj, kHb_at pg E h n j]
      by_cases h2 : j < n
      · rw [if_pos h2, if_pos (show j < n + 1 by omega)]
      · rw [if_neg h2, if_neg (show ¬ j < n + 1 by omega)]
theorem wN_congr {hab' sp' tu' : Nat → Nat} {kn' : Nat → Int32} (h0 : ∀ j, j < E → hab' j = hab j) (h1 : ∀ j, j < E → sp' j = sp j) (h2 : ∀ j, j < E → tu' j = tu j) (h3 : ∀ j, j < E → kn' j = kn j) : wN E B tb tr hab' sp' tu' kn' = wN E B tb tr hab sp tu kn := by
  funext b
  unfold wN
  rw [pr_congr (g := gF tb tr hab sp tu kn b) E (fun j hj => by unfold gF mC mCd; rw [h0 j hj, h1 j hj, h2 j hj, h3 j hj])]
theorem cpN_lt {α : Type} (f h : Nat → α) {n j : Nat} (hj : j < n) : cpN f h n j = f j := if_pos hj
theorem smN_congr {f h : Nat → Nat} (n : Nat) (q : ∀ j, j < n → f j = h j) : smN f n = smN h n := fo_congr n (fun j hj a => by rw [q j hj])
theorem copy_TB {ksp ktu gB gW : Nat → Nat} {gb gn gi : Nat} (hTB : TB k sp tu ib sn fB fW fi) (hKB : TB k ksp ktu gb gn gB gW gi) : TB k (fo (cpF sp) ksp 6) (fo (cpF tu) ktu 6) ib sn (cpN fB gB 20) (cpN fW gW 20) fi := by
  obtain ⟨t1, t2, t3, t4, t5, t6, t7, t8⟩ := hTB
  obtain ⟨s1, s2, s3, s4, s5, s6, s7, s8⟩ := hKB
  refine ⟨fun j => ?_, fun j => ?_, t3, t4, t5, fun j => ?_, fun j => ?_, ?_⟩
  · rw [cpF_at, cpF_at]
    split
    · exact t1 j
    · exact s1 j
  · rw [cpF_at]
    split
    · exact t2 j
    · exact s2 j
  · unfold cpN
    split
    · exact t6 j
    · exact s6 j
  · unfold cpN
    split
    · exact t7 j
    · exact s7 j
  · rw [smN_congr (h := fW) fi (fun j hj => cpN_lt _ _ (by omega))]
    exact t8
theorem copy_TI {ksp ktu gB gW gS gU : Nat → Nat} {gK kkn : Nat → Int32} (hE : E ≤ 6) (hTB : TB k sp tu ib sn fB fW fi) (hTI : TI E B tb tr hab sp tu kn ib fB fW fi fS fU fK) : TI E B tb tr hab (fo (cpF sp) ksp 6) (fo (cpF tu) ktu 6) (fo (cpK kn) kkn 6) ib (cpN fB gB 20) (cpN fW gW 20) fi (cpN fS gS 6) (cpN fU gU 6) (cpN fK gK 6) := by
  obtain ⟨hc, hi, hp, h1, h2, h3, h4⟩ := hTI
  have h20 := hTB.2.2.2.2.1
  have e1 : ∀ j, j < E → fo (cpF sp) ksp 6 j = sp j := fun j hj => by rw [cpF_at, if_pos (by omega)]
  have e2 : ∀ j, j < E → fo (cpF tu) ktu 6 j = tu j := fun j hj => by rw [cpF_at, if_pos (by omega)]
  have e3 : ∀ j, j < E → fo (cpK kn) kkn 6 j = kn j := fun j hj => by rw [cpK_at, if_pos (by omega)]
  refine ⟨?_, hi, ?_, fun j hj => ?_, fun j hj => ?_, fun j hj => ?_, fun j hj => ?_⟩
  · rw [wN_congr (fun _ _ => rfl) e1 e2 e3]
    refine ⟨hc.1, fun b hb hw => ?_⟩
    have h9 := fitM_lt hb hw
    have h8 := hc.1
    rw [cpN_lt _ _ (by omega), cpN_lt _ _ (by omega)]
    exact hc.2 b hb hw
  · rw [smN_congr (h := fW) fi (fun j hj => cpN_lt _ _ (by omega))]
    exact hp
  · rw [cpN_lt _ _ (by omega), e1 j hj, h1 j hj]
  · rw [cpN_lt _ _ (by omega), e2 j hj, h2 j hj]
  · rw [cpN_lt _ _ (by omega), e3 j hj, h3 j hj]
  · rw [e3 j hj]
    exact h4 j hj
end
/-! a kitchen is read -/
theorem kpS_lt {T : TS} {b v N M : Nat} (h1 : ∀ j, T.1 j < N) (h2 : ∀ j, T.2.1 j < M) (hb : b < N) (hv : v < M) : (∀ j, (kpS T b v).1 j < N) ∧ ∀ j, (kpS T b v).2.1 j < M := by
  refine ⟨fun j => ?_, fun j => ?_⟩
  · show kB T.1 T.2.2 b v j < N
    unfold kB
    cases decide (0 < v ∧ T.2.2 < 20)
    · exact h1 j
    · show updN _ _ _ j < N
      unfold updN
      split
      · exact hb
      · exact h1 j
  · show kW T.2.1 T.2.2 v j < M
    unfold kW
    cases decide (0 < v ∧ T.2.2 < 20)
    · exact h2 j
    · show updN _ _ _ j < M
      unfold updN
      split
      · exact hv
      · exact h2 j
theorem bgS_lt {hh : Nat → Nat} {E B : Nat} {fB fW : Nat → Nat} (h1 : ∀ j, fB j < 64) (h2 : ∀ j, fW j < 2 ^ 63) (h3 : ∀ b, b < 64 → hbP hh E b < 2 ^ 63) : ∀ n, n ≤ 64 → (∀ j, (bgS hh E B fB fW n).1 j < 64) ∧ ∀ j, (bgS hh E B fB fW n).2.1 j < 2 ^ 63
  | 0, _ => ⟨h1, h2⟩
  | n + 1, hn => by
    obtain ⟨g1, g2⟩ := bgS_lt (B := B) h1 h2 h3 n (by omega)
    show (∀ j, (bgF hh E B (bgS hh E B fB fW n) n).1 j < 64) ∧ ∀ j, (bgF hh E B (bgS hh E B fB fW n) n).2.1 j < 2 ^ 63
    unfold bgF
    split
    · exact kpS_lt g1 g2 (by omega) (h3 n (by omega))
    · exact ⟨g1, g2⟩
theorem in_kit {k : Nat} {cp hh hab sp tu fB fW fS fU : Nat → Nat} {kn fK : Nat → Int32} {fi ib sn n tb tr : Nat} (hTB : TB k sp tu ib sn fB fW fi) (hcp : ∀ j, cp j < 128) (hh0 : ∀ j, hh j < 1000) (hab0 : ∀ j, hab j < 1000) (hk : kOK cp n = true) :
    (2 ≤ cp 0 - 48 ∧ cp 0 - 48 ≤ 6 ∧ cp 1 - 48 ≤ 6 ∧ cp 3 - 48 ≤ 9 ∧ cp 4 - 48 ≤ 9 ∧ cp 5 - 48 ≤ 9) ∧ (∀ j, fo (rdH cp) hh (cp 0 - 48) j < 1000) ∧ (∀ j, fo (kHb cp (cp 0 - 48)) hab 6 j < 1000) ∧ (∀ j, j < cp 0 - 48 → fo (rdH cp) hh (cp 0 - 48) j = fo (kHb cp (cp 0 - 48)) hab 6 j) ∧
    TB k (fo zF sp 6) (fo zF tu 6) (2 ^ (cp 0 - 48) - 1) 0 (bgS (fo (rdH cp) hh (cp 0 - 48)) (cp 0 - 48) (cp 1 - 48) fB fW (2 ^ (cp 0 - 48))).1 (bgS (fo (rdH cp) hh (cp 0 - 48)) (cp 0 - 48) (cp 1 - 48) fB fW (2 ^ (cp 0 - 48))).2.1 (bgS (fo (rdH cp) hh (cp 0 - 48)) (cp 0 - 48) (cp 1 - 48) fB fW (2 ^ (cp 0 - 48))).2.2 ∧
    TI (cp 0 - 48) (cp 1 - 48) tb tr (fo (kHb cp (cp 0 - 48)) hab 6) (fo zF sp 6) (fo zF tu 6) (fo nF kn 6) (2 ^ (cp 0 - 48) - 1) (bgS (fo (rdH cp) hh (cp 0 - 48)) (cp 0 - 48) (cp 1 - 48) fB fW (2 ^ (cp 0 - 48))).1 (bgS (fo (rdH cp) hh (cp 0 - 48)) (cp 0 - 48) (cp 1 - 48) fB fW (2 ^ (cp 0 - 48))).2.1 (bgS (fo (rdH cp) hh (cp 0 - 48)) (cp 0 - 48) (cp 1 - 48) fB fW (2 ^ (cp 0 - 48))).2.2 (fo zF fS 6) (fo zF fU 6) (fo nF fK 6) := by
  obtain ⟨⟨d1, d2, d3, d4, d5, d6, d7, d8, d9, d10, d11⟩, hn7, hn9⟩ := kOK_d hcp hk
  have hhb := rdH_hb hcp hk hh
  obtain ⟨t1, t2, t3, t4, t5, t6, t7, t8⟩ := hTB
  have hE6 : cp 0 - 48 ≤ 6 := by omega
  have h2E := p2le hE6
  have h2p : 0 < 2 ^ (cp 0 - 48) := Nat.pow_pos (by decide)
  have hEq : ∀ j, j < cp 0 - 48 → fo (rdH cp) hh (cp 0 - 48) j = fo (kHb cp (cp 0 - 48)) hab 6 j := fun j hj => by rw [rdH_at _ _ hj, kHb_at, if_pos (by omega), if_pos hj]
  have h4 : ∀ j, j < cp 0 - 48 → 1 ≤ fo (rdH cp) hh (cp 0 - 48) j ∧ fo (rdH cp) hh (cp 0 - 48) j ≤ 4 := fun j hj => by
    rw [rdH_at _ _ hj]
    have := d11 (7 + j) (by omega) (by omega)
    omega
  have hz : ∀ (f : Nat → Nat) j, j < cp 0 - 48 → fo zF f 6 j = 0 := fun f j hj => by rw [zF_if, if_pos (by omega)]
  have hm : ∀ (f : Nat → Int32) j, j < cp 0 - 48 → fo nF f 6 j = -1 := fun f j hj => by rw [nF_if, if_pos (by omega)]
  obtain ⟨c1, c2, c3⟩ := cpl_begin (tb := tb) (tr := tr) (E := cp 0 - 48) (B := cp 1 - 48) (hh := fo (rdH cp) hh (cp 0 - 48)) (hab := fo (kHb cp (cp 0 - 48)) hab 6) (sp := fo zF sp 6) (tu := fo zF tu 6) (kn := fo nF kn 6) fB fW hE6 (by omega) (fun j hj => (hEq j hj).symm) (hz sp) (hz tu) (hm kn) h4
  obtain ⟨b1, b2⟩ := bgS_lt (B := cp 1 - 48) t6 t7 hhb (2 ^ (cp 0 - 48)) h2E
  refine ⟨by omega, rdH_lt hcp hh0 _, fun j => ?_, hEq, ⟨fun j => ?_, fun j => ?_, by omega, by omega, bgS_20 _ _ _ _ _ _, b1, b2, by rw [Nat.pow_zero, Nat.mul_one]; exact c2⟩, c1, by omega, c3, fun j hj => ?_, fun j hj => ?_, fun j hj => ?_, fun j hj => Or.inl (hm kn j hj)⟩
  · rw [kHb_at]
    split
    · split
      · have := hcp (7 + j)
        omega
      · decide
    · exact hab0 j
  · rw [zF_if, zF_if]
    split
    · exact Nat.le_refl _
    · exact t1 j
  · rw [zF_if]
    split
    · exact Nat.zero_le _
    · exact t2 j
  · rw [hz fS j hj, hz sp j hj]
  · rw [hz fU j hj, hz tu j hj]
  · rw [hm fK j hj, hm kn j hj]
/-! the class's breaking where there is no kitchen -/
theorem cb_zero {r : Nat} {fB fW xW xC xO : Nat → Nat} {qb : Nat} : cbOK (popS 0 6) r (fo (spF fB fW 0) (fo zF xW (pw 3 (popS 0 6))) 0, xC, xO, qb) ∧ (csl fB fW 0 0 xW xC xO qb r).2.1 0 < 2 ^ 48 := by
  have e0 : popS 0 6 = 0 := by decide
  unfold csl
  rw [e0]
  have hT : (slF 0 r (fo (spF fB fW 0) (fo zF xW (pw 3 0)) 0, xC, xO, qb) 0) = cbC (fo (spF fB fW 0) (fo zF xW (pw 3 0)) 0, xC, xO, qb) 0 := brS_0 rfl
  have hz : (fo zF xW (pw 3 0)) 0 = 0 := rfl
  refine ⟨fun k hk j hj => ?_, ?_⟩
  · have hj0 : j = 0 := by
      have : pw 3 0 = 1 := rfl
      omega
    subst hj0
    have hk1 : k = 0 ∨ k = 1 := by
      have : pw 3 0 = 1 := rfl
      omega
    rcases hk1 with rfl | rfl
    · refine ⟨by show (fo zF xW (pw 3 0)) 0 < _; rw [hz]; decide, fun h => ?_⟩
      have : pw 3 0 = 1 := rfl
      omega
    · show (slF 0 r (fo (spF fB fW 0) (fo zF xW (pw 3 0)) 0, xC, xO, qb) 0).1 0 < _ ∧ (_ → (slF 0 r (fo (spF fB fW 0) (fo zF xW (pw 3 0)) 0, xC, xO, qb) 0).2.1 0 < _ ∧ (slF 0 r (fo (spF fB fW 0) (fo zF xW (pw 3 0)) 0, xC, xO, qb) 0).2.2.1 0 < _)
      rw [hT]
      exact ⟨by show (fo zF xW (pw 3 0)) 0 < _; rw [hz]; decide, fun _ => ⟨by show updN xC 0 0 0 < _; rw [updN_s]; decide, by show updN xO 0 0 0 < _; rw [updN_s]; decide⟩⟩
  · show (slF 0 r (fo (spF fB fW 0) (fo zF xW (pw 3 0)) 0, xC, xO, qb) 0).2.1 0 < _
    rw [hT]
    show updN xC 0 0 0 < _
    rw [updN_s]
    decide
theorem trs_mono {tr : Nat → Option Nat} {kd : Nat → Nat} {pl : va_W} {n m : Nat} (h : trsOK tr kd pl n) (hm : m ≤ n) : trsOK tr kd pl m := fun j hj => h j (by omega)
theorem trs_push {tr : Nat → Option Nat} {kd : Nat → Nat} {pl : va_W} {n a x : Nat} (h : trsOK tr kd pl n) (hx : x < 5) : trsOK (va_up tr n (some a)) (updN kd n x) ((a, Sum.inr (kc x, [])) :: pl) (n + 1) := by
  intro j hj
  by_cases hjn : j = n
  · subst hjn
    refine ⟨a, va_up_self _ _ _, ?_, ?_⟩
    · rw [updN_s]
      exact List.mem_cons_self
    · rw [updN_s]
      exact hx
  · obtain ⟨b, h1, h2, h3⟩ := h j (by omega)
    refine ⟨b, ?_, ?_, ?_⟩
    · rw [va_up_ne _ _ hjn]
      exact h1
    · rw [updN_n hjn]
      exact List.mem_cons_of_mem _ h2
    · rw [updN_n hjn]
      exact h3
