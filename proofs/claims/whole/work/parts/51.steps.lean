/-! the answers agree, with a kitchen or without; what holds is kept -/
theorem isE_0 (x : Int32) : ¬ isE 0 x = true := fun h => by
  have h := of_decide_eq_true h
  omega
section
variable {k E B tb tw : Nat} {hab sp tu : Nat → Nat} {kn : Nat → Int32} {fB fW : Nat → Nat} {fi ib sn : Nat} {fS fU : Nat → Nat} {fK : Nat → Int32}
theorem a_egg {hh : Nat → Nat} (hE : E ≤ 6) (hEq : ∀ j, j < E → hh j = hab j) (hTI : 0 < E → TI E B tb tw hab sp tu kn ib fB fW fi fS fU fK) (x w : Int32) : ceggR E hh fS fU fK ib x w = eggR E hab sp tu kn ib x w :=
  c_egg ib hEq (fun j hj => (hTI (by omega)).2.2.2.1 j hj) (fun j hj => (hTI (by omega)).2.2.2.2.1 j hj) (fun j hj => (hTI (by omega)).2.2.2.2.2.1 j hj) hE x w
theorem a_lik (hTI : 0 < E → TI E B tb tw hab sp tu kn ib fB fW fi fS fU fK) (x p : Int32) : clkR E fB fW fi x p = likR (mW E B tb tw hab sp tu kn) E x p := by
  rcases Nat.eq_zero_or_pos E with h | h
  · subst h
    rw [clkR, likR, if_neg (isE_0 x), if_neg (isE_0 x)]
  · exact c_lik (hTI h).1 x p
theorem a_rsk (hTI : 0 < E → TI E B tb tw hab sp tu kn ib fB fW fi fS fU fK) (fa : Nat) (x p : Int32) : crkR E fa fB fW fi ib x p = rskR (mW E B tb tw hab sp tu kn) E fa ib x p := by
  rcases Nat.eq_zero_or_pos E with h | h
  · subst h
    rw [crkR, rskR, if_neg (isE_0 x), if_neg (isE_0 x)]
  · exact c_rsk (hTI h).1 fa ib x p
theorem a_tur (hE : E ≤ 6) (hTI : 0 < E → TI E B tb tw hab sp tu kn ib fB fW fi fS fU fK) (x t : Int32) : ctR E tb tw fB fW fi x t = turR (mW E B tb tw hab sp tu kn) E x t := by
  rcases Nat.eq_zero_or_pos E with h | h
  · subst h
    rw [ctR, turR, if_neg (isE_0 x), if_neg (isE_0 x)]
  · exact c_tur (hTI h).1 hE x t
theorem a_fit (hTI : 0 < E → TI E B tb tw hab sp tu kn ib fB fW fi fS fU fK) (q : Int32) : cftR fB fi E q = fitR (mW E B tb tw hab sp tu kn) E q := by
  rcases Nat.eq_zero_or_pos E with h | h
  · subst h
    rw [cftR, fitR, if_pos rfl, if_pos rfl]
  · exact c_fits (hTI h).1 q
theorem a_lks (hTI : 0 < E → TI E B tb tw hab sp tu kn ib fB fW fi fS fU fK) : (if E = 0 then (-103 : Int32) else nI (fB (fo (hvF fW) 0 (fi - 1)))) = if E = 0 then -103 else lkst (w0 (mW E B tb tw hab sp tu kn)) (2 ^ E) := by
  rcases Nat.eq_zero_or_pos E with h | h
  · rw [if_pos h, if_pos h]
  · rw [if_neg (by omega), if_neg (by omega)]
    exact c_lkst (hTI h).1 (hTI h).fip
theorem a_mor (hE : E ≤ 6) (hTI : 0 < E → TI E B tb tw hab sp tu kn ib fB fW fi fS fU fK) (t sd q : Int32) : cmR tb tw E fB fi t sd q = morR tb tw E (w0 (mW E B tb tw hab sp tu kn)) t sd q := by
  rcases Nat.eq_zero_or_pos E with h | h
  · subst h
    rw [cmR, morR, if_pos rfl, if_pos rfl]
  · exact c_mor (hTI h).1 hE (fun _ => (hTI h).fip) t sd q
theorem a_wst {xW xC xO wo wr me bw : Nat → Nat} {qb : Nat} (hE : E ≤ 6) (hTB : TB k sp tu ib sn fB fW fi) (hTI : 0 < E → TI E B tb tw hab sp tu kn ib fB fW fi fS fU fK) (as : Nat) (bf x q : Int32) : cwsR E ib as fB fW fi xW xC xO qb x q = wstR E ib as (w0 (mW E B tb tw hab sp tu kn)) wo wr me bw bf x q := by
  rcases Nat.eq_zero_or_pos E with h | h
  · subst h
    unfold cwsR wstR
    rw [if_neg (show ¬ (0 < 0 ∧ as < 60) by omega), if_neg (show ¬ (0 < 0 ∧ as < 60) by omega)]
  · exact c_wst (hTI h).1 hE (hTI h).2.1 hTB.lt42 (hTI h).2.2.1 as wr me bf x q
theorem a_men {xW xC xO wo wr me bw : Nat → Nat} {qb : Nat} (hE : E ≤ 6) (hTB : TB k sp tu ib sn fB fW fi) (hTI : 0 < E → TI E B tb tw hab sp tu kn ib fB fW fi fS fU fK) (as : Nat) (bf x q : Int32) : cmnR E ib as fB fW fi xW xC xO qb x q = menR E ib as (w0 (mW E B tb tw hab sp tu kn)) wo wr me bw bf x q := by
  rcases Nat.eq_zero_or_pos E with h | h
  · subst h
    unfold cmnR menR
    rw [if_neg (show ¬ (0 < 0 ∧ as < 60) by omega), if_neg (show ¬ (0 < 0 ∧ as < 60) by omega)]
  · exact c_men (hTI h).1 hE (hTI h).2.1 hTB.lt42 as wr me bf x q
theorem a_cb {xW xC xO : Nat → Nat} {qb tC : Nat} (hE : E ≤ 6) (hTB : TB k sp tu ib sn fB fW fi) (hZ : E = 0 → tC = 0 ∧ ib = 0 ∧ fi = 0) (hTI : 0 < E → TI E B tb tw hab sp tu kn ib fB fW fi fS fU fK) : ∀ r, r ≤ 6 → hrB fB ib r fi = true → cbOK (popS ib 6) r ((fo (spF fB fW ib) (fo zF xW (pw 3 (popS ib 6))) fi), xC, xO, qb) := by
  intro r _ hr
  rcases Nat.eq_zero_or_pos E with h | h
  · obtain ⟨-, rfl, rfl⟩ := hZ h
    exact cb_zero.1
  · exact x_cb (hTI h).1 hE (hTI h).2.1 hTB.lt42 hr
theorem a_co {xW xC xO : Nat → Nat} {qb tC : Nat} (hE : E ≤ 6) (hTB : TB k sp tu ib sn fB fW fi) (hZ : E = 0 → tC = 0 ∧ ib = 0 ∧ fi = 0) (hTI : 0 < E → TI E B tb tw hab sp tu kn ib fB fW fi fS fU fK) : ∀ r, r ≤ 6 → hrB fB ib r fi = true → (csl fB fW fi ib xW xC xO qb r).2.1 0 < 2 ^ 48 := by
  intro r _ hr
  rcases Nat.eq_zero_or_pos E with h | h
  · obtain ⟨-, rfl, rfl⟩ := hZ h
    exact cb_zero.2
  · exact x_co (hTI h).1 hE (hTI h).2.1 hTB.lt42 hr
theorem a_br (hE : E ≤ 6) (hTB : TB k sp tu ib sn fB fW fi) (hTI : 0 < E → TI E B tb tw hab sp tu kn ib fB fW fi fS fU fK) (wo wr me bw : Nat → Nat) (bf : Int32) : ∀ r, 1 ≤ r → r ≤ 6 → 0 < E → brOK E ib (w0 (mW E B tb tw hab sp tu kn)) wo wr me bw bf r := fun r _ _ h => x_br (hTI h).1 hE hTB.lt42 ib wo wr me bw bf r
theorem a_wp (hE : E ≤ 6) (hTI : 0 < E → TI E B tb tw hab sp tu kn ib fB fW fi fS fU fK) (wo bw : Nat → Nat) : ∀ r, 1 ≤ r → r ≤ 6 → 0 < E → isB E ib r (w0 (mW E B tb tw hab sp tu kn)) = true → 0 < brW E ib (w0 (mW E B tb tw hab sp tu kn)) wo bw 0 := fun r _ _ h _ => by
  rw [w0_N, x_w0 (hTI h).1 hE]
  exact (hTI h).2.2.1
theorem a_fip (hTI : 0 < E → TI E B tb tw hab sp tu kn ib fB fW fi fS fU fK) : 0 < E → 0 < fitM (w0 (mW E B tb tw hab sp tu kn)) (2 ^ E) := fun h => by
  rw [w0_N, ← (hTI h).1.1]
  exact (hTI h).fip
theorem a_spO (hE : E ≤ 6) (hTB : TB k sp tu ib sn fB fW fi) (hTI : 0 < E → TI E B tb tw hab sp tu kn ib fB fW fi fS fU fK) (x : Int32) (t : Bool) : spinOK E B tb tw hab sp tu kn ib sn x t = cspOK E tb tw fB fW fi ib sn x t ∧ spinR E B tb tw hab sp tu kn ib sn x t = cspR E tb tw fB fW fi ib sn x t := by
  have hs := hTB.2.2.1
  unfold spinOK cspOK spinR cspR
  by_cases h : isE E x = true
  · obtain ⟨j, hj, rfl⟩ := isE_t h
    rw [← c_spc (hTI (by omega)).1 hE hj (hTB.1 j) t, decide_eq_decide.mpr (show sn ≠ 8 ↔ sn < 8 by omega)]
    refine ⟨rfl, ?_⟩
    by_cases h8 : sn < 8
    · rw [if_neg (show ¬ sn = 8 by omega), if_pos h8]
    · rw [if_pos (show sn = 8 by omega), if_neg h8]
  · rw [if_neg h, if_neg h]
    have h2 : isE E x = false := by simpa using h
    rw [h2]
    exact ⟨rfl, rfl⟩
theorem a_stS (hE : E ≤ 6) (hTI : 0 < E → TI E B tb tw hab sp tu kn ib fB fW fi fS fU fK) (x w : Int32) : stS E B tb tw hab sp tu kn ib x w = cstS E fB fW fi ib x w := by
  unfold stS cstS
  by_cases h : isE E x = true
  · obtain ⟨j, hj, rfl⟩ := isE_t h
    by_cases hw : wth w (nI 0) (nI 2) = true
    · obtain ⟨v, hv, rfl⟩ := wth_n hw
      have hT := hTI (by omega)
      rw [ix_nI (by omega)]
      rcases (show v = 0 ∨ v = 1 ∨ v = 2 by omega) with rfl | rfl | rfl
      · rw [show decide (nI 0 = nI 1) = false by decide, c_kb hT.1 hE hj (hT.2.2.2.2.2.2 j hj) false, show zI false = nI 0 by decide]
      · rw [show decide (nI 1 = nI 1) = true by decide, c_kb hT.1 hE hj (hT.2.2.2.2.2.2 j hj) true, show zI true = nI 1 by decide]
      · rw [show decide (nI 2 = nI 2) = true by decide]
        simp
    · rw [show wth w (nI 0) (nI 2) = false by simpa using hw]
      simp
  · rw [show isE E x = false by simpa using h]
    rfl
theorem a_crO (hE : E ≤ 6) (hTI : 0 < E → TI E B tb tw hab sp tu kn ib fB fW fi fS fU fK) (x : Int32) (v : Bool) : crOK E B tb tw hab sp tu kn ib x v = ccrOK E fB fW fi ib x v := by
  unfold crOK ccrOK
  by_cases h : isE E x = true
  · obtain ⟨j, hj, rfl⟩ := isE_t h
    have hT := hTI (by omega)
    rw [ix_nI (by omega), c_kb hT.1 hE hj (hT.2.2.2.2.2.2 j hj) v]
  · rw [show isE E x = false by simpa using h]
    rfl
end
/-! what is kept from call to call -/
def I0 (k E B tb tw fa cN kR bD mKk tC qb : Nat) (cp hh hab : Nat → Nat) : Prop := E ≤ 6 ∧ B ≤ 6 ∧ tb ≤ 9 ∧ tw ≤ 9 ∧ fa ≤ 9 ∧ cN ≤ 14 ∧ kR ≤ k ∧ bD ≤ k ∧ mKk ≤ kR ∧ tC ≤ 4 ∧ qb < 64 ∧ (∀ j, cp j < 128) ∧ (∀ j, hh j < 1000) ∧ (∀ j, hab j < 1000) ∧ ∀ j, j < E → hh j = hab j
def IT (k E B tb tw tC : Nat) (hab sp tu : Nat → Nat) (kn : Nat → Int32) (ib sn : Nat) (fB fW : Nat → Nat) (fi : Nat) (fS fU : Nat → Nat) (fK : Nat → Int32) : Prop := TB k sp tu ib sn fB fW fi ∧ (E = 0 → tC = 0 ∧ ib = 0 ∧ fi = 0) ∧ (0 < E → TI E B tb tw hab sp tu kn ib fB fW fi fS fU fK)
def IK (k E B tb tw tC tK kR mKk : Nat) (iK mIk : Int32) (hab ksp ktu : Nat → Nat) (kkn : Nat → Int32) (gb gn : Nat) (gB gW : Nat → Nat) (gi : Nat) (gS gU : Nat → Nat) (gK : Nat → Int32) : Prop := TB k ksp ktu gb gn gB gW gi ∧ (iK ≠ 0 ↔ (mIk ≠ 0 ∧ mKk = kR)) ∧ (iK ≠ 0 → 0 < E ∧ tK ≤ tC ∧ TI E B tb tw hab ksp ktu kkn gb gB gW gi gS gU gK)
section
variable {k E B tb tw fa cN kR bD mKk tC tK qb ib sn gb gn fi gi : Nat} {iK mIk : Int32} {cp kd hh hab fB fW fS fU gB gW gS gU sp tu ksp ktu : Nat → Nat} {fK gK kn kkn : Nat → Int32}
theorem I0.mono (h : I0 k E B tb tw fa cN kR bD mKk tC qb cp hh hab) : I0 (k + 1) E B tb tw fa cN kR bD mKk tC qb cp hh hab := by
  obtain ⟨h1, h2, h3, h4, h5, h6, h7, h8, h9⟩ := h
  exact ⟨h1, h2, h3, h4, h5, h6, by omega, by omega, h9⟩
theorem IT.mono (h : IT k E B tb tw tC hab sp tu kn ib sn fB fW fi fS fU fK) : IT (k + 1) E B tb tw tC hab sp tu kn ib sn fB fW fi fS fU fK := ⟨h.1.mono, h.2⟩
theorem IK.mono (h : IK k E B tb tw tC tK kR mKk iK mIk hab ksp ktu kkn gb gn gB gW gi gS gU gK) : IK (k + 1) E B tb tw tC tK kR mKk iK mIk hab ksp ktu kkn gb gn gB gW gi gS gU gK := ⟨h.1.mono, h.2⟩
theorem I0_let (h : I0 k E B tb tw fa cN kR bD mKk tC qb cp hh hab) (x : Int32) : I0 (k + 1) E B tb tw fa (cond (ltB x cN) (cN + 1) cN) kR bD mKk tC qb (cond (ltB x cN) (updN cp cN (ix x)) cp) hh hab := by
  have h0 := h.mono
  cases hq : ltB x cN
  · exact h0
  · obtain ⟨h1, h2, h3, h4, h5, h6, h7, h8, h9, h10, h11, h12, h13⟩ := h0
    obtain ⟨q1, q2⟩ := Bool.and_eq_true_iff.mp hq
    obtain ⟨v, hv, rfl⟩ := wth_n q1
    have q2 := of_decide_eq_true q2
    refine ⟨h1, h2, h3, h4, h5, by show cN + 1 ≤ 14; omega, h7, h8, h9, h10, h11, fun j => ?_, h13⟩
    show updN cp cN (ix (nI v)) j < 128
    unfold updN
    split
    · rw [ix_nI (by omega)]
      omega
    · exact h12 j
theorem I0_cN (h : I0 k E B tb tw fa cN kR bD mKk tC qb cp hh hab) : I0 (k + 1) E B tb tw fa 0 kR bD mKk tC qb cp hh hab := by
  obtain ⟨h1, h2, h3, h4, h5, h6, h7⟩ := h.mono
  exact ⟨h1, h2, h3, h4, h5, Nat.zero_le _, h7⟩
theorem I0_bD (h : I0 k E B tb tw fa cN kR bD mKk tC qb cp hh hab) (c : Bool) {q2 : Nat} (hq2 : q2 < 64) : I0 (k + 1) E B tb tw fa cN kR (cond c (bD + 1) bD) mKk tC q2 cp hh hab := by
  obtain ⟨h1, h2, h3, h4, h5, h6, h7, h8, h9, h10, h11, h12⟩ := h
  refine ⟨h1, h2, h3, h4, h5, h6, by omega, ?_, h9, h10, hq2, h12⟩
  cases c
  · show bD ≤ k + 1
    omega
  · show bD + 1 ≤ k + 1
    omega
theorem I0_tC (h : I0 k E B tb tw fa cN kR bD mKk tC qb cp hh hab) {t2 : Nat} (ht : t2 ≤ 4) : I0 (k + 1) E B tb tw fa cN kR bD mKk t2 qb cp hh hab := by
  obtain ⟨h1, h2, h3, h4, h5, h6, h7, h8, h9, h10, h11⟩ := h.mono
  exact ⟨h1, h2, h3, h4, h5, h6, h7, h8, h9, ht, h11⟩
theorem I0_mK (h : I0 k E B tb tw fa cN kR bD mKk tC qb cp hh hab) (c : Bool) : I0 (k + 1) E B tb tw fa cN kR bD (cond c kR mKk) tC qb cp hh hab := by
  obtain ⟨h1, h2, h3, h4, h5, h6, h7, h8, h9, h10⟩ := h.mono
  refine ⟨h1, h2, h3, h4, h5, h6, h7, h8, ?_, h10⟩
  cases c
  · exact h9
  · exact Nat.le_refl _
theorem IT_spin (h0 : I0 k E B tb tw fa cN kR bD mKk tC qb cp hh hab) (h : IT k E B tb tw tC hab sp tu kn ib sn fB fW fi fS fU fK) (x : Int32) (t : Bool) : IT (k + 1) E B tb tw tC hab (cond (cspOK E tb tw fB fW fi ib sn x t) (sp1 sp (ix x)) sp) (cond (cspOK E tb tw fB fW fi ib sn x t) (tu1 tu (ix x) t) tu) kn ib (cond (cspOK E tb tw fB fW fi ib sn x t) (sn + 1) sn) (cond (cspOK E tb tw fB fW fi ib sn x t) (wgS (ix x) (tnth t tb) (tnth t tw) fB fW fi).1 fB) (cond (cspOK E tb tw fB fW fi ib sn x t) (wgS (ix x) (tnth t tb) (tnth t tw) fB fW fi).2.1 fW) (cond (cspOK E tb tw fB fW fi ib sn x t) (wgS (ix x) (tnth t tb) (tnth t tw) fB fW fi).2.2 fi) (cond (cspOK E tb tw fB fW fi ib sn x t) (sp1 fS (ix x)) fS) (cond (cspOK E tb tw fB fW fi ib sn x t) (cond t (updN fU (ix x) (fU (ix x) + 1)) fU) fU) fK := by
  cases hq : cspOK E tb tw fB fW fi ib sn x t
  · exact h.mono
  · obtain ⟨hE, -, htb, htw, -⟩ := h0
    obtain ⟨hTB, hZ, hTI⟩ := h
    obtain ⟨q1, p2⟩ := Bool.and_eq_true_iff.mp hq
    obtain ⟨q2, p3⟩ := Bool.and_eq_true_iff.mp p2
    obtain ⟨q3, q4⟩ := Bool.and_eq_true_iff.mp p3
    obtain ⟨j, hj, rfl⟩ := isE_t q1
    obtain ⟨g1, g2⟩ := in_spin hTB (hTI (by omega)) hE htb htw hj t (of_decide_eq_true q4) q3
    rw [ix_nI (by omega)]
    exact ⟨g1, fun h9 => by omega, fun _ => g2⟩
theorem IT_stop (h0 : I0 k E B tb tw fa cN kR bD mKk tC qb cp hh hab) (h : IT k E B tb tw tC hab sp tu kn ib sn fB fW fi fS fU fK) (x w : Int32) : IT (k + 1) E B tb tw tC hab sp tu (cond (cstS E fB fW fi ib x w) (upd kn (ix x) w) kn) (cond (stF E fa ib x w) (andn ib (2 ^ ix x)) ib) sn (cond (cstS E fB fW fi ib x w) (wgS (ix x) (cond (decide (w = nI 1)) 1 0) (cond (decide (w = nI 1)) 0 1) fB fW fi).1 fB) (cond (cstS E fB fW fi ib x w) (wgS (ix x) (cond (decide (w = nI 1)) 1 0) (cond (decide (w = nI 1)) 0 1) fB fW fi).2.1 fW) (cond (cstS E fB fW fi ib x w) (wgS (ix x) (cond (decide (w = nI 1)) 1 0) (cond (decide (w = nI 1)) 0 1) fB fW fi).2.2 fi) fS fU (cond (cstS E fB fW fi ib x w) (upd fK (ix x) (zI (decide (w = nI 1)))) fK) := by
  obtain ⟨hE, -⟩ := h0
  cases hq : stF E fa ib x w
  · cases hs : cstS E fB fW fi ib x w
    · exact h.mono
    · obtain ⟨hTB, hZ, hTI⟩ := h
      obtain ⟨q1, p2⟩ := Bool.and_eq_true_iff.mp hs
      obtain ⟨q2, p3⟩ := Bool.and_eq_true_iff.mp p2
      obtain ⟨q3, p4⟩ := Bool.and_eq_true_iff.mp p3
      obtain ⟨q4, q5⟩ := Bool.and_eq_true_iff.mp p4
      obtain ⟨j, hj, rfl⟩ := isE_t q1
      obtain ⟨v, hv, rfl⟩ := wth_n q2
      obtain ⟨g1, g2⟩ := in_sure hTB (hTI (by omega)) hE hj _ q5
      have hz : zI (decide (nI v = nI 1)) = nI v := by
        rcases (show v = 0 ∨ v = 1 ∨ v = 2 by omega) with rfl | rfl | rfl
        · decide
        · decide
        · exact absurd q4 (by decide)
      rw [hz] at g2 ⊢
      rw [ix_nI (by omega)]
      exact ⟨g1.mono, fun h9 => by omega, fun _ => g2⟩
  · obtain ⟨hTB, hZ, hTI⟩ := h
    obtain ⟨q1, p2⟩ := Bool.and_eq_true_iff.mp hq
    obtain ⟨q2, p3⟩ := Bool.and_eq_true_iff.mp p2
    obtain ⟨q3, p4⟩ := Bool.and_eq_true_iff.mp p3
    obtain ⟨q4, q5⟩ := Bool.and_eq_true_iff.mp p4
    obtain ⟨j, hj, rfl⟩ := isE_t q1
    have hs : cstS E fB fW fi ib (nI j) w = false := by
      unfold cstS
      rw [q4]
      simp
    rw [hs]
    exact ⟨(out_TB hTB (andn_le _ _)).mono, fun h9 => by omega, fun h9 => out_TI (hTI h9) (andn_le _ _)⟩
theorem IT_crack (h0 : I0 k E B tb tw fa cN kR bD mKk tC qb cp hh hab) (h : IT k E B tb tw tC hab sp tu kn ib sn fB fW fi fS fU fK) (x : Int32) (v : Bool) : IT (k + 1) E B tb tw tC hab sp tu (cond (ccrOK E fB fW fi ib x v) (upd kn (ix x) (zI v)) kn) (cond (ccrOK E fB fW fi ib x v) (andn ib (2 ^ ix x)) ib) sn (cond (ccrOK E fB fW fi ib x v) (wgS (ix x) (cond v 1 0) (cond v 0 1) fB fW fi).1 fB) (cond (ccrOK E fB fW fi ib x v) (wgS (ix x) (cond v 1 0) (cond v 0 1) fB fW fi).2.1 fW) (cond (ccrOK E fB fW fi ib x v) (wgS (ix x) (cond v 1 0) (cond v 0 1) fB fW fi).2.2 fi) fS fU (cond (ccrOK E fB fW fi ib x v) (upd fK (ix x) (zI v)) fK) := by
  obtain ⟨hE, -⟩ := h0
  cases hq : ccrOK E fB fW fi ib x v
  · exact h.mono
  · obtain ⟨hTB, hZ, hTI⟩ := h
    obtain ⟨q1, p2⟩ := Bool.and_eq_true_iff.mp hq
    obtain ⟨q2, q3⟩ := Bool.and_eq_true_iff.mp p2
    obtain ⟨j, hj, rfl⟩ := isE_t q1
    obtain ⟨g1, g2⟩ := in_sure hTB (hTI (by omega)) hE hj v q3
    rw [ix_nI (by omega)]
    exact ⟨(out_TB g1 (andn_le _ _)).mono, fun h9 => by omega, fun _ => out_TI g2 (andn_le _ _)⟩
theorem nI0 : ¬ nI 0 ≠ 0 := by decide
theorem nI1 : nI 1 ≠ 0 := by decide
/-- image -/
theorem IK_img (h0 : I0 k E B tb tw fa cN kR bD mKk tC qb cp hh hab) (h : IT k E B tb tw tC hab sp tu kn ib sn fB fW fi fS fU fK) (h2 : IK k E B tb tw tC tK kR mKk iK mIk hab ksp ktu kkn gb gn gB gW gi gS gU gK) : IK (k + 1) E B tb tw tC (cond (decide (0 < E)) tC tK) kR (cond (decide (0 < E)) kR mKk) (cond (decide (0 < E)) (nI 1) iK) (cond (decide (0 < E)) (nI 1) mIk) hab (cond (decide (0 < E)) (fo (cpF sp) ksp 6) ksp) (cond (decide (0 < E)) (fo (cpF tu) ktu 6) ktu) (cond (decide (0 < E)) (fo (cpK kn) kkn 6) kkn) (cond (decide (0 < E)) ib gb) (cond (decide (0 < E)) sn gn) (cond (decide (0 < E)) (cpN fB gB 20) gB) (cond (decide (0 < E)) (cpN fW gW 20) gW) (cond (decide (0 < E)) fi gi) (cond (decide (0 < E)) (cpN fS gS 6) gS) (cond (decide (0 < E)) (cpN fU gU 6) gU) (cond (decide (0 < E)) (cpN fK gK 6) gK) := by
  cases hq : decide (0 < E)
  · exact h2.mono
  · have hq := of_decide_eq_true hq
    exact ⟨(copy_TB h.1 h2.1).mono, ⟨fun _ => ⟨nI1, rfl⟩, fun _ => nI1⟩, fun _ => ⟨hq, Nat.le_refl _, copy_TI h0.1 h.1 (h.2.2 hq)⟩⟩
/-- restore -/
theorem IT_rst (h0 : I0 k E B tb tw fa cN kR bD mKk tC qb cp hh hab) (h : IT k E B tb tw tC hab sp tu kn ib sn fB fW fi fS fU fK) (h2 : IK k E B tb tw tC tK kR mKk iK mIk hab ksp ktu kkn gb gn gB gW gi gS gU gK) : I0 (k + 1) E B tb tw fa cN kR bD mKk (cond (decide (iK ≠ 0)) tK tC) qb cp hh hab ∧ IT (k + 1) E B tb tw (cond (decide (iK ≠ 0)) tK tC) hab (cond (decide (iK ≠ 0)) (fo (cpF ksp) sp 6) sp) (cond (decide (iK ≠ 0)) (fo (cpF ktu) tu 6) tu) (cond (decide (iK ≠ 0)) (fo (cpK kkn) kn 6) kn) (cond (decide (iK ≠ 0)) gb ib) (cond (decide (iK ≠ 0)) gn sn) (cond (decide (iK ≠ 0)) (cpN gB fB 20) fB) (cond (decide (iK ≠ 0)) (cpN gW fW 20) fW) (cond (decide (iK ≠ 0)) gi fi) (cond (decide (iK ≠ 0)) (cpN gS fS 6) fS) (cond (decide (iK ≠ 0)) (cpN gU fU 6) fU) (cond (decide (iK ≠ 0)) (cpN gK fK 6) fK) ∧ IK (k + 1) E B tb tw (cond (decide (iK ≠ 0)) tK tC) tK kR mKk iK mIk hab ksp ktu kkn gb gn gB gW gi gS gU gK ∧ cond (decide (iK ≠ 0)) tK tC ≤ tC := by
  cases hq : decide (iK ≠ 0)
  · exact ⟨h0.mono, h.mono, h2.mono, Nat.le_refl _⟩
  · have hq := of_decide_eq_true hq
    obtain ⟨g1, g2, g3⟩ := h2.2.2 hq
    have h10 : tC ≤ 4 := h0.2.2.2.2.2.2.2.2.2.1
    exact ⟨I0_tC h0 (show tK ≤ 4 by omega), ⟨(copy_TB h2.1 h.1).mono, fun h9 => by omega, fun _ => copy_TI h0.1 h2.1 g3⟩, ⟨h2.1.mono, h2.2.1, fun _ => ⟨g1, Nat.le_refl _, g3⟩⟩, g2⟩
/-- a kitchen read -/
theorem I_kit {tr : Nat → Option Nat} {pl : va_W} (h0 : I0 k E B tb tw fa cN kR bD mKk tC qb cp hh hab) (h : IT k E B tb tw tC hab sp tu kn ib sn fB fW fi fS fU fK) (h2 : IK k E B tb tw tC tK kR mKk iK mIk hab ksp ktu kkn gb gn gB gW gi gS gU gK) (h3 : trsOK tr kd pl tC) :
    I0 (k + 1) (cond (kOK cp cN) (cp 0 - 48) E) (cond (kOK cp cN) (cp 1 - 48) B) (cond (kOK cp cN) (cp 3 - 48) tb) (cond (kOK cp cN) (cp 4 - 48) tw) (cond (kOK cp cN) (cp 5 - 48) fa) (cond (kOK cp cN) 0 cN) (cond (kOK cp cN) (kR + 1) kR) bD mKk (cond (kOK cp cN) 0 tC) qb cp (cond (kOK cp cN) (fo (rdH cp) hh (cp 0 - 48)) hh) (cond (kOK cp cN) (fo (kHb cp (cp 0 - 48)) hab 6) hab) ∧
    IT (k + 1) (cond (kOK cp cN) (cp 0 - 48) E) (cond (kOK cp cN) (cp 1 - 48) B) (cond (kOK cp cN) (cp 3 - 48) tb) (cond (kOK cp cN) (cp 4 - 48) tw) (cond (kOK cp cN) 0 tC) (cond (kOK cp cN) (fo (kHb cp (cp 0 - 48)) hab 6) hab) (cond (kOK cp cN) (fo zF sp 6) sp) (cond (kOK cp cN) (fo zF tu 6) tu) (cond (kOK cp cN) (fo nF kn 6) kn) (cond (kOK cp cN) (2 ^ (cp 0 - 48) - 1) ib) (cond (kOK cp cN) 0 sn) (cond (kOK cp cN) (bgS (fo (rdH cp) hh (cp 0 - 48)) (cp 0 - 48) (cp 1 - 48) fB fW (2 ^ (cp 0 - 48))).1 fB) (cond (kOK cp cN) (bgS (fo (rdH cp) hh (cp 0 - 48)) (cp 0 - 48) (cp 1 - 48) fB fW (2 ^ (cp 0 - 48))).2.1 fW) (cond (kOK cp cN) (bgS (fo (rdH cp) hh (cp 0 - 48)) (cp 0 - 48) (cp 1 - 48) fB fW (2 ^ (cp 0 - 48))).2.2 fi) (cond (kOK cp cN) (fo zF fS 6) fS) (cond (kOK cp cN) (fo zF fU 6) fU) (cond (kOK cp cN) (fo nF fK 6) fK) ∧
    IK (k + 1) (cond (kOK cp cN) (cp 0 - 48) E) (cond (kOK cp cN) (cp 1 - 48) B) (cond (kOK cp cN) (cp 3 - 48) tb) (cond (kOK cp cN) (cp 4 - 48) tw) (cond (kOK cp cN) 0 tC) tK (cond (kOK cp cN) (kR + 1) kR) mKk (cond (kOK cp cN) (nI 0) iK) mIk (cond (kOK cp cN) (fo (kHb cp (cp 0 - 48)) hab 6) hab) ksp ktu kkn gb gn gB gW gi gS gU gK ∧ trsOK tr kd pl (cond (kOK cp cN) 0 tC) := by
  cases hq : kOK cp cN
  · exact ⟨h0.mono, h.mono, h2.mono, h3⟩
  · obtain ⟨h1, hB, h3, h4, h5, h6, h7, h8, h9, h10, h11, h12, h13, h14, h15⟩ := h0
    obtain ⟨⟨e0, e1, e2, e3, e4, e5⟩, g1, g2, g3, g4, g5⟩ := in_kit (tb := cp 3 - 48) (tr := cp 4 - 48) (kn := kn) (fS := fS) (fU := fU) (fK := fK) h.1 h12 h13 h14 hq
    refine ⟨⟨e1, e2, e3, e4, e5, Nat.zero_le _, by show kR + 1 ≤ k + 1; omega, by omega, by show mKk ≤ kR + 1; omega, Nat.zero_le _, h11, h12, g1, g2, g3⟩, ⟨g4.mono, fun h9 => ?_, fun _ => g5⟩, ⟨h2.1.mono, ⟨fun h9 => absurd h9 nI0, fun h9 => ?_⟩, fun h9 => absurd h9 nI0⟩, fun j hj => absurd hj (Nat.not_lt_zero _)⟩
    · have h9 : cp 0 - 48 = 0 := h9
      omega
    · have h9 : mKk = kR + 1 := h9.2
      omega
/-- a new trier -/
theorem I_tri {tr : Nat → Option Nat} {pl : va_W} {a x : Nat} (h0 : I0 k E B tb tw fa cN kR bD mKk tC qb cp hh hab) (h : IT k E B tb tw tC hab sp tu kn ib sn fB fW fi fS fU fK) (h2 : IK k E B tb tw tC tK kR mKk iK mIk hab ksp ktu kkn gb gn gB gW gi gS gU gK) (h3 : trsOK tr kd pl tC) (hE : 0 < E) (ht : tC < 4) (hx : x < 5) :
    I0 (k + 1) E B tb tw fa cN kR bD mKk (tC + 1) qb cp hh hab ∧ IT (k + 1) E B tb tw (tC + 1) hab sp tu kn ib sn fB fW fi fS fU fK ∧ IK (k + 1) E B tb tw (tC + 1) tK kR mKk iK mIk hab ksp ktu kkn gb gn gB gW gi gS gU gK ∧ trsOK (va_up tr tC (some a)) (updN kd tC x) ((a, Sum.inr (kc x, [])) :: pl) (tC + 1) :=
  ⟨I0_tC h0 (by omega), ⟨h.1.mono, fun h9 => by omega, h.2.2⟩, ⟨h2.1.mono, h2.2.1, fun h9 => ⟨(h2.2.2 h9).1, Nat.le_succ_of_le (h2.2.2 h9).2.1, (h2.2.2 h9).2.2⟩⟩, trs_push h3 hx⟩
end
