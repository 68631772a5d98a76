/-! digest agrees -/
theorem isE_n {E e : Nat} (he : e < E) (hE : E ≤ 1000) : isE E (nI e) = true := decide_eq_true (by rw [nI_toInt (by omega)]; omega)
theorem wth_k {k b : Nat} (h : k ≤ b) (hb : b < 2 ^ 31) : wth (nI k) (nI 0) (nI b) = true := by
  rw [wth_iff (by decide) hb, nI_toInt (by omega)]
  exact decide_eq_true (by omega)
theorem fo_0 {α : Type} (F : α → Nat → α) (a : α) : fo F a 0 = a := rfl
section
variable {E B tb tr : Nat} {hab sp tu : Nat → Nat} {kn : Nat → Int32} {fB fW : Nat → Nat} {fi ib : Nat}
theorem egg_d {hh fS fU : Nat → Nat} {fK : Nat → Int32} (h1 : ∀ j, j < E → hh j = hab j) (h2 : ∀ j, j < E → fS j = sp j) (h3 : ∀ j, j < E → fU j = tu j) (h4 : ∀ j, j < E → fK j = kn j) (hE : E ≤ 6) {e k : Nat} (he : e < E) (hk : k < 5) : ceggR E hh fS fU fK ib (nI e) (nI k) = swA (eggL hab sp tu ib e) (kn e) (nI k) := by
  rw [c_egg ib h1 h2 h3 h4 hE, eggR, if_pos (isE_n he (by omega)), if_pos (wth_k (by omega) (by decide)), ix_nI (by omega)]
theorem lik_d (hc : Cpl (wN E B tb tr hab sp tu kn) (2 ^ E) fB fW fi) (hE : E ≤ 6) {e : Nat} (he : e < E) {p : Int32} (hp : wth p (nI 0) (nI 1) = true) : clkR E fB fW fi (nI e) p = lN (low (bwt (mW E B tb tr hab sp tu kn) E e 0) (tot (mW E B tb tr hab sp tu kn) E (-1) 0) p) := by
  rw [c_lik hc, likR, if_pos (isE_n he (by omega)), if_pos hp, ix_nI (by omega)]
theorem abt_d (hc : Cpl (wN E B tb tr hab sp tu kn) (2 ^ E) fB fW fi) (hib : ib < 2 ^ E) (hE : E ≤ 6) (k : Int32) {q : Int32} (hq : wth q (nI 0) (nI 1) = true) : abC fB fW fi ib k q = trNow (mW E B tb tr hab sp tu kn) E ib k q := by
  rw [c_abt hc hib hE, if_pos hq]
theorem fit_d (hc : Cpl (wN E B tb tr hab sp tu kn) (2 ^ E) fB fW fi) (h0 : ¬ E = 0) {q : Int32} (hq : wth q (nI 0) (nI 2) = true) : cftR fB fi E q = fitsN (w0 (mW E B tb tr hab sp tu kn)) E q := by
  rw [c_fits hc, fitR, if_pos hq, if_neg h0]
theorem c_dg {hh fS fU cp kd : Nat → Nat} {fK : Nat → Int32} {cl : List Int32} {tC cN : Nat} (hE : E ≤ 6) (hz : E = 0 → tC = 0) (hc : 0 < E → Cpl (wN E B tb tr hab sp tu kn) (2 ^ E) fB fW fi) (hib : 0 < E → ib < 2 ^ E) (hf : 0 < E → 0 < fi) (h1 : ∀ j, j < E → hh j = hab j) (h2 : ∀ j, j < E → fS j = sp j) (h3 : ∀ j, j < E → fU j = tu j) (h4 : ∀ j, j < E → fK j = kn j) :
    (fo (dgC (fun k => swA cl (-102) (nI k))) (fo (dgP cp) (if E = 0 then (fo (dgT (fun t q => abC fB fW fi ib (nI (kd t)) q)) (fo (dgE (fun e k => ceggR E hh fS fU fK ib (nI e) (nI k)) (fun e p => clkR E fB fW fi (nI e) p)) (lN 787) E) tC) else (fo (fun h k => mixH h (cftR fB fi E (nI k)).toInt64) (mixH (fo (dgT (fun t q => abC fB fW fi ib (nI (kd t)) q)) (fo (dgE (fun e k => ceggR E hh fS fU fK ib (nI e) (nI k)) (fun e p => clkR E fB fW fi (nI e) p)) (lN 787) E) tC) (lkC fB fW fi).toInt64) 3)) cN) 11)
    = (fo (dgC (fun k => swA cl (-102) (nI k))) (fo (dgP cp) (if E = 0 then (fo (dgT (fun t q => trNow (mW E B tb tr hab sp tu kn) E ib (nI (kd t)) q)) (fo (dgE (fun e k => swA (eggL hab sp tu ib e) (kn e) (nI k)) (fun e p => lN (low (bwt (mW E B tb tr hab sp tu kn) E e 0) (tot (mW E B tb tr hab sp tu kn) E (-1) 0) p))) (lN 787) E) tC) else (dgK (lkst (w0 (mW E B tb tr hab sp tu kn)) (2 ^ E)) (fitsN (w0 (mW E B tb tr hab sp tu kn)) E (nI 0)) (fitsN (w0 (mW E B tb tr hab sp tu kn)) E (nI 1)) (fitsN (w0 (mW E B tb tr hab sp tu kn)) E (nI 2)) (fo (dgT (fun t q => trNow (mW E B tb tr hab sp tu kn) E ib (nI (kd t)) q)) (fo (dgE (fun e k => swA (eggL hab sp tu ib e) (kn e) (nI k)) (fun e p => lN (low (bwt (mW E B tb tr hab sp tu kn) E e 0) (tot (mW E B tb tr hab sp tu kn) E (-1) 0) p))) (lN 787) E) tC))) cN) 11) := by
  rcases Nat.eq_zero_or_pos E with h0 | h0
  · have ht := hz h0
    subst h0
    subst ht
    rw [if_pos rfl, if_pos rfl, fo_0, fo_0, fo_0, fo_0]
  · have hc := hc h0
    have hDE : fo (dgE (fun e k => ceggR E hh fS fU fK ib (nI e) (nI k)) (fun e p => clkR E fB fW fi (nI e) p)) (lN 787) E = fo (dgE (fun e k => swA (eggL hab sp tu ib e) (kn e) (nI k)) (fun e p => lN (low (bwt (mW E B tb tr hab sp tu kn) E e 0) (tot (mW E B tb tr hab sp tu kn) E (-1) 0) p))) (lN 787) E := fo_congr E (fun e he h => by
      unfold dgE
      dsimp only
      rw [lik_d hc hE he (wth_k (k := 0) (by decide) (by decide)), lik_d hc hE he (wth_k (k := 1) (by decide) (by decide)), fo_congr (G := fun h k => mixH h (swA (eggL hab sp tu ib e) (kn e) (nI k)).toInt64) 5 (fun k hk h => by rw [egg_d h1 h2 h3 h4 hE he hk])])
    have hDT : ∀ X : Int64, fo (dgT (fun t q => abC fB fW fi ib (nI (kd t)) q)) X tC = fo (dgT (fun t q => trNow (mW E B tb tr hab sp tu kn) E ib (nI (kd t)) q)) X tC := fun X => fo_congr tC (fun t _ h => by
      unfold dgT
      dsimp only
      rw [abt_d hc (hib h0) hE _ (wth_k (k := 0) (by decide) (by decide)), abt_d hc (hib h0) hE _ (wth_k (k := 1) (by decide) (by decide))])
    have hne : ¬ E = 0 := by omega
    have hK : ∀ X : Int64, fo (fun h k => mixH h (cftR fB fi E (nI k)).toInt64) (mixH X (lkC fB fW fi).toInt64) 3 = dgK (lkst (w0 (mW E B tb tr hab sp tu kn)) (2 ^ E)) (fitsN (w0 (mW E B tb tr hab sp tu kn)) E (nI 0)) (fitsN (w0 (mW E B tb tr hab sp tu kn)) E (nI 1)) (fitsN (w0 (mW E B tb tr hab sp tu kn)) E (nI 2)) X := fun X => by
      show dgK (lkC fB fW fi) (cftR fB fi E (nI 0)) (cftR fB fi E (nI 1)) (cftR fB fi E (nI 2)) X = _
      rw [c_lkst hc (hf h0), fit_d hc hne (wth_k (k := 0) (by decide) (by decide)), fit_d hc hne (wth_k (k := 1) (by decide) (by decide)), fit_d hc hne (wth_k (k := 2) (by decide) (by decide))]
    rw [if_neg hne, if_neg hne, hK, hDT, hDE]
end
