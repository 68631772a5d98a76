/-! the class's list of boxes against all boxes -/
/-- the list holds, in order, the boxes below N that have weight, with their weights -/
def Cpl (w : Nat → Nat) (N : Nat) (fB fW : Nat → Nat) (fi : Nat) : Prop := fi = fitM w N ∧ ∀ b, b < N → 0 < w b → fB (fitM w b) = b ∧ fW (fitM w b) = w b
theorem fitM_s (w : Nat → Nat) (n : Nat) : fitM w (n + 1) = if 0 < w n then fitM w n + 1 else fitM w n := rfl
theorem fo_cpl {α : Type} {w : Nat → Nat} {N : Nat} {fB fW : Nat → Nat} {fi : Nat} (hc : Cpl w N fB fW fi) (F : α → Nat → Nat → α) (a : α) : ∀ n, n ≤ N → fo (fun a i => F a (fB i) (fW i)) a (fitM w n) = fo (fun a b => if 0 < w b then F a b (w b) else a) a n
  | 0, _ => rfl
  | n + 1, h => by
    have ih := fo_cpl hc F a n (by omega)
    rw [fitM_s, fo_s]
    by_cases hw : 0 < w n
    · rw [if_pos hw, if_pos hw, fo_s, ih]
      obtain ⟨h1, h2⟩ := hc.2 n (by omega) hw
      rw [h1, h2]
    · rw [if_neg hw, if_neg hw, ih]
theorem fo_all {α : Type} {w : Nat → Nat} {N : Nat} {fB fW : Nat → Nat} {fi : Nat} (hc : Cpl w N fB fW fi) (F : α → Nat → Nat → α) (a : α) : fo (fun a i => F a (fB i) (fW i)) a fi = fo (fun a b => if 0 < w b then F a b (w b) else a) a N := by
  rw [hc.1]; exact fo_cpl hc F a N (Nat.le_refl _)
theorem fo_congr {α : Type} {F G : α → Nat → α} {a : α} : ∀ n, (∀ i, i < n → ∀ s, F s i = G s i) → fo F a n = fo G a n
  | 0, _ => rfl
  | n + 1, h => by rw [fo_s, fo_s, fo_congr n (fun i hi => h i (by omega)), h n (by omega)]
theorem cpl_smN {w : Nat → Nat} {N : Nat} {fB fW : Nat → Nat} {fi : Nat} (hc : Cpl w N fB fW fi) : smN fW fi = fo (fun a b => a + w b) 0 N := by
  refine (fo_all hc (fun a _ v => a + v) 0).trans (fo_congr N (fun b _ s => ?_))
  split <;> omega
theorem cpl_smB {w : Nat → Nat} {N : Nat} {fB fW : Nat → Nat} {fi : Nat} (hc : Cpl w N fB fW fi) (e : Nat) : smB fB fW e fi = fo (fun a b => a + (if b.testBit e then w b else 0)) 0 N := by
  refine (fo_all hc (fun a b v => if b.testBit e then a + v else a) 0).trans (fo_congr N (fun b _ s => ?_))
  split <;> split <;> omega
theorem cpl_srB {w : Nat → Nat} {N : Nat} {fB fW : Nat → Nat} {fi : Nat} (hc : Cpl w N fB fW fi) (m : Nat) : srB fB m fi = fitA w m N := fo_all hc (fun a b _ => a &&& b) m
theorem cpl_srN {w : Nat → Nat} {N : Nat} {fB fW : Nat → Nat} {fi : Nat} (hc : Cpl w N fB fW fi) (m : Nat) : srN fB m fi = fitN w m N := fo_all hc (fun a b _ => andn a b) m
/-- every place of the list is that of a box -/
theorem cpl_in {w : Nat → Nat} {N : Nat} {fB fW : Nat → Nat} {fi : Nat} (hc : Cpl w N fB fW fi) : ∀ n, n ≤ N → ∀ i, i < fitM w n → ∃ b, b < n ∧ 0 < w b ∧ fitM w b = i ∧ fB i = b ∧ fW i = w b
  | 0, _, i, hi => absurd hi (Nat.not_lt_zero _)
  | n + 1, h, i, hi => by
    rw [fitM_s] at hi
    by_cases hw : 0 < w n
    · rw [if_pos hw] at hi
      rcases Nat.lt_or_ge i (fitM w n) with q | q
      · obtain ⟨b, h1, h2⟩ := cpl_in hc n (by omega) i q
        exact ⟨b, by omega, h2⟩
      · obtain rfl : i = fitM w n := by omega
        obtain ⟨h1, h2⟩ := hc.2 n (by omega) hw
        exact ⟨n, by omega, hw, rfl, h1, h2⟩
    · rw [if_neg hw] at hi
      obtain ⟨b, h1, h2⟩ := cpl_in hc n (by omega) i hi
      exact ⟨b, by omega, h2⟩
theorem fitM_mono (w : Nat → Nat) {m : Nat} : ∀ n, m ≤ n → fitM w m ≤ fitM w n
  | 0, h => by rw [Nat.le_zero.mp h]; exact Nat.le_refl _
  | n + 1, h => by
    rcases Nat.lt_or_ge n m with q | q
    · rw [show m = n + 1 by omega]; exact Nat.le_refl _
    · have := fitM_mono w n q
      rw [fitM_s]; split <;> omega
theorem fitM_lt {w : Nat → Nat} {b n : Nat} (h : b < n) (hw : 0 < w b) : fitM w b < fitM w n := by
  have h1 := fitM_mono w n (show b + 1 ≤ n from h)
  rw [fitM_s, if_pos hw] at h1
  omega
/-- boxes are kept one by one into a list -/
theorem cpl_build {P : Nat → Prop} [DecidablePred P] {v w : Nat → Nat} {B0 W0 : Nat → Nat} {N : Nat} (hw : ∀ b, b < N → w b = if P b then v b else 0) (h20 : fitM w N ≤ 20) :
    ∀ n, n ≤ N → (fo (fun s b => if P b then kpS s b (v b) else s) ((B0, W0, 0) : TS) n).2.2 = fitM w n ∧ ∀ b, b < n → 0 < w b → (fo (fun s b => if P b then kpS s b (v b) else s) ((B0, W0, 0) : TS) n).1 (fitM w b) = b ∧ (fo (fun s b => if P b then kpS s b (v b) else s) ((B0, W0, 0) : TS) n).2.1 (fitM w b) = w b
  | 0, _ => ⟨rfl, fun b hb => absurd hb (Nat.not_lt_zero _)⟩
  | n + 1, h => by
    obtain ⟨h1, h2⟩ := cpl_build (B0 := B0) (W0 := W0) hw h20 n (by omega)
    rw [fo_s, fitM_s]
    have hwn := hw n (by omega)
    by_cases hP : P n
    · rw [if_pos hP] at hwn
      rw [if_pos hP]
      by_cases hv : 0 < w n
      · have hlt : fitM w n < 20 := Nat.lt_of_lt_of_le (fitM_lt (show n < N by omega) hv) h20
        have hd : decide (0 < v n ∧ (fo (fun s b => if P b then kpS s b (v b) else s) ((B0, W0, 0) : TS) n).2.2 < 20) = true := decide_eq_true ⟨by omega, by omega⟩
        rw [if_pos hv]
        refine ⟨?_, fun b hb hb0 => ?_⟩
        · show kF _ _ = _
          rw [kF, hd, h1]; rfl
        · show kB _ _ _ _ _ = _ ∧ kW _ _ _ _ = _
          rw [kB, kW, hd, h1]
          show updN _ _ _ _ = _ ∧ updN _ _ _ _ = _
          rcases Nat.lt_or_ge b n with q | q
          · have hne : fitM w b ≠ fitM w n := Nat.ne_of_lt (fitM_lt q hb0)
            rw [updN_n hne, updN_n hne]
            exact h2 b q hb0
          · obtain rfl : b = n := by omega
            rw [updN_s, updN_s]
            exact ⟨rfl, hwn.symm⟩
      · have hd : decide (0 < v n ∧ (fo (fun s b => if P b then kpS s b (v b) else s) ((B0, W0, 0) : TS) n).2.2 < 20) = false := decide_eq_false (fun h9 => hv (by rw [hwn]; exact h9.1))
        rw [if_neg hv]
        refine ⟨?_, fun b hb hb0 => ?_⟩
        · show kF _ _ = _
          rw [kF, hd, h1]; rfl
        · show kB _ _ _ _ _ = _ ∧ kW _ _ _ _ = _
          rw [kB, kW, hd]
          exact h2 b (by rcases Nat.lt_or_ge b n with q | q; exact q; exact absurd (show 0 < w n by rw [← show b = n by omega]; exact hb0) hv) hb0
    · rw [if_neg hP] at hwn
      rw [if_neg hP, if_neg (by omega)]
      refine ⟨h1, fun b hb hb0 => h2 b ?_ hb0⟩
      rcases Nat.lt_or_ge b n with q | q
      · exact q
      · obtain rfl : b = n := by omega
        omega
theorem cpl_of {P : Nat → Prop} [DecidablePred P] {v w : Nat → Nat} {B0 W0 : Nat → Nat} {N : Nat} (hw : ∀ b, b < N → w b = if P b then v b else 0) (h20 : fitM w N ≤ 20) (T : TS) (hT : T = fo (fun s b => if P b then kpS s b (v b) else s) ((B0, W0, 0) : TS) N) : Cpl w N T.1 T.2.1 T.2.2 := by
  subst hT
  exact cpl_build hw h20 N (Nat.le_refl _)
/-- the list weighed anew, in place -/
theorem wgS_eq {e x y : Nat} {B w : Nat → Nat} : ∀ n, wgS e x y B w n = fo (fun s i => kpS s (B i) (w i * (if (B i).testBit e then x else y))) (B, w, 0) n
  | 0 => rfl
  | n + 1 => by
    have ih := wgS_eq (e := e) (x := x) (y := y) (B := B) (w := w) n
    have hk := (wgS_keep e x y B w n).2 n (Nat.le_refl _)
    rw [fo_s, ← ih]
    show wgF e x y (wgS e x y B w n) n = _
    unfold wgF
    rw [hk.1, hk.2]
theorem fitM_le2 {w v : Nat → Nat} (h : ∀ b, 0 < v b → 0 < w b) : ∀ n, fitM v n ≤ fitM w n
  | 0 => Nat.le_refl _
  | n + 1 => by
    have ih := fitM_le2 h n
    rw [fitM_s, fitM_s]
    by_cases hv : 0 < v n
    · rw [if_pos hv, if_pos (h n hv)]; omega
    · rw [if_neg hv]; split <;> omega
theorem cpl_wg {w : Nat → Nat} {N : Nat} {fB fW : Nat → Nat} {fi : Nat} (hc : Cpl w N fB fW fi) (h20 : fi ≤ 20) (e x y : Nat) {w' : Nat → Nat} (hw : ∀ b, b < N → w' b = w b * (if b.testBit e then x else y)) : Cpl w' N (wgS e x y fB fW fi).1 (wgS e x y fB fW fi).2.1 (wgS e x y fB fW fi).2.2 := by
  have h1 : ∀ b, b < N → w' b = if 0 < w b then w b * (if b.testBit e then x else y) else 0 := fun b hb => by
    rw [hw b hb]
    by_cases h : 0 < w b
    · rw [if_pos h]
    · rw [if_neg h, show w b = 0 by omega, Nat.zero_mul]
  have hle : fitM w' N ≤ fitM w N := by
    have : ∀ n, n ≤ N → fitM w' n ≤ fitM w n := by
      intro n
      induction n with
      | zero => intro _; exact Nat.le_refl _
      | succ n ih =>
        intro hn
        have ih := ih (by omega)
        rw [fitM_s, fitM_s]
        by_cases hv : 0 < w' n
        · rw [if_pos hv, if_pos (by rw [h1 n (by omega)] at hv; by_cases h : 0 < w n; exact h; rw [if_neg h] at hv; exact absurd hv (Nat.lt_irrefl _))]; omega
        · rw [if_neg hv]; split <;> omega
    exact this N (Nat.le_refl _)
  refine cpl_of (P := fun b => 0 < w b) (v := fun b => w b * (if b.testBit e then x else y)) (B0 := fB) (W0 := fW) h1 (by rw [← hc.1] at hle; omega) _ ?_
  rw [wgS_eq]
  exact fo_all hc (fun s b v => kpS s b (v * (if b.testBit e then x else y))) (fB, fW, 0)
