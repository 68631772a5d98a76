/-! the class's breaking -/
def lsG (ib b : Nat) : Nat × Nat → Nat → Nat × Nat := fun s e => if ib.testBit e then (s.1 + s.2 * (if b.testBit e then 2 else 1), s.2 * 3) else s
def lst (ib b : Nat) : Nat := (fo (lsG ib b) (0, 1) 6).1
theorem lsG_0 {ib b e : Nat} {s : Nat × Nat} (h : ib.testBit e = false) : lsG ib b s e = s := if_neg (by rw [h]; decide)
theorem lsG_1 {ib b e : Nat} {s : Nat × Nat} (h : ib.testBit e = true) : lsG ib b s e = (s.1 + s.2 * (if b.testBit e then 2 else 1), s.2 * 3) := if_pos h
theorem lsG_b (ib b : Nat) : ∀ i, (fo (lsG ib b) (0, 1) i).1 < (fo (lsG ib b) (0, 1) i).2 ∧ (fo (lsG ib b) (0, 1) i).2 ≤ 3 ^ i
  | 0 => ⟨by show 0 < 1; decide, by show 1 ≤ 1; decide⟩
  | i + 1 => by
    obtain ⟨h1, h2⟩ := lsG_b ib b i
    rw [fo_s, Nat.pow_succ]
    by_cases h : ib.testBit i = true
    · rw [lsG_1 h]
      refine ⟨?_, ?_⟩
      · show _ + _ * (if _ then 2 else 1) < _ * 3
        split <;> omega
      · show _ * 3 ≤ _
        omega
    · rw [lsG_0 (by simpa using h)]
      exact ⟨h1, by omega⟩
theorem lst_lt (ib b : Nat) : lst ib b < 729 := by
  obtain ⟨h1, h2⟩ := lsG_b ib b 6
  exact Nat.lt_of_lt_of_le h1 h2
def spF (fB fW : Nat → Nat) (ib : Nat) : (Nat → Nat) → Nat → (Nat → Nat) := fun h i => updN h (lst ib (fB i)) (h (lst ib (fB i)) + fW i)
def hadF (s : Nat) : Nat → Nat → Nat := fun a i => if dig s i = 1 then a + 1 else a
def whF (s : Nat) : Nat → Nat → Nat := fun a i => if dig s i = 0 then pw 3 i else a
theorem had_le (s : Nat) : ∀ i, fo (hadF s) 0 i ≤ i
  | 0 => Nat.le_refl _
  | i + 1 => by
    have h := had_le s i
    rw [fo_s, hadF]
    split <;> omega
theorem wh_or (s : Nat) : ∀ i, fo (whF s) 0 i = 0 ∨ ∃ e, e < i ∧ dig s e = 0 ∧ fo (whF s) 0 i = pw 3 e
  | 0 => Or.inl rfl
  | i + 1 => by
    rw [fo_s, whF]
    by_cases h : dig s i = 0
    · rw [if_pos h]; exact Or.inr ⟨i, by omega, h, rfl⟩
    · rw [if_neg h]
      rcases wh_or s i with q | ⟨e, h1, h2, h3⟩
      · exact Or.inl q
      · exact Or.inr ⟨e, by omega, h2, h3⟩
theorem dig_two3 : ∀ n, n < 7 → ∀ s, s < pw 3 n → ∀ e, e < n → dig s e = 0 → s + 2 * pw 3 e < pw 3 n := by decide +kernel
theorem dig_s (s i : Nat) : s / pw 3 i / 3 = s / pw 3 (i + 1) := by rw [Nat.div_div_eq_div_mul]; rfl
theorem mx_nI {a b : Nat} (ha : a < 2 ^ 31) (hb : b < 2 ^ 31) : (if nI a < nI b then nI b else nI a) = nI (if a < b then b else a) := by
  by_cases h : a < b
  · rw [if_pos ((nI_ltI ha hb).mpr h), if_pos h]
  · rw [if_neg (fun h9 => h ((nI_ltI ha hb).mp h9)), if_neg h]
theorem mn_nI {a b : Nat} (ha : a < 2 ^ 31) (hb : b < 2 ^ 31) : (if nI b < nI a then nI b else nI a) = nI (if b < a then b else a) := by
  by_cases h : b < a
  · rw [if_pos ((nI_ltI hb ha).mpr h), if_pos h]
  · rw [if_neg (fun h9 => h ((nI_ltI hb ha).mp h9)), if_neg h]
abbrev BNS : Type := Nat × Nat × Nat
def bnC (C : Nat → Nat) (s i : Nat) : Nat := C (s + 1 * pw 3 i) + C (s + 2 * pw 3 i)
def bnO (O : Nat → Nat) (s i : Nat) : Nat := if O (s + 1 * pw 3 i) < O (s + 2 * pw 3 i) then O (s + 2 * pw 3 i) else O (s + 1 * pw 3 i)
def bnF (C O : Nat → Nat) (s : Nat) : BNS → Nat → BNS := fun S i => if dig s i = 0 then (if bnC C s i < S.1 then bnC C s i else S.1, if bnO O s i < S.2.1 then bnO O s i else S.2.1, if bnC C s i < S.1 then i else S.2.2) else S
theorem bnF_0 {C O : Nat → Nat} {s i : Nat} {S : BNS} (h : ¬ dig s i = 0) : bnF C O s S i = S := if_neg h
theorem bnF_1 {C O : Nat → Nat} {s i : Nat} {S : BNS} (h : dig s i = 0) : bnF C O s S i = (if bnC C s i < S.1 then bnC C s i else S.1, if bnO O s i < S.2.1 then bnO O s i else S.2.1, if bnC C s i < S.1 then i else S.2.2) := if_pos h
def bn0 (qb : Nat) : BNS := (9223372036854775807, 2147483647, qb)
theorem bnF_le (C O : Nat → Nat) (s qb : Nat) : ∀ i, (fo (bnF C O s) (bn0 qb) i).1 ≤ 9223372036854775807 ∧ (fo (bnF C O s) (bn0 qb) i).2.1 ≤ 2147483647
  | 0 => ⟨Nat.le_refl _, Nat.le_refl _⟩
  | i + 1 => by
    obtain ⟨h1, h2⟩ := bnF_le C O s qb i
    rw [fo_s]
    by_cases h : dig s i = 0
    · rw [bnF_1 h]
      refine ⟨?_, ?_⟩
      · show (if _ < _ then _ else _) ≤ _
        split <;> omega
      · show (if _ < _ then _ else _) ≤ _
        split <;> omega
    · rw [bnF_0 h]; exact ⟨h1, h2⟩
theorem bnO_lt {O : Nat → Nat} {s i B : Nat} (h1 : O (s + 1 * pw 3 i) < B) (h2 : O (s + 2 * pw 3 i) < B) : bnO O s i < B := by
  unfold bnO; split <;> assumption
/-- weights, costs, worsts, the best place -/
abbrev CB : Type := (Nat → Nat) × (Nat → Nat) × (Nat → Nat) × Nat
def bnA (np : Nat) (T : CB) (s : Nat) : CB := (T.1, updN T.2.1 s (T.1 s + (fo (bnF T.2.1 T.2.2.1 s) (bn0 T.2.2.2) np).1), updN T.2.2.1 s (1 + (fo (bnF T.2.1 T.2.2.1 s) (bn0 T.2.2.2) np).2.1), (fo (bnF T.2.1 T.2.2.1 s) (bn0 T.2.2.2) np).2.2)
def cbC (T : CB) (s : Nat) : CB := (T.1, updN T.2.1 s 0, updN T.2.2.1 s 0, T.2.2.2)
def cbW (np : Nat) (T : CB) (s : Nat) : CB := (updN T.1 s (T.1 (s + 1 * fo (whF s) 0 np) + T.1 (s + 2 * fo (whF s) 0 np)), updN T.2.1 s 0, updN T.2.2.1 s 0, T.2.2.2)
def brS (np nd : Nat) (T : CB) (s : Nat) : CB := if fo (whF s) 0 np = 0 then cbC T s else if 0 < (cbW np T s).1 s ∧ fo (hadF s) 0 np < nd then bnA np (cbW np T s) s else cbW np T s
theorem brS_0 {np nd s : Nat} {T : CB} (h : fo (whF s) 0 np = 0) : brS np nd T s = cbC T s := if_pos h
theorem brS_1 {np nd s : Nat} {T : CB} (h : ¬ fo (whF s) 0 np = 0) (h2 : ¬ (0 < (cbW np T s).1 s ∧ fo (hadF s) 0 np < nd)) : brS np nd T s = cbW np T s := by rw [brS, if_neg h, if_neg h2]
theorem brS_2 {np nd s : Nat} {T : CB} (h : ¬ fo (whF s) 0 np = 0) (h2 : 0 < (cbW np T s).1 s ∧ fo (hadF s) 0 np < nd) : brS np nd T s = bnA np (cbW np T s) s := by rw [brS, if_neg h, if_pos h2]
def slF (np nd : Nat) : CB → Nat → CB := fun T i => brS np nd T (pw 3 np - 1 - i)
/-- the numbers stay small -/
def cbOK (np nd : Nat) (T : CB) : Prop := ∀ k, k ≤ pw 3 np → ∀ j, j < pw 3 np → (fo (slF np nd) T k).1 j < 2 ^ 60 ∧ (pw 3 np - k ≤ j → (fo (slF np nd) T k).2.1 j < 2 ^ 60 ∧ (fo (slF np nd) T k).2.2.1 j < 1000)
theorem dn_sub (r : Nat) : nI r - nI 1 = dnI (r - 0) := by rw [Nat.sub_zero, dnI, Int32.sub_eq_add_neg, show -(nI 1) = Int32.ofInt (-1) by decide]
set_option maxHeartbeats 4000000 in
set_option maxRecDepth 100000 in
/-- BoiledEggs$Breaking.lastState  -/
theorem k_X1_lastState (l : Launch) (g : GG) (oR : Nat) (oT : Nat) (aB : Nat) (aW : Nat) (aS : Nat) (aU : Nat) (aK : Nat) (fi : Nat) (ib : Nat) (sn : Nat) (xb : Nat) (hib : ib < 64) (hb0 : xb < 64) : Met l yX1_lastState wsX1_lastState ({ frames := 2, cells := 0, slots := 0, locals := 42 }) (pS g [.ref oR, .ref oT, .int (nI xb)] [(oT, .inr (8, [.ref aB, .ref aW, .ref aS, .ref aU, .ref aK, .int (nI fi), .int (nI ib), .int (nI sn)]))]) (vp_Si (fun r => r = (nI (lst ib xb)))) 0 0 noF := by
  refine metS (cc := cX1_lastState) (maxL := 6) (ret := (some .int)) (by decide) rfl (Nat.le_of_ble_eq_true rfl) ?_
  intro p e s m below meth c hx hb hr hts hown hlocks hml hC hP ls hl
  have hl : lv_has ls 6 [(0, .ref oR), (1, .ref oT), (2, .int (nI xb))] := hl
  have hown : s.vm.findClass RX1 = some m.cls := hown
  have hts : ∀ w ∈ wsX1_lastState, w.before ([.ref oR, .ref oT, .int (nI xb)] : List Value).toArray s = true := hts
  have iniX10 := hts (.initialized RX10) (by decide +kernel)
  have st61 := hts (.static yX10_has) (by decide +kernel)
  refine lv_iconst (v := nI 0) hx hb dX1_lastState_0 (by decide) ?_
  refine lv_istore_n (lv' := [(3, .int (nI 0)), (0, .ref oR), (1, .ref oT), (2, .int (nI xb))]) hx hb dX1_lastState_1 rfl hl (by decide) rfl (fun ls hl => ?_)
  refine lv_iconst (v := nI 1) hx hb dX1_lastState_2 (by decide) ?_
  refine lv_istore (lv' := [(4, .int (nI 1)), (3, .int (nI 0)), (0, .ref oR), (1, .ref oT), (2, .int (nI xb))]) hx hb dX1_lastState_3 hl (by decide) rfl (fun ls hl => ?_)
  refine lv_iconst (v := nI 0) hx hb dX1_lastState_5 (by decide) ?_
  refine lv_istore (lv' := [(5, .int (nI 0)), (4, .int (nI 1)), (3, .int (nI 0)), (0, .ref oR), (1, .ref oT), (2, .int (nI xb))]) hx hb dX1_lastState_6 hl (by decide) rfl (fun ls hl => ?_)
  have hL8 : ∀ (n_9 : Nat) (i : Nat), 6 - i < n_9 → (i ≤ 6) → ∀ ls : Array Slot, lv_has ls 6 [(0, .ref oR), (1, .ref oT), (2, .int (nI xb)), (3, .int (nI ((fo (lsG ib xb) (0, 1) i).1))), (4, .int (nI ((fo (lsG ib xb) (0, 1) i).2))), (5, .int (nI i))] → W p l e ({ frames := 2, cells := 0, slots := 0, locals := 42 }) s m ([.ref oR, .ref oT, .int (nI xb)] : List Value).toArray below meth c s.heap [] 0 0 (MQ below (vp_Si (fun r => r = (nI (lst ib xb)))) ([.ref oR, .ref oT, .int (nI xb)] : List Value).toArray s 0 0 noF) (F0 m 8 ls []) := by
   intro n_9
   induction n_9 with
   | zero => intro i hn_9; exact absurd hn_9 (Nat.not_lt_zero _)
   | succ n_9 ih8 =>
    intro i hn_9 hi ls hl
    refine lv_iload hx hb dX1_lastState_8 (lv_at hl 5 rfl) ?_
    refine lv_bipush (v := nI 6) hx hb dX1_lastState_10 (by decide) ?_
    refine lv_icmp_ge (tgt := 56) hx hb dX1_lastState_12 (by decide) (fun c12 => ?_) (fun c12 => ?_)
    ·have c12 : 6 ≤ i := (nI_leI (a := 6) (b := i) (by omega) (by omega)).mp c12
     refine lv_iload_n hx hb dX1_lastState_56 rfl (lv_at hl 3 rfl) ?_
     exact retSi hx hb hr hlocks (by rw [show i = 6 by omega]; rfl) dX1_lastState_57
    ·have c12 : ¬ 6 ≤ i := fun h9 => c12 ((nI_leI (a := 6) (b := i) (by omega) (by omega)).mpr h9)
     have hJ50 : ∀ ls : Array Slot, lv_has ls 6 [(0, .ref oR), (1, .ref oT), (2, .int (nI xb)), (3, .int (nI ((fo (lsG ib xb) (0, 1) (i + 1)).1))), (4, .int (nI ((fo (lsG ib xb) (0, 1) (i + 1)).2))), (5, .int (nI i))] → W p l e ({ frames := 2, cells := 0, slots := 0, locals := 42 }) s m ([.ref oR, .ref oT, .int (nI xb)] : List Value).toArray below meth c s.heap [] 0 0 (MQ below (vp_Si (fun r => r = (nI (lst ib xb)))) ([.ref oR, .ref oT, .int (nI xb)] : List Value).toArray s 0 0 noF) (F0 m 50 ls []) := by
      intro  ls hl
      refine lv_iinc (v := nI (i + 1)) (lv' := [(5, .int (nI (i + 1))), (0, .ref oR), (1, .ref oT), (2, .int (nI xb)), (3, .int (nI ((fo (lsG ib xb) (0, 1) (i + 1)).1))), (4, .int (nI ((fo (lsG ib xb) (0, 1) (i + 1)).2)))]) hx hb dX1_lastState_50 hl (k := 5) rfl (iinc1 _) (by decide) rfl (fun ls hl => ?_)
      refine lv_goto (tgt := 8) hx hb dX1_lastState_53 (by decide) ?_
      exact ih8 (i + 1) (by omega) (by first | assumption | exact Nat.zero_le _ | omega) ls (lv_sub hl [1, 2, 3, 4, 5, 0] rfl)
     refine lv_aload_n hx hb dX1_lastState_15 rfl (lv_at hl 1 rfl) ?_
     refine lv_iload hx hb dX1_lastState_16 (lv_at hl 5 rfl) ?_
     refine goSi (T := zI (ib.testBit i)) (va_runV (As := [.int (nI i)]) (rest := []) ⟨hx, hb, hml, hown, hts⟩ (k_X8_isInBox l g oT aB aW aS aU aK fi ib sn i (by first | assumption | exact Nat.zero_le _ | omega) (by first | assumption | exact Nat.zero_le _ | omega)) (cwV 1 hts gX1_lastState_X8_isInBox rfl rfl rfl ⟨rfl, hdX8_isInBox⟩ ⟨Nat.le_of_ble_eq_true rfl, Nat.le_of_ble_eq_true rfl⟩) (preVS hC (hP.sub [0] rfl) (va_recv hC.1 hP (ci := 8) (q0 := 0) rfl rfl)) rfl rfl hl.1 rfl (lv_room (Nat.le_of_ble_eq_true rfl)) dX1_lastState_18 ⟨Nat.le_of_ble_eq_true rfl, Nat.le_of_ble_eq_true rfl⟩) ?_
     refine lv_if_eq (tgt := 50) hx hb dX1_lastState_21 (by decide) (fun c21 => ?_) (fun c21 => ?_)
     ·have c21 := zI_f.mp c21
      have hl : lv_has ls 6 [(0, .ref oR), (1, .ref oT), (2, .int (nI xb)), (3, .int (nI ((fo (lsG ib xb) (0, 1) (i + 1)).1))), (4, .int (nI ((fo (lsG ib xb) (0, 1) i).2))), (5, .int (nI i))] := lv_val hl 3 rfl (congrArg Value.int (show nI ((fo (lsG ib xb) (0, 1) i).1) = nI ((fo (lsG ib xb) (0, 1) (i + 1)).1) from by rw [fo_s, lsG_0 c21] <;> rfl))
      have hl : lv_has ls 6 [(0, .ref oR), (1, .ref oT), (2, .int (nI xb)), (3, .int (nI ((fo (lsG ib xb) (0, 1) (i + 1)).1))), (4, .int (nI ((fo (lsG ib xb) (0, 1) (i + 1)).2))), (5, .int (nI i))] := lv_val hl 4 rfl (congrArg Value.int (show nI ((fo (lsG ib xb) (0, 1) i).2) = nI ((fo (lsG ib xb) (0, 1) (i + 1)).2) from by rw [fo_s, lsG_0 c21] <;> rfl))
      exact hJ50   ls (lv_sub hl [0, 1, 2, 3, 4, 5] rfl)
     ·have c21 := zI_t.mp c21
      refine lv_iload_n hx hb dX1_lastState_24 rfl (lv_at hl 3 rfl) ?_
      refine lv_iload hx hb dX1_lastState_25 (lv_at hl 4 rfl) ?_
      have hJ41 : ∀ ls : Array Slot, lv_has ls 6 [(0, .ref oR), (1, .ref oT), (2, .int (nI xb)), (3, .int (nI ((fo (lsG ib xb) (0, 1) i).1))), (4, .int (nI ((fo (lsG ib xb) (0, 1) i).2))), (5, .int (nI i))] → W p l e ({ frames := 2, cells := 0, slots := 0, locals := 42 }) s m ([.ref oR, .ref oT, .int (nI xb)] : List Value).toArray below meth c s.heap [] 0 0 (MQ below (vp_Si (fun r => r = (nI (lst ib xb)))) ([.ref oR, .ref oT, .int (nI xb)] : List Value).toArray s 0 0 noF) (F0 m 41 ls [.int (nI (if xb.testBit i then 2 else 1)), .int (nI ((fo (lsG ib xb) (0, 1) i).2)), .int (nI ((fo (lsG ib xb) (0, 1) i).1))]) := by
       intro  ls hl
       refine lv_imul hx hb dX1_lastState_41 ?_
       refine top_i (y := nI (((fo (lsG ib xb) (0, 1) i).2) * (if xb.testBit i then 2 else 1))) (pk_mul _ _) ?_
       refine lv_iadd hx hb dX1_lastState_42 ?_
       refine top_i (y := nI (((fo (lsG ib xb) (0, 1) i).1) + (((fo (lsG ib xb) (0, 1) i).2) * (if xb.testBit i then 2 else 1)))) (nI_add _ _) ?_
       refine lv_istore_n (lv' := [(3, .int (nI (((fo (lsG ib xb) (0, 1) i).1) + (((fo (lsG ib xb) (0, 1) i).2) * (if xb.testBit i then 2 else 1))))), (0, .ref oR), (1, .ref oT), (2, .int (nI xb)), (4, .int (nI ((fo (lsG ib xb) (0, 1) i).2))), (5, .int (nI i))]) hx hb dX1_lastState_43 rfl hl (by decide) rfl (fun ls hl => ?_)
       refine lv_iload hx hb dX1_lastState_44 (lv_at hl 4 rfl) ?_
       refine lv_iconst (v := nI 3) hx hb dX1_lastState_46 (by decide) ?_
       refine lv_imul hx hb dX1_lastState_47 ?_
       refine top_i (y := nI (((fo (lsG ib xb) (0, 1) i).2) * 3)) (pk_mul _ _) ?_
       refine lv_istore (lv' := [(4, .int (nI (((fo (lsG ib xb) (0, 1) i).2) * 3))), (3, .int (nI (((fo (lsG ib xb) (0, 1) i).1) + (((fo (lsG ib xb) (0, 1) i).2) * (if xb.testBit i then 2 else 1))))), (0, .ref oR), (1, .ref oT), (2, .int (nI xb)), (5, .int (nI i))]) hx hb dX1_lastState_48 hl (by decide) rfl (fun ls hl => ?_)
       have hl : lv_has ls 6 [(4, .int (nI (((fo (lsG ib xb) (0, 1) i).2) * 3))), (3, .int (nI ((fo (lsG ib xb) (0, 1) (i + 1)).1))), (0, .ref oR), (1, .ref oT), (2, .int (nI xb)), (5, .int (nI i))] := lv_val hl 1 rfl (congrArg Value.int (show nI (((fo (lsG ib xb) (0, 1) i).1) + (((fo (lsG ib xb) (0, 1) i).2) * (if xb.testBit i then 2 else 1))) = nI ((fo (lsG ib xb) (0, 1) (i + 1)).1) from by rw [fo_s, lsG_1 c21] <;> rfl))
       have hl : lv_has ls 6 [(4, .int (nI ((fo (lsG ib xb) (0, 1) (i + 1)).2))), (3, .int (nI ((fo (lsG ib xb) (0, 1) (i + 1)).1))), (0, .ref oR), (1, .ref oT), (2, .int (nI xb)), (5, .int (nI i))] := lv_val hl 0 rfl (congrArg Value.int (show nI (((fo (lsG ib xb) (0, 1) i).2) * 3) = nI ((fo (lsG ib xb) (0, 1) (i + 1)).2) from by rw [fo_s, lsG_1 c21] <;> rfl))
       exact hJ50   ls (lv_sub hl [2, 3, 4, 1, 0, 5] rfl)
      refine lv_iload_n hx hb dX1_lastState_27 rfl (lv_at hl 2 rfl) ?_
      refine lv_iload hx hb dX1_lastState_28 (lv_at hl 5 rfl) ?_
      refine goSi (T := zI (xb.testBit i)) (va_runSN (As := [.int (nI xb), .int (nI i)]) (rest := [.int (nI ((fo (lsG ib xb) (0, 1) i).2)), .int (nI ((fo (lsG ib xb) (0, 1) i).1))]) ⟨hx, hb, hml, hown, hts⟩ (k_X10_has l g xb i (by first | assumption | exact Nat.zero_le _ | omega) (by first | assumption | exact Nat.zero_le _ | omega)) ⟨va_cnB 2 hts gX1_lastState_X10_has_n61 rfl rfl rfl (hC.2.1 (.methodLinkNest RX1 61 yX10_has "BoiledEggs") (by decide +kernel)) iniX10 hdX10_has ⟨Nat.le_of_ble_eq_true rfl, Nat.le_of_ble_eq_true rfl⟩, st61, trivial⟩ (preSS hC (hP.sub [] rfl)) rfl rfl hl.1 rfl (lv_room (Nat.le_of_ble_eq_true rfl)) dX1_lastState_30 ⟨Nat.le_of_ble_eq_true rfl, Nat.le_of_ble_eq_true rfl⟩) ?_
      refine lv_if_eq (tgt := 40) hx hb dX1_lastState_33 (by decide) (fun c33 => ?_) (fun c33 => ?_)
      ·have c33 := zI_f.mp c33
       refine lv_iconst (v := nI 1) hx hb dX1_lastState_40 (by decide) ?_
       refine top_i (y := nI (if xb.testBit i then 2 else 1)) (by first | rw [if_pos c33] | rw [if_neg (by rw [c33]; decide)]) ?_
       exact hJ41   ls (lv_sub hl [0, 1, 2, 3, 4, 5] rfl)
      ·have c33 := zI_t.mp c33
       refine lv_iconst (v := nI 2) hx hb dX1_lastState_36 (by decide) ?_
       refine lv_goto (tgt := 41) hx hb dX1_lastState_37 (by decide) ?_
       refine top_i (y := nI (if xb.testBit i then 2 else 1)) (by first | rw [if_pos c33] | rw [if_neg (by rw [c33]; decide)]) ?_
       exact hJ41   ls (lv_sub hl [0, 1, 2, 3, 4, 5] rfl)
  exact hL8 _ 0 (Nat.lt_succ_self _) (by first | assumption | exact Nat.zero_le _ | omega) ls (lv_sub hl [3, 4, 5, 2, 1, 0] rfl)

set_option maxHeartbeats 4000000 in
set_option maxRecDepth 100000 in
/-- BoiledEggs$Breaking.spread  -/
theorem k_X1_spread (l : Launch) (g : GG) (sz : Nat) (oR : Nat) (rW : Nat) (rC : Nat) (rO : Nat) (np : Nat) (nd : Nat) (qb : Nat) (oT : Nat) (aB : Nat) (aW : Nat) (aS : Nat) (aU : Nat) (aK : Nat) (fi : Nat) (ib : Nat) (sn : Nat) (xW : Nat → Nat) (fB : Nat → Nat) (fW : Nat → Nat) (xn : Nat) (hib : ib < 64) (hf0 : fi ≤ 20) (hB : ∀ j, fB j < 64) (hn0 : xn ≤ 729) : Met l yX1_spread wsX1_spread ({ frames := 3, cells := 0, slots := 0, locals := 67 }) (pM g sz [.ref oR, .ref oT, .int (nI xn)] [(oR, .inr (1, [.ref rW, .ref rC, .ref rO, .int (nI np), .int (nI nd), .int (nI qb)])), (rW, .inl (g.2.2.1, 729, .inr (.inl (fun j => lN (xW j))))), (oT, .inr (8, [.ref aB, .ref aW, .ref aS, .ref aU, .ref aK, .int (nI fi), .int (nI ib), .int (nI sn)])), (aB, .inl (g.2.1, 20, .inl (fun j => nI (fB j)))), (aW, .inl (g.2.2.1, 20, .inr (.inl (fun j => lN (fW j)))))]) (qMv g (fun (_ : Unit) => True) (fun (_ : Unit) => [(oR, .inr (1, [.ref rW, .ref rC, .ref rO, .int (nI np), .int (nI nd), .int (nI qb)])), (rW, .inl (g.2.2.1, 729, .inr (.inl (fun j => lN ((fo (spF fB fW ib) (fo zF xW xn) fi) j))))), (oT, .inr (8, [.ref aB, .ref aW, .ref aS, .ref aU, .ref aK, .int (nI fi), .int (nI ib), .int (nI sn)])), (aB, .inl (g.2.1, 20, .inl (fun j => nI (fB j)))), (aW, .inl (g.2.2.1, 20, .inr (.inl (fun j => lN (fW j)))))]) (va_A [(oR, .inr (1, [.ref rW, .ref rC, .ref rO, .int (nI np), .int (nI nd), .int (nI qb)])), (rW, .inl (g.2.2.1, 729, .inr (.inl (fun j => lN (xW j))))), (oT, .inr (8, [.ref aB, .ref aW, .ref aS, .ref aU, .ref aK, .int (nI fi), .int (nI ib), .int (nI sn)])), (aB, .inl (g.2.1, 20, .inl (fun j => nI (fB j)))), (aW, .inl (g.2.2.1, 20, .inr (.inl (fun j => lN (fW j)))))] sz)) 0 0 (va_A [(oR, .inr (1, [.ref rW, .ref rC, .ref rO, .int (nI np), .int (nI nd), .int (nI qb)])), (rW, .inl (g.2.2.1, 729, .inr (.inl (fun j => lN (xW j))))), (oT, .inr (8, [.ref aB, .ref aW, .ref aS, .ref aU, .ref aK, .int (nI fi), .int (nI ib), .int (nI sn)])), (aB, .inl (g.2.1, 20, .inl (fun j => nI (fB j)))), (aW, .inl (g.2.2.1, 20, .inr (.inl (fun j => lN (fW j)))))] sz) := by
  refine metM (Qf := fun A => (qMv g (fun (_ : Unit) => True) (fun (_ : Unit) => [(oR, .inr (1, [.ref rW, .ref rC, .ref rO, .int (nI np), .int (nI nd), .int (nI qb)])), (rW, .inl (g.2.2.1, 729, .inr (.inl (fun j => lN ((fo (spF fB fW ib) (fo zF xW xn) fi) j))))), (oT, .inr (8, [.ref aB, .ref aW, .ref aS, .ref aU, .ref aK, .int (nI fi), .int (nI ib), .int (nI sn)])), (aB, .inl (g.2.1, 20, .inl (fun j => nI (fB j)))), (aW, .inl (g.2.2.1, 20, .inr (.inl (fun j => lN (fW j)))))]) A)) (cc := cX1_spread) (maxL := 4) (ret := none) (by decide) rfl (Nat.le_of_ble_eq_true rfl) ?_
  intro p e s m below meth c hx hb hr hts hown hlocks hml hin0 hC A hA hP hD hS ls hl
  have hl : lv_has ls 4 [(0, .ref oR), (1, .ref oT), (2, .int (nI xn))] := hl
  have hown : s.vm.findClass RX1 = some m.cls := hown
  have hts : ∀ w ∈ wsX1_spread, w.before ([.ref oR, .ref oT, .int (nI xn)] : List Value).toArray s = true := hts
  have hinX8 := (by decide +kernel : ∀ w ∈ u_ws RX8 TX8 8, w ∈ wsX1_spread)
  have f46 := va_Nw.use (A := ([.ref oR, .ref oT, .int (nI xn)] : List Value).toArray) rfl (hC.2.1 (.fieldLinkNest RX1 46 "BoiledEggs$Told" "fitting" "I" "BoiledEggs") (by decide +kernel))
  have hinX1 := (by decide +kernel : ∀ w ∈ u_ws RX1 TX1 6, w ∈ wsX1_spread)
  have f11 := hts (.fieldLink RX1 11 "BoiledEggs$Breaking" "weights" "[J") (by decide +kernel)
  have f49 := va_Nw.use (A := ([.ref oR, .ref oT, .int (nI xn)] : List Value).toArray) rfl (hC.2.1 (.fieldLinkNest RX1 49 "BoiledEggs$Told" "boxes" "[I" "BoiledEggs") (by decide +kernel))
  have f56 := va_Nw.use (A := ([.ref oR, .ref oT, .int (nI xn)] : List Value).toArray) rfl (hC.2.1 (.fieldLinkNest RX1 56 "BoiledEggs$Told" "weights" "[J" "BoiledEggs") (by decide +kernel))
  refine lv_iconst (v := nI 0) hx hb dX1_spread_0 (by decide) ?_
  refine lv_istore_n (lv' := [(3, .int (nI 0)), (0, .ref oR), (1, .ref oT), (2, .int (nI xn))]) hx hb dX1_spread_1 rfl hl (by decide) rfl (fun ls hl => ?_)
  have hL2 : ∀ (n_9 : Nat) (i : Nat), xn - i < n_9 → (i ≤ xn) → ∀ (H : Heap) (locs : List Loc), va_P g.1 vwCl [(oR, .inr (1, [.ref rW, .ref rC, .ref rO, .int (nI np), .int (nI nd), .int (nI qb)])), (rW, .inl (g.2.2.1, 729, .inr (.inl (fun j => lN ((fo zF xW i) j))))), (oT, .inr (8, [.ref aB, .ref aW, .ref aS, .ref aU, .ref aK, .int (nI fi), .int (nI ib), .int (nI sn)])), (aB, .inl (g.2.1, 20, .inl (fun j => nI (fB j)))), (aW, .inl (g.2.2.1, 20, .inr (.inl (fun j => lN (fW j)))))] H → va_D A [(oR, .inr (1, [.ref rW, .ref rC, .ref rO, .int (nI np), .int (nI nd), .int (nI qb)])), (rW, .inl (g.2.2.1, 729, .inr (.inl (fun j => lN ((fo zF xW i) j))))), (oT, .inr (8, [.ref aB, .ref aW, .ref aS, .ref aU, .ref aK, .int (nI fi), .int (nI ib), .int (nI sn)])), (aB, .inl (g.2.1, 20, .inl (fun j => nI (fB j)))), (aW, .inl (g.2.2.1, 20, .inr (.inl (fun j => lN (fW j)))))] → va_S A s.heap H locs → ∀ ls : Array Slot, lv_has ls 4 [(0, .ref oR), (1, .ref oT), (2, .int (nI xn)), (3, .int (nI i))] → W p l e ({ frames := 3, cells := 0, slots := 0, locals := 67 }) s m ([.ref oR, .ref oT, .int (nI xn)] : List Value).toArray below meth c H locs 0 0 (MQ below (qMv g (fun (_ : Unit) => True) (fun (_ : Unit) => [(oR, .inr (1, [.ref rW, .ref rC, .ref rO, .int (nI np), .int (nI nd), .int (nI qb)])), (rW, .inl (g.2.2.1, 729, .inr (.inl (fun j => lN ((fo (spF fB fW ib) (fo zF xW xn) fi) j))))), (oT, .inr (8, [.ref aB, .ref aW, .ref aS, .ref aU, .ref aK, .int (nI fi), .int (nI ib), .int (nI sn)])), (aB, .inl (g.2.1, 20, .inl (fun j => nI (fB j)))), (aW, .inl (g.2.2.1, 20, .inr (.inl (fun j => lN (fW j)))))]) A) ([.ref oR, .ref oT, .int (nI xn)] : List Value).toArray s 0 0 A) (F0 m 2 ls []) := by
   intro n_9
   induction n_9 with
   | zero => intro i hn_9; exact absurd hn_9 (Nat.not_lt_zero _)
   | succ n_9 ih2 =>
    intro i hn_9 hi H locs hP hD hS ls hl
    refine lv_iload_n hx hb dX1_spread_2 rfl (lv_at hl 3 rfl) ?_
    refine lv_iload_n hx hb dX1_spread_3 rfl (lv_at hl 2 rfl) ?_
    refine lv_icmp_ge (tgt := 20) hx hb dX1_spread_4 (by decide) (fun c4 => ?_) (fun c4 => ?_)
    ·have c4 : xn ≤ i := (nI_leI (a := xn) (b := i) (by omega) (by omega)).mp c4
     refine lv_iconst (v := nI 0) hx hb dX1_spread_20 (by decide) ?_
     refine lv_istore_n (lv' := [(3, .int (nI 0)), (0, .ref oR), (1, .ref oT), (2, .int (nI xn))]) hx hb dX1_spread_21 rfl hl (by decide) rfl (fun ls hl => ?_)
     have hL22 : ∀ (n_9 : Nat) (k : Nat), fi - k < n_9 → (k ≤ fi) → ∀ (H : Heap) (locs : List Loc), va_P g.1 vwCl [(oR, .inr (1, [.ref rW, .ref rC, .ref rO, .int (nI np), .int (nI nd), .int (nI qb)])), (rW, .inl (g.2.2.1, 729, .inr (.inl (fun j => lN ((fo (spF fB fW ib) (fo zF xW xn) k) j))))), (oT, .inr (8, [.ref aB, .ref aW, .ref aS, .ref aU, .ref aK, .int (nI fi), .int (nI ib), .int (nI sn)])), (aB, .inl (g.2.1, 20, .inl (fun j => nI (fB j)))), (aW, .inl (g.2.2.1, 20, .inr (.inl (fun j => lN (fW j)))))] H → va_D A [(oR, .inr (1, [.ref rW, .ref rC, .ref rO, .int (nI np), .int (nI nd), .int (nI qb)])), (rW, .inl (g.2.2.1, 729, .inr (.inl (fun j => lN ((fo (spF fB fW ib) (fo zF xW xn) k) j))))), (oT, .inr (8, [.ref aB, .ref aW, .ref aS, .ref aU, .ref aK, .int (nI fi), .int (nI ib), .int (nI sn)])), (aB, .inl (g.2.1, 20, .inl (fun j => nI (fB j)))), (aW, .inl (g.2.2.1, 20, .inr (.inl (fun j => lN (fW j)))))] → va_S A s.heap H locs → ∀ ls : Array Slot, lv_has ls 4 [(0, .ref oR), (1, .ref oT), (3, .int (nI k))] → W p l e ({ frames := 3, cells := 0, slots := 0, locals := 67 }) s m ([.ref oR, .ref oT, .int (nI xn)] : List Value).toArray below meth c H locs 0 0 (MQ below (qMv g (fun (_ : Unit) => True) (fun (_ : Unit) => [(oR, .inr (1, [.ref rW, .ref rC, .ref rO, .int (nI np), .int (nI nd), .int (nI qb)])), (rW, .inl (g.2.2.1, 729, .inr (.inl (fun j => lN ((fo (spF fB fW ib) (fo zF xW xn) fi) j))))), (oT, .inr (8, [.ref aB, .ref aW, .ref aS, .ref aU, .ref aK, .int (nI fi), .int (nI ib), .int (nI sn)])), (aB, .inl (g.2.1, 20, .inl (fun j => nI (fB j)))), (aW, .inl (g.2.2.1, 20, .inr (.inl (fun j => lN (fW j)))))]) A) ([.ref oR, .ref oT, .int (nI xn)] : List Value).toArray s 0 0 A) (F0 m 22 ls []) := by
      intro n_9
      induction n_9 with
      | zero => intro k hn_9; exact absurd hn_9 (Nat.not_lt_zero _)
      | succ n_9 ih22 =>
       intro k hn_9 hk H locs hP hD hS ls hl
       refine lv_iload_n hx hb dX1_spread_22 rfl (lv_at hl 2 rfl) ?_
       refine lv_aload_n hx hb dX1_spread_23 rfl (lv_at hl 1 rfl) ?_
       refine va_getN (D := g.1) (ci := 8) (v := .int (nI fi)) (C := RX8) (T := TX8) (N := 8) hx hb hts hinX8 hown hC.1 hP 2 rfl rfl 5 (by decide) f46 (fun _ h9 => h9) rfl dX1_spread_24 ?_
       refine lv_icmp_ge (tgt := 61) hx hb dX1_spread_27 (by decide) (fun c27 => ?_) (fun c27 => ?_)
       ·have c27 : fi ≤ k := (nI_leI (a := fi) (b := k) (by omega) (by omega)).mp c27
        exact retMv (w := [(oR, .inr (1, [.ref rW, .ref rC, .ref rO, .int (nI np), .int (nI nd), .int (nI qb)])), (rW, .inl (g.2.2.1, 729, .inr (.inl (fun j => lN ((fo (spF fB fW ib) (fo zF xW xn) k) j))))), (oT, .inr (8, [.ref aB, .ref aW, .ref aS, .ref aU, .ref aK, .int (nI fi), .int (nI ib), .int (nI sn)])), (aB, .inl (g.2.1, 20, .inl (fun j => nI (fB j)))), (aW, .inl (g.2.2.1, 20, .inr (.inl (fun j => lN (fW j)))))]) hx hb hr hlocks (hP.sub [0, 1, 2, 3, 4] rfl) (hD.sub [0, 1, 2, 3, 4] (by decide) rfl) hS () (by rw [show k = fi by omega] <;> rfl) (trivial) dX1_spread_61
       ·have c27 : ¬ fi ≤ k := fun h9 => c27 ((nI_leI (a := fi) (b := k) (by omega) (by omega)).mpr h9)
        have hlt := lst_lt ib (fB k)
        refine lv_aload_n hx hb dX1_spread_30 rfl (lv_at hl 0 rfl) ?_
        refine va_get (D := g.1) (ci := 1) (v := .ref rW) (C := RX1) (T := TX1) (N := 6) hx hb hts hinX1 hown hC.1 hP 0 rfl rfl 0 (by decide) f11 (fun _ h9 => h9) rfl dX1_spread_31 ?_
        refine lv_aload_n hx hb dX1_spread_34 rfl (lv_at hl 0 rfl) ?_
        refine lv_aload_n hx hb dX1_spread_35 rfl (lv_at hl 1 rfl) ?_
        refine lv_aload_n hx hb dX1_spread_36 rfl (lv_at hl 1 rfl) ?_
        refine va_getN (D := g.1) (ci := 8) (v := .ref aB) (C := RX8) (T := TX8) (N := 8) hx hb hts hinX8 hown hC.1 hP 2 rfl rfl 0 (by decide) f49 (fun _ h9 => h9) rfl dX1_spread_37 ?_
        refine lv_iload_n hx hb dX1_spread_40 rfl (lv_at hl 2 rfl) ?_
        refine ald_i (f := fun j => nI (fB j)) (j := k) hx hb hC hP 3 rfl (by omega) (by decide) dX1_spread_41 ?_
        refine goSi (T := nI (lst ib (fB k))) (va_runV (As := [.ref oT, .int (nI (fB k))]) (rest := [.ref rW]) ⟨hx, hb, hml, hown, hts⟩ (k_X1_lastState l g oR oT aB aW aS aU aK fi ib sn (fB k) (by first | assumption | exact Nat.zero_le _ | omega) (hB k)) (cwV 2 hts gX1_spread_X1_lastState rfl rfl rfl ⟨rfl, hdX1_lastState⟩ ⟨Nat.le_of_ble_eq_true rfl, Nat.le_of_ble_eq_true rfl⟩) (preVS hC (hP.sub [2] rfl) (va_recv hC.1 hP (ci := 1) (q0 := 0) rfl rfl)) rfl rfl hl.1 rfl (lv_room (Nat.le_of_ble_eq_true rfl)) dX1_spread_42 ⟨Nat.le_of_ble_eq_true rfl, Nat.le_of_ble_eq_true rfl⟩) ?_
        refine lv_dup2_11 hx hb dX1_spread_45 rfl rfl ?_
        refine ald_l (f := fun j => lN ((fo (spF fB fW ib) (fo zF xW xn) k) j)) (j := lst ib (fB k)) hx hb hC hP 1 rfl (by omega) (by decide) dX1_spread_46 ?_
        refine lv_aload_n hx hb dX1_spread_47 rfl (lv_at hl 1 rfl) ?_
        refine va_getN (D := g.1) (ci := 8) (v := .ref aW) (C := RX8) (T := TX8) (N := 8) hx hb hts hinX8 hown hC.1 hP 2 rfl rfl 1 (by decide) f56 (fun _ h9 => h9) rfl dX1_spread_48 ?_
        refine lv_iload_n hx hb dX1_spread_51 rfl (lv_at hl 2 rfl) ?_
        refine ald_l (f := fun j => lN (fW j)) (j := k) hx hb hC hP 4 rfl (by omega) (by decide) dX1_spread_52 ?_
        refine lv_ladd hx hb dX1_spread_53 ?_
        refine top_l (y := lN (((fo (spF fB fW ib) (fo zF xW xn) k) (lst ib (fB k))) + (fW k))) (lN_add _ _) ?_
        refine ast_ln (f := (fo (spF fB fW ib) (fo zF xW xn) k)) (j := lst ib (fB k)) (v := ((fo (spF fB fW ib) (fo zF xW xn) k) (lst ib (fB k))) + (fW k)) hx hb hC hP hD hS 1 rfl (by omega) (by decide) dX1_spread_54 (fun H locs hP hD hS => ?_)
        have hP : va_P g.1 vwCl [(oR, .inr (1, [.ref rW, .ref rC, .ref rO, .int (nI np), .int (nI nd), .int (nI qb)])), (rW, .inl (g.2.2.1, 729, .inr (.inl (fun j => lN (updN (fo (spF fB fW ib) (fo zF xW xn) k) (lst ib (fB k)) (((fo (spF fB fW ib) (fo zF xW xn) k) (lst ib (fB k))) + (fW k)) j))))), (oT, .inr (8, [.ref aB, .ref aW, .ref aS, .ref aU, .ref aK, .int (nI fi), .int (nI ib), .int (nI sn)])), (aB, .inl (g.2.1, 20, .inl (fun j => nI (fB j)))), (aW, .inl (g.2.2.1, 20, .inr (.inl (fun j => lN (fW j)))))] H := hP
        have hD : va_D A [(oR, .inr (1, [.ref rW, .ref rC, .ref rO, .int (nI np), .int (nI nd), .int (nI qb)])), (rW, .inl (g.2.2.1, 729, .inr (.inl (fun j => lN (updN (fo (spF fB fW ib) (fo zF xW xn) k) (lst ib (fB k)) (((fo (spF fB fW ib) (fo zF xW xn) k) (lst ib (fB k))) + (fW k)) j))))), (oT, .inr (8, [.ref aB, .ref aW, .ref aS, .ref aU, .ref aK, .int (nI fi), .int (nI ib), .int (nI sn)])), (aB, .inl (g.2.1, 20, .inl (fun j => nI (fB j)))), (aW, .inl (g.2.2.1, 20, .inr (.inl (fun j => lN (fW j)))))] := hD
        refine lv_iinc (v := nI (k + 1)) (lv' := [(3, .int (nI (k + 1))), (0, .ref oR), (1, .ref oT)]) hx hb dX1_spread_55 hl (k := 2) rfl (iinc1 _) (by decide) rfl (fun ls hl => ?_)
        refine lv_goto (tgt := 22) hx hb dX1_spread_58 (by decide) ?_
        exact ih22 (k + 1) (by omega) (by first | assumption | exact Nat.zero_le _ | omega) _ _ hP hD hS ls (lv_sub hl [1, 2, 0] rfl)
     rw [show i = xn by omega] at hP hD
     exact hL22 _ 0 (Nat.lt_succ_self _) (by first | assumption | exact Nat.zero_le _ | omega) _ _ hP hD hS ls (lv_sub hl [1, 2, 0] rfl)
    ·have c4 : ¬ xn ≤ i := fun h9 => c4 ((nI_leI (a := xn) (b := i) (by omega) (by omega)).mpr h9)
     refine lv_aload_n hx hb dX1_spread_7 rfl (lv_at hl 0 rfl) ?_
     refine va_get (D := g.1) (ci := 1) (v := .ref rW) (C := RX1) (T := TX1) (N := 6) hx hb hts hinX1 hown hC.1 hP 0 rfl rfl 0 (by decide) f11 (fun _ h9 => h9) rfl dX1_spread_8 ?_
     refine lv_iload_n hx hb dX1_spread_11 rfl (lv_at hl 3 rfl) ?_
     refine lv_lconst (v := lN 0) hx hb dX1_spread_12 (by decide) ?_
     refine ast_ln (f := (fo zF xW i)) (j := i) (v := 0) hx hb hC hP hD hS 1 rfl (by omega) (by decide) dX1_spread_13 (fun H locs hP hD hS => ?_)
     have hP : va_P g.1 vwCl [(oR, .inr (1, [.ref rW, .ref rC, .ref rO, .int (nI np), .int (nI nd), .int (nI qb)])), (rW, .inl (g.2.2.1, 729, .inr (.inl (fun j => lN (updN (fo zF xW i) i 0 j))))), (oT, .inr (8, [.ref aB, .ref aW, .ref aS, .ref aU, .ref aK, .int (nI fi), .int (nI ib), .int (nI sn)])), (aB, .inl (g.2.1, 20, .inl (fun j => nI (fB j)))), (aW, .inl (g.2.2.1, 20, .inr (.inl (fun j => lN (fW j)))))] H := hP
     have hD : va_D A [(oR, .inr (1, [.ref rW, .ref rC, .ref rO, .int (nI np), .int (nI nd), .int (nI qb)])), (rW, .inl (g.2.2.1, 729, .inr (.inl (fun j => lN (updN (fo zF xW i) i 0 j))))), (oT, .inr (8, [.ref aB, .ref aW, .ref aS, .ref aU, .ref aK, .int (nI fi), .int (nI ib), .int (nI sn)])), (aB, .inl (g.2.1, 20, .inl (fun j => nI (fB j)))), (aW, .inl (g.2.2.1, 20, .inr (.inl (fun j => lN (fW j)))))] := hD
     refine lv_iinc (v := nI (i + 1)) (lv' := [(3, .int (nI (i + 1))), (0, .ref oR), (1, .ref oT), (2, .int (nI xn))]) hx hb dX1_spread_14 hl (k := 3) rfl (iinc1 _) (by decide) rfl (fun ls hl => ?_)
     refine lv_goto (tgt := 2) hx hb dX1_spread_17 (by decide) ?_
     exact ih2 (i + 1) (by omega) (by first | assumption | exact Nat.zero_le _ | omega) _ _ hP hD hS ls (lv_sub hl [1, 2, 3, 0] rfl)
  exact hL2 _ 0 (Nat.lt_succ_self _) (by first | assumption | exact Nat.zero_le _ | omega) _ _ hP hD hS ls (lv_sub hl [1, 2, 3, 0] rfl)

set_option maxHeartbeats 4000000 in
set_option maxRecDepth 100000 in
/-- BoiledEggs$Breaking.breakNext  -/
theorem k_X1_breakNext (l : Launch) (g : GG) (sz : Nat) (oR : Nat) (rW : Nat) (rC : Nat) (rO : Nat) (np : Nat) (nd : Nat) (qb : Nat) (xW : Nat → Nat) (xC : Nat → Nat) (xO : Nat → Nat) (xs : Nat) (hn6 : np ≤ 6) (hs0 : xs < pw 3 np) (hbd : ∀ j, xs < j → j < pw 3 np → xC j < 2 ^ 60 ∧ xO j < 1000) : Met l yX1_breakNext wsX1_breakNext ({ frames := 1, cells := 0, slots := 0, locals := 21 }) (pM g sz [.ref oR, .int (nI xs)] [(oR, .inr (1, [.ref rW, .ref rC, .ref rO, .int (nI np), .int (nI nd), .int (nI qb)])), (rW, .inl (g.2.2.1, 729, .inr (.inl (fun j => lN (xW j))))), (rC, .inl (g.2.2.1, 729, .inr (.inl (fun j => lN (xC j))))), (rO, .inl (g.2.1, 729, .inl (fun j => nI (xO j))))]) (qMv g (fun (_ : Unit) => True) (fun (_ : Unit) => [(oR, .inr (1, [.ref rW, .ref rC, .ref rO, .int (nI np), .int (nI nd), .int (nI ((bnA np (xW, xC, xO, qb) xs).2.2.2))])), (rW, .inl (g.2.2.1, 729, .inr (.inl (fun j => lN (xW j))))), (rC, .inl (g.2.2.1, 729, .inr (.inl (fun j => lN ((bnA np (xW, xC, xO, qb) xs).2.1 j))))), (rO, .inl (g.2.1, 729, .inl (fun j => nI ((bnA np (xW, xC, xO, qb) xs).2.2.1 j))))]) (va_A [(oR, .inr (1, [.ref rW, .ref rC, .ref rO, .int (nI np), .int (nI nd), .int (nI qb)])), (rW, .inl (g.2.2.1, 729, .inr (.inl (fun j => lN (xW j))))), (rC, .inl (g.2.2.1, 729, .inr (.inl (fun j => lN (xC j))))), (rO, .inl (g.2.1, 729, .inl (fun j => nI (xO j))))] sz)) 0 0 (va_A [(oR, .inr (1, [.ref rW, .ref rC, .ref rO, .int (nI np), .int (nI nd), .int (nI qb)])), (rW, .inl (g.2.2.1, 729, .inr (.inl (fun j => lN (xW j))))), (rC, .inl (g.2.2.1, 729, .inr (.inl (fun j => lN (xC j))))), (rO, .inl (g.2.1, 729, .inl (fun j => nI (xO j))))] sz) := by
  refine metM (Qf := fun A => (qMv g (fun (_ : Unit) => True) (fun (_ : Unit) => [(oR, .inr (1, [.ref rW, .ref rC, .ref rO, .int (nI np), .int (nI nd), .int (nI ((bnA np (xW, xC, xO, qb) xs).2.2.2))])), (rW, .inl (g.2.2.1, 729, .inr (.inl (fun j => lN (xW j))))), (rC, .inl (g.2.2.1, 729, .inr (.inl (fun j => lN ((bnA np (xW, xC, xO, qb) xs).2.1 j))))), (rO, .inl (g.2.1, 729, .inl (fun j => nI ((bnA np (xW, xC, xO, qb) xs).2.2.1 j))))]) A)) (cc := cX1_breakNext) (maxL := 12) (ret := none) (by decide) rfl (Nat.le_of_ble_eq_true rfl) ?_
  intro p e s m below meth c hx hb hr hts hown hlocks hml hin0 hC A hA hP hD hS ls hl
  have hl : lv_has ls 12 [(0, .ref oR), (1, .int (nI xs))] := hl
  have hown : s.vm.findClass RX1 = some m.cls := hown
  have hts : ∀ w ∈ wsX1_breakNext, w.before ([.ref oR, .int (nI xs)] : List Value).toArray s = true := hts
  have h729 := (pw3 np (by omega)).2
  have k70 := hts (.constantLong RX1 70 (9223372036854775807)) (by decide +kernel)
  have k74 := hts (.constant RX1 74 (2147483647)) (by decide +kernel)
  have hinX1 := (by decide +kernel : ∀ w ∈ u_ws RX1 TX1 6, w ∈ wsX1_breakNext)
  have f32 := hts (.fieldLink RX1 32 "BoiledEggs$Breaking" "places" "I") (by decide +kernel)
  have f15 := hts (.fieldLink RX1 15 "BoiledEggs$Breaking" "costs" "[J") (by decide +kernel)
  have f11 := hts (.fieldLink RX1 11 "BoiledEggs$Breaking" "weights" "[J") (by decide +kernel)
  have f18 := hts (.fieldLink RX1 18 "BoiledEggs$Breaking" "worsts" "[I") (by decide +kernel)
  have ml75 := hts (.methodLink RX1 75 Lib.Math.max.name) (by decide +kernel)
  have ms75 := hts (.static Lib.Math.max.name) (by decide +kernel)
  have mi := hts (.initialized "java/lang/Math") (by decide +kernel)
  have mc75 := hts (.code Lib.Math.max.name Lib.Math.max.code 2 (some .int)) (by decide +kernel)
  have ml81 := hts (.methodLink RX1 81 Lib.Math.min.name) (by decide +kernel)
  have ms81 := hts (.static Lib.Math.min.name) (by decide +kernel)
  have mc81 := hts (.code Lib.Math.min.name Lib.Math.min.code 2 (some .int)) (by decide +kernel)
  have f43 := hts (.fieldLink RX1 43 "BoiledEggs$Breaking" "bestPlace" "I") (by decide +kernel)
  refine lv_ldc2 hx hb hown k70 dX1_breakNext_0 ?_
  refine top_l (y := lN 9223372036854775807) (by decide) ?_
  refine lv_lstore_n (lv' := [(2, .long (lN 9223372036854775807)), (0, .ref oR), (1, .int (nI xs))]) hx hb dX1_breakNext_3 rfl hl (by decide) rfl (fun ls hl => ?_)
  refine lv_ldc hx hb hown k74 dX1_breakNext_4 ?_
  refine lv_istore (lv' := [(4, .int (2147483647 : Int32)), (2, .long (lN 9223372036854775807)), (0, .ref oR), (1, .int (nI xs))]) hx hb dX1_breakNext_6 hl (by decide) rfl (fun ls hl => ?_)
  refine lv_iconst (v := nI 1) hx hb dX1_breakNext_8 (by decide) ?_
  refine lv_istore (lv' := [(5, .int (nI 1)), (4, .int (2147483647 : Int32)), (2, .long (lN 9223372036854775807)), (0, .ref oR), (1, .int (nI xs))]) hx hb dX1_breakNext_9 hl (by decide) rfl (fun ls hl => ?_)
  refine lv_iload_n hx hb dX1_breakNext_11 rfl (lv_at hl 4 rfl) ?_
  refine lv_istore (lv' := [(6, .int (nI xs)), (5, .int (nI 1)), (4, .int (2147483647 : Int32)), (2, .long (lN 9223372036854775807)), (0, .ref oR), (1, .int (nI xs))]) hx hb dX1_breakNext_12 hl (by decide) rfl (fun ls hl => ?_)
  refine lv_iconst (v := nI 0) hx hb dX1_breakNext_14 (by decide) ?_
  refine lv_istore (lv' := [(7, .int (nI 0)), (6, .int (nI xs)), (5, .int (nI 1)), (4, .int (2147483647 : Int32)), (2, .long (lN 9223372036854775807)), (0, .ref oR), (1, .int (nI xs))]) hx hb dX1_breakNext_15 hl (by decide) rfl (fun ls hl => ?_)
  have hL17 : ∀ (n_9 : Nat) (i : Nat), np - i < n_9 → (i ≤ np) → ∀ (H : Heap) (locs : List Loc), va_P g.1 vwCl [(oR, .inr (1, [.ref rW, .ref rC, .ref rO, .int (nI np), .int (nI nd), .int (nI ((fo (bnF xC xO xs) (bn0 qb) i).2.2))])), (rW, .inl (g.2.2.1, 729, .inr (.inl (fun j => lN (xW j))))), (rC, .inl (g.2.2.1, 729, .inr (.inl (fun j => lN (xC j))))), (rO, .inl (g.2.1, 729, .inl (fun j => nI (xO j))))] H → va_D A [(oR, .inr (1, [.ref rW, .ref rC, .ref rO, .int (nI np), .int (nI nd), .int (nI ((fo (bnF xC xO xs) (bn0 qb) i).2.2))])), (rW, .inl (g.2.2.1, 729, .inr (.inl (fun j => lN (xW j))))), (rC, .inl (g.2.2.1, 729, .inr (.inl (fun j => lN (xC j))))), (rO, .inl (g.2.1, 729, .inl (fun j => nI (xO j))))] → va_S A s.heap H locs → ∀ ls : Array Slot, lv_has ls 12 [(0, .ref oR), (1, .int (nI xs)), (2, .long (lN ((fo (bnF xC xO xs) (bn0 qb) i).1))), (4, .int (nI ((fo (bnF xC xO xs) (bn0 qb) i).2.1))), (5, .int (nI (pw 3 i))), (6, .int (nI (xs / pw 3 i))), (7, .int (nI i))] → W p l e ({ frames := 1, cells := 0, slots := 0, locals := 21 }) s m ([.ref oR, .int (nI xs)] : List Value).toArray below meth c H locs 0 0 (MQ below (qMv g (fun (_ : Unit) => True) (fun (_ : Unit) => [(oR, .inr (1, [.ref rW, .ref rC, .ref rO, .int (nI np), .int (nI nd), .int (nI ((bnA np (xW, xC, xO, qb) xs).2.2.2))])), (rW, .inl (g.2.2.1, 729, .inr (.inl (fun j => lN (xW j))))), (rC, .inl (g.2.2.1, 729, .inr (.inl (fun j => lN ((bnA np (xW, xC, xO, qb) xs).2.1 j))))), (rO, .inl (g.2.1, 729, .inl (fun j => nI ((bnA np (xW, xC, xO, qb) xs).2.2.1 j))))]) A) ([.ref oR, .int (nI xs)] : List Value).toArray s 0 0 A) (F0 m 17 ls []) := by
   intro n_9
   induction n_9 with
   | zero => intro i hn_9; exact absurd hn_9 (Nat.not_lt_zero _)
   | succ n_9 ih17 =>
    intro i hn_9 hi H locs hP hD hS ls hl
    refine lv_iload hx hb dX1_breakNext_17 (lv_at hl 6 rfl) ?_
    refine lv_aload_n hx hb dX1_breakNext_19 rfl (lv_at hl 0 rfl) ?_
    refine va_get (D := g.1) (ci := 1) (v := .int (nI np)) (C := RX1) (T := TX1) (N := 6) hx hb hts hinX1 hown hC.1 hP 0 rfl rfl 3 (by decide) f32 (fun _ h9 => h9) rfl dX1_breakNext_20 ?_
    refine lv_icmp_ge (tgt := 124) hx hb dX1_breakNext_23 (by decide) (fun c23 => ?_) (fun c23 => ?_)
    ·have c23 : np ≤ i := (nI_leI (a := np) (b := i) (by omega) (by omega)).mp c23
     refine lv_aload_n hx hb dX1_breakNext_124 rfl (lv_at hl 0 rfl) ?_
     refine va_get (D := g.1) (ci := 1) (v := .ref rC) (C := RX1) (T := TX1) (N := 6) hx hb hts hinX1 hown hC.1 hP 0 rfl rfl 1 (by decide) f15 (fun _ h9 => h9) rfl dX1_breakNext_125 ?_
     refine lv_iload_n hx hb dX1_breakNext_128 rfl (lv_at hl 1 rfl) ?_
     refine lv_aload_n hx hb dX1_breakNext_129 rfl (lv_at hl 0 rfl) ?_
     refine va_get (D := g.1) (ci := 1) (v := .ref rW) (C := RX1) (T := TX1) (N := 6) hx hb hts hinX1 hown hC.1 hP 0 rfl rfl 0 (by decide) f11 (fun _ h9 => h9) rfl dX1_breakNext_130 ?_
     refine lv_iload_n hx hb dX1_breakNext_133 rfl (lv_at hl 1 rfl) ?_
     refine ald_l (f := fun j => lN (xW j)) (j := xs) hx hb hC hP 1 rfl (by omega) (by decide) dX1_breakNext_134 ?_
     refine lv_lload_n hx hb dX1_breakNext_135 rfl (lv_at hl 2 rfl) ?_
     refine lv_ladd hx hb dX1_breakNext_136 ?_
     refine top_l (y := lN ((xW xs) + ((fo (bnF xC xO xs) (bn0 qb) i).1))) (lN_add _ _) ?_
     refine ast_ln (f := xC) (j := xs) (v := (xW xs) + ((fo (bnF xC xO xs) (bn0 qb) i).1)) hx hb hC hP hD hS 2 rfl (by omega) (by decide) dX1_breakNext_137 (fun H locs hP hD hS => ?_)
     have hP : va_P g.1 vwCl [(oR, .inr (1, [.ref rW, .ref rC, .ref rO, .int (nI np), .int (nI nd), .int (nI ((fo (bnF xC xO xs) (bn0 qb) i).2.2))])), (rW, .inl (g.2.2.1, 729, .inr (.inl (fun j => lN (xW j))))), (rC, .inl (g.2.2.1, 729, .inr (.inl (fun j => lN (updN xC xs ((xW xs) + ((fo (bnF xC xO xs) (bn0 qb) i).1)) j))))), (rO, .inl (g.2.1, 729, .inl (fun j => nI (xO j))))] H := hP
     have hD : va_D A [(oR, .inr (1, [.ref rW, .ref rC, .ref rO, .int (nI np), .int (nI nd), .int (nI ((fo (bnF xC xO xs) (bn0 qb) i).2.2))])), (rW, .inl (g.2.2.1, 729, .inr (.inl (fun j => lN (xW j))))), (rC, .inl (g.2.2.1, 729, .inr (.inl (fun j => lN (updN xC xs ((xW xs) + ((fo (bnF xC xO xs) (bn0 qb) i).1)) j))))), (rO, .inl (g.2.1, 729, .inl (fun j => nI (xO j))))] := hD
     refine lv_aload_n hx hb dX1_breakNext_138 rfl (lv_at hl 0 rfl) ?_
     refine va_get (D := g.1) (ci := 1) (v := .ref rO) (C := RX1) (T := TX1) (N := 6) hx hb hts hinX1 hown hC.1 hP 0 rfl rfl 2 (by decide) f18 (fun _ h9 => h9) rfl dX1_breakNext_139 ?_
     refine lv_iload_n hx hb dX1_breakNext_142 rfl (lv_at hl 1 rfl) ?_
     refine lv_iconst (v := nI 1) hx hb dX1_breakNext_143 (by decide) ?_
     refine lv_iload hx hb dX1_breakNext_144 (lv_at hl 3 rfl) ?_
     refine lv_iadd hx hb dX1_breakNext_146 ?_
     refine top_i (y := nI (1 + ((fo (bnF xC xO xs) (bn0 qb) i).2.1))) (nI_add _ _) ?_
     refine ast_in (f := xO) (j := xs) (v := 1 + ((fo (bnF xC xO xs) (bn0 qb) i).2.1)) hx hb hC hP hD hS 3 rfl (by omega) (by decide) dX1_breakNext_147 (fun H locs hP hD hS => ?_)
     have hP : va_P g.1 vwCl [(oR, .inr (1, [.ref rW, .ref rC, .ref rO, .int (nI np), .int (nI nd), .int (nI ((fo (bnF xC xO xs) (bn0 qb) i).2.2))])), (rW, .inl (g.2.2.1, 729, .inr (.inl (fun j => lN (xW j))))), (rC, .inl (g.2.2.1, 729, .inr (.inl (fun j => lN (updN xC xs ((xW xs) + ((fo (bnF xC xO xs) (bn0 qb) i).1)) j))))), (rO, .inl (g.2.1, 729, .inl (fun j => nI (updN xO xs (1 + ((fo (bnF xC xO xs) (bn0 qb) i).2.1)) j))))] H := hP
     have hD : va_D A [(oR, .inr (1, [.ref rW, .ref rC, .ref rO, .int (nI np), .int (nI nd), .int (nI ((fo (bnF xC xO xs) (bn0 qb) i).2.2))])), (rW, .inl (g.2.2.1, 729, .inr (.inl (fun j => lN (xW j))))), (rC, .inl (g.2.2.1, 729, .inr (.inl (fun j => lN (updN xC xs ((xW xs) + ((fo (bnF xC xO xs) (bn0 qb) i).1)) j))))), (rO, .inl (g.2.1, 729, .inl (fun j => nI (updN xO xs (1 + ((fo (bnF xC xO xs) (bn0 qb) i).2.1)) j))))] := hD
     exact retMv (w := [(oR, .inr (1, [.ref rW, .ref rC, .ref rO, .int (nI np), .int (nI nd), .int (nI ((fo (bnF xC xO xs) (bn0 qb) i).2.2))])), (rW, .inl (g.2.2.1, 729, .inr (.inl (fun j => lN (xW j))))), (rC, .inl (g.2.2.1, 729, .inr (.inl (fun j => lN (updN xC xs ((xW xs) + ((fo (bnF xC xO xs) (bn0 qb) i).1)) j))))), (rO, .inl (g.2.1, 729, .inl (fun j => nI (updN xO xs (1 + ((fo (bnF xC xO xs) (bn0 qb) i).2.1)) j))))]) hx hb hr hlocks (hP.sub [0, 1, 2, 3] rfl) (hD.sub [0, 1, 2, 3] (by decide) rfl) hS () (by rw [show i = np by omega] <;> rfl) (trivial) dX1_breakNext_148
    ·have c23 : ¬ np ≤ i := fun h9 => c23 ((nI_leI (a := np) (b := i) (by omega) (by omega)).mpr h9)
     have h3 := pw3 i (by omega)
     have hdv := Nat.div_le_self xs (pw 3 i)
     have hbl := bnF_le xC xO xs qb i
     have hJ106 : ∀ (H : Heap) (locs : List Loc), va_P g.1 vwCl [(oR, .inr (1, [.ref rW, .ref rC, .ref rO, .int (nI np), .int (nI nd), .int (nI ((fo (bnF xC xO xs) (bn0 qb) (i + 1)).2.2))])), (rW, .inl (g.2.2.1, 729, .inr (.inl (fun j => lN (xW j))))), (rC, .inl (g.2.2.1, 729, .inr (.inl (fun j => lN (xC j))))), (rO, .inl (g.2.1, 729, .inl (fun j => nI (xO j))))] H → va_D A [(oR, .inr (1, [.ref rW, .ref rC, .ref rO, .int (nI np), .int (nI nd), .int (nI ((fo (bnF xC xO xs) (bn0 qb) (i + 1)).2.2))])), (rW, .inl (g.2.2.1, 729, .inr (.inl (fun j => lN (xW j))))), (rC, .inl (g.2.2.1, 729, .inr (.inl (fun j => lN (xC j))))), (rO, .inl (g.2.1, 729, .inl (fun j => nI (xO j))))] → va_S A s.heap H locs → ∀ ls : Array Slot, lv_has ls 12 [(0, .ref oR), (1, .int (nI xs)), (2, .long (lN ((fo (bnF xC xO xs) (bn0 qb) (i + 1)).1))), (4, .int (nI ((fo (bnF xC xO xs) (bn0 qb) (i + 1)).2.1))), (5, .int (nI (pw 3 i))), (6, .int (nI (xs / pw 3 i))), (7, .int (nI i))] → W p l e ({ frames := 1, cells := 0, slots := 0, locals := 21 }) s m ([.ref oR, .int (nI xs)] : List Value).toArray below meth c H locs 0 0 (MQ below (qMv g (fun (_ : Unit) => True) (fun (_ : Unit) => [(oR, .inr (1, [.ref rW, .ref rC, .ref rO, .int (nI np), .int (nI nd), .int (nI ((bnA np (xW, xC, xO, qb) xs).2.2.2))])), (rW, .inl (g.2.2.1, 729, .inr (.inl (fun j => lN (xW j))))), (rC, .inl (g.2.2.1, 729, .inr (.inl (fun j => lN ((bnA np (xW, xC, xO, qb) xs).2.1 j))))), (rO, .inl (g.2.1, 729, .inl (fun j => nI ((bnA np (xW, xC, xO, qb) xs).2.2.1 j))))]) A) ([.ref oR, .int (nI xs)] : List Value).toArray s 0 0 A) (F0 m 106 ls []) := by
      intro  H locs hP hD hS ls hl
      refine lv_iload hx hb dX1_breakNext_106 (lv_at hl 5 rfl) ?_
      refine lv_iconst (v := nI 3) hx hb dX1_breakNext_108 (by decide) ?_
      refine lv_idiv hx hb dX1_breakNext_109 (by decide) ?_
      refine top_i (y := nI (xs / pw 3 (i + 1))) (by rw [← dig_s]; exact pk_div (by omega) (by decide) (by decide)) ?_
      refine lv_istore (lv' := [(6, .int (nI (xs / pw 3 (i + 1)))), (0, .ref oR), (1, .int (nI xs)), (2, .long (lN ((fo (bnF xC xO xs) (bn0 qb) (i + 1)).1))), (4, .int (nI ((fo (bnF xC xO xs) (bn0 qb) (i + 1)).2.1))), (5, .int (nI (pw 3 i))), (7, .int (nI i))]) hx hb dX1_breakNext_110 hl (by decide) rfl (fun ls hl => ?_)
      refine lv_iload hx hb dX1_breakNext_112 (lv_at hl 5 rfl) ?_
      refine lv_iconst (v := nI 3) hx hb dX1_breakNext_114 (by decide) ?_
      refine lv_imul hx hb dX1_breakNext_115 ?_
      refine top_i (y := nI ((pw 3 i) * 3)) (pk_mul _ _) ?_
      refine lv_istore (lv' := [(5, .int (nI ((pw 3 i) * 3))), (6, .int (nI (xs / pw 3 (i + 1)))), (0, .ref oR), (1, .int (nI xs)), (2, .long (lN ((fo (bnF xC xO xs) (bn0 qb) (i + 1)).1))), (4, .int (nI ((fo (bnF xC xO xs) (bn0 qb) (i + 1)).2.1))), (7, .int (nI i))]) hx hb dX1_breakNext_116 hl (by decide) rfl (fun ls hl => ?_)
      refine lv_iinc (v := nI (i + 1)) (lv' := [(7, .int (nI (i + 1))), (5, .int (nI ((pw 3 i) * 3))), (6, .int (nI (xs / pw 3 (i + 1)))), (0, .ref oR), (1, .int (nI xs)), (2, .long (lN ((fo (bnF xC xO xs) (bn0 qb) (i + 1)).1))), (4, .int (nI ((fo (bnF xC xO xs) (bn0 qb) (i + 1)).2.1)))]) hx hb dX1_breakNext_118 hl (k := 6) rfl (iinc1 _) (by decide) rfl (fun ls hl => ?_)
      refine lv_goto (tgt := 17) hx hb dX1_breakNext_121 (by decide) ?_
      exact ih17 (i + 1) (by omega) (by first | assumption | exact Nat.zero_le _ | omega) _ _ hP hD hS ls (lv_sub hl [3, 4, 5, 6, 1, 2, 0] rfl)
     refine lv_iload hx hb dX1_breakNext_26 (lv_at hl 5 rfl) ?_
     refine lv_iconst (v := nI 3) hx hb dX1_breakNext_28 (by decide) ?_
     refine lv_irem hx hb dX1_breakNext_29 (by decide) ?_
     refine top_i (y := nI (dig xs i)) (pk_rem (by omega) (by decide) (by decide)) ?_
     refine lv_if_ne (tgt := 106) hx hb dX1_breakNext_30 (by decide) (fun c30 => ?_) (fun c30 => ?_)
     ·have c30 : ¬ (dig xs i) = 0 := fun h9 => c30 ((nI_eq (a := dig xs i) (b := 0) (by have := dig_lt xs i; omega) (by have := dig_lt xs i; omega)).mpr h9)
      have hl : lv_has ls 12 [(0, .ref oR), (1, .int (nI xs)), (2, .long (lN ((fo (bnF xC xO xs) (bn0 qb) (i + 1)).1))), (4, .int (nI ((fo (bnF xC xO xs) (bn0 qb) i).2.1))), (5, .int (nI (pw 3 i))), (6, .int (nI (xs / pw 3 i))), (7, .int (nI i))] := lv_val hl 2 rfl (congrArg Value.long (show lN ((fo (bnF xC xO xs) (bn0 qb) i).1) = lN ((fo (bnF xC xO xs) (bn0 qb) (i + 1)).1) from by rw [fo_s, bnF_0 c30] <;> rfl))
      have hl : lv_has ls 12 [(0, .ref oR), (1, .int (nI xs)), (2, .long (lN ((fo (bnF xC xO xs) (bn0 qb) (i + 1)).1))), (4, .int (nI ((fo (bnF xC xO xs) (bn0 qb) (i + 1)).2.1))), (5, .int (nI (pw 3 i))), (6, .int (nI (xs / pw 3 i))), (7, .int (nI i))] := lv_val hl 3 rfl (congrArg Value.int (show nI ((fo (bnF xC xO xs) (bn0 qb) i).2.1) = nI ((fo (bnF xC xO xs) (bn0 qb) (i + 1)).2.1) from by rw [fo_s, bnF_0 c30] <;> rfl))
      exact hJ106   _ _ (by rw [fo_s, bnF_0 c30]; exact hP) (by rw [fo_s, bnF_0 c30]; exact hD) hS ls (lv_sub hl [0, 1, 2, 3, 4, 5, 6] rfl)
     ·have c30 : (dig xs i) = 0 := (nI_eq (a := dig xs i) (b := 0) (by have := dig_lt xs i; omega) (by have := dig_lt xs i; omega)).mp c30
      have hd2 := dig_two3 np (by omega) xs hs0 i (by omega) c30
      have a1 := hbd (xs + 1 * pw 3 i) (by omega) (by omega)
      have a2 := hbd (xs + 2 * pw 3 i) (by omega) (by omega)
      have hol := bnO_lt (O := xO) (s := xs) (i := i) a1.2 a2.2
      have hcl : bnC xC xs i < 2 ^ 61 := by show _ + _ < _; omega
      refine lv_iload_n hx hb dX1_breakNext_33 rfl (lv_at hl 1 rfl) ?_
      refine lv_iconst (v := nI 1) hx hb dX1_breakNext_34 (by decide) ?_
      refine lv_iload hx hb dX1_breakNext_35 (lv_at hl 4 rfl) ?_
      refine lv_imul hx hb dX1_breakNext_37 ?_
      refine top_i (y := nI (1 * (pw 3 i))) (pk_mul _ _) ?_
      refine lv_iadd hx hb dX1_breakNext_38 ?_
      refine top_i (y := nI (xs + (1 * (pw 3 i)))) (nI_add _ _) ?_
      refine lv_istore (lv' := [(8, .int (nI (xs + (1 * (pw 3 i))))), (0, .ref oR), (1, .int (nI xs)), (2, .long (lN ((fo (bnF xC xO xs) (bn0 qb) i).1))), (4, .int (nI ((fo (bnF xC xO xs) (bn0 qb) i).2.1))), (5, .int (nI (pw 3 i))), (6, .int (nI (xs / pw 3 i))), (7, .int (nI i))]) hx hb dX1_breakNext_39 hl (by decide) rfl (fun ls hl => ?_)
      refine lv_iload_n hx hb dX1_breakNext_41 rfl (lv_at hl 2 rfl) ?_
      refine lv_iconst (v := nI 2) hx hb dX1_breakNext_42 (by decide) ?_
      refine lv_iload hx hb dX1_breakNext_43 (lv_at hl 5 rfl) ?_
      refine lv_imul hx hb dX1_breakNext_45 ?_
      refine top_i (y := nI (2 * (pw 3 i))) (pk_mul _ _) ?_
      refine lv_iadd hx hb dX1_breakNext_46 ?_
      refine top_i (y := nI (xs + (2 * (pw 3 i)))) (nI_add _ _) ?_
      refine lv_istore (lv' := [(9, .int (nI (xs + (2 * (pw 3 i))))), (8, .int (nI (xs + (1 * (pw 3 i))))), (0, .ref oR), (1, .int (nI xs)), (2, .long (lN ((fo (bnF xC xO xs) (bn0 qb) i).1))), (4, .int (nI ((fo (bnF xC xO xs) (bn0 qb) i).2.1))), (5, .int (nI (pw 3 i))), (6, .int (nI (xs / pw 3 i))), (7, .int (nI i))]) hx hb dX1_breakNext_47 hl (by decide) rfl (fun ls hl => ?_)
      refine lv_aload_n hx hb dX1_breakNext_49 rfl (lv_at hl 2 rfl) ?_
      refine va_get (D := g.1) (ci := 1) (v := .ref rC) (C := RX1) (T := TX1) (N := 6) hx hb hts hinX1 hown hC.1 hP 0 rfl rfl 1 (by decide) f15 (fun _ h9 => h9) rfl dX1_breakNext_50 ?_
      refine lv_iload hx hb dX1_breakNext_53 (lv_at hl 1 rfl) ?_
      refine ald_l (f := fun j => lN (xC j)) (j := xs + (1 * (pw 3 i))) hx hb hC hP 2 rfl (by omega) (by decide) dX1_breakNext_55 ?_
      refine lv_aload_n hx hb dX1_breakNext_56 rfl (lv_at hl 2 rfl) ?_
      refine va_get (D := g.1) (ci := 1) (v := .ref rC) (C := RX1) (T := TX1) (N := 6) hx hb hts hinX1 hown hC.1 hP 0 rfl rfl 1 (by decide) f15 (fun _ h9 => h9) rfl dX1_breakNext_57 ?_
      refine lv_iload hx hb dX1_breakNext_60 (lv_at hl 0 rfl) ?_
      refine ald_l (f := fun j => lN (xC j)) (j := xs + (2 * (pw 3 i))) hx hb hC hP 2 rfl (by omega) (by decide) dX1_breakNext_62 ?_
      refine lv_ladd hx hb dX1_breakNext_63 ?_
      refine top_l (y := lN (bnC xC xs i)) (lN_add _ _) ?_
      refine lv_lstore (lv' := [(10, .long (lN (bnC xC xs i))), (9, .int (nI (xs + (2 * (pw 3 i))))), (8, .int (nI (xs + (1 * (pw 3 i))))), (0, .ref oR), (1, .int (nI xs)), (2, .long (lN ((fo (bnF xC xO xs) (bn0 qb) i).1))), (4, .int (nI ((fo (bnF xC xO xs) (bn0 qb) i).2.1))), (5, .int (nI (pw 3 i))), (6, .int (nI (xs / pw 3 i))), (7, .int (nI i))]) hx hb dX1_breakNext_64 hl (by decide) rfl (fun ls hl => ?_)
      have hJ82 : ∀ (H : Heap) (locs : List Loc), va_P g.1 vwCl [(oR, .inr (1, [.ref rW, .ref rC, .ref rO, .int (nI np), .int (nI nd), .int (nI (if bnC xC xs i < (fo (bnF xC xO xs) (bn0 qb) i).1 then i else (fo (bnF xC xO xs) (bn0 qb) i).2.2))])), (rW, .inl (g.2.2.1, 729, .inr (.inl (fun j => lN (xW j))))), (rC, .inl (g.2.2.1, 729, .inr (.inl (fun j => lN (xC j))))), (rO, .inl (g.2.1, 729, .inl (fun j => nI (xO j))))] H → va_D A [(oR, .inr (1, [.ref rW, .ref rC, .ref rO, .int (nI np), .int (nI nd), .int (nI (if bnC xC xs i < (fo (bnF xC xO xs) (bn0 qb) i).1 then i else (fo (bnF xC xO xs) (bn0 qb) i).2.2))])), (rW, .inl (g.2.2.1, 729, .inr (.inl (fun j => lN (xW j))))), (rC, .inl (g.2.2.1, 729, .inr (.inl (fun j => lN (xC j))))), (rO, .inl (g.2.1, 729, .inl (fun j => nI (xO j))))] → va_S A s.heap H locs → ∀ ls : Array Slot, lv_has ls 12 [(0, .ref oR), (1, .int (nI xs)), (2, .long (lN (if bnC xC xs i < (fo (bnF xC xO xs) (bn0 qb) i).1 then bnC xC xs i else (fo (bnF xC xO xs) (bn0 qb) i).1))), (4, .int (nI ((fo (bnF xC xO xs) (bn0 qb) i).2.1))), (5, .int (nI (pw 3 i))), (6, .int (nI (xs / pw 3 i))), (7, .int (nI i)), (8, .int (nI (xs + (1 * (pw 3 i))))), (9, .int (nI (xs + (2 * (pw 3 i))))), (10, .long (lN (bnC xC xs i)))] → W p l e ({ frames := 1, cells := 0, slots := 0, locals := 21 }) s m ([.ref oR, .int (nI xs)] : List Value).toArray below meth c H locs 0 0 (MQ below (qMv g (fun (_ : Unit) => True) (fun (_ : Unit) => [(oR, .inr (1, [.ref rW, .ref rC, .ref rO, .int (nI np), .int (nI nd), .int (nI ((bnA np (xW, xC, xO, qb) xs).2.2.2))])), (rW, .inl (g.2.2.1, 729, .inr (.inl (fun j => lN (xW j))))), (rC, .inl (g.2.2.1, 729, .inr (.inl (fun j => lN ((bnA np (xW, xC, xO, qb) xs).2.1 j))))), (rO, .inl (g.2.1, 729, .inl (fun j => nI ((bnA np (xW, xC, xO, qb) xs).2.2.1 j))))]) A) ([.ref oR, .int (nI xs)] : List Value).toArray s 0 0 A) (F0 m 82 ls []) := by
       intro  H locs hP hD hS ls hl
       refine lv_iload hx hb dX1_breakNext_82 (lv_at hl 3 rfl) ?_
       refine lv_aload_n hx hb dX1_breakNext_84 rfl (lv_at hl 0 rfl) ?_
       refine va_get (D := g.1) (ci := 1) (v := .ref rO) (C := RX1) (T := TX1) (N := 6) hx hb hts hinX1 hown hC.1 hP 0 rfl rfl 2 (by decide) f18 (fun _ h9 => h9) rfl dX1_breakNext_85 ?_
       refine lv_iload hx hb dX1_breakNext_88 (lv_at hl 7 rfl) ?_
       refine ald_i (f := fun j => nI (xO j)) (j := xs + (1 * (pw 3 i))) hx hb hC hP 3 rfl (by omega) (by decide) dX1_breakNext_90 ?_
       refine lv_aload_n hx hb dX1_breakNext_91 rfl (lv_at hl 0 rfl) ?_
       refine va_get (D := g.1) (ci := 1) (v := .ref rO) (C := RX1) (T := TX1) (N := 6) hx hb hts hinX1 hown hC.1 hP 0 rfl rfl 2 (by decide) f18 (fun _ h9 => h9) rfl dX1_breakNext_92 ?_
       refine lv_iload hx hb dX1_breakNext_95 (lv_at hl 8 rfl) ?_
       refine ald_i (f := fun j => nI (xO j)) (j := xs + (2 * (pw 3 i))) hx hb hC hP 3 rfl (by omega) (by decide) dX1_breakNext_97 ?_
       refine va_mmax hx hb (by rw [hml]; exact hl.1.symm) hown ml75 ms75 mi mc75 (Nat.le_of_ble_eq_true rfl) (Nat.le_of_ble_eq_true rfl) (Nat.zero_le _) (Nat.zero_le _) dX1_breakNext_98 ?_
       refine top_i (y := nI (bnO xO xs i)) (mx_nI (by omega) (by omega)) ?_
       refine va_mmin hx hb (by rw [hml]; exact hl.1.symm) hown ml81 ms81 mi mc81 (Nat.le_of_ble_eq_true rfl) (Nat.le_of_ble_eq_true rfl) (Nat.zero_le _) (Nat.zero_le _) dX1_breakNext_101 ?_
       refine top_i (y := nI (if bnO xO xs i < (fo (bnF xC xO xs) (bn0 qb) i).2.1 then bnO xO xs i else (fo (bnF xC xO xs) (bn0 qb) i).2.1)) (mn_nI (by omega) (by omega)) ?_
       refine lv_istore (lv' := [(4, .int (nI (if bnO xO xs i < (fo (bnF xC xO xs) (bn0 qb) i).2.1 then bnO xO xs i else (fo (bnF xC xO xs) (bn0 qb) i).2.1))), (0, .ref oR), (1, .int (nI xs)), (2, .long (lN (if bnC xC xs i < (fo (bnF xC xO xs) (bn0 qb) i).1 then bnC xC xs i else (fo (bnF xC xO xs) (bn0 qb) i).1))), (5, .int (nI (pw 3 i))), (6, .int (nI (xs / pw 3 i))), (7, .int (nI i)), (8, .int (nI (xs + (1 * (pw 3 i))))), (9, .int (nI (xs + (2 * (pw 3 i))))), (10, .long (lN (bnC xC xs i)))]) hx hb dX1_breakNext_104 hl (by decide) rfl (fun ls hl => ?_)
       have hl : lv_has ls 12 [(4, .int (nI (if bnO xO xs i < (fo (bnF xC xO xs) (bn0 qb) i).2.1 then bnO xO xs i else (fo (bnF xC xO xs) (bn0 qb) i).2.1))), (0, .ref oR), (1, .int (nI xs)), (2, .long (lN ((fo (bnF xC xO xs) (bn0 qb) (i + 1)).1))), (5, .int (nI (pw 3 i))), (6, .int (nI (xs / pw 3 i))), (7, .int (nI i)), (8, .int (nI (xs + (1 * (pw 3 i))))), (9, .int (nI (xs + (2 * (pw 3 i))))), (10, .long (lN (bnC xC xs i)))] := lv_val hl 3 rfl (congrArg Value.long (show lN (if bnC xC xs i < (fo (bnF xC xO xs) (bn0 qb) i).1 then bnC xC xs i else (fo (bnF xC xO xs) (bn0 qb) i).1) = lN ((fo (bnF xC xO xs) (bn0 qb) (i + 1)).1) from by rw [fo_s, bnF_1 c30] <;> rfl))
       have hl : lv_has ls 12 [(4, .int (nI ((fo (bnF xC xO xs) (bn0 qb) (i + 1)).2.1))), (0, .ref oR), (1, .int (nI xs)), (2, .long (lN ((fo (bnF xC xO xs) (bn0 qb) (i + 1)).1))), (5, .int (nI (pw 3 i))), (6, .int (nI (xs / pw 3 i))), (7, .int (nI i)), (8, .int (nI (xs + (1 * (pw 3 i))))), (9, .int (nI (xs + (2 * (pw 3 i))))), (10, .long (lN (bnC xC xs i)))] := lv_val hl 0 rfl (congrArg Value.int (show nI (if bnO xO xs i < (fo (bnF xC xO xs) (bn0 qb) i).2.1 then bnO xO xs i else (fo (bnF xC xO xs) (bn0 qb) i).2.1) = nI ((fo (bnF xC xO xs) (bn0 qb) (i + 1)).2.1) from by rw [fo_s, bnF_1 c30] <;> rfl))
       exact hJ106   _ _ (by rw [fo_s, bnF_1 c30]; exact hP) (by rw [fo_s, bnF_1 c30]; exact hD) hS ls (lv_sub hl [1, 2, 3, 0, 4, 5, 6] rfl)
      refine lv_lload hx hb dX1_breakNext_66 (lv_at hl 0 rfl) ?_
      refine lv_lload_n hx hb dX1_breakNext_68 rfl (lv_at hl 5 rfl) ?_
      refine lc_ge (tgt := 82) hx hb dX1_breakNext_69 dX1_breakNext_70 (by decide) (fun c69 => ?_) (fun c69 => ?_)
      ·have c69 : ((fo (bnF xC xO xs) (bn0 qb) i).1) ≤ (bnC xC xs i) := (pk_lLE (a := (fo (bnF xC xO xs) (bn0 qb) i).1) (b := bnC xC xs i) (by omega) (by omega)).mp c69
       have hl : lv_has ls 12 [(10, .long (lN (bnC xC xs i))), (9, .int (nI (xs + (2 * (pw 3 i))))), (8, .int (nI (xs + (1 * (pw 3 i))))), (0, .ref oR), (1, .int (nI xs)), (2, .long (lN (if bnC xC xs i < (fo (bnF xC xO xs) (bn0 qb) i).1 then bnC xC xs i else (fo (bnF xC xO xs) (bn0 qb) i).1))), (4, .int (nI ((fo (bnF xC xO xs) (bn0 qb) i).2.1))), (5, .int (nI (pw 3 i))), (6, .int (nI (xs / pw 3 i))), (7, .int (nI i))] := lv_val hl 5 rfl (congrArg Value.long (show lN ((fo (bnF xC xO xs) (bn0 qb) i).1) = lN (if bnC xC xs i < (fo (bnF xC xO xs) (bn0 qb) i).1 then bnC xC xs i else (fo (bnF xC xO xs) (bn0 qb) i).1) from by first | rw [if_pos (by omega)] | rw [if_neg (by omega)]))
       exact hJ82   _ _ (by first | rw [if_pos (show bnC xC xs i < (fo (bnF xC xO xs) (bn0 qb) i).1 by omega)]; exact hP | rw [if_neg (show ¬ bnC xC xs i < (fo (bnF xC xO xs) (bn0 qb) i).1 by omega)]; exact hP) (by first | rw [if_pos (show bnC xC xs i < (fo (bnF xC xO xs) (bn0 qb) i).1 by omega)]; exact hD | rw [if_neg (show ¬ bnC xC xs i < (fo (bnF xC xO xs) (bn0 qb) i).1 by omega)]; exact hD) hS ls (lv_sub hl [3, 4, 5, 6, 7, 8, 9, 2, 1, 0] rfl)
      ·have c69 : ¬ ((fo (bnF xC xO xs) (bn0 qb) i).1) ≤ (bnC xC xs i) := fun h9 => c69 ((pk_lLE (a := (fo (bnF xC xO xs) (bn0 qb) i).1) (b := bnC xC xs i) (by omega) (by omega)).mpr h9)
       refine lv_lload hx hb dX1_breakNext_73 (lv_at hl 0 rfl) ?_
       refine lv_lstore_n (lv' := [(2, .long (lN (bnC xC xs i))), (10, .long (lN (bnC xC xs i))), (9, .int (nI (xs + (2 * (pw 3 i))))), (8, .int (nI (xs + (1 * (pw 3 i))))), (0, .ref oR), (1, .int (nI xs)), (4, .int (nI ((fo (bnF xC xO xs) (bn0 qb) i).2.1))), (5, .int (nI (pw 3 i))), (6, .int (nI (xs / pw 3 i))), (7, .int (nI i))]) hx hb dX1_breakNext_75 rfl hl (by decide) rfl (fun ls hl => ?_)
       refine lv_aload_n hx hb dX1_breakNext_76 rfl (lv_at hl 4 rfl) ?_
       refine lv_iload hx hb dX1_breakNext_77 (lv_at hl 9 rfl) ?_
       refine va_put (D := g.1) (ci := 1) (v := .int (nI i)) (ty := .int) (C := RX1) (T := TX1) (N := 6) hx hb hts hinX1 tyX1 tyX1_ok nmX1 hown hC.1 hP hD hS 0 rfl rfl 5 (by decide) f43 (fun _ h9 => h9) rfl (by decide +kernel) rfl rfl (Nat.le_of_ble_eq_true rfl) dX1_breakNext_79 (fun H locs hP hD hS => ?_)
       have hP : va_P g.1 vwCl [(oR, .inr (1, [.ref rW, .ref rC, .ref rO, .int (nI np), .int (nI nd), .int (nI i)])), (rW, .inl (g.2.2.1, 729, .inr (.inl (fun j => lN (xW j))))), (rC, .inl (g.2.2.1, 729, .inr (.inl (fun j => lN (xC j))))), (rO, .inl (g.2.1, 729, .inl (fun j => nI (xO j))))] H := hP
       have hD : va_D A [(oR, .inr (1, [.ref rW, .ref rC, .ref rO, .int (nI np), .int (nI nd), .int (nI i)])), (rW, .inl (g.2.2.1, 729, .inr (.inl (fun j => lN (xW j))))), (rC, .inl (g.2.2.1, 729, .inr (.inl (fun j => lN (xC j))))), (rO, .inl (g.2.1, 729, .inl (fun j => nI (xO j))))] := hD
       have hl : lv_has ls 12 [(2, .long (lN (if bnC xC xs i < (fo (bnF xC xO xs) (bn0 qb) i).1 then bnC xC xs i else (fo (bnF xC xO xs) (bn0 qb) i).1))), (10, .long (lN (bnC xC xs i))), (9, .int (nI (xs + (2 * (pw 3 i))))), (8, .int (nI (xs + (1 * (pw 3 i))))), (0, .ref oR), (1, .int (nI xs)), (4, .int (nI ((fo (bnF xC xO xs) (bn0 qb) i).2.1))), (5, .int (nI (pw 3 i))), (6, .int (nI (xs / pw 3 i))), (7, .int (nI i))] := lv_val hl 0 rfl (congrArg Value.long (show lN (bnC xC xs i) = lN (if bnC xC xs i < (fo (bnF xC xO xs) (bn0 qb) i).1 then bnC xC xs i else (fo (bnF xC xO xs) (bn0 qb) i).1) from by first | rw [if_pos (by omega)] | rw [if_neg (by omega)]))
       exact hJ82   _ _ (by first | rw [if_pos (show bnC xC xs i < (fo (bnF xC xO xs) (bn0 qb) i).1 by omega)]; exact hP | rw [if_neg (show ¬ bnC xC xs i < (fo (bnF xC xO xs) (bn0 qb) i).1 by omega)]; exact hP) (by first | rw [if_pos (show bnC xC xs i < (fo (bnF xC xO xs) (bn0 qb) i).1 by omega)]; exact hD | rw [if_neg (show ¬ bnC xC xs i < (fo (bnF xC xO xs) (bn0 qb) i).1 by omega)]; exact hD) hS ls (lv_sub hl [4, 5, 0, 6, 7, 8, 9, 3, 2, 1] rfl)
  have hl : lv_has ls 12 [(7, .int (nI 0)), (6, .int (nI (xs / pw 3 0))), (5, .int (nI (pw 3 0))), (4, .int (nI ((fo (bnF xC xO xs) (bn0 qb) 0).2.1))), (2, .long (lN ((fo (bnF xC xO xs) (bn0 qb) 0).1))), (0, .ref oR), (1, .int (nI xs))] := by rw [show xs / pw 3 0 = xs from Nat.div_one xs]; exact hl
  exact hL17 _ 0 (Nat.lt_succ_self _) (by first | assumption | exact Nat.zero_le _ | omega) _ _ hP hD hS ls (lv_sub hl [5, 6, 4, 3, 2, 1, 0] rfl)

set_option maxHeartbeats 4000000 in
set_option maxRecDepth 100000 in
/-- BoiledEggs$Breaking.solveState  -/
theorem k_X1_solveState (l : Launch) (g : GG) (sz : Nat) (oR : Nat) (rW : Nat) (rC : Nat) (rO : Nat) (np : Nat) (nd : Nat) (qb : Nat) (xW : Nat → Nat) (xC : Nat → Nat) (xO : Nat → Nat) (xs : Nat) (hn6 : np ≤ 6) (hs0 : xs < pw 3 np) (hbd : ∀ j, xs < j → j < pw 3 np → xC j < 2 ^ 60 ∧ xO j < 1000) (hw0 : ∀ j, j < pw 3 np → xW j < 2 ^ 60) (hnd : nd ≤ 6) : Met l yX1_solveState wsX1_solveState ({ frames := 2, cells := 0, slots := 0, locals := 52 }) (pM g sz [.ref oR, .int (nI xs)] [(oR, .inr (1, [.ref rW, .ref rC, .ref rO, .int (nI np), .int (nI nd), .int (nI qb)])), (rW, .inl (g.2.2.1, 729, .inr (.inl (fun j => lN (xW j))))), (rC, .inl (g.2.2.1, 729, .inr (.inl (fun j => lN (xC j))))), (rO, .inl (g.2.1, 729, .inl (fun j => nI (xO j))))]) (qMv g (fun (_ : Unit) => True) (fun (_ : Unit) => [(oR, .inr (1, [.ref rW, .ref rC, .ref rO, .int (nI np), .int (nI nd), .int (nI ((brS np nd (xW, xC, xO, qb) xs).2.2.2))])), (rW, .inl (g.2.2.1, 729, .inr (.inl (fun j => lN ((brS np nd (xW, xC, xO, qb) xs).1 j))))), (rC, .inl (g.2.2.1, 729, .inr (.inl (fun j => lN ((brS np nd (xW, xC, xO, qb) xs).2.1 j))))), (rO, .inl (g.2.1, 729, .inl (fun j => nI ((brS np nd (xW, xC, xO, qb) xs).2.2.1 j))))]) (va_A [(oR, .inr (1, [.ref rW, .ref rC, .ref rO, .int (nI np), .int (nI nd), .int (nI qb)])), (rW, .inl (g.2.2.1, 729, .inr (.inl (fun j => lN (xW j))))), (rC, .inl (g.2.2.1, 729, .inr (.inl (fun j => lN (xC j))))), (rO, .inl (g.2.1, 729, .inl (fun j => nI (xO j))))] sz)) 0 0 (va_A [(oR, .inr (1, [.ref rW, .ref rC, .ref rO, .int (nI np), .int (nI nd), .int (nI qb)])), (rW, .inl (g.2.2.1, 729, .inr (.inl (fun j => lN (xW j))))), (rC, .inl (g.2.2.1, 729, .inr (.inl (fun j => lN (xC j))))), (rO, .inl (g.2.1, 729, .inl (fun j => nI (xO j))))] sz) := by
  refine metM (Qf := fun A => (qMv g (fun (_ : Unit) => True) (fun (_ : Unit) => [(oR, .inr (1, [.ref rW, .ref rC, .ref rO, .int (nI np), .int (nI nd), .int (nI ((brS np nd (xW, xC, xO, qb) xs).2.2.2))])), (rW, .inl (g.2.2.1, 729, .inr (.inl (fun j => lN ((brS np nd (xW, xC, xO, qb) xs).1 j))))), (rC, .inl (g.2.2.1, 729, .inr (.inl (fun j => lN ((brS np nd (xW, xC, xO, qb) xs).2.1 j))))), (rO, .inl (g.2.1, 729, .inl (fun j => nI ((brS np nd (xW, xC, xO, qb) xs).2.2.1 j))))]) A)) (cc := cX1_solveState) (maxL := 8) (ret := none) (by decide) rfl (Nat.le_of_ble_eq_true rfl) ?_
  intro p e s m below meth c hx hb hr hts hown hlocks hml hin0 hC A hA hP hD hS ls hl
  have hl : lv_has ls 8 [(0, .ref oR), (1, .int (nI xs))] := hl
  have hown : s.vm.findClass RX1 = some m.cls := hown
  have hts : ∀ w ∈ wsX1_solveState, w.before ([.ref oR, .int (nI xs)] : List Value).toArray s = true := hts
  have h729 := (pw3 np (by omega)).2
  have hinX1 := (by decide +kernel : ∀ w ∈ u_ws RX1 TX1 6, w ∈ wsX1_solveState)
  have f32 := hts (.fieldLink RX1 32 "BoiledEggs$Breaking" "places" "I") (by decide +kernel)
  have f15 := hts (.fieldLink RX1 15 "BoiledEggs$Breaking" "costs" "[J") (by decide +kernel)
  have f18 := hts (.fieldLink RX1 18 "BoiledEggs$Breaking" "worsts" "[I") (by decide +kernel)
  have f11 := hts (.fieldLink RX1 11 "BoiledEggs$Breaking" "weights" "[J") (by decide +kernel)
  have f22 := hts (.fieldLink RX1 22 "BoiledEggs$Breaking" "needed" "I") (by decide +kernel)
  refine lv_iconst (v := nI 0) hx hb dX1_solveState_0 (by decide) ?_
  refine lv_istore_n (lv' := [(2, .int (nI 0)), (0, .ref oR), (1, .int (nI xs))]) hx hb dX1_solveState_1 rfl hl (by decide) rfl (fun ls hl => ?_)
  refine lv_iconst (v := nI 0) hx hb dX1_solveState_2 (by decide) ?_
  refine lv_istore_n (lv' := [(3, .int (nI 0)), (2, .int (nI 0)), (0, .ref oR), (1, .int (nI xs))]) hx hb dX1_solveState_3 rfl hl (by decide) rfl (fun ls hl => ?_)
  refine lv_iconst (v := nI 1) hx hb dX1_solveState_4 (by decide) ?_
  refine lv_istore (lv' := [(4, .int (nI 1)), (3, .int (nI 0)), (2, .int (nI 0)), (0, .ref oR), (1, .int (nI xs))]) hx hb dX1_solveState_5 hl (by decide) rfl (fun ls hl => ?_)
  refine lv_iload_n hx hb dX1_solveState_7 rfl (lv_at hl 4 rfl) ?_
  refine lv_istore (lv' := [(5, .int (nI xs)), (4, .int (nI 1)), (3, .int (nI 0)), (2, .int (nI 0)), (0, .ref oR), (1, .int (nI xs))]) hx hb dX1_solveState_8 hl (by decide) rfl (fun ls hl => ?_)
  refine lv_iconst (v := nI 0) hx hb dX1_solveState_10 (by decide) ?_
  refine lv_istore (lv' := [(6, .int (nI 0)), (5, .int (nI xs)), (4, .int (nI 1)), (3, .int (nI 0)), (2, .int (nI 0)), (0, .ref oR), (1, .int (nI xs))]) hx hb dX1_solveState_11 hl (by decide) rfl (fun ls hl => ?_)
  have hL13 : ∀ (n_9 : Nat) (i : Nat), np - i < n_9 → (i ≤ np) → ∀ (H : Heap) (locs : List Loc), va_P g.1 vwCl [(oR, .inr (1, [.ref rW, .ref rC, .ref rO, .int (nI np), .int (nI nd), .int (nI qb)])), (rW, .inl (g.2.2.1, 729, .inr (.inl (fun j => lN (xW j))))), (rC, .inl (g.2.2.1, 729, .inr (.inl (fun j => lN (xC j))))), (rO, .inl (g.2.1, 729, .inl (fun j => nI (xO j))))] H → va_D A [(oR, .inr (1, [.ref rW, .ref rC, .ref rO, .int (nI np), .int (nI nd), .int (nI qb)])), (rW, .inl (g.2.2.1, 729, .inr (.inl (fun j => lN (xW j))))), (rC, .inl (g.2.2.1, 729, .inr (.inl (fun j => lN (xC j))))), (rO, .inl (g.2.1, 729, .inl (fun j => nI (xO j))))] → va_S A s.heap H locs → ∀ ls : Array Slot, lv_has ls 8 [(0, .ref oR), (1, .int (nI xs)), (2, .int (nI (fo (hadF xs) 0 i))), (3, .int (nI (fo (whF xs) 0 i))), (4, .int (nI (pw 3 i))), (5, .int (nI (xs / pw 3 i))), (6, .int (nI i))] → W p l e ({ frames := 2, cells := 0, slots := 0, locals := 52 }) s m ([.ref oR, .int (nI xs)] : List Value).toArray below meth c H locs 0 0 (MQ below (qMv g (fun (_ : Unit) => True) (fun (_ : Unit) => [(oR, .inr (1, [.ref rW, .ref rC, .ref rO, .int (nI np), .int (nI nd), .int (nI ((brS np nd (xW, xC, xO, qb) xs).2.2.2))])), (rW, .inl (g.2.2.1, 729, .inr (.inl (fun j => lN ((brS np nd (xW, xC, xO, qb) xs).1 j))))), (rC, .inl (g.2.2.1, 729, .inr (.inl (fun j => lN ((brS np nd (xW, xC, xO, qb) xs).2.1 j))))), (rO, .inl (g.2.1, 729, .inl (fun j => nI ((brS np nd (xW, xC, xO, qb) xs).2.2.1 j))))]) A) ([.ref oR, .int (nI xs)] : List Value).toArray s 0 0 A) (F0 m 13 ls []) := by
   intro n_9
   induction n_9 with
   | zero => intro i hn_9; exact absurd hn_9 (Nat.not_lt_zero _)
   | succ n_9 ih13 =>
    intro i hn_9 hi H locs hP hD hS ls hl
    refine lv_iload hx hb dX1_solveState_13 (lv_at hl 6 rfl) ?_
    refine lv_aload_n hx hb dX1_solveState_15 rfl (lv_at hl 0 rfl) ?_
    refine va_get (D := g.1) (ci := 1) (v := .int (nI np)) (C := RX1) (T := TX1) (N := 6) hx hb hts hinX1 hown hC.1 hP 0 rfl rfl 3 (by decide) f32 (fun _ h9 => h9) rfl dX1_solveState_16 ?_
    refine lv_icmp_ge (tgt := 63) hx hb dX1_solveState_19 (by decide) (fun c19 => ?_) (fun c19 => ?_)
    ·have c19 : np ≤ i := (nI_leI (a := np) (b := i) (by omega) (by omega)).mp c19
     have h9 : i = np := by omega
     rw [h9] at hl
     have hhl := had_le xs np
     have hwx := wh_or xs np
     have hwl : (fo (whF xs) 0 np) ≤ 729 := by
       rcases hwx with q | ⟨e, q1, q2, q3⟩
       · omega
       · have := pw3 e (by omega); omega
     refine lv_aload_n hx hb dX1_solveState_63 rfl (lv_at hl 0 rfl) ?_
     refine va_get (D := g.1) (ci := 1) (v := .ref rC) (C := RX1) (T := TX1) (N := 6) hx hb hts hinX1 hown hC.1 hP 0 rfl rfl 1 (by decide) f15 (fun _ h9 => h9) rfl dX1_solveState_64 ?_
     refine lv_iload_n hx hb dX1_solveState_67 rfl (lv_at hl 1 rfl) ?_
     refine lv_lconst (v := lN 0) hx hb dX1_solveState_68 (by decide) ?_
     refine ast_ln (f := xC) (j := xs) (v := 0) hx hb hC hP hD hS 2 rfl (by omega) (by decide) dX1_solveState_69 (fun H locs hP hD hS => ?_)
     have hP : va_P g.1 vwCl [(oR, .inr (1, [.ref rW, .ref rC, .ref rO, .int (nI np), .int (nI nd), .int (nI qb)])), (rW, .inl (g.2.2.1, 729, .inr (.inl (fun j => lN (xW j))))), (rC, .inl (g.2.2.1, 729, .inr (.inl (fun j => lN (updN xC xs 0 j))))), (rO, .inl (g.2.1, 729, .inl (fun j => nI (xO j))))] H := hP
     have hD : va_D A [(oR, .inr (1, [.ref rW, .ref rC, .ref rO, .int (nI np), .int (nI nd), .int (nI qb)])), (rW, .inl (g.2.2.1, 729, .inr (.inl (fun j => lN (xW j))))), (rC, .inl (g.2.2.1, 729, .inr (.inl (fun j => lN (updN xC xs 0 j))))), (rO, .inl (g.2.1, 729, .inl (fun j => nI (xO j))))] := hD
     refine lv_aload_n hx hb dX1_solveState_70 rfl (lv_at hl 0 rfl) ?_
     refine va_get (D := g.1) (ci := 1) (v := .ref rO) (C := RX1) (T := TX1) (N := 6) hx hb hts hinX1 hown hC.1 hP 0 rfl rfl 2 (by decide) f18 (fun _ h9 => h9) rfl dX1_solveState_71 ?_
     refine lv_iload_n hx hb dX1_solveState_74 rfl (lv_at hl 1 rfl) ?_
     refine lv_iconst (v := nI 0) hx hb dX1_solveState_75 (by decide) ?_
     refine ast_in (f := xO) (j := xs) (v := 0) hx hb hC hP hD hS 3 rfl (by omega) (by decide) dX1_solveState_76 (fun H locs hP hD hS => ?_)
     have hP : va_P g.1 vwCl [(oR, .inr (1, [.ref rW, .ref rC, .ref rO, .int (nI np), .int (nI nd), .int (nI qb)])), (rW, .inl (g.2.2.1, 729, .inr (.inl (fun j => lN (xW j))))), (rC, .inl (g.2.2.1, 729, .inr (.inl (fun j => lN (updN xC xs 0 j))))), (rO, .inl (g.2.1, 729, .inl (fun j => nI (updN xO xs 0 j))))] H := hP
     have hD : va_D A [(oR, .inr (1, [.ref rW, .ref rC, .ref rO, .int (nI np), .int (nI nd), .int (nI qb)])), (rW, .inl (g.2.2.1, 729, .inr (.inl (fun j => lN (xW j))))), (rC, .inl (g.2.2.1, 729, .inr (.inl (fun j => lN (updN xC xs 0 j))))), (rO, .inl (g.2.1, 729, .inl (fun j => nI (updN xO xs 0 j))))] := hD
     refine lv_iload_n hx hb dX1_solveState_77 rfl (lv_at hl 3 rfl) ?_
     refine lv_if_ne (tgt := 82) hx hb dX1_solveState_78 (by decide) (fun c78 => ?_) (fun c78 => ?_)
     ·have c78 : ¬ (fo (whF xs) 0 np) = 0 := fun h9 => c78 ((nI_eq (a := fo (whF xs) 0 np) (b := 0) (by omega) (by omega)).mpr h9)
      have hid : xs + 2 * (fo (whF xs) 0 np) < pw 3 np ∧ 0 < (fo (whF xs) 0 np) := by
        rcases hwx with q | ⟨e, q1, q2, q3⟩
        · exact absurd q c78
        · have h7 := dig_two3 np (by omega) xs hs0 e q1 q2; have h8 := pw3 e (by omega); rw [q3]; exact ⟨h7, h8.1⟩
      have b1 := hw0 (xs + 1 * (fo (whF xs) 0 np)) (by omega)
      have b2 := hw0 (xs + 2 * (fo (whF xs) 0 np)) (by omega)
      have hcw : ((cbW np (xW, xC, xO, qb) xs)).1 xs = (xW (xs + 1 * (fo (whF xs) 0 np)) + xW (xs + 2 * (fo (whF xs) 0 np))) := updN_s _ _ _
      refine lv_aload_n hx hb dX1_solveState_82 rfl (lv_at hl 0 rfl) ?_
      refine va_get (D := g.1) (ci := 1) (v := .ref rW) (C := RX1) (T := TX1) (N := 6) hx hb hts hinX1 hown hC.1 hP 0 rfl rfl 0 (by decide) f11 (fun _ h9 => h9) rfl dX1_solveState_83 ?_
      refine lv_iload_n hx hb dX1_solveState_86 rfl (lv_at hl 1 rfl) ?_
      refine lv_aload_n hx hb dX1_solveState_87 rfl (lv_at hl 0 rfl) ?_
      refine va_get (D := g.1) (ci := 1) (v := .ref rW) (C := RX1) (T := TX1) (N := 6) hx hb hts hinX1 hown hC.1 hP 0 rfl rfl 0 (by decide) f11 (fun _ h9 => h9) rfl dX1_solveState_88 ?_
      refine lv_iload_n hx hb dX1_solveState_91 rfl (lv_at hl 1 rfl) ?_
      refine lv_iconst (v := nI 1) hx hb dX1_solveState_92 (by decide) ?_
      refine lv_iload_n hx hb dX1_solveState_93 rfl (lv_at hl 3 rfl) ?_
      refine lv_imul hx hb dX1_solveState_94 ?_
      refine top_i (y := nI (1 * (fo (whF xs) 0 np))) (pk_mul _ _) ?_
      refine lv_iadd hx hb dX1_solveState_95 ?_
      refine top_i (y := nI (xs + (1 * (fo (whF xs) 0 np)))) (nI_add _ _) ?_
      refine ald_l (f := fun j => lN (xW j)) (j := xs + (1 * (fo (whF xs) 0 np))) hx hb hC hP 1 rfl (by omega) (by decide) dX1_solveState_96 ?_
      refine lv_aload_n hx hb dX1_solveState_97 rfl (lv_at hl 0 rfl) ?_
      refine va_get (D := g.1) (ci := 1) (v := .ref rW) (C := RX1) (T := TX1) (N := 6) hx hb hts hinX1 hown hC.1 hP 0 rfl rfl 0 (by decide) f11 (fun _ h9 => h9) rfl dX1_solveState_98 ?_
      refine lv_iload_n hx hb dX1_solveState_101 rfl (lv_at hl 1 rfl) ?_
      refine lv_iconst (v := nI 2) hx hb dX1_solveState_102 (by decide) ?_
      refine lv_iload_n hx hb dX1_solveState_103 rfl (lv_at hl 3 rfl) ?_
      refine lv_imul hx hb dX1_solveState_104 ?_
      refine top_i (y := nI (2 * (fo (whF xs) 0 np))) (pk_mul _ _) ?_
      refine lv_iadd hx hb dX1_solveState_105 ?_
      refine top_i (y := nI (xs + (2 * (fo (whF xs) 0 np)))) (nI_add _ _) ?_
      refine ald_l (f := fun j => lN (xW j)) (j := xs + (2 * (fo (whF xs) 0 np))) hx hb hC hP 1 rfl (by omega) (by decide) dX1_solveState_106 ?_
      refine lv_ladd hx hb dX1_solveState_107 ?_
      refine top_l (y := lN ((xW (xs + (1 * (fo (whF xs) 0 np)))) + (xW (xs + (2 * (fo (whF xs) 0 np)))))) (lN_add _ _) ?_
      refine ast_ln (f := xW) (j := xs) (v := (xW (xs + (1 * (fo (whF xs) 0 np)))) + (xW (xs + (2 * (fo (whF xs) 0 np))))) hx hb hC hP hD hS 1 rfl (by omega) (by decide) dX1_solveState_108 (fun H locs hP hD hS => ?_)
      have hP : va_P g.1 vwCl [(oR, .inr (1, [.ref rW, .ref rC, .ref rO, .int (nI np), .int (nI nd), .int (nI qb)])), (rW, .inl (g.2.2.1, 729, .inr (.inl (fun j => lN (updN xW xs ((xW (xs + (1 * (fo (whF xs) 0 np)))) + (xW (xs + (2 * (fo (whF xs) 0 np))))) j))))), (rC, .inl (g.2.2.1, 729, .inr (.inl (fun j => lN (updN xC xs 0 j))))), (rO, .inl (g.2.1, 729, .inl (fun j => nI (updN xO xs 0 j))))] H := hP
      have hD : va_D A [(oR, .inr (1, [.ref rW, .ref rC, .ref rO, .int (nI np), .int (nI nd), .int (nI qb)])), (rW, .inl (g.2.2.1, 729, .inr (.inl (fun j => lN (updN xW xs ((xW (xs + (1 * (fo (whF xs) 0 np)))) + (xW (xs + (2 * (fo (whF xs) 0 np))))) j))))), (rC, .inl (g.2.2.1, 729, .inr (.inl (fun j => lN (updN xC xs 0 j))))), (rO, .inl (g.2.1, 729, .inl (fun j => nI (updN xO xs 0 j))))] := hD
      refine lv_aload_n hx hb dX1_solveState_109 rfl (lv_at hl 0 rfl) ?_
      refine va_get (D := g.1) (ci := 1) (v := .ref rW) (C := RX1) (T := TX1) (N := 6) hx hb hts hinX1 hown hC.1 hP 0 rfl rfl 0 (by decide) f11 (fun _ h9 => h9) rfl dX1_solveState_110 ?_
      refine lv_iload_n hx hb dX1_solveState_113 rfl (lv_at hl 1 rfl) ?_
      refine ald_l (f := fun j => lN (updN xW xs ((xW (xs + (1 * (fo (whF xs) 0 np)))) + (xW (xs + (2 * (fo (whF xs) 0 np))))) j)) (j := xs) hx hb hC hP 1 rfl (by omega) (by decide) dX1_solveState_114 ?_
      refine top_l (y := lN (xW (xs + 1 * (fo (whF xs) 0 np)) + xW (xs + 2 * (fo (whF xs) 0 np)))) (by rw [updN_s]) ?_
      refine lv_lconst (v := lN 0) hx hb dX1_solveState_115 (by decide) ?_
      refine lc_le (tgt := 133) hx hb dX1_solveState_116 dX1_solveState_117 (by decide) (fun c116 => ?_) (fun c116 => ?_)
      ·have c116 : (xW (xs + 1 * (fo (whF xs) 0 np)) + xW (xs + 2 * (fo (whF xs) 0 np))) ≤ 0 := (pk_lLE (a := xW (xs + 1 * (fo (whF xs) 0 np)) + xW (xs + 2 * (fo (whF xs) 0 np))) (b := 0) (by omega) (by omega)).mp c116
       exact retMv (w := [(oR, .inr (1, [.ref rW, .ref rC, .ref rO, .int (nI np), .int (nI nd), .int (nI qb)])), (rW, .inl (g.2.2.1, 729, .inr (.inl (fun j => lN (updN xW xs ((xW (xs + (1 * (fo (whF xs) 0 np)))) + (xW (xs + (2 * (fo (whF xs) 0 np))))) j))))), (rC, .inl (g.2.2.1, 729, .inr (.inl (fun j => lN (updN xC xs 0 j))))), (rO, .inl (g.2.1, 729, .inl (fun j => nI (updN xO xs 0 j))))]) hx hb hr hlocks (hP.sub [0, 1, 2, 3] rfl) (hD.sub [0, 1, 2, 3] (by decide) rfl) hS () (by rw [brS_1 c78 (by rw [hcw]; omega)] <;> rfl) (trivial) dX1_solveState_133
      ·have c116 : ¬ (xW (xs + 1 * (fo (whF xs) 0 np)) + xW (xs + 2 * (fo (whF xs) 0 np))) ≤ 0 := fun h9 => c116 ((pk_lLE (a := xW (xs + 1 * (fo (whF xs) 0 np)) + xW (xs + 2 * (fo (whF xs) 0 np))) (b := 0) (by omega) (by omega)).mpr h9)
       refine lv_iload_n hx hb dX1_solveState_120 rfl (lv_at hl 2 rfl) ?_
       refine lv_aload_n hx hb dX1_solveState_121 rfl (lv_at hl 0 rfl) ?_
       refine va_get (D := g.1) (ci := 1) (v := .int (nI nd)) (C := RX1) (T := TX1) (N := 6) hx hb hts hinX1 hown hC.1 hP 0 rfl rfl 4 (by decide) f22 (fun _ h9 => h9) rfl dX1_solveState_122 ?_
       refine lv_icmp_ge (tgt := 133) hx hb dX1_solveState_125 (by decide) (fun c125 => ?_) (fun c125 => ?_)
       ·have c125 : nd ≤ (fo (hadF xs) 0 np) := (nI_leI (a := nd) (b := fo (hadF xs) 0 np) (by omega) (by omega)).mp c125
        exact retMv (w := [(oR, .inr (1, [.ref rW, .ref rC, .ref rO, .int (nI np), .int (nI nd), .int (nI qb)])), (rW, .inl (g.2.2.1, 729, .inr (.inl (fun j => lN (updN xW xs ((xW (xs + (1 * (fo (whF xs) 0 np)))) + (xW (xs + (2 * (fo (whF xs) 0 np))))) j))))), (rC, .inl (g.2.2.1, 729, .inr (.inl (fun j => lN (updN xC xs 0 j))))), (rO, .inl (g.2.1, 729, .inl (fun j => nI (updN xO xs 0 j))))]) hx hb hr hlocks (hP.sub [0, 1, 2, 3] rfl) (hD.sub [0, 1, 2, 3] (by decide) rfl) hS () (by rw [brS_1 c78 (by rw [hcw]; omega)] <;> rfl) (trivial) dX1_solveState_133
       ·have c125 : ¬ nd ≤ (fo (hadF xs) 0 np) := fun h9 => c125 ((nI_leI (a := nd) (b := fo (hadF xs) 0 np) (by omega) (by omega)).mpr h9)
        refine lv_aload_n hx hb dX1_solveState_128 rfl (lv_at hl 0 rfl) ?_
        refine lv_iload_n hx hb dX1_solveState_129 rfl (lv_at hl 1 rfl) ?_
        refine goMv (S := Unit) (wr := []) (va_runV (As := [.int (nI xs)]) (rest := []) ⟨hx, hb, hml, hown, hts⟩ (k_X1_breakNext l g _ oR rW rC rO np nd qb (updN xW xs ((xW (xs + (1 * (fo (whF xs) 0 np)))) + (xW (xs + (2 * (fo (whF xs) 0 np)))))) (updN xC xs 0) (updN xO xs 0) xs (by first | assumption | exact Nat.zero_le _ | omega) (by first | assumption | exact Nat.zero_le _ | omega) (fun j h1 h2 => by rw [updN_n (show j ≠ xs by omega), updN_n (show j ≠ xs by omega)]; exact hbd j h1 h2)) (cwV 1 hts gX1_solveState_X1_breakNext rfl rfl rfl ⟨rfl, hdX1_breakNext⟩ ⟨Nat.le_of_ble_eq_true rfl, Nat.le_of_ble_eq_true rfl⟩) (preVM hC (hP.sub [0, 1, 2, 3] rfl) (hD.sub [0, 1, 2, 3] (by decide) rfl) (va_recv hC.1 hP (ci := 1) (q0 := 0) rfl rfl)) rfl rfl hl.1 rfl (lv_room (Nat.le_of_ble_eq_true rfl)) dX1_solveState_130 ⟨Nat.le_of_ble_eq_true rfl, Nat.le_of_ble_eq_true rfl⟩) hP hD hS hA [0, 1, 2, 3] [] rfl rfl (by decide) (by decide) (fun _ H locs hw_9 hP hD hS => ?_)
        have hP : va_P g.1 vwCl [(oR, .inr (1, [.ref rW, .ref rC, .ref rO, .int (nI np), .int (nI nd), .int (nI ((bnA np ((updN xW xs ((xW (xs + (1 * (fo (whF xs) 0 np)))) + (xW (xs + (2 * (fo (whF xs) 0 np)))))), (updN xC xs 0), (updN xO xs 0), qb) xs).2.2.2))])), (rW, .inl (g.2.2.1, 729, .inr (.inl (fun j => lN ((updN xW xs ((xW (xs + (1 * (fo (whF xs) 0 np)))) + (xW (xs + (2 * (fo (whF xs) 0 np)))))) j))))), (rC, .inl (g.2.2.1, 729, .inr (.inl (fun j => lN ((bnA np ((updN xW xs ((xW (xs + (1 * (fo (whF xs) 0 np)))) + (xW (xs + (2 * (fo (whF xs) 0 np)))))), (updN xC xs 0), (updN xO xs 0), qb) xs).2.1 j))))), (rO, .inl (g.2.1, 729, .inl (fun j => nI ((bnA np ((updN xW xs ((xW (xs + (1 * (fo (whF xs) 0 np)))) + (xW (xs + (2 * (fo (whF xs) 0 np)))))), (updN xC xs 0), (updN xO xs 0), qb) xs).2.2.1 j))))] H := hP
        have hD : va_D A [(oR, .inr (1, [.ref rW, .ref rC, .ref rO, .int (nI np), .int (nI nd), .int (nI ((bnA np ((updN xW xs ((xW (xs + (1 * (fo (whF xs) 0 np)))) + (xW (xs + (2 * (fo (whF xs) 0 np)))))), (updN xC xs 0), (updN xO xs 0), qb) xs).2.2.2))])), (rW, .inl (g.2.2.1, 729, .inr (.inl (fun j => lN ((updN xW xs ((xW (xs + (1 * (fo (whF xs) 0 np)))) + (xW (xs + (2 * (fo (whF xs) 0 np)))))) j))))), (rC, .inl (g.2.2.1, 729, .inr (.inl (fun j => lN ((bnA np ((updN xW xs ((xW (xs + (1 * (fo (whF xs) 0 np)))) + (xW (xs + (2 * (fo (whF xs) 0 np)))))), (updN xC xs 0), (updN xO xs 0), qb) xs).2.1 j))))), (rO, .inl (g.2.1, 729, .inl (fun j => nI ((bnA np ((updN xW xs ((xW (xs + (1 * (fo (whF xs) 0 np)))) + (xW (xs + (2 * (fo (whF xs) 0 np)))))), (updN xC xs 0), (updN xO xs 0), qb) xs).2.2.1 j))))] := hD
        exact retMv (w := [(oR, .inr (1, [.ref rW, .ref rC, .ref rO, .int (nI np), .int (nI nd), .int (nI ((bnA np ((updN xW xs ((xW (xs + (1 * (fo (whF xs) 0 np)))) + (xW (xs + (2 * (fo (whF xs) 0 np)))))), (updN xC xs 0), (updN xO xs 0), qb) xs).2.2.2))])), (rW, .inl (g.2.2.1, 729, .inr (.inl (fun j => lN ((updN xW xs ((xW (xs + (1 * (fo (whF xs) 0 np)))) + (xW (xs + (2 * (fo (whF xs) 0 np)))))) j))))), (rC, .inl (g.2.2.1, 729, .inr (.inl (fun j => lN ((bnA np ((updN xW xs ((xW (xs + (1 * (fo (whF xs) 0 np)))) + (xW (xs + (2 * (fo (whF xs) 0 np)))))), (updN xC xs 0), (updN xO xs 0), qb) xs).2.1 j))))), (rO, .inl (g.2.1, 729, .inl (fun j => nI ((bnA np ((updN xW xs ((xW (xs + (1 * (fo (whF xs) 0 np)))) + (xW (xs + (2 * (fo (whF xs) 0 np)))))), (updN xC xs 0), (updN xO xs 0), qb) xs).2.2.1 j))))]) hx hb hr hlocks (hP.sub [0, 1, 2, 3] rfl) (hD.sub [0, 1, 2, 3] (by decide) rfl) hS () (by rw [brS_2 c78 ⟨by rw [hcw]; omega, by omega⟩] <;> rfl) (trivial) dX1_solveState_133
     ·have c78 : (fo (whF xs) 0 np) = 0 := (nI_eq (a := fo (whF xs) 0 np) (b := 0) (by omega) (by omega)).mp c78
      exact retMv (w := [(oR, .inr (1, [.ref rW, .ref rC, .ref rO, .int (nI np), .int (nI nd), .int (nI qb)])), (rW, .inl (g.2.2.1, 729, .inr (.inl (fun j => lN (xW j))))), (rC, .inl (g.2.2.1, 729, .inr (.inl (fun j => lN (updN xC xs 0 j))))), (rO, .inl (g.2.1, 729, .inl (fun j => nI (updN xO xs 0 j))))]) hx hb hr hlocks (hP.sub [0, 1, 2, 3] rfl) (hD.sub [0, 1, 2, 3] (by decide) rfl) hS () (by rw [brS_0 c78] <;> rfl) (trivial) dX1_solveState_81
    ·have c19 : ¬ np ≤ i := fun h9 => c19 ((nI_leI (a := np) (b := i) (by omega) (by omega)).mpr h9)
     have h3 := pw3 i (by omega)
     have hdv := Nat.div_le_self xs (pw 3 i)
     have hdl := dig_lt xs i
     refine lv_iload hx hb dX1_solveState_22 (lv_at hl 5 rfl) ?_
     refine lv_iconst (v := nI 3) hx hb dX1_solveState_24 (by decide) ?_
     refine lv_irem hx hb dX1_solveState_25 (by decide) ?_
     refine top_i (y := nI (dig xs i)) (pk_rem (by omega) (by decide) (by decide)) ?_
     refine lv_istore (lv' := [(7, .int (nI (dig xs i))), (0, .ref oR), (1, .int (nI xs)), (2, .int (nI (fo (hadF xs) 0 i))), (3, .int (nI (fo (whF xs) 0 i))), (4, .int (nI (pw 3 i))), (5, .int (nI (xs / pw 3 i))), (6, .int (nI i))]) hx hb dX1_solveState_26 hl (by decide) rfl (fun ls hl => ?_)
     have hJ37 : ∀ (H : Heap) (locs : List Loc), va_P g.1 vwCl [(oR, .inr (1, [.ref rW, .ref rC, .ref rO, .int (nI np), .int (nI nd), .int (nI qb)])), (rW, .inl (g.2.2.1, 729, .inr (.inl (fun j => lN (xW j))))), (rC, .inl (g.2.2.1, 729, .inr (.inl (fun j => lN (xC j))))), (rO, .inl (g.2.1, 729, .inl (fun j => nI (xO j))))] H → va_D A [(oR, .inr (1, [.ref rW, .ref rC, .ref rO, .int (nI np), .int (nI nd), .int (nI qb)])), (rW, .inl (g.2.2.1, 729, .inr (.inl (fun j => lN (xW j))))), (rC, .inl (g.2.2.1, 729, .inr (.inl (fun j => lN (xC j))))), (rO, .inl (g.2.1, 729, .inl (fun j => nI (xO j))))] → va_S A s.heap H locs → ∀ ls : Array Slot, lv_has ls 8 [(0, .ref oR), (1, .int (nI xs)), (2, .int (nI (fo (hadF xs) 0 (i + 1)))), (3, .int (nI (fo (whF xs) 0 i))), (4, .int (nI (pw 3 i))), (5, .int (nI (xs / pw 3 i))), (6, .int (nI i)), (7, .int (nI (dig xs i)))] → W p l e ({ frames := 2, cells := 0, slots := 0, locals := 52 }) s m ([.ref oR, .int (nI xs)] : List Value).toArray below meth c H locs 0 0 (MQ below (qMv g (fun (_ : Unit) => True) (fun (_ : Unit) => [(oR, .inr (1, [.ref rW, .ref rC, .ref rO, .int (nI np), .int (nI nd), .int (nI ((brS np nd (xW, xC, xO, qb) xs).2.2.2))])), (rW, .inl (g.2.2.1, 729, .inr (.inl (fun j => lN ((brS np nd (xW, xC, xO, qb) xs).1 j))))), (rC, .inl (g.2.2.1, 729, .inr (.inl (fun j => lN ((brS np nd (xW, xC, xO, qb) xs).2.1 j))))), (rO, .inl (g.2.1, 729, .inl (fun j => nI ((brS np nd (xW, xC, xO, qb) xs).2.2.1 j))))]) A) ([.ref oR, .int (nI xs)] : List Value).toArray s 0 0 A) (F0 m 37 ls []) := by
      intro  H locs hP hD hS ls hl
      have hJ45 : ∀ (H : Heap) (locs : List Loc), va_P g.1 vwCl [(oR, .inr (1, [.ref rW, .ref rC, .ref rO, .int (nI np), .int (nI nd), .int (nI qb)])), (rW, .inl (g.2.2.1, 729, .inr (.inl (fun j => lN (xW j))))), (rC, .inl (g.2.2.1, 729, .inr (.inl (fun j => lN (xC j))))), (rO, .inl (g.2.1, 729, .inl (fun j => nI (xO j))))] H → va_D A [(oR, .inr (1, [.ref rW, .ref rC, .ref rO, .int (nI np), .int (nI nd), .int (nI qb)])), (rW, .inl (g.2.2.1, 729, .inr (.inl (fun j => lN (xW j))))), (rC, .inl (g.2.2.1, 729, .inr (.inl (fun j => lN (xC j))))), (rO, .inl (g.2.1, 729, .inl (fun j => nI (xO j))))] → va_S A s.heap H locs → ∀ ls : Array Slot, lv_has ls 8 [(0, .ref oR), (1, .int (nI xs)), (2, .int (nI (fo (hadF xs) 0 (i + 1)))), (3, .int (nI (fo (whF xs) 0 (i + 1)))), (4, .int (nI (pw 3 i))), (5, .int (nI (xs / pw 3 i))), (6, .int (nI i)), (7, .int (nI (dig xs i)))] → W p l e ({ frames := 2, cells := 0, slots := 0, locals := 52 }) s m ([.ref oR, .int (nI xs)] : List Value).toArray below meth c H locs 0 0 (MQ below (qMv g (fun (_ : Unit) => True) (fun (_ : Unit) => [(oR, .inr (1, [.ref rW, .ref rC, .ref rO, .int (nI np), .int (nI nd), .int (nI ((brS np nd (xW, xC, xO, qb) xs).2.2.2))])), (rW, .inl (g.2.2.1, 729, .inr (.inl (fun j => lN ((brS np nd (xW, xC, xO, qb) xs).1 j))))), (rC, .inl (g.2.2.1, 729, .inr (.inl (fun j => lN ((brS np nd (xW, xC, xO, qb) xs).2.1 j))))), (rO, .inl (g.2.1, 729, .inl (fun j => nI ((brS np nd (xW, xC, xO, qb) xs).2.2.1 j))))]) A) ([.ref oR, .int (nI xs)] : List Value).toArray s 0 0 A) (F0 m 45 ls []) := by
       intro  H locs hP hD hS ls hl
       refine lv_iload hx hb dX1_solveState_45 (lv_at hl 5 rfl) ?_
       refine lv_iconst (v := nI 3) hx hb dX1_solveState_47 (by decide) ?_
       refine lv_idiv hx hb dX1_solveState_48 (by decide) ?_
       refine top_i (y := nI (xs / pw 3 (i + 1))) (by rw [← dig_s]; exact pk_div (by omega) (by decide) (by decide)) ?_
       refine lv_istore (lv' := [(5, .int (nI (xs / pw 3 (i + 1)))), (0, .ref oR), (1, .int (nI xs)), (2, .int (nI (fo (hadF xs) 0 (i + 1)))), (3, .int (nI (fo (whF xs) 0 (i + 1)))), (4, .int (nI (pw 3 i))), (6, .int (nI i)), (7, .int (nI (dig xs i)))]) hx hb dX1_solveState_49 hl (by decide) rfl (fun ls hl => ?_)
       refine lv_iload hx hb dX1_solveState_51 (lv_at hl 5 rfl) ?_
       refine lv_iconst (v := nI 3) hx hb dX1_solveState_53 (by decide) ?_
       refine lv_imul hx hb dX1_solveState_54 ?_
       refine top_i (y := nI ((pw 3 i) * 3)) (pk_mul _ _) ?_
       refine lv_istore (lv' := [(4, .int (nI ((pw 3 i) * 3))), (5, .int (nI (xs / pw 3 (i + 1)))), (0, .ref oR), (1, .int (nI xs)), (2, .int (nI (fo (hadF xs) 0 (i + 1)))), (3, .int (nI (fo (whF xs) 0 (i + 1)))), (6, .int (nI i)), (7, .int (nI (dig xs i)))]) hx hb dX1_solveState_55 hl (by decide) rfl (fun ls hl => ?_)
       refine lv_iinc (v := nI (i + 1)) (lv' := [(6, .int (nI (i + 1))), (4, .int (nI ((pw 3 i) * 3))), (5, .int (nI (xs / pw 3 (i + 1)))), (0, .ref oR), (1, .int (nI xs)), (2, .int (nI (fo (hadF xs) 0 (i + 1)))), (3, .int (nI (fo (whF xs) 0 (i + 1)))), (7, .int (nI (dig xs i)))]) hx hb dX1_solveState_57 hl (k := 6) rfl (iinc1 _) (by decide) rfl (fun ls hl => ?_)
       refine lv_goto (tgt := 13) hx hb dX1_solveState_60 (by decide) ?_
       exact ih13 (i + 1) (by omega) (by first | assumption | exact Nat.zero_le _ | omega) _ _ hP hD hS ls (lv_sub hl [3, 4, 5, 6, 1, 2, 0] rfl)
      refine lv_iload hx hb dX1_solveState_37 (lv_at hl 7 rfl) ?_
      refine lv_if_ne (tgt := 45) hx hb dX1_solveState_39 (by decide) (fun c39 => ?_) (fun c39 => ?_)
      ·have c39 : ¬ (dig xs i) = 0 := fun h9 => c39 ((nI_eq (a := dig xs i) (b := 0) (by omega) (by omega)).mpr h9)
       have hl : lv_has ls 8 [(0, .ref oR), (1, .int (nI xs)), (2, .int (nI (fo (hadF xs) 0 (i + 1)))), (3, .int (nI (fo (whF xs) 0 (i + 1)))), (4, .int (nI (pw 3 i))), (5, .int (nI (xs / pw 3 i))), (6, .int (nI i)), (7, .int (nI (dig xs i)))] := lv_val hl 3 rfl (congrArg Value.int (show nI (fo (whF xs) 0 i) = nI (fo (whF xs) 0 (i + 1)) from by rw [fo_s, whF]; first | rw [if_pos c39] | rw [if_neg c39]))
       exact hJ45   _ _ hP hD hS ls (lv_sub hl [0, 1, 2, 3, 4, 5, 6, 7] rfl)
      ·have c39 : (dig xs i) = 0 := (nI_eq (a := dig xs i) (b := 0) (by omega) (by omega)).mp c39
       refine lv_iload hx hb dX1_solveState_42 (lv_at hl 4 rfl) ?_
       refine lv_istore_n (lv' := [(3, .int (nI (pw 3 i))), (0, .ref oR), (1, .int (nI xs)), (2, .int (nI (fo (hadF xs) 0 (i + 1)))), (4, .int (nI (pw 3 i))), (5, .int (nI (xs / pw 3 i))), (6, .int (nI i)), (7, .int (nI (dig xs i)))]) hx hb dX1_solveState_44 rfl hl (by decide) rfl (fun ls hl => ?_)
       have hl : lv_has ls 8 [(3, .int (nI (fo (whF xs) 0 (i + 1)))), (0, .ref oR), (1, .int (nI xs)), (2, .int (nI (fo (hadF xs) 0 (i + 1)))), (4, .int (nI (pw 3 i))), (5, .int (nI (xs / pw 3 i))), (6, .int (nI i)), (7, .int (nI (dig xs i)))] := lv_val hl 0 rfl (congrArg Value.int (show nI (pw 3 i) = nI (fo (whF xs) 0 (i + 1)) from by rw [fo_s, whF]; first | rw [if_pos c39] | rw [if_neg c39]))
       exact hJ45   _ _ hP hD hS ls (lv_sub hl [1, 2, 3, 0, 4, 5, 6, 7] rfl)
     refine lv_iload hx hb dX1_solveState_28 (lv_at hl 0 rfl) ?_
     refine lv_iconst (v := nI 1) hx hb dX1_solveState_30 (by decide) ?_
     refine lv_icmp_ne (tgt := 37) hx hb dX1_solveState_31 (by decide) (fun c31 => ?_) (fun c31 => ?_)
     ·have c31 : ¬ (dig xs i) = 1 := fun h9 => c31 ((nI_eq (a := dig xs i) (b := 1) (by omega) (by omega)).mpr h9)
      have hl : lv_has ls 8 [(7, .int (nI (dig xs i))), (0, .ref oR), (1, .int (nI xs)), (2, .int (nI (fo (hadF xs) 0 (i + 1)))), (3, .int (nI (fo (whF xs) 0 i))), (4, .int (nI (pw 3 i))), (5, .int (nI (xs / pw 3 i))), (6, .int (nI i))] := lv_val hl 3 rfl (congrArg Value.int (show nI (fo (hadF xs) 0 i) = nI (fo (hadF xs) 0 (i + 1)) from by rw [fo_s, hadF]; first | rw [if_pos c31] | rw [if_neg c31]))
      exact hJ37   _ _ hP hD hS ls (lv_sub hl [1, 2, 3, 4, 5, 6, 7, 0] rfl)
     ·have c31 : (dig xs i) = 1 := (nI_eq (a := dig xs i) (b := 1) (by omega) (by omega)).mp c31
      refine lv_iinc (v := nI ((fo (hadF xs) 0 i) + 1)) (lv' := [(2, .int (nI ((fo (hadF xs) 0 i) + 1))), (7, .int (nI (dig xs i))), (0, .ref oR), (1, .int (nI xs)), (3, .int (nI (fo (whF xs) 0 i))), (4, .int (nI (pw 3 i))), (5, .int (nI (xs / pw 3 i))), (6, .int (nI i))]) hx hb dX1_solveState_34 hl (k := 3) rfl (iinc1 _) (by decide) rfl (fun ls hl => ?_)
      have hl : lv_has ls 8 [(2, .int (nI (fo (hadF xs) 0 (i + 1)))), (7, .int (nI (dig xs i))), (0, .ref oR), (1, .int (nI xs)), (3, .int (nI (fo (whF xs) 0 i))), (4, .int (nI (pw 3 i))), (5, .int (nI (xs / pw 3 i))), (6, .int (nI i))] := lv_val hl 0 rfl (congrArg Value.int (show nI ((fo (hadF xs) 0 i) + 1) = nI (fo (hadF xs) 0 (i + 1)) from by rw [fo_s, hadF]; first | rw [if_pos c31] | rw [if_neg c31]))
      exact hJ37   _ _ hP hD hS ls (lv_sub hl [2, 3, 0, 4, 5, 6, 7, 1] rfl)
  have hl : lv_has ls 8 [(6, .int (nI 0)), (5, .int (nI (xs / pw 3 0))), (4, .int (nI (pw 3 0))), (3, .int (nI (fo (whF xs) 0 0))), (2, .int (nI (fo (hadF xs) 0 0))), (0, .ref oR), (1, .int (nI xs))] := by rw [show xs / pw 3 0 = xs from Nat.div_one xs]; exact hl
  exact hL13 _ 0 (Nat.lt_succ_self _) (by first | assumption | exact Nat.zero_le _ | omega) _ _ hP hD hS ls (lv_sub hl [5, 6, 4, 3, 2, 1, 0] rfl)

set_option maxHeartbeats 4000000 in
set_option maxRecDepth 100000 in
/-- BoiledEggs$Breaking.solve  -/
theorem k_X1_solve (l : Launch) (g : GG) (sz : Nat) (oR : Nat) (rW : Nat) (rC : Nat) (rO : Nat) (qP : Int32) (qN : Int32) (qb : Nat) (oT : Nat) (aB : Nat) (aW : Nat) (aS : Nat) (aU : Nat) (aK : Nat) (fi : Nat) (ib : Nat) (sn : Nat) (xW : Nat → Nat) (xC : Nat → Nat) (xO : Nat → Nat) (fB : Nat → Nat) (fW : Nat → Nat) (xr : Nat) (hib : ib < 64) (hf0 : fi ≤ 20) (hB : ∀ j, fB j < 64) (hr0 : xr ≤ 6) (hok : cbOK (popS ib 6) xr ((fo (spF fB fW ib) (fo zF xW (pw 3 (popS ib 6))) fi), xC, xO, qb)) : Met l yX1_solve wsX1_solve ({ frames := 4, cells := 0, slots := 0, locals := 90 }) (pM g sz [.ref oR, .ref oT, .int (nI xr)] [(oR, .inr (1, [.ref rW, .ref rC, .ref rO, .int qP, .int qN, .int (nI qb)])), (rW, .inl (g.2.2.1, 729, .inr (.inl (fun j => lN (xW j))))), (rC, .inl (g.2.2.1, 729, .inr (.inl (fun j => lN (xC j))))), (rO, .inl (g.2.1, 729, .inl (fun j => nI (xO j)))), (oT, .inr (8, [.ref aB, .ref aW, .ref aS, .ref aU, .ref aK, .int (nI fi), .int (nI ib), .int (nI sn)])), (aB, .inl (g.2.1, 20, .inl (fun j => nI (fB j)))), (aW, .inl (g.2.2.1, 20, .inr (.inl (fun j => lN (fW j)))))]) (qMv g (fun (_ : Unit) => True) (fun (_ : Unit) => [(oR, .inr (1, [.ref rW, .ref rC, .ref rO, .int (nI (popS ib 6)), .int (nI xr), .int (nI ((fo (slF (popS ib 6) xr) ((fo (spF fB fW ib) (fo zF xW (pw 3 (popS ib 6))) fi), xC, xO, qb) (pw 3 (popS ib 6))).2.2.2))])), (rW, .inl (g.2.2.1, 729, .inr (.inl (fun j => lN ((fo (slF (popS ib 6) xr) ((fo (spF fB fW ib) (fo zF xW (pw 3 (popS ib 6))) fi), xC, xO, qb) (pw 3 (popS ib 6))).1 j))))), (rC, .inl (g.2.2.1, 729, .inr (.inl (fun j => lN ((fo (slF (popS ib 6) xr) ((fo (spF fB fW ib) (fo zF xW (pw 3 (popS ib 6))) fi), xC, xO, qb) (pw 3 (popS ib 6))).2.1 j))))), (rO, .inl (g.2.1, 729, .inl (fun j => nI ((fo (slF (popS ib 6) xr) ((fo (spF fB fW ib) (fo zF xW (pw 3 (popS ib 6))) fi), xC, xO, qb) (pw 3 (popS ib 6))).2.2.1 j)))), (oT, .inr (8, [.ref aB, .ref aW, .ref aS, .ref aU, .ref aK, .int (nI fi), .int (nI ib), .int (nI sn)])), (aB, .inl (g.2.1, 20, .inl (fun j => nI (fB j)))), (aW, .inl (g.2.2.1, 20, .inr (.inl (fun j => lN (fW j)))))]) (va_A [(oR, .inr (1, [.ref rW, .ref rC, .ref rO, .int qP, .int qN, .int (nI qb)])), (rW, .inl (g.2.2.1, 729, .inr (.inl (fun j => lN (xW j))))), (rC, .inl (g.2.2.1, 729, .inr (.inl (fun j => lN (xC j))))), (rO, .inl (g.2.1, 729, .inl (fun j => nI (xO j)))), (oT, .inr (8, [.ref aB, .ref aW, .ref aS, .ref aU, .ref aK, .int (nI fi), .int (nI ib), .int (nI sn)])), (aB, .inl (g.2.1, 20, .inl (fun j => nI (fB j)))), (aW, .inl (g.2.2.1, 20, .inr (.inl (fun j => lN (fW j)))))] sz)) 0 0 (va_A [(oR, .inr (1, [.ref rW, .ref rC, .ref rO, .int qP, .int qN, .int (nI qb)])), (rW, .inl (g.2.2.1, 729, .inr (.inl (fun j => lN (xW j))))), (rC, .inl (g.2.2.1, 729, .inr (.inl (fun j => lN (xC j))))), (rO, .inl (g.2.1, 729, .inl (fun j => nI (xO j)))), (oT, .inr (8, [.ref aB, .ref aW, .ref aS, .ref aU, .ref aK, .int (nI fi), .int (nI ib), .int (nI sn)])), (aB, .inl (g.2.1, 20, .inl (fun j => nI (fB j)))), (aW, .inl (g.2.2.1, 20, .inr (.inl (fun j => lN (fW j)))))] sz) := by
  refine metM (Qf := fun A => (qMv g (fun (_ : Unit) => True) (fun (_ : Unit) => [(oR, .inr (1, [.ref rW, .ref rC, .ref rO, .int (nI (popS ib 6)), .int (nI xr), .int (nI ((fo (slF (popS ib 6) xr) ((fo (spF fB fW ib) (fo zF xW (pw 3 (popS ib 6))) fi), xC, xO, qb) (pw 3 (popS ib 6))).2.2.2))])), (rW, .inl (g.2.2.1, 729, .inr (.inl (fun j => lN ((fo (slF (popS ib 6) xr) ((fo (spF fB fW ib) (fo zF xW (pw 3 (popS ib 6))) fi), xC, xO, qb) (pw 3 (popS ib 6))).1 j))))), (rC, .inl (g.2.2.1, 729, .inr (.inl (fun j => lN ((fo (slF (popS ib 6) xr) ((fo (spF fB fW ib) (fo zF xW (pw 3 (popS ib 6))) fi), xC, xO, qb) (pw 3 (popS ib 6))).2.1 j))))), (rO, .inl (g.2.1, 729, .inl (fun j => nI ((fo (slF (popS ib 6) xr) ((fo (spF fB fW ib) (fo zF xW (pw 3 (popS ib 6))) fi), xC, xO, qb) (pw 3 (popS ib 6))).2.2.1 j)))), (oT, .inr (8, [.ref aB, .ref aW, .ref aS, .ref aU, .ref aK, .int (nI fi), .int (nI ib), .int (nI sn)])), (aB, .inl (g.2.1, 20, .inl (fun j => nI (fB j)))), (aW, .inl (g.2.2.1, 20, .inr (.inl (fun j => lN (fW j)))))]) A)) (cc := cX1_solve) (maxL := 5) (ret := none) (by decide) rfl (Nat.le_of_ble_eq_true rfl) ?_
  intro p e s m below meth c hx hb hr hts hown hlocks hml hin0 hC A hA hP hD hS ls hl
  have hl : lv_has ls 5 [(0, .ref oR), (1, .ref oT), (2, .int (nI xr))] := hl
  have hown : s.vm.findClass RX1 = some m.cls := hown
  have hts : ∀ w ∈ wsX1_solve, w.before ([.ref oR, .ref oT, .int (nI xr)] : List Value).toArray s = true := hts
  have hnp := popS_le ib 6
  have h729 := pw3 (popS ib 6) (by omega)
  have hinX1 := (by decide +kernel : ∀ w ∈ u_ws RX1 TX1 6, w ∈ wsX1_solve)
  have f22 := hts (.fieldLink RX1 22 "BoiledEggs$Breaking" "needed" "I") (by decide +kernel)
  have f32 := hts (.fieldLink RX1 32 "BoiledEggs$Breaking" "places" "I") (by decide +kernel)
  refine lv_aload_n hx hb dX1_solve_0 rfl (lv_at hl 0 rfl) ?_
  refine lv_iload_n hx hb dX1_solve_1 rfl (lv_at hl 2 rfl) ?_
  refine va_put (D := g.1) (ci := 1) (v := .int (nI xr)) (ty := .int) (C := RX1) (T := TX1) (N := 6) hx hb hts hinX1 tyX1 tyX1_ok nmX1 hown hC.1 hP hD hS 0 rfl rfl 4 (by decide) f22 (fun _ h9 => h9) rfl (by decide +kernel) rfl rfl (Nat.le_of_ble_eq_true rfl) dX1_solve_2 (fun H locs hP hD hS => ?_)
  have hP : va_P g.1 vwCl [(oR, .inr (1, [.ref rW, .ref rC, .ref rO, .int qP, .int (nI xr), .int (nI qb)])), (rW, .inl (g.2.2.1, 729, .inr (.inl (fun j => lN (xW j))))), (rC, .inl (g.2.2.1, 729, .inr (.inl (fun j => lN (xC j))))), (rO, .inl (g.2.1, 729, .inl (fun j => nI (xO j)))), (oT, .inr (8, [.ref aB, .ref aW, .ref aS, .ref aU, .ref aK, .int (nI fi), .int (nI ib), .int (nI sn)])), (aB, .inl (g.2.1, 20, .inl (fun j => nI (fB j)))), (aW, .inl (g.2.2.1, 20, .inr (.inl (fun j => lN (fW j)))))] H := hP
  have hD : va_D A [(oR, .inr (1, [.ref rW, .ref rC, .ref rO, .int qP, .int (nI xr), .int (nI qb)])), (rW, .inl (g.2.2.1, 729, .inr (.inl (fun j => lN (xW j))))), (rC, .inl (g.2.2.1, 729, .inr (.inl (fun j => lN (xC j))))), (rO, .inl (g.2.1, 729, .inl (fun j => nI (xO j)))), (oT, .inr (8, [.ref aB, .ref aW, .ref aS, .ref aU, .ref aK, .int (nI fi), .int (nI ib), .int (nI sn)])), (aB, .inl (g.2.1, 20, .inl (fun j => nI (fB j)))), (aW, .inl (g.2.2.1, 20, .inr (.inl (fun j => lN (fW j)))))] := hD
  refine lv_aload_n hx hb dX1_solve_5 rfl (lv_at hl 0 rfl) ?_
  refine lv_aload_n hx hb dX1_solve_6 rfl (lv_at hl 1 rfl) ?_
  refine goSi (T := nI (popS ib 6)) (va_runV (As := []) (rest := [.ref oR]) ⟨hx, hb, hml, hown, hts⟩ (k_X8_howManyInBox l g oT aB aW aS aU aK fi ib sn (by first | assumption | exact Nat.zero_le _ | omega)) (cwV 0 hts gX1_solve_X8_howManyInBox rfl rfl rfl ⟨rfl, hdX8_howManyInBox⟩ ⟨Nat.le_of_ble_eq_true rfl, Nat.le_of_ble_eq_true rfl⟩) (preVS hC (hP.sub [4] rfl) (va_recv hC.1 hP (ci := 8) (q0 := 4) rfl rfl)) rfl rfl hl.1 rfl (lv_room (Nat.le_of_ble_eq_true rfl)) dX1_solve_7 ⟨Nat.le_of_ble_eq_true rfl, Nat.le_of_ble_eq_true rfl⟩) ?_
  refine va_put (D := g.1) (ci := 1) (v := .int (nI (popS ib 6))) (ty := .int) (C := RX1) (T := TX1) (N := 6) hx hb hts hinX1 tyX1 tyX1_ok nmX1 hown hC.1 hP hD hS 0 rfl rfl 3 (by decide) f32 (fun _ h9 => h9) rfl (by decide +kernel) rfl rfl (Nat.le_of_ble_eq_true rfl) dX1_solve_10 (fun H locs hP hD hS => ?_)
  have hP : va_P g.1 vwCl [(oR, .inr (1, [.ref rW, .ref rC, .ref rO, .int (nI (popS ib 6)), .int (nI xr), .int (nI qb)])), (rW, .inl (g.2.2.1, 729, .inr (.inl (fun j => lN (xW j))))), (rC, .inl (g.2.2.1, 729, .inr (.inl (fun j => lN (xC j))))), (rO, .inl (g.2.1, 729, .inl (fun j => nI (xO j)))), (oT, .inr (8, [.ref aB, .ref aW, .ref aS, .ref aU, .ref aK, .int (nI fi), .int (nI ib), .int (nI sn)])), (aB, .inl (g.2.1, 20, .inl (fun j => nI (fB j)))), (aW, .inl (g.2.2.1, 20, .inr (.inl (fun j => lN (fW j)))))] H := hP
  have hD : va_D A [(oR, .inr (1, [.ref rW, .ref rC, .ref rO, .int (nI (popS ib 6)), .int (nI xr), .int (nI qb)])), (rW, .inl (g.2.2.1, 729, .inr (.inl (fun j => lN (xW j))))), (rC, .inl (g.2.2.1, 729, .inr (.inl (fun j => lN (xC j))))), (rO, .inl (g.2.1, 729, .inl (fun j => nI (xO j)))), (oT, .inr (8, [.ref aB, .ref aW, .ref aS, .ref aU, .ref aK, .int (nI fi), .int (nI ib), .int (nI sn)])), (aB, .inl (g.2.1, 20, .inl (fun j => nI (fB j)))), (aW, .inl (g.2.2.1, 20, .inr (.inl (fun j => lN (fW j)))))] := hD
  refine lv_iconst (v := nI 1) hx hb dX1_solve_13 (by decide) ?_
  refine lv_istore_n (lv' := [(3, .int (nI 1)), (0, .ref oR), (1, .ref oT), (2, .int (nI xr))]) hx hb dX1_solve_14 rfl hl (by decide) rfl (fun ls hl => ?_)
  refine lv_iconst (v := nI 0) hx hb dX1_solve_15 (by decide) ?_
  refine lv_istore (lv' := [(4, .int (nI 0)), (3, .int (nI 1)), (0, .ref oR), (1, .ref oT), (2, .int (nI xr))]) hx hb dX1_solve_16 hl (by decide) rfl (fun ls hl => ?_)
  have hL18 : ∀ (n_9 : Nat) (i : Nat), (popS ib 6) - i < n_9 → (i ≤ (popS ib 6)) → ∀ (H : Heap) (locs : List Loc), va_P g.1 vwCl [(oR, .inr (1, [.ref rW, .ref rC, .ref rO, .int (nI (popS ib 6)), .int (nI xr), .int (nI qb)])), (rW, .inl (g.2.2.1, 729, .inr (.inl (fun j => lN (xW j))))), (rC, .inl (g.2.2.1, 729, .inr (.inl (fun j => lN (xC j))))), (rO, .inl (g.2.1, 729, .inl (fun j => nI (xO j)))), (oT, .inr (8, [.ref aB, .ref aW, .ref aS, .ref aU, .ref aK, .int (nI fi), .int (nI ib), .int (nI sn)])), (aB, .inl (g.2.1, 20, .inl (fun j => nI (fB j)))), (aW, .inl (g.2.2.1, 20, .inr (.inl (fun j => lN (fW j)))))] H → va_D A [(oR, .inr (1, [.ref rW, .ref rC, .ref rO, .int (nI (popS ib 6)), .int (nI xr), .int (nI qb)])), (rW, .inl (g.2.2.1, 729, .inr (.inl (fun j => lN (xW j))))), (rC, .inl (g.2.2.1, 729, .inr (.inl (fun j => lN (xC j))))), (rO, .inl (g.2.1, 729, .inl (fun j => nI (xO j)))), (oT, .inr (8, [.ref aB, .ref aW, .ref aS, .ref aU, .ref aK, .int (nI fi), .int (nI ib), .int (nI sn)])), (aB, .inl (g.2.1, 20, .inl (fun j => nI (fB j)))), (aW, .inl (g.2.2.1, 20, .inr (.inl (fun j => lN (fW j)))))] → va_S A s.heap H locs → ∀ ls : Array Slot, lv_has ls 5 [(0, .ref oR), (1, .ref oT), (3, .int (nI (pw 3 i))), (4, .int (nI i))] → W p l e ({ frames := 4, cells := 0, slots := 0, locals := 90 }) s m ([.ref oR, .ref oT, .int (nI xr)] : List Value).toArray below meth c H locs 0 0 (MQ below (qMv g (fun (_ : Unit) => True) (fun (_ : Unit) => [(oR, .inr (1, [.ref rW, .ref rC, .ref rO, .int (nI (popS ib 6)), .int (nI xr), .int (nI ((fo (slF (popS ib 6) xr) ((fo (spF fB fW ib) (fo zF xW (pw 3 (popS ib 6))) fi), xC, xO, qb) (pw 3 (popS ib 6))).2.2.2))])), (rW, .inl (g.2.2.1, 729, .inr (.inl (fun j => lN ((fo (slF (popS ib 6) xr) ((fo (spF fB fW ib) (fo zF xW (pw 3 (popS ib 6))) fi), xC, xO, qb) (pw 3 (popS ib 6))).1 j))))), (rC, .inl (g.2.2.1, 729, .inr (.inl (fun j => lN ((fo (slF (popS ib 6) xr) ((fo (spF fB fW ib) (fo zF xW (pw 3 (popS ib 6))) fi), xC, xO, qb) (pw 3 (popS ib 6))).2.1 j))))), (rO, .inl (g.2.1, 729, .inl (fun j => nI ((fo (slF (popS ib 6) xr) ((fo (spF fB fW ib) (fo zF xW (pw 3 (popS ib 6))) fi), xC, xO, qb) (pw 3 (popS ib 6))).2.2.1 j)))), (oT, .inr (8, [.ref aB, .ref aW, .ref aS, .ref aU, .ref aK, .int (nI fi), .int (nI ib), .int (nI sn)])), (aB, .inl (g.2.1, 20, .inl (fun j => nI (fB j)))), (aW, .inl (g.2.2.1, 20, .inr (.inl (fun j => lN (fW j)))))]) A) ([.ref oR, .ref oT, .int (nI xr)] : List Value).toArray s 0 0 A) (F0 m 18 ls []) := by
   intro n_9
   induction n_9 with
   | zero => intro i hn_9; exact absurd hn_9 (Nat.not_lt_zero _)
   | succ n_9 ih18 =>
    intro i hn_9 hi H locs hP hD hS ls hl
    refine lv_iload hx hb dX1_solve_18 (lv_at hl 3 rfl) ?_
    refine lv_aload_n hx hb dX1_solve_20 rfl (lv_at hl 0 rfl) ?_
    refine va_get (D := g.1) (ci := 1) (v := .int (nI (popS ib 6))) (C := RX1) (T := TX1) (N := 6) hx hb hts hinX1 hown hC.1 hP 0 rfl rfl 3 (by decide) f32 (fun _ h9 => h9) rfl dX1_solve_21 ?_
    refine lv_icmp_ge (tgt := 37) hx hb dX1_solve_24 (by decide) (fun c24 => ?_) (fun c24 => ?_)
    ·have c24 : (popS ib 6) ≤ i := (nI_leI (a := popS ib 6) (b := i) (by omega) (by omega)).mp c24
     have h9 : i = (popS ib 6) := by omega
     rw [h9] at hl
     refine lv_aload_n hx hb dX1_solve_37 rfl (lv_at hl 0 rfl) ?_
     refine lv_aload_n hx hb dX1_solve_38 rfl (lv_at hl 1 rfl) ?_
     refine lv_iload_n hx hb dX1_solve_39 rfl (lv_at hl 2 rfl) ?_
     refine goMv (S := Unit) (wr := [(rC, .inl (g.2.2.1, 729, .inr (.inl (fun j => lN (xC j))))), (rO, .inl (g.2.1, 729, .inl (fun j => nI (xO j))))]) (va_runV (As := [.ref oT, .int (nI (pw 3 (popS ib 6)))]) (rest := []) ⟨hx, hb, hml, hown, hts⟩ (k_X1_spread l g _ oR rW rC rO (popS ib 6) xr qb oT aB aW aS aU aK fi ib sn xW fB fW (pw 3 (popS ib 6)) (by first | assumption | exact Nat.zero_le _ | omega) (by first | assumption | exact Nat.zero_le _ | omega) (by first | assumption | exact Nat.zero_le _ | omega) (by first | assumption | exact Nat.zero_le _ | omega)) (cwV 2 hts gX1_solve_X1_spread rfl rfl rfl ⟨rfl, hdX1_spread⟩ ⟨Nat.le_of_ble_eq_true rfl, Nat.le_of_ble_eq_true rfl⟩) (preVM hC (hP.sub [0, 1, 4, 5, 6] rfl) (hD.sub [0, 1, 4, 5, 6] (by decide) rfl) (va_recv hC.1 hP (ci := 1) (q0 := 0) rfl rfl)) rfl rfl hl.1 rfl (lv_room (Nat.le_of_ble_eq_true rfl)) dX1_solve_40 ⟨Nat.le_of_ble_eq_true rfl, Nat.le_of_ble_eq_true rfl⟩) hP hD hS hA [0, 1, 4, 5, 6] [2, 3] rfl rfl (by decide) (by decide) (fun _ H locs hw_9 hP hD hS => ?_)
     have hP : va_P g.1 vwCl [(rC, .inl (g.2.2.1, 729, .inr (.inl (fun j => lN (xC j))))), (rO, .inl (g.2.1, 729, .inl (fun j => nI (xO j)))), (oR, .inr (1, [.ref rW, .ref rC, .ref rO, .int (nI (popS ib 6)), .int (nI xr), .int (nI qb)])), (rW, .inl (g.2.2.1, 729, .inr (.inl (fun j => lN ((fo (spF fB fW ib) (fo zF xW (pw 3 (popS ib 6))) fi) j))))), (oT, .inr (8, [.ref aB, .ref aW, .ref aS, .ref aU, .ref aK, .int (nI fi), .int (nI ib), .int (nI sn)])), (aB, .inl (g.2.1, 20, .inl (fun j => nI (fB j)))), (aW, .inl (g.2.2.1, 20, .inr (.inl (fun j => lN (fW j)))))] H := hP
     have hD : va_D A [(rC, .inl (g.2.2.1, 729, .inr (.inl (fun j => lN (xC j))))), (rO, .inl (g.2.1, 729, .inl (fun j => nI (xO j)))), (oR, .inr (1, [.ref rW, .ref rC, .ref rO, .int (nI (popS ib 6)), .int (nI xr), .int (nI qb)])), (rW, .inl (g.2.2.1, 729, .inr (.inl (fun j => lN ((fo (spF fB fW ib) (fo zF xW (pw 3 (popS ib 6))) fi) j))))), (oT, .inr (8, [.ref aB, .ref aW, .ref aS, .ref aU, .ref aK, .int (nI fi), .int (nI ib), .int (nI sn)])), (aB, .inl (g.2.1, 20, .inl (fun j => nI (fB j)))), (aW, .inl (g.2.2.1, 20, .inr (.inl (fun j => lN (fW j)))))] := hD
     refine lv_iload_n hx hb dX1_solve_43 rfl (lv_at hl 2 rfl) ?_
     refine lv_iconst (v := nI 1) hx hb dX1_solve_44 (by decide) ?_
     refine lv_isub hx hb dX1_solve_45 ?_
     refine top_i (y := dnI (pw 3 (popS ib 6) - 0)) (dn_sub _) ?_
     refine lv_istore (lv' := [(4, .int (dnI (pw 3 (popS ib 6) - 0))), (0, .ref oR), (1, .ref oT), (3, .int (nI (pw 3 (popS ib 6))))]) hx hb dX1_solve_46 hl (by decide) rfl (fun ls hl => ?_)
     have hL48 : ∀ (n_9 : Nat) (k : Nat), pw 3 (popS ib 6) - k < n_9 → (k ≤ pw 3 (popS ib 6)) → ∀ (H : Heap) (locs : List Loc), va_P g.1 vwCl [(rC, .inl (g.2.2.1, 729, .inr (.inl (fun j => lN ((fo (slF (popS ib 6) xr) ((fo (spF fB fW ib) (fo zF xW (pw 3 (popS ib 6))) fi), xC, xO, qb) k).2.1 j))))), (rO, .inl (g.2.1, 729, .inl (fun j => nI ((fo (slF (popS ib 6) xr) ((fo (spF fB fW ib) (fo zF xW (pw 3 (popS ib 6))) fi), xC, xO, qb) k).2.2.1 j)))), (oR, .inr (1, [.ref rW, .ref rC, .ref rO, .int (nI (popS ib 6)), .int (nI xr), .int (nI ((fo (slF (popS ib 6) xr) ((fo (spF fB fW ib) (fo zF xW (pw 3 (popS ib 6))) fi), xC, xO, qb) k).2.2.2))])), (rW, .inl (g.2.2.1, 729, .inr (.inl (fun j => lN ((fo (slF (popS ib 6) xr) ((fo (spF fB fW ib) (fo zF xW (pw 3 (popS ib 6))) fi), xC, xO, qb) k).1 j))))), (oT, .inr (8, [.ref aB, .ref aW, .ref aS, .ref aU, .ref aK, .int (nI fi), .int (nI ib), .int (nI sn)])), (aB, .inl (g.2.1, 20, .inl (fun j => nI (fB j)))), (aW, .inl (g.2.2.1, 20, .inr (.inl (fun j => lN (fW j)))))] H → va_D A [(rC, .inl (g.2.2.1, 729, .inr (.inl (fun j => lN ((fo (slF (popS ib 6) xr) ((fo (spF fB fW ib) (fo zF xW (pw 3 (popS ib 6))) fi), xC, xO, qb) k).2.1 j))))), (rO, .inl (g.2.1, 729, .inl (fun j => nI ((fo (slF (popS ib 6) xr) ((fo (spF fB fW ib) (fo zF xW (pw 3 (popS ib 6))) fi), xC, xO, qb) k).2.2.1 j)))), (oR, .inr (1, [.ref rW, .ref rC, .ref rO, .int (nI (popS ib 6)), .int (nI xr), .int (nI ((fo (slF (popS ib 6) xr) ((fo (spF fB fW ib) (fo zF xW (pw 3 (popS ib 6))) fi), xC, xO, qb) k).2.2.2))])), (rW, .inl (g.2.2.1, 729, .inr (.inl (fun j => lN ((fo (slF (popS ib 6) xr) ((fo (spF fB fW ib) (fo zF xW (pw 3 (popS ib 6))) fi), xC, xO, qb) k).1 j))))), (oT, .inr (8, [.ref aB, .ref aW, .ref aS, .ref aU, .ref aK, .int (nI fi), .int (nI ib), .int (nI sn)])), (aB, .inl (g.2.1, 20, .inl (fun j => nI (fB j)))), (aW, .inl (g.2.2.1, 20, .inr (.inl (fun j => lN (fW j)))))] → va_S A s.heap H locs → ∀ ls : Array Slot, lv_has ls 5 [(0, .ref oR), (4, .int (dnI (pw 3 (popS ib 6) - k)))] → W p l e ({ frames := 4, cells := 0, slots := 0, locals := 90 }) s m ([.ref oR, .ref oT, .int (nI xr)] : List Value).toArray below meth c H locs 0 0 (MQ below (qMv g (fun (_ : Unit) => True) (fun (_ : Unit) => [(oR, .inr (1, [.ref rW, .ref rC, .ref rO, .int (nI (popS ib 6)), .int (nI xr), .int (nI ((fo (slF (popS ib 6) xr) ((fo (spF fB fW ib) (fo zF xW (pw 3 (popS ib 6))) fi), xC, xO, qb) (pw 3 (popS ib 6))).2.2.2))])), (rW, .inl (g.2.2.1, 729, .inr (.inl (fun j => lN ((fo (slF (popS ib 6) xr) ((fo (spF fB fW ib) (fo zF xW (pw 3 (popS ib 6))) fi), xC, xO, qb) (pw 3 (popS ib 6))).1 j))))), (rC, .inl (g.2.2.1, 729, .inr (.inl (fun j => lN ((fo (slF (popS ib 6) xr) ((fo (spF fB fW ib) (fo zF xW (pw 3 (popS ib 6))) fi), xC, xO, qb) (pw 3 (popS ib 6))).2.1 j))))), (rO, .inl (g.2.1, 729, .inl (fun j => nI ((fo (slF (popS ib 6) xr) ((fo (spF fB fW ib) (fo zF xW (pw 3 (popS ib 6))) fi), xC, xO, qb) (pw 3 (popS ib 6))).2.2.1 j)))), (oT, .inr (8, [.ref aB, .ref aW, .ref aS, .ref aU, .ref aK, .int (nI fi), .int (nI ib), .int (nI sn)])), (aB, .inl (g.2.1, 20, .inl (fun j => nI (fB j)))), (aW, .inl (g.2.2.1, 20, .inr (.inl (fun j => lN (fW j)))))]) A) ([.ref oR, .ref oT, .int (nI xr)] : List Value).toArray s 0 0 A) (F0 m 48 ls []) := by
      intro n_9
      induction n_9 with
      | zero => intro k hn_9; exact absurd hn_9 (Nat.not_lt_zero _)
      | succ n_9 ih48 =>
       intro k hn_9 hk H locs hP hD hS ls hl
       refine lv_iload hx hb dX1_solve_48 (lv_at hl 1 rfl) ?_
       refine lv_if_lt (tgt := 65) hx hb dX1_solve_50 (by decide) (fun c50 => ?_) (fun c50 => ?_)
       ·have hk9 : k = pw 3 (popS ib 6) := by
          rcases Nat.lt_or_ge k (pw 3 (popS ib 6)) with q | q
          · exact absurd c50 (dnI_p (by omega) (by omega))
          · omega
        exact retMv (w := [(oR, .inr (1, [.ref rW, .ref rC, .ref rO, .int (nI (popS ib 6)), .int (nI xr), .int (nI ((fo (slF (popS ib 6) xr) ((fo (spF fB fW ib) (fo zF xW (pw 3 (popS ib 6))) fi), xC, xO, qb) k).2.2.2))])), (rW, .inl (g.2.2.1, 729, .inr (.inl (fun j => lN ((fo (slF (popS ib 6) xr) ((fo (spF fB fW ib) (fo zF xW (pw 3 (popS ib 6))) fi), xC, xO, qb) k).1 j))))), (rC, .inl (g.2.2.1, 729, .inr (.inl (fun j => lN ((fo (slF (popS ib 6) xr) ((fo (spF fB fW ib) (fo zF xW (pw 3 (popS ib 6))) fi), xC, xO, qb) k).2.1 j))))), (rO, .inl (g.2.1, 729, .inl (fun j => nI ((fo (slF (popS ib 6) xr) ((fo (spF fB fW ib) (fo zF xW (pw 3 (popS ib 6))) fi), xC, xO, qb) k).2.2.1 j)))), (oT, .inr (8, [.ref aB, .ref aW, .ref aS, .ref aU, .ref aK, .int (nI fi), .int (nI ib), .int (nI sn)])), (aB, .inl (g.2.1, 20, .inl (fun j => nI (fB j)))), (aW, .inl (g.2.2.1, 20, .inr (.inl (fun j => lN (fW j)))))]) hx hb hr hlocks (hP.sub [2, 3, 0, 1, 4, 5, 6] rfl) (hD.sub [2, 3, 0, 1, 4, 5, 6] (by decide) rfl) hS () (by rw [show k = pw 3 (popS ib 6) by omega] <;> rfl) (trivial) dX1_solve_65
       ·have hk9 : k < pw 3 (popS ib 6) := by
          rcases Nat.lt_or_ge k (pw 3 (popS ib 6)) with q | q
          · exact q
          · exact absurd (by rw [show pw 3 (popS ib 6) - k = 0 by omega]; exact dnI_0) c50
        have ho9 := hok k (by omega)
        refine lv_aload_n hx hb dX1_solve_53 rfl (lv_at hl 0 rfl) ?_
        refine lv_iload hx hb dX1_solve_54 (lv_at hl 1 rfl) ?_
        refine top_i (y := nI (pw 3 (popS ib 6) - 1 - k)) (by rw [show pw 3 (popS ib 6) - k = (pw 3 (popS ib 6) - 1 - k) + 1 by omega]; exact dnI_s _) ?_
        refine goMv (S := Unit) (wr := [(oT, .inr (8, [.ref aB, .ref aW, .ref aS, .ref aU, .ref aK, .int (nI fi), .int (nI ib), .int (nI sn)])), (aB, .inl (g.2.1, 20, .inl (fun j => nI (fB j)))), (aW, .inl (g.2.2.1, 20, .inr (.inl (fun j => lN (fW j)))))]) (va_runV (As := [.int (nI (pw 3 (popS ib 6) - 1 - k))]) (rest := []) ⟨hx, hb, hml, hown, hts⟩ (k_X1_solveState l g _ oR rW rC rO (popS ib 6) xr ((fo (slF (popS ib 6) xr) ((fo (spF fB fW ib) (fo zF xW (pw 3 (popS ib 6))) fi), xC, xO, qb) k).2.2.2) ((fo (slF (popS ib 6) xr) ((fo (spF fB fW ib) (fo zF xW (pw 3 (popS ib 6))) fi), xC, xO, qb) k).1) ((fo (slF (popS ib 6) xr) ((fo (spF fB fW ib) (fo zF xW (pw 3 (popS ib 6))) fi), xC, xO, qb) k).2.1) ((fo (slF (popS ib 6) xr) ((fo (spF fB fW ib) (fo zF xW (pw 3 (popS ib 6))) fi), xC, xO, qb) k).2.2.1) (pw 3 (popS ib 6) - 1 - k) (by omega) (by omega) (fun j h1 h2 => (ho9 j h2).2 (by omega)) (fun j h1 => (ho9 j h1).1) (by first | assumption | exact Nat.zero_le _ | omega)) (cwV 1 hts gX1_solve_X1_solveState rfl rfl rfl ⟨rfl, hdX1_solveState⟩ ⟨Nat.le_of_ble_eq_true rfl, Nat.le_of_ble_eq_true rfl⟩) (preVM hC (hP.sub [2, 3, 0, 1] rfl) (hD.sub [2, 3, 0, 1] (by decide) rfl) (va_recv hC.1 hP (ci := 1) (q0 := 2) rfl rfl)) rfl rfl hl.1 rfl (lv_room (Nat.le_of_ble_eq_true rfl)) dX1_solve_56 ⟨Nat.le_of_ble_eq_true rfl, Nat.le_of_ble_eq_true rfl⟩) hP hD hS hA [2, 3, 0, 1] [4, 5, 6] rfl rfl (by decide) (by decide) (fun _ H locs hw_9 hP hD hS => ?_)
        have hP : va_P g.1 vwCl [(oT, .inr (8, [.ref aB, .ref aW, .ref aS, .ref aU, .ref aK, .int (nI fi), .int (nI ib), .int (nI sn)])), (aB, .inl (g.2.1, 20, .inl (fun j => nI (fB j)))), (aW, .inl (g.2.2.1, 20, .inr (.inl (fun j => lN (fW j))))), (oR, .inr (1, [.ref rW, .ref rC, .ref rO, .int (nI (popS ib 6)), .int (nI xr), .int (nI ((brS (popS ib 6) xr (((fo (slF (popS ib 6) xr) ((fo (spF fB fW ib) (fo zF xW (pw 3 (popS ib 6))) fi), xC, xO, qb) k).1), ((fo (slF (popS ib 6) xr) ((fo (spF fB fW ib) (fo zF xW (pw 3 (popS ib 6))) fi), xC, xO, qb) k).2.1), ((fo (slF (popS ib 6) xr) ((fo (spF fB fW ib) (fo zF xW (pw 3 (popS ib 6))) fi), xC, xO, qb) k).2.2.1), ((fo (slF (popS ib 6) xr) ((fo (spF fB fW ib) (fo zF xW (pw 3 (popS ib 6))) fi), xC, xO, qb) k).2.2.2)) (pw 3 (popS ib 6) - 1 - k)).2.2.2))])), (rW, .inl (g.2.2.1, 729, .inr (.inl (fun j => lN ((brS (popS ib 6) xr (((fo (slF (popS ib 6) xr) ((fo (spF fB fW ib) (fo zF xW (pw 3 (popS ib 6))) fi), xC, xO, qb) k).1), ((fo (slF (popS ib 6) xr) ((fo (spF fB fW ib) (fo zF xW (pw 3 (popS ib 6))) fi), xC, xO, qb) k).2.1), ((fo (slF (popS ib 6) xr) ((fo (spF fB fW ib) (fo zF xW (pw 3 (popS ib 6))) fi), xC, xO, qb) k).2.2.1), ((fo (slF (popS ib 6) xr) ((fo (spF fB fW ib) (fo zF xW (pw 3 (popS ib 6))) fi), xC, xO, qb) k).2.2.2)) (pw 3 (popS ib 6) - 1 - k)).1 j))))), (rC, .inl (g.2.2.1, 729, .inr (.inl (fun j => lN ((brS (popS ib 6) xr (((fo (slF (popS ib 6) xr) ((fo (spF fB fW ib) (fo zF xW (pw 3 (popS ib 6))) fi), xC, xO, qb) k).1), ((fo (slF (popS ib 6) xr) ((fo (spF fB fW ib) (fo zF xW (pw 3 (popS ib 6))) fi), xC, xO, qb) k).2.1), ((fo (slF (popS ib 6) xr) ((fo (spF fB fW ib) (fo zF xW (pw 3 (popS ib 6))) fi), xC, xO, qb) k).2.2.1), ((fo (slF (popS ib 6) xr) ((fo (spF fB fW ib) (fo zF xW (pw 3 (popS ib 6))) fi), xC, xO, qb) k).2.2.2)) (pw 3 (popS ib 6) - 1 - k)).2.1 j))))), (rO, .inl (g.2.1, 729, .inl (fun j => nI ((brS (popS ib 6) xr (((fo (slF (popS ib 6) xr) ((fo (spF fB fW ib) (fo zF xW (pw 3 (popS ib 6))) fi), xC, xO, qb) k).1), ((fo (slF (popS ib 6) xr) ((fo (spF fB fW ib) (fo zF xW (pw 3 (popS ib 6))) fi), xC, xO, qb) k).2.1), ((fo (slF (popS ib 6) xr) ((fo (spF fB fW ib) (fo zF xW (pw 3 (popS ib 6))) fi), xC, xO, qb) k).2.2.1), ((fo (slF (popS ib 6) xr) ((fo (spF fB fW ib) (fo zF xW (pw 3 (popS ib 6))) fi), xC, xO, qb) k).2.2.2)) (pw 3 (popS ib 6) - 1 - k)).2.2.1 j))))] H := hP
        have hD : va_D A [(oT, .inr (8, [.ref aB, .ref aW, .ref aS, .ref aU, .ref aK, .int (nI fi), .int (nI ib), .int (nI sn)])), (aB, .inl (g.2.1, 20, .inl (fun j => nI (fB j)))), (aW, .inl (g.2.2.1, 20, .inr (.inl (fun j => lN (fW j))))), (oR, .inr (1, [.ref rW, .ref rC, .ref rO, .int (nI (popS ib 6)), .int (nI xr), .int (nI ((brS (popS ib 6) xr (((fo (slF (popS ib 6) xr) ((fo (spF fB fW ib) (fo zF xW (pw 3 (popS ib 6))) fi), xC, xO, qb) k).1), ((fo (slF (popS ib 6) xr) ((fo (spF fB fW ib) (fo zF xW (pw 3 (popS ib 6))) fi), xC, xO, qb) k).2.1), ((fo (slF (popS ib 6) xr) ((fo (spF fB fW ib) (fo zF xW (pw 3 (popS ib 6))) fi), xC, xO, qb) k).2.2.1), ((fo (slF (popS ib 6) xr) ((fo (spF fB fW ib) (fo zF xW (pw 3 (popS ib 6))) fi), xC, xO, qb) k).2.2.2)) (pw 3 (popS ib 6) - 1 - k)).2.2.2))])), (rW, .inl (g.2.2.1, 729, .inr (.inl (fun j => lN ((brS (popS ib 6) xr (((fo (slF (popS ib 6) xr) ((fo (spF fB fW ib) (fo zF xW (pw 3 (popS ib 6))) fi), xC, xO, qb) k).1), ((fo (slF (popS ib 6) xr) ((fo (spF fB fW ib) (fo zF xW (pw 3 (popS ib 6))) fi), xC, xO, qb) k).2.1), ((fo (slF (popS ib 6) xr) ((fo (spF fB fW ib) (fo zF xW (pw 3 (popS ib 6))) fi), xC, xO, qb) k).2.2.1), ((fo (slF (popS ib 6) xr) ((fo (spF fB fW ib) (fo zF xW (pw 3 (popS ib 6))) fi), xC, xO, qb) k).2.2.2)) (pw 3 (popS ib 6) - 1 - k)).1 j))))), (rC, .inl (g.2.2.1, 729, .inr (.inl (fun j => lN ((brS (popS ib 6) xr (((fo (slF (popS ib 6) xr) ((fo (spF fB fW ib) (fo zF xW (pw 3 (popS ib 6))) fi), xC, xO, qb) k).1), ((fo (slF (popS ib 6) xr) ((fo (spF fB fW ib) (fo zF xW (pw 3 (popS ib 6))) fi), xC, xO, qb) k).2.1), ((fo (slF (popS ib 6) xr) ((fo (spF fB fW ib) (fo zF xW (pw 3 (popS ib 6))) fi), xC, xO, qb) k).2.2.1), ((fo (slF (popS ib 6) xr) ((fo (spF fB fW ib) (fo zF xW (pw 3 (popS ib 6))) fi), xC, xO, qb) k).2.2.2)) (pw 3 (popS ib 6) - 1 - k)).2.1 j))))), (rO, .inl (g.2.1, 729, .inl (fun j => nI ((brS (popS ib 6) xr (((fo (slF (popS ib 6) xr) ((fo (spF fB fW ib) (fo zF xW (pw 3 (popS ib 6))) fi), xC, xO, qb) k).1), ((fo (slF (popS ib 6) xr) ((fo (spF fB fW ib) (fo zF xW (pw 3 (popS ib 6))) fi), xC, xO, qb) k).2.1), ((fo (slF (popS ib 6) xr) ((fo (spF fB fW ib) (fo zF xW (pw 3 (popS ib 6))) fi), xC, xO, qb) k).2.2.1), ((fo (slF (popS ib 6) xr) ((fo (spF fB fW ib) (fo zF xW (pw 3 (popS ib 6))) fi), xC, xO, qb) k).2.2.2)) (pw 3 (popS ib 6) - 1 - k)).2.2.1 j))))] := hD
        refine lv_iinc (v := dnI (pw 3 (popS ib 6) - (k + 1))) (lv' := [(4, .int (dnI (pw 3 (popS ib 6) - (k + 1)))), (0, .ref oR)]) hx hb dX1_solve_59 hl (k := 1) rfl (by rw [show pw 3 (popS ib 6) - k = (pw 3 (popS ib 6) - 1 - k) + 1 by omega, dnI_s, show pw 3 (popS ib 6) - 1 - k = pw 3 (popS ib 6) - (k + 1) by omega]; rfl) (by decide) rfl (fun ls hl => ?_)
        refine lv_goto (tgt := 48) hx hb dX1_solve_62 (by decide) ?_
        exact ih48 (k + 1) (by omega) (by first | assumption | exact Nat.zero_le _ | omega) _ _ (hP.sub [5, 6, 3, 4, 0, 1, 2] rfl) (hD.sub [5, 6, 3, 4, 0, 1, 2] (by decide) rfl) hS ls (lv_sub hl [1, 0] rfl)
     exact hL48 _ 0 (Nat.lt_succ_self _) (by first | assumption | exact Nat.zero_le _ | omega) _ _ hP hD hS ls (lv_sub hl [1, 0] rfl)
    ·have c24 : ¬ (popS ib 6) ≤ i := fun h9 => c24 ((nI_leI (a := popS ib 6) (b := i) (by omega) (by omega)).mpr h9)
     refine lv_iload_n hx hb dX1_solve_27 rfl (lv_at hl 2 rfl) ?_
     refine lv_iconst (v := nI 3) hx hb dX1_solve_28 (by decide) ?_
     refine lv_imul hx hb dX1_solve_29 ?_
     refine top_i (y := nI ((pw 3 i) * 3)) (pk_mul _ _) ?_
     refine lv_istore_n (lv' := [(3, .int (nI ((pw 3 i) * 3))), (0, .ref oR), (1, .ref oT), (4, .int (nI i))]) hx hb dX1_solve_30 rfl hl (by decide) rfl (fun ls hl => ?_)
     refine lv_iinc (v := nI (i + 1)) (lv' := [(4, .int (nI (i + 1))), (3, .int (nI ((pw 3 i) * 3))), (0, .ref oR), (1, .ref oT)]) hx hb dX1_solve_31 hl (k := 3) rfl (iinc1 _) (by decide) rfl (fun ls hl => ?_)
     refine lv_goto (tgt := 18) hx hb dX1_solve_34 (by decide) ?_
     exact ih18 (i + 1) (by omega) (by first | assumption | exact Nat.zero_le _ | omega) _ _ hP hD hS ls (lv_sub hl [2, 3, 1, 0] rfl)
  exact hL18 _ 0 (Nat.lt_succ_self _) (by first | assumption | exact Nat.zero_le _ | omega) _ _ hP hD hS ls (lv_sub hl [2, 3, 1, 0] rfl)

set_option maxHeartbeats 4000000 in
set_option maxRecDepth 100000 in
/-- BoiledEggs$Breaking.fewestAtWorst  -/
theorem k_X1_fewestAtWorst (l : Launch) (g : GG) (oR : Nat) (rW : Nat) (rC : Nat) (rO : Nat) (qP : Int32) (qN : Int32) (qB : Int32) (xO : Nat → Nat)  : Met l yX1_fewestAtWorst wsX1_fewestAtWorst ({ frames := 0, cells := 0, slots := 0, locals := 0 }) (pS g [.ref oR] [(oR, .inr (1, [.ref rW, .ref rC, .ref rO, .int qP, .int qN, .int qB])), (rO, .inl (g.2.1, 729, .inl (fun j => nI (xO j))))]) (vp_Si (fun r => r = (nI (xO 0)))) 0 0 noF := by
  refine metS (cc := cX1_fewestAtWorst) (maxL := 1) (ret := (some .int)) (by decide) rfl (Nat.le_of_ble_eq_true rfl) ?_
  intro p e s m below meth c hx hb hr hts hown hlocks hml hC hP ls hl
  have hl : lv_has ls 1 [(0, .ref oR)] := hl
  have hown : s.vm.findClass RX1 = some m.cls := hown
  have hts : ∀ w ∈ wsX1_fewestAtWorst, w.before ([.ref oR] : List Value).toArray s = true := hts
  have hinX1 := (by decide +kernel : ∀ w ∈ u_ws RX1 TX1 6, w ∈ wsX1_fewestAtWorst)
  have f18 := hts (.fieldLink RX1 18 "BoiledEggs$Breaking" "worsts" "[I") (by decide +kernel)
  refine lv_aload_n hx hb dX1_fewestAtWorst_0 rfl (lv_at hl 0 rfl) ?_
  refine va_get (D := g.1) (ci := 1) (v := .ref rO) (C := RX1) (T := TX1) (N := 6) hx hb hts hinX1 hown hC.1 hP 0 rfl rfl 2 (by decide) f18 (fun _ h9 => h9) rfl dX1_fewestAtWorst_1 ?_
  refine lv_iconst (v := nI 0) hx hb dX1_fewestAtWorst_4 (by decide) ?_
  refine ald_i (f := fun j => nI (xO j)) (j := 0) hx hb hC hP 1 rfl (by omega) (by decide) dX1_fewestAtWorst_5 ?_
  exact retSi hx hb hr hlocks (rfl) dX1_fewestAtWorst_6

set_option maxHeartbeats 4000000 in
set_option maxRecDepth 100000 in
/-- BoiledEggs$Breaking.fewestByWeight  -/
theorem k_X1_fewestByWeight (l : Launch) (g : GG) (oR : Nat) (rW : Nat) (rC : Nat) (rO : Nat) (qP : Int32) (qN : Int32) (qB : Int32) (xC : Nat → Nat)  : Met l yX1_fewestByWeight wsX1_fewestByWeight ({ frames := 0, cells := 0, slots := 0, locals := 0 }) (pS g [.ref oR] [(oR, .inr (1, [.ref rW, .ref rC, .ref rO, .int qP, .int qN, .int qB])), (rC, .inl (g.2.2.1, 729, .inr (.inl (fun j => lN (xC j)))))]) (vp_Sl (fun r => r = (lN (xC 0)))) 0 0 noF := by
  refine metS (cc := cX1_fewestByWeight) (maxL := 1) (ret := (some .long)) (by decide) rfl (Nat.le_of_ble_eq_true rfl) ?_
  intro p e s m below meth c hx hb hr hts hown hlocks hml hC hP ls hl
  have hl : lv_has ls 1 [(0, .ref oR)] := hl
  have hown : s.vm.findClass RX1 = some m.cls := hown
  have hts : ∀ w ∈ wsX1_fewestByWeight, w.before ([.ref oR] : List Value).toArray s = true := hts
  have hinX1 := (by decide +kernel : ∀ w ∈ u_ws RX1 TX1 6, w ∈ wsX1_fewestByWeight)
  have f15 := hts (.fieldLink RX1 15 "BoiledEggs$Breaking" "costs" "[J") (by decide +kernel)
  refine lv_aload_n hx hb dX1_fewestByWeight_0 rfl (lv_at hl 0 rfl) ?_
  refine va_get (D := g.1) (ci := 1) (v := .ref rC) (C := RX1) (T := TX1) (N := 6) hx hb hts hinX1 hown hC.1 hP 0 rfl rfl 1 (by decide) f15 (fun _ h9 => h9) rfl dX1_fewestByWeight_1 ?_
  refine lv_iconst (v := nI 0) hx hb dX1_fewestByWeight_4 (by decide) ?_
  refine ald_l (f := fun j => lN (xC j)) (j := 0) hx hb hC hP 1 rfl (by omega) (by decide) dX1_fewestByWeight_5 ?_
  exact retSl hx hb hr hlocks (rfl) dX1_fewestByWeight_6

set_option maxHeartbeats 4000000 in
set_option maxRecDepth 100000 in
/-- BoiledEggs$Breaking.firstPlace  -/
theorem k_X1_firstPlace (l : Launch) (g : GG) (oR : Nat) (rW : Nat) (rC : Nat) (rO : Nat) (qP : Int32) (qN : Int32) (qB : Int32)  : Met l yX1_firstPlace wsX1_firstPlace ({ frames := 0, cells := 0, slots := 0, locals := 0 }) (pS g [.ref oR] [(oR, .inr (1, [.ref rW, .ref rC, .ref rO, .int qP, .int qN, .int qB]))]) (vp_Si (fun r => r = qB)) 0 0 noF := by
  refine metS (cc := cX1_firstPlace) (maxL := 1) (ret := (some .int)) (by decide) rfl (Nat.le_of_ble_eq_true rfl) ?_
  intro p e s m below meth c hx hb hr hts hown hlocks hml hC hP ls hl
  have hl : lv_has ls 1 [(0, .ref oR)] := hl
  have hown : s.vm.findClass RX1 = some m.cls := hown
  have hts : ∀ w ∈ wsX1_firstPlace, w.before ([.ref oR] : List Value).toArray s = true := hts
  have hinX1 := (by decide +kernel : ∀ w ∈ u_ws RX1 TX1 6, w ∈ wsX1_firstPlace)
  have f43 := hts (.fieldLink RX1 43 "BoiledEggs$Breaking" "bestPlace" "I") (by decide +kernel)
  refine lv_aload_n hx hb dX1_firstPlace_0 rfl (lv_at hl 0 rfl) ?_
  refine va_get (D := g.1) (ci := 1) (v := .int qB) (C := RX1) (T := TX1) (N := 6) hx hb hts hinX1 hown hC.1 hP 0 rfl rfl 5 (by decide) f43 (fun _ h9 => h9) rfl dX1_firstPlace_1 ?_
  exact retSi hx hb hr hlocks (rfl) dX1_firstPlace_4
