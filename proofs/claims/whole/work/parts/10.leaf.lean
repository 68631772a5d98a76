/-! counted loops, contents of rows as numbers -/
def fo {α : Type} (F : α → Nat → α) (a : α) : Nat → α
  | 0 => a
  | i + 1 => F (fo F a i) i
def updN (f : Nat → Nat) (k v : Nat) : Nat → Nat := fun j => if j = k then v else f j
theorem upd_nI (f : Nat → Nat) (k v : Nat) : upd (fun j => nI (f j)) k (nI v) = fun j => nI (updN f k v j) := by
  funext j
  by_cases h : j = k <;> simp [upd, updN, h]
theorem updL_lN (f : Nat → Nat) (k v : Nat) : vp_updL (fun j => lN (f j)) k (lN v) = fun j => lN (updN f k v j) := by
  funext j
  by_cases h : j = k <;> simp [vp_updL, updN, h]
theorem sh31 : ∀ n, n < 32 → ((nI n &&& 31).toBitVec.smod 32).toNat = n := by decide +kernel
theorem shr_nI {b e : Nat} (hb : b < 2 ^ 31) (he : e < 32) : nI b >>> (nI e &&& 31) = nI (b / 2 ^ e) := pk_shrN hb _ e (sh31 e he)
theorem shl_nI {b e : Nat} (he : e < 32) (h : b * 2 ^ e < 2 ^ 32) : nI b <<< (nI e &&& 31) = nI (b * 2 ^ e) := pk_shlN _ e (sh31 e he) h
theorem shl1_nI {e : Nat} (he : e < 31) : nI 1 <<< (nI e &&& 31) = nI (2 ^ e) := by
  have h : (2 : Nat) ^ e < 2 ^ 32 := Nat.pow_lt_pow_right (by decide) (by omega)
  rw [shl_nI (by omega) (by omega), Nat.one_mul]
theorem and1_nI {n : Nat} (h : n < 2 ^ 32) : nI n &&& nI 1 = nI (n % 2) := pk_andN h 1 (by decide)
theorem div_lt31 {b e : Nat} (hb : b < 2 ^ 31) : b / 2 ^ e < 2 ^ 31 := Nat.lt_of_le_of_lt (Nat.div_le_self _ _) hb
def popS (b : Nat) (k : Nat) : Nat := fo (fun a k => a + b / 2 ^ k % 2) 0 k
/-- Integer.bitCount, step by step -/
def us (x y : Int32) : Int32 := (x.toUInt32 >>> (y.toUInt32 &&& Int32.toUInt32 31)).toInt32
def bcA (x : Int32) : Int32 := x - (us x (nI 1) &&& 1431655765)
def bcB (x : Int32) : Int32 := (x &&& 858993459) + (us x (nI 2) &&& 858993459)
def bcC (x : Int32) : Int32 := (x + us x (nI 4)) &&& 252645135
def bcD (x : Int32) : Int32 := x + us x (nI 8)
def bcE (x : Int32) : Int32 := x + us x (nI 16)
theorem bc6 : ∀ b, b < 64 → bcE (bcD (bcC (bcB (bcA (nI b))))) &&& nI 63 = nI (popS b 6) := by decide +kernel
theorem tb_t {b e : Nat} (h : b / 2 ^ e % 2 = 1) : b.testBit e = true := by rw [Nat.testBit_eq_decide_div_mod_eq]; simpa using h
theorem tb_f {b e : Nat} (h : ¬ b / 2 ^ e % 2 = 1) : b.testBit e = false := by rw [Nat.testBit_eq_decide_div_mod_eq]; simpa using h
def pw (x k : Nat) : Nat := fo (fun a _ => a * x) 1 k
def wth (w lo hi : Int32) : Bool := decide (lo ≤ w ∧ w ≤ hi)
set_option maxHeartbeats 4000000 in
set_option maxRecDepth 100000 in
/-- BoiledEggs.has a bit of a number -/
theorem k_X10_has (l : Launch) (g : GG) (xb : Nat) (xe : Nat) (hb0 : xb < 2 ^ 31) (he0 : xe < 31) : Met l yX10_has wsX10_has ({ frames := 0, cells := 0, slots := 0, locals := 0 }) (pS g [.int (nI xb), .int (nI xe)] []) (vp_Si (fun r => r = (zI (xb.testBit xe)))) 0 0 noF := by
  refine metS (cc := cX10_has) (maxL := 2) (ret := (some .boolean)) (by decide) rfl (Nat.le_of_ble_eq_true rfl) ?_
  intro p e s m below meth c hx hb hr hts hown hlocks hml hC hP ls hl
  have hl : lv_has ls 2 [(0, .int (nI xb)), (1, .int (nI xe))] := hl
  have hown : s.vm.findClass RX10 = some m.cls := hown
  have hts : ∀ w ∈ wsX10_has, w.before ([.int (nI xb), .int (nI xe)] : List Value).toArray s = true := hts
  refine lv_iload_n hx hb dX10_has_0 rfl (lv_at hl 0 rfl) ?_
  refine lv_iload_n hx hb dX10_has_1 rfl (lv_at hl 1 rfl) ?_
  refine lv_ishr hx hb dX10_has_2 ?_
  refine top_i (y := nI (xb / 2 ^ xe)) (shr_nI hb0 (by omega)) ?_
  refine lv_iconst (v := nI 1) hx hb dX10_has_3 (by decide) ?_
  refine lv_iand hx hb dX10_has_4 ?_
  refine top_i (y := nI (xb / 2 ^ xe % 2)) (and1_nI (by have := div_lt31 (e := xe) hb0; omega)) ?_
  refine lv_iconst (v := nI 1) hx hb dX10_has_5 (by decide) ?_
  refine lv_icmp_ne (tgt := 13) hx hb dX10_has_6 (by decide) (fun c6 => ?_) (fun c6 => ?_)
  ·have c6 : ¬ (xb / 2 ^ xe % 2) = 1 := fun h9 => c6 ((nI_eq (a := xb / 2 ^ xe % 2) (b := 1) (by omega) (by omega)).mpr h9)
   refine lv_iconst (v := nI 0) hx hb dX10_has_13 (by decide) ?_
   exact retSz hx hb hr hlocks (by decide) (by first | exact zI_1 (tb_t ‹_›) | exact zI_0 (tb_f ‹_›)) dX10_has_14
  ·have c6 : (xb / 2 ^ xe % 2) = 1 := (nI_eq (a := xb / 2 ^ xe % 2) (b := 1) (by omega) (by omega)).mp c6
   refine lv_iconst (v := nI 1) hx hb dX10_has_9 (by decide) ?_
   refine lv_goto (tgt := 14) hx hb dX10_has_10 (by decide) ?_
   exact retSz hx hb hr hlocks (by decide) (by first | exact zI_1 (tb_t ‹_›) | exact zI_0 (tb_f ‹_›)) dX10_has_14

set_option maxHeartbeats 4000000 in
set_option maxRecDepth 100000 in
/-- BoiledEggsModel.has a bit of a number -/
theorem k_X11_has (l : Launch) (g : GG) (xb : Nat) (xe : Nat) (hb0 : xb < 2 ^ 31) (he0 : xe < 31) : Met l yX11_has wsX11_has ({ frames := 0, cells := 0, slots := 0, locals := 0 }) (pS g [.int (nI xb), .int (nI xe)] []) (vp_Si (fun r => r = (zI (xb.testBit xe)))) 0 0 noF := by
  refine metS (cc := cX11_has) (maxL := 2) (ret := (some .boolean)) (by decide) rfl (Nat.le_of_ble_eq_true rfl) ?_
  intro p e s m below meth c hx hb hr hts hown hlocks hml hC hP ls hl
  have hl : lv_has ls 2 [(0, .int (nI xb)), (1, .int (nI xe))] := hl
  have hown : s.vm.findClass RX11 = some m.cls := hown
  have hts : ∀ w ∈ wsX11_has, w.before ([.int (nI xb), .int (nI xe)] : List Value).toArray s = true := hts
  refine lv_iload_n hx hb dX11_has_0 rfl (lv_at hl 0 rfl) ?_
  refine lv_iload_n hx hb dX11_has_1 rfl (lv_at hl 1 rfl) ?_
  refine lv_ishr hx hb dX11_has_2 ?_
  refine top_i (y := nI (xb / 2 ^ xe)) (shr_nI hb0 (by omega)) ?_
  refine lv_iconst (v := nI 1) hx hb dX11_has_3 (by decide) ?_
  refine lv_iand hx hb dX11_has_4 ?_
  refine top_i (y := nI (xb / 2 ^ xe % 2)) (and1_nI (by have := div_lt31 (e := xe) hb0; omega)) ?_
  refine lv_iconst (v := nI 1) hx hb dX11_has_5 (by decide) ?_
  refine lv_icmp_ne (tgt := 13) hx hb dX11_has_6 (by decide) (fun c6 => ?_) (fun c6 => ?_)
  ·have c6 : ¬ (xb / 2 ^ xe % 2) = 1 := fun h9 => c6 ((nI_eq (a := xb / 2 ^ xe % 2) (b := 1) (by omega) (by omega)).mpr h9)
   refine lv_iconst (v := nI 0) hx hb dX11_has_13 (by decide) ?_
   exact retSz hx hb hr hlocks (by decide) (by first | exact zI_1 (tb_t ‹_›) | exact zI_0 (tb_f ‹_›)) dX11_has_14
  ·have c6 : (xb / 2 ^ xe % 2) = 1 := (nI_eq (a := xb / 2 ^ xe % 2) (b := 1) (by omega) (by omega)).mp c6
   refine lv_iconst (v := nI 1) hx hb dX11_has_9 (by decide) ?_
   refine lv_goto (tgt := 14) hx hb dX11_has_10 (by decide) ?_
   exact retSz hx hb hr hlocks (by decide) (by first | exact zI_1 (tb_t ‹_›) | exact zI_0 (tb_f ‹_›)) dX11_has_14

set_option maxHeartbeats 4000000 in
set_option maxRecDepth 100000 in
/-- BoiledEggsModel.within  -/
theorem k_X11_within (l : Launch) (g : GG) (xv : Int32) (xl : Int32) (xh : Int32)  : Met l yX11_within wsX11_within ({ frames := 0, cells := 0, slots := 0, locals := 0 }) (pS g [.int xv, .int xl, .int xh] []) (vp_Si (fun r => r = (zI (wth xv xl xh)))) 0 0 noF := by
  refine metS (cc := cX11_within) (maxL := 3) (ret := (some .boolean)) (by decide) rfl (Nat.le_of_ble_eq_true rfl) ?_
  intro p e s m below meth c hx hb hr hts hown hlocks hml hC hP ls hl
  have hl : lv_has ls 3 [(0, .int xv), (1, .int xl), (2, .int xh)] := hl
  have hown : s.vm.findClass RX11 = some m.cls := hown
  have hts : ∀ w ∈ wsX11_within, w.before ([.int xv, .int xl, .int xh] : List Value).toArray s = true := hts
  refine lv_iload_n hx hb dX11_within_0 rfl (lv_at hl 0 rfl) ?_
  refine lv_iload_n hx hb dX11_within_1 rfl (lv_at hl 1 rfl) ?_
  refine lv_icmp_lt (tgt := 14) hx hb dX11_within_2 (by decide) (fun c2 => ?_) (fun c2 => ?_)
  ·refine lv_iconst (v := nI 0) hx hb dX11_within_14 (by decide) ?_
   exact retSz hx hb hr hlocks (by decide) (by first | exact zI_1 (decide_eq_true ⟨Int32.not_lt.mp ‹_›, Int32.not_lt.mp ‹_›⟩) | exact zI_0 (decide_eq_false (fun h9 => absurd h9.1 (Int32.not_le.mpr ‹_›))) | exact zI_0 (decide_eq_false (fun h9 => absurd h9.2 (Int32.not_le.mpr ‹_›)))) dX11_within_15
  ·refine lv_iload_n hx hb dX11_within_5 rfl (lv_at hl 0 rfl) ?_
   refine lv_iload_n hx hb dX11_within_6 rfl (lv_at hl 2 rfl) ?_
   refine lv_icmp_gt (tgt := 14) hx hb dX11_within_7 (by decide) (fun c7 => ?_) (fun c7 => ?_)
   ·refine lv_iconst (v := nI 0) hx hb dX11_within_14 (by decide) ?_
    exact retSz hx hb hr hlocks (by decide) (by first | exact zI_1 (decide_eq_true ⟨Int32.not_lt.mp ‹_›, Int32.not_lt.mp ‹_›⟩) | exact zI_0 (decide_eq_false (fun h9 => absurd h9.1 (Int32.not_le.mpr ‹_›))) | exact zI_0 (decide_eq_false (fun h9 => absurd h9.2 (Int32.not_le.mpr ‹_›)))) dX11_within_15
   ·refine lv_iconst (v := nI 1) hx hb dX11_within_10 (by decide) ?_
    refine lv_goto (tgt := 15) hx hb dX11_within_11 (by decide) ?_
    exact retSz hx hb hr hlocks (by decide) (by first | exact zI_1 (decide_eq_true ⟨Int32.not_lt.mp ‹_›, Int32.not_lt.mp ‹_›⟩) | exact zI_0 (decide_eq_false (fun h9 => absurd h9.1 (Int32.not_le.mpr ‹_›))) | exact zI_0 (decide_eq_false (fun h9 => absurd h9.2 (Int32.not_le.mpr ‹_›)))) dX11_within_15

set_option maxHeartbeats 4000000 in
set_option maxRecDepth 100000 in
/-- BoiledEggsModel.size  -/
theorem k_X11_size (l : Launch) (g : GG) (xb : Nat) (hb0 : xb < 2 ^ 31) : Met l yX11_size wsX11_size ({ frames := 0, cells := 0, slots := 0, locals := 0 }) (pS g [.int (nI xb)] []) (vp_Si (fun r => r = (nI (popS xb 6)))) 0 0 noF := by
  refine metS (cc := cX11_size) (maxL := 3) (ret := (some .int)) (by decide) rfl (Nat.le_of_ble_eq_true rfl) ?_
  intro p e s m below meth c hx hb hr hts hown hlocks hml hC hP ls hl
  have hl : lv_has ls 3 [(0, .int (nI xb))] := hl
  have hown : s.vm.findClass RX11 = some m.cls := hown
  have hts : ∀ w ∈ wsX11_size, w.before ([.int (nI xb)] : List Value).toArray s = true := hts
  refine lv_iconst (v := nI 0) hx hb dX11_size_0 (by decide) ?_
  refine lv_istore_n (lv' := [(1, .int (nI 0)), (0, .int (nI xb))]) hx hb dX11_size_1 rfl hl (by decide) rfl (fun ls hl => ?_)
  refine lv_iconst (v := nI 0) hx hb dX11_size_2 (by decide) ?_
  refine lv_istore_n (lv' := [(2, .int (nI 0)), (1, .int (nI 0)), (0, .int (nI xb))]) hx hb dX11_size_3 rfl hl (by decide) rfl (fun ls hl => ?_)
  have hL4 : ∀ (n_9 : Nat) (i : Nat), 6 - i < n_9 → (i ≤ 6) → ∀ ls : Array Slot, lv_has ls 3 [(0, .int (nI xb)), (1, .int (nI (popS xb i))), (2, .int (nI i))] → W p l e ({ frames := 0, cells := 0, slots := 0, locals := 0 }) s m ([.int (nI xb)] : List Value).toArray below meth c s.heap [] 0 0 (MQ below (vp_Si (fun r => r = (nI (popS xb 6)))) ([.int (nI xb)] : List Value).toArray s 0 0 noF) (F0 m 4 ls []) := by
   intro n_9
   induction n_9 with
   | zero => intro i hn_9; exact absurd hn_9 (Nat.not_lt_zero _)
   | succ n_9 ih4 =>
    intro i hn_9 hi ls hl
    refine lv_iload_n hx hb dX11_size_4 rfl (lv_at hl 2 rfl) ?_
    refine lv_bipush (v := nI 6) hx hb dX11_size_5 (by decide) ?_
    refine lv_icmp_ge (tgt := 24) hx hb dX11_size_7 (by decide) (fun c7 => ?_) (fun c7 => ?_)
    ·have c7 : 6 ≤ i := (nI_leI (a := 6) (b := i) (by omega) (by omega)).mp c7
     refine lv_iload_n hx hb dX11_size_24 rfl (lv_at hl 1 rfl) ?_
     exact retSi hx hb hr hlocks (by have h9 : i = 6 := (by omega); rw [h9]) dX11_size_25
    ·have c7 : ¬ 6 ≤ i := fun h9 => c7 ((nI_leI (a := 6) (b := i) (by omega) (by omega)).mpr h9)
     refine lv_iload_n hx hb dX11_size_10 rfl (lv_at hl 1 rfl) ?_
     refine lv_iload_n hx hb dX11_size_11 rfl (lv_at hl 0 rfl) ?_
     refine lv_iload_n hx hb dX11_size_12 rfl (lv_at hl 2 rfl) ?_
     refine lv_ishr hx hb dX11_size_13 ?_
     refine top_i (y := nI (xb / 2 ^ i)) (shr_nI hb0 (by omega)) ?_
     refine lv_iconst (v := nI 1) hx hb dX11_size_14 (by decide) ?_
     refine lv_iand hx hb dX11_size_15 ?_
     refine top_i (y := nI (xb / 2 ^ i % 2)) (and1_nI (by have := div_lt31 (e := i) hb0; omega)) ?_
     refine lv_iadd hx hb dX11_size_16 ?_
     refine top_i (y := nI ((popS xb i) + (xb / 2 ^ i % 2))) (nI_add _ _) ?_
     refine lv_istore_n (lv' := [(1, .int (nI ((popS xb i) + (xb / 2 ^ i % 2)))), (0, .int (nI xb)), (2, .int (nI i))]) hx hb dX11_size_17 rfl hl (by decide) rfl (fun ls hl => ?_)
     refine lv_iinc (v := nI (i + 1)) (lv' := [(2, .int (nI (i + 1))), (1, .int (nI ((popS xb i) + (xb / 2 ^ i % 2)))), (0, .int (nI xb))]) hx hb dX11_size_18 hl (k := 2) rfl (iinc1 _) (by decide) rfl (fun ls hl => ?_)
     refine lv_goto (tgt := 4) hx hb dX11_size_21 (by decide) ?_
     exact ih4 (i + 1) (by omega) (by first | assumption | exact Nat.zero_le _ | omega) ls (lv_sub hl [2, 1, 0] rfl)
  exact hL4 _ 0 (Nat.lt_succ_self _) (by first | assumption | exact Nat.zero_le _ | omega) ls (lv_sub hl [2, 1, 0] rfl)

set_option maxHeartbeats 4000000 in
set_option maxRecDepth 100000 in
/-- BoiledEggsModel.power  -/
theorem k_X11_power (l : Launch) (g : GG) (xo : Nat) (xt : Nat) (ho0 : xo < 2 ^ 31) (ht0 : xt < 2 ^ 31) : Met l yX11_power wsX11_power ({ frames := 0, cells := 0, slots := 0, locals := 0 }) (pS g [.int (nI xo), .int (nI xt)] []) (vp_Sl (fun r => r = (lN (pw xo xt)))) 0 0 noF := by
  refine metS (cc := cX11_power) (maxL := 5) (ret := (some .long)) (by decide) rfl (Nat.le_of_ble_eq_true rfl) ?_
  intro p e s m below meth c hx hb hr hts hown hlocks hml hC hP ls hl
  have hl : lv_has ls 5 [(0, .int (nI xo)), (1, .int (nI xt))] := hl
  have hown : s.vm.findClass RX11 = some m.cls := hown
  have hts : ∀ w ∈ wsX11_power, w.before ([.int (nI xo), .int (nI xt)] : List Value).toArray s = true := hts
  refine lv_lconst (v := lN 1) hx hb dX11_power_0 (by decide) ?_
  refine lv_lstore_n (lv' := [(2, .long (lN 1)), (0, .int (nI xo)), (1, .int (nI xt))]) hx hb dX11_power_1 rfl hl (by decide) rfl (fun ls hl => ?_)
  refine lv_iconst (v := nI 0) hx hb dX11_power_2 (by decide) ?_
  refine lv_istore (lv' := [(4, .int (nI 0)), (2, .long (lN 1)), (0, .int (nI xo)), (1, .int (nI xt))]) hx hb dX11_power_3 hl (by decide) rfl (fun ls hl => ?_)
  have hL5 : ∀ (n_9 : Nat) (i : Nat), xt - i < n_9 → (i ≤ xt) → ∀ ls : Array Slot, lv_has ls 5 [(0, .int (nI xo)), (1, .int (nI xt)), (2, .long (lN (pw xo i))), (4, .int (nI i))] → W p l e ({ frames := 0, cells := 0, slots := 0, locals := 0 }) s m ([.int (nI xo), .int (nI xt)] : List Value).toArray below meth c s.heap [] 0 0 (MQ below (vp_Sl (fun r => r = (lN (pw xo xt)))) ([.int (nI xo), .int (nI xt)] : List Value).toArray s 0 0 noF) (F0 m 5 ls []) := by
   intro n_9
   induction n_9 with
   | zero => intro i hn_9; exact absurd hn_9 (Nat.not_lt_zero _)
   | succ n_9 ih5 =>
    intro i hn_9 hi ls hl
    refine lv_iload hx hb dX11_power_5 (lv_at hl 3 rfl) ?_
    refine lv_iload_n hx hb dX11_power_7 rfl (lv_at hl 1 rfl) ?_
    refine lv_icmp_ge (tgt := 22) hx hb dX11_power_8 (by decide) (fun c8 => ?_) (fun c8 => ?_)
    ·have c8 : xt ≤ i := (nI_leI (a := xt) (b := i) (by omega) (by omega)).mp c8
     refine lv_lload_n hx hb dX11_power_22 rfl (lv_at hl 2 rfl) ?_
     exact retSl hx hb hr hlocks (by have h9 : i = xt := (by omega); rw [h9]) dX11_power_23
    ·have c8 : ¬ xt ≤ i := fun h9 => c8 ((nI_leI (a := xt) (b := i) (by omega) (by omega)).mpr h9)
     refine lv_lload_n hx hb dX11_power_11 rfl (lv_at hl 2 rfl) ?_
     refine lv_iload_n hx hb dX11_power_12 rfl (lv_at hl 0 rfl) ?_
     refine lv_i2l (v := lN xo) hx hb dX11_power_13 (nI_l (by omega)) ?_
     refine lv_lmul hx hb dX11_power_14 ?_
     refine top_l (y := lN ((pw xo i) * xo)) (lN_mul _ _) ?_
     refine lv_lstore_n (lv' := [(2, .long (lN ((pw xo i) * xo))), (0, .int (nI xo)), (1, .int (nI xt)), (4, .int (nI i))]) hx hb dX11_power_15 rfl hl (by decide) rfl (fun ls hl => ?_)
     refine lv_iinc (v := nI (i + 1)) (lv' := [(4, .int (nI (i + 1))), (2, .long (lN ((pw xo i) * xo))), (0, .int (nI xo)), (1, .int (nI xt))]) hx hb dX11_power_16 hl (k := 3) rfl (iinc1 _) (by decide) rfl (fun ls hl => ?_)
     refine lv_goto (tgt := 5) hx hb dX11_power_19 (by decide) ?_
     exact ih5 (i + 1) (by omega) (by first | assumption | exact Nat.zero_le _ | omega) ls (lv_sub hl [2, 3, 1, 0] rfl)
  exact hL5 _ 0 (Nat.lt_succ_self _) (by first | assumption | exact Nat.zero_le _ | omega) ls (lv_sub hl [2, 3, 1, 0] rfl)

set_option maxHeartbeats 4000000 in
set_option maxRecDepth 100000 in
/-- java/lang/Integer.bitCount  -/
theorem k_J6_bitCount (l : Launch) (g : GG) (xb : Nat) (hb0 : xb < 64) : Met l yJ6_bitCount_0f7a4 wsJ6_bitCount_0f7a4 ({ frames := 0, cells := 0, slots := 0, locals := 0 }) (pS g [.int (nI xb)] []) (vp_Si (fun r => r = (nI (popS xb 6)))) 0 0 noF := by
  refine metS (cc := cJ6_bitCount_0f7a4) (maxL := 1) (ret := (some .int)) (by decide) rfl (Nat.le_of_ble_eq_true rfl) ?_
  intro p e s m below meth c hx hb hr hts hown hlocks hml hC hP ls hl
  have hl : lv_has ls 1 [(0, .int (nI xb))] := hl
  have hown : s.vm.findClass RJ6 = some m.cls := hown
  have hts : ∀ w ∈ wsJ6_bitCount_0f7a4, w.before ([.int (nI xb)] : List Value).toArray s = true := hts
  have k265 := hts (.constant RJ6 265 (1431655765)) (by decide +kernel)
  have k266 := hts (.constant RJ6 266 (858993459)) (by decide +kernel)
  have k267 := hts (.constant RJ6 267 (252645135)) (by decide +kernel)
  refine lv_iload_n hx hb dJ6_bitCount_0f7a4_0 rfl (lv_at hl 0 rfl) ?_
  refine lv_iload_n hx hb dJ6_bitCount_0f7a4_1 rfl (lv_at hl 0 rfl) ?_
  refine lv_iconst (v := nI 1) hx hb dJ6_bitCount_0f7a4_2 (by decide) ?_
  refine lv_iushr (v := us (nI xb) (nI 1)) hx hb dJ6_bitCount_0f7a4_3 (rfl) ?_
  refine lv_ldcw hx hb hown k265 dJ6_bitCount_0f7a4_4 ?_
  refine lv_iand hx hb dJ6_bitCount_0f7a4_7 ?_
  refine lv_isub hx hb dJ6_bitCount_0f7a4_8 ?_
  refine top_i (y := bcA (nI xb)) (rfl) ?_
  refine lv_istore_n (lv' := [(0, .int (bcA (nI xb)))]) hx hb dJ6_bitCount_0f7a4_9 rfl hl (by decide) rfl (fun ls hl => ?_)
  refine lv_iload_n hx hb dJ6_bitCount_0f7a4_10 rfl (lv_at hl 0 rfl) ?_
  refine lv_ldcw hx hb hown k266 dJ6_bitCount_0f7a4_11 ?_
  refine lv_iand hx hb dJ6_bitCount_0f7a4_14 ?_
  refine lv_iload_n hx hb dJ6_bitCount_0f7a4_15 rfl (lv_at hl 0 rfl) ?_
  refine lv_iconst (v := nI 2) hx hb dJ6_bitCount_0f7a4_16 (by decide) ?_
  refine lv_iushr (v := us (bcA (nI xb)) (nI 2)) hx hb dJ6_bitCount_0f7a4_17 (rfl) ?_
  refine lv_ldcw hx hb hown k266 dJ6_bitCount_0f7a4_18 ?_
  refine lv_iand hx hb dJ6_bitCount_0f7a4_21 ?_
  refine lv_iadd hx hb dJ6_bitCount_0f7a4_22 ?_
  refine top_i (y := bcB (bcA (nI xb))) (rfl) ?_
  refine lv_istore_n (lv' := [(0, .int (bcB (bcA (nI xb))))]) hx hb dJ6_bitCount_0f7a4_23 rfl hl (by decide) rfl (fun ls hl => ?_)
  refine lv_iload_n hx hb dJ6_bitCount_0f7a4_24 rfl (lv_at hl 0 rfl) ?_
  refine lv_iload_n hx hb dJ6_bitCount_0f7a4_25 rfl (lv_at hl 0 rfl) ?_
  refine lv_iconst (v := nI 4) hx hb dJ6_bitCount_0f7a4_26 (by decide) ?_
  refine lv_iushr (v := us (bcB (bcA (nI xb))) (nI 4)) hx hb dJ6_bitCount_0f7a4_27 (rfl) ?_
  refine lv_iadd hx hb dJ6_bitCount_0f7a4_28 ?_
  refine lv_ldcw hx hb hown k267 dJ6_bitCount_0f7a4_29 ?_
  refine lv_iand hx hb dJ6_bitCount_0f7a4_32 ?_
  refine top_i (y := bcC (bcB (bcA (nI xb)))) (rfl) ?_
  refine lv_istore_n (lv' := [(0, .int (bcC (bcB (bcA (nI xb)))))]) hx hb dJ6_bitCount_0f7a4_33 rfl hl (by decide) rfl (fun ls hl => ?_)
  refine lv_iload_n hx hb dJ6_bitCount_0f7a4_34 rfl (lv_at hl 0 rfl) ?_
  refine lv_iload_n hx hb dJ6_bitCount_0f7a4_35 rfl (lv_at hl 0 rfl) ?_
  refine lv_bipush (v := nI 8) hx hb dJ6_bitCount_0f7a4_36 (by decide) ?_
  refine lv_iushr (v := us (bcC (bcB (bcA (nI xb)))) (nI 8)) hx hb dJ6_bitCount_0f7a4_38 (rfl) ?_
  refine lv_iadd hx hb dJ6_bitCount_0f7a4_39 ?_
  refine top_i (y := bcD (bcC (bcB (bcA (nI xb))))) (rfl) ?_
  refine lv_istore_n (lv' := [(0, .int (bcD (bcC (bcB (bcA (nI xb))))))]) hx hb dJ6_bitCount_0f7a4_40 rfl hl (by decide) rfl (fun ls hl => ?_)
  refine lv_iload_n hx hb dJ6_bitCount_0f7a4_41 rfl (lv_at hl 0 rfl) ?_
  refine lv_iload_n hx hb dJ6_bitCount_0f7a4_42 rfl (lv_at hl 0 rfl) ?_
  refine lv_bipush (v := nI 16) hx hb dJ6_bitCount_0f7a4_43 (by decide) ?_
  refine lv_iushr (v := us (bcD (bcC (bcB (bcA (nI xb))))) (nI 16)) hx hb dJ6_bitCount_0f7a4_45 (rfl) ?_
  refine lv_iadd hx hb dJ6_bitCount_0f7a4_46 ?_
  refine top_i (y := bcE (bcD (bcC (bcB (bcA (nI xb)))))) (rfl) ?_
  refine lv_istore_n (lv' := [(0, .int (bcE (bcD (bcC (bcB (bcA (nI xb)))))))]) hx hb dJ6_bitCount_0f7a4_47 rfl hl (by decide) rfl (fun ls hl => ?_)
  refine lv_iload_n hx hb dJ6_bitCount_0f7a4_48 rfl (lv_at hl 0 rfl) ?_
  refine lv_bipush (v := nI 63) hx hb dJ6_bitCount_0f7a4_49 (by decide) ?_
  refine lv_iand hx hb dJ6_bitCount_0f7a4_51 ?_
  exact retSi hx hb hr hlocks (bc6 xb hb0) dJ6_bitCount_0f7a4_52
