/-! small numbers, truth values, switches -/
def zI (b : Bool) : Int32 := if b then 1 else 0
theorem zI_f {b : Bool} : zI b = 0 ↔ b = false := by cases b <;> simp [zI]
theorem zI_t {b : Bool} : ¬ zI b = 0 ↔ b = true := by cases b <;> simp [zI]
theorem zI_or (b : Bool) : zI b = 0 ∨ zI b = 1 := by cases b <;> simp [zI]
theorem zI_0 {b : Bool} (h : b = false) : nI 0 = zI b := by subst h; decide
theorem zI_1 {b : Bool} (h : b = true) : nI 1 = zI b := by subst h; decide
theorem iinc1 (i : Nat) : nI i + Int32.ofInt 1 = nI (i + 1) := nI_1 i
theorem iincn (i k : Nat) (x : Int32) (h : x = nI k) : nI i + x = nI (i + k) := h ▸ nI_add i k
theorem sw_cases (x : Int32) (n : Nat) (hn : n < 2 ^ 31) : (∃ k : Nat, k < n ∧ x = nI k) ∨ (x.toInt < 0 ∨ (n : Int) ≤ x.toInt) := by
  by_cases h0 : x.toInt < 0
  · exact Or.inr (Or.inl h0)
  · by_cases h1 : (n : Int) ≤ x.toInt
    · exact Or.inr (Or.inr h1)
    · obtain ⟨j, hj, e⟩ := vp_in_of (vp_in_iff.mpr ⟨by omega, by omega⟩ : vp_in x n) hn
      exact Or.inl ⟨j, hj, e⟩
section KY
variable {p : Program} {l : Launch} {e : Env} {R : Room} {s : State} {m : MethodId} {args : Array Value} {below : List Frame} {meth : Method} {c : Code} {H : Heap} {locs : List Loc} {cells slots : Nat} {Q : State → Prop}
variable {cc : ByteArray} {pc : Nat} {ls : Array Slot} {rest : List Value} {g : GG} {A : Nat → Prop} {w : va_W} {a0 j k : Nat}
theorem new_i {n : Int32} {N : Nat} (hx : p.tables.exec = Jvm.exec) (hb : c.code = cc) (hC : CK g s) (hac : (Cond.arrayClass .int).before args s = true) (hP : va_P g.1 vwCl w H) (hD : va_D A w) (hS : va_S A s.heap H locs) (hA : ∀ q : Nat, s.heap.size ≤ q → A q) (hn : ¬ n < 0) (hN : n.toNatClampNeg = N) (hby : N * 4 ≤ 536870912) (hcells : cells + 1 ≤ R.cells) (hslots : slots + N ≤ R.slots) (hd : decode cc pc = .ok (.newarray .int, 2))
    (kk : ∀ (q : Nat) (H1 : Heap), va_P g.1 vwCl (w ++ [(q, .inl (g.2.1, N, .inl (fun _ => 0)))]) H1 → va_D A (w ++ [(q, .inl (g.2.1, N, .inl (fun _ => 0)))]) → va_S A s.heap H1 locs → W p l e R s m args below meth c H1 locs (cells + 1) (slots + N) Q (F0 m (pc + 2) ls (.ref q :: rest))) : W p l e R s m args below meth c H locs cells slots Q (F0 m pc ls (.int n :: rest)) := by
  refine va_newa (atype := .int) (ty := .int) (a0 := (N, .inl (fun _ => 0))) hx hb hac rfl hC.1 hP hD hS hA (fun cA => rfl) hn hN hby hcells hslots hd (fun q cA H1 hK1 hP1 hD1 hS1 => ?_)
  have e1 := va_nm_int (hK1.2 4 (cA, .int) rfl).2
  have e2 := va_nm_int (hC.1.2 0 (g.2.1, .int) rfl).2
  obtain rfl : cA = g.2.1 := Option.some.inj (e1.symm.trans e2)
  exact kk q H1 hP1 hD1 hS1
theorem new_l {n : Int32} {N : Nat} (hx : p.tables.exec = Jvm.exec) (hb : c.code = cc) (hC : CK g s) (hac : (Cond.arrayClass .long).before args s = true) (hP : va_P g.1 vwCl w H) (hD : va_D A w) (hS : va_S A s.heap H locs) (hA : ∀ q : Nat, s.heap.size ≤ q → A q) (hn : ¬ n < 0) (hN : n.toNatClampNeg = N) (hby : N * 8 ≤ 536870912) (hcells : cells + 1 ≤ R.cells) (hslots : slots + N ≤ R.slots) (hd : decode cc pc = .ok (.newarray .long, 2))
    (kk : ∀ (q : Nat) (H1 : Heap), va_P g.1 vwCl (w ++ [(q, .inl (g.2.2.1, N, .inr (.inl (fun _ => 0))))]) H1 → va_D A (w ++ [(q, .inl (g.2.2.1, N, .inr (.inl (fun _ => 0))))]) → va_S A s.heap H1 locs → W p l e R s m args below meth c H1 locs (cells + 1) (slots + N) Q (F0 m (pc + 2) ls (.ref q :: rest))) : W p l e R s m args below meth c H locs cells slots Q (F0 m pc ls (.int n :: rest)) := by
  refine va_newa (atype := .long) (ty := .long) (a0 := (N, .inr (.inl (fun _ => 0)))) hx hb hac rfl hC.1 hP hD hS hA (fun cA => rfl) hn hN hby hcells hslots hd (fun q cA H1 hK1 hP1 hD1 hS1 => ?_)
  have e1 := va_nm_long (hK1.2 4 (cA, .long) rfl).2
  have e2 := va_nm_long (hC.1.2 1 (g.2.2.1, .long) rfl).2
  obtain rfl : cA = g.2.2.1 := Option.some.inj (e1.symm.trans e2)
  exact kk q H1 hP1 hD1 hS1
theorem new_b {n : Int32} {N : Nat} (hx : p.tables.exec = Jvm.exec) (hb : c.code = cc) (hC : CK g s) (hac : (Cond.arrayClass .byte).before args s = true) (hP : va_P g.1 vwCl w H) (hD : va_D A w) (hS : va_S A s.heap H locs) (hA : ∀ q : Nat, s.heap.size ≤ q → A q) (hn : ¬ n < 0) (hN : n.toNatClampNeg = N) (hby : N * 1 ≤ 536870912) (hcells : cells + 1 ≤ R.cells) (hslots : slots + N ≤ R.slots) (hd : decode cc pc = .ok (.newarray .byte, 2))
    (kk : ∀ (q : Nat) (H1 : Heap), va_P g.1 vwCl (w ++ [(q, .inl (g.2.2.2.1, N, .inl (fun _ => 0)))]) H1 → va_D A (w ++ [(q, .inl (g.2.2.2.1, N, .inl (fun _ => 0)))]) → va_S A s.heap H1 locs → W p l e R s m args below meth c H1 locs (cells + 1) (slots + N) Q (F0 m (pc + 2) ls (.ref q :: rest))) : W p l e R s m args below meth c H locs cells slots Q (F0 m pc ls (.int n :: rest)) := by
  refine va_newa (atype := .byte) (ty := .byte) (a0 := (N, .inl (fun _ => 0))) hx hb hac rfl hC.1 hP hD hS hA (fun cA => rfl) hn hN hby hcells hslots hd (fun q cA H1 hK1 hP1 hD1 hS1 => ?_)
  have e1 := va_nm_byte (hK1.2 4 (cA, .byte) rfl).2
  have e2 := va_nm_byte (hC.1.2 2 (g.2.2.2.1, .byte) rfl).2
  obtain rfl : cA = g.2.2.2.1 := Option.some.inj (e1.symm.trans e2)
  exact kk q H1 hP1 hD1 hS1
theorem new_q {n : Int32} {N : Nat} {own : String} {index : Nat} (hx : p.tables.exec = Jvm.exec) (hb : c.code = cc) (hC : CK g s) (hown : s.vm.findClass own = some m.cls) (hcl : (Cond.classLink own index "BoiledEggs$Trier").before args s = true) (hP : va_P g.1 vwCl w H) (hD : va_D A w) (hS : va_S A s.heap H locs) (hA : ∀ q : Nat, s.heap.size ≤ q → A q) (hn : ¬ n < 0) (hN : n.toNatClampNeg = N) (hby : N * 4 ≤ 536870912) (hcells : cells + 1 ≤ R.cells) (hslots : slots + N ≤ R.slots) (hd : decode cc pc = .ok (.anewarray index, 3))
    (kk : ∀ (q : Nat) (H1 : Heap), va_P g.1 vwCl (w ++ [(q, .inl (g.2.2.2.2, N, .inr (.inr (.inr (.inr (fun _ => none))))))]) H1 → va_D A (w ++ [(q, .inl (g.2.2.2.2, N, .inr (.inr (.inr (.inr (fun _ => none))))))]) → va_S A s.heap H1 locs → W p l e R s m args below meth c H1 locs (cells + 1) (slots + N) Q (F0 m (pc + 3) ls (.ref q :: rest))) : W p l e R s m args below meth c H locs cells slots Q (F0 m pc ls (.int n :: rest)) := by
  refine va_newq hx hb hown hcl hC.2.2.2 hC.1 hP hD hS hA hn hN hby hcells hslots hd (fun q cA H1 hK1 hP1 hD1 hS1 => ?_)
  obtain ⟨_, _, _, _, _, e1⟩ := (hK1.2 4 (cA, .object "BoiledEggs$Trier") rfl).2
  obtain ⟨_, _, _, _, _, e2⟩ := (hC.1.2 3 (g.2.2.2.2, .object "BoiledEggs$Trier") rfl).2
  obtain rfl : cA = g.2.2.2.2 := Option.some.inj (e1.symm.trans e2)
  exact kk q H1 hP1 hD1 hS1
theorem ast_b {f : Nat → Int32} {x : Int32} {n : Nat} (hx : p.tables.exec = Jvm.exec) (hb : c.code = cc) (hC : CK g s) (hP : va_P g.1 vwCl w H) (hD : va_D A w) (hS : va_S A s.heap H locs) (q0 : Nat) (ha : w[q0]? = some (a0, .inl (g.2.2.2.1, n, .inl f))) (hj : j < n) (hn : n < 2 ^ 31) (hf : vp_nar .byte x = x) (hd : decode cc pc = .ok (.bastore, 1))
    (kk : ∀ (H1 : Heap) (locs1 : List Loc), va_P g.1 vwCl (w.set q0 (a0, .inl (g.2.2.2.1, n, .inl (upd f j x)))) H1 → va_D A (w.set q0 (a0, .inl (g.2.2.2.1, n, .inl (upd f j x)))) → va_S A s.heap H1 locs1 → W p l e R s m args below meth c H1 locs1 cells slots Q (F0 m (pc + 1) ls rest)) : W p l e R s m args below meth c H locs cells slots Q (F0 m pc ls (.int x :: .int (nI j) :: .ref a0 :: rest)) :=
  va_bast hx hb hC.1 hP hD hS q0 2 ha rfl (vp_in_nI hj hn) hd (by rw [nI_clamp (Nat.lt_trans hj hn), hf]; exact kk)
theorem ast_q {f : Nat → Option Nat} {v n : Nat} (hx : p.tables.exec = Jvm.exec) (hb : c.code = cc) (hC : CK g s) (hP : va_P g.1 vwCl w H) (hD : va_D A w) (hS : va_S A s.heap H locs) (q0 : Nat) (ha : w[q0]? = some (a0, .inl (g.2.2.2.2, n, .inr (.inr (.inr (.inr f)))))) (hr : va_Any "BoiledEggs$Trier" s H v) (hj : j < n) (hn : n < 2 ^ 31) (hd : decode cc pc = .ok (.aastore, 1))
    (kk : ∀ (H1 : Heap) (locs1 : List Loc), va_P g.1 vwCl (w.set q0 (a0, .inl (g.2.2.2.2, n, .inr (.inr (.inr (.inr (va_up f j (some v)))))))) H1 → va_D A (w.set q0 (a0, .inl (g.2.2.2.2, n, .inr (.inr (.inr (.inr (va_up f j (some v)))))))) → va_S A s.heap H1 locs1 → W p l e R s m args below meth c H1 locs1 cells slots Q (F0 m (pc + 1) ls rest)) : W p l e R s m args below meth c H locs cells slots Q (F0 m pc ls (.ref v :: .int (nI j) :: .ref a0 :: rest)) :=
  va_astqM hx hb hC.1 hP hD hS q0 3 ha rfl hr (vp_in_nI hj hn) hd (by rw [nI_clamp (Nat.lt_trans hj hn)]; exact kk)
theorem cp_i {f h : Nat → Int32} {n a1 index : Nat} {own : String} (hx : p.tables.exec = Jvm.exec) (hb : c.code = cc) (hml : c.maxLocals = ls.size) (hC : CK g s) (hown : s.vm.findClass own = some m.cls) (hlink : (Cond.methodLink own index arraycopyName).before args s = true) (hnat : (Cond.native arraycopyName).before args s = true) (hstat : (Cond.static arraycopyName).before args s = true) (hini : (Cond.initialized "java/lang/System").before args s = true) (hP : va_P g.1 vwCl w H) (hD : va_D A w) (hS : va_S A s.heap H locs) (q0 q1 : Nat) (ha0 : w[q0]? = some (a0, .inl (g.2.1, n, .inl f))) (ha1 : w[q1]? = some (a1, .inl (g.2.1, n, .inl h))) (hn : n < 2 ^ 31) (hframes : 1 ≤ R.frames) (hlocals : (rest.map fun v => v.category).sum + (nativeFrameWords "java/lang/System" "arraycopy" 5 + 11) ≤ R.locals) (hd : decode cc pc = .ok (.invokestatic index, 3))
    (kk : ∀ (H1 : Heap) (locs1 : List Loc), va_P g.1 vwCl (w.set q1 (a1, .inl (g.2.1, n, .inl (va_cpy f h 0 0 n)))) H1 → va_D A (w.set q1 (a1, .inl (g.2.1, n, .inl (va_cpy f h 0 0 n)))) → va_S A s.heap H1 locs1 → W p l e R s m args below meth c H1 locs1 cells slots Q (F0 m (pc + 3) ls rest)) : W p l e R s m args below meth c H locs cells slots Q (F0 m pc ls (.int (nI n) :: .int (nI 0) :: .ref a1 :: .int (nI 0) :: .ref a0 :: rest)) := by
  have e0 : (nI 0).toNatClampNeg = 0 := by decide
  have en : (nI n).toNatClampNeg = n := nI_clamp hn
  refine va_copyi hx hb hml hown hlink hnat hstat hini hC.1 hP hD hS q0 q1 0 0 ha0 ha1 rfl rfl rfl (by decide) (by decide) (nI_pos hn) (by rw [e0, en]; omega) (by rw [e0, en]; omega) (fun i _ => rfl) hframes hlocals hd ?_
  rw [e0, en]
  exact kk
theorem cp_l {f h : Nat → Int64} {n a1 index : Nat} {own : String} (hx : p.tables.exec = Jvm.exec) (hb : c.code = cc) (hml : c.maxLocals = ls.size) (hC : CK g s) (hown : s.vm.findClass own = some m.cls) (hlink : (Cond.methodLink own index arraycopyName).before args s = true) (hnat : (Cond.native arraycopyName).before args s = true) (hstat : (Cond.static arraycopyName).before args s = true) (hini : (Cond.initialized "java/lang/System").before args s = true) (hP : va_P g.1 vwCl w H) (hD : va_D A w) (hS : va_S A s.heap H locs) (q0 q1 : Nat) (ha0 : w[q0]? = some (a0, .inl (g.2.2.1, n, .inr (.inl f)))) (ha1 : w[q1]? = some (a1, .inl (g.2.2.1, n, .inr (.inl h)))) (hn : n < 2 ^ 31) (hframes : 1 ≤ R.frames) (hlocals : (rest.map fun v => v.category).sum + (nativeFrameWords "java/lang/System" "arraycopy" 5 + 11) ≤ R.locals) (hd : decode cc pc = .ok (.invokestatic index, 3))
    (kk : ∀ (H1 : Heap) (locs1 : List Loc), va_P g.1 vwCl (w.set q1 (a1, .inl (g.2.2.1, n, .inr (.inl (va_cpy f h 0 0 n))))) H1 → va_D A (w.set q1 (a1, .inl (g.2.2.1, n, .inr (.inl (va_cpy f h 0 0 n))))) → va_S A s.heap H1 locs1 → W p l e R s m args below meth c H1 locs1 cells slots Q (F0 m (pc + 3) ls rest)) : W p l e R s m args below meth c H locs cells slots Q (F0 m pc ls (.int (nI n) :: .int (nI 0) :: .ref a1 :: .int (nI 0) :: .ref a0 :: rest)) := by
  have e0 : (nI 0).toNatClampNeg = 0 := by decide
  have en : (nI n).toNatClampNeg = n := nI_clamp hn
  refine va_copyl hx hb hml hown hlink hnat hstat hini hC.1 hP hD hS q0 q1 1 1 ha0 ha1 rfl rfl rfl (by decide) (by decide) (nI_pos hn) (by rw [e0, en]; omega) (by rw [e0, en]; omega) (fun i _ => rfl) hframes hlocals hd ?_
  rw [e0, en]
  exact kk
end KY
theorem zI_ne0 {b : Bool} (h : b = true) : ¬ zI b = 0 := by subst h; decide
theorem zI_n0 {b : Bool} (h : b = false) : ¬ ¬ zI b = 0 := by subst h; decide
theorem lv_val {ls : Array Slot} {nL : Nat} {l : List (Nat × Value)} (h : lv_has ls nL l) (k : Nat) {i : Nat} {v v' : Value} (hk : l[k]? = some (i, v)) (e : v = v') : lv_has ls nL (l.set k (i, v')) := by
  subst e
  have h2 : l.set k (i, v) = l := by
    apply List.ext_getElem?
    intro j
    by_cases hj : k = j
    · subst hj
      rw [List.getElem?_set_self (List.getElem?_eq_some_iff.mp hk).1, hk]
    · rw [List.getElem?_set_ne hj]
  rw [h2]
  exact h
