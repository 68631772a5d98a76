def nwl : List Cond := [.fieldLinkNest RX10 296 "BoiledEggs$Page" "codes" "[I" "BoiledEggs",
  .fieldLinkNest RX10 273 "BoiledEggs$Page" "size" "I" "BoiledEggs",
  .fieldLinkNest RX10 97 "BoiledEggs$Kitchen" "habits" "[I" "BoiledEggs",
  .fieldLinkNest RX10 90 "BoiledEggs$Kitchen" "eggs" "I" "BoiledEggs",
  .fieldLinkNest RX8 44 "BoiledEggs$Kitchen" "boiled" "I" "BoiledEggs",
  .fieldLinkNest RX10 270 "BoiledEggs$Kitchen" "boiled" "I" "BoiledEggs",
  .fieldLinkNest RX10 176 "BoiledEggs$Kitchen" "turnsBoiled" "I" "BoiledEggs",
  .fieldLinkNest RX10 179 "BoiledEggs$Kitchen" "turnsRaw" "I" "BoiledEggs",
  .fieldLinkNest RX10 132 "BoiledEggs$Kitchen" "falls" "I" "BoiledEggs",
  .fieldLinkNest RX1 49 "BoiledEggs$Told" "boxes" "[I" "BoiledEggs",
  .fieldLinkNest RX1 56 "BoiledEggs$Told" "weights" "[J" "BoiledEggs",
  .fieldLinkNest RX10 104 "BoiledEggs$Told" "spins" "[I" "BoiledEggs",
  .fieldLinkNest RX10 107 "BoiledEggs$Told" "turned" "[I" "BoiledEggs",
  .fieldLinkNest RX10 110 "BoiledEggs$Told" "known" "[I" "BoiledEggs",
  .fieldLinkNest RX1 46 "BoiledEggs$Told" "fitting" "I" "BoiledEggs",
  .fieldLinkNest RX10 235 "BoiledEggs$Told" "fitting" "I" "BoiledEggs",
  .fieldLinkNest RX10 121 "BoiledEggs$Told" "allSpins" "I" "BoiledEggs",
  .fieldLinkNest RX10 259 "BoiledEggs$Draws" "seed" "J" "BoiledEggs",
  .methodLinkNest RX10 9 yX7_init "BoiledEggs",
  .methodLinkNest RX10 18 yX6_init "BoiledEggs",
  .methodLinkNest RX10 25 yX8_init "BoiledEggs",
  .methodLinkNest RX10 35 yX1_init "BoiledEggs",
  .methodLinkNest RX10 42 yX3_init "BoiledEggs",
  .methodLinkNest RX6 43 yX10_has "BoiledEggs",
  .methodLinkNest RX8 78 yX10_has "BoiledEggs",
  .methodLinkNest RX1 61 yX10_has "BoiledEggs",
  .methodLinkNest RX10 320 yX2_init "BoiledEggs",
  .methodLinkNest RX2 1 yX9_init "BoiledEggs",
  .methodLinkNest RX10 323 yX0_init "BoiledEggs",
  .methodLinkNest RX0 1 yX9_init "BoiledEggs",
  .methodLinkNest RX10 326 yX5_init "BoiledEggs",
  .methodLinkNest RX5 1 yX9_init "BoiledEggs",
  .methodLinkNest RX10 329 yX4_init "BoiledEggs",
  .methodLinkNest RX4 1 yX5_init "BoiledEggs",
  .methodLinkNest RX10 330 yX9_init "BoiledEggs",
  .castable "BoiledEggs$Greedy" "BoiledEggs$Hungry",
  .castable "BoiledEggs$Doubter" "BoiledEggs$Trier",
  .castable "BoiledEggs$Bold" "BoiledEggs$Trier",
  .castable "BoiledEggs$Hungry" "BoiledEggs$Trier",
  .castable "BoiledEggs$Greedy" "BoiledEggs$Trier"]
def ncl : List (String × String) := [("BoiledEggs$Bold", "BoiledEggs$Doubter"), ("BoiledEggs$Hungry", "BoiledEggs$Doubter"), ("BoiledEggs$Greedy", "BoiledEggs$Doubter"), ("BoiledEggs$Trier", "BoiledEggs$Doubter"), ("BoiledEggs$Doubter", "BoiledEggs$Bold"), ("BoiledEggs$Hungry", "BoiledEggs$Bold"), ("BoiledEggs$Greedy", "BoiledEggs$Bold"), ("BoiledEggs$Trier", "BoiledEggs$Bold"), ("BoiledEggs$Doubter", "BoiledEggs$Hungry"), ("BoiledEggs$Bold", "BoiledEggs$Hungry"), ("BoiledEggs$Trier", "BoiledEggs$Hungry"), ("BoiledEggs$Doubter", "BoiledEggs$Greedy"), ("BoiledEggs$Bold", "BoiledEggs$Greedy"), ("BoiledEggs$Hungry", "BoiledEggs$Greedy"), ("BoiledEggs$Trier", "BoiledEggs$Greedy")]
/-- what is the same for the whole proof: the table of addresses of classes and slots, the ids of int[], long[], byte[], Trier[] -/
abbrev GG : Type := va_G × ClassId × ClassId × ClassId × ClassId
def tyl (g : GG) : List (ClassId × FieldType) := [(g.2.1, .int), (g.2.2.1, .long), (g.2.2.2.1, .byte), (g.2.2.2.2, .object "BoiledEggs$Trier")]
def nwk : Cond → Bool
  | .fieldLinkNest _ _ _ _ _ _ => true
  | .methodLinkNest _ _ _ _ => true
  | .castable _ _ => true
  | _ => false
theorem nwk_warm {s U : State} (hW : s.WarmedH U.vm) : ∀ w : Cond, nwk w = true → va_Nw w s → va_Nw w U
  | .fieldLinkNest _ _ _ _ _ _, _, h => va_Nw.warmF hW h
  | .methodLinkNest _ _ _ _, _, h => va_Nw.warmM hW h
  | .castable _ _, _, h => va_Nw.warmC hW h
theorem nwk_same {u U : State} (hv : u.vm = U.vm) : ∀ w : Cond, nwk w = true → va_Nw w u → va_Nw w U
  | .fieldLinkNest _ _ _ _ _ _, _, h => va_Nw.same rfl hv h
  | .methodLinkNest _ _ _ _, _, h => va_Nw.same rfl hv h
  | .castable _ _, _, h => va_Nw.same rfl hv h
theorem nwl_ok : ∀ w ∈ nwl, nwk w = true := by decide +kernel
def NW (U : State) : Prop := ∀ w ∈ nwl, va_Nw w U
def NC (U : State) : Prop := ∀ q ∈ ncl, va_Nc q.1 q.2 U
def CK (g : GG) (U : State) : Prop := va_K g.1 vwCl (tyl g) U ∧ NW U ∧ NC U ∧ va_AO "BoiledEggs$Trier" U
theorem CK.warm {g : GG} {s U : State} (hW : s.WarmedH U.vm) (h : CK g s) : CK g U := ⟨va_K.moved hW.alike h.1, fun w hw => nwk_warm hW w (nwl_ok w hw) (h.2.1 w hw), fun q hq => (h.2.2.1 q hq).moved hW.alike, h.2.2.2.moved hW.alike⟩
theorem CK.calling {g : GG} {U : State} {a : Array Value} {f : JFrame} {mk : MethodId} (h : CK g U) : CK g (U.calling f mk a) := ⟨va_K.moved (u := U) (U := U.calling f mk a) (Vm.Alike.refl U.vm) h.1, fun w hw => nwk_same (u := U) (U := U.calling f mk a) rfl w (nwl_ok w hw) (h.2.1 w hw), fun q hq => (h.2.2.1 q hq).moved (u := U) (U := U.calling f mk a) (Vm.Alike.refl U.vm), h.2.2.2.moved (u := U) (U := U.calling f mk a) (Vm.Alike.refl U.vm)⟩
/-! contracts: pS only reads; pM may change the cells of its world -/
def pS (g : GG) (av : List Value) (w : va_W) : Array Value → State → Prop := va_Pc av (fun U => CK g U ∧ va_P g.1 vwCl w U.heap)
def pM (g : GG) (sz : Nat) (av : List Value) (w : va_W) : Array Value → State → Prop := va_Pc av (fun U => U.heap.size = sz ∧ CK g U ∧ va_P g.1 vwCl w U.heap ∧ va_D (fun _ => True) w)
def qMi (g : GG) {S : Type} (post : Int32 → S → Prop) (w1 : S → va_W) (A : Nat → Prop) : Array Value → State → Outcome → State → Prop := va_Qi post (fun u t => va_P g.1 vwCl (w1 u) t.heap ∧ va_D A (w1 u)) A
def qMl (g : GG) {S : Type} (post : Int64 → S → Prop) (w1 : S → va_W) (A : Nat → Prop) : Array Value → State → Outcome → State → Prop := va_Ql post (fun u t => va_P g.1 vwCl (w1 u) t.heap ∧ va_D A (w1 u)) A
def qMv (g : GG) {S : Type} (post : S → Prop) (w1 : S → va_W) (A : Nat → Prop) : Array Value → State → Outcome → State → Prop := va_Qv post (fun u t => va_P g.1 vwCl (w1 u) t.heap ∧ va_D A (w1 u)) A
def qMr (g : GG) {S : Type} (post : S → Prop) (w1 : S → Nat → va_W) (A : Nat → Prop) : Array Value → State → Outcome → State → Prop := va_Qr post (fun u a t => va_P g.1 vwCl (w1 u a) t.heap ∧ va_D A (w1 u a)) A
abbrev noF : Addr → Prop := fun _ => False
theorem metS {l : Launch} {y : MethodName} {ws ws' : List Cond} {rm : Room} {g : GG} {av : List Value} {w : va_W} {Qc : Array Value → State → Outcome → State → Prop} {free : Addr → Prop} {cc : ByteArray} {maxL : Nat} {ret : Option FieldType}
    (hy : plainName y.cls = true) (hw : ws = Cond.code y cc maxL ret :: ws') (hlen : (lg_sl av).length ≤ maxL)
    (body : ∀ (p : Program) (e : Env) (s : State) (m : MethodId) (below : List Frame) (meth : Method) (c : Code), p.tables.exec = Jvm.exec → c.code = cc → meth.sig.returnType = ret → (∀ w ∈ ws, w.before av.toArray s = true) → s.vm.findClass y.cls = some m.cls → meth.locks = false → c.maxLocals = maxL → CK g s → va_P g.1 vwCl w s.heap → ∀ ls : Array Slot, lv_has ls maxL (lv_args 0 av) →
      W p l e rm s m av.toArray below meth c s.heap [] 0 0 (MQ below Qc av.toArray s 0 0 free) (F0 m 0 ls [])) : Met l y ws rm (pS g av w) Qc 0 0 free := by
  refine Met.ofW (cc := cc) (maxL := maxL) (ret := ret) hy hw ?_
  intro p e s m args below meth c s₁ B hml hv
  obtain ⟨rfl, hC, hP⟩ := hv
  rw [lg_entry_eq]
  exact body p e s m below meth c B.exec B.bytes B.returns (atoms_spec (ws := ws) B.pre) (findClass_of_methodNamed B.named) B.notSynchronized hml hC hP _ (lv_entry av hlen)
theorem metM {l : Launch} {y : MethodName} {ws ws' : List Cond} {rm : Room} {g : GG} {sz : Nat} {av : List Value} {w : va_W} {Qf : (Nat → Prop) → Array Value → State → Outcome → State → Prop} {mc ms : Nat} {cc : ByteArray} {maxL : Nat} {ret : Option FieldType}
    (hy : plainName y.cls = true) (hw : ws = Cond.code y cc maxL ret :: ws') (hlen : (lg_sl av).length ≤ maxL)
    (body : ∀ (p : Program) (e : Env) (s : State) (m : MethodId) (below : List Frame) (meth : Method) (c : Code), p.tables.exec = Jvm.exec → c.code = cc → meth.sig.returnType = ret → (∀ w ∈ ws, w.before av.toArray s = true) → s.vm.findClass y.cls = some m.cls → meth.locks = false → c.maxLocals = maxL → meth.name = y.name → CK g s → ∀ A : Nat → Prop, (∀ q : Nat, s.heap.size ≤ q → A q) → va_P g.1 vwCl w s.heap → va_D A w → va_S A s.heap s.heap [] → ∀ ls : Array Slot, lv_has ls maxL (lv_args 0 av) →
      W p l e rm s m av.toArray below meth c s.heap [] 0 0 (MQ below (Qf A) av.toArray s mc ms A) (F0 m 0 ls [])) : Met l y ws rm (pM g sz av w) (Qf (va_A w sz)) mc ms (va_A w sz) := by
  refine Met.ofW (cc := cc) (maxL := maxL) (ret := ret) hy hw ?_
  intro p e s m args below meth c s₁ B hml hv
  obtain ⟨rfl, rfl, hC, hP, hD⟩ := hv
  rw [lg_entry_eq]
  exact body p e s m below meth c B.exec B.bytes B.returns (atoms_spec (ws := ws) B.pre) (findClass_of_methodNamed B.named) B.notSynchronized hml (name_of_methodNamed B.named B.method).1 hC _ (fun q h => Or.inr h) hP hD.self va_S.rf _ (lv_entry av hlen)
section KX
variable {p : Program} {l : Launch} {e : Env} {R : Room} {s : State} {m : MethodId} {args : Array Value} {below : List Frame} {meth : Method} {c : Code} {H : Heap} {locs : List Loc} {cells slots : Nat} {Q : State → Prop}
variable {cc : ByteArray} {pc : Nat} {ls : Array Slot} {rest : List Value} {g : GG} {A : Nat → Prop} {w wc wr : va_W}
/-! ends -/
theorem retSi {post : Int32 → Prop} {v : Int32} (hx : p.tables.exec = Jvm.exec) (hb : c.code = cc) (hr : meth.sig.returnType = some .int) (hlocks : meth.locks = false) (hp : post v) (hd : decode cc pc = .ok (.ireturn, 1)) : W p l e R s m args below meth c s.heap [] 0 0 (MQ below (vp_Si post) args s 0 0 noF) (F0 m pc ls [.int v]) :=
  W.iret hx hb hr (fun t ht _ => ⟨v, rfl, hp, ht⟩) (fun _ h => by cases h) hd hlocks
theorem retSz {post : Int32 → Prop} {v : Int32} (hx : p.tables.exec = Jvm.exec) (hb : c.code = cc) (hr : meth.sig.returnType = some .boolean) (hlocks : meth.locks = false) (hn : v = 0 ∨ v = 1) (hp : post v) (hd : decode cc pc = .ok (.ireturn, 1)) : W p l e R s m args below meth c s.heap [] 0 0 (MQ below (vp_Si post) args s 0 0 noF) (F0 m pc ls [.int v]) :=
  W.zret hx hb hr (by rcases hn with rfl | rfl <;> rfl) (fun t ht _ => ⟨v, rfl, hp, ht⟩) (fun _ h => by cases h) hd hlocks
theorem retSl {post : Int64 → Prop} {v : Int64} (hx : p.tables.exec = Jvm.exec) (hb : c.code = cc) (hr : meth.sig.returnType = some .long) (hlocks : meth.locks = false) (hp : post v) (hd : decode cc pc = .ok (.lreturn, 1)) : W p l e R s m args below meth c s.heap [] 0 0 (MQ below (vp_Sl post) args s 0 0 noF) (F0 m pc ls [.long v]) :=
  W.lret hx hb hr (fun t ht _ => ⟨v, rfl, hp, ht⟩) (fun _ h => by cases h) hd hlocks
theorem retSq {post : Option Nat → Prop} {v : Option Nat} {n : String} (hx : p.tables.exec = Jvm.exec) (hb : c.code = cc) (hr : meth.sig.returnType = some (.object n)) (hlocks : meth.locks = false) (hp : post v) (hd : decode cc pc = .ok (.areturn, 1)) : W p l e R s m args below meth c s.heap [] 0 0 (MQ below (va_Sq post) args s 0 0 noF) (F0 m pc ls [va_rf v]) :=
  W.aret hx hb hr (Or.inl ⟨n, rfl⟩) (va_rf_or v) (fun t ht _ => ⟨v, rfl, hp, ht⟩) (fun _ h => by cases h) hd hlocks
theorem retMi {S : Type} {post : Int32 → S → Prop} {w1 : S → va_W} {v : Int32} (hx : p.tables.exec = Jvm.exec) (hb : c.code = cc) (hr : meth.sig.returnType = some .int) (hlocks : meth.locks = false) (hP : va_P g.1 vwCl w H) (hD : va_D A w) (hS : va_S A s.heap H locs) (u : S) (hw : w1 u = w) (hp : post v u) (hd : decode cc pc = .ok (.ireturn, 1)) : W p l e R s m args below meth c H locs cells slots (MQ below (qMi g post w1 A) args s cells slots A) (F0 m pc ls [.int v]) :=
  W.iret hx hb hr (fun t ht _ => ⟨⟨v, u, rfl, hp, by rw [hw, ht]; exact hP, by rw [hw]; exact hD⟩, hS.F ht⟩) hS.2.2 hd hlocks
theorem retMz {S : Type} {post : Int32 → S → Prop} {w1 : S → va_W} {v : Int32} (hx : p.tables.exec = Jvm.exec) (hb : c.code = cc) (hr : meth.sig.returnType = some .boolean) (hlocks : meth.locks = false) (hn : v = 0 ∨ v = 1) (hP : va_P g.1 vwCl w H) (hD : va_D A w) (hS : va_S A s.heap H locs) (u : S) (hw : w1 u = w) (hp : post v u) (hd : decode cc pc = .ok (.ireturn, 1)) : W p l e R s m args below meth c H locs cells slots (MQ below (qMi g post w1 A) args s cells slots A) (F0 m pc ls [.int v]) :=
  W.zret hx hb hr (by rcases hn with rfl | rfl <;> rfl) (fun t ht _ => ⟨⟨v, u, rfl, hp, by rw [hw, ht]; exact hP, by rw [hw]; exact hD⟩, hS.F ht⟩) hS.2.2 hd hlocks
theorem retMl {S : Type} {post : Int64 → S → Prop} {w1 : S → va_W} {v : Int64} (hx : p.tables.exec = Jvm.exec) (hb : c.code = cc) (hr : meth.sig.returnType = some .long) (hlocks : meth.locks = false) (hP : va_P g.1 vwCl w H) (hD : va_D A w) (hS : va_S A s.heap H locs) (u : S) (hw : w1 u = w) (hp : post v u) (hd : decode cc pc = .ok (.lreturn, 1)) : W p l e R s m args below meth c H locs cells slots (MQ below (qMl g post w1 A) args s cells slots A) (F0 m pc ls [.long v]) :=
  W.lret hx hb hr (fun t ht _ => ⟨⟨v, u, rfl, hp, by rw [hw, ht]; exact hP, by rw [hw]; exact hD⟩, hS.F ht⟩) hS.2.2 hd hlocks
theorem retMv {S : Type} {post : S → Prop} {w1 : S → va_W} (hx : p.tables.exec = Jvm.exec) (hb : c.code = cc) (hr : meth.sig.returnType = none) (hlocks : meth.locks = false) (hP : va_P g.1 vwCl w H) (hD : va_D A w) (hS : va_S A s.heap H locs) (u : S) (hw : w1 u = w) (hp : post u) (hd : decode cc pc = .ok (.return_, 1)) : W p l e R s m args below meth c H locs cells slots (MQ below (qMv g post w1 A) args s cells slots A) (F0 m pc ls []) :=
  W.vret hx hb hr (fun t ht _ => ⟨⟨u, rfl, hp, by rw [hw, ht]; exact hP, by rw [hw]; exact hD⟩, hS.F ht⟩) hS.2.2 hd hlocks
theorem retMr {S : Type} {post : S → Prop} {w1 : S → Nat → va_W} {a : Nat} {n : String} (hx : p.tables.exec = Jvm.exec) (hb : c.code = cc) (hr : meth.sig.returnType = some (.object n)) (hlocks : meth.locks = false) (hP : va_P g.1 vwCl w H) (hD : va_D A w) (hS : va_S A s.heap H locs) (u : S) (hw : w1 u a = w) (hp : post u) (hd : decode cc pc = .ok (.areturn, 1)) : W p l e R s m args below meth c H locs cells slots (MQ below (qMr g post w1 A) args s cells slots A) (F0 m pc ls [.ref a]) :=
  W.aret hx hb hr (Or.inl ⟨n, rfl⟩) (Or.inr ⟨a, rfl⟩) (fun t ht _ => ⟨⟨u, a, rfl, hp, by rw [hw, ht]; exact hP, by rw [hw]; exact hD⟩, hS.F ht⟩) hS.2.2 hd hlocks
/-! what a call needs at its start -/
theorem pS_blind {av : List Value} : FrameBlind (pS g av w) := fun _ _ _ _ q => ⟨q.1, q.2.1.calling, q.2.2⟩
theorem pM_blind {sz : Nat} {av : List Value} : FrameBlind (pM g sz av w) := fun _ _ _ _ q => ⟨q.1, q.2.1, q.2.2.1.calling, q.2.2.2⟩
theorem preVS {C : String} {b : Nat} {As : List Value} (hC : CK g s) (hP : va_P g.1 vwCl w H) (hr : ∃ cellB : Cell, H[b]? = some cellB ∧ cellB.vm.isStatics = false ∧ s.vm.findClass C = some cellB.cls) : PreV s H C b (pS g (.ref b :: As) w) As :=
  ⟨pS_blind, hr, fun U hU hW => ⟨rfl, hC.warm hW, by rw [hU]; exact hP⟩⟩
theorem preSS {As : List Value} (hC : CK g s) (hP : va_P g.1 vwCl w H) : PreS s H (pS g As w) As :=
  ⟨pS_blind, fun U hU hW => ⟨rfl, hC.warm hW, by rw [hU]; exact hP⟩⟩
theorem preVM {C : String} {b : Nat} {As : List Value} (hC : CK g s) (hP : va_P g.1 vwCl w H) (hD : va_D A w) (hr : ∃ cellB : Cell, H[b]? = some cellB ∧ cellB.vm.isStatics = false ∧ s.vm.findClass C = some cellB.cls) : PreV s H C b (pM g H.size (.ref b :: As) w) As :=
  ⟨pM_blind, hr, fun U hU hW => ⟨rfl, by rw [hU], hC.warm hW, by rw [hU]; exact hP, hD.weaken (fun _ _ _ _ => trivial)⟩⟩
theorem preSM {As : List Value} (hC : CK g s) (hP : va_P g.1 vwCl w H) (hD : va_D A w) : PreS s H (pM g H.size As w) As :=
  ⟨pM_blind, fun U hU hW => ⟨rfl, by rw [hU], hC.warm hW, by rw [hU]; exact hP, hD.weaken (fun _ _ _ _ => trivial)⟩⟩
/-! behind a call -/
variable {st0 : List Value} {a : Array Value}
theorem goSi {T : Int32} (hr : va_Run p l e R s m args below meth c H locs cells slots 0 0 (F0 m pc ls st0) rest (vp_Si (fun r => r = T) a) noF) (kk : W p l e R s m args below meth c H locs cells slots Q (F0 m (pc + 3) ls (.int T :: rest))) : W p l e R s m args below meth c H locs cells slots Q (F0 m pc ls st0) :=
  vp_callSi hr.run (fun r h => by subst h; exact kk)
theorem goSl {T : Int64} (hr : va_Run p l e R s m args below meth c H locs cells slots 0 0 (F0 m pc ls st0) rest (vp_Sl (fun r => r = T) a) noF) (kk : W p l e R s m args below meth c H locs cells slots Q (F0 m (pc + 3) ls (.long T :: rest))) : W p l e R s m args below meth c H locs cells slots Q (F0 m pc ls st0) :=
  vp_callSl hr.run (fun r h => by subst h; exact kk)
theorem goSq {T : Option Nat} (hr : va_Run p l e R s m args below meth c H locs cells slots 0 0 (F0 m pc ls st0) rest (va_Sq (fun r => r = T) a) noF) (kk : W p l e R s m args below meth c H locs cells slots Q (F0 m (pc + 3) ls (va_rf T :: rest))) : W p l e R s m args below meth c H locs cells slots Q (F0 m pc ls st0) :=
  va_csq hr.run (fun r h => by subst h; exact kk)
variable {mc ms : Nat} {S : Type}
theorem goMi {post : Int32 → S → Prop} {w1 : S → va_W} (hr : va_Run p l e R s m args below meth c H locs cells slots mc ms (F0 m pc ls st0) rest (qMi g post w1 (va_A wc H.size) a) (va_A wc H.size)) (hP : va_P g.1 vwCl w H) (hD : va_D A w) (hS : va_S A s.heap H locs) (hA : ∀ q : Nat, s.heap.size ≤ q → A q) (isC isR : List Nat) (hc : isC.map (fun i => w[i]?) = wc.map some) (hrr : isR.map (fun i => w[i]?) = wr.map some) (hn : va_nd isR = true) (hdis : ∀ i ∈ isR, i ∉ isC)
    (kk : ∀ (r : Int32) (u : S) (H1 : Heap) (locs1 : List Loc), post r u → va_P g.1 vwCl (wr ++ w1 u) H1 → va_D A (wr ++ w1 u) → va_S A s.heap H1 locs1 → W p l e R s m args below meth c H1 locs1 (cells + mc) (slots + ms) Q (F0 m (pc + 3) ls (.int r :: rest))) : W p l e R s m args below meth c H locs cells slots Q (F0 m pc ls st0) := by
  have hF := va_free hD hS hA isC hc
  refine va_calli hr hS (fun q _ h => hF q h) hF (fun r u t H1 locs1 ht _ hp hB _ hk hS1 => ?_)
  obtain ⟨hP1, hD1⟩ := hB
  rw [ht] at hP1
  obtain ⟨h1, h2⟩ := va_join hP hD isC isR hc hrr hn hdis hk hF hP1 hD1
  exact kk r u H1 locs1 hp h1 h2 hS1
theorem goMl {post : Int64 → S → Prop} {w1 : S → va_W} (hr : va_Run p l e R s m args below meth c H locs cells slots mc ms (F0 m pc ls st0) rest (qMl g post w1 (va_A wc H.size) a) (va_A wc H.size)) (hP : va_P g.1 vwCl w H) (hD : va_D A w) (hS : va_S A s.heap H locs) (hA : ∀ q : Nat, s.heap.size ≤ q → A q) (isC isR : List Nat) (hc : isC.map (fun i => w[i]?) = wc.map some) (hrr : isR.map (fun i => w[i]?) = wr.map some) (hn : va_nd isR = true) (hdis : ∀ i ∈ isR, i ∉ isC)
    (kk : ∀ (r : Int64) (u : S) (H1 : Heap) (locs1 : List Loc), post r u → va_P g.1 vwCl (wr ++ w1 u) H1 → va_D A (wr ++ w1 u) → va_S A s.heap H1 locs1 → W p l e R s m args below meth c H1 locs1 (cells + mc) (slots + ms) Q (F0 m (pc + 3) ls (.long r :: rest))) : W p l e R s m args below meth c H locs cells slots Q (F0 m pc ls st0) := by
  have hF := va_free hD hS hA isC hc
  refine va_calll hr hS (fun q _ h => hF q h) hF (fun r u t H1 locs1 ht _ hp hB _ hk hS1 => ?_)
  obtain ⟨hP1, hD1⟩ := hB
  rw [ht] at hP1
  obtain ⟨h1, h2⟩ := va_join hP hD isC isR hc hrr hn hdis hk hF hP1 hD1
  exact kk r u H1 locs1 hp h1 h2 hS1
theorem goMv {post : S → Prop} {w1 : S → va_W} (hr : va_Run p l e R s m args below meth c H locs cells slots mc ms (F0 m pc ls st0) rest (qMv g post w1 (va_A wc H.size) a) (va_A wc H.size)) (hP : va_P g.1 vwCl w H) (hD : va_D A w) (hS : va_S A s.heap H locs) (hA : ∀ q : Nat, s.heap.size ≤ q → A q) (isC isR : List Nat) (hc : isC.map (fun i => w[i]?) = wc.map some) (hrr : isR.map (fun i => w[i]?) = wr.map some) (hn : va_nd isR = true) (hdis : ∀ i ∈ isR, i ∉ isC)
    (kk : ∀ (u : S) (H1 : Heap) (locs1 : List Loc), post u → va_P g.1 vwCl (wr ++ w1 u) H1 → va_D A (wr ++ w1 u) → va_S A s.heap H1 locs1 → W p l e R s m args below meth c H1 locs1 (cells + mc) (slots + ms) Q (F0 m (pc + 3) ls rest)) : W p l e R s m args below meth c H locs cells slots Q (F0 m pc ls st0) := by
  have hF := va_free hD hS hA isC hc
  refine va_callv hr hS (fun q _ h => hF q h) hF (fun u t H1 locs1 ht _ hp hB _ hk hS1 => ?_)
  obtain ⟨hP1, hD1⟩ := hB
  rw [ht] at hP1
  obtain ⟨h1, h2⟩ := va_join hP hD isC isR hc hrr hn hdis hk hF hP1 hD1
  exact kk u H1 locs1 hp h1 h2 hS1
theorem goMr {post : S → Prop} {w1 : S → Nat → va_W} (hr : va_Run p l e R s m args below meth c H locs cells slots mc ms (F0 m pc ls st0) rest (qMr g post w1 (va_A wc H.size) a) (va_A wc H.size)) (hP : va_P g.1 vwCl w H) (hD : va_D A w) (hS : va_S A s.heap H locs) (hA : ∀ q : Nat, s.heap.size ≤ q → A q) (isC isR : List Nat) (hc : isC.map (fun i => w[i]?) = wc.map some) (hrr : isR.map (fun i => w[i]?) = wr.map some) (hn : va_nd isR = true) (hdis : ∀ i ∈ isR, i ∉ isC)
    (kk : ∀ (u : S) (ra : Nat) (H1 : Heap) (locs1 : List Loc), post u → va_P g.1 vwCl (wr ++ w1 u ra) H1 → va_D A (wr ++ w1 u ra) → va_S A s.heap H1 locs1 → W p l e R s m args below meth c H1 locs1 (cells + mc) (slots + ms) Q (F0 m (pc + 3) ls (.ref ra :: rest))) : W p l e R s m args below meth c H locs cells slots Q (F0 m pc ls st0) := by
  have hF := va_free hD hS hA isC hc
  refine va_callr hr hS (fun q _ h => hF q h) hF (fun u ra t H1 locs1 ht _ hp hB _ hk hS1 => ?_)
  obtain ⟨hP1, hD1⟩ := hB
  rw [ht] at hP1
  obtain ⟨h1, h2⟩ := va_join hP hD isC isR hc hrr hn hdis hk hF hP1 hD1
  exact kk u ra H1 locs1 hp h1 h2 hS1
/-! values -/
theorem top_i {x y : Int32} (h : x = y) (k : W p l e R s m args below meth c H locs cells slots Q (F0 m pc ls (.int y :: rest))) : W p l e R s m args below meth c H locs cells slots Q (F0 m pc ls (.int x :: rest)) := h ▸ k
theorem top_l {x y : Int64} (h : x = y) (k : W p l e R s m args below meth c H locs cells slots Q (F0 m pc ls (.long y :: rest))) : W p l e R s m args below meth c H locs cells slots Q (F0 m pc ls (.long x :: rest)) := h ▸ k
theorem top_r {x y : Option Nat} (h : x = y) (k : W p l e R s m args below meth c H locs cells slots Q (F0 m pc ls (va_rf y :: rest))) : W p l e R s m args below meth c H locs cells slots Q (F0 m pc ls (va_rf x :: rest)) := h ▸ k
/-! arrays at a place that is a number -/
variable {a0 : Nat} {q0 n j : Nat} {cA : ClassId}
theorem ald_i {f : Nat → Int32} (hx : p.tables.exec = Jvm.exec) (hb : c.code = cc) (hC : CK g s) (hP : va_P g.1 vwCl w H) (q0 : Nat) (ha : w[q0]? = some (a0, .inl (g.2.1, n, .inl f))) (hj : j < n) (hn : n < 2 ^ 31) (hd : decode cc pc = .ok (.iaload, 1))
    (kk : W p l e R s m args below meth c H locs cells slots Q (F0 m (pc + 1) ls (.int (f j) :: rest))) : W p l e R s m args below meth c H locs cells slots Q (F0 m pc ls (.int (nI j) :: .ref a0 :: rest)) :=
  va_iald hx hb hC.1 hP q0 0 ha rfl (vp_in_nI hj hn) hd (by rw [nI_clamp (Nat.lt_trans hj hn)]; exact kk)
theorem ald_l {f : Nat → Int64} (hx : p.tables.exec = Jvm.exec) (hb : c.code = cc) (hC : CK g s) (hP : va_P g.1 vwCl w H) (q0 : Nat) (ha : w[q0]? = some (a0, .inl (g.2.2.1, n, .inr (.inl f)))) (hj : j < n) (hn : n < 2 ^ 31) (hd : decode cc pc = .ok (.laload, 1))
    (kk : W p l e R s m args below meth c H locs cells slots Q (F0 m (pc + 1) ls (.long (f j) :: rest))) : W p l e R s m args below meth c H locs cells slots Q (F0 m pc ls (.int (nI j) :: .ref a0 :: rest)) :=
  va_lald hx hb hC.1 hP q0 1 ha rfl (vp_in_nI hj hn) hd (by rw [nI_clamp (Nat.lt_trans hj hn)]; exact kk)
theorem ald_b {f : Nat → Int32} (hx : p.tables.exec = Jvm.exec) (hb : c.code = cc) (hC : CK g s) (hP : va_P g.1 vwCl w H) (q0 : Nat) (ha : w[q0]? = some (a0, .inl (g.2.2.2.1, n, .inl f))) (hj : j < n) (hn : n < 2 ^ 31) (hd : decode cc pc = .ok (.baload, 1))
    (kk : W p l e R s m args below meth c H locs cells slots Q (F0 m (pc + 1) ls (.int (f j) :: rest))) : W p l e R s m args below meth c H locs cells slots Q (F0 m pc ls (.int (nI j) :: .ref a0 :: rest)) :=
  va_bald hx hb hC.1 hP q0 2 ha rfl (vp_in_nI hj hn) hd (by rw [nI_clamp (Nat.lt_trans hj hn)]; exact kk)
theorem ald_q {f : Nat → Option Nat} (hx : p.tables.exec = Jvm.exec) (hb : c.code = cc) (hC : CK g s) (hP : va_P g.1 vwCl w H) (q0 : Nat) (ha : w[q0]? = some (a0, .inl (g.2.2.2.2, n, .inr (.inr (.inr (.inr f)))))) (hj : j < n) (hn : n < 2 ^ 31) (hd : decode cc pc = .ok (.aaload, 1))
    (kk : W p l e R s m args below meth c H locs cells slots Q (F0 m (pc + 1) ls (va_rf (f j) :: rest))) : W p l e R s m args below meth c H locs cells slots Q (F0 m pc ls (.int (nI j) :: .ref a0 :: rest)) :=
  va_aldq hx hb hC.1 hP q0 3 ha rfl (vp_in_nI hj hn) hd (by rw [nI_clamp (Nat.lt_trans hj hn)]; exact kk)
theorem ast_i {f : Nat → Int32} {x : Int32} (hx : p.tables.exec = Jvm.exec) (hb : c.code = cc) (hC : CK g s) (hP : va_P g.1 vwCl w H) (hD : va_D A w) (hS : va_S A s.heap H locs) (q0 : Nat) (ha : w[q0]? = some (a0, .inl (g.2.1, n, .inl f))) (hj : j < n) (hn : n < 2 ^ 31) (hd : decode cc pc = .ok (.iastore, 1))
    (kk : ∀ (H1 : Heap) (locs1 : List Loc), va_P g.1 vwCl (w.set q0 (a0, .inl (g.2.1, n, .inl (upd f j x)))) H1 → va_D A (w.set q0 (a0, .inl (g.2.1, n, .inl (upd f j x)))) → va_S A s.heap H1 locs1 → W p l e R s m args below meth c H1 locs1 cells slots Q (F0 m (pc + 1) ls rest)) : W p l e R s m args below meth c H locs cells slots Q (F0 m pc ls (.int x :: .int (nI j) :: .ref a0 :: rest)) :=
  va_iast hx hb hC.1 hP hD hS q0 0 ha rfl (vp_in_nI hj hn) hd (by rw [nI_clamp (Nat.lt_trans hj hn)]; exact kk)
theorem ast_l {f : Nat → Int64} {x : Int64} (hx : p.tables.exec = Jvm.exec) (hb : c.code = cc) (hC : CK g s) (hP : va_P g.1 vwCl w H) (hD : va_D A w) (hS : va_S A s.heap H locs) (q0 : Nat) (ha : w[q0]? = some (a0, .inl (g.2.2.1, n, .inr (.inl f)))) (hj : j < n) (hn : n < 2 ^ 31) (hd : decode cc pc = .ok (.lastore, 1))
    (kk : ∀ (H1 : Heap) (locs1 : List Loc), va_P g.1 vwCl (w.set q0 (a0, .inl (g.2.2.1, n, .inr (.inl (vp_updL f j x))))) H1 → va_D A (w.set q0 (a0, .inl (g.2.2.1, n, .inr (.inl (vp_updL f j x))))) → va_S A s.heap H1 locs1 → W p l e R s m args below meth c H1 locs1 cells slots Q (F0 m (pc + 1) ls rest)) : W p l e R s m args below meth c H locs cells slots Q (F0 m pc ls (.long x :: .int (nI j) :: .ref a0 :: rest)) :=
  va_last hx hb hC.1 hP hD hS q0 1 ha rfl (vp_in_nI hj hn) hd (by rw [nI_clamp (Nat.lt_trans hj hn)]; exact kk)
/-! a comparison of longs and the branch behind it -/
variable {x y : Int64} {off : Int} {tgt : Nat}
theorem lc_eq (hx : p.tables.exec = Jvm.exec) (hb : c.code = cc) (hd : decode cc pc = .ok (.lcmp, 1)) (hd2 : decode cc (pc + 1) = .ok (.ifCond .eq off, 3)) (ht : ((pc + 1 : Nat) : Int) + off = (tgt : Int)) (kt : x = y → W p l e R s m args below meth c H locs cells slots Q (F0 m tgt ls rest)) (kf : ¬ x = y → W p l e R s m args below meth c H locs cells slots Q (F0 m (pc + 4) ls rest)) : W p l e R s m args below meth c H locs cells slots Q (F0 m pc ls (.long y :: .long x :: rest)) :=
  W.lcmp hx hb hd (lv_if_eq hx hb hd2 ht (fun h => kt ((lg_cmp_eq x y).mp h)) (fun h => kf (fun z => h ((lg_cmp_eq x y).mpr z))))
theorem lc_ne (hx : p.tables.exec = Jvm.exec) (hb : c.code = cc) (hd : decode cc pc = .ok (.lcmp, 1)) (hd2 : decode cc (pc + 1) = .ok (.ifCond .ne off, 3)) (ht : ((pc + 1 : Nat) : Int) + off = (tgt : Int)) (kt : ¬ x = y → W p l e R s m args below meth c H locs cells slots Q (F0 m tgt ls rest)) (kf : x = y → W p l e R s m args below meth c H locs cells slots Q (F0 m (pc + 4) ls rest)) : W p l e R s m args below meth c H locs cells slots Q (F0 m pc ls (.long y :: .long x :: rest)) :=
  W.lcmp hx hb hd (lv_if_ne hx hb hd2 ht (fun h => kt (fun z => h ((lg_cmp_eq x y).mpr z))) (fun h => kf ((lg_cmp_eq x y).mp h)))
theorem lc_lt (hx : p.tables.exec = Jvm.exec) (hb : c.code = cc) (hd : decode cc pc = .ok (.lcmp, 1)) (hd2 : decode cc (pc + 1) = .ok (.ifCond .lt off, 3)) (ht : ((pc + 1 : Nat) : Int) + off = (tgt : Int)) (kt : x < y → W p l e R s m args below meth c H locs cells slots Q (F0 m tgt ls rest)) (kf : ¬ x < y → W p l e R s m args below meth c H locs cells slots Q (F0 m (pc + 4) ls rest)) : W p l e R s m args below meth c H locs cells slots Q (F0 m pc ls (.long y :: .long x :: rest)) :=
  W.lcmp hx hb hd (lv_if_lt hx hb hd2 ht (fun h => kt ((lg_cmp_lt x y).mp h)) (fun h => kf (fun z => h ((lg_cmp_lt x y).mpr z))))
theorem lc_ge (hx : p.tables.exec = Jvm.exec) (hb : c.code = cc) (hd : decode cc pc = .ok (.lcmp, 1)) (hd2 : decode cc (pc + 1) = .ok (.ifCond .ge off, 3)) (ht : ((pc + 1 : Nat) : Int) + off = (tgt : Int)) (kt : y ≤ x → W p l e R s m args below meth c H locs cells slots Q (F0 m tgt ls rest)) (kf : ¬ y ≤ x → W p l e R s m args below meth c H locs cells slots Q (F0 m (pc + 4) ls rest)) : W p l e R s m args below meth c H locs cells slots Q (F0 m pc ls (.long y :: .long x :: rest)) :=
  W.lcmp hx hb hd (lv_if_ge hx hb hd2 ht (fun h => kt ((lg_cmp_ge x y).mp h)) (fun h => kf (fun z => h ((lg_cmp_ge x y).mpr z))))
theorem lc_gt (hx : p.tables.exec = Jvm.exec) (hb : c.code = cc) (hd : decode cc pc = .ok (.lcmp, 1)) (hd2 : decode cc (pc + 1) = .ok (.ifCond .gt off, 3)) (ht : ((pc + 1 : Nat) : Int) + off = (tgt : Int)) (kt : y < x → W p l e R s m args below meth c H locs cells slots Q (F0 m tgt ls rest)) (kf : ¬ y < x → W p l e R s m args below meth c H locs cells slots Q (F0 m (pc + 4) ls rest)) : W p l e R s m args below meth c H locs cells slots Q (F0 m pc ls (.long y :: .long x :: rest)) :=
  W.lcmp hx hb hd (lv_if_gt hx hb hd2 ht (fun h => kt ((lg_cmp_gt x y).mp h)) (fun h => kf (fun z => h ((lg_cmp_gt x y).mpr z))))
theorem lc_le (hx : p.tables.exec = Jvm.exec) (hb : c.code = cc) (hd : decode cc pc = .ok (.lcmp, 1)) (hd2 : decode cc (pc + 1) = .ok (.ifCond .le off, 3)) (ht : ((pc + 1 : Nat) : Int) + off = (tgt : Int)) (kt : x ≤ y → W p l e R s m args below meth c H locs cells slots Q (F0 m tgt ls rest)) (kf : ¬ x ≤ y → W p l e R s m args below meth c H locs cells slots Q (F0 m (pc + 4) ls rest)) : W p l e R s m args below meth c H locs cells slots Q (F0 m pc ls (.long y :: .long x :: rest)) :=
  W.lcmp hx hb hd (lv_if_le hx hb hd2 ht (fun h => kt ((lg_cmp_le x y).mp h)) (fun h => kf (fun z => h ((lg_cmp_le x y).mpr z))))
end KX
theorem hdJ6_bitCount_0f7a4 : yJ6_bitCount_0f7a4.cls ≠ "java/lang/invoke/MethodHandle" ∧ yJ6_bitCount_0f7a4.cls ≠ "java/lang/invoke/VarHandle" ∧ (parseMethodDescriptor yJ6_bitCount_0f7a4.desc).map (fun d => d.parameters.length) = some 1 := by decide +kernel
theorem hdX0_init : yX0_init.cls ≠ "java/lang/invoke/MethodHandle" ∧ yX0_init.cls ≠ "java/lang/invoke/VarHandle" ∧ (parseMethodDescriptor yX0_init.desc).map (fun d => d.parameters.length) = some 0 := by decide +kernel
theorem hdX0_kind : yX0_kind.cls ≠ "java/lang/invoke/MethodHandle" ∧ yX0_kind.cls ≠ "java/lang/invoke/VarHandle" ∧ (parseMethodDescriptor yX0_kind.desc).map (fun d => d.parameters.length) = some 0 := by decide +kernel
theorem hdX0_score : yX0_score.cls ≠ "java/lang/invoke/MethodHandle" ∧ yX0_score.cls ≠ "java/lang/invoke/VarHandle" ∧ (parseMethodDescriptor yX0_score.desc).map (fun d => d.parameters.length) = some 2 := by decide +kernel
theorem hdX1_breakNext : yX1_breakNext.cls ≠ "java/lang/invoke/MethodHandle" ∧ yX1_breakNext.cls ≠ "java/lang/invoke/VarHandle" ∧ (parseMethodDescriptor yX1_breakNext.desc).map (fun d => d.parameters.length) = some 1 := by decide +kernel
theorem hdX1_fewestAtWorst : yX1_fewestAtWorst.cls ≠ "java/lang/invoke/MethodHandle" ∧ yX1_fewestAtWorst.cls ≠ "java/lang/invoke/VarHandle" ∧ (parseMethodDescriptor yX1_fewestAtWorst.desc).map (fun d => d.parameters.length) = some 0 := by decide +kernel
theorem hdX1_fewestByWeight : yX1_fewestByWeight.cls ≠ "java/lang/invoke/MethodHandle" ∧ yX1_fewestByWeight.cls ≠ "java/lang/invoke/VarHandle" ∧ (parseMethodDescriptor yX1_fewestByWeight.desc).map (fun d => d.parameters.length) = some 0 := by decide +kernel
theorem hdX1_firstPlace : yX1_firstPlace.cls ≠ "java/lang/invoke/MethodHandle" ∧ yX1_firstPlace.cls ≠ "java/lang/invoke/VarHandle" ∧ (parseMethodDescriptor yX1_firstPlace.desc).map (fun d => d.parameters.length) = some 0 := by decide +kernel
theorem hdX1_init : yX1_init.cls ≠ "java/lang/invoke/MethodHandle" ∧ yX1_init.cls ≠ "java/lang/invoke/VarHandle" ∧ (parseMethodDescriptor yX1_init.desc).map (fun d => d.parameters.length) = some 0 := by decide +kernel
theorem hdX1_lastState : yX1_lastState.cls ≠ "java/lang/invoke/MethodHandle" ∧ yX1_lastState.cls ≠ "java/lang/invoke/VarHandle" ∧ (parseMethodDescriptor yX1_lastState.desc).map (fun d => d.parameters.length) = some 2 := by decide +kernel
theorem hdX1_solve : yX1_solve.cls ≠ "java/lang/invoke/MethodHandle" ∧ yX1_solve.cls ≠ "java/lang/invoke/VarHandle" ∧ (parseMethodDescriptor yX1_solve.desc).map (fun d => d.parameters.length) = some 2 := by decide +kernel
theorem hdX1_solveState : yX1_solveState.cls ≠ "java/lang/invoke/MethodHandle" ∧ yX1_solveState.cls ≠ "java/lang/invoke/VarHandle" ∧ (parseMethodDescriptor yX1_solveState.desc).map (fun d => d.parameters.length) = some 1 := by decide +kernel
theorem hdX1_spread : yX1_spread.cls ≠ "java/lang/invoke/MethodHandle" ∧ yX1_spread.cls ≠ "java/lang/invoke/VarHandle" ∧ (parseMethodDescriptor yX1_spread.desc).map (fun d => d.parameters.length) = some 2 := by decide +kernel
theorem hdX10_about : yX10_about.cls ≠ "java/lang/invoke/MethodHandle" ∧ yX10_about.cls ≠ "java/lang/invoke/VarHandle" ∧ (parseMethodDescriptor yX10_about.desc).map (fun d => d.parameters.length) = some 2 := by decide +kernel
theorem hdX10_as : yX10_as.cls ≠ "java/lang/invoke/MethodHandle" ∧ yX10_as.cls ≠ "java/lang/invoke/VarHandle" ∧ (parseMethodDescriptor yX10_as.desc).map (fun d => d.parameters.length) = some 2 := by decide +kernel
theorem hdX10_blank : yX10_blank.cls ≠ "java/lang/invoke/MethodHandle" ∧ yX10_blank.cls ≠ "java/lang/invoke/VarHandle" ∧ (parseMethodDescriptor yX10_blank.desc).map (fun d => d.parameters.length) = some 0 := by decide +kernel
theorem hdX10_commonDivisor : yX10_commonDivisor.cls ≠ "java/lang/invoke/MethodHandle" ∧ yX10_commonDivisor.cls ≠ "java/lang/invoke/VarHandle" ∧ (parseMethodDescriptor yX10_commonDivisor.desc).map (fun d => d.parameters.length) = some 2 := by decide +kernel
theorem hdX10_count : yX10_count.cls ≠ "java/lang/invoke/MethodHandle" ∧ yX10_count.cls ≠ "java/lang/invoke/VarHandle" ∧ (parseMethodDescriptor yX10_count.desc).map (fun d => d.parameters.length) = some 1 := by decide +kernel
theorem hdX10_crack : yX10_crack.cls ≠ "java/lang/invoke/MethodHandle" ∧ yX10_crack.cls ≠ "java/lang/invoke/VarHandle" ∧ (parseMethodDescriptor yX10_crack.desc).map (fun d => d.parameters.length) = some 2 := by decide +kernel
theorem hdX10_digest : yX10_digest.cls ≠ "java/lang/invoke/MethodHandle" ∧ yX10_digest.cls ≠ "java/lang/invoke/VarHandle" ∧ (parseMethodDescriptor yX10_digest.desc).map (fun d => d.parameters.length) = some 0 := by decide +kernel
theorem hdX10_egg : yX10_egg.cls ≠ "java/lang/invoke/MethodHandle" ∧ yX10_egg.cls ≠ "java/lang/invoke/VarHandle" ∧ (parseMethodDescriptor yX10_egg.desc).map (fun d => d.parameters.length) = some 2 := by decide +kernel
theorem hdX10_eggsAsMeant : yX10_eggsAsMeant.cls ≠ "java/lang/invoke/MethodHandle" ∧ yX10_eggsAsMeant.cls ≠ "java/lang/invoke/VarHandle" ∧ (parseMethodDescriptor yX10_eggsAsMeant.desc).map (fun d => d.parameters.length) = some 1 := by decide +kernel
theorem hdX10_fault : yX10_fault.cls ≠ "java/lang/invoke/MethodHandle" ∧ yX10_fault.cls ≠ "java/lang/invoke/VarHandle" ∧ (parseMethodDescriptor yX10_fault.desc).map (fun d => d.parameters.length) = some 0 := by decide +kernel
theorem hdX10_fits : yX10_fits.cls ≠ "java/lang/invoke/MethodHandle" ∧ yX10_fits.cls ≠ "java/lang/invoke/VarHandle" ∧ (parseMethodDescriptor yX10_fits.desc).map (fun d => d.parameters.length) = some 1 := by decide +kernel
theorem hdX10_has : yX10_has.cls ≠ "java/lang/invoke/MethodHandle" ∧ yX10_has.cls ≠ "java/lang/invoke/VarHandle" ∧ (parseMethodDescriptor yX10_has.desc).map (fun d => d.parameters.length) = some 2 := by decide +kernel
theorem hdX10_hasKitchen : yX10_hasKitchen.cls ≠ "java/lang/invoke/MethodHandle" ∧ yX10_hasKitchen.cls ≠ "java/lang/invoke/VarHandle" ∧ (parseMethodDescriptor yX10_hasKitchen.desc).map (fun d => d.parameters.length) = some 0 := by decide +kernel
theorem hdX10_image : yX10_image.cls ≠ "java/lang/invoke/MethodHandle" ∧ yX10_image.cls ≠ "java/lang/invoke/VarHandle" ∧ (parseMethodDescriptor yX10_image.desc).map (fun d => d.parameters.length) = some 0 := by decide +kernel
theorem hdX10_inLowestTerms : yX10_inLowestTerms.cls ≠ "java/lang/invoke/MethodHandle" ∧ yX10_inLowestTerms.cls ≠ "java/lang/invoke/VarHandle" ∧ (parseMethodDescriptor yX10_inLowestTerms.desc).map (fun d => d.parameters.length) = some 3 := by decide +kernel
theorem hdX10_init : yX10_init.cls ≠ "java/lang/invoke/MethodHandle" ∧ yX10_init.cls ≠ "java/lang/invoke/VarHandle" ∧ (parseMethodDescriptor yX10_init.desc).map (fun d => d.parameters.length) = some 0 := by decide +kernel
theorem hdX10_isEgg : yX10_isEgg.cls ≠ "java/lang/invoke/MethodHandle" ∧ yX10_isEgg.cls ≠ "java/lang/invoke/VarHandle" ∧ (parseMethodDescriptor yX10_isEgg.desc).map (fun d => d.parameters.length) = some 1 := by decide +kernel
theorem hdX10_isKind : yX10_isKind.cls ≠ "java/lang/invoke/MethodHandle" ∧ yX10_isKind.cls ≠ "java/lang/invoke/VarHandle" ∧ (parseMethodDescriptor yX10_isKind.desc).map (fun d => d.parameters.length) = some 1 := by decide +kernel
theorem hdX10_isOfKind : yX10_isOfKind.cls ≠ "java/lang/invoke/MethodHandle" ∧ yX10_isOfKind.cls ≠ "java/lang/invoke/VarHandle" ∧ (parseMethodDescriptor yX10_isOfKind.desc).map (fun d => d.parameters.length) = some 2 := by decide +kernel
theorem hdX10_isPart : yX10_isPart.cls ≠ "java/lang/invoke/MethodHandle" ∧ yX10_isPart.cls ≠ "java/lang/invoke/VarHandle" ∧ (parseMethodDescriptor yX10_isPart.desc).map (fun d => d.parameters.length) = some 1 := by decide +kernel
theorem hdX10_isRawNumber : yX10_isRawNumber.cls ≠ "java/lang/invoke/MethodHandle" ∧ yX10_isRawNumber.cls ≠ "java/lang/invoke/VarHandle" ∧ (parseMethodDescriptor yX10_isRawNumber.desc).map (fun d => d.parameters.length) = some 1 := by decide +kernel
theorem hdX10_kitchen : yX10_kitchen.cls ≠ "java/lang/invoke/MethodHandle" ∧ yX10_kitchen.cls ≠ "java/lang/invoke/VarHandle" ∧ (parseMethodDescriptor yX10_kitchen.desc).map (fun d => d.parameters.length) = some 0 := by decide +kernel
theorem hdX10_letter : yX10_letter.cls ≠ "java/lang/invoke/MethodHandle" ∧ yX10_letter.cls ≠ "java/lang/invoke/VarHandle" ∧ (parseMethodDescriptor yX10_letter.desc).map (fun d => d.parameters.length) = some 1 := by decide +kernel
theorem hdX10_likeliest : yX10_likeliest.cls ≠ "java/lang/invoke/MethodHandle" ∧ yX10_likeliest.cls ≠ "java/lang/invoke/VarHandle" ∧ (parseMethodDescriptor yX10_likeliest.desc).map (fun d => d.parameters.length) = some 0 := by decide +kernel
theorem hdX10_likely : yX10_likely.cls ≠ "java/lang/invoke/MethodHandle" ∧ yX10_likely.cls ≠ "java/lang/invoke/VarHandle" ∧ (parseMethodDescriptor yX10_likely.desc).map (fun d => d.parameters.length) = some 2 := by decide +kernel
theorem hdX10_mayBreak : yX10_mayBreak.cls ≠ "java/lang/invoke/MethodHandle" ∧ yX10_mayBreak.cls ≠ "java/lang/invoke/VarHandle" ∧ (parseMethodDescriptor yX10_mayBreak.desc).map (fun d => d.parameters.length) = some 0 := by decide +kernel
theorem hdX10_mean : yX10_mean.cls ≠ "java/lang/invoke/MethodHandle" ∧ yX10_mean.cls ≠ "java/lang/invoke/VarHandle" ∧ (parseMethodDescriptor yX10_mean.desc).map (fun d => d.parameters.length) = some 2 := by decide +kernel
theorem hdX10_mornings : yX10_mornings.cls ≠ "java/lang/invoke/MethodHandle" ∧ yX10_mornings.cls ≠ "java/lang/invoke/VarHandle" ∧ (parseMethodDescriptor yX10_mornings.desc).map (fun d => d.parameters.length) = some 3 := by decide +kernel
theorem hdX10_newTrier : yX10_newTrier.cls ≠ "java/lang/invoke/MethodHandle" ∧ yX10_newTrier.cls ≠ "java/lang/invoke/VarHandle" ∧ (parseMethodDescriptor yX10_newTrier.desc).map (fun d => d.parameters.length) = some 1 := by decide +kernel
theorem hdX10_restore : yX10_restore.cls ≠ "java/lang/invoke/MethodHandle" ∧ yX10_restore.cls ≠ "java/lang/invoke/VarHandle" ∧ (parseMethodDescriptor yX10_restore.desc).map (fun d => d.parameters.length) = some 0 := by decide +kernel
theorem hdX10_risk : yX10_risk.cls ≠ "java/lang/invoke/MethodHandle" ∧ yX10_risk.cls ≠ "java/lang/invoke/VarHandle" ∧ (parseMethodDescriptor yX10_risk.desc).map (fun d => d.parameters.length) = some 2 := by decide +kernel
theorem hdX10_spin : yX10_spin.cls ≠ "java/lang/invoke/MethodHandle" ∧ yX10_spin.cls ≠ "java/lang/invoke/VarHandle" ∧ (parseMethodDescriptor yX10_spin.desc).map (fun d => d.parameters.length) = some 2 := by decide +kernel
theorem hdX10_stop : yX10_stop.cls ≠ "java/lang/invoke/MethodHandle" ∧ yX10_stop.cls ≠ "java/lang/invoke/VarHandle" ∧ (parseMethodDescriptor yX10_stop.desc).map (fun d => d.parameters.length) = some 2 := by decide +kernel
theorem hdX10_trier : yX10_trier.cls ≠ "java/lang/invoke/MethodHandle" ∧ yX10_trier.cls ≠ "java/lang/invoke/VarHandle" ∧ (parseMethodDescriptor yX10_trier.desc).map (fun d => d.parameters.length) = some 1 := by decide +kernel
theorem hdX10_trierOf : yX10_trierOf.cls ≠ "java/lang/invoke/MethodHandle" ∧ yX10_trierOf.cls ≠ "java/lang/invoke/VarHandle" ∧ (parseMethodDescriptor yX10_trierOf.desc).map (fun d => d.parameters.length) = some 1 := by decide +kernel
theorem hdX10_turning : yX10_turning.cls ≠ "java/lang/invoke/MethodHandle" ∧ yX10_turning.cls ≠ "java/lang/invoke/VarHandle" ∧ (parseMethodDescriptor yX10_turning.desc).map (fun d => d.parameters.length) = some 2 := by decide +kernel
theorem hdX10_with : yX10_with.cls ≠ "java/lang/invoke/MethodHandle" ∧ yX10_with.cls ≠ "java/lang/invoke/VarHandle" ∧ (parseMethodDescriptor yX10_with.desc).map (fun d => d.parameters.length) = some 2 := by decide +kernel
theorem hdX10_withEgg : yX10_withEgg.cls ≠ "java/lang/invoke/MethodHandle" ∧ yX10_withEgg.cls ≠ "java/lang/invoke/VarHandle" ∧ (parseMethodDescriptor yX10_withEgg.desc).map (fun d => d.parameters.length) = some 2 := by decide +kernel
theorem hdX10_worst : yX10_worst.cls ≠ "java/lang/invoke/MethodHandle" ∧ yX10_worst.cls ≠ "java/lang/invoke/VarHandle" ∧ (parseMethodDescriptor yX10_worst.desc).map (fun d => d.parameters.length) = some 2 := by decide +kernel
theorem hdX11_about : yX11_about.cls ≠ "java/lang/invoke/MethodHandle" ∧ yX11_about.cls ≠ "java/lang/invoke/VarHandle" ∧ (parseMethodDescriptor yX11_about.desc).map (fun d => d.parameters.length) = some 2 := by decide +kernel
theorem hdX11_as : yX11_as.cls ≠ "java/lang/invoke/MethodHandle" ∧ yX11_as.cls ≠ "java/lang/invoke/VarHandle" ∧ (parseMethodDescriptor yX11_as.desc).map (fun d => d.parameters.length) = some 2 := by decide +kernel
theorem hdX11_badness : yX11_badness.cls ≠ "java/lang/invoke/MethodHandle" ∧ yX11_badness.cls ≠ "java/lang/invoke/VarHandle" ∧ (parseMethodDescriptor yX11_badness.desc).map (fun d => d.parameters.length) = some 2 := by decide +kernel
theorem hdX11_blank : yX11_blank.cls ≠ "java/lang/invoke/MethodHandle" ∧ yX11_blank.cls ≠ "java/lang/invoke/VarHandle" ∧ (parseMethodDescriptor yX11_blank.desc).map (fun d => d.parameters.length) = some 0 := by decide +kernel
theorem hdX11_boiledWeight : yX11_boiledWeight.cls ≠ "java/lang/invoke/MethodHandle" ∧ yX11_boiledWeight.cls ≠ "java/lang/invoke/VarHandle" ∧ (parseMethodDescriptor yX11_boiledWeight.desc).map (fun d => d.parameters.length) = some 2 := by decide +kernel
theorem hdX11_boxBy : yX11_boxBy.cls ≠ "java/lang/invoke/MethodHandle" ∧ yX11_boxBy.cls ≠ "java/lang/invoke/VarHandle" ∧ (parseMethodDescriptor yX11_boxBy.desc).map (fun d => d.parameters.length) = some 1 := by decide +kernel
theorem hdX11_count : yX11_count.cls ≠ "java/lang/invoke/MethodHandle" ∧ yX11_count.cls ≠ "java/lang/invoke/VarHandle" ∧ (parseMethodDescriptor yX11_count.desc).map (fun d => d.parameters.length) = some 1 := by decide +kernel
theorem hdX11_crack : yX11_crack.cls ≠ "java/lang/invoke/MethodHandle" ∧ yX11_crack.cls ≠ "java/lang/invoke/VarHandle" ∧ (parseMethodDescriptor yX11_crack.desc).map (fun d => d.parameters.length) = some 2 := by decide +kernel
theorem hdX11_digest : yX11_digest.cls ≠ "java/lang/invoke/MethodHandle" ∧ yX11_digest.cls ≠ "java/lang/invoke/VarHandle" ∧ (parseMethodDescriptor yX11_digest.desc).map (fun d => d.parameters.length) = some 0 := by decide +kernel
theorem hdX11_draw : yX11_draw.cls ≠ "java/lang/invoke/MethodHandle" ∧ yX11_draw.cls ≠ "java/lang/invoke/VarHandle" ∧ (parseMethodDescriptor yX11_draw.desc).map (fun d => d.parameters.length) = some 1 := by decide +kernel
theorem hdX11_egg : yX11_egg.cls ≠ "java/lang/invoke/MethodHandle" ∧ yX11_egg.cls ≠ "java/lang/invoke/VarHandle" ∧ (parseMethodDescriptor yX11_egg.desc).map (fun d => d.parameters.length) = some 2 := by decide +kernel
theorem hdX11_eggNow : yX11_eggNow.cls ≠ "java/lang/invoke/MethodHandle" ∧ yX11_eggNow.cls ≠ "java/lang/invoke/VarHandle" ∧ (parseMethodDescriptor yX11_eggNow.desc).map (fun d => d.parameters.length) = some 2 := by decide +kernel
theorem hdX11_eggsOf : yX11_eggsOf.cls ≠ "java/lang/invoke/MethodHandle" ∧ yX11_eggsOf.cls ≠ "java/lang/invoke/VarHandle" ∧ (parseMethodDescriptor yX11_eggsOf.desc).map (fun d => d.parameters.length) = some 2 := by decide +kernel
theorem hdX11_fault : yX11_fault.cls ≠ "java/lang/invoke/MethodHandle" ∧ yX11_fault.cls ≠ "java/lang/invoke/VarHandle" ∧ (parseMethodDescriptor yX11_fault.desc).map (fun d => d.parameters.length) = some 0 := by decide +kernel
theorem hdX11_faultNow : yX11_faultNow.cls ≠ "java/lang/invoke/MethodHandle" ∧ yX11_faultNow.cls ≠ "java/lang/invoke/VarHandle" ∧ (parseMethodDescriptor yX11_faultNow.desc).map (fun d => d.parameters.length) = some 0 := by decide +kernel
theorem hdX11_figure : yX11_figure.cls ≠ "java/lang/invoke/MethodHandle" ∧ yX11_figure.cls ≠ "java/lang/invoke/VarHandle" ∧ (parseMethodDescriptor yX11_figure.desc).map (fun d => d.parameters.length) = some 1 := by decide +kernel
theorem hdX11_figureOf : yX11_figureOf.cls ≠ "java/lang/invoke/MethodHandle" ∧ yX11_figureOf.cls ≠ "java/lang/invoke/VarHandle" ∧ (parseMethodDescriptor yX11_figureOf.desc).map (fun d => d.parameters.length) = some 2 := by decide +kernel
theorem hdX11_fits : yX11_fits.cls ≠ "java/lang/invoke/MethodHandle" ∧ yX11_fits.cls ≠ "java/lang/invoke/VarHandle" ∧ (parseMethodDescriptor yX11_fits.desc).map (fun d => d.parameters.length) = some 1 := by decide +kernel
theorem hdX11_fitsNow : yX11_fitsNow.cls ≠ "java/lang/invoke/MethodHandle" ∧ yX11_fitsNow.cls ≠ "java/lang/invoke/VarHandle" ∧ (parseMethodDescriptor yX11_fitsNow.desc).map (fun d => d.parameters.length) = some 1 := by decide +kernel
theorem hdX11_has : yX11_has.cls ≠ "java/lang/invoke/MethodHandle" ∧ yX11_has.cls ≠ "java/lang/invoke/VarHandle" ∧ (parseMethodDescriptor yX11_has.desc).map (fun d => d.parameters.length) = some 2 := by decide +kernel
theorem hdX11_howMany : yX11_howMany.cls ≠ "java/lang/invoke/MethodHandle" ∧ yX11_howMany.cls ≠ "java/lang/invoke/VarHandle" ∧ (parseMethodDescriptor yX11_howMany.desc).map (fun d => d.parameters.length) = some 1 := by decide +kernel
theorem hdX11_image : yX11_image.cls ≠ "java/lang/invoke/MethodHandle" ∧ yX11_image.cls ≠ "java/lang/invoke/VarHandle" ∧ (parseMethodDescriptor yX11_image.desc).map (fun d => d.parameters.length) = some 0 := by decide +kernel
theorem hdX11_init : yX11_init.cls ≠ "java/lang/invoke/MethodHandle" ∧ yX11_init.cls ≠ "java/lang/invoke/VarHandle" ∧ (parseMethodDescriptor yX11_init.desc).map (fun d => d.parameters.length) = some 0 := by decide +kernel
theorem hdX11_isEgg : yX11_isEgg.cls ≠ "java/lang/invoke/MethodHandle" ∧ yX11_isEgg.cls ≠ "java/lang/invoke/VarHandle" ∧ (parseMethodDescriptor yX11_isEgg.desc).map (fun d => d.parameters.length) = some 1 := by decide +kernel
theorem hdX11_isGood : yX11_isGood.cls ≠ "java/lang/invoke/MethodHandle" ∧ yX11_isGood.cls ≠ "java/lang/invoke/VarHandle" ∧ (parseMethodDescriptor yX11_isGood.desc).map (fun d => d.parameters.length) = some 1 := by decide +kernel
theorem hdX11_isInBox : yX11_isInBox.cls ≠ "java/lang/invoke/MethodHandle" ∧ yX11_isInBox.cls ≠ "java/lang/invoke/VarHandle" ∧ (parseMethodDescriptor yX11_isInBox.desc).map (fun d => d.parameters.length) = some 1 := by decide +kernel
theorem hdX11_isTrier : yX11_isTrier.cls ≠ "java/lang/invoke/MethodHandle" ∧ yX11_isTrier.cls ≠ "java/lang/invoke/VarHandle" ∧ (parseMethodDescriptor yX11_isTrier.desc).map (fun d => d.parameters.length) = some 1 := by decide +kernel
theorem hdX11_kitchen : yX11_kitchen.cls ≠ "java/lang/invoke/MethodHandle" ∧ yX11_kitchen.cls ≠ "java/lang/invoke/VarHandle" ∧ (parseMethodDescriptor yX11_kitchen.desc).map (fun d => d.parameters.length) = some 0 := by decide +kernel
theorem hdX11_know : yX11_know.cls ≠ "java/lang/invoke/MethodHandle" ∧ yX11_know.cls ≠ "java/lang/invoke/VarHandle" ∧ (parseMethodDescriptor yX11_know.desc).map (fun d => d.parameters.length) = some 2 := by decide +kernel
theorem hdX11_larger : yX11_larger.cls ≠ "java/lang/invoke/MethodHandle" ∧ yX11_larger.cls ≠ "java/lang/invoke/VarHandle" ∧ (parseMethodDescriptor yX11_larger.desc).map (fun d => d.parameters.length) = some 2 := by decide +kernel
theorem hdX11_layBreaking : yX11_layBreaking.cls ≠ "java/lang/invoke/MethodHandle" ∧ yX11_layBreaking.cls ≠ "java/lang/invoke/VarHandle" ∧ (parseMethodDescriptor yX11_layBreaking.desc).map (fun d => d.parameters.length) = some 1 := by decide +kernel
theorem hdX11_layState : yX11_layState.cls ≠ "java/lang/invoke/MethodHandle" ∧ yX11_layState.cls ≠ "java/lang/invoke/VarHandle" ∧ (parseMethodDescriptor yX11_layState.desc).map (fun d => d.parameters.length) = some 2 := by decide +kernel
theorem hdX11_layWeights : yX11_layWeights.cls ≠ "java/lang/invoke/MethodHandle" ∧ yX11_layWeights.cls ≠ "java/lang/invoke/VarHandle" ∧ (parseMethodDescriptor yX11_layWeights.desc).map (fun d => d.parameters.length) = some 0 := by decide +kernel
theorem hdX11_letter : yX11_letter.cls ≠ "java/lang/invoke/MethodHandle" ∧ yX11_letter.cls ≠ "java/lang/invoke/VarHandle" ∧ (parseMethodDescriptor yX11_letter.desc).map (fun d => d.parameters.length) = some 1 := by decide +kernel
theorem hdX11_likeliest : yX11_likeliest.cls ≠ "java/lang/invoke/MethodHandle" ∧ yX11_likeliest.cls ≠ "java/lang/invoke/VarHandle" ∧ (parseMethodDescriptor yX11_likeliest.desc).map (fun d => d.parameters.length) = some 0 := by decide +kernel
theorem hdX11_likeliestNow : yX11_likeliestNow.cls ≠ "java/lang/invoke/MethodHandle" ∧ yX11_likeliestNow.cls ≠ "java/lang/invoke/VarHandle" ∧ (parseMethodDescriptor yX11_likeliestNow.desc).map (fun d => d.parameters.length) = some 0 := by decide +kernel
theorem hdX11_likely : yX11_likely.cls ≠ "java/lang/invoke/MethodHandle" ∧ yX11_likely.cls ≠ "java/lang/invoke/VarHandle" ∧ (parseMethodDescriptor yX11_likely.desc).map (fun d => d.parameters.length) = some 2 := by decide +kernel
theorem hdX11_likelyNow : yX11_likelyNow.cls ≠ "java/lang/invoke/MethodHandle" ∧ yX11_likelyNow.cls ≠ "java/lang/invoke/VarHandle" ∧ (parseMethodDescriptor yX11_likelyNow.desc).map (fun d => d.parameters.length) = some 2 := by decide +kernel
theorem hdX11_lowest : yX11_lowest.cls ≠ "java/lang/invoke/MethodHandle" ∧ yX11_lowest.cls ≠ "java/lang/invoke/VarHandle" ∧ (parseMethodDescriptor yX11_lowest.desc).map (fun d => d.parameters.length) = some 3 := by decide +kernel
theorem hdX11_mayAsk : yX11_mayAsk.cls ≠ "java/lang/invoke/MethodHandle" ∧ yX11_mayAsk.cls ≠ "java/lang/invoke/VarHandle" ∧ (parseMethodDescriptor yX11_mayAsk.desc).map (fun d => d.parameters.length) = some 0 := by decide +kernel
theorem hdX11_mean : yX11_mean.cls ≠ "java/lang/invoke/MethodHandle" ∧ yX11_mean.cls ≠ "java/lang/invoke/VarHandle" ∧ (parseMethodDescriptor yX11_mean.desc).map (fun d => d.parameters.length) = some 2 := by decide +kernel
theorem hdX11_mix : yX11_mix.cls ≠ "java/lang/invoke/MethodHandle" ∧ yX11_mix.cls ≠ "java/lang/invoke/VarHandle" ∧ (parseMethodDescriptor yX11_mix.desc).map (fun d => d.parameters.length) = some 1 := by decide +kernel
theorem hdX11_mornings : yX11_mornings.cls ≠ "java/lang/invoke/MethodHandle" ∧ yX11_mornings.cls ≠ "java/lang/invoke/VarHandle" ∧ (parseMethodDescriptor yX11_mornings.desc).map (fun d => d.parameters.length) = some 3 := by decide +kernel
theorem hdX11_morningsNow : yX11_morningsNow.cls ≠ "java/lang/invoke/MethodHandle" ∧ yX11_morningsNow.cls ≠ "java/lang/invoke/VarHandle" ∧ (parseMethodDescriptor yX11_morningsNow.desc).map (fun d => d.parameters.length) = some 3 := by decide +kernel
theorem hdX11_nextOf : yX11_nextOf.cls ≠ "java/lang/invoke/MethodHandle" ∧ yX11_nextOf.cls ≠ "java/lang/invoke/VarHandle" ∧ (parseMethodDescriptor yX11_nextOf.desc).map (fun d => d.parameters.length) = some 1 := by decide +kernel
theorem hdX11_power : yX11_power.cls ≠ "java/lang/invoke/MethodHandle" ∧ yX11_power.cls ≠ "java/lang/invoke/VarHandle" ∧ (parseMethodDescriptor yX11_power.desc).map (fun d => d.parameters.length) = some 2 := by decide +kernel
theorem hdX11_restore : yX11_restore.cls ≠ "java/lang/invoke/MethodHandle" ∧ yX11_restore.cls ≠ "java/lang/invoke/VarHandle" ∧ (parseMethodDescriptor yX11_restore.desc).map (fun d => d.parameters.length) = some 0 := by decide +kernel
theorem hdX11_risk : yX11_risk.cls ≠ "java/lang/invoke/MethodHandle" ∧ yX11_risk.cls ≠ "java/lang/invoke/VarHandle" ∧ (parseMethodDescriptor yX11_risk.desc).map (fun d => d.parameters.length) = some 2 := by decide +kernel
theorem hdX11_riskNow : yX11_riskNow.cls ≠ "java/lang/invoke/MethodHandle" ∧ yX11_riskNow.cls ≠ "java/lang/invoke/VarHandle" ∧ (parseMethodDescriptor yX11_riskNow.desc).map (fun d => d.parameters.length) = some 2 := by decide +kernel
theorem hdX11_size : yX11_size.cls ≠ "java/lang/invoke/MethodHandle" ∧ yX11_size.cls ≠ "java/lang/invoke/VarHandle" ∧ (parseMethodDescriptor yX11_size.desc).map (fun d => d.parameters.length) = some 1 := by decide +kernel
theorem hdX11_spin : yX11_spin.cls ≠ "java/lang/invoke/MethodHandle" ∧ yX11_spin.cls ≠ "java/lang/invoke/VarHandle" ∧ (parseMethodDescriptor yX11_spin.desc).map (fun d => d.parameters.length) = some 2 := by decide +kernel
theorem hdX11_spun : yX11_spun.cls ≠ "java/lang/invoke/MethodHandle" ∧ yX11_spun.cls ≠ "java/lang/invoke/VarHandle" ∧ (parseMethodDescriptor yX11_spun.desc).map (fun d => d.parameters.length) = some 2 := by decide +kernel
theorem hdX11_stop : yX11_stop.cls ≠ "java/lang/invoke/MethodHandle" ∧ yX11_stop.cls ≠ "java/lang/invoke/VarHandle" ∧ (parseMethodDescriptor yX11_stop.desc).map (fun d => d.parameters.length) = some 2 := by decide +kernel
theorem hdX11_three : yX11_three.cls ≠ "java/lang/invoke/MethodHandle" ∧ yX11_three.cls ≠ "java/lang/invoke/VarHandle" ∧ (parseMethodDescriptor yX11_three.desc).map (fun d => d.parameters.length) = some 1 := by decide +kernel
theorem hdX11_total : yX11_total.cls ≠ "java/lang/invoke/MethodHandle" ∧ yX11_total.cls ≠ "java/lang/invoke/VarHandle" ∧ (parseMethodDescriptor yX11_total.desc).map (fun d => d.parameters.length) = some 2 := by decide +kernel
theorem hdX11_trier : yX11_trier.cls ≠ "java/lang/invoke/MethodHandle" ∧ yX11_trier.cls ≠ "java/lang/invoke/VarHandle" ∧ (parseMethodDescriptor yX11_trier.desc).map (fun d => d.parameters.length) = some 1 := by decide +kernel
theorem hdX11_trierNow : yX11_trierNow.cls ≠ "java/lang/invoke/MethodHandle" ∧ yX11_trierNow.cls ≠ "java/lang/invoke/VarHandle" ∧ (parseMethodDescriptor yX11_trierNow.desc).map (fun d => d.parameters.length) = some 2 := by decide +kernel
theorem hdX11_turning : yX11_turning.cls ≠ "java/lang/invoke/MethodHandle" ∧ yX11_turning.cls ≠ "java/lang/invoke/VarHandle" ∧ (parseMethodDescriptor yX11_turning.desc).map (fun d => d.parameters.length) = some 2 := by decide +kernel
theorem hdX11_turningNow : yX11_turningNow.cls ≠ "java/lang/invoke/MethodHandle" ∧ yX11_turningNow.cls ≠ "java/lang/invoke/VarHandle" ∧ (parseMethodDescriptor yX11_turningNow.desc).map (fun d => d.parameters.length) = some 2 := by decide +kernel
theorem hdX11_weight : yX11_weight.cls ≠ "java/lang/invoke/MethodHandle" ∧ yX11_weight.cls ≠ "java/lang/invoke/VarHandle" ∧ (parseMethodDescriptor yX11_weight.desc).map (fun d => d.parameters.length) = some 3 := by decide +kernel
theorem hdX11_within : yX11_within.cls ≠ "java/lang/invoke/MethodHandle" ∧ yX11_within.cls ≠ "java/lang/invoke/VarHandle" ∧ (parseMethodDescriptor yX11_within.desc).map (fun d => d.parameters.length) = some 3 := by decide +kernel
theorem hdX11_worst : yX11_worst.cls ≠ "java/lang/invoke/MethodHandle" ∧ yX11_worst.cls ≠ "java/lang/invoke/VarHandle" ∧ (parseMethodDescriptor yX11_worst.desc).map (fun d => d.parameters.length) = some 2 := by decide +kernel
theorem hdX2_init : yX2_init.cls ≠ "java/lang/invoke/MethodHandle" ∧ yX2_init.cls ≠ "java/lang/invoke/VarHandle" ∧ (parseMethodDescriptor yX2_init.desc).map (fun d => d.parameters.length) = some 0 := by decide +kernel
theorem hdX2_kind : yX2_kind.cls ≠ "java/lang/invoke/MethodHandle" ∧ yX2_kind.cls ≠ "java/lang/invoke/VarHandle" ∧ (parseMethodDescriptor yX2_kind.desc).map (fun d => d.parameters.length) = some 0 := by decide +kernel
theorem hdX2_score : yX2_score.cls ≠ "java/lang/invoke/MethodHandle" ∧ yX2_score.cls ≠ "java/lang/invoke/VarHandle" ∧ (parseMethodDescriptor yX2_score.desc).map (fun d => d.parameters.length) = some 2 := by decide +kernel
theorem hdX3_init : yX3_init.cls ≠ "java/lang/invoke/MethodHandle" ∧ yX3_init.cls ≠ "java/lang/invoke/VarHandle" ∧ (parseMethodDescriptor yX3_init.desc).map (fun d => d.parameters.length) = some 0 := by decide +kernel
theorem hdX3_next : yX3_next.cls ≠ "java/lang/invoke/MethodHandle" ∧ yX3_next.cls ≠ "java/lang/invoke/VarHandle" ∧ (parseMethodDescriptor yX3_next.desc).map (fun d => d.parameters.length) = some 1 := by decide +kernel
theorem hdX3_startFrom : yX3_startFrom.cls ≠ "java/lang/invoke/MethodHandle" ∧ yX3_startFrom.cls ≠ "java/lang/invoke/VarHandle" ∧ (parseMethodDescriptor yX3_startFrom.desc).map (fun d => d.parameters.length) = some 1 := by decide +kernel
theorem hdX4_init : yX4_init.cls ≠ "java/lang/invoke/MethodHandle" ∧ yX4_init.cls ≠ "java/lang/invoke/VarHandle" ∧ (parseMethodDescriptor yX4_init.desc).map (fun d => d.parameters.length) = some 0 := by decide +kernel
theorem hdX4_kind : yX4_kind.cls ≠ "java/lang/invoke/MethodHandle" ∧ yX4_kind.cls ≠ "java/lang/invoke/VarHandle" ∧ (parseMethodDescriptor yX4_kind.desc).map (fun d => d.parameters.length) = some 0 := by decide +kernel
theorem hdX4_takesLast : yX4_takesLast.cls ≠ "java/lang/invoke/MethodHandle" ∧ yX4_takesLast.cls ≠ "java/lang/invoke/VarHandle" ∧ (parseMethodDescriptor yX4_takesLast.desc).map (fun d => d.parameters.length) = some 0 := by decide +kernel
theorem hdX5_init : yX5_init.cls ≠ "java/lang/invoke/MethodHandle" ∧ yX5_init.cls ≠ "java/lang/invoke/VarHandle" ∧ (parseMethodDescriptor yX5_init.desc).map (fun d => d.parameters.length) = some 0 := by decide +kernel
theorem hdX5_kind : yX5_kind.cls ≠ "java/lang/invoke/MethodHandle" ∧ yX5_kind.cls ≠ "java/lang/invoke/VarHandle" ∧ (parseMethodDescriptor yX5_kind.desc).map (fun d => d.parameters.length) = some 0 := by decide +kernel
theorem hdX5_score : yX5_score.cls ≠ "java/lang/invoke/MethodHandle" ∧ yX5_score.cls ≠ "java/lang/invoke/VarHandle" ∧ (parseMethodDescriptor yX5_score.desc).map (fun d => d.parameters.length) = some 2 := by decide +kernel
theorem hdX6_allEggs : yX6_allEggs.cls ≠ "java/lang/invoke/MethodHandle" ∧ yX6_allEggs.cls ≠ "java/lang/invoke/VarHandle" ∧ (parseMethodDescriptor yX6_allEggs.desc).map (fun d => d.parameters.length) = some 0 := by decide +kernel
theorem hdX6_habitsOf : yX6_habitsOf.cls ≠ "java/lang/invoke/MethodHandle" ∧ yX6_habitsOf.cls ≠ "java/lang/invoke/VarHandle" ∧ (parseMethodDescriptor yX6_habitsOf.desc).map (fun d => d.parameters.length) = some 1 := by decide +kernel
theorem hdX6_init : yX6_init.cls ≠ "java/lang/invoke/MethodHandle" ∧ yX6_init.cls ≠ "java/lang/invoke/VarHandle" ∧ (parseMethodDescriptor yX6_init.desc).map (fun d => d.parameters.length) = some 0 := by decide +kernel
theorem hdX6_readFrom : yX6_readFrom.cls ≠ "java/lang/invoke/MethodHandle" ∧ yX6_readFrom.cls ≠ "java/lang/invoke/VarHandle" ∧ (parseMethodDescriptor yX6_readFrom.desc).map (fun d => d.parameters.length) = some 1 := by decide +kernel
theorem hdX6_tenthsOf : yX6_tenthsOf.cls ≠ "java/lang/invoke/MethodHandle" ∧ yX6_tenthsOf.cls ≠ "java/lang/invoke/VarHandle" ∧ (parseMethodDescriptor yX6_tenthsOf.desc).map (fun d => d.parameters.length) = some 2 := by decide +kernel
theorem hdX7_append : yX7_append.cls ≠ "java/lang/invoke/MethodHandle" ∧ yX7_append.cls ≠ "java/lang/invoke/VarHandle" ∧ (parseMethodDescriptor yX7_append.desc).map (fun d => d.parameters.length) = some 1 := by decide +kernel
theorem hdX7_clear : yX7_clear.cls ≠ "java/lang/invoke/MethodHandle" ∧ yX7_clear.cls ≠ "java/lang/invoke/VarHandle" ∧ (parseMethodDescriptor yX7_clear.desc).map (fun d => d.parameters.length) = some 0 := by decide +kernel
theorem hdX7_digit : yX7_digit.cls ≠ "java/lang/invoke/MethodHandle" ∧ yX7_digit.cls ≠ "java/lang/invoke/VarHandle" ∧ (parseMethodDescriptor yX7_digit.desc).map (fun d => d.parameters.length) = some 1 := by decide +kernel
theorem hdX7_firstFault : yX7_firstFault.cls ≠ "java/lang/invoke/MethodHandle" ∧ yX7_firstFault.cls ≠ "java/lang/invoke/VarHandle" ∧ (parseMethodDescriptor yX7_firstFault.desc).map (fun d => d.parameters.length) = some 0 := by decide +kernel
theorem hdX7_init : yX7_init.cls ≠ "java/lang/invoke/MethodHandle" ∧ yX7_init.cls ≠ "java/lang/invoke/VarHandle" ∧ (parseMethodDescriptor yX7_init.desc).map (fun d => d.parameters.length) = some 0 := by decide +kernel
theorem hdX7_isDigit : yX7_isDigit.cls ≠ "java/lang/invoke/MethodHandle" ∧ yX7_isDigit.cls ≠ "java/lang/invoke/VarHandle" ∧ (parseMethodDescriptor yX7_isDigit.desc).map (fun d => d.parameters.length) = some 3 := by decide +kernel
theorem hdX7_isFull : yX7_isFull.cls ≠ "java/lang/invoke/MethodHandle" ∧ yX7_isFull.cls ≠ "java/lang/invoke/VarHandle" ∧ (parseMethodDescriptor yX7_isFull.desc).map (fun d => d.parameters.length) = some 0 := by decide +kernel
theorem hdX7_isWholeKitchen : yX7_isWholeKitchen.cls ≠ "java/lang/invoke/MethodHandle" ∧ yX7_isWholeKitchen.cls ≠ "java/lang/invoke/VarHandle" ∧ (parseMethodDescriptor yX7_isWholeKitchen.desc).map (fun d => d.parameters.length) = some 0 := by decide +kernel
theorem hdX7_suits : yX7_suits.cls ≠ "java/lang/invoke/MethodHandle" ∧ yX7_suits.cls ≠ "java/lang/invoke/VarHandle" ∧ (parseMethodDescriptor yX7_suits.desc).map (fun d => d.parameters.length) = some 1 := by decide +kernel
theorem hdX8_allWeight : yX8_allWeight.cls ≠ "java/lang/invoke/MethodHandle" ∧ yX8_allWeight.cls ≠ "java/lang/invoke/VarHandle" ∧ (parseMethodDescriptor yX8_allWeight.desc).map (fun d => d.parameters.length) = some 0 := by decide +kernel
theorem hdX8_begin : yX8_begin.cls ≠ "java/lang/invoke/MethodHandle" ∧ yX8_begin.cls ≠ "java/lang/invoke/VarHandle" ∧ (parseMethodDescriptor yX8_begin.desc).map (fun d => d.parameters.length) = some 1 := by decide +kernel
theorem hdX8_boiledWeight : yX8_boiledWeight.cls ≠ "java/lang/invoke/MethodHandle" ∧ yX8_boiledWeight.cls ≠ "java/lang/invoke/VarHandle" ∧ (parseMethodDescriptor yX8_boiledWeight.desc).map (fun d => d.parameters.length) = some 1 := by decide +kernel
theorem hdX8_canBe : yX8_canBe.cls ≠ "java/lang/invoke/MethodHandle" ∧ yX8_canBe.cls ≠ "java/lang/invoke/VarHandle" ∧ (parseMethodDescriptor yX8_canBe.desc).map (fun d => d.parameters.length) = some 3 := by decide +kernel
theorem hdX8_canBeSure : yX8_canBeSure.cls ≠ "java/lang/invoke/MethodHandle" ∧ yX8_canBeSure.cls ≠ "java/lang/invoke/VarHandle" ∧ (parseMethodDescriptor yX8_canBeSure.desc).map (fun d => d.parameters.length) = some 2 := by decide +kernel
theorem hdX8_copyFrom : yX8_copyFrom.cls ≠ "java/lang/invoke/MethodHandle" ∧ yX8_copyFrom.cls ≠ "java/lang/invoke/VarHandle" ∧ (parseMethodDescriptor yX8_copyFrom.desc).map (fun d => d.parameters.length) = some 1 := by decide +kernel
theorem hdX8_countSpin : yX8_countSpin.cls ≠ "java/lang/invoke/MethodHandle" ∧ yX8_countSpin.cls ≠ "java/lang/invoke/VarHandle" ∧ (parseMethodDescriptor yX8_countSpin.desc).map (fun d => d.parameters.length) = some 2 := by decide +kernel
theorem hdX8_eggAtPlace : yX8_eggAtPlace.cls ≠ "java/lang/invoke/MethodHandle" ∧ yX8_eggAtPlace.cls ≠ "java/lang/invoke/VarHandle" ∧ (parseMethodDescriptor yX8_eggAtPlace.desc).map (fun d => d.parameters.length) = some 1 := by decide +kernel
theorem hdX8_fittingBox : yX8_fittingBox.cls ≠ "java/lang/invoke/MethodHandle" ∧ yX8_fittingBox.cls ≠ "java/lang/invoke/VarHandle" ∧ (parseMethodDescriptor yX8_fittingBox.desc).map (fun d => d.parameters.length) = some 1 := by decide +kernel
theorem hdX8_hasRawInBox : yX8_hasRawInBox.cls ≠ "java/lang/invoke/MethodHandle" ∧ yX8_hasRawInBox.cls ≠ "java/lang/invoke/VarHandle" ∧ (parseMethodDescriptor yX8_hasRawInBox.desc).map (fun d => d.parameters.length) = some 1 := by decide +kernel
theorem hdX8_heaviestBox : yX8_heaviestBox.cls ≠ "java/lang/invoke/MethodHandle" ∧ yX8_heaviestBox.cls ≠ "java/lang/invoke/VarHandle" ∧ (parseMethodDescriptor yX8_heaviestBox.desc).map (fun d => d.parameters.length) = some 0 := by decide +kernel
theorem hdX8_howManyInBox : yX8_howManyInBox.cls ≠ "java/lang/invoke/MethodHandle" ∧ yX8_howManyInBox.cls ≠ "java/lang/invoke/VarHandle" ∧ (parseMethodDescriptor yX8_howManyInBox.desc).map (fun d => d.parameters.length) = some 0 := by decide +kernel
theorem hdX8_init : yX8_init.cls ≠ "java/lang/invoke/MethodHandle" ∧ yX8_init.cls ≠ "java/lang/invoke/VarHandle" ∧ (parseMethodDescriptor yX8_init.desc).map (fun d => d.parameters.length) = some 0 := by decide +kernel
theorem hdX8_isInBox : yX8_isInBox.cls ≠ "java/lang/invoke/MethodHandle" ∧ yX8_isInBox.cls ≠ "java/lang/invoke/VarHandle" ∧ (parseMethodDescriptor yX8_isInBox.desc).map (fun d => d.parameters.length) = some 1 := by decide +kernel
theorem hdX8_keep : yX8_keep.cls ≠ "java/lang/invoke/MethodHandle" ∧ yX8_keep.cls ≠ "java/lang/invoke/VarHandle" ∧ (parseMethodDescriptor yX8_keep.desc).map (fun d => d.parameters.length) = some 2 := by decide +kernel
theorem hdX8_makeSure : yX8_makeSure.cls ≠ "java/lang/invoke/MethodHandle" ∧ yX8_makeSure.cls ≠ "java/lang/invoke/VarHandle" ∧ (parseMethodDescriptor yX8_makeSure.desc).map (fun d => d.parameters.length) = some 2 := by decide +kernel
theorem hdX8_surelyBoiled : yX8_surelyBoiled.cls ≠ "java/lang/invoke/MethodHandle" ∧ yX8_surelyBoiled.cls ≠ "java/lang/invoke/VarHandle" ∧ (parseMethodDescriptor yX8_surelyBoiled.desc).map (fun d => d.parameters.length) = some 1 := by decide +kernel
theorem hdX8_surelyRaw : yX8_surelyRaw.cls ≠ "java/lang/invoke/MethodHandle" ∧ yX8_surelyRaw.cls ≠ "java/lang/invoke/VarHandle" ∧ (parseMethodDescriptor yX8_surelyRaw.desc).map (fun d => d.parameters.length) = some 1 := by decide +kernel
theorem hdX8_takeOut : yX8_takeOut.cls ≠ "java/lang/invoke/MethodHandle" ∧ yX8_takeOut.cls ≠ "java/lang/invoke/VarHandle" ∧ (parseMethodDescriptor yX8_takeOut.desc).map (fun d => d.parameters.length) = some 1 := by decide +kernel
theorem hdX8_weigh : yX8_weigh.cls ≠ "java/lang/invoke/MethodHandle" ∧ yX8_weigh.cls ≠ "java/lang/invoke/VarHandle" ∧ (parseMethodDescriptor yX8_weigh.desc).map (fun d => d.parameters.length) = some 3 := by decide +kernel
theorem hdX9_init : yX9_init.cls ≠ "java/lang/invoke/MethodHandle" ∧ yX9_init.cls ≠ "java/lang/invoke/VarHandle" ∧ (parseMethodDescriptor yX9_init.desc).map (fun d => d.parameters.length) = some 0 := by decide +kernel
theorem hdX9_kind : yX9_kind.cls ≠ "java/lang/invoke/MethodHandle" ∧ yX9_kind.cls ≠ "java/lang/invoke/VarHandle" ∧ (parseMethodDescriptor yX9_kind.desc).map (fun d => d.parameters.length) = some 0 := by decide +kernel
theorem hdX9_nextEgg : yX9_nextEgg.cls ≠ "java/lang/invoke/MethodHandle" ∧ yX9_nextEgg.cls ≠ "java/lang/invoke/VarHandle" ∧ (parseMethodDescriptor yX9_nextEgg.desc).map (fun d => d.parameters.length) = some 1 := by decide +kernel
theorem hdX9_score : yX9_score.cls ≠ "java/lang/invoke/MethodHandle" ∧ yX9_score.cls ≠ "java/lang/invoke/VarHandle" ∧ (parseMethodDescriptor yX9_score.desc).map (fun d => d.parameters.length) = some 2 := by decide +kernel
theorem hdX9_takesLast : yX9_takesLast.cls ≠ "java/lang/invoke/MethodHandle" ∧ yX9_takesLast.cls ≠ "java/lang/invoke/VarHandle" ∧ (parseMethodDescriptor yX9_takesLast.desc).map (fun d => d.parameters.length) = some 0 := by decide +kernel
