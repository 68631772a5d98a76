/-! the world of the law: the class and its parts, the reference and its parts; behind them the triers -/
def WC (g : GG) (oM : Nat) (oP : Nat) (aC : Nat) (oH : Nat) (aH : Nat) (oT : Nat) (aB : Nat) (aW : Nat) (aS : Nat) (aU : Nat) (aK : Nat) (oK : Nat) (bB : Nat) (bW : Nat) (bS : Nat) (bU : Nat) (bK : Nat) (oR : Nat) (rW : Nat) (rC : Nat) (rO : Nat) (oD : Nat) (aT : Nat) (E : Nat) (B : Nat) (tb : Nat) (tw : Nat) (fa : Nat) (kR : Nat) (ib : Nat) (sn : Nat) (tC : Nat) (tK : Nat) (bD : Nat) (cN : Nat) (gb : Nat) (gn : Nat) (fi : Nat) (gi : Nat) (qb : Nat) (iK : Int32) (qP : Int32) (qN : Int32) (qS : Int64) (cp : Nat → Nat) (hh : Nat → Nat) (fB : Nat → Nat) (fW : Nat → Nat) (fS : Nat → Nat) (fU : Nat → Nat) (gB : Nat → Nat) (gW : Nat → Nat) (gS : Nat → Nat) (gU : Nat → Nat) (xW : Nat → Nat) (xC : Nat → Nat) (xO : Nat → Nat) (fK : Nat → Int32) (gK : Nat → Int32) (tr : Nat → Option Nat) : va_W :=
  [(oM, .inr (10, [.ref oP, .ref oH, .ref oT, .ref oK, .ref oR, .ref oD, .ref aT, .int (nI tC), .int (nI tK), .int iK, .int (nI kR), .int (nI bD)])),
   (oP, .inr (7, [.ref aC, .int (nI cN)])),
   (aC, .inl (g.2.1, 14, .inl (fun j => nI (cp j)))),
   (oH, .inr (6, [.ref aH, .int (nI E), .int (nI B), .int (nI tb), .int (nI tw), .int (nI fa)])),
   (aH, .inl (g.2.1, 6, .inl (fun j => nI (hh j)))),
   (oT, .inr (8, [.ref aB, .ref aW, .ref aS, .ref aU, .ref aK, .int (nI fi), .int (nI ib), .int (nI sn)])),
   (aB, .inl (g.2.1, 20, .inl (fun j => nI (fB j)))),
   (aW, .inl (g.2.2.1, 20, .inr (.inl (fun j => lN (fW j))))),
   (aS, .inl (g.2.1, 6, .inl (fun j => nI (fS j)))),
   (aU, .inl (g.2.1, 6, .inl (fun j => nI (fU j)))),
   (aK, .inl (g.2.1, 6, .inl fK)),
   (oK, .inr (8, [.ref bB, .ref bW, .ref bS, .ref bU, .ref bK, .int (nI gi), .int (nI gb), .int (nI gn)])),
   (bB, .inl (g.2.1, 20, .inl (fun j => nI (gB j)))),
   (bW, .inl (g.2.2.1, 20, .inr (.inl (fun j => lN (gW j))))),
   (bS, .inl (g.2.1, 6, .inl (fun j => nI (gS j)))),
   (bU, .inl (g.2.1, 6, .inl (fun j => nI (gU j)))),
   (bK, .inl (g.2.1, 6, .inl gK)),
   (oR, .inr (1, [.ref rW, .ref rC, .ref rO, .int qP, .int qN, .int (nI qb)])),
   (rW, .inl (g.2.2.1, 729, .inr (.inl (fun j => lN (xW j))))),
   (rC, .inl (g.2.2.1, 729, .inr (.inl (fun j => lN (xC j))))),
   (rO, .inl (g.2.1, 729, .inl (fun j => nI (xO j)))),
   (oD, .inr (3, [.long qS])),
   (aT, .inl (g.2.2.2.2, 4, .inr (.inr (.inr (.inr tr)))))]
def WM (g : GG) (mo : Nat) (aHab : Nat) (aSp : Nat) (aTu : Nat) (aKn : Nat) (aKd : Nat) (aPg : Nat) (aWo : Nat) (aWs : Nat) (aMe : Nat) (aBw : Nat) (aKsp : Nat) (aKtu : Nat) (aKkn : Nat) (E : Nat) (B : Nat) (tb : Nat) (tw : Nat) (fa : Nat) (kR : Nat) (ib : Nat) (sn : Nat) (tC : Nat) (tK : Nat) (bD : Nat) (cN : Nat) (gb : Nat) (gn : Nat) (mKk : Nat) (mBf : Int32) (mIk : Int32) (mSd : Int64) (mH : Int64) (cp : Nat → Nat) (kd : Nat → Nat) (hab : Nat → Nat) (sp : Nat → Nat) (tu : Nat → Nat) (wo : Nat → Nat) (wr : Nat → Nat) (me : Nat → Nat) (bw : Nat → Nat) (ksp : Nat → Nat) (ktu : Nat → Nat) (kn : Nat → Int32) (kkn : Nat → Int32) : va_W :=
  [(mo, .inr (11, [.int (nI E), .int (nI kR), .int (nI B), .int (nI tb), .int (nI tw), .int (nI fa), .ref aHab, .int (nI ib), .int (nI sn), .ref aSp, .ref aTu, .ref aKn, .int (nI tC), .ref aKd, .int (nI bD), .int (nI cN), .ref aPg, .ref aWo, .ref aWs, .ref aMe, .int mBf, .ref aBw, .long mSd, .int mIk, .int (nI mKk), .int (nI gb), .int (nI gn), .int (nI tK), .ref aKsp, .ref aKtu, .ref aKkn, .long mH])),
   (aHab, .inl (g.2.1, 6, .inl (fun j => nI (hab j)))),
   (aSp, .inl (g.2.1, 6, .inl (fun j => nI (sp j)))),
   (aTu, .inl (g.2.1, 6, .inl (fun j => nI (tu j)))),
   (aKn, .inl (g.2.1, 6, .inl kn)),
   (aKd, .inl (g.2.1, 4, .inl (fun j => nI (kd j)))),
   (aPg, .inl (g.2.2.2.1, 14, .inl (fun j => nI (cp j)))),
   (aWo, .inl (g.2.2.1, 729, .inr (.inl (fun j => lN (wo j))))),
   (aWs, .inl (g.2.1, 729, .inl (fun j => nI (wr j)))),
   (aMe, .inl (g.2.2.1, 729, .inr (.inl (fun j => lN (me j))))),
   (aBw, .inl (g.2.2.1, 64, .inr (.inl (fun j => lN (bw j))))),
   (aKsp, .inl (g.2.1, 6, .inl (fun j => nI (ksp j)))),
   (aKtu, .inl (g.2.1, 6, .inl (fun j => nI (ktu j)))),
   (aKkn, .inl (g.2.1, 6, .inl kkn))]
def LW (g : GG) (A : Nat → Prop) (oM mo k : Nat) (H : Heap) : Prop := ∃ (oP : Nat) (aC : Nat) (oH : Nat) (aH : Nat) (oT : Nat) (aB : Nat) (aW : Nat) (aS : Nat) (aU : Nat) (aK : Nat) (oK : Nat) (bB : Nat) (bW : Nat) (bS : Nat) (bU : Nat) (bK : Nat) (oR : Nat) (rW : Nat) (rC : Nat) (rO : Nat) (oD : Nat) (aT : Nat) (aHab : Nat) (aSp : Nat) (aTu : Nat) (aKn : Nat) (aKd : Nat) (aPg : Nat) (aWo : Nat) (aWs : Nat) (aMe : Nat) (aBw : Nat) (aKsp : Nat) (aKtu : Nat) (aKkn : Nat) (E : Nat) (B : Nat) (tb : Nat) (tw : Nat) (fa : Nat) (kR : Nat) (ib : Nat) (sn : Nat) (tC : Nat) (tK : Nat) (bD : Nat) (cN : Nat) (gb : Nat) (gn : Nat) (fi : Nat) (gi : Nat) (qb : Nat) (mKk : Nat) (iK : Int32) (qP : Int32) (qN : Int32) (mBf : Int32) (mIk : Int32) (qS : Int64) (mSd : Int64) (mH : Int64) (cp : Nat → Nat) (kd : Nat → Nat) (hh : Nat → Nat) (fB : Nat → Nat) (fW : Nat → Nat) (fS : Nat → Nat) (fU : Nat → Nat) (gB : Nat → Nat) (gW : Nat → Nat) (gS : Nat → Nat) (gU : Nat → Nat) (xW : Nat → Nat) (xC : Nat → Nat) (xO : Nat → Nat) (hab : Nat → Nat) (sp : Nat → Nat) (tu : Nat → Nat) (wo : Nat → Nat) (wr : Nat → Nat) (me : Nat → Nat) (bw : Nat → Nat) (ksp : Nat → Nat) (ktu : Nat → Nat) (fK : Nat → Int32) (gK : Nat → Int32) (kn : Nat → Int32) (kkn : Nat → Int32) (tr : Nat → Option Nat) (pl : va_W), I0 k E B tb tw fa cN kR bD mKk tC qb cp hh hab ∧ IT k E B tb tw tC hab sp tu kn ib sn fB fW fi fS fU fK ∧ IK k E B tb tw tC tK kR mKk iK mIk hab ksp ktu kkn gb gn gB gW gi gS gU gK ∧ trsOK tr kd pl tC ∧ va_P g.1 vwCl ((WC g oM oP aC oH aH oT aB aW aS aU aK oK bB bW bS bU bK oR rW rC rO oD aT E B tb tw fa kR ib sn tC tK bD cN gb gn fi gi qb iK qP qN qS cp hh fB fW fS fU gB gW gS gU xW xC xO fK gK tr ++ WM g mo aHab aSp aTu aKn aKd aPg aWo aWs aMe aBw aKsp aKtu aKkn E B tb tw fa kR ib sn tC tK bD cN gb gn mKk mBf mIk mSd mH cp kd hab sp tu wo wr me bw ksp ktu kn kkn) ++ pl) H ∧ va_D A ((WC g oM oP aC oH aH oT aB aW aS aU aK oK bB bW bS bU bK oR rW rC rO oD aT E B tb tw fa kR ib sn tC tK bD cN gb gn fi gi qb iK qP qN qS cp hh fB fW fS fU gB gW gS gU xW xC xO fK gK tr ++ WM g mo aHab aSp aTu aKn aKd aPg aWo aWs aMe aBw aKsp aKtu aKkn E B tb tw fa kR ib sn tC tK bD cN gb gn mKk mBf mIk mSd mH cp kd hab sp tu wo wr me bw ksp ktu kn kkn) ++ pl)
/-- rows of a world by their places -/
def pick (X : va_W) (is : List Nat) : va_W := is.map (fun i => X.getD i (0, .inr (0, [])))
theorem pick_map {X : va_W} {is : List Nat} (h : is.all (fun i => decide (i < X.length)) = true) : is.map (fun i => X[i]?) = (pick X is).map some := by
  unfold pick
  rw [List.map_map]
  apply List.map_congr_left
  intro i hi
  have hlt : i < X.length := of_decide_eq_true (List.all_eq_true.mp h i hi)
  show X[i]? = some (X.getD i (0, .inr (0, [])))
  rw [List.getD_eq_getElem?_getD, List.getElem?_eq_getElem hlt]
  rfl
section KP
variable {p : Program} {l : Launch} {e : Env} {R : Room} {s : State} {m : MethodId} {args : Array Value} {below : List Frame} {meth : Method} {c : Code} {H : Heap} {locs : List Loc} {cells slots : Nat} {Q : State → Prop}
variable {pc : Nat} {ls : Array Slot} {rest st0 : List Value} {a : Array Value} {g : GG} {A : Nat → Prop} {X cx pl : va_W} {mc ms : Nat} {S : Type} {X' : S → va_W}
theorem freeX (hD : va_D A (X ++ pl)) (hS : va_S A s.heap H locs) (hA : ∀ q : Nat, s.heap.size ≤ q → A q) (isC : List Nat) (hc : isC.map (fun i => X[i]?) = cx.map some) : ∀ q, va_A cx H.size q → A q := by
  intro q h
  rcases h with ⟨k, e, h⟩ | h
  · obtain ⟨i, -, h2⟩ := va_in_of isC hc h
    exact hD.2 i (q, e) (by rw [List.getElem?_append_left (List.getElem?_eq_some_iff.mp h2).1]; exact h2)
  · exact hA q (Nat.le_trans hS.1 h)
theorem goPi {post : Int32 → S → Prop} {w1 : S → va_W} (hr : va_Run p l e R s m args below meth c H locs cells slots mc ms (F0 m pc ls st0) rest (qMi g post w1 (va_A cx H.size) a) (va_A cx H.size)) (hP : va_P g.1 vwCl (X ++ pl) H) (hD : va_D A (X ++ pl)) (hS : va_S A s.heap H locs) (hA : ∀ q : Nat, s.heap.size ≤ q → A q) (isC isR pm : List Nat) (hc : isC.map (fun i => X[i]?) = cx.map some) (hr2 : isR.all (fun i => decide (i < X.length)) = true) (hn : va_nd isR = true) (hdis : ∀ i ∈ isR, i ∉ isC) (hpm : va_nd pm = true) (hX : ∀ u, pm.map (fun i => (pick X isR ++ w1 u)[i]?) = (X' u).map some)
    (kk : ∀ (r : Int32) (u : S) (H1 : Heap) (locs1 : List Loc), post r u → va_P g.1 vwCl (X' u ++ pl) H1 → va_D A (X' u ++ pl) → va_S A s.heap H1 locs1 → W p l e R s m args below meth c H1 locs1 (cells + mc) (slots + ms) Q (F0 m (pc + 3) ls (.int r :: rest))) : W p l e R s m args below meth c H locs cells slots Q (F0 m pc ls st0) := by
  have hF := freeX hD hS hA isC hc
  refine va_calli hr hS (fun q _ h => hF q h) hF (fun r u t H1 locs1 ht _ hp hB _ hk hS1 => ?_)
  obtain ⟨hP1, hD1⟩ := hB
  rw [ht] at hP1
  obtain ⟨h1, h2⟩ := va_joinQ hP hD isC isR hc (pick_map hr2) hn hdis hk hF hP1 hD1
  exact kk r u H1 locs1 hp (h1.part pm (hX u)) (h2.part pm hpm (hX u)) hS1
theorem goPl {post : Int64 → S → Prop} {w1 : S → va_W} (hr : va_Run p l e R s m args below meth c H locs cells slots mc ms (F0 m pc ls st0) rest (qMl g post w1 (va_A cx H.size) a) (va_A cx H.size)) (hP : va_P g.1 vwCl (X ++ pl) H) (hD : va_D A (X ++ pl)) (hS : va_S A s.heap H locs) (hA : ∀ q : Nat, s.heap.size ≤ q → A q) (isC isR pm : List Nat) (hc : isC.map (fun i => X[i]?) = cx.map some) (hr2 : isR.all (fun i => decide (i < X.length)) = true) (hn : va_nd isR = true) (hdis : ∀ i ∈ isR, i ∉ isC) (hpm : va_nd pm = true) (hX : ∀ u, pm.map (fun i => (pick X isR ++ w1 u)[i]?) = (X' u).map some)
    (kk : ∀ (r : Int64) (u : S) (H1 : Heap) (locs1 : List Loc), post r u → va_P g.1 vwCl (X' u ++ pl) H1 → va_D A (X' u ++ pl) → va_S A s.heap H1 locs1 → W p l e R s m args below meth c H1 locs1 (cells + mc) (slots + ms) Q (F0 m (pc + 3) ls (.long r :: rest))) : W p l e R s m args below meth c H locs cells slots Q (F0 m pc ls st0) := by
  have hF := freeX hD hS hA isC hc
  refine va_calll hr hS (fun q _ h => hF q h) hF (fun r u t H1 locs1 ht _ hp hB _ hk hS1 => ?_)
  obtain ⟨hP1, hD1⟩ := hB
  rw [ht] at hP1
  obtain ⟨h1, h2⟩ := va_joinQ hP hD isC isR hc (pick_map hr2) hn hdis hk hF hP1 hD1
  exact kk r u H1 locs1 hp (h1.part pm (hX u)) (h2.part pm hpm (hX u)) hS1
end KP
/-- what the law has at hand at every place -/
def LX (p : Program) (s : State) (m : MethodId) (c : Code) (b L : Nat) (xs : Nat → Int32) (g : GG) : Prop := p.tables.exec = Jvm.exec ∧ c.code = code ∧ c.maxLocals = 4 ∧ s.vm.findClass RL = some m.cls ∧ (∀ w ∈ wsL_law, w.before #[Value.ref b] s = true) ∧ va_X b L xs s s.heap ∧ b < s.heap.size ∧ CK g s
/-- how the law goes on behind a case -/
def KT (p : Program) (l : Launch) (e : Env) (s : State) (m : MethodId) (below : List Frame) (meth : Method) (c : Code) (b oM mo : Nat) (g : GG) (k : Nat) (Q : State → Prop) (ls : Array Slot) : Prop := ∀ (H1 : Heap) (locs1 : List Loc), LW g (fun q => s.heap.size ≤ q) oM mo (k + 1) H1 → va_S (fun q => s.heap.size ≤ q) s.heap H1 locs1 → W p l e room_1 s m #[Value.ref b] below meth c H1 locs1 (37 + (k + 1)) 4713 Q (F0 m 765 ls [])
section LD
variable {p : Program} {l : Launch} {e : Env} {R : Room} {s : State} {m : MethodId} {args : Array Value} {below : List Frame} {meth : Method} {c : Code} {H : Heap} {locs : List Loc} {cells slots : Nat} {Q : State → Prop}
variable {pc b L oM mo i : Nat} {xs : Nat → Int32} {g : GG} {ls : Array Slot} {rest : List Value}
theorem ld_arg1 (X : LX p s m c b L xs g) (hi : i + 4 ≤ L) (hL : L ≤ 256) (hl : lv_has ls 4 [(3, .int (nI i)), (2, .ref mo), (1, .ref oM), (0, .ref b)]) (hS : va_S (fun q => s.heap.size ≤ q) s.heap H locs) (d0 : decode code pc = .ok (.aload_n 0, 1)) (d1 : decode code (pc + 1) = .ok (.iload_n 3, 1)) (d2 : decode code (pc + 2) = .ok (.iconst 1, 1)) (d3 : decode code (pc + 3) = .ok (.iadd, 1)) (d4 : decode code (pc + 4) = .ok (.iaload, 1))
    (kk : W p l e R s m args below meth c H locs cells slots Q (F0 m (pc + 5) ls (.int (xs (i + 1)) :: rest))) : W p l e R s m args below meth c H locs cells slots Q (F0 m pc ls rest) := by
  obtain ⟨hx, hb, hml, hown, hts, hX, hbl, hC⟩ := X
  refine lv_aload_n hx hb d0 rfl (lv_at hl 3 rfl) ?_
  refine lv_iload_n hx hb d1 rfl (lv_at hl 0 rfl) ?_
  refine lv_iconst (v := nI 1) hx hb d2 (by decide) ?_
  refine lv_iadd hx hb d3 ?_
  refine top_i (y := nI (i + 1)) (nI_add _ _) ?_
  refine va_sld hx hb hX hbl (Nat.not_le.mpr hbl) hS (vp_in_nI (by omega) (by omega)) d4 ?_
  exact top_i (y := xs (i + 1)) (by rw [nI_clamp (by omega)]) kk
theorem ld_arg2 (X : LX p s m c b L xs g) (hi : i + 4 ≤ L) (hL : L ≤ 256) (hl : lv_has ls 4 [(3, .int (nI i)), (2, .ref mo), (1, .ref oM), (0, .ref b)]) (hS : va_S (fun q => s.heap.size ≤ q) s.heap H locs) (d0 : decode code pc = .ok (.aload_n 0, 1)) (d1 : decode code (pc + 1) = .ok (.iload_n 3, 1)) (d2 : decode code (pc + 2) = .ok (.iconst 2, 1)) (d3 : decode code (pc + 3) = .ok (.iadd, 1)) (d4 : decode code (pc + 4) = .ok (.iaload, 1))
    (kk : W p l e R s m args below meth c H locs cells slots Q (F0 m (pc + 5) ls (.int (xs (i + 2)) :: rest))) : W p l e R s m args below meth c H locs cells slots Q (F0 m pc ls rest) := by
  obtain ⟨hx, hb, hml, hown, hts, hX, hbl, hC⟩ := X
  refine lv_aload_n hx hb d0 rfl (lv_at hl 3 rfl) ?_
  refine lv_iload_n hx hb d1 rfl (lv_at hl 0 rfl) ?_
  refine lv_iconst (v := nI 2) hx hb d2 (by decide) ?_
  refine lv_iadd hx hb d3 ?_
  refine top_i (y := nI (i + 2)) (nI_add _ _) ?_
  refine va_sld hx hb hX hbl (Nat.not_le.mpr hbl) hS (vp_in_nI (by omega) (by omega)) d4 ?_
  exact top_i (y := xs (i + 2)) (by rw [nI_clamp (by omega)]) kk
theorem ld_arg3 (X : LX p s m c b L xs g) (hi : i + 4 ≤ L) (hL : L ≤ 256) (hl : lv_has ls 4 [(3, .int (nI i)), (2, .ref mo), (1, .ref oM), (0, .ref b)]) (hS : va_S (fun q => s.heap.size ≤ q) s.heap H locs) (d0 : decode code pc = .ok (.aload_n 0, 1)) (d1 : decode code (pc + 1) = .ok (.iload_n 3, 1)) (d2 : decode code (pc + 2) = .ok (.iconst 3, 1)) (d3 : decode code (pc + 3) = .ok (.iadd, 1)) (d4 : decode code (pc + 4) = .ok (.iaload, 1))
    (kk : W p l e R s m args below meth c H locs cells slots Q (F0 m (pc + 5) ls (.int (xs (i + 3)) :: rest))) : W p l e R s m args below meth c H locs cells slots Q (F0 m pc ls rest) := by
  obtain ⟨hx, hb, hml, hown, hts, hX, hbl, hC⟩ := X
  refine lv_aload_n hx hb d0 rfl (lv_at hl 3 rfl) ?_
  refine lv_iload_n hx hb d1 rfl (lv_at hl 0 rfl) ?_
  refine lv_iconst (v := nI 3) hx hb d2 (by decide) ?_
  refine lv_iadd hx hb d3 ?_
  refine top_i (y := nI (i + 3)) (nI_add _ _) ?_
  refine va_sld hx hb hX hbl (Nat.not_le.mpr hbl) hS (vp_in_nI (by omega) (by omega)) d4 ?_
  exact top_i (y := xs (i + 3)) (by rw [nI_clamp (by omega)]) kk
theorem ld_bool (X : LX p s m c b L xs g) (hi : i + 4 ≤ L) (hL : L ≤ 256) (hl : lv_has ls 4 [(3, .int (nI i)), (2, .ref mo), (1, .ref oM), (0, .ref b)]) (hS : va_S (fun q => s.heap.size ≤ q) s.heap H locs) (d0 : decode code pc = .ok (.aload_n 0, 1)) (d1 : decode code (pc + 1) = .ok (.iload_n 3, 1)) (d2 : decode code (pc + 2) = .ok (.iconst 2, 1)) (d3 : decode code (pc + 3) = .ok (.iadd, 1)) (d4 : decode code (pc + 4) = .ok (.iaload, 1)) (d5 : decode code (pc + 5) = .ok (.ifCond .eq 7, 3)) (d8 : decode code (pc + 8) = .ok (.iconst 1, 1)) (d9 : decode code (pc + 9) = .ok (.goto 4, 3)) (d12 : decode code (pc + 12) = .ok (.iconst 0, 1))
    (kk : W p l e R s m args below meth c H locs cells slots Q (F0 m (pc + 13) ls (.int (zI (decide (xs (i + 2) ≠ 0))) :: rest))) : W p l e R s m args below meth c H locs cells slots Q (F0 m pc ls rest) := by
  refine ld_arg2 X hi hL hl hS d0 d1 d2 d3 d4 ?_
  obtain ⟨hx, hb, hml, hown, hts, hX, hbl, hC⟩ := X
  refine lv_if_eq (tgt := pc + 12) hx hb d5 (by omega) (fun h => ?_) (fun h => ?_)
  · refine lv_iconst (v := nI 0) hx hb d12 (by decide) ?_
    exact top_i (zI_0 (decide_eq_false (fun h9 => h9 h))) kk
  · refine lv_iconst (v := nI 1) hx hb d8 (by decide) ?_
    refine lv_goto (tgt := pc + 13) hx hb d9 (by omega) ?_
    exact top_i (zI_1 (decide_eq_true h)) kk
end LD
