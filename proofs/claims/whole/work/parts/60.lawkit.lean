/-! the world of the law: the class and its parts, the reference and its parts; behind them the triers -/
def WC (g : GG) (oM : Nat) (oP : Nat) (aC : Nat) (oH : Nat) (aH : Nat) (oT : Nat) (aB : Nat) (aW : Nat) (aS : Nat) (aU : Nat) (aK : Nat) (oK : Nat) (bB : Nat) (bW : Nat) (bS : Nat) (bU : Nat) (bK : Nat) (oR : Nat) (rW : Nat) (rC : Nat) (rO : Nat) (oD : Nat) (aT : Nat) (E : Nat) (B : Nat) (tb : Nat) (tw : Nat) (fa : Nat) (kR : Nat) (ib : Nat) (sn : Nat) (tC : Nat) (tK : Nat) (bD : Nat) (cN : Nat) (gb : Nat) (gn : Nat) (fi : Nat) (gi : Nat) (qb : Nat) (iK : Int32) (qP : Int32) (qN : Int32) (qS : Int64) (cp : Nat → Nat) (hh : Nat → Nat) (fB : Nat → Nat) (fW : Nat → Nat) (fS : Nat → Nat) (fU : Nat → Nat) (gB : Nat → Nat) (gW : Nat → Nat) (gS : Nat → Nat) (gU : Nat → Nat) (xW : Nat → Nat) (xC : Nat → Nat) (xO : Nat → Nat) (fK : Nat → Int32) (gK : Nat → Int32) (tr : Nat → Option Nat) : va_W :=
  [(oM, .inr (10, [.ref oP, .ref oH, .ref oT, .ref oK, .ref oR, .ref oD, .ref aT, .int (nI tC), .int (nI tK), .int iK, .int (nI kR), .int (nI bD)])),
   (oP, .inr (7, [.ref aC, .int (nI cN)])),
   (aC, .inl (g.2.1, 14, .inl (fun j => nI (cp j)))),
   (oH, .inr (6, [.ref aH, .int (nI E), .int (nI B), .int (nI tb), .int (nI tw), .int (nI fa)])),
   (aH, .inl (g.2.1, 6, .inl (fun j => nI (hh j)))),
   (oT, .inr (8, [.ref aB, .ref aW, .ref aS, .ref aU, .ref aK, .int (nI fi), .int (nI ib), .int (nI sn)])),
   (aB, .inl (g.2.1, 20, .inl (fun j => nI (fB j)))),
   (aW, .inl (g.2.2.1, 20, .inr (.inl (fun j => lN (fW j))))),
   (aS, .inl (g.2.1, 6, .inl (fun j => nI (fS j)))),
   (aU, .inl (g.2.1, 6, .inl (fun j => nI (fU j)))),
   (aK, .inl (g.2.1, 6, .inl fK)),
   (oK, .inr (8, [.ref bB, .ref bW, .ref bS, .ref bU, .ref bK, .int (nI gi), .int (nI gb), .int (nI gn)])),
   (bB, .inl (g.2.1, 20, .inl (fun j => nI (gB j)))),
   (bW, .inl (g.2.2.1, 20, .inr (.inl (fun j => lN (gW j))))),
   (bS, .inl (g.2.1, 6, .inl (fun j => nI (gS j)))),
   (bU, .inl (g.2.1, 6, .inl (fun j => nI (gU j)))),
   (bK, .inl (g.2.1, 6, .inl gK)),
   (oR, .inr (1, [.ref rW, .ref rC, .ref rO, .int qP, .int qN, .int (nI qb)])),
   (rW, .inl (g.2.2.1, 729, .inr (.inl (fun j => lN (xW j))))),
   (rC, .inl (g.2.2.1, 729, .inr (.inl (fun j => lN (xC j))))),
   (rO, .inl (g.2.1, 729, .inl (fun j => nI (xO j)))),
   (oD, .inr (3, [.long qS])),
   (aT, .inl (g.2.2.2.2, 4, .inr (.inr (.inr (.inr tr)))))]
def WM (g : GG) (mo : Nat) (aHab : Nat) (aSp : Nat) (aTu : Nat) (aKn : Nat) (aKd : Nat) (aPg : Nat) (aWo : Nat) (aWs : Nat) (aMe : Nat) (aBw : Nat) (aKsp : Nat) (aKtu : Nat) (aKkn : Nat) (E : Nat) (B : Nat) (tb : Nat) (tw : Nat) (fa : Nat) (kR : Nat) (ib : Nat) (sn : Nat) (tC : Nat) (tK : Nat) (bD : Nat) (cN : Nat) (gb : Nat) (gn : Nat) (mKk : Nat) (mBf : Int32) (mIk : Int32) (mSd : Int64) (mH : Int64) (cp : Nat → Nat) (kd : Nat → Nat) (hab : Nat → Nat) (sp : Nat → Nat) (tu : Nat → Nat) (wo : Nat → Nat) (wr : Nat → Nat) (me : Nat → Nat) (bw : Nat → Nat) (ksp : Nat → Nat) (ktu : Nat → Nat) (kn : Nat → Int32) (kkn : Nat → Int32) : va_W :=
  [(mo, .inr (11, [.int (nI E), .int (nI kR), .int (nI B), .int (nI tb), .int (nI tw), .int (nI fa), .ref aHab, .int (nI ib), .int (nI sn), .ref aSp, .ref aTu, .ref aKn, .int (nI tC), .ref aKd, .int (nI bD), .int (nI cN), .ref aPg, .ref aWo, .ref aWs, .ref aMe, .int mBf, .ref aBw, .long mSd, .int mIk, .int (nI mKk), .int (nI gb), .int (nI gn), .int (nI tK), .ref aKsp, .ref aKtu, .ref aKkn, .long mH])),
   (aHab, .inl (g.2.1, 6, .inl (fun j => nI (hab j)))),
   (aSp, .inl (g.2.1, 6, .inl (fun j => nI (sp j)))),
   (aTu, .inl (g.2.1, 6, .inl (fun j => nI (tu j)))),
   (aKn, .inl (g.2.1, 6, .inl kn)),
   (aKd, .inl (g.2.1, 4, .inl (fun j => nI (kd j)))),
   (aPg, .inl (g.2.2.2.1, 14, .inl (fun j => nI (cp j)))),
   (aWo, .inl (g.2.2.1, 729, .inr (.inl (fun j => lN (wo j))))),
   (aWs, .inl (g.2.1, 729, .inl (fun j => nI (wr j)))),
   (aMe, .inl (g.2.2.1, 729, .inr (.inl (fun j => lN (me j))))),
   (aBw, .inl (g.2.2.1, 64, .inr (.inl (fun j => lN (bw j))))),
   (aKsp, .inl (g.2.1, 6, .inl (fun j => nI (ksp j)))),
   (aKtu, .inl (g.2.1, 6, .inl (fun j => nI (ktu j)))),
   (aKkn, .inl (g.2.1, 6, .inl kkn))]
def LW (g : GG) (A : Nat → Prop) (oM mo k : Nat) (H : Heap) : Prop := ∃ (oP : Nat) (aC : Nat) (oH : Nat) (aH : Nat) (oT : Nat) (aB : Nat) (aW : Nat) (aS : Nat) (aU : Nat) (aK : Nat) (oK : Nat) (bB : Nat) (bW : Nat) (bS : Nat) (bU : Nat) (bK : Nat) (oR : Nat) (rW : Nat) (rC : Nat) (rO : Nat) (oD : Nat) (aT : Nat) (aHab : Nat) (aSp : Nat) (aTu : Nat) (aKn : Nat) (aKd : Nat) (aPg : Nat) (aWo : Nat) (aWs : Nat) (aMe : Nat) (aBw : Nat) (aKsp : Nat) (aKtu : Nat) (aKkn : Nat) (E : Nat) (B : Nat) (tb : Nat) (tw : Nat) (fa : Nat) (kR : Nat) (ib : Nat) (sn : Nat) (tC : Nat) (tK : Nat) (bD : Nat) (cN : Nat) (gb : Nat) (gn : Nat) (fi : Nat) (gi : Nat) (qb : Nat) (mKk : Nat) (iK : Int32) (qP : Int32) (qN : Int32) (mBf : Int32) (mIk : Int32) (qS : Int64) (mSd : Int64) (mH : Int64) (cp : Nat → Nat) (kd : Nat → Nat) (hh : Nat → Nat) (fB : Nat → Nat) (fW : Nat → Nat) (fS : Nat → Nat) (fU : Nat → Nat) (gB : Nat → Nat) (gW : Nat → Nat) (gS : Nat → Nat) (gU : Nat → Nat) (xW : Nat → Nat) (xC : Nat → Nat) (xO : Nat → Nat) (hab : Nat → Nat) (sp : Nat → Nat) (tu : Nat → Nat) (wo : Nat → Nat) (wr : Nat → Nat) (me : Nat → Nat) (bw : Nat → Nat) (ksp : Nat → Nat) (ktu : Nat → Nat) (fK : Nat → Int32) (gK : Nat → Int32) (kn : Nat → Int32) (kkn : Nat → Int32) (tr : Nat → Option Nat) (pl : va_W), I0 k E B tb tw fa cN kR bD mKk tC qb cp hh hab ∧ IT k E B tb tw tC hab sp tu kn ib sn fB fW fi fS fU fK ∧ IK k E B tb tw tC tK kR mKk iK mIk hab ksp ktu kkn gb gn gB gW gi gS gU gK ∧ trsOK tr kd pl tC ∧ va_P g.1 vwCl ((WC g oM oP aC oH aH oT aB aW aS aU aK oK bB bW bS bU bK oR rW rC rO oD aT E B tb tw fa kR ib sn tC tK bD cN gb gn fi gi qb iK qP qN qS cp hh fB fW fS fU gB gW gS gU xW xC xO fK gK tr ++ WM g mo aHab aSp aTu aKn aKd aPg aWo aWs aMe aBw aKsp aKtu aKkn E B tb tw fa kR ib sn tC tK bD cN gb gn mKk mBf mIk mSd mH cp kd hab sp tu wo wr me bw ksp ktu kn kkn) ++ pl) H ∧ va_D A ((WC g oM oP aC oH aH oT aB aW aS aU aK oK bB bW bS bU bK oR rW rC rO oD aT E B tb tw fa kR ib sn tC tK bD cN gb gn fi gi qb iK qP qN qS cp hh fB fW fS fU gB gW gS gU xW xC xO fK gK tr ++ WM g mo aHab aSp aTu aKn aKd aPg aWo aWs aMe aBw aKsp aKtu aKkn E B tb tw fa kR ib sn tC tK bD cN gb gn mKk mBf mIk mSd mH cp kd hab sp tu wo wr me bw ksp ktu kn kkn) ++ pl)
/-- rows set at their places -/
def setA : va_W → List Nat → va_W → va_W
  | X, i :: is, r :: rs => setA (X.set i r) is rs
  | X, _, _ => X
theorem setA_len : ∀ (is : List Nat) (rs X : va_W), (setA X is rs).length = X.length
  | [], _, _ => by unfold setA; rfl
  | _ :: _, [], _ => by unfold setA; rfl
  | i :: is, r :: rs, X => by
    show (setA (X.set i r) is rs).length = _
    rw [setA_len is rs, List.length_set]
theorem setA_get : ∀ (is : List Nat) (rs X : va_W) (k : Nat) (q : Nat × va_E), is.length = rs.length → (setA X is rs)[k]? = some q → q ∈ rs ∨ (k ∉ is ∧ X[k]? = some q)
  | [], [], X, k, q, _, h => Or.inr ⟨List.not_mem_nil, h⟩
  | [], _ :: _, _, _, _, hl, _ => by cases hl
  | _ :: _, [], _, _, _, hl, _ => by cases hl
  | i :: is, r :: rs, X, k, q, hl, h => by
    have h : (setA (X.set i r) is rs)[k]? = some q := h
    rcases setA_get is rs (X.set i r) k q (Nat.succ.inj hl) h with h1 | ⟨h1, h2⟩
    · exact Or.inl (List.mem_cons_of_mem _ h1)
    · by_cases hk : i = k
      · subst hk
        have hlt : i < (X.set i r).length := (List.getElem?_eq_some_iff.mp h2).1
        rw [List.length_set] at hlt
        rw [List.getElem?_set_self hlt] at h2
        cases h2
        exact Or.inl List.mem_cons_self
      · rw [List.getElem?_set_ne hk] at h2
        exact Or.inr ⟨fun h9 => (List.mem_cons.mp h9).elim (fun e => hk e.symm) h1, h2⟩
theorem set_fst {X : va_W} {i : Nat} {r q : Nat × va_E} (h : X[i]? = some q) (e : q.1 = r.1) : (X.set i r).map (fun x => x.1) = X.map (fun x => x.1) := by
  apply List.ext_getElem?
  intro j
  rw [List.getElem?_map, List.getElem?_map]
  by_cases hj : i = j
  · subst hj
    rw [List.getElem?_set_self (List.getElem?_eq_some_iff.mp h).1, h]
    show some r.1 = some q.1
    rw [e]
  · rw [List.getElem?_set_ne hj]
theorem setA_fst : ∀ (is : List Nat) (cx rs X : va_W), is.map (fun i => (X.map (fun x => x.1))[i]?) = cx.map (fun x => some x.1) → rs.map (fun x => x.1) = cx.map (fun x => x.1) → (setA X is rs).map (fun x => x.1) = X.map (fun x => x.1)
  | [], _, _, _, _, _ => by unfold setA; rfl
  | _ :: _, _, [], _, _, _ => by unfold setA; rfl
  | _ :: _, [], _ :: _, _, h, _ => by cases h
  | i :: is, c :: cx, r :: rs, X, h, hr => by
    have h1 : (X.map (fun x => x.1))[i]? = some c.1 := (List.cons.inj h).1
    have h2 := (List.cons.inj h).2
    have r1 : r.1 = c.1 := (List.cons.inj hr).1
    have r2 := (List.cons.inj hr).2
    rw [List.getElem?_map] at h1
    cases hq : X[i]? with
    | none => rw [hq] at h1; cases h1
    | some q =>
      rw [hq] at h1
      have e : q.1 = r.1 := by rw [r1]; exact Option.some.inj h1
      have hs := set_fst hq e
      show (setA (X.set i r) is rs).map (fun x => x.1) = _
      rw [setA_fst is cx rs (X.set i r) (by rw [hs]; exact h2) r2, hs]
theorem va_D.addr {A : Nat → Prop} {ws ws' : va_W} (h : va_D A ws) (e : ws'.map (fun x => x.1) = ws.map (fun x => x.1)) : va_D A ws' := by
  have at1 : ∀ (k : Nat) (q : Nat × va_E), ws'[k]? = some q → ∃ q0, ws[k]? = some q0 ∧ q0.1 = q.1 := by
    intro k q hq
    have h1 : (ws'.map (fun x => x.1))[k]? = some q.1 := by rw [List.getElem?_map, hq]; rfl
    rw [e, List.getElem?_map] at h1
    cases h2 : ws[k]? with
    | none => rw [h2] at h1; cases h1
    | some q0 =>
      rw [h2] at h1
      exact ⟨q0, rfl, Option.some.inj h1⟩
  refine ⟨fun i j x y hx hy hxy => ?_, fun k q hq => ?_⟩
  · obtain ⟨x0, a1, a2⟩ := at1 i x hx
    obtain ⟨y0, b1, b2⟩ := at1 j y hy
    exact h.1 i j x0 y0 a1 b1 (by rw [a2, b2]; exact hxy)
  · obtain ⟨q0, a1, a2⟩ := at1 k q hq
    rw [← a2]
    exact h.2 k q0 a1
/-- behind a call that changed some rows in their places -/
theorem joinS {A0 : Nat → Prop} {D : va_G} {cl : List vw_C} {X cx w1 pl : va_W} {H H1 : Heap} (hP : va_P D cl (X ++ pl) H) (hD : va_D A0 (X ++ pl)) (isC : List Nat) (hC : isC.map (fun i => X[i]?) = cx.map some) (hw : w1.map (fun x => x.1) = cx.map (fun x => x.1))
    (hk : ∀ q : Nat, q < H.size → ¬ va_A cx H.size q → H1[q]? = H[q]?) (hP1 : va_P D cl w1 H1) : va_P D cl (setA X isC w1 ++ pl) H1 ∧ va_D A0 (setA X isC w1 ++ pl) := by
  have hlen : isC.length = w1.length := by
    have h1 := congrArg List.length hC
    have h2 := congrArg List.length hw
    simp only [List.length_map] at h1 h2
    omega
  have apart : ∀ (k : Nat) (q : Nat × va_E), k ∉ isC → (X ++ pl)[k]? = some q → va_at D cl q H1 := by
    intro k q hn hq
    have hl := (hP k q hq).lt
    refine (hP k q hq).kept (hk q.1 hl (fun h => ?_))
    rcases h with ⟨k2, e, h⟩ | h
    · obtain ⟨i, h5, h6⟩ := va_in_of isC hC h
      have h6' : (X ++ pl)[i]? = some (q.1, e) := by rw [List.getElem?_append_left (List.getElem?_eq_some_iff.mp h6).1]; exact h6
      have hij := hD.1 _ _ q (q.1, e) hq h6' rfl
      subst hij
      exact hn (List.mem_of_getElem? h5)
    · omega
  have hls := setA_len isC w1 X
  constructor
  · intro k q hq
    by_cases hkl : k < X.length
    · rw [List.getElem?_append_left (by omega)] at hq
      rcases setA_get isC w1 X k q hlen hq with h | ⟨h, h2⟩
      · obtain ⟨j, hj⟩ := List.getElem?_of_mem h
        exact hP1 j q hj
      · exact apart k q h (by rw [List.getElem?_append_left hkl]; exact h2)
    · rw [List.getElem?_append_right (by omega), hls] at hq
      refine apart k q (fun h9 => ?_) (by rw [List.getElem?_append_right (by omega)]; exact hq)
      obtain ⟨j, hj⟩ := List.getElem?_of_mem h9
      have h1 : (isC.map (fun i => X[i]?))[j]? = some X[k]? := by rw [List.getElem?_map, hj]; rfl
      rw [hC, List.getElem?_map] at h1
      rw [List.getElem?_eq_none (by omega : X.length ≤ k)] at h1
      cases hc : cx[j]? with
      | none => rw [hc] at h1; cases h1
      | some z => rw [hc] at h1; cases h1
  · refine hD.addr ?_
    rw [List.map_append, List.map_append]
    congr 1
    refine setA_fst isC cx w1 X ?_ hw
    have h1 := congrArg (List.map (fun o : Option (Nat × va_E) => o.map (fun x => x.1))) hC
    rw [List.map_map, List.map_map] at h1
    rw [show (isC.map fun i => (X.map (fun x => x.1))[i]?) = isC.map ((fun o : Option (Nat × va_E) => o.map (fun x => x.1)) ∘ fun i => X[i]?) from List.map_congr_left (fun i _ => by rw [List.getElem?_map]; rfl), h1]
    rfl
section KP
variable {p : Program} {l : Launch} {e : Env} {R : Room} {s : State} {m : MethodId} {args : Array Value} {below : List Frame} {meth : Method} {c : Code} {H : Heap} {locs : List Loc} {cells slots : Nat} {Q : State → Prop}
variable {pc : Nat} {ls : Array Slot} {rest st0 : List Value} {a : Array Value} {g : GG} {A : Nat → Prop} {X cx pl : va_W} {mc ms : Nat} {S : Type} {X' : S → va_W}
theorem freeX (hD : va_D A (X ++ pl)) (hS : va_S A s.heap H locs) (hA : ∀ q : Nat, s.heap.size ≤ q → A q) (isC : List Nat) (hc : isC.map (fun i => X[i]?) = cx.map some) : ∀ q, va_A cx H.size q → A q := by
  intro q h
  rcases h with ⟨k, e, h⟩ | h
  · obtain ⟨i, -, h2⟩ := va_in_of isC hc h
    exact hD.2 i (q, e) (by rw [List.getElem?_append_left (List.getElem?_eq_some_iff.mp h2).1]; exact h2)
  · exact hA q (Nat.le_trans hS.1 h)
theorem subX (isC : List Nat) (hc : isC.map (fun i => X[i]?) = cx.map some) : isC.map (fun i => (X ++ pl)[i]?) = cx.map some := by
  rw [← hc]
  apply List.map_congr_left
  intro i hi
  obtain ⟨j, hj⟩ := List.getElem?_of_mem hi
  have h1 : (isC.map (fun i => X[i]?))[j]? = some X[i]? := by rw [List.getElem?_map, hj]; rfl
  rw [hc, List.getElem?_map] at h1
  cases hz : cx[j]? with
  | none => rw [hz] at h1; cases h1
  | some z =>
    rw [hz] at h1
    have h2 : X[i]? = some z := (Option.some.inj h1).symm
    rw [List.getElem?_append_left (List.getElem?_eq_some_iff.mp h2).1]
theorem goPi {post : Int32 → S → Prop} {w1 : S → va_W} (hr : va_Run p l e R s m args below meth c H locs cells slots mc ms (F0 m pc ls st0) rest (qMi g post w1 (va_A cx H.size) a) (va_A cx H.size)) (hP : va_P g.1 vwCl (X ++ pl) H) (hD : va_D A (X ++ pl)) (hS : va_S A s.heap H locs) (hA : ∀ q : Nat, s.heap.size ≤ q → A q) (isC : List Nat) (hc : isC.map (fun i => X[i]?) = cx.map some) (hw : ∀ u, (w1 u).map (fun x => x.1) = cx.map (fun x => x.1)) (hX : ∀ u, setA X isC (w1 u) = X' u)
    (kk : ∀ (r : Int32) (u : S) (H1 : Heap) (locs1 : List Loc), post r u → va_P g.1 vwCl (X' u ++ pl) H1 → va_D A (X' u ++ pl) → va_S A s.heap H1 locs1 → W p l e R s m args below meth c H1 locs1 (cells + mc) (slots + ms) Q (F0 m (pc + 3) ls (.int r :: rest))) : W p l e R s m args below meth c H locs cells slots Q (F0 m pc ls st0) := by
  have hF := freeX hD hS hA isC hc
  refine va_calli hr hS (fun q _ h => hF q h) hF (fun r u t H1 locs1 ht _ hp hB _ hk hS1 => ?_)
  obtain ⟨hP1, hD1⟩ := hB
  rw [ht] at hP1
  obtain ⟨h1, h2⟩ := joinS hP hD isC hc (hw u) hk hP1
  rw [hX u] at h1 h2
  exact kk r u H1 locs1 hp h1 h2 hS1
theorem goPl {post : Int64 → S → Prop} {w1 : S → va_W} (hr : va_Run p l e R s m args below meth c H locs cells slots mc ms (F0 m pc ls st0) rest (qMl g post w1 (va_A cx H.size) a) (va_A cx H.size)) (hP : va_P g.1 vwCl (X ++ pl) H) (hD : va_D A (X ++ pl)) (hS : va_S A s.heap H locs) (hA : ∀ q : Nat, s.heap.size ≤ q → A q) (isC : List Nat) (hc : isC.map (fun i => X[i]?) = cx.map some) (hw : ∀ u, (w1 u).map (fun x => x.1) = cx.map (fun x => x.1)) (hX : ∀ u, setA X isC (w1 u) = X' u)
    (kk : ∀ (r : Int64) (u : S) (H1 : Heap) (locs1 : List Loc), post r u → va_P g.1 vwCl (X' u ++ pl) H1 → va_D A (X' u ++ pl) → va_S A s.heap H1 locs1 → W p l e R s m args below meth c H1 locs1 (cells + mc) (slots + ms) Q (F0 m (pc + 3) ls (.long r :: rest))) : W p l e R s m args below meth c H locs cells slots Q (F0 m pc ls st0) := by
  have hF := freeX hD hS hA isC hc
  refine va_calll hr hS (fun q _ h => hF q h) hF (fun r u t H1 locs1 ht _ hp hB _ hk hS1 => ?_)
  obtain ⟨hP1, hD1⟩ := hB
  rw [ht] at hP1
  obtain ⟨h1, h2⟩ := joinS hP hD isC hc (hw u) hk hP1
  rw [hX u] at h1 h2
  exact kk r u H1 locs1 hp h1 h2 hS1
/-- a call that makes one object more: its row stands last in what comes back -/
theorem goPn {post : Int32 → Nat → Prop} {w1 : Nat → va_W} {nw : Nat → va_E} {X'' : Nat → va_W} (hr : va_Run p l e R s m args below meth c H locs cells slots mc ms (F0 m pc ls st0) rest (qMi g post (fun u => w1 u ++ [(u, nw u)]) (va_A cx H.size) a) (va_A cx H.size)) (hP : va_P g.1 vwCl (X ++ pl) H) (hD : va_D A (X ++ pl)) (hS : va_S A s.heap H locs) (hA : ∀ q : Nat, s.heap.size ≤ q → A q) (isC : List Nat) (hc : isC.map (fun i => X[i]?) = cx.map some) (hw : ∀ u, (w1 u).map (fun x => x.1) = cx.map (fun x => x.1)) (hX : ∀ u, setA X isC (w1 u) = X'' u)
    (kk : ∀ (r : Int32) (u : Nat) (H1 : Heap) (locs1 : List Loc), post r u → va_P g.1 vwCl (X'' u ++ ((u, nw u) :: pl)) H1 → va_D A (X'' u ++ ((u, nw u) :: pl)) → va_S A s.heap H1 locs1 → W p l e R s m args below meth c H1 locs1 (cells + mc) (slots + ms) Q (F0 m (pc + 3) ls (.int r :: rest))) : W p l e R s m args below meth c H locs cells slots Q (F0 m pc ls st0) := by
  have hF := freeX hD hS hA isC hc
  refine va_calli hr hS (fun q _ h => hF q h) hF (fun r u t H1 locs1 ht _ hp hB _ hk hS1 => ?_)
  obtain ⟨hP1, hD1⟩ := hB
  rw [ht] at hP1
  have hw1 : (w1 u).length = cx.length := by
    have h9 := congrArg List.length (hw u)
    simpa only [List.length_map] using h9
  have hPa : va_P g.1 vwCl (w1 u) H1 := fun k q hq => hP1 k q (by rw [List.getElem?_append_left (List.getElem?_eq_some_iff.mp hq).1]; exact hq)
  have hlast : (w1 u ++ [(u, nw u)])[(w1 u).length]? = some (u, nw u) := by rw [List.getElem?_append_right (Nat.le_refl _), Nat.sub_self]; rfl
  have hPn : va_at g.1 vwCl (u, nw u) H1 := hP1 _ _ hlast
  have hAu : A u := hF u (hD1.2 _ _ hlast)
  obtain ⟨h1, h2⟩ := joinS hP hD isC hc (hw u) hk hPa
  have hnew : ∀ (k : Nat) (q : Nat × va_E), (setA X isC (w1 u) ++ pl)[k]? = some q → q.1 ≠ u := by
    intro k q hq e9
    -- its address is old, or of the callee's rows, which are apart from the new one
    have hfst : (setA X isC (w1 u) ++ pl).map (fun x => x.1) = (X ++ pl).map (fun x => x.1) := by
      rw [List.map_append, List.map_append]
      congr 1
      refine setA_fst isC cx (w1 u) X ?_ (hw u)
      have h9 := congrArg (List.map (fun o : Option (Nat × va_E) => o.map (fun x => x.1))) hc
      rw [List.map_map, List.map_map] at h9
      rw [show (isC.map fun i => (X.map (fun x => x.1))[i]?) = isC.map ((fun o : Option (Nat × va_E) => o.map (fun x => x.1)) ∘ fun i => X[i]?) from List.map_congr_left (fun i _ => by rw [List.getElem?_map]; rfl), h9]
      rfl
    have h3 : ((X ++ pl).map (fun x => x.1))[k]? = some u := by rw [← hfst, List.getElem?_map, hq]; show some q.1 = some u; rw [e9]
    rw [List.getElem?_map] at h3
    cases h4 : (X ++ pl)[k]? with
    | none => rw [h4] at h3; cases h3
    | some q0 =>
      rw [h4] at h3
      have e0 : q0.1 = u := Option.some.inj h3
      have hold : u < H.size := by rw [← e0]; exact (hP k q0 h4).lt
      rcases hD1.2 _ _ hlast with ⟨k2, e2, hk2⟩ | h9
      · -- the callee's own row has that address: then two rows of what came back share it
        have h5 : ((w1 u).map (fun x => x.1))[k2]? = some u := by rw [hw u, List.getElem?_map, hk2]; rfl
        rw [List.getElem?_map] at h5
        cases h6 : (w1 u)[k2]? with
        | none => rw [h6] at h5; cases h5
        | some z =>
          rw [h6] at h5
          have hz : z.1 = u := Option.some.inj h5
          have h7 : (w1 u ++ [(u, nw u)])[k2]? = some z := by rw [List.getElem?_append_left (List.getElem?_eq_some_iff.mp h6).1]; exact h6
          have h8 := hD1.1 _ _ _ _ h7 hlast hz
          have h9 := (List.getElem?_eq_some_iff.mp h6).1
          omega
      · omega
  rw [hX u] at h1 h2 hnew
  have hlen : ∀ k, (X'' u ++ ((u, nw u) :: pl))[k]? = if k < (X'' u).length then (X'' u ++ pl)[k]? else if k = (X'' u).length then some (u, nw u) else (X'' u ++ pl)[k - 1]? := by
    intro k
    by_cases a1 : k < (X'' u).length
    · rw [if_pos a1, List.getElem?_append_left a1, List.getElem?_append_left a1]
    · rw [if_neg a1, List.getElem?_append_right (by omega)]
      by_cases a2 : k = (X'' u).length
      · rw [if_pos a2, a2, Nat.sub_self]; rfl
      · rw [if_neg a2, List.getElem?_append_right (by omega), show k - (X'' u).length = (k - 1 - (X'' u).length) + 1 by omega]; rfl
  refine kk r u H1 locs1 hp (fun k q hq => ?_) ⟨fun i j x y hx hy hxy => ?_, fun k q hq => ?_⟩ hS1
  · rw [hlen] at hq
    split at hq
    · exact h1 _ _ hq
    · split at hq
      · cases hq; exact hPn
      · exact h1 _ _ hq
  · rw [hlen] at hx hy
    split at hx <;> split at hy
    · exact h2.1 _ _ _ _ hx hy hxy
    · split at hy
      · cases hy; exact absurd hxy (hnew _ _ hx)
      · have := h2.1 _ _ _ _ hx hy hxy; omega
    · split at hx
      · cases hx; exact absurd hxy.symm (hnew _ _ hy)
      · have := h2.1 _ _ _ _ hx hy hxy; omega
    · split at hx <;> split at hy
      · omega
      · cases hx; exact absurd hxy.symm (hnew _ _ hy)
      · cases hy; exact absurd hxy (hnew _ _ hx)
      · have := h2.1 _ _ _ _ hx hy hxy; omega
  · rw [hlen] at hq
    split at hq
    · exact h2.2 _ _ hq
    · split at hq
      · cases hq; exact hAu
      · exact h2.2 _ _ hq
end KP
/-- what the law has at hand at every place -/
def LX (p : Program) (s : State) (m : MethodId) (c : Code) (b L : Nat) (xs : Nat → Int32) (g : GG) : Prop := p.tables.exec = Jvm.exec ∧ c.code = code ∧ c.maxLocals = 4 ∧ s.vm.findClass RL = some m.cls ∧ (∀ w ∈ wsL_law, w.before #[Value.ref b] s = true) ∧ va_X b L xs s s.heap ∧ b < s.heap.size ∧ CK g s
/-- how the law goes on behind a case -/
def KT (p : Program) (l : Launch) (e : Env) (s : State) (m : MethodId) (below : List Frame) (meth : Method) (c : Code) (b oM mo : Nat) (g : GG) (k : Nat) (Q : State → Prop) (ls : Array Slot) : Prop := ∀ (H1 : Heap) (locs1 : List Loc), LW g (fun q => s.heap.size ≤ q) oM mo (k + 1) H1 → va_S (fun q => s.heap.size ≤ q) s.heap H1 locs1 → W p l e room_1 s m #[Value.ref b] below meth c H1 locs1 (37 + (k + 1)) 4713 Q (F0 m 765 ls [])
section LD
variable {p : Program} {l : Launch} {e : Env} {R : Room} {s : State} {m : MethodId} {args : Array Value} {below : List Frame} {meth : Method} {c : Code} {H : Heap} {locs : List Loc} {cells slots : Nat} {Q : State → Prop}
variable {pc b L oM mo i : Nat} {xs : Nat → Int32} {g : GG} {ls : Array Slot} {rest : List Value}
theorem ld_arg1 (X : LX p s m c b L xs g) (hi : i + 4 ≤ L) (hL : L ≤ 256) (hl : lv_has ls 4 [(3, .int (nI i)), (2, .ref mo), (1, .ref oM), (0, .ref b)]) (hS : va_S (fun q => s.heap.size ≤ q) s.heap H locs) (d0 : decode code pc = .ok (.aload_n 0, 1)) (d1 : decode code (pc + 1) = .ok (.iload_n 3, 1)) (d2 : decode code (pc + 2) = .ok (.iconst 1, 1)) (d3 : decode code (pc + 3) = .ok (.iadd, 1)) (d4 : decode code (pc + 4) = .ok (.iaload, 1))
    (kk : W p l e R s m args below meth c H locs cells slots Q (F0 m (pc + 5) ls (.int (xs (i + 1)) :: rest))) : W p l e R s m args below meth c H locs cells slots Q (F0 m pc ls rest) := by
  obtain ⟨hx, hb, hml, hown, hts, hX, hbl, hC⟩ := X
  refine lv_aload_n hx hb d0 rfl (lv_at hl 3 rfl) ?_
  refine lv_iload_n hx hb d1 rfl (lv_at hl 0 rfl) ?_
  refine lv_iconst (v := nI 1) hx hb d2 (by decide) ?_
  refine lv_iadd hx hb d3 ?_
  refine top_i (y := nI (i + 1)) (nI_add _ _) ?_
  refine va_sld hx hb hX hbl (Nat.not_le.mpr hbl) hS (vp_in_nI (by omega) (by omega)) d4 ?_
  exact top_i (y := xs (i + 1)) (by rw [nI_clamp (by omega)]) kk
theorem ld_arg2 (X : LX p s m c b L xs g) (hi : i + 4 ≤ L) (hL : L ≤ 256) (hl : lv_has ls 4 [(3, .int (nI i)), (2, .ref mo), (1, .ref oM), (0, .ref b)]) (hS : va_S (fun q => s.heap.size ≤ q) s.heap H locs) (d0 : decode code pc = .ok (.aload_n 0, 1)) (d1 : decode code (pc + 1) = .ok (.iload_n 3, 1)) (d2 : decode code (pc + 2) = .ok (.iconst 2, 1)) (d3 : decode code (pc + 3) = .ok (.iadd, 1)) (d4 : decode code (pc + 4) = .ok (.iaload, 1))
    (kk : W p l e R s m args below meth c H locs cells slots Q (F0 m (pc + 5) ls (.int (xs (i + 2)) :: rest))) : W p l e R s m args below meth c H locs cells slots Q (F0 m pc ls rest) := by
  obtain ⟨hx, hb, hml, hown, hts, hX, hbl, hC⟩ := X
  refine lv_aload_n hx hb d0 rfl (lv_at hl 3 rfl) ?_
  refine lv_iload_n hx hb d1 rfl (lv_at hl 0 rfl) ?_
  refine lv_iconst (v := nI 2) hx hb d2 (by decide) ?_
  refine lv_iadd hx hb d3 ?_
  refine top_i (y := nI (i + 2)) (nI_add _ _) ?_
  refine va_sld hx hb hX hbl (Nat.not_le.mpr hbl) hS (vp_in_nI (by omega) (by omega)) d4 ?_
  exact top_i (y := xs (i + 2)) (by rw [nI_clamp (by omega)]) kk
theorem ld_arg3 (X : LX p s m c b L xs g) (hi : i + 4 ≤ L) (hL : L ≤ 256) (hl : lv_has ls 4 [(3, .int (nI i)), (2, .ref mo), (1, .ref oM), (0, .ref b)]) (hS : va_S (fun q => s.heap.size ≤ q) s.heap H locs) (d0 : decode code pc = .ok (.aload_n 0, 1)) (d1 : decode code (pc + 1) = .ok (.iload_n 3, 1)) (d2 : decode code (pc + 2) = .ok (.iconst 3, 1)) (d3 : decode code (pc + 3) = .ok (.iadd, 1)) (d4 : decode code (pc + 4) = .ok (.iaload, 1))
    (kk : W p l e R s m args below meth c H locs cells slots Q (F0 m (pc + 5) ls (.int (xs (i + 3)) :: rest))) : W p l e R s m args below meth c H locs cells slots Q (F0 m pc ls rest) := by
  obtain ⟨hx, hb, hml, hown, hts, hX, hbl, hC⟩ := X
  refine lv_aload_n hx hb d0 rfl (lv_at hl 3 rfl) ?_
  refine lv_iload_n hx hb d1 rfl (lv_at hl 0 rfl) ?_
  refine lv_iconst (v := nI 3) hx hb d2 (by decide) ?_
  refine lv_iadd hx hb d3 ?_
  refine top_i (y := nI (i + 3)) (nI_add _ _) ?_
  refine va_sld hx hb hX hbl (Nat.not_le.mpr hbl) hS (vp_in_nI (by omega) (by omega)) d4 ?_
  exact top_i (y := xs (i + 3)) (by rw [nI_clamp (by omega)]) kk
theorem ld_bool (X : LX p s m c b L xs g) (hi : i + 4 ≤ L) (hL : L ≤ 256) (hl : lv_has ls 4 [(3, .int (nI i)), (2, .ref mo), (1, .ref oM), (0, .ref b)]) (hS : va_S (fun q => s.heap.size ≤ q) s.heap H locs) (d0 : decode code pc = .ok (.aload_n 0, 1)) (d1 : decode code (pc + 1) = .ok (.iload_n 3, 1)) (d2 : decode code (pc + 2) = .ok (.iconst 2, 1)) (d3 : decode code (pc + 3) = .ok (.iadd, 1)) (d4 : decode code (pc + 4) = .ok (.iaload, 1)) (d5 : decode code (pc + 5) = .ok (.ifCond .eq 7, 3)) (d8 : decode code (pc + 8) = .ok (.iconst 1, 1)) (d9 : decode code (pc + 9) = .ok (.goto 4, 3)) (d12 : decode code (pc + 12) = .ok (.iconst 0, 1))
    (kk : W p l e R s m args below meth c H locs cells slots Q (F0 m (pc + 13) ls (.int (zI (decide (xs (i + 2) ≠ 0))) :: rest))) : W p l e R s m args below meth c H locs cells slots Q (F0 m pc ls rest) := by
  refine ld_arg2 X hi hL hl hS d0 d1 d2 d3 d4 ?_
  obtain ⟨hx, hb, hml, hown, hts, hX, hbl, hC⟩ := X
  refine lv_if_eq (tgt := pc + 12) hx hb d5 (by omega) (fun h => ?_) (fun h => ?_)
  · refine lv_iconst (v := nI 0) hx hb d12 (by decide) ?_
    exact top_i (zI_0 (decide_eq_false (fun h9 => h9 h))) kk
  · refine lv_iconst (v := nI 1) hx hb d8 (by decide) ?_
    refine lv_goto (tgt := pc + 13) hx hb d9 (by omega) ?_
    exact top_i (zI_1 (decide_eq_true h)) kk
end LD
