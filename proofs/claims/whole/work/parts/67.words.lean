set_option maxRecDepth 100000 in
theorem nwl_in : ∀ w ∈ nwl, w ∈ lw_tbl := memr [75, 77, 91, 93, 95, 96, 98, 100, 102, 123, 125, 127, 129, 131, 133, 134, 137, 188, 70, 86, 118, 158, 183, 307, 326, 444, 498, 501, 508, 511, 515, 518, 522, 525, 528, 1035, 1036, 1037, 1038, 1039] (by decide +kernel)
theorem nwl_on : ∀ w ∈ nwl, w.onTables = true := by decide +kernel
def insl : List Cond := [.instantiable RX0 0, .instantiable RX1 6, .instantiable RX2 0, .instantiable RX3 1, .instantiable RX4 0, .instantiable RX5 0, .instantiable RX6 6, .instantiable RX7 2, .instantiable RX8 8, .instantiable RX9 0, .instantiable RX10 12, .instantiable RX11 32, .arrayClass .int, .arrayClass .long, .arrayClass .byte, .arrayOver (.object "BoiledEggs$Trier")]
set_option maxRecDepth 100000 in
theorem insl_in : ∀ w ∈ insl, w ∈ lw_tbl := memr [507, 157, 497, 182, 521, 514, 85, 69, 117, 527, 61, 683, 83, 155, 785, 193] (by decide +kernel)
set_option maxRecDepth 100000 in
theorem ncl_in : ∀ q ∈ ncl, Cond.not (.castable q.1 q.2) ∈ flatC (Jvm.Cond.and given_1 narrow_1) := by decide +kernel
set_option maxRecDepth 100000 in
theorem ck_start {s : State} {b : Nat} (hts : ∀ w ∈ lw_tbl, w.before #[Value.ref b] s = true) (hgv : (Jvm.Cond.and given_1 narrow_1).before #[Value.ref b] s = true) : ∃ g : GG, CK g s := by
  have hi : ∀ (k : Nat) (w : Cond), insl[k]? = some w → w.before #[Value.ref b] s = true := fun k w h => hts w (insl_in w (List.mem_of_getElem? h))
  obtain ⟨c0, i0, k0⟩ := u_known (C := RX0) (T := TX0) (N := 0) (n := 0) hts inX0 (hi 0 _ rfl)
  obtain ⟨c1, i1, k1⟩ := u_known (C := RX1) (T := TX1) (N := 6) (n := 6) hts inX1 (hi 1 _ rfl)
  obtain ⟨c2, i2, k2⟩ := u_known (C := RX2) (T := TX2) (N := 0) (n := 0) hts inX2 (hi 2 _ rfl)
  obtain ⟨c3, i3, k3⟩ := u_known (C := RX3) (T := TX3) (N := 1) (n := 1) hts inX3 (hi 3 _ rfl)
  obtain ⟨c4, i4, k4⟩ := u_known (C := RX4) (T := TX4) (N := 0) (n := 0) hts inX4 (hi 4 _ rfl)
  obtain ⟨c5, i5, k5⟩ := u_known (C := RX5) (T := TX5) (N := 0) (n := 0) hts inX5 (hi 5 _ rfl)
  obtain ⟨c6, i6, k6⟩ := u_known (C := RX6) (T := TX6) (N := 6) (n := 6) hts inX6 (hi 6 _ rfl)
  obtain ⟨c7, i7, k7⟩ := u_known (C := RX7) (T := TX7) (N := 2) (n := 2) hts inX7 (hi 7 _ rfl)
  obtain ⟨c8, i8, k8⟩ := u_known (C := RX8) (T := TX8) (N := 8) (n := 8) hts inX8 (hi 8 _ rfl)
  obtain ⟨c9, i9, k9⟩ := u_known (C := RX9) (T := TX9) (N := 0) (n := 0) hts inX9 (hi 9 _ rfl)
  obtain ⟨c10, i10, k10⟩ := u_known (C := RX10) (T := TX10) (N := 12) (n := 12) hts inX10 (hi 10 _ rfl)
  obtain ⟨c11, i11, k11⟩ := u_known (C := RX11) (T := TX11) (N := 32) (n := 32) hts inX11 (hi 11 _ rfl)
  obtain ⟨cI, kI, pI, aI, bI, dI⟩ := Cond.arrayClass_spec (hi 12 _ rfl)
  obtain ⟨cJ, kJ, pJ, aJ, bJ, dJ⟩ := Cond.arrayClass_spec (hi 13 _ rfl)
  obtain ⟨cB, kB, pB, aB, bB, dB⟩ := Cond.arrayClass_spec (hi 14 _ rfl)
  obtain ⟨pT, cT, kT, t1, _, t2, t3, t4⟩ := Cond.arrayOver_spec (hi 15 _ rfl)
  refine ⟨((fun k => if k = 0 then c0 else if k = 1 then c1 else if k = 2 then c2 else if k = 3 then c3 else if k = 4 then c4 else if k = 5 then c5 else if k = 6 then c6 else if k = 7 then c7 else if k = 8 then c8 else if k = 9 then c9 else if k = 10 then c10 else c11, fun k => if k = 0 then i0 else if k = 1 then i1 else if k = 2 then i2 else if k = 3 then i3 else if k = 4 then i4 else if k = 5 then i5 else if k = 6 then i6 else if k = 7 then i7 else if k = 8 then i8 else if k = 9 then i9 else if k = 10 then i10 else i11), cI, cJ, cB, cT), ⟨fun k q hq => ?_, fun k q hq => ?_⟩, fun w hw => va_Nw.of (nwl_on w hw) (hts w (nwl_in w hw)), fun q hq => va_Nc.of (flat_of_before _ hgv _ (ncl_in q hq)), va_AO.of (hi 15 _ rfl)⟩
  · match k, hq with
    | 0, hq => cases hq; exact k0
    | 1, hq => cases hq; exact k1
    | 2, hq => cases hq; exact k2
    | 3, hq => cases hq; exact k3
    | 4, hq => cases hq; exact k4
    | 5, hq => cases hq; exact k5
    | 6, hq => cases hq; exact k6
    | 7, hq => cases hq; exact k7
    | 8, hq => cases hq; exact k8
    | 9, hq => cases hq; exact k9
    | 10, hq => cases hq; exact k10
    | 11, hq => cases hq; exact k11
    | k + 12, hq => simp [vwCl] at hq
  · match k, hq with
    | 0, hq => cases hq; exact ⟨fun n z => ⟨(fun k h => by cases h), kI, bI, pI, dI⟩, aI⟩
    | 1, hq => cases hq; exact ⟨fun n z => ⟨(fun k h => by cases h), kJ, bJ, pJ, dJ⟩, aJ⟩
    | 2, hq => cases hq; exact ⟨fun n z => ⟨(fun k h => by cases h), kB, bB, pB, dB⟩, aB⟩
    | 3, hq => cases hq; exact ⟨fun n z => ⟨(fun k h => by cases h), kT, t2, pT, t3⟩, kT, pT, t2, t3, t1, t4⟩
    | k + 4, hq => simp [tyl] at hq
