theorem eq_ev {args : Array Value} {s : State} {tm : Term} {z : Int32} (h : (Cond.eq tm (.int z)).before args s = true) : tm.eval args s none [] s = some (.int z) := by
  cases hv : tm.eval args s none [] s with
  | none => simp [Cond.before, Cond.holds, Cond.value, hv] at h
  | some w =>
    have hz : (Term.int z).eval args s none [] s = some (.int z) := rfl
    simp only [Cond.before, Cond.holds, Cond.value, hv, hz] at h
    cases w <;> simp_all
set_option maxHeartbeats 4000000 in
theorem start_inv {p : Program} {s : State} {m : MethodId} {meth : Method} {c : Code} {b L : Nat} {xs : Nat → Int32} (C0 : lw_At p s m meth c b L xs) : ∃ κ : Kt, kH κ = s.heap ∧ kB κ = b ∧ kXL κ = L ∧ Inv κ s := by
  obtain ⟨hx, hb, hr, hml, hown, hts, hX, hbl, hlocks, hgv⟩ := id C0
  have hg : ∀ w ∈ gT, w.before #[Value.ref b] s = true := fun w hw => hts w (List.mem_filter.mp hw).1
  have hs := flat_of_before _ hgv
  obtain ⟨c0, i0, h0⟩ := u_known (C := RX0) (T := TX0) (N := 3) (n := 3) hg iX0 (hg _ k73)
  obtain ⟨c1, i1, h1⟩ := u_known (C := RX1) (T := TX1) (N := 11) (n := 11) hg iX1 (hg _ k45)
  obtain ⟨c2, i2, h2⟩ := u_known (C := RX2) (T := TX2) (N := 2) (n := 2) hg iX2 (hg _ k64)
  obtain ⟨c3, i3, h3⟩ := u_known (C := RX3) (T := TX3) (N := 7) (n := 7) hg iX3 (hg _ k22)
  obtain ⟨c4, i4, h4⟩ := u_known (C := RX4) (T := TX4) (N := 8) (n := 8) hg iX4 (hg _ k14)
  obtain ⟨aI, nIx, mI, fI, gI, jI⟩ := Cond.arrayClass_spec (hg _ k42)
  obtain ⟨aC, nC, mC, fC, gC, jC⟩ := Cond.arrayClass_spec (hg _ k43)
  obtain ⟨aZ, nZ, mZ, fZ, gZ, jZ⟩ := Cond.arrayClass_spec (hg _ k93)
  obtain ⟨mS, aS, nS, eS, -, gS, jS, fS⟩ := Cond.arrayOver_spec (hts _ k79)
  obtain ⟨tL, eL, vL⟩ := va_Tof (args := #[Value.ref b]) (s := s) (tm := .static "HungStops" "LEAST_VALUE" "[I") (ty := .int) (N := 4) (f := fun j => .int (lsv j)) (A := fun q => s.heap.size ≤ q) (by decide) (hs _ (by decide +kernel)) (eq_ev (z := 4) (hs _ (by decide +kernel))) (fun j hj => match j, hj with
    | 0, _ => eq_ev (z := 20) (hs _ (by decide +kernel))
    | 1, _ => eq_ev (z := 1) (hs _ (by decide +kernel))
    | 2, _ => eq_ev (z := 0) (hs _ (by decide +kernel))
    | 3, _ => eq_ev (z := 0) (hs _ (by decide +kernel))
    | j + 4, hj => absurd hj (by omega)) (fun a ha => Nat.not_le.mpr ha)
  have zL := va_Zof (A := fun q => s.heap.size ≤ q) (hts _ k99) (hg _ k6) eL (fun a ha => Nat.not_le.mpr ha)
  obtain ⟨tG, eG, vG⟩ := va_Tof (args := #[Value.ref b]) (s := s) (tm := .static "HungStops" "GREATEST_VALUE" "[I") (ty := .int) (N := 4) (f := fun j => .int (gsv j)) (A := fun q => s.heap.size ≤ q) (by decide) (hs _ (by decide +kernel)) (eq_ev (z := 4) (hs _ (by decide +kernel))) (fun j hj => match j, hj with
    | 0, _ => eq_ev (z := 200) (hs _ (by decide +kernel))
    | 1, _ => eq_ev (z := 20) (hs _ (by decide +kernel))
    | 2, _ => eq_ev (z := 40) (hs _ (by decide +kernel))
    | 3, _ => eq_ev (z := 1) (hs _ (by decide +kernel))
    | j + 4, hj => absurd hj (by omega)) (fun a ha => Nat.not_le.mpr ha)
  have zG := va_Zof (A := fun q => s.heap.size ≤ q) (hts _ k101) (hg _ k6) eG (fun a ha => Nat.not_le.mpr ha)
  refine ⟨((fun k => match k with | 0 => c0 | 1 => c1 | 2 => c2 | 3 => c3 | _ => c4, fun k => match k with | 0 => i0 | 1 => i1 | 2 => i2 | 3 => i3 | _ => i4), (aI, aC, aZ, aS), ((tL, tG), (b, L, xs)), s.heap), rfl, rfl, rfl, ⟨fun k q hq => ?_, fun k q hq => ?_⟩, ⟨va_Nw.of rfl (hts _ k23), va_Nw.of rfl (hts _ k46), va_Nw.of rfl (hts _ k65), va_Nw.of rfl (hts _ k80), va_Nw.of rfl (hts _ k342), va_Nw.of rfl (hts _ k147)⟩, ⟨va_AO.of (hts _ k79), hX, hbl⟩, ⟨zL, vL⟩, ⟨zG, vG⟩⟩
  · match k, hq with
    | 0, hq => cases hq; exact h0
    | 1, hq => cases hq; exact h1
    | 2, hq => cases hq; exact h2
    | 3, hq => cases hq; exact h3
    | 4, hq => cases hq; exact h4
    | k + 5, hq => simp [kcl] at hq
  · match k, hq with
    | 0, hq => cases hq; exact ⟨fun n z => ⟨fun k h => (by cases h), nIx, gI, mI, jI⟩, fI⟩
    | 1, hq => cases hq; exact ⟨fun n z => ⟨fun k h => (by cases h), nC, gC, mC, jC⟩, fC⟩
    | 2, hq => cases hq; exact ⟨fun n z => ⟨fun k h => (by cases h), nZ, gZ, mZ, jZ⟩, fZ⟩
    | 3, hq => cases hq; exact ⟨fun n z => ⟨fun k h => (by cases h), nS, gS, mS, jS⟩, nS, mS, gS, jS, eS, fS⟩
    | k + 4, hq => simp [kty] at hq
