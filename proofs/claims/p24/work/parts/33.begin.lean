/-! The beginning: the second object's birth behind the first one's, and how it comes to say the mirrored text -/
theorem p_init {l : Launch} {κ : Kt} {z : Nat} {st : St} {S : Sg} (hz : z ≤ 182) (hX : XI κ z st S) (hO : Ob 92 st 91 [.inr (4, dX4)]) : CT l κ yX4_init cX4_init 1 none { frames := 3, cells := 90, slots := 3381, locals := 53 } 92 [.ref (ad κ 91)] st (PV fun u => WI κ u S S0) := by
  have h1 : CT l κ yX4_init cX4_init 1 none { frames := 3, cells := 90, slots := 3381, locals := 53 } (91 + 1) [.ref (ad κ 91)] st (fun v u => (∀ i, i < 91 → u i = st i) ∧ ∃ κ', Sft κ κ' 91 ∧ (PV fun w => XI κ' 91 w S0 ∧ Fr (fun q : Nat => 0 ≤ q) (fun i => st (91 + i)) w) v (fun i => u (91 + i))) := by
    refine CT.shift (P := fun κ' => PV fun w => XI κ' 91 w S0 ∧ Fr (fun q : Nat => 0 ≤ q) (fun i => st (91 + i)) w) (fun κ' hS => ?_)
    rw [show ad κ 91 = ad κ' 0 from (hS.adr 0).symm]
    refine c_X4_init ⟨Nat.le_refl _, fun j e hj => ?_⟩
    have h2 := hO.2 j e hj
    show st (91 + (0 + j)) = e
    rw [Nat.zero_add]
    exact h2
  refine h1.mono ?_
  rintro v u ⟨e0, κ', hS, e1, e2, e3⟩
  exact ⟨e1, (hX.fr (A := fun q => 91 ≤ q) (fun q hq => e0 q (by omega)) (fun q hq => by omega)).up hz, hS.xi e2⟩
def muP (k : Nat) : Mu := (fun i j => if (i = 1 ∨ i = 2 ∨ i = 3) ∧ j < k then mv mu0 i (tn j) else mv mu0 i j, mu0.2)
def Bg (k : Nat) (S T : Sg) : Prop := sM S = mu0 ∧ sM T = muP k ∧ (∀ i, sFd S i = 0) ∧ (∀ i, sFd T i = 0) ∧ sPn S = 0 ∧ sPn T = 0 ∧ (∀ i, sPt S i = 0) ∧ ∀ i, sPt T i = 0
theorem muP_1 : muP 1 = mu0 := by
  have h : (fun i j => if (i = 1 ∨ i = 2 ∨ i = 3) ∧ j < 1 then mv mu0 i (tn j) else mv mu0 i j) = mu0.1 := by
    funext i j
    split
    · next q =>
      rw [show j = 0 from by omega]
      rfl
    · rfl
  exact congrArg (fun g : Nat → Nat → Int32 => ((g, mu0.2) : Mu)) h
theorem tn_7 {j : Nat} (h : 7 ≤ j) : tn j = j := by
  unfold tn
  rw [if_neg (by omega), if_neg (by omega), if_neg (by omega), if_neg (by omega), if_neg (by omega), if_neg (by omega)]
theorem muP_7 : muP 7 = muM mu0 := by
  have h : (fun i j => if (i = 1 ∨ i = 2 ∨ i = 3) ∧ j < 7 then mv mu0 i (tn j) else mv mu0 i j) = fun i k => if i = 1 ∨ i = 2 ∨ i = 3 then mv mu0 i (tn k) else mv mu0 i k := by
    funext i j
    by_cases hi : i = 1 ∨ i = 2 ∨ i = 3
    · rw [if_pos hi]
      by_cases hj : j < 7
      · rw [if_pos ⟨hi, hj⟩]
      · rw [if_neg (fun q => hj q.2), tn_7 (by omega)]
    · rw [if_neg hi, if_neg (fun q => hi q.1)]
  have h2 : (fun w j => oth (mg mu0 w j)) = mg mu0 := by
    funext w j
    show oth (nI 0) = nI 0
    decide
  show _ = ((fun i k => if i = 1 ∨ i = 2 ∨ i = 3 then mv mu0 i (tn k) else mv mu0 i k, mn mu0, ml mu0, fun w j => oth (mg mu0 w j)) : Mu)
  rw [h2, ← h]
  rfl
theorem mu0_r : ∀ k, k < 8 → (nI 1 ≤ mv mu0 1 k ∧ mv mu0 1 k ≤ nI 20) ∧ ixv (mv mu0 2 k) 101 ≠ none ∧ ixv (mv mu0 3 k) 101 ≠ none ∧ ¬ mv mu0 1 k ≤ 0 := by decide +kernel
theorem mu0_g : Rg mu0 := by
  unfold Rg bw
  decide +kernel
theorem muP_s {k : Nat} : muSort (muP k) k (mv mu0 1 (tn k)) (mv mu0 2 (tn k)) (mv mu0 3 (tn k)) = muP (k + 1) := by
  have h : (fun i j => if j = k then (if i = 1 then mv mu0 1 (tn k) else if i = 2 then mv mu0 2 (tn k) else if i = 3 then mv mu0 3 (tn k) else mv (muP k) i j) else mv (muP k) i j) = fun i j => if (i = 1 ∨ i = 2 ∨ i = 3) ∧ j < k + 1 then mv mu0 i (tn j) else mv mu0 i j := by
    funext i j
    have e : mv (muP k) i j = if (i = 1 ∨ i = 2 ∨ i = 3) ∧ j < k then mv mu0 i (tn j) else mv mu0 i j := rfl
    by_cases hj : j = k
    · rw [if_pos hj]
      by_cases h1 : i = 1
      · rw [if_pos h1, if_pos ⟨Or.inl h1, by omega⟩, h1, hj]
      · rw [if_neg h1]
        by_cases h2 : i = 2
        · rw [if_pos h2, if_pos ⟨Or.inr (Or.inl h2), by omega⟩, h2, hj]
        · rw [if_neg h2]
          by_cases h3 : i = 3
          · rw [if_pos h3, if_pos ⟨Or.inr (Or.inr h3), by omega⟩, h3, hj]
          · rw [if_neg h3, e, if_neg (fun q => by omega), if_neg (fun q => by omega)]
    · rw [if_neg hj, e]
      by_cases hi : (i = 1 ∨ i = 2 ∨ i = 3) ∧ j < k
      · rw [if_pos hi, if_pos ⟨hi.1, by omega⟩]
      · rw [if_neg hi, if_neg (fun q => hi ⟨q.1, by omega⟩)]
  exact congrArg (fun g : Nat → Nat → Int32 => ((g, mu0.2) : Mu)) h
theorem mu0_s : muSet mu0 3 (nI 1) = mu0 := by
  have h : (fun i j => if i = 0 ∧ j = 3 then nI 1 else mv mu0 i j) = mu0.1 := by
    funext i j
    split
    · next q =>
      rw [q.1, q.2]
      rfl
    · rfl
  exact congrArg (fun g : Nat → Nat → Int32 => ((g, mu0.2) : Mu)) h
theorem Bg.start : Bg (1 + 0) S0 S0 := ⟨rfl, muP_1.symm, fun _ => rfl, fun _ => rfl, rfl, rfl, fun _ => rfl, fun _ => rfl⟩
theorem Bg.step {k : Nat} {S T : Sg} (h : Bg k S T) (hk : k < 7) : fSortOf S (nI (tn k)) (nI 0) = mv mu0 1 (tn k) ∧ fSortOf S (nI (tn k)) (nI 1) = mv mu0 2 (tn k) ∧ fSortOf S (nI (tn k)) (nI 2) = mv mu0 3 (tn k) ∧ (fSort T (nI k) (mv mu0 1 (tn k)) (mv mu0 2 (tn k)) (mv mu0 3 (tn k))).1 = mv mu0 1 k ∧ ¬ mv mu0 1 k ≤ 0 ∧ (fSet S (nI 3) (nI 1)).1 = nI 1 ∧ Bg (k + 1) (fSet S (nI 3) (nI 1)).2 (fSort T (nI k) (mv mu0 1 (tn k)) (mv mu0 2 (tn k)) (mv mu0 3 (tn k))).2 := by
  obtain ⟨h1, h2, h3, h4, h5, h6, h7, h8⟩ := h
  have ht : tn k < 8 := tn_lt (by omega)
  obtain ⟨r1, r2, r3, -⟩ := mu0_r (tn k) ht
  have e1 := fSort_s (S := T) (x := nI k) (w := mv mu0 1 (tn k)) (l := mv mu0 2 (tn k)) (r := mv mu0 3 (tn k)) (ixv_s (show k < 8 by omega) (by decide)) ⟨r1, r2, r3⟩
  have e2 := fSet_s (S := S) (x := nI 3) (y := nI 1) (ixv_s (show 3 < 4 by omega) (by decide)) (by decide) (by decide)
  refine ⟨?_, ?_, ?_, ?_, (mu0_r k (by omega)).2.2.2, ?_, ?_⟩
  · rw [fSortOf_0 (ixv_s ht (by decide)) rfl, h1]
  · rw [fSortOf_1 (ixv_s ht (by decide)) rfl, h1]
  · rw [fSortOf_2 (ixv_s ht (by decide)) rfl, h1]
  · rw [e1, h2]
    exact if_neg (fun q => absurd q.2 (Nat.lt_irrefl k))
  · rw [e2, h1]
    rfl
  · rw [e1, e2, h1, h2, muP_s, mu0_s]
    exact ⟨rfl, rfl, h3, h4, h5, h6, h7, h8⟩
theorem Bg.end {k : Nat} {S T : Sg} (h : Bg k S T) (hk : k = 7) : JJ S T := by
  subst hk
  obtain ⟨h1, h2, h3, h4, h5, h6, h7, h8⟩ := h
  refine ⟨⟨by rw [h2, h1]; exact muP_7, fun i _ => by rw [h3, h4], fun i _ q => absurd (h3 i) q, by rw [h5, h6], fun k => ?_⟩, by rw [h1]; exact mu0_g, fun i _ q => absurd (h3 i) q⟩
  rw [h7, h8]
  exact ⟨by decide, rfl⟩
