/-! Both objects' states: the second one says the mirrored text, and its answers; the numbers' ranges -/
def bw (x : Int32) (a b : Int) : Prop := a ≤ x.toInt ∧ x.toInt ≤ b
def Rg (μ : Mu) : Prop := bw (mv μ 0 0) 20 200 ∧ bw (mv μ 0 1) 1 20 ∧ bw (mv μ 0 2) 0 40 ∧ bw (mv μ 0 3) 0 1 ∧ ∀ k, k < 8 → bw (mv μ 1 k) 1 20 ∧ bw (mv μ 2 k) 0 100 ∧ bw (mv μ 3 k) 0 100
def Mr (S T : Sg) : Prop := sM T = muM (sM S) ∧ (∀ i, i < 2 → sFd T i = sFd S i) ∧ (∀ i, i < 2 → sFd S i ≠ 0 → sSl T i = muM (sSl S i)) ∧ sPn T = sPn S ∧ ∀ k, sPt S k < 256 ∧ sPt T k = otN (sPt S k)
def Gs (S : Sg) : Prop := Rg (sM S) ∧ ∀ i, i < 2 → sFd S i ≠ 0 → Rg (sSl S i)
def JJ (S T : Sg) : Prop := Mr S T ∧ Gs S
theorem Rg.of {μ ν : Mu} (h : Rg μ) (e : ν.1 = μ.1) : Rg ν := by
  unfold Rg mv at h ⊢
  rw [e]
  exact h
section ST
variable {S T : Sg}
/-- another text in both -/
theorem JJ.withM (h : JJ S T) {μ ν : Mu} (e : ν = muM μ) (hg : Rg μ) : JJ (withM (push S) μ) (withM (push T) ν) := ⟨⟨e, h.1.2⟩, hg, h.2.2⟩
theorem JJ.e1 (h : JJ S T) : sM T = muM (sM S) := h.1.1
theorem JJ.n1 (h : JJ S T) : mn (sM T) = mn (sM S) := by
  rw [h.e1]
  rfl
theorem JJ.set (h : JJ S T) (x y : Int32) : JJ (fSet S x y).2 (fSet T x y).2 ∧ (fSet T x y).1 = (fSet S x y).1 := by
  unfold fSet
  rw [h.e1]
  cases hx : ixv x 4 with
  | none => exact ⟨h, rfl⟩
  | some k =>
    by_cases hc : lsv k ≤ y ∧ y ≤ gsv k
    · simp only [if_pos hc]
      refine ⟨h.withM (muSetM _ _ _) ?_, mvM_0 _ _⟩
      have hk : k < 4 := by
        unfold ixv at hx
        by_cases hq : 0 ≤ x ∧ x < nI 4
        · obtain ⟨j, hj, e, e2⟩ := ixv_of (n := 4) (by decide) (Int32.not_lt.mpr hq.1) hq.2
          rw [if_pos hq] at hx
          cases hx
          unfold ixv at e2
          rw [if_pos hq] at e2
          cases e2
          rw [e, nI_clamp (by omega)]
          exact hj
        · rw [if_neg hq] at hx
          cases hx
      obtain ⟨g0, g1, g2, g3, g4⟩ := h.2.1
      rw [fa_le, fa_le] at hc
      have e0 : ∀ j, mv (muSet (sM S) k y) 0 j = if j = k then y else mv (sM S) 0 j := fun j => by
        show (if 0 = 0 ∧ j = k then y else _) = _
        simp
      have e1 : ∀ i j, i ≠ 0 → mv (muSet (sM S) k y) i j = mv (sM S) i j := fun i j hi => if_neg (fun q => hi q.1)
      refine ⟨?_, ?_, ?_, ?_, fun j hj => ?_⟩
      · rw [e0]
        split
        · next q => subst q; exact hc
        · exact g0
      · rw [e0]
        split
        · next q => subst q; exact hc
        · exact g1
      · rw [e0]
        split
        · next q => subst q; exact hc
        · exact g2
      · rw [e0]
        split
        · next q => subst q; exact hc
        · exact g3
      · rw [e1 1 _ (by decide), e1 2 _ (by decide), e1 3 _ (by decide)]
        exact g4 j hj
    · simp only [if_neg hc]
      exact ⟨h, trivial⟩
theorem ix_rg {l : Int32} (h : ixv l 101 ≠ none) : bw l 0 100 := by
  unfold ixv at h
  by_cases hq : 0 ≤ l ∧ l < nI 101
  · obtain ⟨a, b⟩ := hq
    rw [fa_le] at a
    rw [fa_lt, nI_toInt (by decide)] at b
    exact ⟨a, by omega⟩
  · rw [if_neg hq] at h
    exact absurd rfl h
theorem JJ.sort (h : JJ S T) {q : Nat} (hq : q < 8) (w l r : Int32) : JJ (fSort S (nI q) w l r).2 (fSort T (nI (tn q)) w l r).2 ∧ (fSort T (nI (tn q)) w l r).1 = (fSort S (nI q) w l r).1 := by
  unfold fSort
  rw [h.e1, ixv_s hq (by decide), ixv_s (tn_lt hq) (by decide)]
  by_cases hc : (nI 1 ≤ w ∧ w ≤ nI 20) ∧ ixv l 101 ≠ none ∧ ixv r 101 ≠ none
  · simp only [if_pos hc]
    refine ⟨h.withM (muSortM _ _ _ _ _) ?_, ?_⟩
    · obtain ⟨g0, g1, g2, g3, g4⟩ := h.2.1
      have e1 : ∀ i j, mv (muSort (sM S) q w l r) i j = if j = q then (if i = 1 then w else if i = 2 then l else if i = 3 then r else mv (sM S) i j) else mv (sM S) i j := fun _ _ => rfl
      have e0 : ∀ j, mv (muSort (sM S) q w l r) 0 j = mv (sM S) 0 j := fun j => by
        rw [e1]
        simp
      obtain ⟨⟨c1, c2⟩, c3, c4⟩ := hc
      rw [fa_le, nI_toInt (by decide)] at c1 c2
      refine ⟨by rw [e0]; exact g0, by rw [e0]; exact g1, by rw [e0]; exact g2, by rw [e0]; exact g3, fun j hj => ?_⟩
      rw [e1, e1, e1]
      by_cases hj2 : j = q
      · rw [if_pos hj2, if_pos hj2, if_pos hj2]
        exact ⟨⟨c1, c2⟩, ix_rg c3, ix_rg c4⟩
      · rw [if_neg hj2, if_neg hj2, if_neg hj2]
        exact g4 j hj
    · rw [mvM_s _ (by decide), tn_tn]
  · simp only [if_neg hc]
    exact ⟨h, trivial⟩
theorem JJ.drop (h : JJ S T) (x : Int32) : JJ (fDrop S x).2 (fDrop T x).2 ∧ (fDrop T x).1 = (fDrop S x).1 := by
  unfold fDrop
  rw [h.n1, h.e1]
  cases hx : ixv x (mn (sM S)) with
  | none => exact ⟨h, rfl⟩
  | some i => exact ⟨h.withM (muDropM _ _) (h.2.1.of rfl), wdM _ _⟩
theorem JJ.swap (h : JJ S T) (x y : Int32) : JJ (fSwap S x y).2 (fSwap T x y).2 ∧ (fSwap T x y).1 = (fSwap S x y).1 := by
  unfold fSwap
  rw [h.n1, h.e1]
  cases hx : ixv x (mn (sM S)) with
  | none => cases ixv y (mn (sM S)) <;> exact ⟨h, rfl⟩
  | some i =>
    cases hy : ixv y (mn (sM S)) with
    | none => exact ⟨h, rfl⟩
    | some j =>
      by_cases hc : i = j
      · simp only [if_pos hc]
        exact ⟨h, trivial⟩
      · simp only [if_neg hc]
        refine ⟨h.withM (muSwapM _ _ _) (h.2.1.of rfl), ?_⟩
        rw [muSwapM, lnwM]
theorem JJ.clear (h : JJ S T) : JJ (fClear S).2 (fClear T).2 ∧ (fClear T).1 = (fClear S).1 := by
  unfold fClear
  rw [h.n1, h.e1]
  exact ⟨h.withM (muClearM _) (h.2.1.of rfl), rfl⟩
theorem JJ.save (h : JJ S T) (x : Int32) : JJ (fSave S x).2 (fSave T x).2 ∧ (fSave T x).1 = (fSave S x).1 := by
  unfold fSave
  rw [h.n1]
  cases hx : ixv x 2 with
  | none => exact ⟨h, rfl⟩
  | some i =>
    obtain ⟨⟨h1, h2, h3, h4⟩, h5, h6⟩ := h
    refine ⟨⟨⟨h1, fun j hj => ?_, fun j hj hn => ?_, h4⟩, h5, fun j hj hn => ?_⟩, rfl⟩
    · show va_up (sFd T) i 1 j = va_up (sFd S) i 1 j
      by_cases hc : j = i
      · subst hc
        rw [va_up_self, va_up_self]
      · rw [va_up_ne _ _ hc, va_up_ne _ _ hc]
        exact h2 j hj
    · show va_up (sSl T) i (sM T) j = muM (va_up (sSl S) i (sM S) j)
      by_cases hc : j = i
      · subst hc
        rw [va_up_self, va_up_self]
        exact h1
      · rw [va_up_ne _ _ hc, va_up_ne _ _ hc]
        exact h3 j hj (by
          have e : va_up (sFd S) i 1 j = sFd S j := va_up_ne _ _ hc
          rw [← e]
          exact hn)
    · show Rg (va_up (sSl S) i (sM S) j)
      by_cases hc : j = i
      · subst hc
        rw [va_up_self]
        exact h5
      · rw [va_up_ne _ _ hc]
        exact h6 j hj (by
          have e : va_up (sFd S) i 1 j = sFd S j := va_up_ne _ _ hc
          rw [← e]
          exact hn)
theorem ix2 {x : Int32} {i n : Nat} (hn : n < 2 ^ 31) (h : ixv x n = some i) : i < n := by
  unfold ixv at h
  by_cases hq : 0 ≤ x ∧ x < nI n
  · obtain ⟨j, hj, e, e2⟩ := ixv_of hn (Int32.not_lt.mpr hq.1) hq.2
    rw [if_pos hq] at h
    cases h
    rw [e, nI_clamp (by omega)]
    exact hj
  · rw [if_neg hq] at h
    cases h
theorem JJ.restore (h : JJ S T) (x : Int32) : JJ (fRestore S x).2 (fRestore T x).2 ∧ (fRestore T x).1 = (fRestore S x).1 := by
  unfold fRestore
  cases hx : ixv x 2 with
  | none => exact ⟨h, rfl⟩
  | some i =>
    have hi : i < 2 := ix2 (by decide) hx
    by_cases hc : sFd S i = 0
    · simp only [if_pos hc, h.1.2.1 i hi]
      exact ⟨h, trivial⟩
    · simp only [if_neg hc, h.1.2.1 i hi]
      have e := h.1.2.2.1 i hi hc
      refine ⟨h.withM e (h.2.2 i hi hc), ?_⟩
      rw [e]
      rfl
theorem JJ.wipe (h : JJ S T) : JJ (fWipe S).2 (fWipe T).2 ∧ (fWipe T).1 = (fWipe S).1 := by
  obtain ⟨⟨h1, h2, h3, h4, h5⟩, h6⟩ := h
  unfold fWipe
  rw [h4]
  exact ⟨⟨⟨h1, h2, h3, rfl, h5⟩, h6⟩, rfl⟩
theorem JJ.read (h : JJ S T) : JJ (fRead S).2 (fRead T).2 ∧ (fRead T).1 = (fRead S).1 := by
  have h0 := h
  obtain ⟨⟨h1, h2, h3, h4, h5⟩, h6⟩ := h
  have e1 : flt (sPt T) (sPn S) = flt (sPt S) (sPn S) := ftf_o h5 _ _
  have e2 : ∀ pn, wno (sPt T) pn = wno (sPt S) pn := wno_o (fun k => by rw [(h5 k).2]; exact otN_95 _)
  unfold fRead
  rw [h4, e1, e2, h0.n1]
  by_cases hc : flt (sPt S) (sPn S) = -1006
  · simp only [if_pos hc]
    by_cases hd : mn (sM S) + wno (sPt S) (sPn S) ≤ 24
    · simp only [if_pos hd]
      refine ⟨⟨⟨?_, h2, h3, rfl, h5⟩, h6.1.of rfl, h6.2⟩, trivial⟩
      show muRead (sM T) (sPt T) (sPn S) = muM (muRead (sM S) (sPt S) (sPn S))
      rw [h1]
      exact muReadM _ h5 _
    · simp only [if_neg hd]
      exact ⟨h0, trivial⟩
  · simp only [if_neg hc]
    exact ⟨h0, trivial⟩
theorem plen_1 : ∀ V, V < 127 → 33 ≤ V → plen V = 1 := by
  intro V h1 h2
  show (if V = 0 then 0 else if V % 256 < 33 ∨ 126 < V % 256 then 0 else lenc 7 (V / 256) 1) = 1
  rw [if_neg (by omega), if_neg (by omega), show V / 256 = 0 from by omega]
  rfl
theorem pby_1 (V j : Nat) (h1 : V < 127) : pby V (1 - 1 - j) = V := by
  rw [show 1 - 1 - j = 0 from by omega]
  show V / 2 ^ 0 % 256 = V
  omega
theorem fPut_1 {V : Nat} (h1 : V < 127) (h2 : 33 ≤ V) (h3 : sPn S < 60) : fPut S V = (nI (sPn S + 1), withP S (fun k => if k < sPn S then sPt S k else V) (sPn S + 1)) := by
  rw [fPut_s (by rw [plen_1 V h1 h2]; decide) (by rw [plen_1 V h1 h2]; omega), plen_1 V h1 h2]
  have e : ptPut (sPt S) (sPn S) V 1 = fun k => if k < sPn S then sPt S k else V := by
    funext k
    show (if k < sPn S then sPt S k else pby V (1 - 1 - (k - sPn S))) = _
    rw [pby_1 V _ h1]
  rw [e]
theorem JJ.put (h : JJ S T) {V W : Nat} (h1 : V < 127) (h2 : 33 ≤ V) (hW : W = otN V) (hW1 : W < 127) (hW2 : 33 ≤ W) (h3 : sPn S < 60) : JJ (fPut S V).2 (fPut T W).2 := by
  obtain ⟨⟨g1, g2, g3, g4, g5⟩, g6⟩ := h
  rw [fPut_1 h1 h2 h3, fPut_1 hW1 hW2 (by rw [g4]; exact h3), g4]
  refine ⟨⟨g1, g2, g3, rfl, fun k => ?_⟩, g6⟩
  show (if k < sPn S then sPt S k else V) < 256 ∧ (if k < sPn S then sPt T k else W) = otN (if k < sPn S then sPt S k else V)
  split
  · exact g5 k
  · exact ⟨by omega, hW⟩
end ST
