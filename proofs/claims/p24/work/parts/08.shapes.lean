/-! The objects as blocks of cells, and what they say of a text -/
def bSh (κ : Kt) (b : Nat) (f1 f2 f3 f4 f5 f6 : Nat → Int32) (w : Int32) : List va_E := [.inr (3, [.ref (ad κ (b + 1)), .ref (ad κ (b + 2)), .ref (ad κ (b + 3)), .ref (ad κ (b + 4)), .ref (ad κ (b + 5)), .ref (ad κ (b + 6)), .int w]), .inl (kI κ, 4, .inl f1), .inl (kI κ, 8, .inl f2), .inl (kI κ, 8, .inl f3), .inl (kI κ, 8, .inl f4), .inl (kC κ, 240, .inl f5), .inl (kI κ, 24, .inl f6)]
def bLy (κ : Kt) (b : Nat) (p l r : Nat → Int32) (wn me sp lo : Int32) (s : Nat → Int32) (ln : Int32) (lf nx : Nat → Int32) : List va_E := [.inr (1, [.ref (ad κ (b + 1)), .ref (ad κ (b + 2)), .ref (ad κ (b + 3)), .int wn, .int me, .int sp, .int lo, .ref (ad κ (b + 4)), .int ln, .ref (ad κ (b + 5)), .ref (ad κ (b + 6))]), .inl (kI κ, 25, .inl p), .inl (kI κ, 24, .inl l), .inl (kI κ, 24, .inl r), .inl (kI κ, 25, .inl s), .inl (kI κ, 25, .inl lf), .inl (kI κ, 24, .inl nx)]
def bPd (κ : Kt) (b : Nat) (t : Nat → Int32) (ln : Int32) : List va_E := [.inr (2, [.ref (ad κ (b + 1)), .int ln]), .inl (kC κ, 60, .inl t)]
def bHs (κ : Kt) (b : Nat) (g : Nat → Option Nat) (nx sz : Int32) : List va_E := [.inr (0, [.ref (ad κ (b + 1)), .int nx, .int sz]), .inl (kS κ, 6, .inr (.inr (.inr (.inr g))))]
def bXo (κ : Kt) : List va_E := [.inr (4, [.ref (ad κ 1), .ref (ad κ 8), .ref (ad κ 15), .ref (ad κ 22), .ref (ad κ 29), .ref (ad κ 31), .ref (ad κ 75), .ref (ad κ 90)])]
def bA (κ : Kt) (N : Nat) (f : Nat → Int32) : List va_E := [.inl (kI κ, N, .inl f)]
def bZ (κ : Kt) (N : Nat) (f : Nat → Int32) : List va_E := [.inl (kZ κ, N, .inl f)]
def bQ (κ : Kt) (N : Nat) (g : Nat → Option Nat) : List va_E := [.inl (kS κ, N, .inr (.inr (.inr (.inr g))))]
/-- the reference's own object: its arrays stand behind it, 92 to 105 -/
def bMo (κ : Kt) (hl ln tl rd : Int32) : List va_E := [.inr (5, [.ref (ad κ 92), .ref (ad κ 93), .ref (ad κ 94), .int hl, .ref (ad κ 95), .ref (ad κ 96), .ref (ad κ 97), .ref (ad κ 98), .ref (ad κ 99), .ref (ad κ 100), .int ln, .ref (ad κ 101), .ref (ad κ 102), .ref (ad κ 103), .int tl, .ref (ad κ 104), .ref (ad κ 105), .int rd])]
/-- a sheet says the text μ -/
def Rp (μ : Mu) (f1 f2 f3 f4 f5 f6 : Nat → Int32) : Prop := Ok μ ∧ True ∧ (∀ k, k < 4 → f1 k = mv μ 0 k) ∧ (∀ k, k < 8 → f2 k = mv μ 1 k) ∧ (∀ k, k < 8 → f3 k = mv μ 2 k) ∧ (∀ k, k < 8 → f4 k = mv μ 3 k) ∧ (∀ k, fits .char (.int (f5 k)) = true) ∧ (∀ i, i < mn μ → f6 i = nI (ml μ i)) ∧ (∀ i, i < mn μ → ∀ j, j < ml μ i → f5 (i * 10 + j) = mg μ i j)
/-- a row of the reference's numbers says the text μ -/
def Rm (μ : Mu) (a : Nat → Int32) : Prop := Ok μ ∧ a 4 = nI (mn μ) ∧ (∀ k, k < 4 → a k = mv μ 0 k) ∧ (∀ k, k < 8 → a (5 + k) = mv μ 1 k) ∧ (∀ k, k < 8 → a (13 + k) = mv μ 2 k) ∧ (∀ k, k < 8 → a (21 + k) = mv μ 3 k) ∧ (∀ i, i < mn μ → a (29 + 11 * i) = nI (ml μ i)) ∧ (∀ i, i < mn μ → ∀ j, j < ml μ i → a (29 + 11 * i + 1 + j) = mg μ i j)
section RP
variable {μ : Mu} {f1 f2 f3 f4 f5 f6 : Nat → Int32}
theorem Rp.ok (h : Rp μ f1 f2 f3 f4 f5 f6) : Ok μ := h.1
theorem Rp.le (h : Rp μ f1 f2 f3 f4 f5 f6) : mn μ ≤ 24 := h.1.1
theorem Rp.set (h : Rp μ f1 f2 f3 f4 f5 f6) {k : Nat} (hk : k < 4) : f1 k = mv μ 0 k := h.2.2.1 k hk
theorem Rp.wid (h : Rp μ f1 f2 f3 f4 f5 f6) {k : Nat} (hk : k < 8) : f2 k = mv μ 1 k := h.2.2.2.1 k hk
theorem Rp.lef (h : Rp μ f1 f2 f3 f4 f5 f6) {k : Nat} (hk : k < 8) : f3 k = mv μ 2 k := h.2.2.2.2.1 k hk
theorem Rp.rig (h : Rp μ f1 f2 f3 f4 f5 f6) {k : Nat} (hk : k < 8) : f4 k = mv μ 3 k := h.2.2.2.2.2.1 k hk
theorem Rp.fit (h : Rp μ f1 f2 f3 f4 f5 f6) (k : Nat) : fits .char (.int (f5 k)) = true := h.2.2.2.2.2.2.1 k
theorem Rp.len (h : Rp μ f1 f2 f3 f4 f5 f6) {i : Nat} (hi : i < mn μ) : f6 i = nI (ml μ i) := h.2.2.2.2.2.2.2.1 i hi
theorem Rp.sig (h : Rp μ f1 f2 f3 f4 f5 f6) {i j : Nat} (hi : i < mn μ) (hj : j < ml μ i) : f5 (i * 10 + j) = mg μ i j := h.2.2.2.2.2.2.2.2 i hi j hj
theorem Ok.len (h : Ok μ) {i : Nat} (hi : i < mn μ) : 1 ≤ ml μ i ∧ ml μ i ≤ 10 := ⟨(h.2 i hi).1, (h.2 i hi).2.1⟩
theorem Ok.so (h : Ok μ) {i j : Nat} (hi : i < mn μ) (hj : j < ml μ i) : so μ i j < 8 := (h.2 i hi).2.2 j hj
end RP
/-- the sheet at b says the text μ -/
def ShP (κ : Kt) (z : Nat) (st : St) (b : Nat) (μ : Mu) : Prop := ∃ f1 f2 f3 f4 f5 f6 : Nat → Int32, Ob z st b (bSh κ b f1 f2 f3 f4 f5 f6 (nI (mn μ))) ∧ Rp μ f1 f2 f3 f4 f5 f6
theorem ShP.fr {κ : Kt} {z : Nat} {st st' : St} {b : Nat} {μ : Mu} {A : Nat → Prop} (h : ShP κ z st b μ) (hF : Fr A st st') (hA : ∀ q, b ≤ q → q < b + 7 → ¬ A q) : ShP κ z st' b μ := by
  obtain ⟨f1, f2, f3, f4, f5, f6, h1, h2⟩ := h
  exact ⟨f1, f2, f3, f4, f5, f6, hF.ob h1 hA, h2⟩
/-- the text without a word; with two words exchanged -/
def muDrop (μ : Mu) (i : Nat) : Mu := (μ.1, mn μ - 1, fun w => if w < i then ml μ w else ml μ (w + 1), fun w j => if w < i then mg μ w j else mg μ (w + 1) j)
def muSwap (μ : Mu) (a b : Nat) : Mu := (μ.1, mn μ, fun w => if w = a then ml μ b else if w = b then ml μ a else ml μ w, fun w j => if w = a then mg μ b j else if w = b then mg μ a j else mg μ w j)
theorem muDrop_ok {μ : Mu} {i : Nat} (h : Ok μ) (hi : i < mn μ) : Ok (muDrop μ i) := by
  refine ⟨by show mn μ - 1 ≤ 24; have := h.1; omega, fun w hw => ?_⟩
  have hw : w < mn μ - 1 := hw
  by_cases hc : w < i
  · have := h.2 w (by omega)
    simpa [muDrop, ml, mg, so, hc] using this
  · have := h.2 (w + 1) (by omega)
    simpa [muDrop, ml, mg, so, hc] using this
theorem muSwap_ok {μ : Mu} {a b : Nat} (h : Ok μ) (ha : a < mn μ) (hb : b < mn μ) : Ok (muSwap μ a b) := by
  refine ⟨h.1, fun w hw => ?_⟩
  have hw : w < mn μ := hw
  by_cases hc : w = a
  · have := h.2 b hb
    simpa [muSwap, ml, mg, so, hc] using this
  · by_cases hc2 : w = b
    · have := h.2 a ha
      subst hc2
      simpa [muSwap, ml, mg, so, hc] using this
    · have := h.2 w hw
      simpa [muSwap, ml, mg, so, hc, hc2] using this
