/-! What isRead puts on both pads -/
def Pg (pt : Nat → Nat) (pn c g : Nat) : Prop := smN (fun j => if pt j = 95 then 1 else 0) pn = c ∧ sgk pt pn = g ∧ ∀ j, j < pn → (pt j = 95 → sgk pt j ≠ 0) ∧ (pt j ≠ 95 → sc (nI (pt j)) < 8 ∧ sgk pt j ≠ 10)
def ptA (pt : Nat → Nat) (pn v : Nat) : Nat → Nat := fun k => if k < pn then pt k else v
theorem ptA_lt {pt : Nat → Nat} {pn v k : Nat} (h : k < pn) : ptA pt pn v k = pt k := if_pos h
theorem ptA_eq (pt : Nat → Nat) (pn v : Nat) : ptA pt pn v pn = v := if_neg (Nat.lt_irrefl pn)
theorem sgk_cut {a b : Nat → Nat} : ∀ k, (∀ j, j < k → a j = b j) → sgk a k = sgk b k := by
  intro k
  induction k with
  | zero => intro _; rfl
  | succ k ih =>
    intro h
    show (if a k = 95 then 0 else sgk a k + 1) = (if b k = 95 then 0 else sgk b k + 1)
    rw [h k (by omega), ih (fun j hj => h j (by omega))]
theorem smN_ext {f g : Nat → Nat} : ∀ k, (∀ j, j < k → f j = g j) → smN f k = smN g k := by
  intro k
  induction k with
  | zero => intro _; rfl
  | succ k ih =>
    intro h
    show smN f k + f k = smN g k + g k
    rw [h k (by omega), ih (fun j hj => h j (by omega))]
theorem Pg.zero (pt : Nat → Nat) : Pg pt 0 0 0 := ⟨rfl, rfl, fun j hj => absurd hj (Nat.not_lt_zero j)⟩
theorem Pg.add {pt : Nat → Nat} {pn c g v : Nat} (h : Pg pt pn c g) (h1 : v = 95 → g ≠ 0) (h2 : v ≠ 95 → sc (nI v) < 8 ∧ g ≠ 10) : Pg (ptA pt pn v) (pn + 1) (if v = 95 then c + 1 else c) (if v = 95 then 0 else g + 1) := by
  obtain ⟨a1, a2, a3⟩ := h
  have e1 : sgk (ptA pt pn v) pn = g := (sgk_cut pn (fun j hj => ptA_lt hj)).trans a2
  refine ⟨?_, ?_, fun j hj => ?_⟩
  · show smN (fun j => if ptA pt pn v j = 95 then 1 else 0) pn + (if ptA pt pn v pn = 95 then 1 else 0) = _
    rw [smN_ext pn (g := fun j => if pt j = 95 then 1 else 0) (fun j hj => by rw [ptA_lt hj]), a1, ptA_eq]
    split <;> rfl
  · show (if ptA pt pn v pn = 95 then 0 else sgk (ptA pt pn v) pn + 1) = _
    rw [ptA_eq, e1]
  · rcases Nat.lt_or_ge j pn with q | q
    · rw [ptA_lt q, sgk_cut j (b := pt) (fun i hi => ptA_lt (by omega))]
      exact a3 j q
    · rw [show j = pn from by omega, ptA_eq, e1]
      exact ⟨h1, h2⟩
theorem Pg.wrd {pt : Nat → Nat} {pn : Nat} : ∀ k, k ≤ pn → WrdI pt pn k (smN (fun j => if pt j = 95 then 1 else 0) k) := by
  intro k
  induction k with
  | zero => intro _; exact WrdI.start
  | succ k ih =>
    intro hk
    have h := ih (by omega)
    show WrdI pt pn (k + 1) (smN (fun j => if pt j = 95 then 1 else 0) k + (if pt k = 95 then 1 else 0))
    by_cases hc : pt k = 95
    · rw [if_pos hc]
      exact h.new (by omega) hc
    · rw [if_neg hc]
      exact h.go (by omega) hc
theorem Pg.read {pt : Nat → Nat} {pn c g : Nat} (h : Pg pt pn c g) (hg : g ≠ 0) : flt pt pn = -1006 ∧ wno pt pn = c + 1 := by
  obtain ⟨a1, a2, a3⟩ := h
  refine ⟨ftf_yes pn 0 (fun j _ hj => a3 j (by omega)) (by rw [Nat.zero_add, a2]; exact hg), ?_⟩
  have h := (Pg.wrd (pt := pt) (pn := pn) pn (Nat.le_refl _)).end rfl
  rw [a1] at h
  omega
def RdI (S0 S T : Sg) (c g b : Nat) : Prop := JJ S T ∧ sM S = sM S0 ∧ Pg (sPt S) (sPn S) c g ∧ sPn S ≤ b
section RD
variable {S0 S T : Sg} {c g b : Nat}
theorem RdI.up (h : RdI S0 S T c g b) {b' : Nat} (hb : b ≤ b') : RdI S0 S T c g b' := ⟨h.1, h.2.1, h.2.2.1, Nat.le_trans h.2.2.2 hb⟩
theorem RdI.wipe (h : JJ S T) : RdI S (fWipe S).2 (fWipe T).2 0 0 0 := ⟨h.wipe.1, rfl, Pg.zero _, Nat.le_refl _⟩
theorem RdI.put (h : RdI S0 S T c g b) {V W : Nat} (h1 : V < 127) (h2 : 33 ≤ V) (hW : W = otN V) (hW1 : W < 127) (hW2 : 33 ≤ W) (hb : b < 60) (g1 : V = 95 → g ≠ 0) (g2 : V ≠ 95 → sc (nI V) < 8 ∧ g ≠ 10) : RdI S0 (fPut S V).2 (fPut T W).2 (if V = 95 then c + 1 else c) (if V = 95 then 0 else g + 1) (b + 1) ∧ (fPut S V).1 = nI (sPn S + 1) ∧ (fPut T W).1 = nI (sPn S + 1) := by
  obtain ⟨a1, a2, a3, a4⟩ := h
  have hp : sPn S < 60 := by omega
  have hT : sPn T = sPn S := a1.1.2.2.2.1
  refine ⟨⟨a1.put h1 h2 hW hW1 hW2 hp, ?_, ?_, ?_⟩, ?_, ?_⟩
  · rw [fPut_1 h1 h2 hp]
    exact a2
  · rw [fPut_1 h1 h2 hp]
    exact a3.add g1 g2
  · rw [fPut_1 h1 h2 hp]
    show sPn S + 1 ≤ b + 1
    omega
  · rw [fPut_1 h1 h2 hp]
  · rw [fPut_1 hW1 hW2 (by omega), hT]
theorem RdI.gap (h : RdI S0 S T c g b) (hg : g ≠ 0) (hb : b < 60) : RdI S0 (fPut S 95).2 (fPut T 95).2 (c + 1) 0 (b + 1) ∧ (fPut S 95).1 = nI (sPn S + 1) ∧ (fPut T 95).1 = nI (sPn S + 1) := h.put (V := 95) (W := 95) (by decide) (by decide) (by decide) (by decide) (by decide) hb (fun _ => hg) (fun q => absurd rfl q)
theorem RdI.sign (h : RdI S0 S T c g b) {k : Nat} (hk : k < 34) (h0 : 0 < k) (hg : g < 10) (hb : b < 60) : RdI S0 (fPut S (cdN k)).2 (fPut T (cdN (ohN k))).2 c (g + 1) (b + 1) ∧ (fPut S (cdN k)).1 = nI (sPn S + 1) ∧ (fPut T (cdN (ohN k))).1 = nI (sPn S + 1) := by
  obtain ⟨q1, q2, q3, q4, q5, q6, q7⟩ := cdN_r k hk h0
  obtain ⟨p1, p2, -⟩ := cdN_r (ohN k) q7 q6
  have h1 := h.put q2 q1 q5 p2 p1 hb (fun q => absurd q q3) (fun _ => ⟨q4, by omega⟩)
  rw [if_neg q3, if_neg q3] at h1
  exact h1
theorem RdI.read (h : RdI S0 S T c g b) (hg : g ≠ 0) : JJ (fRead S).2 (fRead T).2 ∧ (fRead T).1 = (fRead S).1 ∧ (fRead S).1 = if mn (sM S0) + (c + 1) ≤ 24 then nI (mn (sM S0) + (c + 1)) else -1004 := by
  obtain ⟨a1, a2, a3, a4⟩ := h
  obtain ⟨b1, b2⟩ := a3.read hg
  refine ⟨a1.read.1, a1.read.2, ?_⟩
  unfold fRead
  rw [if_pos b1, b2, a2]
  split <;> rfl
end RD
theorem XI.pn {κ : Kt} {z : Nat} {st : St} {S : Sg} (h : XI κ z st S) : sPn S ≤ 60 := by
  obtain ⟨t, -, h1⟩ := h.2.2.2.2.2.1
  exact h1.1
theorem XI.ok {κ : Kt} {z : Nat} {st : St} {S : Sg} (h : XI κ z st S) : Ok (sM S) := by
  obtain ⟨f1, f2, f3, f4, f5, f6, -, h2⟩ := h.2.1
  exact h2.ok
def rsz (x y : Int32) (k : Nat) : Int32 := (x >>> (nI (2 * k) &&& 31)) ^^^ (y >>> (nI (3 * k) &&& 31))
