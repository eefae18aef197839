/-! What the reference's numbers say -/
theorem Rm.ok {μ : Mu} {a : Nat → Int32} (h : Rm μ a) : Ok μ := h.1
theorem Rm.le {μ : Mu} {a : Nat → Int32} (h : Rm μ a) : mn μ ≤ 24 := h.1.1
theorem Rm.n {μ : Mu} {a : Nat → Int32} (h : Rm μ a) : a 4 = nI (mn μ) := h.2.1
theorem Rm.set {μ : Mu} {a : Nat → Int32} (h : Rm μ a) {k : Nat} (hk : k < 4) : a k = mv μ 0 k := h.2.2.1 k hk
theorem Rm.wid {μ : Mu} {a : Nat → Int32} (h : Rm μ a) {k : Nat} (hk : k < 8) : a (5 + k) = mv μ 1 k := h.2.2.2.1 k hk
theorem Rm.lef {μ : Mu} {a : Nat → Int32} (h : Rm μ a) {k : Nat} (hk : k < 8) : a (13 + k) = mv μ 2 k := h.2.2.2.2.1 k hk
theorem Rm.rig {μ : Mu} {a : Nat → Int32} (h : Rm μ a) {k : Nat} (hk : k < 8) : a (21 + k) = mv μ 3 k := h.2.2.2.2.2.1 k hk
theorem Rm.len {μ : Mu} {a : Nat → Int32} (h : Rm μ a) {i : Nat} (hi : i < mn μ) : a (29 + 11 * i) = nI (ml μ i) := h.2.2.2.2.2.2.1 i hi
theorem Rm.sig {μ : Mu} {a : Nat → Int32} (h : Rm μ a) {i j : Nat} (hi : i < mn μ) (hj : j < ml μ i) : a (29 + 11 * i + 1 + j) = mg μ i j := h.2.2.2.2.2.2.2 i hi j hj
theorem Rm.ext {μ : Mu} {a a' : Nat → Int32} (h : Rm μ a) (e : ∀ j, j < 293 → a' j = a j) : Rm μ a' := by
  have h24 := h.le
  refine ⟨h.1, (e 4 (by omega)).trans h.n, fun k hk => (e k (by omega)).trans (h.set hk), fun k hk => (e _ (by omega)).trans (h.wid hk), fun k hk => (e _ (by omega)).trans (h.lef hk), fun k hk => (e _ (by omega)).trans (h.rig hk), fun i hi => (e _ (by omega)).trans (h.len hi), fun i hi j hj => ?_⟩
  have h10 := (h.ok.len hi).2
  exact (e _ (by omega)).trans (h.sig hi hj)
def inL (a b c : Int64) : Int32 := if b ≤ a ∧ a ≤ c then nI 1 else nI 0
theorem in64 (x y : Int32) : x.toInt64 ≤ y.toInt64 ↔ x ≤ y := by
  rw [Int64.le_iff_toInt_le, Int32.toInt_toInt64, Int32.toInt_toInt64]
  exact Int32.le_iff_toInt_le.symm
theorem inL_32 (x l h : Int32) {a b : Int64} (ha : l.toInt64 = a) (hb : h.toInt64 = b) : inL x.toInt64 a b = if l ≤ x ∧ x ≤ h then nI 1 else nI 0 := by
  subst ha hb
  unfold inL
  by_cases c : l ≤ x ∧ x ≤ h
  · rw [if_pos c, if_pos ⟨(in64 _ _).mpr c.1, (in64 _ _).mpr c.2⟩]
  · rw [if_neg c, if_neg (fun q => c ⟨(in64 _ _).mp q.1, (in64 _ _).mp q.2⟩)]
theorem le_pred {x : Int32} {n : Nat} (hn : n < 2 ^ 31) : x ≤ nI n - 1 ↔ x < nI n := by
  have e : (nI n - 1 : Int32).toInt = (n : Int) - 1 := by
    rw [Int32.toInt_sub, nI_toInt (by omega), show (1 : Int32).toInt = 1 from rfl]
    rw [Int.bmod_eq_of_le] <;> omega
  rw [fa_le, fa_lt, e, nI_toInt (by omega)]
  omega
theorem bixE (x : Int32) (n : Nat) : bix x n = if 0 ≤ x ∧ x < nI n then nI 1 else nI 0 := by
  unfold bix ixv
  by_cases c : 0 ≤ x ∧ x < nI n
  · rw [if_pos c, if_pos c]
  · rw [if_neg c, if_neg c]
theorem inL_bix {x : Int32} {n : Nat} {a b : Int64} (hn : n < 2 ^ 31) (ha : (0 : Int32).toInt64 = a) (hb : (nI n - 1).toInt64 = b) : inL x.toInt64 a b = bix x n := by
  rw [inL_32 x 0 (nI n - 1) ha hb, bixE]
  by_cases c : 0 ≤ x ∧ x < nI n
  · rw [if_pos c, if_pos ⟨c.1, (le_pred hn).mpr c.2⟩]
  · rw [if_neg c, if_neg (fun q => c ⟨q.1, (le_pred hn).mp q.2⟩)]
theorem pred64 {n : Nat} (hn : n < 2 ^ 31) : (nI n - 1).toInt64 = (nI n).toInt64 - 1 := by
  apply Int64.toInt_inj.mp
  rw [Int32.toInt_toInt64, Int64.toInt_sub, Int32.toInt_toInt64, Int32.toInt_sub, nI_toInt (by omega), show (1 : Int32).toInt = 1 from rfl, show (1 : Int64).toInt = 1 from rfl]
  rw [Int.bmod_eq_of_le (by omega) (by omega), Int.bmod_eq_of_le (by omega) (by omega)]
theorem inL_pred {x : Int32} {n : Nat} (hn : n < 2 ^ 31) : inL x.toInt64 0 ((nI n).toInt64 - 1) = bix x n := inL_bix hn rfl (pred64 hn)
/-- words measured -/
def MeW (μ : Mu) (p l r : Nat → Int32) : Prop := (∀ j, j ≤ mn μ → p j = ah μ j) ∧ (∀ w, w < mn μ → l w = lh μ w) ∧ ∀ w, w < mn μ → r w = rh μ w
theorem pl_ah (μ : Mu) : ∀ k, pl μ k = ah μ k + nI k * mv μ 0 1 := by
  intro k
  induction k with
  | zero =>
    show nI 0 = nI 0 + nI 0 * mv μ 0 1
    rw [show nI 0 = (0 : Int32) from rfl]
    grind
  | succ k ih =>
    show pl μ k + wd μ k + mv μ 0 1 = ah μ k + wd μ k + nI (k + 1) * mv μ 0 1
    rw [ih, show nI (k + 1) = nI k + nI 1 from (nI_add k 1).symm, show nI 1 = (1 : Int32) from rfl]
    grind
theorem wl_ref (μ : Mu) (i j : Nat) : (nI j - nI i) * mv μ 0 1 + ah μ (j + 1) - ah μ i = wl μ i j := by
  unfold wl
  rw [pl_ah, pl_ah, show nI (j + 1) = nI j + nI 1 from (nI_add j 1).symm, show nI 1 = (1 : Int32) from rfl]
  grind
theorem Rm_set {μ : Mu} {a : Nat → Int32} {k : Nat} {y : Int32} (h : Rm μ a) (hk : k < 4) : Rm (muSet μ k y) (upd a k y) := by
  refine ⟨h.1, (pk_un (by omega)).trans h.n, fun j hj => ?_, fun j hj => ?_, fun j hj => ?_, fun j hj => ?_, fun i hi => (pk_un (by omega)).trans (h.len hi), fun i hi j hj => (pk_un (by omega)).trans (h.sig hi hj)⟩
  · show _ = if 0 = 0 ∧ j = k then y else mv μ 0 j
    by_cases hc : j = k
    · subst hc
      rw [pk_us, if_pos ⟨rfl, rfl⟩]
    · rw [pk_un hc, if_neg (fun q => hc q.2)]
      exact h.set hj
  · exact (pk_un (by omega)).trans (h.wid hj)
  · exact (pk_un (by omega)).trans (h.lef hj)
  · exact (pk_un (by omega)).trans (h.rig hj)
theorem Rm_sort {μ : Mu} {a : Nat → Int32} {q : Nat} {w l r : Int32} (h : Rm μ a) (hq : q < 8) : Rm (muSort μ q w l r) (upd (upd (upd a (5 + q) w) (13 + q) l) (21 + q) r) := by
  have nn : ∀ j, j ≠ 5 + q → j ≠ 13 + q → j ≠ 21 + q → (upd (upd (upd a (5 + q) w) (13 + q) l) (21 + q) r) j = a j := fun j h1 h2 h3 => by rw [pk_un h3, pk_un h2, pk_un h1]
  refine ⟨h.1, (nn 4 (by omega) (by omega) (by omega)).trans h.n, fun j hj => ?_, fun j hj => ?_, fun j hj => ?_, fun j hj => ?_, fun i hi => (nn _ (by omega) (by omega) (by omega)).trans (h.len hi), fun i hi j hj => (nn _ (by omega) (by omega) (by omega)).trans (h.sig hi hj)⟩
  · show _ = if j = q then (mv μ 0 j) else mv μ 0 j
    rw [nn j (by omega) (by omega) (by omega), ite_self]
    exact h.set hj
  · show _ = if j = q then w else mv μ 1 j
    by_cases hc : j = q
    · subst hc
      rw [if_pos rfl, pk_un (by omega), pk_un (by omega), pk_us]
    · rw [if_neg hc, nn _ (by omega) (by omega) (by omega)]
      exact h.wid hj
  · show _ = if j = q then l else mv μ 2 j
    by_cases hc : j = q
    · subst hc
      rw [if_pos rfl, pk_un (by omega), pk_us]
    · rw [if_neg hc, nn _ (by omega) (by omega) (by omega)]
      exact h.lef hj
  · show _ = if j = q then r else mv μ 3 j
    by_cases hc : j = q
    · subst hc
      rw [if_pos rfl, pk_us]
    · rw [if_neg hc, nn _ (by omega) (by omega) (by omega)]
      exact h.rig hj
theorem Rm_right {μ : Mu} {a : Nat → Int32} {q : Nat} {y : Int32} (h : Rm μ a) (hq : q < 8) : Rm (muRight μ q y) (upd a (21 + q) y) := by
  refine ⟨h.1, (pk_un (by omega)).trans h.n, fun j hj => ?_, fun j hj => ?_, fun j hj => ?_, fun j hj => ?_, fun i hi => (pk_un (by omega)).trans (h.len hi), fun i hi j hj => (pk_un (by omega)).trans (h.sig hi hj)⟩
  · show _ = if 0 = 3 ∧ j = q then y else mv μ 0 j
    rw [if_neg (fun q => absurd q.1 (by decide))]
    exact (pk_un (by omega)).trans (h.set hj)
  · show _ = if 1 = 3 ∧ j = q then y else mv μ 1 j
    rw [if_neg (fun q => absurd q.1 (by decide))]
    exact (pk_un (by omega)).trans (h.wid hj)
  · show _ = if 2 = 3 ∧ j = q then y else mv μ 2 j
    rw [if_neg (fun q => absurd q.1 (by decide))]
    exact (pk_un (by omega)).trans (h.lef hj)
  · show _ = if 3 = 3 ∧ j = q then y else mv μ 3 j
    by_cases hc : j = q
    · subst hc
      rw [pk_us, if_pos ⟨rfl, rfl⟩]
    · rw [pk_un (by omega), if_neg (fun q => hc q.2)]
      exact h.rig hj
/-- a row with other words: what stands before 29 but 4 is kept -/
theorem Rm.head {μ ν : Mu} {a a' : Nat → Int32} (h : Rm μ a) (ho : Ok ν) (hv : mv ν = mv μ) (e : ∀ j, j < 29 → j ≠ 4 → a' j = a j) (h4 : a' 4 = nI (mn ν)) (h5 : ∀ i, i < mn ν → a' (29 + 11 * i) = nI (ml ν i)) (h6 : ∀ i, i < mn ν → ∀ j, j < ml ν i → a' (29 + 11 * i + 1 + j) = mg ν i j) : Rm ν a' :=
  ⟨ho, h4, fun k hk => (e k (by omega) (by omega)).trans (by rw [hv]; exact h.set hk), fun k hk => (e _ (by omega) (by omega)).trans (by rw [hv]; exact h.wid hk), fun k hk => (e _ (by omega) (by omega)).trans (by rw [hv]; exact h.lef hk), fun k hk => (e _ (by omega) (by omega)).trans (by rw [hv]; exact h.rig hk), h5, h6⟩
theorem Rm_clear {μ : Mu} {a a' : Nat → Int32} (h : Rm μ a) (e : ∀ j, j < 29 → a' j = a j) : Rm (muClear μ) (upd a' 4 (nI 0)) := h.head ⟨Nat.zero_le _, fun w hw => absurd hw (Nat.not_lt_zero w)⟩ rfl (fun j h1 h2 => (pk_un h2).trans (e j h1)) pk_us (fun i hi => absurd hi (Nat.not_lt_zero i)) (fun i hi => absurd hi (Nat.not_lt_zero i))
theorem Rm_drop {μ : Mu} {a a' : Nat → Int32} {i : Nat} (h : Rm μ a) (hi : i < mn μ) (e1 : ∀ j, j < 29 + 11 * i → a' j = a j) (e2 : ∀ j, 29 + 11 * i ≤ j → j < 282 → a' j = a (j + 11)) : Rm (muDrop μ i) (upd a' 4 (nI (mn μ - 1))) := by
  have h24 := h.le
  refine h.head (muDrop_ok h.ok hi) rfl (fun j h1 h2 => (pk_un h2).trans (e1 j (by omega))) pk_us (fun w hw => ?_) (fun w hw j hj => ?_)
  · have hw : w < mn μ - 1 := hw
    rw [pk_un (by omega)]
    show _ = nI (if w < i then ml μ w else ml μ (w + 1))
    by_cases hc : w < i
    · rw [if_pos hc, e1 _ (by omega)]
      exact h.len (by omega)
    · rw [if_neg hc, e2 _ (by omega) (by omega), show 29 + 11 * w + 11 = 29 + 11 * (w + 1) from by omega]
      exact h.len (by omega)
  · have hw : w < mn μ - 1 := hw
    rw [pk_un (by omega)]
    have hj : j < (if w < i then ml μ w else ml μ (w + 1)) := hj
    show _ = (if w < i then mg μ w j else mg μ (w + 1) j)
    by_cases hc : w < i
    · rw [if_pos hc] at hj ⊢
      have h10 := (h.ok.len (show w < mn μ from by omega)).2
      rw [e1 _ (by omega)]
      exact h.sig (by omega) hj
    · rw [if_neg hc] at hj ⊢
      have h10 := (h.ok.len (show w + 1 < mn μ from by omega)).2
      rw [e2 _ (by omega) (by omega), show 29 + 11 * w + 1 + j + 11 = 29 + 11 * (w + 1) + 1 + j from by omega]
      exact h.sig (by omega) hj
theorem Rm_swap {μ : Mu} {a a' : Nat → Int32} {i j : Nat} (h : Rm μ a) (hi : i < mn μ) (hj : j < mn μ) (e0 : ∀ k, k < 29 → a' k = a k) (e1 : ∀ w q, w < 24 → q < 11 → a' (29 + 11 * w + q) = a (29 + 11 * (if w = i then j else if w = j then i else w) + q)) : Rm (muSwap μ i j) a' := by
  have h24 := h.le
  have key : ∀ w, w < mn μ → (if w = i then j else if w = j then i else w) < mn μ := fun w hw => by
    by_cases c : w = i
    · rw [if_pos c]; exact hj
    · rw [if_neg c]
      by_cases c2 : w = j
      · rw [if_pos c2]; exact hi
      · rw [if_neg c2]; exact hw
  refine h.head (muSwap_ok h.ok hi hj) rfl (fun k h1 h2 => e0 k h1) ((e0 4 (by omega)).trans h.n) (fun w hw => ?_) (fun w hw q hq => ?_)
  · have hw : w < mn μ := hw
    have := e1 w 0 (by omega) (by omega)
    rw [Nat.add_zero, Nat.add_zero] at this
    rw [this]
    refine (h.len (key w hw)).trans ?_
    show _ = nI (if w = i then ml μ j else if w = j then ml μ i else ml μ w)
    by_cases c : w = i
    · rw [if_pos c, if_pos c]
    · rw [if_neg c, if_neg c]
      by_cases c2 : w = j
      · rw [if_pos c2, if_pos c2]
      · rw [if_neg c2, if_neg c2]
  · have hw : w < mn μ := hw
    have hq : q < (if w = i then ml μ j else if w = j then ml μ i else ml μ w) := hq
    have hq2 : q < ml μ (if w = i then j else if w = j then i else w) := by
      split at hq
      · next c => rw [if_pos c]; exact hq
      · next c =>
        rw [if_neg c]
        split at hq
        · next c2 => rw [if_pos c2]; exact hq
        · next c2 => rw [if_neg c2]; exact hq
    have h10 := (h.ok.len (key w hw)).2
    have := e1 w (1 + q) (by omega) (by omega)
    rw [← Nat.add_assoc, ← Nat.add_assoc] at this
    rw [this]
    refine (h.sig (key w hw) hq2).trans ?_
    show _ = (if w = i then mg μ j q else if w = j then mg μ i q else mg μ w q)
    by_cases c : w = i
    · rw [if_pos c, if_pos c]
    · rw [if_neg c, if_neg c]
      by_cases c2 : w = j
      · rw [if_pos c2, if_pos c2]
      · rw [if_neg c2, if_neg c2]
/-- the reference's store, in pieces -/
def AnyA (κ : Kt) (z : Nat) (st : St) (b N : Nat) : Prop := ∃ f, Ob z st b (bA κ N f)
def HmP (κ : Kt) (z : Nat) (st : St) (hs : Nat → Mu) (n : Nat) : Prop := ∃ h, Ob z st 94 (bA κ 1758 h) ∧ n ≤ 6 ∧ ∀ k, k < n → Rm (hs k) (fun j => h (293 * k + j))
def SmP (κ : Kt) (z : Nat) (st : St) (sl : Nat → Mu) (fd : Nat → Nat) : Prop := ∃ s f, Ob z st 95 (bA κ 586 s) ∧ Ob z st 96 (bA κ 2 f) ∧ ∀ i, i < 2 → f i = nI (fd i) ∧ fd i ≤ 1 ∧ (fd i = 1 → Rm (sl i) (fun j => s (293 * i + j)))
def ScP (κ : Kt) (z : Nat) (st : St) : Prop := ∃ p l r s lf tk, Ob z st 97 (bA κ 25 p) ∧ Ob z st 98 (bA κ 24 l) ∧ Ob z st 99 (bA κ 24 r) ∧ Ob z st 100 (bA κ 25 s) ∧ Ob z st 101 (bA κ 25 lf) ∧ Ob z st 102 (bA κ 25 tk) ∧ p 0 = nI 0
def TmP (κ : Kt) (z : Nat) (st : St) (pt : Nat → Nat) (pn : Nat) : Prop := ∃ t, Ob z st 103 (bA κ 60 t) ∧ pn ≤ 60 ∧ ∀ k, k < pn → t k = nI (pt k) ∧ 33 ≤ pt k ∧ pt k ≤ 126
def AlP (κ : Kt) (z : Nat) (st : St) (μ : Mu) : Prop := ∃ a, Ob z st 92 (bA κ 293 a) ∧ Rm μ a
def MI (κ : Kt) (z : Nat) (st : St) (S : Sg) : Prop := (∃ ln rd, Ob z st 91 (bMo κ (nI (sHn S)) ln (nI (sPn S)) rd)) ∧ AlP κ z st (sM S) ∧ AnyA κ z st 93 293 ∧ HmP κ z st (sH S) (sHn S) ∧ SmP κ z st (sSl S) (sFd S) ∧ ScP κ z st ∧ TmP κ z st (sPt S) (sPn S) ∧ AnyA κ z st 104 31 ∧ AnyA κ z st 105 31
/-- broken: lines as nxt says -/
def MbP (κ : Kt) (z : Nat) (st : St) (μ : Mu) (nxt : Nat → Nat) : Prop := ∃ p l r s lf tk, Ob z st 97 (bA κ 25 p) ∧ Ob z st 98 (bA κ 24 l) ∧ Ob z st 99 (bA κ 24 r) ∧ Ob z st 100 (bA κ 25 s) ∧ Ob z st 101 (bA κ 25 lf) ∧ Ob z st 102 (bA κ 25 tk) ∧ MeW μ p l r ∧ LyB nxt (mn μ) (lno nxt (mn μ)) s
section FRM
variable {κ : Kt} {z : Nat} {st st' : St} {A : Nat → Prop}
theorem obA {b N : Nat} {f : Nat → Int32} (h : Ob z st b (bA κ N f)) (hF : Fr A st st') (hA : ¬ A b) : Ob z st' b (bA κ N f) := hF.ob h (fun q (a : b ≤ q) (c : q < b + 1) => by rw [show q = b from by omega]; exact hA)
theorem AnyA.fr {b N : Nat} (h : AnyA κ z st b N) (hF : Fr A st st') (hA : ∀ q, b ≤ q → q < b + 1 → ¬ A q) : AnyA κ z st' b N := by
  obtain ⟨f, h⟩ := h
  exact ⟨f, obA h hF (hA b (by omega) (by omega))⟩
theorem AlP.fr {μ : Mu} (h : AlP κ z st μ) (hF : Fr A st st') (hA : ∀ q, 92 ≤ q → q < 93 → ¬ A q) : AlP κ z st' μ := by
  obtain ⟨f, h, h2⟩ := h
  exact ⟨f, obA h hF (hA _ (by omega) (by omega)), h2⟩
theorem HmP.fr {hs : Nat → Mu} {n : Nat} (h : HmP κ z st hs n) (hF : Fr A st st') (hA : ∀ q, 94 ≤ q → q < 95 → ¬ A q) : HmP κ z st' hs n := by
  obtain ⟨f, h, h2⟩ := h
  exact ⟨f, obA h hF (hA _ (by omega) (by omega)), h2⟩
theorem SmP.fr {sl : Nat → Mu} {fd : Nat → Nat} (h : SmP κ z st sl fd) (hF : Fr A st st') (hA : ∀ q, 95 ≤ q → q < 97 → ¬ A q) : SmP κ z st' sl fd := by
  obtain ⟨s, f, h, h1, h2⟩ := h
  exact ⟨s, f, obA h hF (hA _ (by omega) (by omega)), obA h1 hF (hA _ (by omega) (by omega)), h2⟩
theorem ScP.fr (h : ScP κ z st) (hF : Fr A st st') (hA : ∀ q, 97 ≤ q → q < 103 → ¬ A q) : ScP κ z st' := by
  obtain ⟨p, l, r, s, lf, tk, h1, h2, h3, h4, h5, h6, h7⟩ := h
  exact ⟨p, l, r, s, lf, tk, obA h1 hF (hA _ (by omega) (by omega)), obA h2 hF (hA _ (by omega) (by omega)), obA h3 hF (hA _ (by omega) (by omega)), obA h4 hF (hA _ (by omega) (by omega)), obA h5 hF (hA _ (by omega) (by omega)), obA h6 hF (hA _ (by omega) (by omega)), h7⟩
theorem MbP.fr {μ : Mu} {nxt : Nat → Nat} (h : MbP κ z st μ nxt) (hF : Fr A st st') (hA : ∀ q, 97 ≤ q → q < 103 → ¬ A q) : MbP κ z st' μ nxt := by
  obtain ⟨p, l, r, s, lf, tk, h1, h2, h3, h4, h5, h6, h7⟩ := h
  exact ⟨p, l, r, s, lf, tk, obA h1 hF (hA _ (by omega) (by omega)), obA h2 hF (hA _ (by omega) (by omega)), obA h3 hF (hA _ (by omega) (by omega)), obA h4 hF (hA _ (by omega) (by omega)), obA h5 hF (hA _ (by omega) (by omega)), obA h6 hF (hA _ (by omega) (by omega)), h7⟩
theorem MbP.sc {μ : Mu} {nxt : Nat → Nat} (h : MbP κ z st μ nxt) : ScP κ z st := by
  obtain ⟨p, l, r, s, lf, tk, h1, h2, h3, h4, h5, h6, h7, h8⟩ := h
  exact ⟨p, l, r, s, lf, tk, h1, h2, h3, h4, h5, h6, h7.1 0 (Nat.zero_le _)⟩
theorem TmP.fr {pt : Nat → Nat} {pn : Nat} (h : TmP κ z st pt pn) (hF : Fr A st st') (hA : ∀ q, 103 ≤ q → q < 104 → ¬ A q) : TmP κ z st' pt pn := by
  obtain ⟨f, h, h2⟩ := h
  exact ⟨f, obA h hF (hA _ (by omega) (by omega)), h2⟩
theorem MI.fr {S : Sg} (h : MI κ z st S) (hF : Fr A st st') (hA : ∀ q, 91 ≤ q → q < 106 → ¬ A q) : MI κ z st' S := by
  obtain ⟨⟨ln, rd, h1⟩, h2, h3, h4, h5, h6, h7, h8, h9⟩ := h
  exact ⟨⟨ln, rd, hF.ob h1 (fun q (a : 91 ≤ q) (c : q < 91 + 1) => hA q a (by omega))⟩, h2.fr hF (fun q a c => hA q (by omega) (by omega)), h3.fr hF (fun q a c => hA q (by omega) (by omega)), h4.fr hF (fun q a c => hA q (by omega) (by omega)), h5.fr hF (fun q a c => hA q (by omega) (by omega)), h6.fr hF (fun q a c => hA q (by omega) (by omega)), h7.fr hF (fun q a c => hA q (by omega) (by omega)), h8.fr hF (fun q a c => hA q (by omega) (by omega)), h9.fr hF (fun q a c => hA q (by omega) (by omega))⟩
end FRM
def PM (κ : Kt) (z : Nat) (st0 : St) (v : Int32 × Sg) : Option Value → St → Prop := PI (fun r u => r = v.1 ∧ MI κ z u v.2 ∧ Fr (fun q : Nat => 91 ≤ q ∧ q < 106) st0 u)
theorem PM_ret {κ : Kt} {z : Nat} {st0 u : St} {v : Int32 × Sg} {r : Int32} {S' : Sg} (hf : v = (r, S')) (hX : MI κ z u S') (hF : Fr (fun q : Nat => 91 ≤ q ∧ q < 106) st0 u) : PM κ z st0 v (some (.int r)) u := by
  subst hf
  exact ⟨_, rfl, rfl, hX, hF⟩
/-- the history, longer -/
theorem hm_push {hs : Nat → Mu} {n c : Nat} {μ : Mu} {h2 h3 a : Nat → Int32} (hR : Rm μ a) (hc : c + 1 = hcnt n) (hn : n ≤ 6) (h1 : ∀ k, k < c → Rm (if n < 6 then hs k else hs (k + 1)) (fun j => h2 (293 * k + j))) (e1 : ∀ j, j < 293 * c → h3 j = h2 j) (e2 : ∀ j, j < 293 → h3 (293 * c + j) = a j) : ∀ k, k < hcnt n → Rm (hpush hs n μ k) (fun j => h3 (293 * k + j)) := by
  intro k hk
  have hcn : hcnt n = if n < 6 then n + 1 else 6 := rfl
  have key : ∀ k, k < c → Rm (if n < 6 then hs k else hs (k + 1)) (fun j => h3 (293 * k + j)) := fun k hk => (h1 k hk).ext (fun j hj => e1 _ (by omega))
  have last : Rm μ (fun j => h3 (293 * c + j)) := hR.ext (fun j hj => e2 j hj)
  unfold hpush
  by_cases h6 : n < 6
  · rw [if_pos h6] at hcn ⊢
    show Rm (if k < n then hs k else μ) _
    by_cases hkn : k < n
    · rw [if_pos hkn]
      have := key k (by omega)
      rw [if_pos h6] at this
      exact this
    · rw [if_neg hkn]
      rw [show k = c from by omega]
      exact last
  · rw [if_neg h6] at hcn ⊢
    show Rm (if k < 5 then hs (k + 1) else μ) _
    by_cases hkn : k < 5
    · rw [if_pos hkn]
      have := key k (by omega)
      rw [if_neg h6] at this
      exact this
    · rw [if_neg hkn]
      rw [show k = c from by omega]
      exact last
