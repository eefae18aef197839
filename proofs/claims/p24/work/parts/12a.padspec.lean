/-! the pad: its text, its fault, its words; the characters of a number -/
def PdP (pt : Nat → Nat) (pn : Nat) (f : Nat → Int32) : Prop := pn ≤ 60 ∧ (∀ k, fits .char (.int (f k)) = true) ∧ ∀ k, k < pn → f k = nI (pt k) ∧ 33 ≤ pt k ∧ pt k ≤ 126
theorem PdP.at {pt : Nat → Nat} {pn k : Nat} {f : Nat → Int32} (h : PdP pt pn f) (hk : k < pn) : f k = nI (pt k) := (h.2.2 k hk).1
theorem PdP.lt {pt : Nat → Nat} {pn k : Nat} {f : Nat → Int32} (h : PdP pt pn f) (hk : k < pn) : pt k ≤ 126 := (h.2.2 k hk).2.2
def sgk (pt : Nat → Nat) : Nat → Nat
  | 0 => 0
  | k + 1 => if pt k = 95 then 0 else sgk pt k + 1
theorem sgk_le (pt : Nat → Nat) : ∀ k, sgk pt k ≤ k := by
  intro k
  induction k with
  | zero => exact Nat.le_refl _
  | succ k ih =>
    unfold sgk
    split <;> omega
def ftf (pt : Nat → Nat) : Nat → Nat → Int32
  | 0, k => if sgk pt k = 0 then nI k else -1006
  | f + 1, k => if pt k = 95 then (if sgk pt k = 0 then nI k else ftf pt f (k + 1)) else if sc (nI (pt k)) < 8 then (if sgk pt k = 10 then nI k else ftf pt f (k + 1)) else nI k
/-- the fault; none: -1006 -/
def flt (pt : Nat → Nat) (pn : Nat) : Int32 := ftf pt pn 0
theorem ftf_s {pt : Nat → Nat} {pn k : Nat} (hk : k < pn) : ftf pt (pn - k) k = if pt k = 95 then (if sgk pt k = 0 then nI k else ftf pt (pn - (k + 1)) (k + 1)) else if sc (nI (pt k)) < 8 then (if sgk pt k = 10 then nI k else ftf pt (pn - (k + 1)) (k + 1)) else nI k := by
  rw [show pn - k = (pn - (k + 1)) + 1 from by omega]
  rfl
theorem ftf_e {pt : Nat → Nat} {pn k : Nat} (hk : k = pn) : ftf pt (pn - k) k = if sgk pt pn = 0 then nI pn else -1006 := by
  subst hk
  rw [Nat.sub_self]
  rfl
theorem nI_no {k : Nat} (hk : k ≤ 60) : ¬ nI k = -1006 := fun h => by
  have h1 := congrArg Int32.toInt h
  rw [nI_toInt (by omega)] at h1
  have h2 : (-1006 : Int32).toInt = -1006 := by decide
  omega
/-- no fault, in words -/
def NoF (pt : Nat → Nat) (pn : Nat) : Prop := (∀ k, k < pn → (pt k = 95 → sgk pt k ≠ 0) ∧ (pt k ≠ 95 → sc (nI (pt k)) < 8 ∧ sgk pt k ≠ 10)) ∧ sgk pt pn ≠ 0
theorem ftf_no {pt : Nat → Nat} : ∀ (f k : Nat), k + f ≤ 60 → ftf pt f k = -1006 → (∀ j, k ≤ j → j < k + f → (pt j = 95 → sgk pt j ≠ 0) ∧ (pt j ≠ 95 → sc (nI (pt j)) < 8 ∧ sgk pt j ≠ 10)) ∧ sgk pt (k + f) ≠ 0 := by
  intro f
  induction f with
  | zero =>
    intro k hk h
    refine ⟨fun j h1 h2 => by omega, fun q => ?_⟩
    unfold ftf at h
    rw [if_pos (show sgk pt k = 0 from q)] at h
    exact nI_no (by omega) h
  | succ f ih =>
    intro k hk h
    unfold ftf at h
    have key : ftf pt f (k + 1) = -1006 ∧ (pt k = 95 → sgk pt k ≠ 0) ∧ (pt k ≠ 95 → sc (nI (pt k)) < 8 ∧ sgk pt k ≠ 10) := by
      by_cases h1 : pt k = 95
      · rw [if_pos h1] at h
        by_cases h2 : sgk pt k = 0
        · rw [if_pos h2] at h
          exact absurd h (nI_no (by omega))
        · rw [if_neg h2] at h
          exact ⟨h, fun _ => h2, fun q => absurd h1 q⟩
      · rw [if_neg h1] at h
        by_cases h2 : sc (nI (pt k)) < 8
        · rw [if_pos h2] at h
          by_cases h3 : sgk pt k = 10
          · rw [if_pos h3] at h
            exact absurd h (nI_no (by omega))
          · rw [if_neg h3] at h
            exact ⟨h, fun q => absurd q h1, fun _ => ⟨h2, h3⟩⟩
        · rw [if_neg h2] at h
          exact absurd h (nI_no (by omega))
    obtain ⟨a1, a2⟩ := ih (k + 1) (by omega) key.1
    refine ⟨fun j h1 h2 => ?_, by rw [show k + (f + 1) = k + 1 + f from by omega]; exact a2⟩
    rcases Nat.lt_or_ge k j with g | g
    · exact a1 j g (by omega)
    · rw [show j = k from by omega]
      exact key.2
theorem flt_no {pt : Nat → Nat} {pn : Nat} (hp : pn ≤ 60) (h : flt pt pn = -1006) : NoF pt pn := by
  obtain ⟨a1, a2⟩ := ftf_no pn 0 (by omega) h
  rw [Nat.zero_add] at a2
  exact ⟨fun k hk => a1 k (Nat.zero_le _) (by omega), a2⟩
theorem ftf_yes {pt : Nat → Nat} : ∀ (f k : Nat), (∀ j, k ≤ j → j < k + f → (pt j = 95 → sgk pt j ≠ 0) ∧ (pt j ≠ 95 → sc (nI (pt j)) < 8 ∧ sgk pt j ≠ 10)) → sgk pt (k + f) ≠ 0 → ftf pt f k = -1006 := by
  intro f
  induction f with
  | zero =>
    intro k h1 h2
    unfold ftf
    exact if_neg h2
  | succ f ih =>
    intro k h1 h2
    unfold ftf
    have h3 := ih (k + 1) (fun j a b => h1 j (by omega) (by omega)) (by rw [show k + 1 + f = k + (f + 1) from by omega]; exact h2)
    have h4 := h1 k (Nat.le_refl _) (by omega)
    by_cases h5 : pt k = 95
    · rw [if_pos h5, if_neg (h4.1 h5)]
      exact h3
    · rw [if_neg h5, if_pos (h4.2 h5).1, if_neg (h4.2 h5).2]
      exact h3
/-- a place with a fault, none before it -/
theorem ftf_at {pt : Nat → Nat} : ∀ (f k x : Nat), k ≤ x → x ≤ k + f → (∀ j, k ≤ j → j < x → (pt j = 95 → sgk pt j ≠ 0) ∧ (pt j ≠ 95 → sc (nI (pt j)) < 8 ∧ sgk pt j ≠ 10)) → ((x < k + f ∧ ((pt x = 95 ∧ sgk pt x = 0) ∨ (pt x ≠ 95 ∧ (¬ sc (nI (pt x)) < 8 ∨ sgk pt x = 10)))) ∨ (x = k + f ∧ sgk pt x = 0)) → ftf pt f k = nI x := by
  intro f
  induction f with
  | zero =>
    intro k x h1 h2 h3 h4
    rcases h4 with ⟨h4, -⟩ | ⟨h4, h5⟩
    · omega
    · have e : x = k := by omega
      subst e
      unfold ftf
      exact if_pos h5
  | succ f ih =>
    intro k x h1 h2 h3 h4
    unfold ftf
    rcases Nat.lt_or_ge k x with g | g
    · have h5 := h3 k (Nat.le_refl _) g
      have h6 := ih (k + 1) x g (by omega) (fun j a b => h3 j (by omega) b) (by rw [show k + 1 + f = k + (f + 1) from by omega]; exact h4)
      by_cases h7 : pt k = 95
      · rw [if_pos h7, if_neg (h5.1 h7)]
        exact h6
      · rw [if_neg h7, if_pos (h5.2 h7).1, if_neg (h5.2 h7).2]
        exact h6
    · have e : x = k := by omega
      subst e
      rcases h4 with ⟨-, ⟨h5, h6⟩ | ⟨h5, h6⟩⟩ | ⟨h5, -⟩
      · rw [if_pos h5, if_pos h6]
      · rw [if_neg h5]
        rcases h6 with h6 | h6
        · rw [if_neg h6]
        · by_cases h7 : sc (nI (pt x)) < 8
          · rw [if_pos h7, if_pos h6]
          · rw [if_neg h7]
      · omega
/-- where the word that begins at a ends -/
def exf (pt : Nat → Nat) : Nat → Nat → Nat
  | 0, k => k
  | f + 1, k => if pt k = 95 then k else exf pt f (k + 1)
def ext (pt : Nat → Nat) (pn a : Nat) : Nat := exf pt (pn - a) a
def wnx (pt : Nat → Nat) (pn a : Nat) : Nat := ext pt pn a + 1
theorem exf_spec {pt : Nat → Nat} : ∀ (f k : Nat), k ≤ exf pt f k ∧ exf pt f k ≤ k + f ∧ (∀ j, k ≤ j → j < exf pt f k → pt j ≠ 95) ∧ (exf pt f k = k + f ∨ pt (exf pt f k) = 95) := by
  intro f
  induction f with
  | zero => intro k; exact ⟨Nat.le_refl _, Nat.le_refl _, fun j h1 (h2 : j < k) => by omega, Or.inl rfl⟩
  | succ f ih =>
    intro k
    unfold exf
    by_cases h : pt k = 95
    · rw [if_pos h]
      exact ⟨Nat.le_refl _, by omega, fun j h1 h2 => by omega, Or.inr h⟩
    · rw [if_neg h]
      obtain ⟨a1, a2, a3, a4⟩ := ih (k + 1)
      refine ⟨by omega, by omega, fun j h1 h2 => ?_, ?_⟩
      · rcases Nat.lt_or_ge k j with g | g
        · exact a3 j g h2
        · rw [show j = k from by omega]
          exact h
      · rcases a4 with a | a
        · exact Or.inl (by omega)
        · exact Or.inr a
theorem ext_spec {pt : Nat → Nat} {pn a : Nat} (ha : a ≤ pn) : a ≤ ext pt pn a ∧ ext pt pn a ≤ pn ∧ (∀ j, a ≤ j → j < ext pt pn a → pt j ≠ 95) ∧ (ext pt pn a = pn ∨ pt (ext pt pn a) = 95) := by
  obtain ⟨a1, a2, a3, a4⟩ := exf_spec (pt := pt) (pn - a) a
  refine ⟨a1, ?_, a3, ?_⟩
  · show exf pt (pn - a) a ≤ pn
    omega
  · rcases a4 with h | h
    · exact Or.inl (by show exf pt (pn - a) a = pn; omega)
    · exact Or.inr h
theorem ext_is {pt : Nat → Nat} {pn a x : Nat} (h1 : a ≤ x) (h2 : x ≤ pn) (h3 : ∀ j, a ≤ j → j < x → pt j ≠ 95) (h4 : x = pn ∨ pt x = 95) : ext pt pn a = x := by
  obtain ⟨a1, a2, a3, a4⟩ := ext_spec (pt := pt) (pn := pn) (a := a) (by omega)
  rcases Nat.lt_trichotomy (ext pt pn a) x with q | q | q
  · rcases a4 with h | h
    · omega
    · exact absurd h (h3 _ a1 q)
  · exact q
  · rcases h4 with h | h
    · omega
    · exact absurd h (a3 x h1 q)
theorem wnx_adv (pt : Nat → Nat) (pn : Nat) : Adv (wnx pt pn) (pn + 1) := fun k hk => by
  have := ext_spec (pt := pt) (pn := pn) (a := k) (by omega)
  exact ⟨by show k < ext pt pn k + 1; omega, by show ext pt pn k + 1 ≤ pn + 1; omega⟩
/-- how many words; where each begins; how long it is -/
def wno (pt : Nat → Nat) (pn : Nat) : Nat := lno (wnx pt pn) (pn + 1)
def wst (pt : Nat → Nat) (pn i : Nat) : Nat := stt (wnx pt pn) i
def wln (pt : Nat → Nat) (pn i : Nat) : Nat := ext pt pn (wst pt pn i) - wst pt pn i
theorem wno_br (pt : Nat → Nat) (pn : Nat) : Br (wnx pt pn) (pn + 1) (wno pt pn) := lno_br (wnx_adv pt pn)
theorem wst_le {pt : Nat → Nat} {pn i : Nat} (hi : i < wno pt pn) : wst pt pn i ≤ pn := Nat.le_of_lt_succ ((wno_br pt pn).2 i hi)
theorem wst_s (pt : Nat → Nat) (pn i : Nat) : wst pt pn (i + 1) = ext pt pn (wst pt pn i) + 1 := rfl
theorem wno_le (pt : Nat → Nat) (pn : Nat) : wno pt pn ≤ pn + 1 := (wno_br pt pn).le (wnx_adv pt pn)
theorem wno_pos (pt : Nat → Nat) (pn : Nat) : 0 < wno pt pn := by
  rcases Nat.eq_zero_or_pos (wno pt pn) with h | h
  · have := (wno_br pt pn).1
    rw [h] at this
    exact absurd this (by show 0 ≠ pn + 1; omega)
  · exact h
/-- signs of the word that stands at a place -/
theorem sgk_in {pt : Nat → Nat} {a : Nat} (h0 : sgk pt a = 0) : ∀ k, (∀ j, a ≤ j → j < a + k → pt j ≠ 95) → sgk pt (a + k) = k := by
  intro k
  induction k with
  | zero => intro _; exact h0
  | succ k ih =>
    intro h
    show (if pt (a + k) = 95 then 0 else sgk pt (a + k) + 1) = _
    rw [if_neg (h (a + k) (by omega) (by omega)), ih (fun j h1 h2 => h j h1 (by omega))]
theorem wst_sg {pt : Nat → Nat} {pn : Nat} : ∀ i, i < wno pt pn → sgk pt (wst pt pn i) = 0 := by
  intro i
  cases i with
  | zero => intro _; rfl
  | succ i =>
    intro hi
    have h1 := wst_le hi
    rw [wst_s] at h1 ⊢
    have h2 := ext_spec (pt := pt) (pn := pn) (a := wst pt pn i) (wst_le (by omega))
    show (if pt (ext pt pn (wst pt pn i)) = 95 then 0 else _) = 0
    rcases h2.2.2.2 with h | h
    · omega
    · rw [if_pos h]
theorem word_ok {pt : Nat → Nat} {pn i : Nat} (hN : NoF pt pn) (hi : i < wno pt pn) : 1 ≤ wln pt pn i ∧ wln pt pn i ≤ 10 ∧ (∀ j, j < wln pt pn i → wst pt pn i + j < pn ∧ pt (wst pt pn i + j) ≠ 95 ∧ sc (nI (pt (wst pt pn i + j))) < 8) ∧ ∀ j, j ≤ wln pt pn i → sgk pt (wst pt pn i + j) = j := by
  have h1 := wst_le hi
  obtain ⟨a1, a2, a3, a4⟩ := ext_spec (pt := pt) (pn := pn) h1
  have h0 := wst_sg i hi
  have hsg : ∀ j, j ≤ wln pt pn i → sgk pt (wst pt pn i + j) = j := fun j hj => sgk_in h0 j (fun x h2 h3 => a3 x h2 (by unfold wln at hj; omega))
  have he : wst pt pn i + wln pt pn i = ext pt pn (wst pt pn i) := by unfold wln; omega
  refine ⟨?_, ?_, fun j hj => ?_, hsg⟩
  · rcases Nat.eq_zero_or_pos (wln pt pn i) with h | h
    · exfalso
      have h2 : ext pt pn (wst pt pn i) = wst pt pn i := by omega
      rcases a4 with h3 | h3
      · apply hN.2
        rw [← h3, h2]
        exact h0
      · rcases Nat.lt_or_ge (wst pt pn i) pn with g | g
        · exact ((hN.1 _ g).1 (by rw [← h2]; exact h3)) h0
        · apply hN.2
          rw [show pn = wst pt pn i from by omega]
          exact h0
    · exact h
  · rcases Nat.lt_or_ge 10 (wln pt pn i) with g | g
    · exfalso
      have h2 := hsg 10 (by omega)
      exact ((hN.1 (wst pt pn i + 10) (by omega)).2 (a3 _ (by omega) (by omega))).2 h2
    · exact g
  · have h2 : pt (wst pt pn i + j) ≠ 95 := a3 _ (by omega) (by omega)
    exact ⟨by omega, h2, ((hN.1 _ (by omega)).2 h2).1⟩
/-- the words of the pad behind the words of the text -/
def muRead (μ : Mu) (pt : Nat → Nat) (pn : Nat) : Mu := (μ.1, mn μ + wno pt pn, fun w => if w < mn μ then ml μ w else wln pt pn (w - mn μ), fun w j => if w < mn μ then mg μ w j else nI (pt (wst pt pn (w - mn μ) + j)))
theorem muRead_ok {μ : Mu} {pt : Nat → Nat} {pn : Nat} (ho : Ok μ) (hN : NoF pt pn) (h : mn μ + wno pt pn ≤ 24) : Ok (muRead μ pt pn) := by
  refine ⟨h, fun w hw => ?_⟩
  have hw : w < mn μ + wno pt pn := hw
  by_cases hc : w < mn μ
  · have := ho.2 w hc
    simpa [muRead, ml, mg, so, hc] using this
  · have := word_ok (i := w - mn μ) hN (by omega)
    have h2 : 1 ≤ wln pt pn (w - mn μ) ∧ wln pt pn (w - mn μ) ≤ 10 ∧ ∀ j, j < wln pt pn (w - mn μ) → sc (nI (pt (wst pt pn (w - mn μ) + j))) < 8 := ⟨this.1, this.2.1, fun j hj => (this.2.2.1 j hj).2.2⟩
    simpa [muRead, ml, mg, so, hc] using h2
/-- the characters of a number -/
def lenc : Nat → Nat → Nat → Nat
  | 0, _, a => a
  | f + 1, v, a => if v = 0 then a else if v % 256 < 33 ∨ 126 < v % 256 then 0 else lenc f (v / 256) (a + 1)
def plen (V : Nat) : Nat := lenc 8 V 0
def pby (V i : Nat) : Nat := V / 2 ^ (8 * i) % 256
theorem pby_0 (V : Nat) : V / 2 ^ (8 * 0) = V := by simp
theorem pby_s (V i : Nat) : V / 2 ^ (8 * i) / 256 = V / 2 ^ (8 * (i + 1)) := by
  rw [Nat.div_div_eq_div_mul, show 8 * (i + 1) = 8 * i + 8 from by omega, Nat.pow_add]
theorem lenc_spec {V : Nat} : ∀ (f i : Nat), lenc f (V / 2 ^ (8 * i)) i = 0 ∨ (i ≤ lenc f (V / 2 ^ (8 * i)) i ∧ lenc f (V / 2 ^ (8 * i)) i ≤ i + f ∧ ∀ j, i ≤ j → j < lenc f (V / 2 ^ (8 * i)) i → 33 ≤ pby V j ∧ pby V j ≤ 126) := by
  intro f
  induction f with
  | zero => intro i; exact Or.inr ⟨Nat.le_refl _, Nat.le_refl _, fun j h1 (h2 : j < i) => by omega⟩
  | succ f ih =>
    intro i
    unfold lenc
    by_cases h0 : V / 2 ^ (8 * i) = 0
    · rw [if_pos h0]
      exact Or.inr ⟨Nat.le_refl _, by omega, fun j h1 h2 => by omega⟩
    · rw [if_neg h0]
      by_cases h1 : V / 2 ^ (8 * i) % 256 < 33 ∨ 126 < V / 2 ^ (8 * i) % 256
      · rw [if_pos h1]
        exact Or.inl rfl
      · rw [if_neg h1, pby_s]
        rcases ih (i + 1) with h | ⟨a, b, c⟩
        · exact Or.inl h
        · refine Or.inr ⟨by omega, by omega, fun j h2 h3 => ?_⟩
          rcases Nat.lt_or_ge i j with g | g
          · exact c j g h3
          · rw [show j = i from by omega]
            unfold pby
            omega
theorem plen_spec (V : Nat) : plen V = 0 ∨ (plen V ≤ 8 ∧ ∀ j, j < plen V → 33 ≤ pby V j ∧ pby V j ≤ 126) := by
  have := lenc_spec (V := V) 8 0
  rw [pby_0] at this
  rcases this with h | ⟨a, b, c⟩
  · exact Or.inl h
  · exact Or.inr ⟨by show lenc 8 V 0 ≤ 8; omega, fun j hj => c j (Nat.zero_le _) hj⟩
theorem plen_le (V : Nat) : plen V ≤ 8 := by
  rcases plen_spec V with h | h
  · omega
  · exact h.1
/-- the pad with more characters -/
def ptPut (pt : Nat → Nat) (pn V n : Nat) : Nat → Nat := fun k => if k < pn then pt k else pby V (n - 1 - (k - pn))
theorem lN_0 {v : Nat} (hv : v < 2 ^ 64) : lg_cmp (lN v) 0 = 0 ↔ v = 0 := by
  rw [lg_cmp_eq]
  constructor
  · intro h
    have h1 := congrArg (fun x : Int64 => x.toBitVec.toNat) h
    rw [wb_tn hv] at h1
    exact h1
  · intro h
    rw [h]
    rfl
theorem lN_and255 {v : Nat} (hv : v < 2 ^ 64) : lN v &&& 255 = lN (v % 256) := wb_mask (k := 8) hv (by omega)
theorem lN_sh8 {v : Nat} (hv : v < 2 ^ 64) : ((lN v).toUInt64 >>> ((nI 8).toInt64.toUInt64 &&& Int64.toUInt64 63)).toInt64 = lN (v / 256) := wb_shr (k := 8) hv (by omega)
theorem chr16 {q : Nat} (h : q < 65536) : ((nI q).toUInt32 % 65536).toInt32 = nI q := by
  rw [pk_char, pk_tn (by omega), Nat.mod_eq_of_lt h]
theorem scv_neg {x : Int32} (h : scv (-1) x < 0) : ¬ sc x < 8 := fun q => by
  rw [scv_k q] at h
  exact nI_pos (by omega) h
theorem scv_nn {x : Int32} (h : ¬ scv (-1) x < 0) : sc x < 8 := by
  rcases Nat.lt_or_ge (sc x) 8 with q | q
  · exact q
  · exfalso
    apply h
    unfold scv
    rw [if_neg (by omega)]
    decide
theorem app_1 {pt : Nat → Nat} {t2 : Nat → Int32} {pn x : Nat} {v : Int32} (h1 : ∀ q, q < pn → t2 q = nI (pt q)) (hx : pn ≤ x) : ∀ q, q < pn → upd t2 x v q = nI (pt q) := fun q hq => by
  rw [pk_un (by omega)]
  exact h1 q hq
theorem app_2 {t2 : Nat → Int32} {pn n k V : Nat} (hk : k < n) (h2 : ∀ q, n - k ≤ q → q < n → t2 (pn + q) = nI (pby V (n - 1 - q))) : ∀ q, n - (k + 1) ≤ q → q < n → upd t2 (pn + n - 1 - k) (nI (pby V k)) (pn + q) = nI (pby V (n - 1 - q)) := by
  intro q h3 h4
  by_cases hc : q = n - 1 - k
  · rw [show pn + n - 1 - k = pn + q from by omega, pk_us, show n - 1 - q = k from by omega]
  · rw [pk_un (by omega)]
    exact h2 q (by omega) h4
theorem app_end {pt : Nat → Nat} {t t2 : Nat → Int32} {pn n V : Nat} (hp : PdP pt pn t) (hpn : pn + n ≤ 60) (hc : ∀ j, j < n → 33 ≤ pby V j ∧ pby V j ≤ 126) (h1 : ∀ q, q < pn → t2 q = nI (pt q)) (h2 : ∀ q, q < n → t2 (pn + q) = nI (pby V (n - 1 - q))) (h3 : ∀ q, fits .char (.int (t2 q)) = true) : PdP (ptPut pt pn V n) (pn + n) t2 := by
  refine ⟨hpn, h3, fun k hk => ?_⟩
  unfold ptPut
  by_cases hc2 : k < pn
  · rw [if_pos hc2]
    exact ⟨h1 k hc2, (hp.2.2 k hc2).2⟩
  · rw [if_neg hc2]
    have := h2 (k - pn) (by omega)
    rw [show pn + (k - pn) = k from by omega] at this
    exact ⟨this, hc _ (by omega)⟩
/-- place k stands in word i, or behind it -/
def WrdI (pt : Nat → Nat) (pn k i : Nat) : Prop := i ≤ k ∧ i < wno pt pn ∧ wst pt pn i ≤ k ∧ k ≤ ext pt pn (wst pt pn i)
theorem WrdI.lt {pt : Nat → Nat} {pn k i : Nat} (h : WrdI pt pn k i) : i < wno pt pn := h.2.1
theorem WrdI.start {pt : Nat → Nat} {pn : Nat} : WrdI pt pn 0 0 := ⟨Nat.le_refl _, wno_pos pt pn, Nat.le_refl _, Nat.zero_le _⟩
theorem WrdI.go {pt : Nat → Nat} {pn k i : Nat} (h : WrdI pt pn k i) (hk : k < pn) (hc : ¬ pt k = 95) : WrdI pt pn (k + 1) i := by
  obtain ⟨h0, h1, h2, h3⟩ := h
  obtain ⟨a1, a2, a3, a4⟩ := ext_spec (pt := pt) (pn := pn) (wst_le h1)
  refine ⟨by omega, h1, by omega, ?_⟩
  rcases Nat.lt_or_ge k (ext pt pn (wst pt pn i)) with g | g
  · exact g
  · have e : ext pt pn (wst pt pn i) = k := by omega
    rw [e] at a4
    rcases a4 with a | a
    · omega
    · exact absurd a hc
theorem WrdI.gap {pt : Nat → Nat} {pn k i : Nat} (h : WrdI pt pn k i) (hk : k < pn) (hc : pt k = 95) : ext pt pn (wst pt pn i) = k := by
  obtain ⟨h0, h1, h2, h3⟩ := h
  obtain ⟨a1, a2, a3, a4⟩ := ext_spec (pt := pt) (pn := pn) (wst_le h1)
  rcases Nat.lt_or_ge k (ext pt pn (wst pt pn i)) with g | g
  · exact absurd hc (a3 k h2 g)
  · omega
theorem WrdI.new {pt : Nat → Nat} {pn k i : Nat} (h : WrdI pt pn k i) (hk : k < pn) (hc : pt k = 95) : WrdI pt pn (k + 1) (i + 1) := by
  have e := h.gap hk hc
  obtain ⟨h0, h1, h2, h3⟩ := h
  have e2 : wst pt pn (i + 1) = k + 1 := by rw [wst_s, e]
  refine ⟨by omega, ?_, by omega, ?_⟩
  · rcases Nat.lt_or_ge (i + 1) (wno pt pn) with g | g
    · exact g
    · have e3 : i + 1 = wno pt pn := by omega
      have := (wno_br pt pn).1
      rw [← e3] at this
      have e4 : stt (wnx pt pn) (i + 1) = k + 1 := e2
      omega
  · rw [e2]
    exact (ext_spec (pt := pt) (pn := pn) (a := k + 1) (by omega)).1
theorem WrdI.end {pt : Nat → Nat} {pn k i : Nat} (h : WrdI pt pn k i) (hk : k = pn) : 1 + i = wno pt pn := by
  obtain ⟨h0, h1, h2, h3⟩ := h
  have a2 := (ext_spec (pt := pt) (pn := pn) (wst_le h1)).2.1
  have e : ext pt pn (wst pt pn i) = pn := by omega
  have hb : Br (wnx pt pn) (pn + 1) (i + 1) := ⟨by show wst pt pn (i + 1) = _; rw [wst_s, e], fun q hq => (wno_br pt pn).2 q (by omega)⟩
  have := hb.one (wno_br pt pn)
  omega
theorem WrdI.word {pt : Nat → Nat} {pn k i : Nat} (h : WrdI pt pn k i) (hN : NoF pt pn) (hk : k < pn) (hc : ¬ pt k = 95) : wst pt pn i ≤ k ∧ k - wst pt pn i < wln pt pn i ∧ wln pt pn i ≤ 10 := by
  have h4 := h.go hk hc
  have h5 := (word_ok hN h.2.1).2.1
  refine ⟨h.2.2.1, ?_, h5⟩
  have := h4.2.2.2
  have := h.2.2.1
  unfold wln
  omega
/-- the sheet while words are added -/
def AddI (μ : Mu) (pt : Nat → Nat) (pn k i : Nat) (f5 f6 g5 g6 : Nat → Int32) : Prop := (∀ j, fits .char (.int (g5 j)) = true) ∧ (∀ w, w < mn μ → g6 w = f6 w) ∧ (∀ w, w < mn μ → ∀ j, j < 10 → g5 (w * 10 + j) = f5 (w * 10 + j)) ∧ (∀ q, q < i → g6 (mn μ + q) = nI (wln pt pn q)) ∧ g6 (mn μ + i) = nI (k - wst pt pn i) ∧ (∀ q, q < i → ∀ j, j < wln pt pn q → g5 ((mn μ + q) * 10 + j) = nI (pt (wst pt pn q + j))) ∧ ∀ j, j < k - wst pt pn i → g5 ((mn μ + i) * 10 + j) = nI (pt (wst pt pn i + j))
theorem AddI.cur {μ : Mu} {pt : Nat → Nat} {pn k i : Nat} {f5 f6 g5 g6 : Nat → Int32} (h : AddI μ pt pn k i f5 f6 g5 g6) : g6 (mn μ + i) = nI (k - wst pt pn i) := h.2.2.2.2.1
theorem AddI.start {μ : Mu} {pt : Nat → Nat} {pn : Nat} {f1 f2 f3 f4 f5 f6 : Nat → Int32} (hR : Rp μ f1 f2 f3 f4 f5 f6) : AddI μ pt pn 0 0 f5 f6 f5 (upd f6 (mn μ) (nI 0)) := ⟨hR.fit, fun w hw => pk_un (by omega), fun w hw j hj => rfl, fun q hq => by omega, by rw [Nat.add_zero, pk_us, Nat.zero_sub], fun q hq => by omega, fun j hj => by omega⟩
theorem AddI.new {μ : Mu} {pt : Nat → Nat} {pn k i : Nat} {f5 f6 g5 g6 : Nat → Int32} (h : AddI μ pt pn k i f5 f6 g5 g6) (hi : WrdI pt pn k i) (hk : k < pn) (hc : pt k = 95) : AddI μ pt pn (k + 1) (i + 1) f5 f6 g5 (upd g6 (mn μ + i + 1) (nI 0)) := by
  obtain ⟨h1, h2, h3, h4, h5, h6, h7⟩ := h
  have e := hi.gap hk hc
  have e2 : wst pt pn (i + 1) = k + 1 := by rw [wst_s, e]
  have e3 : wln pt pn i = k - wst pt pn i := by unfold wln; rw [e]
  refine ⟨h1, fun w hw => ?_, h3, fun q hq => ?_, ?_, fun q hq j hj => ?_, fun j hj => ?_⟩
  · rw [pk_un (by omega)]
    exact h2 w hw
  · rw [pk_un (by omega)]
    rcases Nat.lt_or_ge q i with g | g
    · exact h4 q g
    · rw [show q = i from by omega, e3]
      exact h5
  · rw [show mn μ + (i + 1) = mn μ + i + 1 from by omega, pk_us, e2, Nat.sub_self]
  · rcases Nat.lt_or_ge q i with g | g
    · exact h6 q g j hj
    · have eq : q = i := by omega
      subst eq
      rw [e3] at hj
      exact h7 j hj
  · rw [e2] at hj
    omega
theorem AddI.add {μ : Mu} {pt : Nat → Nat} {pn k i : Nat} {f5 f6 g5 g6 : Nat → Int32} (h : AddI μ pt pn k i f5 f6 g5 g6) (hN : NoF pt pn) (hi : WrdI pt pn k i) (hk : k < pn) (hc : ¬ pt k = 95) (hle : pt k < 65536) : AddI μ pt pn (k + 1) i f5 f6 (upd g5 ((mn μ + i + 1 - 1) * 10 + (k - wst pt pn i)) (nI (pt k))) (upd g6 (mn μ + i + 1 - 1) (nI (k - wst pt pn i + 1))) := by
  obtain ⟨h1, h2, h3, h4, h5, h6, h7⟩ := h
  obtain ⟨a1, a2, a3⟩ := hi.word hN hk hc
  obtain ⟨f, hx⟩ : ∃ z, z = nI (pt k) := ⟨_, rfl⟩
  rw [show mn μ + i + 1 - 1 = mn μ + i from by omega]
  refine ⟨upd_fit h1 ?_, fun w hw => ?_, fun w hw j hj => ?_, fun q hq => ?_, ?_, fun q hq j hj => ?_, fun j hj => ?_⟩
  · exact fit_of hle
  · rw [pk_un (by omega)]
    exact h2 w hw
  · rw [pk_un (by omega)]
    exact h3 w hw j hj
  · rw [pk_un (by omega)]
    exact h4 q hq
  · rw [pk_us]
    congr 1
    omega
  · have h9 := (word_ok (i := q) hN (by have := hi.2.1; omega)).2.1
    rw [pk_un (by omega)]
    exact h6 q hq j hj
  · rcases Nat.lt_or_ge j (k - wst pt pn i) with g | g
    · rw [pk_un (by omega)]
      exact h7 j g
    · have e : j = k - wst pt pn i := by omega
      subst e
      rw [pk_us, show wst pt pn i + (k - wst pt pn i) = k from by omega]
theorem AddI.end {μ : Mu} {pt : Nat → Nat} {pn k i : Nat} {f1 f2 f3 f4 f5 f6 g5 g6 : Nat → Int32} (h : AddI μ pt pn k i f5 f6 g5 g6) (hR : Rp μ f1 f2 f3 f4 f5 f6) (hN : NoF pt pn) (hw : mn μ + wno pt pn ≤ 24) (hi : WrdI pt pn k i) (hk : k = pn) : Rp (muRead μ pt pn) f1 f2 f3 f4 g5 g6 := by
  obtain ⟨h1, h2, h3, h4, h5, h6, h7⟩ := h
  have e0 := hi.end hk
  have e : ext pt pn (wst pt pn i) = k := by
    have := (ext_spec (pt := pt) (pn := pn) (wst_le hi.2.1)).2.1
    have := hi.2.2.2
    omega
  have e3 : wln pt pn i = k - wst pt pn i := by unfold wln; rw [e]
  refine ⟨muRead_ok hR.ok hN hw, trivial, fun k hk => hR.set hk, fun k hk => hR.wid hk, fun k hk => hR.lef hk, fun k hk => hR.rig hk, h1, fun w hw2 => ?_, fun w hw2 j hj => ?_⟩
  · have hw2 : w < mn μ + wno pt pn := hw2
    show _ = nI (if w < mn μ then ml μ w else wln pt pn (w - mn μ))
    by_cases hc : w < mn μ
    · rw [if_pos hc, h2 w hc]
      exact hR.len hc
    · rw [if_neg hc]
      rcases Nat.lt_or_ge (w - mn μ) i with g | g
      · have := h4 _ g
        rw [show mn μ + (w - mn μ) = w from by omega] at this
        exact this
      · rw [show w = mn μ + i from by omega, h5, show mn μ + i - mn μ = i from by omega, e3]
  · have hw2 : w < mn μ + wno pt pn := hw2
    have hj : j < if w < mn μ then ml μ w else wln pt pn (w - mn μ) := hj
    show _ = if w < mn μ then mg μ w j else nI (pt (wst pt pn (w - mn μ) + j))
    by_cases hc : w < mn μ
    · rw [if_pos hc] at hj ⊢
      have := (hR.ok.len hc).2
      rw [h3 w hc j (by omega)]
      exact hR.sig hc hj
    · rw [if_neg hc] at hj ⊢
      rcases Nat.lt_or_ge (w - mn μ) i with g | g
      · have := h6 _ g j hj
        rw [show mn μ + (w - mn μ) = w from by omega] at this
        exact this
      · have e4 : w = mn μ + i := by omega
        subst e4
        rw [show mn μ + i - mn μ = i from by omega] at hj ⊢
        rw [e3] at hj
        exact h7 j hj
