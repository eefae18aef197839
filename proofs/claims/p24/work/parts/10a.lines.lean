/-! what a weighed and a broken layout says -/
def LyW (μ : Mu) (p l r : Nat → Int32) : Prop := (∀ j, j ≤ mn μ → p j = pl μ j) ∧ (∀ w, w < mn μ → l w = lh μ w) ∧ ∀ w, w < mn μ → r w = rh μ w
def LyB (nx : Nat → Nat) (n L : Nat) (s : Nat → Int32) : Prop := Adv nx n ∧ Br nx n L ∧ ∀ i, i ≤ L → s i = nI (stt nx i)
theorem LyB.at {nx : Nat → Nat} {n L i : Nat} {s : Nat → Int32} (h : LyB nx n L s) (hi : i ≤ L) : s i = nI (stt nx i) := h.2.2 i hi
theorem LyB.lt {nx : Nat → Nat} {n L i : Nat} {s : Nat → Int32} (h : LyB nx n L s) (hi : i < L) : stt nx i < n := h.2.1.2 i hi
theorem LyB.le {nx : Nat → Nat} {n L i : Nat} {s : Nat → Int32} (h : LyB nx n L s) (hi : i ≤ L) : stt nx i ≤ n := by
  rcases Nat.lt_or_ge i L with q | q
  · exact Nat.le_of_lt (h.lt q)
  · have e : i = L := by omega
    subst e
    exact Nat.le_of_eq h.2.1.1
theorem LyB.next {nx : Nat → Nat} {n L i : Nat} {s : Nat → Int32} (h : LyB nx n L s) (hi : i < L) : stt nx i < stt nx (i + 1) ∧ stt nx (i + 1) ≤ n := ⟨stt_mono h.1 h.2.1 i (i + 1) (by omega) hi, h.le hi⟩
theorem LyB.L_le {nx : Nat → Nat} {n L : Nat} {s : Nat → Int32} (h : LyB nx n L s) : L ≤ n := h.2.1.le h.1
theorem upd_le {f F : Nat → Int32} {k : Nat} {v : Int32} (h : ∀ j, j ≤ k → f j = F j) (hv : v = F (k + 1)) : ∀ j, j ≤ k + 1 → upd f (k + 1) v j = F j := by
  intro j hj
  by_cases hc : j = k + 1
  · subst hc; rw [pk_us]; exact hv
  · rw [pk_un hc]; exact h j (by omega)
theorem upd_lt {f F : Nat → Int32} {k : Nat} {v : Int32} (h : ∀ j, j < k → f j = F j) (hv : v = F k) : ∀ j, j < k + 1 → upd f k v j = F j := by
  intro j hj
  by_cases hc : j = k
  · subst hc; rw [pk_us]; exact hv
  · rw [pk_un hc]; exact h j (by omega)
/-- the body of a line; whether it looks indented; the line of a word -/
def bol (μ : Mu) (nx : Nat → Nat) (i : Nat) : Int32 := bo μ (stt nx i) (stt nx (i + 1) - 1)
def ind (μ : Mu) (nx : Nat → Nat) (m lo : Int32) (L i : Nat) : Prop := bol μ nx i ≤ m ∧ i < L - 1 ∧ lo < m - bol μ nx i
def lof (nx : Nat → Nat) (w : Nat) : Nat → Nat
  | 0 => 0
  | k + 1 => if stt nx k ≤ w then k else lof nx w k
theorem lof_le (nx : Nat → Nat) (w : Nat) : ∀ k, lof nx w k ≤ k := by
  intro k
  induction k with
  | zero => exact Nat.le_refl _
  | succ k ih =>
    unfold lof
    split <;> omega
def fitI (μ : Mu) (nx : Nat → Nat) (m : Int32) (i : Nat) : Int32 := if bol μ nx i ≤ m then nI 1 else nI 0
def indN (μ : Mu) (nx : Nat → Nat) (m lo : Int32) (L i : Nat) : Nat := if bol μ nx i ≤ m then (if i < L - 1 then (if lo < m - bol μ nx i then 1 else 0) else 0) else 0
def unfN (μ : Mu) (nx : Nat → Nat) (m : Int32) (i : Nat) : Nat := if bol μ nx i ≤ m then 0 else 1
def tell (μ : Mu) (nx : Nat → Nat) (m lo : Int32) (L i what : Nat) : Int32 := match what with
  | 0 => nI (stt nx i)
  | 1 => nI (stt nx (i + 1) - stt nx i)
  | 2 => wl μ (stt nx i) (stt nx (i + 1) - 1)
  | 3 => lh μ (stt nx i)
  | 4 => rh μ (stt nx (i + 1) - 1)
  | 5 => bol μ nx i
  | 6 => if bol μ nx i ≤ m then m - bol μ nx i else -1006
  | 7 => fitI μ nx m i
  | _ => nI (indN μ nx m lo L i)
def sumB (μ : Mu) (nx : Nat → Nat) (m : Int32) (k : Nat) : Int32 := smI (fun i => bad (bo μ) m (mn μ) (stt nx i) (stt nx (i + 1) - 1)) k
def greB (μ : Mu) (nx : Nat → Nat) (L : Nat) : Int32 := if L = 0 then -1006 else mxI (bol μ nx) (L - 1)
/-- greedily: the next word goes on, or begins a line -/
theorem fill_go {b : Nat → Nat → Int32} {m : Int32} {n i k : Nat} (hk : k < n) (hi : 0 < i) (h1 : stt (gx b m n) (i - 1) < k) (h2 : k ≤ gx b m n (stt (gx b m n) (i - 1))) (hc : b (stt (gx b m n) (i - 1)) k ≤ m) : k + 1 ≤ gx b m n (stt (gx b m n) (i - 1)) := by
  obtain ⟨a1, a2, a3, a4⟩ := gx_spec b m (n := n) (k := stt (gx b m n) (i - 1)) (by omega)
  rcases Nat.lt_or_ge k (gx b m n (stt (gx b m n) (i - 1))) with q | q
  · exact q
  · have e : k = gx b m n (stt (gx b m n) (i - 1)) := by omega
    rcases a4 with a | a
    · omega
    · rw [← e] at a
      exact absurd hc a
theorem fill_new {b : Nat → Nat → Int32} {m : Int32} {n i k : Nat} (hk : k < n) (hi : 0 < i) (h1 : stt (gx b m n) (i - 1) < k) (h2 : k ≤ gx b m n (stt (gx b m n) (i - 1))) (hc : ¬ b (stt (gx b m n) (i - 1)) k ≤ m) : stt (gx b m n) i = k := by
  obtain ⟨a1, a2, a3, a4⟩ := gx_spec b m (n := n) (k := stt (gx b m n) (i - 1)) (by omega)
  have e : stt (gx b m n) i = gx b m n (stt (gx b m n) (i - 1)) := by
    obtain ⟨j, rfl⟩ : ∃ j, i = j + 1 := ⟨i - 1, by omega⟩
    rfl
  rw [e]
  rcases Nat.lt_or_ge k (gx b m n (stt (gx b m n) (i - 1))) with q | q
  · exact absurd (a3 k h1 q) hc
  · omega
def FillI (nx : Nat → Nat) (n k i : Nat) : Prop := i ≤ k ∧ ((k = 0 ∧ i = 0) ∨ (0 < i ∧ stt nx (i - 1) < k ∧ k ≤ nx (stt nx (i - 1)) ∧ ∀ q, q < i → stt nx q < k))
theorem FillI.new {nx : Nat → Nat} {n k i : Nat} (ha : Adv nx n) (hk : k < n) (h : FillI nx n k i) (e : stt nx i = k) : FillI nx n (k + 1) (i + 1) := by
  obtain ⟨h0, h⟩ := h
  refine ⟨by omega, Or.inr ⟨by omega, by show stt nx i < k + 1; omega, ?_, fun q hq => ?_⟩⟩
  · show k + 1 ≤ nx (stt nx i)
    rw [e]
    exact (ha k hk).1
  · rcases Nat.lt_or_ge q i with g | g
    · rcases h with ⟨a, b⟩ | ⟨a, b, c, d⟩
      · omega
      · have := d q g
        omega
    · have : q = i := by omega
      subst this
      omega
theorem FillI.go {nx : Nat → Nat} {n k i : Nat} (h : FillI nx n k i) (hi : 0 < i) (h2 : k + 1 ≤ nx (stt nx (i - 1))) : FillI nx n (k + 1) i := by
  obtain ⟨h0, h⟩ := h
  rcases h with ⟨a, b⟩ | ⟨a, b, c, d⟩
  · omega
  · exact ⟨by omega, Or.inr ⟨hi, by omega, h2, fun q hq => by have := d q hq; omega⟩⟩
theorem FillI.end {nx : Nat → Nat} {n k i : Nat} (ha : Adv nx n) (h : FillI nx n k i) (hk : k = n) : Br nx n i := by
  subst hk
  obtain ⟨h0, h⟩ := h
  rcases h with ⟨a, b⟩ | ⟨a, b, c, d⟩
  · subst b
    exact ⟨a.symm, fun q hq => by omega⟩
  · have e : stt nx i = nx (stt nx (i - 1)) := by
      obtain ⟨j, rfl⟩ : ∃ j, i = j + 1 := ⟨i - 1, by omega⟩
      rfl
    have := (ha _ b).2
    exact ⟨by omega, fun q hq => d q hq⟩
theorem LyB.of {nx : Nat → Nat} {n i : Nat} {s : Nat → Int32} (ha : Adv nx n) (hb : Br nx n i) (hs : ∀ q, q < i → s q = nI (stt nx q)) : LyB nx n i (upd s i (nI n)) := by
  refine ⟨ha, hb, fun q hq => ?_⟩
  by_cases hc : q = i
  · subst hc
    rw [pk_us, hb.1]
  · rw [pk_un hc]
    exact hs q (by omega)
theorem down_lt {x : Int32} {n d : Nat} (hx : x = nI (n - d) - nI 1) (hn : n ≤ 24) (h : x < 0) (hd : d ≤ n) : d = n := by
  rcases Nat.lt_or_ge d n with q | q
  · exfalso
    rw [hx, pk_sub (by omega)] at h
    exact nI_pos (by omega) h
  · omega
theorem down_ge {x : Int32} {n d : Nat} (hx : x = nI (n - d) - nI 1) (hn : n ≤ 24) (h : ¬ x < 0) : d < n ∧ nI (n - 1 - d) = x := by
  rcases Nat.lt_or_ge d n with q | q
  · refine ⟨q, ?_⟩
    rw [hx, pk_sub (by omega)]
    congr 1
    omega
  · exfalso
    rw [hx, show n - d = 0 from by omega] at h
    exact h (by decide)
theorem dec1 (a : Nat) : nI a + Int32.ofInt (-1) = nI a - nI 1 := by
  rw [Int32.sub_eq_add_neg]
  rfl
theorem inn_yes {b : Nat → Nat → Int32} {m : Int32} {n k t : Nat} {T : Nat → Int32} (h : bad b m n k (k + t + 1) + T (k + t + 2) ≤ (inn b m n T k t).1) : inn b m n T k (t + 1) = (bad b m n k (k + t + 1) + T (k + t + 2), k + t + 2) := if_pos h
theorem inn_no {b : Nat → Nat → Int32} {m : Int32} {n k t : Nat} {T : Nat → Int32} (h : ¬ bad b m n k (k + t + 1) + T (k + t + 2) ≤ (inn b m n T k t).1) : inn b m n T k (t + 1) = inn b m n T k t := if_neg h
theorem best_1 {b : Nat → Nat → Int32} {m : Int32} {n d : Nat} {lf2 lf3 : Nat → Int32} (hd : d < n) (h1 : ∀ q, n - d ≤ q → q ≤ n → lf2 q = (bv b m n d).1 q) (g1 : lf3 (n - 1 - d) = (inn b m n (bv b m n d).1 (n - 1 - d) (gx b m n (n - 1 - d) - (n - 1 - d) - 1)).1) (g3 : ∀ q, q ≠ n - 1 - d → lf3 q = lf2 q) : ∀ q, n - (d + 1) ≤ q → q ≤ n → lf3 q = (bv b m n (d + 1)).1 q := by
  intro q h2 h3
  show _ = upd (bv b m n d).1 (n - 1 - d) _ q
  by_cases hc : q = n - 1 - d
  · subst hc
    rw [pk_us]
    exact g1
  · rw [pk_un hc, g3 q hc]
    exact h1 q (by omega) h3
theorem best_2 {b : Nat → Nat → Int32} {m : Int32} {n d : Nat} {nx2 nx3 : Nat → Int32} (hd : d < n) (h1 : ∀ q, n - d ≤ q → q < n → nx2 q = nI ((bv b m n d).2 q)) (g1 : nx3 (n - 1 - d) = nI (inn b m n (bv b m n d).1 (n - 1 - d) (gx b m n (n - 1 - d) - (n - 1 - d) - 1)).2) (g3 : ∀ q, q ≠ n - 1 - d → nx3 q = nx2 q) : ∀ q, n - (d + 1) ≤ q → q < n → nx3 q = nI ((bv b m n (d + 1)).2 q) := by
  intro q h2 h3
  show _ = nI (va_up (bv b m n d).2 (n - 1 - d) _ q)
  by_cases hc : q = n - 1 - d
  · subst hc
    rw [va_up_self]
    exact g1
  · rw [va_up_ne _ _ hc, g3 q hc]
    exact h1 q (by omega) h3
theorem fitI_n {μ : Mu} {nx : Nat → Nat} {m : Int32} {i : Nat} (h : fitI μ nx m i = 0) : ¬ bol μ nx i ≤ m := fun q => by
  unfold fitI at h
  rw [if_pos q] at h
  exact absurd h (by decide)
theorem fitI_y {μ : Mu} {nx : Nat → Nat} {m : Int32} {i : Nat} (h : ¬ fitI μ nx m i = 0) : bol μ nx i ≤ m := by
  rcases Classical.em (bol μ nx i ≤ m) with q | q
  · exact q
  · exact absurd (if_neg q) h
theorem indN_le (μ : Mu) (nx : Nat → Nat) (m lo : Int32) (L i : Nat) : indN μ nx m lo L i ≤ 1 := by
  unfold indN
  split
  · split
    · split <;> omega
    · omega
  · omega
theorem unfN_y {μ : Mu} {nx : Nat → Nat} {m : Int32} {i : Nat} (h : bol μ nx i ≤ m) : unfN μ nx m i = 0 := if_pos h
theorem unfN_n {μ : Mu} {nx : Nat → Nat} {m : Int32} {i : Nat} (h : ¬ bol μ nx i ≤ m) : unfN μ nx m i = 1 := if_neg h
theorem sm_0 {f : Nat → Nat} {k : Nat} (h : f k = 0) : smN f (k + 1) = smN f k := by
  show smN f k + f k = _
  rw [h]
  rfl
theorem sm_1 {f : Nat → Nat} {k : Nat} (h : f k = 1) : smN f (k + 1) = smN f k + 1 := by
  show smN f k + f k = _
  rw [h]
