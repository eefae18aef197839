/-! What a text of words is, and what is asked of it: numbers and functions alone -/
abbrev Mu : Type := (Nat → Nat → Int32) × Nat × (Nat → Nat) × (Nat → Nat → Int32)
/-- 0: settings, 1: widths, 2: left shares, 3: right shares -/
def mv (μ : Mu) (i k : Nat) : Int32 := μ.1 i k
def mn (μ : Mu) : Nat := μ.2.1
def ml (μ : Mu) (w : Nat) : Nat := μ.2.2.1 w
def mg (μ : Mu) (w j : Nat) : Int32 := μ.2.2.2 w j
def sc (c : Int32) : Nat := if nI 97 ≤ c ∧ c ≤ nI 122 then 0 else if c = nI 46 then 1 else if c = nI 44 then 2 else if c = nI 59 then 3 else if c = nI 58 then 4 else if c = nI 45 then 5 else if c = nI 39 then 6 else if c = nI 33 then 7 else 8
def so (μ : Mu) (w j : Nat) : Nat := sc (mg μ w j)
def Ok (μ : Mu) : Prop := mn μ ≤ 24 ∧ ∀ w, w < mn μ → 1 ≤ ml μ w ∧ ml μ w ≤ 10 ∧ ∀ j, j < ml μ w → so μ w j < 8
def wdS (μ : Mu) (w : Nat) : Nat → Int32
  | 0 => nI 0
  | k + 1 => wdS μ w k + mv μ 1 (so μ w k)
def wd (μ : Mu) (w : Nat) : Int32 := wdS μ w (ml μ w)
def hg (μ : Mu) (side s : Nat) : Int32 := if mv μ 0 3 = nI 0 then nI 0 else mv μ 1 s * mv μ side s / nI 100
def lh (μ : Mu) (w : Nat) : Int32 := hg μ 2 (so μ w 0)
def rh (μ : Mu) (w : Nat) : Int32 := hg μ 3 (so μ w (ml μ w - 1))
def ah (μ : Mu) : Nat → Int32
  | 0 => nI 0
  | k + 1 => ah μ k + wd μ k
/-- where a word begins, all in one line -/
def pl (μ : Mu) : Nat → Int32
  | 0 => nI 0
  | k + 1 => pl μ k + wd μ k + mv μ 0 1
def wl (μ : Mu) (i j : Nat) : Int32 := pl μ (j + 1) - pl μ i - mv μ 0 1
def bo (μ : Mu) (i j : Nat) : Int32 := wl μ i j - lh μ i - rh μ j
/-- lines: b the bodies, m the measure, n how many words -/
def bad (b : Nat → Nat → Int32) (m : Int32) (n i j : Nat) : Int32 := if m - b i j < nI 0 then nI 10000 else if j = n - 1 then nI 0 else (m - b i j) * (m - b i j)
def gxf (b : Nat → Nat → Int32) (m : Int32) (n k : Nat) : Nat → Nat → Nat
  | 0, j => j + 1
  | f + 1, j => if j + 1 < n ∧ b k (j + 1) ≤ m then gxf b m n k f (j + 1) else j + 1
/-- where the line that begins with word k ends, greedily -/
def gx (b : Nat → Nat → Int32) (m : Int32) (n k : Nat) : Nat := gxf b m n k n k
/-- where the i-th line begins -/
def stt (nx : Nat → Nat) : Nat → Nat
  | 0 => 0
  | i + 1 => nx (stt nx i)
def cf (nx : Nat → Nat) (n : Nat) : Nat → Nat → Nat
  | 0, _ => 0
  | f + 1, k => if k < n then 1 + cf nx n f (nx k) else 0
/-- how many lines -/
def lno (nx : Nat → Nat) (n : Nat) : Nat := cf nx n n 0
def Adv (nx : Nat → Nat) (n : Nat) : Prop := ∀ k, k < n → k < nx k ∧ nx k ≤ n
def Br (nx : Nat → Nat) (n L : Nat) : Prop := stt nx L = n ∧ ∀ i, i < L → stt nx i < n
def inn (b : Nat → Nat → Int32) (m : Int32) (n : Nat) (lf : Nat → Int32) (k : Nat) : Nat → Int32 × Nat
  | 0 => (bad b m n k k + lf (k + 1), k + 1)
  | t + 1 => if bad b m n k (k + t + 1) + lf (k + t + 2) ≤ (inn b m n lf k t).1 then (bad b m n k (k + t + 1) + lf (k + t + 2), k + t + 2) else inn b m n lf k t
/-- the least badness from a word on, and where its first line ends: for the last d words -/
def bv (b : Nat → Nat → Int32) (m : Int32) (n : Nat) : Nat → (Nat → Int32) × (Nat → Nat)
  | 0 => (fun _ => nI 0, fun _ => 0)
  | d + 1 => (upd (bv b m n d).1 (n - 1 - d) (inn b m n (bv b m n d).1 (n - 1 - d) (gx b m n (n - 1 - d) - (n - 1 - d) - 1)).1, va_up (bv b m n d).2 (n - 1 - d) (inn b m n (bv b m n d).1 (n - 1 - d) (gx b m n (n - 1 - d) - (n - 1 - d) - 1)).2)
def lfm (b : Nat → Nat → Int32) (m : Int32) (n : Nat) : Nat → Int32 := (bv b m n n).1
def nb (b : Nat → Nat → Int32) (m : Int32) (n : Nat) : Nat → Nat := (bv b m n n).2
theorem stt_mono {nx : Nat → Nat} {n L : Nat} (ha : Adv nx n) (h : Br nx n L) : ∀ i j, i < j → j ≤ L → stt nx i < stt nx j := by
  intro i j hij
  induction j with
  | zero => omega
  | succ j ih =>
    intro hj
    have h1 := h.2 j (by omega)
    have h2 := (ha _ h1).1
    show stt nx i < nx (stt nx j)
    rcases Nat.lt_or_ge i j with q | q
    · have := ih q (by omega)
      omega
    · have : i = j := by omega
      subst this
      exact h2
theorem Br.one {nx : Nat → Nat} {n L L' : Nat} (h : Br nx n L) (h' : Br nx n L') : L = L' := by
  rcases Nat.lt_trichotomy L L' with q | q | q
  · have := h'.2 L q
    have := h.1
    omega
  · exact q
  · have := h.2 L' q
    have := h'.1
    omega
theorem stt_ge {nx : Nat → Nat} {n : Nat} (ha : Adv nx n) : ∀ i, (∀ k, k < i → stt nx k < n) → i ≤ stt nx i := by
  intro i
  induction i with
  | zero => intro _; exact Nat.zero_le _
  | succ i ih =>
    intro h
    have h1 := ih (fun k hk => h k (by omega))
    have h2 := (ha _ (h i (by omega))).1
    show i + 1 ≤ nx (stt nx i)
    omega
theorem cf_br {nx : Nat → Nat} {n : Nat} (ha : Adv nx n) : ∀ (f i : Nat), n ≤ i + f → (∀ k, k < i → stt nx k < n) → stt nx i ≤ n → Br nx n (i + cf nx n f (stt nx i)) := by
  intro f
  induction f with
  | zero =>
    intro i h1 h2 h3
    have := stt_ge ha i h2
    refine ⟨?_, h2⟩
    show stt nx (i + 0) = n
    rw [Nat.add_zero]
    omega
  | succ f ih =>
    intro i h1 h2 h3
    unfold cf
    by_cases hk : stt nx i < n
    · rw [if_pos hk]
      have := ih (i + 1) (by omega) (fun k hk2 => by
        rcases Nat.lt_or_ge k i with q | q
        · exact h2 k q
        · have : k = i := by omega
          subst this
          exact hk) ((ha _ hk).2)
      rw [show i + (1 + cf nx n f (nx (stt nx i))) = i + 1 + cf nx n f (stt nx (i + 1)) from by rw [show stt nx (i + 1) = nx (stt nx i) from rfl]; omega]
      exact this
    · rw [if_neg hk, Nat.add_zero]
      exact ⟨by omega, h2⟩
theorem lno_br {nx : Nat → Nat} {n : Nat} (ha : Adv nx n) : Br nx n (lno nx n) := by
  have := cf_br ha n 0 (by omega) (fun k hk => by omega) (Nat.zero_le _)
  rw [Nat.zero_add] at this
  exact this
theorem Br.is {nx : Nat → Nat} {n L : Nat} (ha : Adv nx n) (h : Br nx n L) : L = lno nx n := h.one (lno_br ha)
theorem Br.le {nx : Nat → Nat} {n L : Nat} (ha : Adv nx n) (h : Br nx n L) : L ≤ n := by
  have := stt_ge ha L h.2
  have := h.1
  omega
theorem gxf_spec {b : Nat → Nat → Int32} {m : Int32} {n k : Nat} : ∀ (f j : Nat), n ≤ j + f + 1 → j < n → j < gxf b m n k f j ∧ gxf b m n k f j ≤ n ∧ (∀ x, j < x → x < gxf b m n k f j → b k x ≤ m) ∧ (gxf b m n k f j = n ∨ ¬ b k (gxf b m n k f j) ≤ m) := by
  intro f
  induction f with
  | zero =>
    intro j h1 h2
    unfold gxf
    exact ⟨by omega, by omega, fun x _ _ => by omega, Or.inl (by omega)⟩
  | succ f ih =>
    intro j h1 h2
    unfold gxf
    by_cases hc : j + 1 < n ∧ b k (j + 1) ≤ m
    · rw [if_pos hc]
      obtain ⟨a1, a2, a3, a4⟩ := ih (j + 1) (by omega) hc.1
      refine ⟨by omega, a2, fun x hx1 hx2 => ?_, a4⟩
      rcases Nat.lt_or_ge (j + 1) x with q | q
      · exact a3 x q hx2
      · have : x = j + 1 := by omega
        subst this
        exact hc.2
    · rw [if_neg hc]
      refine ⟨by omega, by omega, fun x _ _ => by omega, ?_⟩
      rcases Nat.lt_or_ge (j + 1) n with q | q
      · exact Or.inr (fun z => hc ⟨q, z⟩)
      · exact Or.inl (by omega)
theorem gx_spec (b : Nat → Nat → Int32) (m : Int32) {n k : Nat} (hk : k < n) : k < gx b m n k ∧ gx b m n k ≤ n ∧ (∀ x, k < x → x < gx b m n k → b k x ≤ m) ∧ (gx b m n k = n ∨ ¬ b k (gx b m n k) ≤ m) := gxf_spec n k (by omega) hk
theorem gx_adv (b : Nat → Nat → Int32) (m : Int32) (n : Nat) : Adv (gx b m n) n := fun k hk => ⟨(gx_spec b m hk).1, (gx_spec b m hk).2.1⟩
/-- what ends a line is its end -/
theorem gx_is {b : Nat → Nat → Int32} {m : Int32} {n k x : Nat} (hk : k < n) (h1 : k < x) (h2 : x ≤ n) (h3 : ∀ j, k < j → j < x → b k j ≤ m) (h4 : x = n ∨ ¬ b k x ≤ m) : gx b m n k = x := by
  obtain ⟨a1, a2, a3, a4⟩ := gx_spec b m hk
  rcases Nat.lt_trichotomy (gx b m n k) x with q | q | q
  · rcases a4 with a | a
    · omega
    · exact absurd (h3 _ a1 q) a
  · exact q
  · rcases h4 with a | a
    · omega
    · exact absurd (a3 x h1 q) a
theorem inn_snd (b : Nat → Nat → Int32) (m : Int32) (n : Nat) (lf : Nat → Int32) (k : Nat) : ∀ t, k < (inn b m n lf k t).2 ∧ (inn b m n lf k t).2 ≤ k + t + 1 := by
  intro t
  induction t with
  | zero => exact ⟨Nat.lt_succ_self k, Nat.le_refl _⟩
  | succ t ih =>
    unfold inn
    split
    · exact ⟨by show k < k + t + 2; omega, by show k + t + 2 ≤ _; omega⟩
    · exact ⟨ih.1, by omega⟩
theorem bv_adv (b : Nat → Nat → Int32) (m : Int32) (n : Nat) : ∀ d, d ≤ n → ∀ k, n - d ≤ k → k < n → k < (bv b m n d).2 k ∧ (bv b m n d).2 k ≤ n := by
  intro d
  induction d with
  | zero => intro _ k h1 h2; omega
  | succ d ih =>
    intro hd k h1 h2
    show k < va_up (bv b m n d).2 _ _ k ∧ va_up (bv b m n d).2 _ _ k ≤ n
    by_cases hk : k = n - 1 - d
    · subst hk
      rw [va_up_self]
      have h3 := inn_snd b m n (bv b m n d).1 (n - 1 - d) (gx b m n (n - 1 - d) - (n - 1 - d) - 1)
      have h4 := gx_spec b m h2
      exact ⟨h3.1, by omega⟩
    · rw [va_up_ne _ _ hk]
      exact ih (by omega) k (by omega) h2
theorem nb_adv (b : Nat → Nat → Int32) (m : Int32) (n : Nat) : Adv (nb b m n) n := fun k hk => bv_adv b m n n (Nat.le_refl _) k (by omega) hk
/-- sums of small numbers -/
def smI (f : Nat → Int32) : Nat → Int32
  | 0 => nI 0
  | k + 1 => smI f k + f k
def smN (f : Nat → Nat) : Nat → Nat
  | 0 => 0
  | k + 1 => smN f k + f k
def mxI (f : Nat → Int32) : Nat → Int32
  | 0 => f 0
  | k + 1 => if mxI f k < f (k + 1) then f (k + 1) else mxI f k
theorem smN_le {f : Nat → Nat} {c : Nat} : ∀ n, (∀ k, k < n → f k ≤ c) → smN f n ≤ n * c := by
  intro n
  induction n with
  | zero => intro _; exact Nat.zero_le _
  | succ n ih =>
    intro h
    have h1 := ih (fun k hk => h k (by omega))
    have h2 := h n (by omega)
    rw [Nat.succ_mul]
    show smN f n + f n ≤ _
    omega
/-- downwards: P at k from P behind it -/
theorem dnw {N : Nat} {P : Nat → Prop} (h : ∀ k, k ≤ N → (k < N → P (k + 1)) → P k) : ∀ k, k ≤ N → P k := by
  intro k hk
  obtain ⟨d, hd⟩ : ∃ d, d = N - k := ⟨_, rfl⟩
  induction d generalizing k with
  | zero => exact h k hk (fun q => by omega)
  | succ d ih => exact h k hk (fun q => ih (k + 1) (by omega) (by omega))
theorem upw {P : Nat → Prop} (h0 : P 0) (h : ∀ k, P k → P (k + 1)) : ∀ k, P k := fun k => by
  induction k with
  | zero => exact h0
  | succ k ih => exact h k ih
