/-! Bodies grow with their words; greedily no fewer words are placed; the least badness -/
theorem tI_add {a b : Int32} (h1 : -2147483648 ≤ a.toInt + b.toInt) (h2 : a.toInt + b.toInt ≤ 2147483647) : (a + b).toInt = a.toInt + b.toInt := by
  rw [Int32.toInt_add, Int.bmod_eq_of_le (by omega) (by omega)]
theorem tI_sub {a b : Int32} (h1 : -2147483648 ≤ a.toInt - b.toInt) (h2 : a.toInt - b.toInt ≤ 2147483647) : (a - b).toInt = a.toInt - b.toInt := by
  rw [Int32.toInt_sub, Int.bmod_eq_of_le (by omega) (by omega)]
theorem tI_mul {a b : Int32} (h1 : -2147483648 ≤ a.toInt * b.toInt) (h2 : a.toInt * b.toInt ≤ 2147483647) : (a * b).toInt = a.toInt * b.toInt := by
  rw [Int32.toInt_mul, Int.bmod_eq_of_le (by omega) (by omega)]
theorem tI_0 : (nI 0).toInt = 0 := rfl
section ORD
variable {μ : Mu}
theorem wdS_i (ho : Ok μ) (hg : Rg μ) {w : Nat} (hw : w < mn μ) : ∀ k, k ≤ ml μ w → (k : Int) ≤ (wdS μ w k).toInt ∧ (wdS μ w k).toInt ≤ 20 * k := by
  have hl := (ho.len hw).2
  intro k
  induction k with
  | zero => intro _; exact ⟨Int.le_refl _, Int.le_refl _⟩
  | succ k ih =>
    intro hk
    obtain ⟨h1, h2⟩ := ih (by omega)
    obtain ⟨h3, h4⟩ := (hg.2.2.2.2 (so μ w k) (ho.so hw (by omega))).1
    have e : (wdS μ w (k + 1)).toInt = (wdS μ w k).toInt + (mv μ 1 (so μ w k)).toInt := tI_add (by omega) (by omega)
    rw [e]
    omega
/-- a word is as wide as each of its signs, at least -/
theorem wdS_ge (ho : Ok μ) (hg : Rg μ) {w : Nat} (hw : w < mn μ) {j : Nat} : ∀ k, k ≤ ml μ w → j < k → (mv μ 1 (so μ w j)).toInt ≤ (wdS μ w k).toInt := by
  have hl := (ho.len hw).2
  intro k
  induction k with
  | zero => intro _ h; omega
  | succ k ih =>
    intro hk hj
    obtain ⟨h1, h2⟩ := wdS_i ho hg hw k (by omega)
    obtain ⟨h3, h4⟩ := (hg.2.2.2.2 (so μ w k) (ho.so hw (by omega))).1
    have e : (wdS μ w (k + 1)).toInt = (wdS μ w k).toInt + (mv μ 1 (so μ w k)).toInt := tI_add (by omega) (by omega)
    rw [e]
    rcases Nat.lt_or_ge j k with q | q
    · have := ih (by omega) q
      omega
    · rw [show j = k from by omega]
      omega
theorem hg_i (hg' : Rg μ) {side s : Nat} (hs : s < 8) (hsd : side = 2 ∨ side = 3) : 0 ≤ (hg μ side s).toInt ∧ (hg μ side s).toInt ≤ (mv μ 1 s).toInt := by
  obtain ⟨⟨a1, a2⟩, ⟨b1, b2⟩, ⟨c1, c2⟩⟩ := hg'.2.2.2.2 s hs
  have hd : 0 ≤ (mv μ side s).toInt ∧ (mv μ side s).toInt ≤ 100 := by
    rcases hsd with e | e <;> subst e
    · exact ⟨b1, b2⟩
    · exact ⟨c1, c2⟩
  unfold hg
  split
  · rw [tI_0]
    omega
  · have p0 : 0 ≤ (mv μ 1 s).toInt * (mv μ side s).toInt := Int.mul_nonneg (by omega) hd.1
    have p1 : (mv μ 1 s).toInt * (mv μ side s).toInt ≤ (mv μ 1 s).toInt * 100 := Int.mul_le_mul_of_nonneg_left hd.2 (by omega)
    have e := tI_mul (a := mv μ 1 s) (b := mv μ side s) (by omega) (by omega)
    rw [lg_idiv_nonneg (by rw [e]; exact p0) (by decide), e, nI_toInt (by decide)]
    omega
theorem wd_i (ho : Ok μ) (hg : Rg μ) {w : Nat} (hw : w < mn μ) : 1 ≤ (wd μ w).toInt ∧ (wd μ w).toInt ≤ 200 := by
  have hl := ho.len hw
  have h := wdS_i ho hg hw (ml μ w) (Nat.le_refl _)
  have e : wd μ w = wdS μ w (ml μ w) := rfl
  rw [e]
  omega
theorem lh_i (ho : Ok μ) (hg : Rg μ) {w : Nat} (hw : w < mn μ) : 0 ≤ (lh μ w).toInt ∧ (lh μ w).toInt ≤ (wd μ w).toInt := by
  have hl := ho.len hw
  have h := hg_i hg (side := 2) (ho.so hw (j := 0) (by omega)) (Or.inl rfl)
  have h2 := wdS_ge ho hg hw (j := 0) (ml μ w) (Nat.le_refl _) (by omega)
  exact ⟨h.1, Int.le_trans h.2 h2⟩
theorem rh_i (ho : Ok μ) (hg : Rg μ) {w : Nat} (hw : w < mn μ) : 0 ≤ (rh μ w).toInt ∧ (rh μ w).toInt ≤ (wd μ w).toInt := by
  have hl := ho.len hw
  have h := hg_i hg (side := 3) (ho.so hw (j := ml μ w - 1) (by omega)) (Or.inr rfl)
  have h2 := wdS_ge ho hg hw (j := ml μ w - 1) (ml μ w) (Nat.le_refl _) (by omega)
  exact ⟨h.1, Int.le_trans h.2 h2⟩
theorem pl_i (ho : Ok μ) (hg : Rg μ) : ∀ k, k ≤ mn μ → 0 ≤ (pl μ k).toInt ∧ (pl μ k).toInt ≤ 220 * k ∧ (k < mn μ → (pl μ (k + 1)).toInt = (pl μ k).toInt + (wd μ k).toInt + (mv μ 0 1).toInt) := by
  obtain ⟨s1, s2⟩ := hg.2.1
  have h24 := ho.1
  have step : ∀ k, k < mn μ → 0 ≤ (pl μ k).toInt → (pl μ k).toInt ≤ 220 * k → (pl μ (k + 1)).toInt = (pl μ k).toInt + (wd μ k).toInt + (mv μ 0 1).toInt := by
    intro k hk h1 h2
    obtain ⟨w1, w2⟩ := wd_i ho hg hk
    show (pl μ k + wd μ k + mv μ 0 1).toInt = _
    have e := tI_add (a := pl μ k) (b := wd μ k) (by omega) (by omega)
    rw [tI_add (by rw [e]; omega) (by rw [e]; omega), e]
  intro k
  induction k with
  | zero => intro _; exact ⟨Int.le_refl _, Int.le_refl _, fun h => step 0 h (Int.le_refl _) (Int.le_refl _)⟩
  | succ k ih =>
    intro hk
    obtain ⟨h1, h2, h3⟩ := ih (by omega)
    have h4 := h3 (by omega)
    obtain ⟨w1, w2⟩ := wd_i ho hg (show k < mn μ by omega)
    exact ⟨by omega, by omega, fun q => step (k + 1) q (by omega) (by omega)⟩
theorem bo_i (ho : Ok μ) (hg : Rg μ) {i j : Nat} (hij : i ≤ j) (hj : j < mn μ) : (bo μ i j).toInt = (pl μ (j + 1)).toInt - (pl μ i).toInt - (mv μ 0 1).toInt - (lh μ i).toInt - (rh μ j).toInt := by
  obtain ⟨s1, s2⟩ := hg.2.1
  have h24 := ho.1
  obtain ⟨a1, a2, -⟩ := pl_i ho hg (j + 1) (by omega)
  obtain ⟨b1, b2, -⟩ := pl_i ho hg i (by omega)
  obtain ⟨c1, c2⟩ := lh_i ho hg (show i < mn μ by omega)
  obtain ⟨d1, d2⟩ := rh_i ho hg hj
  obtain ⟨w1, w2⟩ := wd_i ho hg (show i < mn μ by omega)
  obtain ⟨v1, v2⟩ := wd_i ho hg hj
  show (pl μ (j + 1) - pl μ i - mv μ 0 1 - lh μ i - rh μ j).toInt = _
  have e1 := tI_sub (a := pl μ (j + 1)) (b := pl μ i) (by omega) (by omega)
  have e2 := tI_sub (a := pl μ (j + 1) - pl μ i) (b := mv μ 0 1) (by rw [e1]; omega) (by rw [e1]; omega)
  have e3 := tI_sub (a := pl μ (j + 1) - pl μ i - mv μ 0 1) (b := lh μ i) (by rw [e2, e1]; omega) (by rw [e2, e1]; omega)
  rw [tI_sub (by rw [e3, e2, e1]; omega) (by rw [e3, e2, e1]; omega), e3, e2, e1]
theorem bo_r (ho : Ok μ) (hg : Rg μ) {i j : Nat} (hij : i ≤ j) (hj : j + 1 < mn μ) : (bo μ i j).toInt + (mv μ 0 1).toInt ≤ (bo μ i (j + 1)).toInt := by
  rw [bo_i ho hg hij (by omega), bo_i ho hg (show i ≤ j + 1 by omega) hj]
  obtain ⟨s1, s2⟩ := hg.2.1
  have h1 := (pl_i ho hg (j + 1) (by omega)).2.2 hj
  obtain ⟨d1, d2⟩ := rh_i ho hg hj
  obtain ⟨e1, e2⟩ := rh_i ho hg (show j < mn μ by omega)
  omega
theorem bo_l (ho : Ok μ) (hg : Rg μ) {i j : Nat} (hij : i + 1 ≤ j) (hj : j < mn μ) : (bo μ (i + 1) j).toInt ≤ (bo μ i j).toInt := by
  rw [bo_i ho hg hij hj, bo_i ho hg (show i ≤ j by omega) hj]
  obtain ⟨s1, s2⟩ := hg.2.1
  have h1 := (pl_i ho hg i (by omega)).2.2 (by omega)
  obtain ⟨d1, d2⟩ := lh_i ho hg (show i < mn μ by omega)
  obtain ⟨e1, e2⟩ := lh_i ho hg (show i + 1 < mn μ by omega)
  omega
theorem bo_lm (ho : Ok μ) (hg : Rg μ) {j : Nat} (hj : j < mn μ) (i : Nat) : ∀ d, i + d ≤ j → (bo μ (i + d) j).toInt ≤ (bo μ i j).toInt := by
  intro d
  induction d with
  | zero => intro _; exact Int.le_refl _
  | succ d ih =>
    intro h
    exact Int.le_trans (bo_l ho hg (i := i + d) (by omega) hj) (ih (by omega))
theorem bo_own (ho : Ok μ) (hg : Rg μ) {k : Nat} (hk : k < mn μ) : (bo μ k k).toInt = (wd μ k).toInt - (lh μ k).toInt - (rh μ k).toInt := by
  rw [bo_i ho hg (Nat.le_refl k) hk]
  have h1 := (pl_i ho hg k (by omega)).2.2 hk
  omega
theorem bo_low (ho : Ok μ) (hg : Rg μ) {i : Nat} : ∀ d, i + d < mn μ → -200 ≤ (bo μ i (i + d)).toInt ∧ (bo μ i (i + d)).toInt ≤ 5280 := by
  intro d hd
  have hi : i < mn μ := by omega
  obtain ⟨d1, d2⟩ := lh_i ho hg hi
  obtain ⟨w1, w2⟩ := wd_i ho hg hi
  obtain ⟨e1, e2⟩ := rh_i ho hg hi
  obtain ⟨s1, s2⟩ := hg.2.1
  constructor
  · induction d with
    | zero =>
      have h := bo_own ho hg hi
      show -200 ≤ (bo μ i i).toInt
      omega
    | succ d ih =>
      have h := bo_r ho hg (i := i) (j := i + d) (by omega) hd
      have := ih (by omega)
      show -200 ≤ (bo μ i (i + d + 1)).toInt
      omega
  · rw [bo_i ho hg (by omega) hd]
    obtain ⟨a1, a2, -⟩ := pl_i ho hg (i + d + 1) (by omega)
    obtain ⟨b1, b2, -⟩ := pl_i ho hg i (by omega)
    obtain ⟨f1, f2⟩ := rh_i ho hg hd
    have := ho.1
    omega
/-- a line that begins later ends later -/
theorem gx_mono (ho : Ok μ) (hg : Rg μ) (m : Int32) {k k' : Nat} (hkk : k ≤ k') (hk : k' < mn μ) : gx (bo μ) m (mn μ) k ≤ gx (bo μ) m (mn μ) k' := by
  obtain ⟨a1, a2, a3, a4⟩ := gx_spec (bo μ) m (n := mn μ) (k := k) (by omega)
  obtain ⟨b1, b2, b3, b4⟩ := gx_spec (bo μ) m hk
  rcases Nat.lt_or_ge (gx (bo μ) m (mn μ) k') (gx (bo μ) m (mn μ) k) with q | q
  · exfalso
    rcases b4 with b4 | b4
    · omega
    · refine b4 ?_
      have h1 := a3 _ (by omega) q
      have h2 := bo_lm ho hg (j := gx (bo μ) m (mn μ) k') (by omega) k (k' - k) (by omega)
      rw [show k + (k' - k) = k' from by omega] at h2
      rw [fa_le] at h1 ⊢
      exact Int.le_trans h2 h1
  · exact q
theorem nb_le (b : Nat → Nat → Int32) (m : Int32) (n : Nat) : ∀ d, d ≤ n → ∀ k, n - d ≤ k → k < n → (bv b m n d).2 k ≤ gx b m n k := by
  intro d
  induction d with
  | zero => intro _ k h1 h2; omega
  | succ d ih =>
    intro hd k h1 h2
    show va_up (bv b m n d).2 _ _ k ≤ _
    by_cases hk : k = n - 1 - d
    · subst hk
      rw [va_up_self]
      have h3 := inn_snd b m n (bv b m n d).1 (n - 1 - d) (gx b m n (n - 1 - d) - (n - 1 - d) - 1)
      have h4 := gx_spec b m h2
      omega
    · rw [va_up_ne _ _ hk]
      exact ih (by omega) k (by omega) h2
end ORD
/-- what dominates: greedily each line begins no earlier -/
def Dom (nx ny : Nat → Nat) (n : Nat) : Prop := Adv nx n ∧ Adv ny n ∧ ∀ i, i ≤ lno nx n → stt ny i ≤ stt nx i
theorem Dom.len {nx ny : Nat → Nat} {n : Nat} (h : Dom nx ny n) : lno nx n ≤ lno ny n := by
  rcases Nat.lt_or_ge (lno ny n) (lno nx n) with q | q
  · have h1 := h.2.2 (lno ny n) (by omega)
    have h2 := (lno_br h.1).2 _ q
    have h3 := (lno_br h.2.1).1
    omega
  · exact q
theorem lof_spec {nx : Nat → Nat} {w : Nat} : ∀ L, 0 < L → lof nx w L < L ∧ stt nx (lof nx w L) ≤ w ∧ ∀ k, lof nx w L < k → k < L → w < stt nx k := by
  intro L
  induction L with
  | zero => intro h; omega
  | succ L ih =>
    intro _
    unfold lof
    by_cases hc : stt nx L ≤ w
    · rw [if_pos hc]
      exact ⟨by omega, hc, fun k h1 h2 => by omega⟩
    · rw [if_neg hc]
      rcases Nat.eq_zero_or_pos L with q | q
      · subst q
        exact absurd (Nat.zero_le w) hc
      · obtain ⟨a1, a2, a3⟩ := ih q
        refine ⟨by omega, a2, fun k h1 h2 => ?_⟩
        rcases Nat.lt_or_ge k L with g | g
        · exact a3 k h1 g
        · rw [show k = L from by omega]
          omega
theorem lno_pos {nx : Nat → Nat} {n : Nat} (ha : Adv nx n) (hn : 0 < n) : 0 < lno nx n := by
  rcases Nat.eq_zero_or_pos (lno nx n) with q | q
  · have h1 := (lno_br ha).1
    rw [q] at h1
    have h2 : (0 : Nat) = n := h1
    omega
  · exact q
section LOF
variable {nx ny : Nat → Nat} {n w : Nat}
theorem Dom.lof (h : Dom nx ny n) (hn : 0 < n) : lof nx w (lno nx n) ≤ lof ny w (lno ny n) := by
  obtain ⟨a1, a2, a3⟩ := lof_spec (nx := nx) (w := w) _ (lno_pos h.1 hn)
  obtain ⟨b1, b2, b3⟩ := lof_spec (nx := ny) (w := w) _ (lno_pos h.2.1 hn)
  have h1 := h.2.2 _ (Nat.le_of_lt a1)
  have h2 := h.len
  apply Nat.le_of_not_lt
  intro q
  have := b3 _ q (by omega)
  omega
theorem lof_up (ha : Adv nx n) (hn : 0 < n) {v : Nat} (hvw : v ≤ w) : lof nx v (lno nx n) ≤ lof nx w (lno nx n) := by
  obtain ⟨a1, a2, a3⟩ := lof_spec (nx := nx) (w := v) _ (lno_pos ha hn)
  obtain ⟨b1, b2, b3⟩ := lof_spec (nx := nx) (w := w) _ (lno_pos ha hn)
  apply Nat.le_of_not_lt
  intro q
  have := b3 _ q a1
  omega
theorem lof_one (ha : Adv nx n) (hn : 0 < n) (hw : 0 < w) : lof nx w (lno nx n) ≤ lof nx (w - 1) (lno nx n) + 1 := by
  obtain ⟨a1, a2, a3⟩ := lof_spec (nx := nx) (w := w) _ (lno_pos ha hn)
  obtain ⟨b1, b2, b3⟩ := lof_spec (nx := nx) (w := w - 1) _ (lno_pos ha hn)
  apply Nat.le_of_not_lt
  intro q
  have h1 := b3 (lof nx w (lno nx n) - 1) (by omega) (by omega)
  have h2 := stt_mono ha (lno_br ha) (lof nx w (lno nx n) - 1) (lof nx w (lno nx n)) (by omega) (by omega)
  omega
theorem lof_last (ha : Adv nx n) (hn : 0 < n) : lof nx (n - 1) (lno nx n) = lno nx n - 1 := by
  have hp := lno_pos ha hn
  obtain ⟨a1, a2, a3⟩ := lof_spec (nx := nx) (w := n - 1) _ hp
  have h1 := (lno_br ha).2 (lno nx n - 1) (by omega)
  rcases Nat.lt_or_ge (lof nx (n - 1) (lno nx n)) (lno nx n - 1) with q | q
  · have := a3 _ q (by omega)
    omega
  · omega
end LOF
theorem dom_nxw {μ : Mu} (ho : Ok μ) (hg : Rg μ) : Dom (nxw μ 0) (nxw μ 1) (mn μ) := by
  have ha : Adv (nxw μ 0) (mn μ) := gx_adv _ _ _
  have hb : Adv (nxw μ 1) (mn μ) := nb_adv _ _ _
  refine ⟨ha, hb, ?_⟩
  intro i
  induction i with
  | zero => intro _; exact Nat.le_refl _
  | succ i ih =>
    intro hi
    have h1 := ih (by omega)
    have h2 := (lno_br ha).2 i (by omega)
    show nb (bo μ) (mv μ 0 0) (mn μ) (stt (nxw μ 1) i) ≤ gx (bo μ) (mv μ 0 0) (mn μ) (stt (nxw μ 0) i)
    exact Nat.le_trans (nb_le (bo μ) (mv μ 0 0) (mn μ) (mn μ) (Nat.le_refl _) _ (by omega) (by omega)) (gx_mono ho hg _ h1 h2)
