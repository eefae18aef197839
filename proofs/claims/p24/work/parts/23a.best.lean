/-! The best way is no worse than the greedy one; sums over lines, words, sorts -/
section BST
variable {b : Nat → Nat → Int32} {m : Int32} {n : Nat}
theorem inn_spec (lf : Nat → Int32) (k : Nat) : ∀ t, (inn b m n lf k t).1 = bad b m n k ((inn b m n lf k t).2 - 1) + lf (inn b m n lf k t).2 ∧ ∀ x, k < x → x ≤ k + t + 1 → (inn b m n lf k t).1 ≤ bad b m n k (x - 1) + lf x := by
  intro t
  induction t with
  | zero => exact ⟨rfl, fun x h1 h2 => by rw [show x = k + 1 from by omega]; exact Int32.le_refl _⟩
  | succ t ih =>
    by_cases hc : bad b m n k (k + t + 1) + lf (k + t + 2) ≤ (inn b m n lf k t).1
    · rw [inn_yes hc]
      refine ⟨rfl, fun x h1 h2 => ?_⟩
      rcases Nat.lt_or_ge x (k + t + 2) with q | q
      · exact Int32.le_trans hc (ih.2 x h1 (by omega))
      · rw [show x = k + t + 2 from by omega]
        exact Int32.le_refl _
    · rw [inn_no hc]
      refine ⟨ih.1, fun x h1 h2 => ?_⟩
      rcases Nat.lt_or_ge x (k + t + 2) with q | q
      · exact ih.2 x h1 (by omega)
      · rw [show x = k + t + 2 from by omega]
        exact Int32.le_of_lt (Int32.not_le.mp hc)
theorem inn_congr {lf lf' : Nat → Int32} {k : Nat} (h : ∀ x, k < x → lf x = lf' x) : ∀ t, inn b m n lf k t = inn b m n lf' k t := by
  intro t
  induction t with
  | zero =>
    show (bad b m n k k + lf (k + 1), k + 1) = (bad b m n k k + lf' (k + 1), k + 1)
    rw [h _ (Nat.lt_succ_self k)]
  | succ t ih =>
    show (if bad b m n k (k + t + 1) + lf (k + t + 2) ≤ (inn b m n lf k t).1 then _ else _) = (if bad b m n k (k + t + 1) + lf' (k + t + 2) ≤ (inn b m n lf' k t).1 then _ else _)
    rw [ih, h (k + t + 2) (by omega)]
theorem bv_up (d : Nat) : ∀ e, d + e ≤ n → ∀ k, n - d ≤ k → (bv b m n (d + e)).1 k = (bv b m n d).1 k ∧ (bv b m n (d + e)).2 k = (bv b m n d).2 k := by
  intro e
  induction e with
  | zero => intro _ k _; exact ⟨rfl, rfl⟩
  | succ e ih =>
    intro he k hk
    obtain ⟨h1, h2⟩ := ih (by omega) k hk
    refine ⟨?_, ?_⟩
    · show upd (bv b m n (d + e)).1 (n - 1 - (d + e)) _ k = _
      rw [pk_un (by omega)]
      exact h1
    · show va_up (bv b m n (d + e)).2 (n - 1 - (d + e)) _ k = _
      rw [va_up_ne _ _ (by omega)]
      exact h2
theorem lfm_n : lfm b m n n = nI 0 := by
  have h := (bv_up (b := b) (m := m) (n := n) 0 n (by omega) n (by omega)).1
  rw [Nat.zero_add] at h
  exact h
theorem lfm_k {k : Nat} (hk : k < n) : lfm b m n k = bad b m n k (nb b m n k - 1) + lfm b m n (nb b m n k) ∧ ∀ x, k < x → x ≤ gx b m n k → lfm b m n k ≤ bad b m n k (x - 1) + lfm b m n x := by
  have h0 := gx_spec b m hk
  have h1 : ∀ q, n - (n - 1 - k + 1) ≤ q → lfm b m n q = (bv b m n (n - 1 - k + 1)).1 q ∧ nb b m n q = (bv b m n (n - 1 - k + 1)).2 q := fun q hq => by
    have := bv_up (b := b) (m := m) (n := n) (n - 1 - k + 1) k (by omega) q hq
    rw [show n - 1 - k + 1 + k = n from by omega] at this
    exact this
  have h2 : ∀ q, k < q → (bv b m n (n - 1 - k)).1 q = lfm b m n q := fun q hq => by
    have := (bv_up (b := b) (m := m) (n := n) (n - 1 - k) (k + 1) (by omega) q (by omega)).1
    rw [show n - 1 - k + (k + 1) = n from by omega] at this
    exact this.symm
  have h3 := h1 k (by omega)
  have e1 : (bv b m n (n - 1 - k + 1)).1 k = (inn b m n (lfm b m n) k (gx b m n k - k - 1)).1 := by
    show upd (bv b m n (n - 1 - k)).1 (n - 1 - (n - 1 - k)) _ k = _
    rw [show n - 1 - (n - 1 - k) = k from by omega, pk_us, inn_congr h2]
  have e2 : (bv b m n (n - 1 - k + 1)).2 k = (inn b m n (lfm b m n) k (gx b m n k - k - 1)).2 := by
    show va_up (bv b m n (n - 1 - k)).2 (n - 1 - (n - 1 - k)) _ k = _
    rw [show n - 1 - (n - 1 - k) = k from by omega, va_up_self, inn_congr h2]
  have h4 := inn_spec (b := b) (m := m) (n := n) (lfm b m n) k (gx b m n k - k - 1)
  rw [h3.1, h3.2, e1, e2]
  exact ⟨h4.1, fun x hx1 hx2 => h4.2 x hx1 (by omega)⟩
/-- small badness -/
def Sml (b : Nat → Nat → Int32) (m : Int32) (n : Nat) : Prop := ∀ i j, i ≤ j → j < n → 0 ≤ (bad b m n i j).toInt ∧ (bad b m n i j).toInt ≤ 160000
theorem lfm_i (hb : Sml b m n) (hn : n ≤ 24) : ∀ d k, d + k = n → 0 ≤ (lfm b m n k).toInt ∧ (lfm b m n k).toInt ≤ 160000 * d := by
  intro d
  induction d using Nat.strongRecOn with
  | _ d ih =>
    intro k hk
    rcases Nat.eq_zero_or_pos d with q | q
    · subst q
      rw [show k = n from by omega, lfm_n, tI_0]
      omega
    · have hkn : k < n := by omega
      obtain ⟨a1, a2⟩ := nb_adv b m n k hkn
      obtain ⟨b1, b2⟩ := ih (n - nb b m n k) (by omega) (nb b m n k) (by omega)
      obtain ⟨c1, c2⟩ := hb k (nb b m n k - 1) (by omega) (by omega)
      rw [(lfm_k hkn).1, tI_add (by omega) (by omega)]
      omega
theorem sumB_best {μ : Mu} (h : ∀ i, i ≤ lnw μ 1 → smI (fun i => bad (bo μ) (mv μ 0 0) (mn μ) (stt (nxw μ 1) i) (stt (nxw μ 1) (i + 1) - 1)) i + lfm (bo μ) (mv μ 0 0) (mn μ) (stt (nxw μ 1) i) = lbd μ) : sumB μ (nxw μ 1) (mv μ 0 0) (lnw μ 1) = lbd μ := by
  have h1 := h (lnw μ 1) (Nat.le_refl _)
  have ha : Adv (nxw μ 1) (mn μ) := nb_adv _ _ _
  rw [show stt (nxw μ 1) (lnw μ 1) = mn μ from (lno_br ha).1, lfm_n, show nI 0 = (0 : Int32) from rfl, Int32.add_zero] at h1
  exact h1
theorem best_sum (μ : Mu) : sumB μ (nxw μ 1) (mv μ 0 0) (lnw μ 1) = lbd μ := by
  have ha : Adv (nxw μ 1) (mn μ) := nb_adv _ _ _
  refine sumB_best ?_
  intro i
  induction i with
  | zero =>
    intro _
    show nI 0 + lfm _ _ _ 0 = lbd μ
    rw [show nI 0 = (0 : Int32) from rfl, Int32.zero_add]
    rfl
  | succ i ih =>
    intro hi
    have h1 := ih (by omega)
    have h2 := (lno_br ha).2 i (by have : lnw μ 1 = lno (nxw μ 1) (mn μ) := rfl; omega)
    have h3 := (lfm_k (b := bo μ) (m := mv μ 0 0) h2).1
    rw [h3] at h1
    show smI _ i + bad (bo μ) (mv μ 0 0) (mn μ) (stt (nxw μ 1) i) (nb (bo μ) (mv μ 0 0) (mn μ) (stt (nxw μ 1) i) - 1) + lfm _ _ _ (nb (bo μ) (mv μ 0 0) (mn μ) (stt (nxw μ 1) i)) = _
    rw [Int32.add_assoc]
    exact h1
end BST
theorem sml_bo {μ : Mu} (ho : Ok μ) (hg : Rg μ) : Sml (bo μ) (mv μ 0 0) (mn μ) := by
  intro i j hij hj
  obtain ⟨m1, m2⟩ := hg.1
  have hb := bo_low ho hg (i := i) (j - i) (by omega)
  rw [show i + (j - i) = j from by omega] at hb
  obtain ⟨b1, b2⟩ := hb
  have e := tI_sub (a := mv μ 0 0) (b := bo μ i j) (by omega) (by omega)
  unfold bad
  split
  · rw [nI_toInt (by decide)]
    omega
  · next hc =>
    split
    · rw [tI_0]
      omega
    · rw [fa_lt, tI_0] at hc
      have h0 : 0 ≤ (mv μ 0 0 - bo μ i j).toInt := by omega
      have h4 : (mv μ 0 0 - bo μ i j).toInt ≤ 400 := by rw [e]; omega
      have p0 := Int.mul_nonneg h0 h0
      have p1 : (mv μ 0 0 - bo μ i j).toInt * (mv μ 0 0 - bo μ i j).toInt ≤ 400 * 400 := Int.mul_le_mul h4 h4 h0 (by omega)
      rw [tI_mul (by omega) (by omega)]
      omega
theorem greedy_sum {μ : Mu} (ho : Ok μ) (hg : Rg μ) : lbd μ ≤ sumB μ (nxw μ 0) (mv μ 0 0) (lnw μ 0) := by
  have ha : Adv (nxw μ 0) (mn μ) := gx_adv _ _ _
  have hs := sml_bo ho hg
  have h24 := ho.1
  have hl := (lno_br ha).le ha
  have key : ∀ i, i ≤ lnw μ 0 → 0 ≤ (sumB μ (nxw μ 0) (mv μ 0 0) i).toInt ∧ (sumB μ (nxw μ 0) (mv μ 0 0) i).toInt ≤ 160000 * i ∧ (lbd μ).toInt ≤ (sumB μ (nxw μ 0) (mv μ 0 0) i).toInt + (lfm (bo μ) (mv μ 0 0) (mn μ) (stt (nxw μ 0) i)).toInt := by
    intro i
    induction i with
    | zero =>
      intro _
      refine ⟨Int.le_refl _, Int.le_refl _, ?_⟩
      show (lfm _ _ _ 0).toInt ≤ (nI 0).toInt + (lfm _ _ _ 0).toInt
      rw [tI_0]
      omega
    | succ i ih =>
      intro hi
      have e0 : lnw μ 0 = lno (nxw μ 0) (mn μ) := rfl
      obtain ⟨h1, h2, h3⟩ := ih (by omega)
      have h4 := (lno_br ha).2 i (by omega)
      obtain ⟨a1, a2⟩ := ha _ h4
      have h5 := (lfm_k (b := bo μ) (m := mv μ 0 0) h4).2 (nxw μ 0 (stt (nxw μ 0) i)) a1 (Nat.le_refl _)
      obtain ⟨c1, c2⟩ := hs (stt (nxw μ 0) i) (nxw μ 0 (stt (nxw μ 0) i) - 1) (by omega) (by omega)
      obtain ⟨d1, d2⟩ := lfm_i hs h24 (mn μ - nxw μ 0 (stt (nxw μ 0) i)) (nxw μ 0 (stt (nxw μ 0) i)) (by omega)
      rw [fa_le, tI_add (by omega) (by omega)] at h5
      have e : (sumB μ (nxw μ 0) (mv μ 0 0) (i + 1)).toInt = (sumB μ (nxw μ 0) (mv μ 0 0) i).toInt + (bad (bo μ) (mv μ 0 0) (mn μ) (stt (nxw μ 0) i) (nxw μ 0 (stt (nxw μ 0) i) - 1)).toInt := by
        show (sumB μ (nxw μ 0) (mv μ 0 0) i + bad (bo μ) (mv μ 0 0) (mn μ) (stt (nxw μ 0) i) (nxw μ 0 (stt (nxw μ 0) i) - 1)).toInt = _
        exact tI_add (by omega) (by omega)
      rw [e]
      refine ⟨by omega, by omega, ?_⟩
      show _ ≤ _ + (lfm _ _ _ (nxw μ 0 (stt (nxw μ 0) i))).toInt
      omega
  obtain ⟨h1, h2, h3⟩ := key (lnw μ 0) (Nat.le_refl _)
  rw [show stt (nxw μ 0) (lnw μ 0) = mn μ from (lno_br ha).1, lfm_n, tI_0] at h3
  rw [fa_le]
  omega
theorem best_le {μ : Mu} (ho : Ok μ) (hg : Rg μ) : sumB μ (nxw μ 1) (mv μ 0 0) (lnw μ 1) ≤ sumB μ (nxw μ 0) (mv μ 0 0) (lnw μ 0) := by
  rw [best_sum]
  exact greedy_sum ho hg
theorem smI_ext {f g : Nat → Int32} : ∀ k, (∀ i, i < k → f i = g i) → smI f k = smI g k := by
  intro k
  induction k with
  | zero => intro _; rfl
  | succ k ih =>
    intro h
    show smI f k + f k = smI g k + g k
    rw [ih (fun i hi => h i (by omega)), h k (by omega)]
theorem same_sum {μ : Mu} (h : Same μ) : sumB μ (nxw μ 0) (mv μ 0 0) (lnw μ 0) = sumB μ (nxw μ 1) (mv μ 0 0) (lnw μ 1) := by
  obtain ⟨h1, h2⟩ := h
  have ha : Adv (nxw μ 0) (mn μ) := gx_adv _ _ _
  have hb : Adv (nxw μ 1) (mn μ) := nb_adv _ _ _
  have h3 : ∀ i, i ≤ lnw μ 0 → stt (nxw μ 0) i = stt (nxw μ 1) i := fun i hi => by
    rcases Nat.lt_or_ge i (lnw μ 0) with q | q
    · exact h2 i q
    · rw [show i = lnw μ 0 from by omega]
      rw [show stt (nxw μ 0) (lnw μ 0) = mn μ from (lno_br ha).1, h1]
      exact (lno_br hb).1.symm
  rw [← h1]
  exact smI_ext _ (fun i hi => by rw [h3 i (by omega), h3 (i + 1) (by omega)])
theorem pl_ah (μ : Mu) (k : Nat) : pl μ k = ah μ k + nI k * mv μ 0 1 := by
  induction k with
  | zero =>
    show nI 0 = nI 0 + nI 0 * mv μ 0 1
    rw [show nI 0 = (0 : Int32) from rfl]
    grind
  | succ k ih =>
    show pl μ k + wd μ k + mv μ 0 1 = ah μ k + wd μ k + nI (k + 1) * mv μ 0 1
    rw [ih, ← nI_add, show nI 1 = (1 : Int32) from rfl]
    grind
theorem line_ah {μ : Mu} {x y : Nat} (h : x < y) : ah μ x + (wl μ x (y - 1) - (nI (y - x) - nI 1) * mv μ 0 1) = ah μ y := by
  unfold wl
  rw [show y - 1 + 1 = y from by omega, pl_ah, pl_ah, ← pk_sub (Nat.le_of_lt h), show nI 1 = (1 : Int32) from rfl]
  grind
theorem smI_add (f g : Nat → Int32) : ∀ k, smI (fun s => f s + g s) k = smI f k + smI g k := by
  intro k
  induction k with
  | zero => rfl
  | succ k ih =>
    show smI (fun s => f s + g s) k + (f k + g k) = smI f k + f k + (smI g k + g k)
    rw [ih]
    grind
theorem cnW_all {μ : Mu} {w : Nat} : ∀ k, (∀ j, j < k → so μ w j < 8) → smN (fun s => cnW μ s w k) 8 = k := by
  intro k
  induction k with
  | zero => intro _; rfl
  | succ k ih =>
    intro h
    have h1 := ih (fun j hj => h j (by omega))
    have h2 := h k (by omega)
    have e : ∀ s, cnW μ s w (k + 1) = cnW μ s w k + (if so μ w k = s then 1 else 0) := fun s => rfl
    simp only [smN, e] at h1 ⊢
    rcases (show so μ w k = 0 ∨ so μ w k = 1 ∨ so μ w k = 2 ∨ so μ w k = 3 ∨ so μ w k = 4 ∨ so μ w k = 5 ∨ so μ w k = 6 ∨ so μ w k = 7 from by omega) with q | q | q | q | q | q | q | q <;> rw [q] <;> simp <;> omega
theorem cnT_all {μ : Mu} (ho : Ok μ) : ∀ k, k ≤ mn μ → smN (fun s => cnT μ s k) 8 = smN (ml μ) k := by
  intro k
  induction k with
  | zero => intro _; rfl
  | succ k ih =>
    intro hk
    have h1 := ih (by omega)
    have h2 := cnW_all (μ := μ) (w := k) (ml μ k) (fun j hj => ho.so (by omega) hj)
    have e : ∀ s, cnT μ s (k + 1) = cnT μ s k + cnW μ s k (ml μ k) := fun s => rfl
    have e2 : smN (ml μ) (k + 1) = smN (ml μ) k + ml μ k := rfl
    rw [e2]
    simp only [smN, e] at h1 h2 ⊢
    omega
theorem wdS_all {μ : Mu} {w : Nat} : ∀ k, (∀ j, j < k → so μ w j < 8) → smI (fun s => nI (cnW μ s w k) * mv μ 1 s) 8 = wdS μ w k := by
  intro k
  induction k with
  | zero =>
    intro _
    have e : ∀ s, cnW μ s w 0 = 0 := fun s => rfl
    show _ = nI 0
    simp only [smI, e, show nI 0 = (0 : Int32) from rfl]
    grind
  | succ k ih =>
    intro h
    have h1 := ih (fun j hj => h j (by omega))
    have h2 := h k (by omega)
    have e : ∀ s, nI (cnW μ s w (k + 1)) = nI (cnW μ s w k) + (if so μ w k = s then 1 else 0) := fun s => by
      show nI (cnW μ s w k + (if so μ w k = s then 1 else 0)) = _
      rw [← nI_add]
      split <;> rfl
    show _ = wdS μ w k + mv μ 1 (so μ w k)
    rw [← h1]
    simp only [smI, e]
    rcases (show so μ w k = 0 ∨ so μ w k = 1 ∨ so μ w k = 2 ∨ so μ w k = 3 ∨ so μ w k = 4 ∨ so μ w k = 5 ∨ so μ w k = 6 ∨ so μ w k = 7 from by omega) with q | q | q | q | q | q | q | q <;> rw [q] <;> simp <;> grind
theorem wd_all {μ : Mu} (ho : Ok μ) : ∀ k, k ≤ mn μ → smI (fun s => nI (cnT μ s k) * mv μ 1 s) 8 = ah μ k := by
  intro k
  induction k with
  | zero =>
    intro _
    have e : ∀ s, cnT μ s 0 = 0 := fun s => rfl
    show _ = nI 0
    simp only [smI, e, show nI 0 = (0 : Int32) from rfl]
    grind
  | succ k ih =>
    intro hk
    have h1 := ih (by omega)
    have h2 := wdS_all (μ := μ) (w := k) (ml μ k) (fun j hj => ho.so (by omega) hj)
    have e : (fun s => nI (cnT μ s (k + 1)) * mv μ 1 s) = fun s => nI (cnT μ s k) * mv μ 1 s + nI (cnW μ s k (ml μ k)) * mv μ 1 s := funext fun s => by
      rw [cnT_s, ← nI_add, Int32.add_mul]
    show _ = ah μ k + wdS μ k (ml μ k)
    rw [← h1, ← h2, e, smI_add]
