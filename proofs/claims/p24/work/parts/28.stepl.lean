/-! What one step's calls answer -/
theorem rg0 {k v : Nat} (hk : k = 0) (h : 20 ≤ v ∧ v ≤ 200) : lsv k ≤ nI v ∧ nI v ≤ gsv k := by
  subst hk
  exact ⟨nI_le (a := 20) h.1 (by omega), nI_le (b := 200) h.2 (by decide)⟩
theorem rg1 {k v : Nat} (hk : k = 1) (h : 1 ≤ v ∧ v ≤ 20) : lsv k ≤ nI v ∧ nI v ≤ gsv k := by
  subst hk
  exact ⟨nI_le (a := 1) h.1 (by omega), nI_le (b := 20) h.2 (by decide)⟩
theorem rg2 {k v : Nat} (hk : k = 2) (h : v ≤ 40) : lsv k ≤ nI v ∧ nI v ≤ gsv k := by
  subst hk
  exact ⟨nI_le (a := 0) (Nat.zero_le v) (by omega), nI_le (b := 40) h (by decide)⟩
theorem rg3 {k v : Nat} (hk : k = 3) (h : v ≤ 1) : lsv k ≤ nI v ∧ nI v ≤ gsv k := by
  subst hk
  exact ⟨nI_le (a := 0) (Nat.zero_le v) (by omega), nI_le (b := 1) h (by decide)⟩
section STL
variable {S T : Sg}
theorem step_set (h : JJ S T) {k v : Nat} (hk : k < 4) (hv : lsv k ≤ nI v ∧ nI v ≤ gsv k) : (fSet S (nI k) (nI v)).1 = mv (sM S) 0 k ∧ (fSet T (nI k) (nI v)).1 = mv (sM S) 0 k ∧ fCount (fSet S (nI k) (nI v)).2 (nI k) = nI v ∧ JJ (fSet S (nI k) (nI v)).2 (fSet T (nI k) (nI v)).2 := by
  have e := fSet_s (S := S) (x := nI k) (y := nI v) (ixv_s hk (by decide)) hv.1 hv.2
  have h1 := h.set (nI k) (nI v)
  refine ⟨by rw [e], by rw [h1.2, e], ?_, h1.1⟩
  rw [e, fCount_k rfl hk]
  show (if 0 = 0 ∧ k = k then nI v else _) = nI v
  exact if_pos ⟨rfl, rfl⟩
theorem step_sort (h : JJ S T) {k w l r : Nat} (hk : k < 8) (hw : 1 ≤ w ∧ w ≤ 20) (hl : l < 101) (hr : r < 101) : (fSort S (nI k) (nI w) (nI l) (nI r)).1 = mv (sM S) 1 k ∧ (fSort T (nI (tn k)) (nI w) (nI l) (nI r)).1 = mv (sM S) 1 k ∧ fSortOf (fSort S (nI k) (nI w) (nI l) (nI r)).2 (nI k) (nI 0) = nI w ∧ fSortOf (fSort S (nI k) (nI w) (nI l) (nI r)).2 (nI k) (nI 1) = nI l ∧ fSortOf (fSort S (nI k) (nI w) (nI l) (nI r)).2 (nI k) (nI 2) = nI r ∧ JJ (fSort S (nI k) (nI w) (nI l) (nI r)).2 (fSort T (nI (tn k)) (nI w) (nI l) (nI r)).2 := by
  have e := fSort_s (S := S) (x := nI k) (w := nI w) (l := nI l) (r := nI r) (ixv_s hk (by decide)) ⟨⟨nI_le hw.1 (by omega), nI_le hw.2 (by decide)⟩, by rw [ixv_s hl (by decide)]; exact Option.some_ne_none _, by rw [ixv_s hr (by decide)]; exact Option.some_ne_none _⟩
  have h1 := h.sort hk (nI w) (nI l) (nI r)
  have e1 : ∀ i j, mv (muSort (sM S) k (nI w) (nI l) (nI r)) i j = if j = k then (if i = 1 then nI w else if i = 2 then nI l else if i = 3 then nI r else mv (sM S) i j) else mv (sM S) i j := fun _ _ => rfl
  refine ⟨by rw [e], by rw [h1.2, e], ?_, ?_, ?_, h1.1⟩
  · rw [e, fSortOf_0 (ixv_s hk (by decide)) rfl]
    show mv (muSort (sM S) k (nI w) (nI l) (nI r)) 1 k = _
    rw [e1, if_pos rfl, if_pos rfl]
  · rw [e, fSortOf_1 (ixv_s hk (by decide)) rfl]
    show mv (muSort (sM S) k (nI w) (nI l) (nI r)) 2 k = _
    rw [e1, if_pos rfl, if_neg (by decide), if_pos rfl]
  · rw [e, fSortOf_2 (ixv_s hk (by decide)) rfl]
    show mv (muSort (sM S) k (nI w) (nI l) (nI r)) 3 k = _
    rw [e1, if_pos rfl, if_neg (by decide), if_neg (by decide), if_pos rfl]
theorem ixv_o {k n : Nat} (hk : k ≤ n) (hn : n < 2 ^ 30) : k < n ∧ ixv (nI k) n = some k ∨ k = n ∧ ixv (nI k) n = none := by
  rcases Nat.lt_or_ge k n with q | q
  · exact Or.inl ⟨q, ixv_s q (by omega)⟩
  · have e : k = n := by omega
    subst e
    exact Or.inr ⟨rfl, ixv_g (by rw [nI_ltI (by omega) (by omega)]; omega)⟩
theorem step_drop1 (h24 : mn (sM S) ≤ 24) {k : Nat} (hk : k ≤ mn (sM S)) : (fDrop S (nI k)).1 = fWord S (nI k) (nI 1) := by
  rcases ixv_o hk (by omega) with ⟨-, e⟩ | ⟨-, e⟩
  · rw [fDrop_s e, fWord_1 e rfl]
  · rw [fDrop_n e, fWord_n e]
theorem wd_drop (μ : Mu) {i w : Nat} : wd (muDrop μ i) w = if w < i then wd μ w else wd μ (w + 1) := by
  have h : ∀ k, wdS (muDrop μ i) w k = if w < i then wdS μ w k else wdS μ (w + 1) k := by
    intro k
    induction k with
    | zero => split <;> rfl
    | succ k ih =>
      show wdS (muDrop μ i) w k + mv μ 1 (sc (if w < i then mg μ w k else mg μ (w + 1) k)) = _
      rw [ih]
      by_cases hc : w < i
      · rw [if_pos hc, if_pos hc, if_pos hc]
        rfl
      · rw [if_neg hc, if_neg hc, if_neg hc]
        rfl
  show wdS (muDrop μ i) w (if w < i then ml μ w else ml μ (w + 1)) = _
  rw [h]
  by_cases hc : w < i
  · rw [if_pos hc, if_pos hc, if_pos hc]
    rfl
  · rw [if_neg hc, if_neg hc, if_neg hc]
    rfl
theorem step_drop2 (h24 : mn (sM S) ≤ 24) {k : Nat} (hk : k ≤ mn (sM S)) (hc : ¬ nI (mn (sM S)) - nI 1 ≤ nI k) : fWord (fDrop S (nI k)).2 (nI k) (nI 1) = fWord S (nI (k + 1)) (nI 1) := by
  have h1 : k + 1 < mn (sM S) := by
    rw [fa_le, pk_sub_toInt (by omega) (by decide), nI_toInt (by omega)] at hc
    omega
  rw [fDrop_s (ixv_s (show k < mn (sM S) by omega) (by omega)), fWord_1 (i := k + 1) (ixv_s h1 (by omega)) rfl, fWord_1 (i := k) (ixv_s (by show k < mn (sM S) - 1; omega) (by show mn (sM S) - 1 < 2 ^ 31; omega)) rfl]
  show wd (muDrop (sM S) k) k = _
  rw [wd_drop, if_neg (Nat.lt_irrefl k)]
theorem wd_swap (μ : Mu) {a b w : Nat} : wd (muSwap μ a b) w = if w = a then wd μ b else if w = b then wd μ a else wd μ w := by
  have h : ∀ k, wdS (muSwap μ a b) w k = if w = a then wdS μ b k else if w = b then wdS μ a k else wdS μ w k := by
    intro k
    induction k with
    | zero => repeat' split
              all_goals rfl
    | succ k ih =>
      show wdS (muSwap μ a b) w k + mv μ 1 (sc (if w = a then mg μ b k else if w = b then mg μ a k else mg μ w k)) = _
      rw [ih]
      by_cases hc : w = a
      · rw [if_pos hc, if_pos hc, if_pos hc]
        rfl
      · rw [if_neg hc, if_neg hc, if_neg hc]
        by_cases hd : w = b
        · rw [if_pos hd, if_pos hd, if_pos hd]
          rfl
        · rw [if_neg hd, if_neg hd, if_neg hd]
          rfl
  show wdS (muSwap μ a b) w (if w = a then ml μ b else if w = b then ml μ a else ml μ w) = _
  rw [h]
  by_cases hc : w = a
  · rw [if_pos hc, if_pos hc, if_pos hc]
    rfl
  · rw [if_neg hc, if_neg hc, if_neg hc]
    by_cases hd : w = b
    · rw [if_pos hd, if_pos hd, if_pos hd]
      rfl
    · rw [if_neg hd, if_neg hd, if_neg hd]
      rfl
theorem step_swapN (h24 : mn (sM S) ≤ 24) {a b : Nat} (ha : a ≤ mn (sM S)) (hb : b ≤ mn (sM S)) (h : a = mn (sM S) ∨ b = mn (sM S)) : (fSwap S (nI a) (nI b)).1 = -1001 := by
  rcases ixv_o ha (by omega) with ⟨q, -⟩ | ⟨-, e⟩
  · rcases ixv_o hb (by omega) with ⟨q2, -⟩ | ⟨-, e⟩
    · omega
    · rw [fSwap_2 e]
  · rw [fSwap_1 e]
theorem step_swapE (h24 : mn (sM S) ≤ 24) {a b : Nat} (ha : a < mn (sM S)) (h : a = b) : (fSwap S (nI a) (nI b)).1 = -1002 := by
  subst h
  rw [fSwap_e (ixv_s ha (by omega)) (ixv_s ha (by omega)) rfl]
theorem step_swap (h24 : mn (sM S) ≤ 24) {a b : Nat} (ha : a < mn (sM S)) (hb : b < mn (sM S)) (h : ¬ a = b) : fLines (fSwap S (nI a) (nI b)).2 (nI 0) (nI 0) = (fSwap S (nI a) (nI b)).1 ∧ fWord (fSwap S (nI a) (nI b)).2 (nI a) (nI 1) = fWord S (nI b) (nI 1) ∧ fWord (fSwap S (nI a) (nI b)).2 (nI b) (nI 1) = fWord S (nI a) (nI 1) := by
  have e := fSwap_s (S := S) (ixv_s ha (by omega)) (ixv_s hb (by omega)) h
  refine ⟨?_, ?_, ?_⟩
  · rw [e, fLines_s (way := 0) (what := 0) (ixv_s (by decide) (by decide)) rfl (by decide)]
    rfl
  · rw [e, fWord_1 (i := a) (ixv_s (by show a < mn (sM S); exact ha) (by show mn (sM S) < 2 ^ 31; omega)) rfl, fWord_1 (i := b) (ixv_s hb (by omega)) rfl]
    show wd (muSwap (sM S) a b) a = _
    rw [wd_swap, if_pos rfl]
  · rw [e, fWord_1 (i := b) (ixv_s (by show b < mn (sM S); exact hb) (by show mn (sM S) < 2 ^ 31; omega)) rfl, fWord_1 (i := a) (ixv_s ha (by omega)) rfl]
    show wd (muSwap (sM S) a b) b = _
    rw [wd_swap, if_neg (fun q => h q.symm), if_pos rfl]
theorem step_clear (h : JJ S T) : (fClear S).1 = nI (mn (sM S)) ∧ (fClear T).1 = nI (mn (sM S)) ∧ fCount (fClear S).2 (nI 4) = nI 0 ∧ JJ (fClear S).2 (fClear T).2 := ⟨rfl, h.clear.2, fCount_4 rfl, h.clear.1⟩
end STL
