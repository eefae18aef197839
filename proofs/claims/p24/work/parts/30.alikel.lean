/-! What areAlike and isWell ask: answers of both texts agree; what holds of one -/
theorem lnw_le (μ : Mu) (way : Nat) : lnw μ way ≤ mn μ := by
  have h : Adv (nxw μ way) (mn μ) := by
    unfold nxw
    split
    · exact gx_adv _ _ _
    · exact nb_adv _ _ _
  exact (lno_br h).le h
section ALK
variable {S T : Sg}
theorem alike_worst (h : JJ S T) : fWorst T = fWorst S := by
  unfold fWorst
  rw [h.e1, mnM]
  have e : (fun w => lbd (muDrop (muM (sM S)) w)) = fun w => lbd (muDrop (sM S) w) := funext fun w => by rw [muDropM, lbdM]
  rw [e]
theorem lnmM (μ : Mu) : lnm (muM μ) = lnm μ := by
  funext k
  unfold lnm
  rw [boM, mnM]
theorem alike_least (h : JJ S T) (x : Int32) : fLeast T x = fLeast S x := by
  have e : ∀ (μ : Mu) L f k, lsmf (muM μ) L f k = lsmf μ L f k := by
    intro μ L f
    induction f with
    | zero => intro k; rfl
    | succ f ih =>
      intro k
      show (if lnm (muM μ) k ≤ L then nI k else lsmf (muM μ) L f (k + 1)) = if lnm μ k ≤ L then nI k else lsmf μ L f (k + 1)
      rw [ih, lnmM]
  unfold fLeast
  rw [h.e1, e]
theorem alike_best (h : JJ S T) {q : Nat} (hq : q < 8) : fBest T (nI (tn q)) = fBest S (nI q) := by
  rw [fBest_s (ixv_s (tn_lt hq) (by decide)), fBest_s (ixv_s hq (by decide)), h.e1]
  have e : (fun r => lbd (muRight (muM (sM S)) (tn q) (nI r))) = fun r => lbd (muRight (sM S) q (nI r)) := funext fun r => by rw [muRightM, lbdM]
  rw [e]
theorem SameM (μ : Mu) : Same (muM μ) ↔ Same μ := by
  unfold Same
  rw [lnwM, lnwM, nxwM, nxwM]
theorem alike_count (h : JJ S T) {k : Nat} (hk : k < 8) {r r' : Int32} (h1 : pCount S (nI k) r) (h2 : pCount T (nI k) r') : r = r' := by
  refine pCount_one h1 ?_
  rcases h2 with ⟨a, b⟩ | ⟨a, b⟩
  · rw [h.e1, SameM] at b
    exact Or.inl ⟨a, b⟩
  · refine Or.inr ⟨a, b.trans ?_⟩
    have hk7 : k ≠ 7 := fun q => a (by rw [q])
    rcases Nat.lt_or_ge k 4 with q | q
    · rw [fCount_k rfl q, fCount_k rfl q, h.e1, mvM_0]
    · rcases (show k = 4 ∨ k = 5 ∨ k = 6 from by omega) with e | e | e <;> subst e
      · rw [fCount_4 rfl, fCount_4 rfl, h.e1, mnM]
      · rw [fCount_5 rfl, fCount_5 rfl, h.e1]
        rfl
      · rw [fCount_6 rfl, fCount_6 rfl, h.e1, show (0 : Nat) = tn 0 from rfl, cnTM]
        rfl
theorem alike_lines (h : JJ S T) (x y : Int32) : fLines T x y = fLines S x y := by
  have e : ∀ way what, fLn T way what = fLn S way what := by
    intro way what
    unfold fLn
    rw [h.e1]
    split
    · rw [lnwM]
    · rw [nxwM, lnwM, sumBM, mvM_0]
    · rw [nxwM, lnwM, indNM, mvM_0, mvM_0]
    · rw [nxwM, lnwM, unfNM, mvM_0]
    · rw [nxwM, lnwM, greBM]
  unfold fLines
  cases ixv x 2 with
  | none => rfl
  | some way =>
    cases ixv y 5 with
    | none => rfl
    | some what => exact e way what
theorem alike_line (h : JJ S T) (x y v : Int32) : fLine T x y v = fLine S x y v := by
  unfold fLine
  rw [h.e1]
  cases ixv x 2 with
  | none => rfl
  | some way =>
    cases ixv v 9 with
    | none => rfl
    | some what =>
      simp only [lnwM]
      cases ixv y (lnw (sM S) way) with
      | none => rfl
      | some i => simp only [nxwM, tellM, mvM_0]
theorem alike_word (h : JJ S T) (h24 : mn (sM S) ≤ 24) {k j : Nat} (hk : k < mn (sM S)) (hj : j < 4) : fWord T (nI k) (nI j) = fWord S (nI k) (nI j) := by
  have i1 : ixv (nI k) (mn (sM S)) = some k := ixv_s hk (by omega)
  have i2 : ixv (nI k) (mn (sM T)) = some k := by rw [h.n1]; exact i1
  rcases (show j = 0 ∨ j = 1 ∨ j = 2 ∨ j = 3 from by omega) with e | e | e | e <;> subst e
  · rw [fWord_0 i1 rfl, fWord_0 i2 rfl, h.e1, mlM]
  · rw [fWord_1 i1 rfl, fWord_1 i2 rfl, h.e1, wdM]
  · rw [fWord_2 i1 rfl, fWord_2 i2 rfl, h.e1, nxwM, lnwM]
  · rw [fWord_3 i1 rfl, fWord_3 i2 rfl, h.e1, nxwM, lnwM]
theorem word_sign (ho : Ok (sM S)) {k j : Nat} (hk : k < mn (sM S)) (hj : j < ml (sM S) k) : fWord S (nI k) (nI (4 + j)) = mg (sM S) k j := by
  have h24 := ho.1
  have h10 := (ho.len hk).2
  refine fWord_4 (ixv_s hk (by omega)) (nI_le (by omega) (by omega)) ?_
  rw [pk_sub (by omega), show 4 + j - 4 = j from by omega]
  exact ixv_s hj (by omega)
theorem alike_sign (h : JJ S T) (ho : Ok (sM S)) {k j : Nat} (hk : k < mn (sM S)) (hj : j < ml (sM S) k) : fWord T (nI k) (nI (4 + j)) = oth (mg (sM S) k j) := by
  have h24 := ho.1
  have h10 := (ho.len hk).2
  have e : fWord T (nI k) (nI (4 + j)) = mg (sM T) k j := by
    refine fWord_4 (ixv_s (by rw [h.n1]; exact hk) (by rw [h.n1]; omega)) (nI_le (by omega) (by omega)) ?_
    rw [pk_sub (by omega), show 4 + j - 4 = j from by omega, h.e1, mlM]
    exact ixv_s hj (by omega)
  rw [e, h.e1]
  rfl
theorem alike_sortOf (h : JJ S T) {q w : Nat} (hq : q < 8) (hw : w < 6) : fSortOf T (nI (tn q)) (nI w) = fSortOf S (nI q) (nI w) := by
  have i1 : ixv (nI q) 8 = some q := ixv_s hq (by decide)
  have i2 : ixv (nI (tn q)) 8 = some (tn q) := ixv_s (tn_lt hq) (by decide)
  rcases (show w = 0 ∨ w = 1 ∨ w = 2 ∨ w = 3 ∨ w = 4 ∨ w = 5 from by omega) with e | e | e | e | e | e <;> subst e
  · rw [fSortOf_0 i1 rfl, fSortOf_0 i2 rfl, h.e1, mvM_s _ (by decide), tn_tn]
  · rw [fSortOf_1 i1 rfl, fSortOf_1 i2 rfl, h.e1, mvM_s _ (by decide), tn_tn]
  · rw [fSortOf_2 i1 rfl, fSortOf_2 i2 rfl, h.e1, mvM_s _ (by decide), tn_tn]
  · rw [fSortOf_3 i1 rfl, fSortOf_3 i2 rfl, h.e1, hgM _ (by decide)]
  · rw [fSortOf_4 i1 rfl, fSortOf_4 i2 rfl, h.e1, hgM _ (by decide)]
  · rw [fSortOf_5 i1 rfl, fSortOf_5 i2 rfl, h.e1, cnTM, mnM]
end ALK
/-- the line of a word -/
def lfw (μ : Mu) (way w : Nat) : Nat := lof (nxw μ way) w (lnw μ way)
def csum (μ : Mu) (s : Nat) : Nat := smN (fun q => cnT μ q (mn μ)) s
def wsum (μ : Mu) (s : Nat) : Int32 := smI (fun q => nI (cnT μ q (mn μ)) * mv μ 1 q) s
section WELL
variable {μ : Mu}
theorem lfw_le (ho : Ok μ) (way w : Nat) : lfw μ way w ≤ 24 := by
  have h1 := lof_le (nxw μ way) w (lnw μ way)
  have h2 := lnw_le μ way
  have h3 := ho.1
  unfold lfw
  omega
theorem well_1 (ho : Ok μ) (hg : Rg μ) {k : Nat} (hk : k < mn μ) : lfw μ 0 k ≤ lfw μ 1 k := (dom_nxw ho hg).lof (by omega)
theorem well_2 {k : Nat} (hk : k < mn μ) : lfw μ 0 (k - 1) ≤ lfw μ 0 k := lof_up (nx := nxw μ 0) (gx_adv _ _ _) (by omega) (by omega)
theorem well_3 {k : Nat} (hk : k < mn μ) (h0 : 0 < k) : lfw μ 1 k ≤ lfw μ 1 (k - 1) + 1 := lof_one (nx := nxw μ 1) (nb_adv _ _ _) (by omega) h0
theorem well_4 (ho : Ok μ) (hg : Rg μ) {k : Nat} (hk : k < mn μ) : ¬ wd μ k < bo μ k k := by
  rw [fa_lt, bo_own ho hg hk]
  have h1 := lh_i ho hg hk
  have h2 := rh_i ho hg hk
  omega
theorem well_5 (ho : Ok μ) (hg : Rg μ) {k : Nat} (hk : k < mn μ) (h0 : 0 < k) : ¬ bo μ (k - 1) k < bo μ (k - 1) (k - 1) + mv μ 0 1 := by
  have h1 := bo_r ho hg (i := k - 1) (j := k - 1) (Nat.le_refl _) (by omega)
  rw [show k - 1 + 1 = k from by omega] at h1
  have h2 := bo_low ho hg (i := k - 1) 0 (by omega)
  have h3 : (bo μ (k - 1) (k - 1 + 0)).toInt = (bo μ (k - 1) (k - 1)).toInt := rfl
  obtain ⟨s1, s2⟩ := hg.2.1
  rw [fa_lt, tI_add (by omega) (by omega)]
  omega
theorem well_6 (hR : Rg μ) {s side : Nat} (hs : s < 8) (h : side = 2 ∨ side = 3) : ¬ mv μ 1 s < hg μ side s := by
  have h1 := hg_i hR hs h
  rw [fa_lt]
  omega
theorem well_7 (hR : Rg μ) (h : ¬ mv μ 0 3 = nI 1) (s : Nat) : hg μ 2 s + hg μ 3 s = 0 := by
  have h1 := hR.2.2.2.1
  have h2 : mv μ 0 3 = nI 0 := by
    apply Int32.toInt_inj.mp
    have h3 : (mv μ 0 3).toInt ≠ (nI 1).toInt := fun q => h (Int32.toInt_inj.mp q)
    obtain ⟨a, b⟩ := h1
    rw [nI_toInt (by decide)] at h3 ⊢
    omega
  have e : ∀ side, hg μ side s = nI 0 := fun side => if_pos h2
  rw [e, e]
  rfl
theorem well_8 (way : Nat) (h0 : 0 < mn μ) : 0 < lnw μ way ∧ lfw μ way (mn μ - 1) = lnw μ way - 1 := by
  have h : Adv (nxw μ way) (mn μ) := by
    unfold nxw
    split
    · exact gx_adv _ _ _
    · exact nb_adv _ _ _
  exact ⟨lno_pos h h0, lof_last h h0⟩
theorem well_9 {i : Nat} (hi : i < lnw μ 1) : stt (nxw μ 1) i < stt (nxw μ 1) (i + 1) := (nb_adv _ _ _ _ ((lno_br (nx := nxw μ 1) (nb_adv _ _ _)).2 i hi)).1
theorem well_e : stt (nxw μ 1) (lnw μ 1) = mn μ := (lno_br (nx := nxw μ 1) (nb_adv _ _ _)).1
end WELL
