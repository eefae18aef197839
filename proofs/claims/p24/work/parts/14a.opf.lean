theorem fa_lt (a b : Int32) : a < b ↔ a.toInt < b.toInt := Int32.lt_iff_toInt_lt
theorem fa_le (a b : Int32) : a ≤ b ↔ a.toInt ≤ b.toInt := Int32.le_iff_toInt_le
/-! how the answers come out, branch by branch -/
def PX (κ : Kt) (z : Nat) (st0 : St) (v : Int32 × Sg) : Option Value → St → Prop := PI (fun r u => r = v.1 ∧ XI κ z u v.2 ∧ Fr (fun q : Nat => q < 91) st0 u)
theorem PX_ret {κ : Kt} {z : Nat} {st0 u : St} {v : Int32 × Sg} {r : Int32} {S' : Sg} (hf : v = (r, S')) (hX : XI κ z u S') (hF : Fr (fun q : Nat => q < 91) st0 u) : PX κ z st0 v (some (.int r)) u := by
  subst hf
  exact ⟨r, rfl, rfl, hX, hF⟩
def lid (way : Nat) : Nat := if way = 0 then 15 else 22
theorem lid_or (way : Nat) : lid way = 15 ∨ lid way = 22 := by
  unfold lid
  split
  · exact Or.inl rfl
  · exact Or.inr rfl
def BrkP (κ : Kt) (z : Nat) (st : St) (b : Nat) (μ : Mu) (nxt : Nat → Nat) : Prop := ∃ (p l r s lf nx : Nat → Int32), Ob z st b (bLy κ b p l r (nI (mn μ)) (mv μ 0 0) (mv μ 0 1) (mv μ 0 2) s (nI (lno nxt (mn μ))) lf nx) ∧ LyW μ p l r ∧ LyB nxt (mn μ) (lno nxt (mn μ)) s
theorem BrkP.ly {κ : Kt} {z : Nat} {st : St} {b : Nat} {μ : Mu} {nxt : Nat → Nat} (h : BrkP κ z st b μ nxt) : LyA κ z st b := by
  obtain ⟨p, l, r, s, lf, nx, h, -⟩ := h
  exact ⟨p, l, r, _, _, _, _, s, _, lf, nx, h⟩
theorem BrkP.fr {κ : Kt} {z : Nat} {st st' : St} {b : Nat} {μ : Mu} {nxt : Nat → Nat} {A : Nat → Prop} (h : BrkP κ z st b μ nxt) (hF : Fr A st st') (hA : ∀ q, b ≤ q → q < b + 7 → ¬ A q) : BrkP κ z st' b μ nxt := by
  obtain ⟨p, l, r, s, lf, nx, h1, h2⟩ := h
  exact ⟨p, l, r, s, lf, nx, hF.ob h1 hA, h2⟩
section OPF
variable {S : Sg} {x y v w l r : Int32} {i j k q way what : Nat}
theorem fSet_n (h : ixv x 4 = none) : fSet S x y = (-1002, S) := by unfold fSet; rw [h]
theorem fSet_b (h : ixv x 4 = some k) (h2 : ¬ (lsv k ≤ y ∧ y ≤ gsv k)) : fSet S x y = (-1002, S) := by
  unfold fSet
  rw [h]
  exact if_neg h2
theorem fSet_s (h : ixv x 4 = some k) (h1 : lsv k ≤ y) (h2 : y ≤ gsv k) : fSet S x y = (mv (sM S) 0 k, withM (push S) (muSet (sM S) k y)) := by
  unfold fSet
  rw [h]
  exact if_pos ⟨h1, h2⟩
theorem fSort_n (h : ixv x 8 = none) : fSort S x w l r = (-1001, S) := by unfold fSort; rw [h]
theorem fSort_b (h : ixv x 8 = some k) (h2 : ¬ ((nI 1 ≤ w ∧ w ≤ nI 20) ∧ ixv l 101 ≠ none ∧ ixv r 101 ≠ none)) : fSort S x w l r = (-1002, S) := by
  unfold fSort
  rw [h]
  exact if_neg h2
theorem fSort_s (h : ixv x 8 = some k) (h2 : (nI 1 ≤ w ∧ w ≤ nI 20) ∧ ixv l 101 ≠ none ∧ ixv r 101 ≠ none) : fSort S x w l r = (mv (sM S) 1 k, withM (push S) (muSort (sM S) k w l r)) := by
  unfold fSort
  rw [h]
  exact if_pos h2
theorem bix_ne (h : ¬ bix x k = 0) : ixv x k ≠ none := fun q => h (bix_n q)
theorem fRead_b (h : ¬ flt (sPt S) (sPn S) = -1006) : fRead S = (-1003, S) := if_neg h
theorem fRead_t (h : flt (sPt S) (sPn S) = -1006) (h2 : ¬ mn (sM S) + wno (sPt S) (sPn S) ≤ 24) : fRead S = (-1004, S) := (if_pos h).trans (if_neg h2)
theorem fRead_s (h : flt (sPt S) (sPn S) = -1006) (h2 : mn (sM S) + wno (sPt S) (sPn S) ≤ 24) : fRead S = (nI (mn (sM S) + wno (sPt S) (sPn S)), withP (withM (push S) (muRead (sM S) (sPt S) (sPn S))) (sPt S) 0) := (if_pos h).trans (if_pos h2)
theorem fDrop_n (h : ixv x (mn (sM S)) = none) : fDrop S x = (-1001, S) := by unfold fDrop; rw [h]
theorem fDrop_s (h : ixv x (mn (sM S)) = some i) : fDrop S x = (wd (sM S) i, withM (push S) (muDrop (sM S) i)) := by unfold fDrop; rw [h]
theorem fSwap_1 (h : ixv x (mn (sM S)) = none) : fSwap S x y = (-1001, S) := by
  unfold fSwap
  rw [h]
theorem fSwap_2 (h : ixv y (mn (sM S)) = none) : fSwap S x y = (-1001, S) := by
  unfold fSwap
  rw [h]
  cases ixv x (mn (sM S)) <;> rfl
theorem fSwap_e (h : ixv x (mn (sM S)) = some i) (h2 : ixv y (mn (sM S)) = some j) (e : i = j) : fSwap S x y = (-1002, S) := by
  unfold fSwap
  rw [h, h2]
  exact if_pos e
theorem fSwap_s (h : ixv x (mn (sM S)) = some i) (h2 : ixv y (mn (sM S)) = some j) (e : ¬ i = j) : fSwap S x y = (nI (lnw (muSwap (sM S) i j) 0), withM (push S) (muSwap (sM S) i j)) := by
  unfold fSwap
  rw [h, h2]
  exact if_neg e
theorem fSortOf_n (h : ixv x 8 = none) : fSortOf S x y = -1001 := by unfold fSortOf; rw [h]
theorem fSortOf_b (h : ixv x 8 = some q) (h2 : ixv y 6 = none) : fSortOf S x y = -1002 := by unfold fSortOf; rw [h, h2]
theorem fSortOf_0 (h : ixv x 8 = some q) (h2 : y = nI 0) : fSortOf S x y = mv (sM S) 1 q := by unfold fSortOf; rw [h, h2, ixv_s (by decide) (by decide)] <;> rfl
theorem fSortOf_1 (h : ixv x 8 = some q) (h2 : y = nI 1) : fSortOf S x y = mv (sM S) 2 q := by unfold fSortOf; rw [h, h2, ixv_s (by decide) (by decide)] <;> rfl
theorem fSortOf_2 (h : ixv x 8 = some q) (h2 : y = nI 2) : fSortOf S x y = mv (sM S) 3 q := by unfold fSortOf; rw [h, h2, ixv_s (by decide) (by decide)] <;> rfl
theorem fSortOf_3 (h : ixv x 8 = some q) (h2 : y = nI 3) : fSortOf S x y = hg (sM S) 2 q := by unfold fSortOf; rw [h, h2, ixv_s (by decide) (by decide)] <;> rfl
theorem fSortOf_4 (h : ixv x 8 = some q) (h2 : y = nI 4) : fSortOf S x y = hg (sM S) 3 q := by unfold fSortOf; rw [h, h2, ixv_s (by decide) (by decide)] <;> rfl
theorem fSortOf_5 (h : ixv x 8 = some q) (h2 : y = nI 5) : fSortOf S x y = nI (cnT (sM S) q (mn (sM S))) := by unfold fSortOf; rw [h, h2, ixv_s (by decide) (by decide)] <;> rfl
theorem fWord_n (h : ixv x (mn (sM S)) = none) : fWord S x y = -1001 := by unfold fWord; rw [h]
theorem fWord_b (h : ixv x (mn (sM S)) = some i) (h2 : y < 0) : fWord S x y = -1002 := by unfold fWord; rw [h]; exact if_pos h2
theorem nI_nneg (h : y = nI k) (hk : k < 2 ^ 31) : ¬ y < 0 := by rw [h]; exact nI_pos hk
theorem fWord_0 (h : ixv x (mn (sM S)) = some i) (h2 : y = nI 0) : fWord S x y = nI (ml (sM S) i) := by
  unfold fWord
  rw [h]
  show (if y < 0 then _ else _) = _
  rw [if_neg (nI_nneg h2 (by decide)), h2, ixv_s (by decide) (by decide)] <;> rfl
theorem fWord_1 (h : ixv x (mn (sM S)) = some i) (h2 : y = nI 1) : fWord S x y = wd (sM S) i := by
  unfold fWord
  rw [h]
  show (if y < 0 then _ else _) = _
  rw [if_neg (nI_nneg h2 (by decide)), h2, ixv_s (by decide) (by decide)] <;> rfl
theorem fWord_2 (h : ixv x (mn (sM S)) = some i) (h2 : y = nI 2) : fWord S x y = nI (lof (nxw (sM S) 0) i (lnw (sM S) 0)) := by
  unfold fWord
  rw [h]
  show (if y < 0 then _ else _) = _
  rw [if_neg (nI_nneg h2 (by decide)), h2, ixv_s (by decide) (by decide)] <;> rfl
theorem fWord_3 (h : ixv x (mn (sM S)) = some i) (h2 : y = nI 3) : fWord S x y = nI (lof (nxw (sM S) 1) i (lnw (sM S) 1)) := by
  unfold fWord
  rw [h]
  show (if y < 0 then _ else _) = _
  rw [if_neg (nI_nneg h2 (by decide)), h2, ixv_s (by decide) (by decide)] <;> rfl
theorem fWord_4 (h : ixv x (mn (sM S)) = some i) (h2 : nI 4 ≤ y) (h3 : ixv (y - nI 4) (ml (sM S) i) = some j) : fWord S x y = mg (sM S) i j := by
  unfold fWord
  rw [h]
  show (if y < 0 then _ else _) = _
  rw [if_neg (fun q => absurd (Int32.lt_of_lt_of_le q (by decide : (0 : Int32) ≤ nI 4)) (Int32.not_lt.mpr h2)), ixv_g (Int32.not_lt.mpr h2), h3]
theorem fWord_5 (h : ixv x (mn (sM S)) = some i) (h2 : nI 4 ≤ y) (h3 : ixv (y - nI 4) (ml (sM S) i) = none) : fWord S x y = -1006 := by
  unfold fWord
  rw [h]
  show (if y < 0 then _ else _) = _
  rw [if_neg (fun q => absurd (Int32.lt_of_lt_of_le q (by decide : (0 : Int32) ≤ nI 4)) (Int32.not_lt.mpr h2)), ixv_g (Int32.not_lt.mpr h2), h3]
theorem fLine_1 (h : ixv x 2 = none) : fLine S x y v = -1002 := by unfold fLine; rw [h]
theorem fLine_2 (h : ixv v 9 = none) : fLine S x y v = -1002 := by
  unfold fLine
  rw [h]
  cases ixv x 2 <;> rfl
theorem fLine_3 (h : ixv x 2 = some way) (h2 : ixv v 9 = some what) (h3 : ixv y (lnw (sM S) way) = none) : fLine S x y v = -1001 := by
  unfold fLine
  rw [h, h2]
  show (match ixv y (lnw (sM S) way) with | some i => _ | none => _) = _
  rw [h3]
theorem fLine_4 (h : ixv x 2 = some way) (h2 : ixv v 9 = some what) (h3 : ixv y (lnw (sM S) way) = some i) : fLine S x y v = tell (sM S) (nxw (sM S) way) (mv (sM S) 0 0) (mv (sM S) 0 2) (lnw (sM S) way) i what := by
  unfold fLine
  rw [h, h2]
  show (match ixv y (lnw (sM S) way) with | some i => _ | none => _) = _
  rw [h3]
theorem fLines_1 (h : ixv x 2 = none) : fLines S x y = -1002 := by unfold fLines; rw [h]
theorem fLines_2 (h : ixv y 5 = none) : fLines S x y = -1002 := by
  unfold fLines
  rw [h]
  cases ixv x 2 <;> rfl
theorem fLines_s (h : ixv x 2 = some way) (h2 : y = nI what) (h3 : what < 5) : fLines S x y = fLn S way what := by
  have e : ixv y 5 = some what := by rw [h2]; exact ixv_s h3 (by omega)
  unfold fLines
  rw [h, e]
theorem fCount_b (h : ixv x 10 = none) : fCount S x = -1002 := by unfold fCount; rw [h]
theorem fCount_k (h : x = nI k) (hk : k < 4) : fCount S x = mv (sM S) 0 k := by
  unfold fCount
  rw [h, ixv_s (by omega) (by decide)]
  rcases (show k = 0 ∨ k = 1 ∨ k = 2 ∨ k = 3 from by omega) with rfl | rfl | rfl | rfl <;> rfl
theorem fCount_4 (h : x = nI 4) : fCount S x = nI (mn (sM S)) := by unfold fCount; rw [h, ixv_s (by decide) (by decide)] <;> rfl
theorem fCount_5 (h : x = nI 5) : fCount S x = nI (smN (ml (sM S)) (mn (sM S))) := by unfold fCount; rw [h, ixv_s (by decide) (by decide)] <;> rfl
theorem fCount_6 (h : x = nI 6) : fCount S x = nI (smN (ml (sM S)) (mn (sM S)) - cnT (sM S) 0 (mn (sM S))) := by unfold fCount; rw [h, ixv_s (by decide) (by decide)] <;> rfl
theorem fCount_8 (h : x = nI 8) : fCount S x = nI (sPn S) := by unfold fCount; rw [h, ixv_s (by decide) (by decide)] <;> rfl
theorem fCount_9 (h : x = nI 9) : fCount S x = nI (sHn S) := by unfold fCount; rw [h, ixv_s (by decide) (by decide)] <;> rfl
theorem pCount_of (h : x ≠ nI 7) (h2 : v = fCount S x) : pCount S x v := Or.inr ⟨h, h2⟩
theorem nI_ne {a b : Nat} (h : x = nI a) (ha : a < 2 ^ 31) (hb : b < 2 ^ 31) (hab : a ≠ b) : x ≠ nI b := fun q => hab ((nI_eq ha hb).mp (h.symm.trans q))
theorem fBody_1 (h : ixv x (mn (sM S)) = none) : fBody S x y = -1001 := by unfold fBody; rw [h]
theorem fBody_2 (h : ixv y (mn (sM S)) = none) : fBody S x y = -1001 := by
  unfold fBody
  rw [h]
  cases ixv x (mn (sM S)) <;> rfl
theorem fBody_3 (h : ixv x (mn (sM S)) = some i) (h2 : ixv y (mn (sM S)) = some j) (e : ¬ i ≤ j) : fBody S x y = -1001 := by
  unfold fBody
  rw [h, h2]
  exact if_neg e
theorem fBody_4 (h : ixv x (mn (sM S)) = some i) (h2 : ixv y (mn (sM S)) = some j) (e : i ≤ j) : fBody S x y = bo (sM S) i j := by
  unfold fBody
  rw [h, h2]
  exact if_pos e
theorem lsmf_s {μ : Mu} {L d : Nat} (hd : d < 181) : lsmf μ L (181 - d) (20 + d) = if lnm μ (20 + d) ≤ L then nI (20 + d) else lsmf μ L (181 - (d + 1)) (20 + (d + 1)) := by
  rw [show 181 - d = (181 - (d + 1)) + 1 from by omega]
  rfl
theorem fLeast_b (h : ¬ (nI 1 ≤ x ∧ x ≤ nI 24)) : fLeast S x = -1002 := if_neg h
theorem fLeast_s {L : Nat} (h : x = nI L) (h1 : 1 ≤ L) (h2 : L ≤ 24) : fLeast S x = lsmf (sM S) L 181 20 := by
  unfold fLeast
  rw [h, if_pos ⟨nI_le h1 (by omega), nI_le h2 (by omega)⟩, nI_clamp (by omega)]
theorem arg1_le (f : Nat → Int32) : ∀ k, 0 < k → ∀ j, j < k → (arg1 f k).2 ≤ f j := by
  intro k
  induction k with
  | zero => intro h; omega
  | succ k ih =>
    intro _ j hj
    unfold arg1
    by_cases hc : k = 0 ∨ f k < (arg1 f k).2
    · rw [if_pos hc]
      show f k ≤ f j
      rcases Nat.lt_or_ge j k with g | g
      · rcases hc with hc | hc
        · omega
        · exact Int32.le_trans (Int32.le_of_lt hc) (ih (by omega) j g)
      · rw [show j = k from by omega]
        exact Int32.le_refl _
    · rw [if_neg hc]
      rcases Nat.lt_or_ge j k with g | g
      · exact ih (by omega) j g
      · rw [show j = k from by omega]
        exact Int32.not_lt.mp (fun q => hc (Or.inr q))
theorem arg1_y {f : Nat → Int32} {k : Nat} (h : k = 0 ∨ f k < (arg1 f k).2) : arg1 f (k + 1) = (k, f k) := if_pos h
theorem arg1_n {f : Nat → Int32} {k : Nat} (h : ¬ (k = 0 ∨ f k < (arg1 f k).2)) : arg1 f (k + 1) = arg1 f k := if_neg h
theorem fBest_n (h : ixv x 8 = none) : fBest S x = -1001 := by unfold fBest; rw [h]
theorem fBest_s (h : ixv x 8 = some q) : fBest S x = nI (arg1 (fun r => lbd (muRight (sM S) q (nI r))) 101).1 := by unfold fBest; rw [h]
theorem fPut_0 {V : Nat} (h : plen V = 0) : fPut S V = (-1002, S) := if_pos h
theorem fPut_t {V : Nat} (h : ¬ plen V = 0) (h2 : ¬ sPn S + plen V ≤ 60) : fPut S V = (-1004, S) := (if_neg h).trans (if_neg h2)
theorem fPut_s {V : Nat} (h : ¬ plen V = 0) (h2 : sPn S + plen V ≤ 60) : fPut S V = (nI (sPn S + plen V), withP S (ptPut (sPt S) (sPn S) V (plen V)) (sPn S + plen V)) := (if_neg h).trans (if_pos h2)
theorem fUndo_0 (h : sHn S = 0) : fUndo S = (-1005, S) := if_pos h
theorem fUndo_s (h : ¬ sHn S = 0) : fUndo S = (nI (sHn S - 1), (sH S (sHn S - 1), (sH S, sHn S - 1), S.2.2)) := if_neg h
theorem fSave_n (h : ixv x 2 = none) : fSave S x = (-1002, S) := by unfold fSave; rw [h]
theorem fSave_s (h : ixv x 2 = some i) : fSave S x = (nI (mn (sM S)), (S.1, S.2.1, S.2.2.1, (va_up (sSl S) i (sM S), va_up (sFd S) i 1))) := by unfold fSave; rw [h]
theorem fRestore_n (h : ixv x 2 = none) : fRestore S x = (-1002, S) := by unfold fRestore; rw [h]
theorem fRestore_0 (h : ixv x 2 = some i) (h2 : sFd S i = 0) : fRestore S x = (-1005, S) := by
  unfold fRestore
  rw [h]
  exact if_pos h2
theorem fRestore_s (h : ixv x 2 = some i) (h2 : ¬ sFd S i = 0) : fRestore S x = (nI (mn (sSl S i)), withM (push S) (sSl S i)) := by
  unfold fRestore
  rw [h]
  exact if_neg h2
end OPF
/-- the least badness rests on how far the sign hangs, not on the share -/
theorem wd_right (μ : Mu) (q : Nat) (a : Int32) (w : Nat) : wd (muRight μ q a) w = wd μ w := by
  have h1 : ∀ i j, i ≠ 3 → mv (muRight μ q a) i j = mv μ i j := fun i j hi => if_neg (fun z => hi z.1)
  have h2 : ∀ k, wdS (muRight μ q a) w k = wdS μ w k := by
    intro k
    induction k with
    | zero => rfl
    | succ k ih =>
      show wdS (muRight μ q a) w k + mv (muRight μ q a) 1 _ = wdS μ w k + mv μ 1 _
      rw [ih, h1 1 _ (by decide)]
      rfl
  exact h2 _
theorem hg_right {μ : Mu} {q : Nat} {a c : Int32} (h : hg (muRight μ q a) 3 q = hg (muRight μ q c) 3 q) : ∀ s, hg (muRight μ q a) 3 s = hg (muRight μ q c) 3 s := by
  intro s
  by_cases hs : s = q
  · subst hs
    exact h
  · unfold hg
    have h1 : ∀ i j d, ¬ (i = 3 ∧ j = q) → mv (muRight μ q d) i j = mv μ i j := fun i j d hi => if_neg hi
    rw [h1 0 3 a (by omega), h1 0 3 c (by omega), h1 1 s a (by omega), h1 1 s c (by omega), h1 3 s a (by omega), h1 3 s c (by omega)]
theorem bo_right {μ : Mu} {q : Nat} {a c : Int32} (h : hg (muRight μ q a) 3 q = hg (muRight μ q c) 3 q) : bo (muRight μ q a) = bo (muRight μ q c) := by
  have h1 : ∀ i j d, i ≠ 3 → mv (muRight μ q d) i j = mv μ i j := fun i j d hi => if_neg (fun z => hi z.1)
  have hp : ∀ d k, pl (muRight μ q d) k = pl μ k := by
    intro d k
    induction k with
    | zero => rfl
    | succ k ih =>
      show pl (muRight μ q d) k + wd (muRight μ q d) k + mv (muRight μ q d) 0 1 = _
      rw [ih, wd_right, h1 0 1 d (by decide)]
      rfl
  have hl : ∀ d w, lh (muRight μ q d) w = lh μ w := by
    intro d w
    show hg (muRight μ q d) 2 _ = hg μ 2 _
    unfold hg
    rw [h1 0 3 d (by decide), h1 1 _ d (by decide), h1 2 _ d (by decide)]
    rfl
  funext i j
  show wl (muRight μ q a) i j - lh (muRight μ q a) i - hg (muRight μ q a) 3 _ = wl (muRight μ q c) i j - lh (muRight μ q c) i - hg (muRight μ q c) 3 _
  rw [hl, hl, hg_right h]
  unfold wl
  rw [hp, hp, hp, hp, h1 0 1 a (by decide), h1 0 1 c (by decide)]
  rfl
theorem lbd_right {μ : Mu} {q : Nat} {a c : Int32} (h : hg (muRight μ q a) 3 q = hg (muRight μ q c) 3 q) : lbd (muRight μ q a) = lbd (muRight μ q c) := by
  unfold lbd
  rw [bo_right h]
  rfl
theorem hg_0 (μ : Mu) (q : Nat) : hg (muRight μ q (nI 0)) 3 q = nI 0 := by
  unfold hg
  split
  · rfl
  · rw [show mv (muRight μ q (nI 0)) 3 q = nI 0 from if_pos ⟨rfl, rfl⟩, show nI 0 = (0 : Int32) from rfl, Int32.mul_zero]
    decide
theorem le100 {x : Int32} (h : x < nI 101) (h2 : nI 100 < x) : False := by
  rw [fa_lt] at h h2
  rw [nI_toInt (by decide)] at h h2
  omega
theorem lt101 {x : Int32} (h : ¬ nI 100 < x) : x < nI 101 := by
  rw [fa_lt] at h ⊢
  rw [nI_toInt (by decide)] at h ⊢
  omega
theorem sw_of {y : Int32} (n : Nat) (hn : n < 2 ^ 31) : (∃ j, j < n ∧ y = nI j) ∨ (ixv y n = none ∧ (y.toInt < 0 ∨ (n : Int) ≤ y.toInt)) := by
  rcases pk_ix y hn with h | h | ⟨j, hj, e⟩
  · refine Or.inr ⟨ixv_n h, Or.inl ?_⟩
    rw [fa_lt] at h
    exact h
  · refine Or.inr ⟨ixv_g (Int32.not_lt.mpr h), Or.inr ?_⟩
    rw [fa_le, nI_toInt hn] at h
    exact h
  · exact Or.inl ⟨j, hj, e⟩
theorem sw6 (y : Int32) : y = nI 0 ∨ y = nI 1 ∨ y = nI 2 ∨ y = nI 3 ∨ y = nI 4 ∨ y = nI 5 ∨ (ixv y 6 = none ∧ (y.toInt < 0 ∨ 5 < y.toInt)) := by
  rcases sw_of (y := y) 6 (by decide) with ⟨j, hj, e⟩ | ⟨h1, h2⟩
  · subst e
    rcases (show j = 0 ∨ j = 1 ∨ j = 2 ∨ j = 3 ∨ j = 4 ∨ j = 5 from by omega) with rfl | rfl | rfl | rfl | rfl | rfl <;> simp
  · exact Or.inr (Or.inr (Or.inr (Or.inr (Or.inr (Or.inr ⟨h1, by omega⟩)))))
theorem sw5 (y : Int32) : y = nI 0 ∨ y = nI 1 ∨ y = nI 2 ∨ y = nI 3 ∨ y = nI 4 ∨ (ixv y 5 = none ∧ (y.toInt < 0 ∨ 4 < y.toInt)) := by
  rcases sw_of (y := y) 5 (by decide) with ⟨j, hj, e⟩ | ⟨h1, h2⟩
  · subst e
    rcases (show j = 0 ∨ j = 1 ∨ j = 2 ∨ j = 3 ∨ j = 4 from by omega) with rfl | rfl | rfl | rfl | rfl <;> simp
  · exact Or.inr (Or.inr (Or.inr (Or.inr (Or.inr ⟨h1, by omega⟩))))
theorem sw4 {y : Int32} (h0 : 0 ≤ y) : y = nI 0 ∨ y = nI 1 ∨ y = nI 2 ∨ y = nI 3 ∨ (nI 4 ≤ y ∧ (y.toInt < 0 ∨ 3 < y.toInt)) := by
  rcases pk_ix y (n := 4) (by decide) with h | h | ⟨j, hj, e⟩
  · exact absurd h (Int32.not_lt.mpr h0)
  · refine Or.inr (Or.inr (Or.inr (Or.inr ⟨h, Or.inr ?_⟩)))
    rw [fa_le, nI_toInt (by decide)] at h
    omega
  · subst e
    rcases (show j = 0 ∨ j = 1 ∨ j = 2 ∨ j = 3 from by omega) with rfl | rfl | rfl | rfl <;> simp
theorem sw49 {y : Int32} (h0 : y < 0 ∨ nI 4 ≤ y) : y = nI 4 ∨ y = nI 5 ∨ y = nI 6 ∨ y = nI 7 ∨ y = nI 8 ∨ y = nI 9 ∨ (ixv y 10 = none ∧ (y.toInt < 4 ∨ 9 < y.toInt)) := by
  rcases sw_of (y := y) 10 (by decide) with ⟨j, hj, e⟩ | ⟨h1, h2⟩
  · subst e
    have h4 : 4 ≤ j := by
      rcases h0 with h | h
      · exact absurd h (nI_pos (by omega))
      · exact (nI_leI (by decide) (by omega)).mp h
    rcases (show j = 4 ∨ j = 5 ∨ j = 6 ∨ j = 7 ∨ j = 8 ∨ j = 9 from by omega) with rfl | rfl | rfl | rfl | rfl | rfl <;> simp
  · exact Or.inr (Or.inr (Or.inr (Or.inr (Or.inr (Or.inr ⟨h1, by omega⟩)))))
theorem none_ne {y : Int32} {k n : Nat} (h : ixv y n = none) (hk : k < n) (hn : n < 2 ^ 31) : y ≠ nI k := fun q => by
  rw [q, ixv_s hk hn] at h
  cases h
theorem sub4 {y : Int32} {L : Nat} (hL : L ≤ 10) (h4 : nI 4 ≤ y) (h : ¬ nI L ≤ y - nI 4) : ∃ j, j < L ∧ y - nI 4 = nI j ∧ ixv (y - nI 4) L = some j := by
  refine ixv_of (by omega) ?_ (Int32.not_le.mp h)
  intro q
  obtain ⟨a, ha, e⟩ := nI_of (x := y) (fun z => absurd (Int32.lt_of_lt_of_le z (by decide : (0 : Int32) ≤ nI 4)) (Int32.not_lt.mpr h4))
  rw [e] at h4 q
  have h5 : 4 ≤ a := (nI_leI (by decide) ha).mp h4
  rw [pk_sub h5] at q
  exact nI_pos (by omega) q
theorem sub4n {y : Int32} {L : Nat} (h : nI L ≤ y - nI 4) : ixv (y - nI 4) L = none := ixv_g (Int32.not_lt.mpr h)
theorem le8 {v : Int32} (h : v ≤ nI 8) : v < nI 9 := by
  rw [fa_le] at h
  rw [fa_lt]
  rw [nI_toInt (by decide)] at h ⊢
  omega
theorem le8n {v : Int32} (h : ¬ v ≤ nI 8) : ¬ v < nI 9 := fun q => by
  rw [fa_le] at h
  rw [fa_lt] at q
  rw [nI_toInt (by decide)] at h q
  omega
theorem cnT_le_s (μ : Mu) (s : Nat) : ∀ k, cnT μ s k ≤ smN (ml μ) k := by
  intro k
  induction k with
  | zero => exact Nat.le_refl _
  | succ k ih =>
    have := cnW_le μ s k (ml μ k)
    show cnT μ s k + cnW μ s k (ml μ k) ≤ smN (ml μ) k + ml μ k
    omega
theorem BrkP.two {κ : Kt} {z : Nat} {st u : St} {way : Nat} {μ : Mu} {nxt : Nat → Nat} (h : BrkP κ z u (lid way) μ nxt) (hF : Fr (fun q : Nat => lid way ≤ q ∧ q < lid way + 7) st u) (hg : LyA κ z st 15) (hb : LyA κ z st 22) : LyA κ z u 15 ∧ LyA κ z u 22 := by
  have h2 := h.ly
  rcases lid_or way with e | e
  · rw [e] at h2 hF
    exact ⟨h2, hb.fr hF (fun q a b => (show ¬ (15 ≤ q ∧ q < 15 + 7) from by omega))⟩
  · rw [e] at h2 hF
    exact ⟨hg.fr hF (fun q a b => (show ¬ (22 ≤ q ∧ q < 22 + 7) from by omega)), h2⟩
/-- one slot: a sheet, that says a text if it was saved -/
def SsP (κ : Kt) (z : Nat) (st : St) (b : Nat) (μ : Mu) (f : Nat) : Prop := ShA κ z st b ∧ (f = 1 → ShP κ z st b μ)
theorem SsP.fr {κ : Kt} {z : Nat} {st st' : St} {b f : Nat} {μ : Mu} {A : Nat → Prop} (h : SsP κ z st b μ f) (hF : Fr A st st') (hA : ∀ q, b ≤ q → q < b + 7 → ¬ A q) : SsP κ z st' b μ f := ⟨h.1.fr hF hA, fun e => (h.2 e).fr hF hA⟩
theorem SlP.opn {κ : Kt} {z : Nat} {st : St} {sl : Nat → Mu} {fd : Nat → Nat} (h : SlP κ z st sl fd) : ∃ (g : Nat → Option Nat) (f : Nat → Int32), Ob z st 75 (bQ κ 2 g) ∧ (∀ i, i < 2 → g i = some (ad κ (76 + 7 * i))) ∧ Ob z st 90 (bZ κ 2 f) ∧ (∀ i, i < 2 → f i = nI (fd i) ∧ fd i ≤ 1) ∧ SsP κ z st 76 (sl 0) (fd 0) ∧ SsP κ z st 83 (sl 1) (fd 1) := by
  obtain ⟨g, f, h1, h2, h3, h4, h5, h6⟩ := h
  exact ⟨g, f, h1, h2, h3, h4, ⟨h5 0 (by omega), h6 0 (by omega)⟩, ⟨h5 1 (by omega), h6 1 (by omega)⟩⟩
theorem SlP.mk {κ : Kt} {z : Nat} {st : St} {sl : Nat → Mu} {fd : Nat → Nat} {g : Nat → Option Nat} {f : Nat → Int32} (h1 : Ob z st 75 (bQ κ 2 g)) (h2 : ∀ i, i < 2 → g i = some (ad κ (76 + 7 * i))) (h3 : Ob z st 90 (bZ κ 2 f)) (h4 : ∀ i, i < 2 → f i = nI (fd i) ∧ fd i ≤ 1) (h5 : SsP κ z st 76 (sl 0) (fd 0)) (h6 : SsP κ z st 83 (sl 1) (fd 1)) : SlP κ z st sl fd := by
  refine ⟨g, f, h1, h2, h3, h4, fun i hi => ?_, fun i hi => ?_⟩
  · rcases (show i = 0 ∨ i = 1 from by omega) with rfl | rfl
    · exact h5.1
    · exact h6.1
  · rcases (show i = 0 ∨ i = 1 from by omega) with rfl | rfl
    · exact h5.2
    · exact h6.2
theorem fil_up {f : Nat → Int32} {fd : Nat → Nat} {i : Nat} (h : ∀ j, j < 2 → f j = nI (fd j) ∧ fd j ≤ 1) : ∀ j, j < 2 → upd f i (nI 1) j = nI (va_up fd i 1 j) ∧ va_up fd i 1 j ≤ 1 := fun j hj => by
  by_cases hc : j = i
  · subst hc
    rw [pk_us, va_up_self]
    exact ⟨rfl, Nat.le_refl _⟩
  · rw [pk_un hc, va_up_ne _ _ hc]
    exact h j hj
theorem sh_any {κ : Kt} {z q : Nat} {st : St} {μ : Mu} {v : Int32} {g1 g2 g3 h4 f4 g5 g6 : Nat → Int32} (hT : Ob z st 8 (bSh κ 8 g1 g2 g3 h4 g5 g6 (nI (mn μ)))) (h : Rp (muRight μ q v) g1 g2 g3 f4 g5 g6) : ShA κ z st 8 := by
  refine ⟨(fun i j => if i = 3 then h4 j else mv (muRight μ q v) i j, μ.2), g1, g2, g3, h4, g5, g6, hT, h.1, trivial, fun k hk => ?_, fun k hk => ?_, fun k hk => ?_, fun k hk => ?_, h.2.2.2.2.2.2.1, h.2.2.2.2.2.2.2.1, h.2.2.2.2.2.2.2.2⟩
  · show _ = if 0 = 3 then h4 k else mv (muRight μ q v) 0 k
    rw [if_neg (by decide)]
    exact h.set hk
  · show _ = if 1 = 3 then h4 k else mv (muRight μ q v) 1 k
    rw [if_neg (by decide)]
    exact h.wid hk
  · show _ = if 2 = 3 then h4 k else mv (muRight μ q v) 2 k
    rw [if_neg (by decide)]
    exact h.lef hk
  · show _ = if 3 = 3 then h4 k else mv (muRight μ q v) 3 k
    rw [if_pos rfl]
theorem upd2 (f : Nat → Int32) (q : Nat) (a b : Int32) : upd (upd f q a) q b = upd f q b := by
  funext j
  unfold upd
  split <;> rfl
theorem best_skip {S : Sg} {q k : Nat} {hb : Int32} (h : (k = 0 ∧ hb = -1) ∨ (0 < k ∧ hb = hg (muRight (sM S) q (nI (k - 1))) 3 q)) (c : hg (muRight (sM S) q (nI k)) 3 q = hb) : arg1 (fun r => lbd (muRight (sM S) q (nI r))) (k + 1) = arg1 (fun r => lbd (muRight (sM S) q (nI r))) k := by
  rcases h with ⟨h1, h2⟩ | ⟨h1, h2⟩
  · subst h1
    rw [hg_0, h2] at c
    exact absurd c (by decide)
  · refine arg1_n (fun z => ?_)
    rcases z with z | z
    · omega
    · have h3 := arg1_le (fun r => lbd (muRight (sM S) q (nI r))) k h1 (k - 1) (by omega)
      have h4 : lbd (muRight (sM S) q (nI (k - 1))) = lbd (muRight (sM S) q (nI k)) := lbd_right (by rw [c, h2])
      have h5 : (arg1 (fun r => lbd (muRight (sM S) q (nI r))) k).2 ≤ lbd (muRight (sM S) q (nI (k - 1))) := h3
      rw [h4] at h5
      exact absurd z (Int32.not_lt.mpr h5)
theorem arg1_fst (f : Nat → Int32) : ∀ k, (arg1 f k).1 ≤ k := by
  intro k
  induction k with
  | zero => exact Nat.le_refl _
  | succ k ih =>
    unfold arg1
    split
    · exact Nat.le_succ k
    · omega
theorem worst_0 {f : Nat → Int32} {k n : Nat} {y : Int32} (h : y = if k = 0 then -1006 else nI (arg1 f k).1) (hn : n ≤ 24) (hk : k ≤ n) (c : y = -1006) : k = 0 := by
  rcases Nat.eq_zero_or_pos k with q | q
  · exact q
  · rw [c, if_neg (by omega)] at h
    have := arg1_fst f k
    exact absurd h.symm (nI_no (by omega))
theorem worst_n {f : Nat → Int32} {k : Nat} {y : Int32} (h : y = if k = 0 then -1006 else nI (arg1 f k).1) (c : ¬ y = -1006) : ¬ k = 0 := fun q => c (by rw [h, if_pos q])
theorem rng24 {x : Int32} (h1 : nI 1 ≤ x) (h2 : x ≤ nI 24) : ∃ L, 1 ≤ L ∧ L ≤ 24 ∧ x = nI L := by
  have h0 : ¬ x < 0 := fun q => absurd (Int32.lt_of_lt_of_le q (by decide : (0 : Int32) ≤ nI 1)) (Int32.not_lt.mpr h1)
  obtain ⟨j, hj, e⟩ := nI_of h0
  rw [e] at h1 h2
  exact ⟨j, (nI_leI (by decide) hj).mp h1, (nI_leI hj (by decide)).mp h2, e⟩
