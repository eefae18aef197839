/-! What the whole says: the state and the answer of every call, in numbers and functions; and what of the store says it -/
abbrev Sg : Type := Mu × ((Nat → Mu) × Nat) × ((Nat → Nat) × Nat) × ((Nat → Mu) × (Nat → Nat))
def sM (S : Sg) : Mu := S.1
def sH (S : Sg) : Nat → Mu := S.2.1.1
def sHn (S : Sg) : Nat := S.2.1.2
def sPt (S : Sg) : Nat → Nat := S.2.2.1.1
def sPn (S : Sg) : Nat := S.2.2.1.2
def sSl (S : Sg) : Nat → Mu := S.2.2.2.1
def sFd (S : Sg) : Nat → Nat := S.2.2.2.2
def hpush (hs : Nat → Mu) (n : Nat) (μ : Mu) : Nat → Mu := if n < 6 then (fun k => if k < n then hs k else μ) else (fun k => if k < 5 then hs (k + 1) else μ)
def hcnt (n : Nat) : Nat := if n < 6 then n + 1 else 6
def push (S : Sg) : Sg := (S.1, (hpush (sH S) (sHn S) (sM S), hcnt (sHn S)), S.2.2)
def withM (S : Sg) (μ : Mu) : Sg := (μ, S.2)
def withP (S : Sg) (pt : Nat → Nat) (pn : Nat) : Sg := (S.1, S.2.1, (pt, pn), S.2.2.2)
/-- a number that is a place below n -/
def ixv (x : Int32) (n : Nat) : Option Nat := if 0 ≤ x ∧ x < nI n then some x.toNatClampNeg else none
theorem ixv_s {k n : Nat} (hk : k < n) (hn : n < 2 ^ 31) : ixv (nI k) n = some k := by
  unfold ixv
  rw [if_pos ⟨nI_pos' (by omega), nI_lt hk hn⟩, nI_clamp (by omega)]
theorem ixv_n {x : Int32} {n : Nat} (h : x < 0) : ixv x n = none := if_neg (fun q => Int32.not_le.mpr h q.1)
theorem ixv_g {x : Int32} {n : Nat} (h : ¬ x < nI n) : ixv x n = none := if_neg (fun q => h q.2)
theorem ixv_of {x : Int32} {n : Nat} (hn : n < 2 ^ 31) (h0 : ¬ x < 0) (h : x < nI n) : ∃ k, k < n ∧ x = nI k ∧ ixv x n = some k := by
  rcases pk_ix x hn with q | q | ⟨k, hk, e⟩
  · exact absurd q h0
  · exact absurd h (Int32.not_lt.mpr q)
  · exact ⟨k, hk, e, by rw [e]; exact ixv_s hk hn⟩
def bix (x : Int32) (n : Nat) : Int32 := match ixv x n with
  | none => nI 0
  | some _ => nI 1
theorem bix_0 {x : Int32} {n : Nat} (h : bix x n = 0) : ixv x n = none := by
  unfold bix at h
  cases hx : ixv x n with
  | none => rfl
  | some k =>
    rw [hx] at h
    exact absurd h (by show ¬ nI 1 = 0; decide)
theorem bix_1 {x : Int32} {n : Nat} (hn : n < 2 ^ 31) (h : ¬ bix x n = 0) : ∃ k, k < n ∧ x = nI k ∧ ixv x n = some k := by
  unfold bix at h
  cases hx : ixv x n with
  | none =>
    rw [hx] at h
    exact absurd (show nI 0 = 0 from rfl) h
  | some k =>
    unfold ixv at hx
    by_cases hc : 0 ≤ x ∧ x < nI n
    · obtain ⟨j, hj, e, e2⟩ := ixv_of hn (Int32.not_lt.mpr hc.1) hc.2
      refine ⟨j, hj, e, ?_⟩
      rw [if_pos hc] at hx
      unfold ixv at e2
      rw [if_pos hc] at e2
      rw [← hx, ← e2]
    · rw [if_neg hc] at hx
      cases hx
theorem bix_n {x : Int32} {n : Nat} (h : ixv x n = none) : bix x n = nI 0 := by
  unfold bix
  rw [h]
theorem bix_s {x : Int32} {n k : Nat} (h : ixv x n = some k) : bix x n = nI 1 := by
  unfold bix
  rw [h]
/-- the two ways -/
def nxw (μ : Mu) (way : Nat) : Nat → Nat := if way = 0 then gx (bo μ) (mv μ 0 0) (mn μ) else nb (bo μ) (mv μ 0 0) (mn μ)
def lnw (μ : Mu) (way : Nat) : Nat := lno (nxw μ way) (mn μ)
def muSet (μ : Mu) (k : Nat) (y : Int32) : Mu := (fun i j => if i = 0 ∧ j = k then y else mv μ i j, μ.2)
def muSort (μ : Mu) (q : Nat) (w l r : Int32) : Mu := (fun i j => if j = q then (if i = 1 then w else if i = 2 then l else if i = 3 then r else mv μ i j) else mv μ i j, μ.2)
def muClear (μ : Mu) : Mu := (μ.1, 0, μ.2.2)
def muRight (μ : Mu) (q : Nat) (r : Int32) : Mu := (fun i j => if i = 3 ∧ j = q then r else mv μ i j, μ.2)
def lbd (μ : Mu) : Int32 := lfm (bo μ) (mv μ 0 0) (mn μ) 0
def fSet (S : Sg) (x y : Int32) : Int32 × Sg := match ixv x 4 with
  | none => (-1002, S)
  | some k => if lsv k ≤ y ∧ y ≤ gsv k then (mv (sM S) 0 k, withM (push S) (muSet (sM S) k y)) else (-1002, S)
def fSort (S : Sg) (x w l r : Int32) : Int32 × Sg := match ixv x 8 with
  | none => (-1001, S)
  | some q => if (nI 1 ≤ w ∧ w ≤ nI 20) ∧ ixv l 101 ≠ none ∧ ixv r 101 ≠ none then (mv (sM S) 1 q, withM (push S) (muSort (sM S) q w l r)) else (-1002, S)
def fRead (S : Sg) : Int32 × Sg := if flt (sPt S) (sPn S) = -1006 then (if mn (sM S) + wno (sPt S) (sPn S) ≤ 24 then (nI (mn (sM S) + wno (sPt S) (sPn S)), withP (withM (push S) (muRead (sM S) (sPt S) (sPn S))) (sPt S) 0) else (-1004, S)) else (-1003, S)
def fDrop (S : Sg) (x : Int32) : Int32 × Sg := match ixv x (mn (sM S)) with
  | none => (-1001, S)
  | some i => (wd (sM S) i, withM (push S) (muDrop (sM S) i))
def fSwap (S : Sg) (x y : Int32) : Int32 × Sg := match ixv x (mn (sM S)), ixv y (mn (sM S)) with
  | some i, some j => if i = j then (-1002, S) else (nI (lnw (muSwap (sM S) i j) 0), withM (push S) (muSwap (sM S) i j))
  | _, _ => (-1001, S)
def fClear (S : Sg) : Int32 × Sg := (nI (mn (sM S)), withM (push S) (muClear (sM S)))
def fSortOf (S : Sg) (x y : Int32) : Int32 := match ixv x 8 with
  | none => -1001
  | some q => match ixv y 6 with
    | some 0 => mv (sM S) 1 q
    | some 1 => mv (sM S) 2 q
    | some 2 => mv (sM S) 3 q
    | some 3 => hg (sM S) 2 q
    | some 4 => hg (sM S) 3 q
    | some _ => nI (cnT (sM S) q (mn (sM S)))
    | none => -1002
def fWord (S : Sg) (x y : Int32) : Int32 := match ixv x (mn (sM S)) with
  | none => -1001
  | some w => if y < 0 then -1002 else match ixv y 4 with
    | some 0 => nI (ml (sM S) w)
    | some 1 => wd (sM S) w
    | some 2 => nI (lof (nxw (sM S) 0) w (lnw (sM S) 0))
    | some _ => nI (lof (nxw (sM S) 1) w (lnw (sM S) 1))
    | none => match ixv (y - nI 4) (ml (sM S) w) with
      | some j => mg (sM S) w j
      | none => -1006
def fLine (S : Sg) (x y v : Int32) : Int32 := match ixv x 2, ixv v 9 with
  | some way, some what => match ixv y (lnw (sM S) way) with
    | some i => tell (sM S) (nxw (sM S) way) (mv (sM S) 0 0) (mv (sM S) 0 2) (lnw (sM S) way) i what
    | none => -1001
  | _, _ => -1002
def fLn (S : Sg) (way what : Nat) : Int32 := match what with
  | 0 => nI (lnw (sM S) way)
  | 1 => sumB (sM S) (nxw (sM S) way) (mv (sM S) 0 0) (lnw (sM S) way)
  | 2 => nI (smN (indN (sM S) (nxw (sM S) way) (mv (sM S) 0 0) (mv (sM S) 0 2) (lnw (sM S) way)) (lnw (sM S) way))
  | 3 => nI (smN (unfN (sM S) (nxw (sM S) way) (mv (sM S) 0 0)) (lnw (sM S) way))
  | _ => greB (sM S) (nxw (sM S) way) (lnw (sM S) way)
def fLines (S : Sg) (x y : Int32) : Int32 := match ixv x 2, ixv y 5 with
  | some way, some what => fLn S way what
  | _, _ => -1002
def Same (μ : Mu) : Prop := lnw μ 0 = lnw μ 1 ∧ ∀ i, i < lnw μ 0 → stt (nxw μ 0) i = stt (nxw μ 1) i
/-- count: all but 7, which is told by Same -/
def fCount (S : Sg) (x : Int32) : Int32 := match ixv x 10 with
  | some 4 => nI (mn (sM S))
  | some 5 => nI (smN (ml (sM S)) (mn (sM S)))
  | some 6 => nI (smN (ml (sM S)) (mn (sM S)) - cnT (sM S) 0 (mn (sM S)))
  | some 8 => nI (sPn S)
  | some 9 => nI (sHn S)
  | some k => mv (sM S) 0 k
  | none => -1002
def pCount (S : Sg) (x r : Int32) : Prop := (x = nI 7 ∧ ((r = nI 1 ∧ Same (sM S)) ∨ (r = nI 0 ∧ ¬ Same (sM S)))) ∨ (x ≠ nI 7 ∧ r = fCount S x)
theorem pCount_one {S : Sg} {x r r' : Int32} (h : pCount S x r) (h' : pCount S x r') : r = r' := by
  rcases h with ⟨a, b⟩ | ⟨a, b⟩ <;> rcases h' with ⟨a', b'⟩ | ⟨a', b'⟩
  · rcases b with ⟨b, c⟩ | ⟨b, c⟩ <;> rcases b' with ⟨b', c'⟩ | ⟨b', c'⟩
    · rw [b, b']
    · exact absurd c c'
    · exact absurd c' c
    · rw [b, b']
  · exact absurd a a'
  · exact absurd a' a
  · rw [b, b']
def fBody (S : Sg) (x y : Int32) : Int32 := match ixv x (mn (sM S)), ixv y (mn (sM S)) with
  | some i, some j => if i ≤ j then bo (sM S) i j else -1001
  | _, _ => -1001
/-- greedily, lines under a measure -/
def lnm (μ : Mu) (k : Nat) : Nat := lno (gx (bo μ) (nI k) (mn μ)) (mn μ)
def lsmf (μ : Mu) (L : Nat) : Nat → Nat → Int32
  | 0, _ => -1006
  | f + 1, k => if lnm μ k ≤ L then nI k else lsmf μ L f (k + 1)
def fLeast (S : Sg) (x : Int32) : Int32 := if nI 1 ≤ x ∧ x ≤ nI 24 then lsmf (sM S) x.toNatClampNeg 181 20 else -1002
/-- the first of the least: places below n -/
def arg1 (f : Nat → Int32) : Nat → Nat × Int32
  | 0 => (0, nI 0)
  | k + 1 => if k = 0 ∨ f k < (arg1 f k).2 then (k, f k) else arg1 f k
def fBest (S : Sg) (x : Int32) : Int32 := match ixv x 8 with
  | none => -1001
  | some q => nI (arg1 (fun r => lbd (muRight (sM S) q (nI r))) 101).1
def fWorst (S : Sg) : Int32 := if mn (sM S) = 0 then -1006 else nI (arg1 (fun w => lbd (muDrop (sM S) w)) (mn (sM S))).1
def fPut (S : Sg) (V : Nat) : Int32 × Sg := if plen V = 0 then (-1002, S) else if sPn S + plen V ≤ 60 then (nI (sPn S + plen V), withP S (ptPut (sPt S) (sPn S) V (plen V)) (sPn S + plen V)) else (-1004, S)
def fWipe (S : Sg) : Int32 × Sg := (nI (sPn S), withP S (sPt S) 0)
def fFault (S : Sg) : Int32 := flt (sPt S) (sPn S)
def fUndo (S : Sg) : Int32 × Sg := if sHn S = 0 then (-1005, S) else (nI (sHn S - 1), (sH S (sHn S - 1), (sH S, sHn S - 1), S.2.2))
def fSave (S : Sg) (x : Int32) : Int32 × Sg := match ixv x 2 with
  | none => (-1002, S)
  | some i => (nI (mn (sM S)), (S.1, S.2.1, S.2.2.1, (va_up (sSl S) i (sM S), va_up (sFd S) i 1)))
def fRestore (S : Sg) (x : Int32) : Int32 × Sg := match ixv x 2 with
  | none => (-1002, S)
  | some i => if sFd S i = 0 then (-1005, S) else (nI (mn (sSl S i)), withM (push S) (sSl S i))
/-- components of the class's store -/
def ShA (κ : Kt) (z : Nat) (st : St) (b : Nat) : Prop := ∃ ν, ShP κ z st b ν
def LyA (κ : Kt) (z : Nat) (st : St) (b : Nat) : Prop := ∃ (p l r : Nat → Int32) (wn m sp lo : Int32) (s : Nat → Int32) (ln : Int32) (lf nx : Nat → Int32), Ob z st b (bLy κ b p l r wn m sp lo s ln lf nx)
def PdA (κ : Kt) (z : Nat) (st : St) (pt : Nat → Nat) (pn : Nat) : Prop := ∃ t, Ob z st 29 (bPd κ 29 t (nI pn)) ∧ PdP pt pn t
def HsP (κ : Kt) (z : Nat) (st : St) (hs : Nat → Mu) (n : Nat) : Prop := ∃ (g : Nat → Option Nat) (nx : Nat), Ob z st 31 (bHs κ 31 g (nI nx) (nI n)) ∧ (∀ i, i < 6 → g i = some (ad κ (33 + 7 * i))) ∧ nx < 6 ∧ n ≤ 6 ∧ (∀ i, i < 6 → ShA κ z st (33 + 7 * i)) ∧ ∀ k, k < n → ShP κ z st (33 + 7 * ((nx + 6 - n + k) % 6)) (hs k)
def SlP (κ : Kt) (z : Nat) (st : St) (sl : Nat → Mu) (fd : Nat → Nat) : Prop := ∃ (g : Nat → Option Nat) (f : Nat → Int32), Ob z st 75 (bQ κ 2 g) ∧ (∀ i, i < 2 → g i = some (ad κ (76 + 7 * i))) ∧ Ob z st 90 (bZ κ 2 f) ∧ (∀ i, i < 2 → f i = nI (fd i) ∧ fd i ≤ 1) ∧ (∀ i, i < 2 → ShA κ z st (76 + 7 * i)) ∧ ∀ i, i < 2 → fd i = 1 → ShP κ z st (76 + 7 * i) (sl i)
def XI (κ : Kt) (z : Nat) (st : St) (S : Sg) : Prop := Ob z st 0 (bXo κ) ∧ ShP κ z st 1 (sM S) ∧ ShA κ z st 8 ∧ LyA κ z st 15 ∧ LyA κ z st 22 ∧ PdA κ z st (sPt S) (sPn S) ∧ HsP κ z st (sH S) (sHn S) ∧ SlP κ z st (sSl S) (sFd S)
section FRS
variable {κ : Kt} {z : Nat} {st st' : St} {A : Nat → Prop}
theorem Fr.one {q : Nat} {e : va_E} (hs : st' = va_up st q e) : Fr (fun x : Nat => x = q) st st' := fun x hx => by
  subst hs
  exact va_up_ne _ _ hx
theorem ShA.fr {b : Nat} (h : ShA κ z st b) (hF : Fr A st st') (hA : ∀ q, b ≤ q → q < b + 7 → ¬ A q) : ShA κ z st' b := by
  obtain ⟨ν, h⟩ := h
  exact ⟨ν, h.fr hF hA⟩
theorem LyA.fr {b : Nat} (h : LyA κ z st b) (hF : Fr A st st') (hA : ∀ q, b ≤ q → q < b + 7 → ¬ A q) : LyA κ z st' b := by
  obtain ⟨p, l, r, wn, m, sp, lo, s, ln, lf, nx, h⟩ := h
  exact ⟨p, l, r, wn, m, sp, lo, s, ln, lf, nx, hF.ob h hA⟩
theorem PdA.fr {pt : Nat → Nat} {pn : Nat} (h : PdA κ z st pt pn) (hF : Fr A st st') (hA : ∀ q, 29 ≤ q → q < 31 → ¬ A q) : PdA κ z st' pt pn := by
  obtain ⟨t, h1, h2⟩ := h
  exact ⟨t, hF.ob h1 hA, h2⟩
theorem HsP.fr {hs : Nat → Mu} {n : Nat} (h : HsP κ z st hs n) (hF : Fr A st st') (hA : ∀ q, 31 ≤ q → q < 75 → ¬ A q) : HsP κ z st' hs n := by
  obtain ⟨g, nx, h1, h2, h3, h4, h5, h6⟩ := h
  exact ⟨g, nx, hF.ob h1 (fun q (a : 31 ≤ q) (b : q < 31 + 2) => hA q (by omega) (by omega)), h2, h3, h4, fun i hi => (h5 i hi).fr hF (fun q a b => hA q (by omega) (by omega)), fun k hk => (h6 k hk).fr hF (fun q a b => hA q (by omega) (by have := Nat.mod_lt (nx + 6 - n + k) (show 6 > 0 by omega); omega))⟩
theorem SlP.fr {sl : Nat → Mu} {fd : Nat → Nat} (h : SlP κ z st sl fd) (hF : Fr A st st') (hA : ∀ q, 75 ≤ q → q < 91 → ¬ A q) : SlP κ z st' sl fd := by
  obtain ⟨g, f, h1, h2, h3, h4, h5, h6⟩ := h
  exact ⟨g, f, hF.ob h1 (fun q (a : 75 ≤ q) (b : q < 75 + 1) => hA q (by omega) (by omega)), h2, hF.ob h3 (fun q (a : 90 ≤ q) (b : q < 90 + 1) => hA q (by omega) (by omega)), h4, fun i hi => (h5 i hi).fr hF (fun q a b => hA q (by omega) (by omega)), fun i hi h => (h6 i hi h).fr hF (fun q a b => hA q (by omega) (by omega))⟩
theorem XI.fr {S : Sg} (h : XI κ z st S) (hF : Fr A st st') (hA : ∀ q, q < 91 → ¬ A q) : XI κ z st' S := by
  obtain ⟨h1, h2, h3, h4, h5, h6, h7, h8⟩ := h
  exact ⟨hF.ob h1 (fun q (a : 0 ≤ q) (b : q < 0 + 1) => hA q (by omega)), h2.fr hF (fun q a b => hA q (by omega)), h3.fr hF (fun q a b => hA q (by omega)), h4.fr hF (fun q a b => hA q (by omega)), h5.fr hF (fun q a b => hA q (by omega)), h6.fr hF (fun q a b => hA q (by omega)), h7.fr hF (fun q a b => hA q (by omega)), h8.fr hF (fun q a b => hA q (by omega))⟩
end FRS
/-- a text with another setting, sort, share, without words -/
theorem Rp_clear {μ : Mu} {f1 f2 f3 f4 f5 f6 : Nat → Int32} (h : Rp μ f1 f2 f3 f4 f5 f6) : Rp (muClear μ) f1 f2 f3 f4 f5 f6 := ⟨⟨Nat.zero_le _, fun w hw => absurd hw (Nat.not_lt_zero w)⟩, trivial, h.2.2.1, h.2.2.2.1, h.2.2.2.2.1, h.2.2.2.2.2.1, h.2.2.2.2.2.2.1, fun i hi => absurd hi (Nat.not_lt_zero i), fun i hi => absurd hi (Nat.not_lt_zero i)⟩
theorem Ok_set {μ : Mu} (v : Nat → Nat → Int32) (h : Ok μ) : Ok (v, μ.2) := h
theorem Rp_set {μ : Mu} {f1 f2 f3 f4 f5 f6 : Nat → Int32} {k : Nat} {y : Int32} (h : Rp μ f1 f2 f3 f4 f5 f6) : Rp (muSet μ k y) (upd f1 k y) f2 f3 f4 f5 f6 := by
  refine ⟨h.1, trivial, fun j hj => ?_, fun j hj => ?_, fun j hj => ?_, fun j hj => ?_, h.2.2.2.2.2.2.1, h.2.2.2.2.2.2.2.1, h.2.2.2.2.2.2.2.2⟩
  · show _ = if 0 = 0 ∧ j = k then y else mv μ 0 j
    by_cases hc : j = k
    · subst hc
      rw [pk_us, if_pos ⟨rfl, rfl⟩]
    · rw [pk_un hc, if_neg (fun q => hc q.2)]
      exact h.set hj
  · show _ = if 1 = 0 ∧ j = k then y else mv μ 1 j
    rw [if_neg (fun q => absurd q.1 (by decide))]
    exact h.wid hj
  · show _ = if 2 = 0 ∧ j = k then y else mv μ 2 j
    rw [if_neg (fun q => absurd q.1 (by decide))]
    exact h.lef hj
  · show _ = if 3 = 0 ∧ j = k then y else mv μ 3 j
    rw [if_neg (fun q => absurd q.1 (by decide))]
    exact h.rig hj
theorem Rp_sort {μ : Mu} {f1 f2 f3 f4 f5 f6 : Nat → Int32} {q : Nat} {w l r : Int32} (h : Rp μ f1 f2 f3 f4 f5 f6) : Rp (muSort μ q w l r) f1 (upd f2 q w) (upd f3 q l) (upd f4 q r) f5 f6 := by
  have key : ∀ (i : Nat) (f : Nat → Int32) (v : Int32) (j : Nat), f j = mv μ i j → (if i = 1 then w else if i = 2 then l else if i = 3 then r else mv μ i q) = v → upd f q v j = if j = q then (if i = 1 then w else if i = 2 then l else if i = 3 then r else mv μ i j) else mv μ i j := by
    intro i f v j h1 h2
    by_cases hc : j = q
    · subst hc
      rw [pk_us, if_pos rfl, h2]
    · rw [pk_un hc, if_neg hc, h1]
  refine ⟨h.1, trivial, fun j hj => ?_, fun j hj => key 1 f2 w j (h.wid hj) rfl, fun j hj => key 2 f3 l j (h.lef hj) rfl, fun j hj => key 3 f4 r j (h.rig hj) rfl, h.2.2.2.2.2.2.1, h.2.2.2.2.2.2.2.1, h.2.2.2.2.2.2.2.2⟩
  show _ = if j = q then _ else mv μ 0 j
  split
  · exact h.set hj
  · exact h.set hj
theorem Rp_right {μ : Mu} {f1 f2 f3 f4 f5 f6 : Nat → Int32} {q : Nat} {y : Int32} (h : Rp μ f1 f2 f3 f4 f5 f6) : Rp (muRight μ q y) f1 f2 f3 (upd f4 q y) f5 f6 := by
  refine ⟨h.1, trivial, fun j hj => ?_, fun j hj => ?_, fun j hj => ?_, fun j hj => ?_, h.2.2.2.2.2.2.1, h.2.2.2.2.2.2.2.1, h.2.2.2.2.2.2.2.2⟩
  · show _ = if 0 = 3 ∧ j = q then y else mv μ 0 j
    rw [if_neg (fun q => absurd q.1 (by decide))]
    exact h.set hj
  · show _ = if 1 = 3 ∧ j = q then y else mv μ 1 j
    rw [if_neg (fun q => absurd q.1 (by decide))]
    exact h.wid hj
  · show _ = if 2 = 3 ∧ j = q then y else mv μ 2 j
    rw [if_neg (fun q => absurd q.1 (by decide))]
    exact h.lef hj
  · show _ = if 3 = 3 ∧ j = q then y else mv μ 3 j
    by_cases hc : j = q
    · subst hc
      rw [pk_us, if_pos ⟨rfl, rfl⟩]
    · rw [pk_un hc, if_neg (fun q => hc q.2)]
      exact h.rig hj
theorem mod6 {a b : Nat} (h : b ≤ a) (h2 : a < b + 6) : a % 6 = if a < 6 then a else if a < 12 then a - 6 else a % 6 := by
  split
  · exact Nat.mod_eq_of_lt (by assumption)
  · split
    · omega
    · rfl
/-- the state goes into the ring -/
theorem HsP.push {κ : Kt} {z : Nat} {st st' : St} {hs : Nat → Mu} {n nx : Nat} {g : Nat → Option Nat} {μ : Mu} (h2 : ∀ i, i < 6 → g i = some (ad κ (33 + 7 * i))) (h3 : nx < 6) (h4 : n ≤ 6) (h5 : ∀ i, i < 6 → ShA κ z st (33 + 7 * i)) (h6 : ∀ k, k < n → ShP κ z st (33 + 7 * ((nx + 6 - n + k) % 6)) (hs k)) (hO : Ob z st' 31 (bHs κ 31 g (nI ((nx + 1) % 6)) (nI (hcnt n)))) (hT : ShP κ z st' (33 + 7 * nx) μ) (hF : Fr (fun q : Nat => q = 31 ∨ (33 + 7 * nx ≤ q ∧ q < 33 + 7 * nx + 7)) st st') : HsP κ z st' (hpush hs n μ) (hcnt n) := by
  have hcn : hcnt n = if n < 6 then n + 1 else 6 := rfl
  refine ⟨g, (nx + 1) % 6, hO, h2, Nat.mod_lt _ (by omega), by rw [hcn]; split <;> omega, fun i hi => ?_, fun k hk => ?_⟩
  · by_cases hc : i = nx
    · subst hc
      exact ⟨μ, hT⟩
    · exact (h5 i hi).fr hF (fun q a b => (show ¬ (q = 31 ∨ (33 + 7 * nx ≤ q ∧ q < 33 + 7 * nx + 7)) from by omega))
  · rw [hcn] at hk ⊢
    have key : ∀ (j : Nat) (ν : Mu), j < 6 → j ≠ nx → ShP κ z st (33 + 7 * j) ν → ShP κ z st' (33 + 7 * j) ν := fun j ν hj hne h => h.fr hF (fun q a b => (show ¬ (q = 31 ∨ (33 + 7 * nx ≤ q ∧ q < 33 + 7 * nx + 7)) from by omega))
    by_cases hn : n < 6
    · rw [if_pos hn] at hk ⊢
      have e : ((nx + 1) % 6 + 6 - (n + 1) + k) % 6 = (nx + 6 - n + k) % 6 := by omega
      rw [e]
      unfold hpush
      rw [if_pos hn]
      show ShP κ z st' _ (if k < n then hs k else μ)
      by_cases hkn : k < n
      · rw [if_pos hkn]
        exact key _ _ (Nat.mod_lt _ (by omega)) (by omega) (h6 k hkn)
      · rw [if_neg hkn]
        have e2 : (nx + 6 - n + k) % 6 = nx := by omega
        rw [e2]
        exact hT
    · rw [if_neg hn] at hk ⊢
      have e0 : n = 6 := by omega
      subst e0
      unfold hpush
      rw [if_neg hn]
      show ShP κ z st' _ (if k < 5 then hs (k + 1) else μ)
      by_cases hkn : k < 5
      · rw [if_pos hkn]
        have e : ((nx + 1) % 6 + 6 - 6 + k) % 6 = (nx + 6 - 6 + (k + 1)) % 6 := by omega
        rw [e]
        exact key _ _ (Nat.mod_lt _ (by omega)) (by omega) (h6 (k + 1) (by omega))
      · rw [if_neg hkn]
        have e : ((nx + 1) % 6 + 6 - 6 + k) % 6 = nx := by omega
        rw [e]
        exact hT
/-- the latest state comes out of the ring -/
theorem HsP.pop {κ : Kt} {z : Nat} {st st' : St} {hs : Nat → Mu} {n nx : Nat} {g : Nat → Option Nat} (h2 : ∀ i, i < 6 → g i = some (ad κ (33 + 7 * i))) (h3 : nx < 6) (h4 : n ≤ 6) (hn : 0 < n) (h5 : ∀ i, i < 6 → ShA κ z st (33 + 7 * i)) (h6 : ∀ k, k < n → ShP κ z st (33 + 7 * ((nx + 6 - n + k) % 6)) (hs k)) (hO : Ob z st' 31 (bHs κ 31 g (nI ((nx + 6 - 1) % 6)) (nI (n - 1)))) (hF : Fr (fun q : Nat => q = 31 ∨ (1 ≤ q ∧ q < 1 + 7)) st st') : HsP κ z st' hs (n - 1) := by
  refine ⟨g, (nx + 6 - 1) % 6, hO, h2, Nat.mod_lt _ (by omega), by omega, fun i hi => (h5 i hi).fr hF (fun q a b => (show ¬ (q = 31 ∨ (1 ≤ q ∧ q < 1 + 7)) from by omega)), fun k hk => ?_⟩
  have e : ((nx + 6 - 1) % 6 + 6 - (n - 1) + k) % 6 = (nx + 6 - n + k) % 6 := by omega
  rw [e]
  exact (h6 k (by omega)).fr hF (fun q a b => (show ¬ (q = 31 ∨ (1 ≤ q ∧ q < 1 + 7)) from by omega))
