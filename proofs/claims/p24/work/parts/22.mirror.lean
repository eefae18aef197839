/-! The mirrored text: each letter the next one, stops 1 and 2, 3 and 4, 5 and 6 exchanged with their widths and shares; what it answers -/
def tn (k : Nat) : Nat := if k = 1 then 2 else if k = 2 then 1 else if k = 3 then 4 else if k = 4 then 3 else if k = 5 then 6 else if k = 6 then 5 else k
theorem tn_tn (k : Nat) : tn (tn k) = k := by
  unfold tn
  repeat' split
  all_goals omega
theorem tn_lt {k : Nat} (h : k < 8) : tn k < 8 := by
  unfold tn
  repeat' split
  all_goals omega
theorem tn_iff (j q : Nat) : j = tn q ↔ tn j = q := ⟨fun h => by rw [h, tn_tn], fun h => by rw [← h, tn_tn]⟩
def oth (c : Int32) : Int32 := if nI 97 ≤ c ∧ c ≤ nI 122 then (if c = nI 122 then nI 97 else c + nI 1) else if c = nI 46 then nI 44 else if c = nI 44 then nI 46 else if c = nI 59 then nI 58 else if c = nI 58 then nI 59 else if c = nI 45 then nI 39 else if c = nI 39 then nI 45 else c
theorem sc_oth (c : Int32) : sc (oth c) = tn (sc c) := by
  by_cases h0 : nI 97 ≤ c ∧ c ≤ nI 122
  · have e1 : sc c = 0 := if_pos h0
    rw [e1]
    unfold oth
    rw [if_pos h0]
    by_cases h1 : c = nI 122
    · rw [if_pos h1]
      decide
    · rw [if_neg h1]
      have h2 : nI 97 ≤ c + nI 1 ∧ c + nI 1 ≤ nI 122 := by
        obtain ⟨a, b⟩ := h0
        have h3 : c.toInt ≠ (nI 122).toInt := fun q => h1 (Int32.toInt_inj.mp q)
        rw [fa_le] at a b
        rw [nI_toInt (by decide)] at a b h3
        have h4 : (c + nI 1).toInt = c.toInt + 1 := by
          rw [Int32.toInt_add, nI_toInt (by decide), Int.bmod_eq_of_le (by omega) (by omega)]
          rfl
        rw [fa_le, fa_le, h4, nI_toInt (by decide), nI_toInt (by decide)]
        omega
      rw [show sc (c + nI 1) = 0 from if_pos h2]
      rfl
  · by_cases h1 : c = nI 46
    · subst h1; decide
    by_cases h2 : c = nI 44
    · subst h2; decide
    by_cases h3 : c = nI 59
    · subst h3; decide
    by_cases h4 : c = nI 58
    · subst h4; decide
    by_cases h5 : c = nI 45
    · subst h5; decide
    by_cases h6 : c = nI 39
    · subst h6; decide
    have e1 : oth c = c := by
      unfold oth
      rw [if_neg h0, if_neg h1, if_neg h2, if_neg h3, if_neg h4, if_neg h5, if_neg h6]
    rw [e1]
    by_cases h7 : c = nI 33
    · subst h7; decide
    · rw [sc_8 h0 h1 h2 h3 h4 h5 h6 h7]
      rfl
def muM (μ : Mu) : Mu := (fun i k => if i = 1 ∨ i = 2 ∨ i = 3 then mv μ i (tn k) else mv μ i k, mn μ, ml μ, fun w j => oth (mg μ w j))
section MIR
variable (μ : Mu)
theorem mvM_0 (k : Nat) : mv (muM μ) 0 k = mv μ 0 k := rfl
theorem mvM_s {i : Nat} (h : i = 1 ∨ i = 2 ∨ i = 3) (k : Nat) : mv (muM μ) i k = mv μ i (tn k) := if_pos h
theorem mvM_n {i : Nat} (h : ¬ (i = 1 ∨ i = 2 ∨ i = 3)) (k : Nat) : mv (muM μ) i k = mv μ i k := if_neg h
theorem soM (w j : Nat) : so (muM μ) w j = tn (so μ w j) := sc_oth _
theorem mnM : mn (muM μ) = mn μ := rfl
theorem mlM (w : Nat) : ml (muM μ) w = ml μ w := rfl
theorem wdM (w : Nat) : wd (muM μ) w = wd μ w := by
  have h : ∀ k, wdS (muM μ) w k = wdS μ w k := by
    intro k
    induction k with
    | zero => rfl
    | succ k ih =>
      show wdS (muM μ) w k + mv (muM μ) 1 (so (muM μ) w k) = wdS μ w k + mv μ 1 (so μ w k)
      rw [ih, soM, mvM_s μ (by decide), tn_tn]
  exact h _
theorem hgM {side : Nat} (h : side = 1 ∨ side = 2 ∨ side = 3) (s : Nat) : hg (muM μ) side (tn s) = hg μ side s := by
  unfold hg
  rw [mvM_0, mvM_s μ (by decide), mvM_s μ h, tn_tn]
theorem lhM (w : Nat) : lh (muM μ) w = lh μ w := by
  unfold lh
  rw [soM, hgM μ (by decide)]
theorem rhM (w : Nat) : rh (muM μ) w = rh μ w := by
  unfold rh
  rw [soM, hgM μ (by decide), mlM]
theorem plM (k : Nat) : pl (muM μ) k = pl μ k := by
  induction k with
  | zero => rfl
  | succ k ih =>
    show pl (muM μ) k + wd (muM μ) k + mv (muM μ) 0 1 = pl μ k + wd μ k + mv μ 0 1
    rw [ih, wdM, mvM_0]
theorem wlM (i j : Nat) : wl (muM μ) i j = wl μ i j := by
  unfold wl
  rw [plM, plM, mvM_0]
theorem boM : bo (muM μ) = bo μ := by
  funext i j
  unfold bo
  rw [wlM, lhM, rhM]
theorem nxwM (way : Nat) : nxw (muM μ) way = nxw μ way := by
  unfold nxw
  rw [boM, mvM_0, mnM]
theorem lnwM (way : Nat) : lnw (muM μ) way = lnw μ way := by
  unfold lnw
  rw [nxwM, mnM]
theorem lbdM : lbd (muM μ) = lbd μ := by
  unfold lbd
  rw [boM, mvM_0, mnM]
theorem bolM (nx : Nat → Nat) (i : Nat) : bol (muM μ) nx i = bol μ nx i := by
  unfold bol
  rw [boM]
theorem sumBM (nx : Nat → Nat) (m : Int32) (k : Nat) : sumB (muM μ) nx m k = sumB μ nx m k := by
  unfold sumB
  rw [boM, mnM]
theorem indNM (nx : Nat → Nat) (m lo : Int32) (L : Nat) : indN (muM μ) nx m lo L = indN μ nx m lo L := by
  funext i
  unfold indN
  rw [bolM]
theorem unfNM (nx : Nat → Nat) (m : Int32) : unfN (muM μ) nx m = unfN μ nx m := by
  funext i
  unfold unfN
  rw [bolM]
theorem greBM (nx : Nat → Nat) (L : Nat) : greB (muM μ) nx L = greB μ nx L := by
  unfold greB
  rw [show bol (muM μ) nx = bol μ nx from funext (bolM μ nx)]
theorem tellM (nx : Nat → Nat) (m lo : Int32) (L i what : Nat) : tell (muM μ) nx m lo L i what = tell μ nx m lo L i what := by
  unfold tell fitI
  rw [bolM, wlM, lhM, rhM, indNM]
theorem cnTM (s n : Nat) : cnT (muM μ) (tn s) n = cnT μ s n := by
  have h : ∀ w k, cnW (muM μ) (tn s) w k = cnW μ s w k := by
    intro w k
    unfold cnW
    congr 1
    funext j
    rw [soM]
    by_cases hc : so μ w j = s
    · rw [hc, if_pos rfl, if_pos rfl]
    · rw [if_neg hc, if_neg (fun q => hc (by rw [← tn_tn (so μ w j), q, tn_tn]))]
  unfold cnT
  congr 1
  funext w
  rw [h, mlM]
theorem muDropM (i : Nat) : muDrop (muM μ) i = muM (muDrop μ i) := by
  have h : (fun w j => if w < i then oth (mg μ w j) else oth (mg μ (w + 1) j)) = fun w j => oth (if w < i then mg μ w j else mg μ (w + 1) j) := by
    funext w j
    split <;> rfl
  exact congrArg (fun g : Nat → Nat → Int32 => ((fun i k => if i = 1 ∨ i = 2 ∨ i = 3 then mv μ i (tn k) else mv μ i k, mn μ - 1, fun w => if w < i then ml μ w else ml μ (w + 1), g) : Mu)) h
theorem muSwapM (a b : Nat) : muSwap (muM μ) a b = muM (muSwap μ a b) := by
  have h : (fun w j => if w = a then oth (mg μ b j) else if w = b then oth (mg μ a j) else oth (mg μ w j)) = fun w j => oth (if w = a then mg μ b j else if w = b then mg μ a j else mg μ w j) := by
    funext w j
    repeat' split
    all_goals rfl
  exact congrArg (fun g : Nat → Nat → Int32 => ((fun i k => if i = 1 ∨ i = 2 ∨ i = 3 then mv μ i (tn k) else mv μ i k, mn μ, fun w => if w = a then ml μ b else if w = b then ml μ a else ml μ w, g) : Mu)) h
theorem muSetM (k : Nat) (y : Int32) : muSet (muM μ) k y = muM (muSet μ k y) := by
  have h : (fun i j => if i = 0 ∧ j = k then y else mv (muM μ) i j) = fun i j => if i = 1 ∨ i = 2 ∨ i = 3 then mv (muSet μ k y) i (tn j) else mv (muSet μ k y) i j := by
    funext i j
    by_cases hi : i = 1 ∨ i = 2 ∨ i = 3
    · rw [if_pos hi, if_neg (by omega), mvM_s μ hi]
      exact (if_neg (by omega)).symm
    · rw [if_neg hi, mvM_n μ hi]
      rfl
  exact congrArg (fun g : Nat → Nat → Int32 => ((g, (muM μ).2) : Mu)) h
theorem muSortM (q : Nat) (w l r : Int32) : muSort (muM μ) (tn q) w l r = muM (muSort μ q w l r) := by
  have h : (fun i j => if j = tn q then (if i = 1 then w else if i = 2 then l else if i = 3 then r else mv (muM μ) i j) else mv (muM μ) i j) = fun i j => if i = 1 ∨ i = 2 ∨ i = 3 then mv (muSort μ q w l r) i (tn j) else mv (muSort μ q w l r) i j := by
    funext i j
    have h2 : ∀ i j, mv (muSort μ q w l r) i j = if j = q then (if i = 1 then w else if i = 2 then l else if i = 3 then r else mv μ i j) else mv μ i j := fun _ _ => rfl
    by_cases hi : i = 1 ∨ i = 2 ∨ i = 3
    · rw [if_pos hi, h2, mvM_s μ hi]
      by_cases hj : j = tn q
      · rw [if_pos hj, if_pos ((tn_iff j q).mp hj)]
      · rw [if_neg hj, if_neg (fun z => hj ((tn_iff j q).mpr z))]
    · rw [if_neg hi, h2, mvM_n μ hi, if_neg (show ¬ i = 1 from by omega), if_neg (show ¬ i = 2 from by omega), if_neg (show ¬ i = 3 from by omega), ite_self, ite_self]
  exact congrArg (fun g : Nat → Nat → Int32 => ((g, (muM μ).2) : Mu)) h
theorem muRightM (q : Nat) (r : Int32) : muRight (muM μ) (tn q) r = muM (muRight μ q r) := by
  have h : (fun i j => if i = 3 ∧ j = tn q then r else mv (muM μ) i j) = fun i j => if i = 1 ∨ i = 2 ∨ i = 3 then mv (muRight μ q r) i (tn j) else mv (muRight μ q r) i j := by
    funext i j
    have h2 : ∀ i j, mv (muRight μ q r) i j = if i = 3 ∧ j = q then r else mv μ i j := fun _ _ => rfl
    by_cases hi : i = 1 ∨ i = 2 ∨ i = 3
    · rw [if_pos hi, h2, mvM_s μ hi]
      by_cases hj : i = 3 ∧ j = tn q
      · rw [if_pos hj, if_pos ⟨hj.1, (tn_iff j q).mp hj.2⟩]
      · rw [if_neg hj, if_neg (fun z => hj ⟨z.1, (tn_iff j q).mpr z.2⟩)]
    · rw [if_neg hi, h2, mvM_n μ hi, if_neg (by omega), if_neg (by omega)]
  exact congrArg (fun g : Nat → Nat → Int32 => ((g, (muM μ).2) : Mu)) h
theorem muClearM : muClear (muM μ) = muM (muClear μ) := rfl
end MIR
/-- characters of a pad -/
def otN (c : Nat) : Nat := if 97 ≤ c ∧ c ≤ 122 then (if c = 122 then 97 else c + 1) else if c = 46 then 44 else if c = 44 then 46 else if c = 59 then 58 else if c = 58 then 59 else if c = 45 then 39 else if c = 39 then 45 else c
theorem otN_95 (c : Nat) : otN c = 95 ↔ c = 95 := by
  unfold otN
  repeat' split
  all_goals omega
theorem otN_nI : ∀ c, c < 256 → nI (otN c) = oth (nI c) := by decide +kernel
theorem otN_lt : ∀ c, c < 256 → otN c < 256 := by decide +kernel
theorem sgk_o {a b : Nat → Nat} (h : ∀ k, b k = 95 ↔ a k = 95) : ∀ k, sgk b k = sgk a k := by
  intro k
  induction k with
  | zero => rfl
  | succ k ih =>
    show (if b k = 95 then 0 else sgk b k + 1) = (if a k = 95 then 0 else sgk a k + 1)
    rw [ih]
    by_cases hc : a k = 95
    · rw [if_pos hc, if_pos ((h k).mpr hc)]
    · rw [if_neg hc, if_neg (fun q => hc ((h k).mp q))]
theorem exf_o {a b : Nat → Nat} (h : ∀ k, b k = 95 ↔ a k = 95) : ∀ f k, exf b f k = exf a f k := by
  intro f
  induction f with
  | zero => intro k; rfl
  | succ f ih =>
    intro k
    show (if b k = 95 then k else exf b f (k + 1)) = (if a k = 95 then k else exf a f (k + 1))
    rw [ih]
    by_cases hc : a k = 95
    · rw [if_pos hc, if_pos ((h k).mpr hc)]
    · rw [if_neg hc, if_neg (fun q => hc ((h k).mp q))]
theorem tn_8 {k : Nat} : tn k < 8 ↔ k < 8 := ⟨fun h => by rw [← tn_tn k]; exact tn_lt h, tn_lt⟩
theorem ftf_o {a b : Nat → Nat} (h : ∀ k, a k < 256 ∧ b k = otN (a k)) : ∀ f k, ftf b f k = ftf a f k := by
  have h1 : ∀ k, b k = 95 ↔ a k = 95 := fun k => by rw [(h k).2]; exact otN_95 _
  have h2 : ∀ k, sc (nI (b k)) < 8 ↔ sc (nI (a k)) < 8 := fun k => by rw [(h k).2, otN_nI _ (h k).1, sc_oth]; exact tn_8
  intro f
  induction f with
  | zero =>
    intro k
    show (if sgk b k = 0 then nI k else -1006) = (if sgk a k = 0 then nI k else -1006)
    rw [sgk_o h1]
  | succ f ih =>
    intro k
    show (if b k = 95 then (if sgk b k = 0 then nI k else ftf b f (k + 1)) else if sc (nI (b k)) < 8 then (if sgk b k = 10 then nI k else ftf b f (k + 1)) else nI k) = (if a k = 95 then (if sgk a k = 0 then nI k else ftf a f (k + 1)) else if sc (nI (a k)) < 8 then (if sgk a k = 10 then nI k else ftf a f (k + 1)) else nI k)
    rw [ih, sgk_o h1]
    by_cases hc : a k = 95
    · rw [if_pos hc, if_pos ((h1 k).mpr hc)]
    · rw [if_neg hc, if_neg (fun q => hc ((h1 k).mp q))]
      by_cases hd : sc (nI (a k)) < 8
      · rw [if_pos hd, if_pos ((h2 k).mpr hd)]
      · rw [if_neg hd, if_neg (fun q => hd ((h2 k).mp q))]
theorem ext_o {a b : Nat → Nat} (h : ∀ k, b k = 95 ↔ a k = 95) (pn : Nat) : ext b pn = ext a pn := funext fun x => exf_o h _ _
theorem wno_o {a b : Nat → Nat} (h : ∀ k, b k = 95 ↔ a k = 95) (pn : Nat) : wno b pn = wno a pn := by
  unfold wno wnx
  rw [ext_o h]
theorem muReadM (μ : Mu) {a b : Nat → Nat} (h : ∀ k, a k < 256 ∧ b k = otN (a k)) (pn : Nat) : muRead (muM μ) b pn = muM (muRead μ a pn) := by
  have h1 : ∀ k, b k = 95 ↔ a k = 95 := fun k => by rw [(h k).2]; exact otN_95 _
  have h2 : wst b pn = wst a pn := by
    funext i
    unfold wst wnx
    rw [ext_o h1]
  have h3 : wln b pn = wln a pn := by
    funext i
    unfold wln
    rw [h2, ext_o h1]
  have h4 : (fun w j => if w < mn μ then mg (muM μ) w j else nI (b (wst b pn (w - mn μ) + j))) = fun w j => oth (if w < mn μ then mg μ w j else nI (a (wst a pn (w - mn μ) + j))) := by
    funext w j
    rw [h2]
    split
    · rfl
    · rw [(h _).2, otN_nI _ (h _).1]
  show (((muM μ).1, mn μ + wno b pn, fun w => if w < mn μ then ml μ w else wln b pn (w - mn μ), fun w j => if w < mn μ then mg (muM μ) w j else nI (b (wst b pn (w - mn μ) + j))) : Mu) = _
  rw [h3, h4, wno_o h1]
  rfl
