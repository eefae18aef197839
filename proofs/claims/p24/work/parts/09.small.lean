/-! small facts for the walks -/
theorem ws_lv {p : Program} {l : Launch} {e : Env} {R : Room} {s : State} {m : MethodId} {args : Array Value} {below : List Frame} {meth : Method} {c : Code} {κ : Kt} {n k sl : Nat} {Q : State → Prop} {st : St} {pc : Nat} {lv lv2 : List (Option Value)} {stk : List Value} (h : lv = lv2) (kk : WS p l e R s m args below meth c κ n k sl Q st pc lv2 stk) : WS p l e R s m args below meth c κ n k sl Q st pc lv stk := h ▸ kk
/-- locals of which less is said -/
def lw_le : List (Option Value) → List (Option Value) → Prop
  | [], [] => True
  | none :: a, _ :: b => lw_le a b
  | some v :: a, some w :: b => v = w ∧ lw_le a b
  | _, _ => False
theorem lw_le_sub : ∀ {a b : List (Option Value)}, lw_le a b → a.length = b.length ∧ ∀ (i : Nat) (v : Value), a[i]? = some (some v) → b[i]? = some (some v)
  | [], [], _ => ⟨rfl, fun _ _ h => h⟩
  | none :: a, x :: b, h => by
    obtain ⟨h1, h2⟩ := lw_le_sub (a := a) (b := b) h
    refine ⟨congrArg (· + 1) h1, fun i v hi => ?_⟩
    cases i with
    | zero => cases hi
    | succ i => exact h2 i v hi
  | some v :: a, some w :: b, h => by
    obtain ⟨h0, h⟩ := h
    subst h0
    obtain ⟨h1, h2⟩ := lw_le_sub (a := a) (b := b) h
    refine ⟨congrArg (· + 1) h1, fun i x hi => ?_⟩
    cases i with
    | zero => exact hi
    | succ i => exact h2 i x hi
  | [], _ :: _, h => h.elim
  | some _ :: _, [], h => h.elim
  | none :: _, [], h => h.elim
  | some _ :: _, none :: _, h => h.elim
theorem ws_wk {p : Program} {l : Launch} {e : Env} {R : Room} {s : State} {m : MethodId} {args : Array Value} {below : List Frame} {meth : Method} {c : Code} {κ : Kt} {n k sl : Nat} {Q : State → Prop} {st : St} {pc : Nat} {lv lv2 : List (Option Value)} {stk : List Value} (h : lw_le lv2 lv) (kk : WS p l e R s m args below meth c κ n k sl Q st pc lv2 stk) : WS p l e R s m args below meth c κ n k sl Q st pc lv stk := fun hz H locs ls hW hS hl => kk hz H locs ls hW hS ⟨hl.1.trans (lw_le_sub h).1.symm, hl.2.1, fun i v hi => hl.2.2 i v ((lw_le_sub h).2 i v hi)⟩
/-- the sort's number, or another number where there is none -/
def scv (no x : Int32) : Int32 := if sc x < 8 then nI (sc x) else no
theorem scv_k {no x : Int32} (h : sc x < 8) : scv no x = nI (sc x) := if_pos h
theorem scv_0 {no x : Int32} (h1 : nI 97 ≤ x) (h2 : x ≤ nI 122) : scv no x = nI 0 := by
  have : sc x = 0 := by unfold sc; rw [if_pos ⟨h1, h2⟩]
  unfold scv
  rw [this]
  rfl
theorem sc_8 {x : Int32} (h0 : ¬ (nI 97 ≤ x ∧ x ≤ nI 122)) (h1 : ¬ x = nI 46) (h2 : ¬ x = nI 44) (h3 : ¬ x = nI 59) (h4 : ¬ x = nI 58) (h5 : ¬ x = nI 45) (h6 : ¬ x = nI 39) (h7 : ¬ x = nI 33) : sc x = 8 := by
  unfold sc
  rw [if_neg h0, if_neg h1, if_neg h2, if_neg h3, if_neg h4, if_neg h5, if_neg h6, if_neg h7]
theorem scv_8 {no x : Int32} (h0 : ¬ (nI 97 ≤ x ∧ x ≤ nI 122)) (h1 : ¬ x = nI 46) (h2 : ¬ x = nI 44) (h3 : ¬ x = nI 59) (h4 : ¬ x = nI 58) (h5 : ¬ x = nI 45) (h6 : ¬ x = nI 39) (h7 : ¬ x = nI 33) : scv no x = no := by
  unfold scv
  rw [sc_8 h0 h1 h2 h3 h4 h5 h6 h7]
  rfl
theorem fit_nat {x : Int32} (h : fits .char (.int x) = true) : ∃ q : Nat, q < 65536 ∧ x = nI q := by
  have h1 : (decide (0 ≤ x) && decide (x ≤ 65535)) = true := h
  simp only [Bool.and_eq_true, decide_eq_true_eq] at h1
  obtain ⟨q, hq, e⟩ := nI_of2 (n := 65535) (by decide) (fun z => absurd h1.1 (Int32.not_le.mpr z)) h1.2
  exact ⟨q, by omega, e⟩
theorem fit_char {x : Int32} (h : fits .char (.int x) = true) : narrow .char (.int x) = .int x := by
  obtain ⟨q, hq, rfl⟩ := fit_nat h
  exact (pk_charN hq).1
theorem fit_of {q : Nat} (h : q < 65536) : fits .char (.int (nI q)) = true := (pk_charN h).2
theorem fit_nar {x : Int32} (h : fits .char (.int x) = true) : vp_nar .char x = x := by
  have := fit_char h
  unfold vp_nar
  rw [this]
theorem max0 {a : Nat} (h : a < 2 ^ 31) : (if nI a < nI 0 then nI 0 else nI a) = nI a := if_neg (nI_nlt (Nat.zero_le _) h)
theorem upd_fit {f : Nat → Int32} {k : Nat} {x : Int32} (h : ∀ j, fits .char (.int (f j)) = true) (hx : fits .char (.int x) = true) : ∀ j, fits .char (.int (upd f k x j)) = true := fun j => by
  unfold upd
  split
  · exact hx
  · exact h j
theorem cpy_fit {f g : Nat → Int32} {a b n : Nat} (h : ∀ j, fits .char (.int (f j)) = true) (h2 : ∀ j, fits .char (.int (g j)) = true) : ∀ j, fits .char (.int (va_cpy f g a b n j)) = true := fun j => by
  unfold va_cpy
  split
  · exact h _
  · exact h2 j
theorem smN_succ (f : Nat → Nat) (k : Nat) : smN f (k + 1) = smN f k + f k := rfl
/-- signs of a sort in a word, in the text -/
def cnW (μ : Mu) (s w : Nat) : Nat → Nat := fun k => smN (fun j => if so μ w j = s then 1 else 0) k
def cnT (μ : Mu) (s : Nat) : Nat → Nat := fun k => smN (fun w => cnW μ s w (ml μ w)) k
theorem cnW_le (μ : Mu) (s w k : Nat) : cnW μ s w k ≤ k := by
  have := smN_le (f := fun j => if so μ w j = s then 1 else 0) (c := 1) k (fun j _ => by
    show (if so μ w j = s then 1 else 0) ≤ 1
    split <;> omega)
  unfold cnW
  omega
theorem cnT_le {μ : Mu} (h : Ok μ) (s : Nat) : ∀ k, k ≤ mn μ → cnT μ s k ≤ 10 * k := by
  intro k hk
  have := smN_le (f := fun w => cnW μ s w (ml μ w)) (c := 10) k (fun w hw => Nat.le_trans (cnW_le μ s w _) (h.len (by omega)).2)
  unfold cnT
  omega
theorem sgn_le {μ : Mu} (h : Ok μ) : ∀ k, k ≤ mn μ → smN (ml μ) k ≤ 10 * k := by
  intro k hk
  have := smN_le (f := ml μ) (c := 10) k (fun w hw => (h.len (by omega)).2)
  omega
theorem cnW_1 {μ : Mu} {s w k : Nat} (h : so μ w k = s) : cnW μ s w (k + 1) = cnW μ s w k + 1 := by
  show smN _ k + (if so μ w k = s then 1 else 0) = _
  rw [if_pos h]
  rfl
theorem cnW_0 {μ : Mu} {s w k : Nat} (h : ¬ so μ w k = s) : cnW μ s w (k + 1) = cnW μ s w k := by
  show smN _ k + (if so μ w k = s then 1 else 0) = _
  rw [if_neg h]
  rfl
theorem cnT_s (μ : Mu) (s k : Nat) : cnT μ s (k + 1) = cnT μ s k + cnW μ s k (ml μ k) := rfl
theorem cpy0 {f g : Nat → Int32} {n k : Nat} (h : k < n) : va_cpy f g 0 0 n k = f k := by
  rw [pk_cpy_in (Nat.zero_le _) (by omega)]
  congr 1
  omega
theorem Rp_copy {μ : Mu} {f1 f2 f3 f4 f5 f6 g1 g2 g3 g4 g5 g6 : Nat → Int32} (hR : Rp μ f1 f2 f3 f4 f5 f6) (hg : ∀ k, fits .char (.int (g5 k)) = true) : Rp μ (va_cpy f1 g1 0 0 4) (va_cpy f2 g2 0 0 8) (va_cpy f3 g3 0 0 8) (va_cpy f4 g4 0 0 8) (va_cpy f5 g5 0 0 (mn μ * 10)) (va_cpy f6 g6 0 0 (mn μ)) := by
  refine ⟨hR.ok, trivial, fun k hk => (cpy0 hk).trans (hR.set hk), fun k hk => (cpy0 hk).trans (hR.wid hk), fun k hk => (cpy0 hk).trans (hR.lef hk), fun k hk => (cpy0 hk).trans (hR.rig hk), cpy_fit hR.fit hg, fun i hi => (cpy0 hi).trans (hR.len hi), fun i hi j hj => ?_⟩
  have := (hR.ok.len hi).2
  rw [cpy0 (by omega)]
  exact hR.sig hi hj
theorem drop6 {μ : Mu} {g6 : Nat → Int32} {i k : Nat} (h : ∀ w, w < mn μ → g6 w = if i ≤ w ∧ w < i + k then nI (ml μ (w + 1)) else nI (ml μ w)) (hk : i + 1 + k < mn μ) : ∀ w, w < mn μ → upd g6 (i + k) (g6 (i + 1 + k)) w = if i ≤ w ∧ w < i + (k + 1) then nI (ml μ (w + 1)) else nI (ml μ w) := by
  intro w hw
  by_cases hc : w = i + k
  · subst hc
    rw [pk_us, if_pos (by omega), h _ hk, if_neg (by omega), show i + 1 + k = i + k + 1 from by omega]
  · rw [pk_un hc, h w hw]
    by_cases h2 : i ≤ w ∧ w < i + k
    · rw [if_pos h2, if_pos (by omega)]
    · rw [if_neg h2, if_neg (by omega)]
theorem drop5 {μ : Mu} {f5 g5 : Nat → Int32} {i k : Nat} (h : ∀ w j, w < mn μ → j < 10 → g5 (w * 10 + j) = f5 ((if i ≤ w ∧ w < i + k then w + 1 else w) * 10 + j)) (hk : i + 1 + k < mn μ) : ∀ w j, w < mn μ → j < 10 → va_cpy g5 g5 ((i + 1 + k) * 10) ((i + k) * 10) 10 (w * 10 + j) = f5 ((if i ≤ w ∧ w < i + (k + 1) then w + 1 else w) * 10 + j) := by
  intro w j hw hj
  by_cases hc : w = i + k
  · subst hc
    rw [pk_cpy_in (by omega) (by omega), show (i + 1 + k) * 10 + ((i + k) * 10 + j - (i + k) * 10) = (i + 1 + k) * 10 + j from by omega, h _ j hk hj, if_neg (by omega), if_pos (by omega), show i + 1 + k = i + k + 1 from by omega]
  · rw [pk_cpy_out (by omega), h w j hw hj]
    by_cases h2 : i ≤ w ∧ w < i + k
    · rw [if_pos h2, if_pos (by omega)]
    · rw [if_neg h2, if_neg (by omega)]
theorem Rp_drop {μ : Mu} {f1 f2 f3 f4 f5 f6 g5 g6 : Nat → Int32} {i k : Nat} (hR : Rp μ f1 f2 f3 f4 f5 f6) (hi : i < mn μ) (hk : mn μ - 1 ≤ i + k) (h6 : ∀ w, w < mn μ → g6 w = if i ≤ w ∧ w < i + k then nI (ml μ (w + 1)) else nI (ml μ w)) (h5 : ∀ w j, w < mn μ → j < 10 → g5 (w * 10 + j) = f5 ((if i ≤ w ∧ w < i + k then w + 1 else w) * 10 + j)) (hf : ∀ j, fits .char (.int (g5 j)) = true) : Rp (muDrop μ i) f1 f2 f3 f4 g5 g6 := by
  refine ⟨muDrop_ok hR.ok hi, trivial, fun k hk => hR.set hk, fun k hk => hR.wid hk, fun k hk => hR.lef hk, fun k hk => hR.rig hk, hf, fun w hw => ?_, fun w hw j hj => ?_⟩
  · have hw : w < mn μ - 1 := hw
    rw [h6 w (by omega)]
    show _ = nI (if w < i then ml μ w else ml μ (w + 1))
    by_cases hc : w < i
    · rw [if_pos hc, if_neg (by omega)]
    · rw [if_neg hc, if_pos (by omega)]
  · have hw : w < mn μ - 1 := hw
    have hj : j < if w < i then ml μ w else ml μ (w + 1) := hj
    show _ = if w < i then mg μ w j else mg μ (w + 1) j
    by_cases hc : w < i
    · rw [if_pos hc] at hj ⊢
      have := (hR.ok.len (show w < mn μ from by omega)).2
      rw [h5 w j (by omega) (by omega), if_neg (by omega)]
      exact hR.sig (by omega) hj
    · rw [if_neg hc] at hj ⊢
      have := (hR.ok.len (show w + 1 < mn μ from by omega)).2
      rw [h5 w j (by omega) (by omega), if_pos (by omega)]
      exact hR.sig (by omega) hj
theorem swap5 {f5 g5 : Nat → Int32} {i j k : Nat} (h : ∀ w q, w < 24 → q < 10 → g5 (w * 10 + q) = f5 ((if q < k then (if w = i then j else if w = j then i else w) else w) * 10 + q)) (hi : i < 24) (hj : j < 24) (hij : i ≠ j) (hk : k < 10) : ∀ w q, w < 24 → q < 10 → upd (upd g5 (i * 10 + k) (g5 (j * 10 + k))) (j * 10 + k) (g5 (i * 10 + k)) (w * 10 + q) = f5 ((if q < k + 1 then (if w = i then j else if w = j then i else w) else w) * 10 + q) := by
  intro w q hw hq
  by_cases hqk : q = k
  · subst hqk
    rw [if_pos (by omega)]
    by_cases h1 : w = j
    · subst h1
      rw [pk_us, h i q hi hq, if_neg (by omega), if_neg (Ne.symm hij), if_pos rfl]
    · rw [pk_un (by omega)]
      by_cases h2 : w = i
      · subst h2
        rw [pk_us, h j q hj hq, if_neg (by omega), if_pos rfl]
      · rw [pk_un (by omega), h w q hw hq, if_neg (by omega), if_neg h2, if_neg h1]
  · rw [pk_un (by omega), pk_un (by omega), h w q hw hq]
    by_cases h3 : q < k
    · rw [if_pos h3, if_pos (show q < k + 1 by omega)]
    · rw [if_neg h3, if_neg (show ¬ q < k + 1 by omega)]
theorem Rp_swap {μ : Mu} {f1 f2 f3 f4 f5 f6 g5 : Nat → Int32} {i j k : Nat} (hR : Rp μ f1 f2 f3 f4 f5 f6) (hi : i < mn μ) (hj : j < mn μ) (hij : i ≠ j) (hk : 10 ≤ k) (h5 : ∀ w q, w < 24 → q < 10 → g5 (w * 10 + q) = f5 ((if q < k then (if w = i then j else if w = j then i else w) else w) * 10 + q)) (hf : ∀ q, fits .char (.int (g5 q)) = true) : Rp (muSwap μ i j) f1 f2 f3 f4 g5 (upd (upd f6 i (nI (ml μ j))) j (nI (ml μ i))) := by
  have h24 := hR.le
  refine ⟨muSwap_ok hR.ok hi hj, trivial, fun k hk => hR.set hk, fun k hk => hR.wid hk, fun k hk => hR.lef hk, fun k hk => hR.rig hk, hf, fun w hw => ?_, fun w hw q hq => ?_⟩
  · have hw : w < mn μ := hw
    show _ = nI (if w = i then ml μ j else if w = j then ml μ i else ml μ w)
    by_cases h1 : w = i
    · subst h1
      rw [pk_un hij, pk_us, if_pos rfl]
    · by_cases h2 : w = j
      · subst h2
        rw [pk_us, if_neg h1, if_pos rfl]
      · rw [pk_un h2, pk_un h1, if_neg h1, if_neg h2]
        exact hR.len hw
  · have hw : w < mn μ := hw
    have hq : q < if w = i then ml μ j else if w = j then ml μ i else ml μ w := hq
    show _ = if w = i then mg μ j q else if w = j then mg μ i q else mg μ w q
    have l1 := (hR.ok.len hi).2
    have l2 := (hR.ok.len hj).2
    have l3 := (hR.ok.len hw).2
    by_cases h1 : w = i
    · rw [if_pos h1] at hq ⊢
      rw [h5 w q (by omega) (by omega), if_pos (by omega), if_pos h1]
      exact hR.sig hj hq
    · by_cases h2 : w = j
      · rw [if_neg h1, if_pos h2] at hq ⊢
        rw [h5 w q (by omega) (by omega), if_pos (by omega), if_neg h1, if_pos h2]
        exact hR.sig hi hq
      · rw [if_neg h1, if_neg h2] at hq ⊢
        rw [h5 w q (by omega) (by omega), if_pos (by omega), if_neg h1, if_neg h2]
        exact hR.sig hw hq
