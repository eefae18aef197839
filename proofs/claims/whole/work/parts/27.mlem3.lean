/-! Facts for the reference's trials and its pad -/
theorem wd_meas (μ : Mu) (y : Int32) (w : Nat) : wd (muSet μ 0 y) w = wd μ w := by
  have : ∀ k, wdS (muSet μ 0 y) w k = wdS μ w k := by
    intro k
    induction k with
    | zero => rfl
    | succ k ih =>
      show wdS (muSet μ 0 y) w k + mv (muSet μ 0 y) 1 (so μ w k) = wdS μ w k + mv μ 1 (so μ w k)
      rw [ih]
      rfl
  exact this (ml μ w)
theorem bo_meas (μ : Mu) (y : Int32) : bo (muSet μ 0 y) = bo μ := by
  have hp : ∀ k, pl (muSet μ 0 y) k = pl μ k := by
    intro k
    induction k with
    | zero => rfl
    | succ k ih =>
      show pl (muSet μ 0 y) k + wd (muSet μ 0 y) k + mv μ 0 1 = pl μ k + wd μ k + mv μ 0 1
      rw [ih, wd_meas]
  funext i j
  show pl (muSet μ 0 y) (j + 1) - pl (muSet μ 0 y) i - mv μ 0 1 - lh μ i - rh μ j = pl μ (j + 1) - pl μ i - mv μ 0 1 - lh μ i - rh μ j
  rw [hp, hp]
theorem lnm_set (μ : Mu) (k : Nat) : lno (gx (bo (muSet μ 0 (nI k))) (mv (muSet μ 0 (nI k)) 0 0) (mn (muSet μ 0 (nI k)))) (mn (muSet μ 0 (nI k))) = lnm μ k := by
  rw [bo_meas]
  rfl
theorem upd_oth {g a : Nat → Int32} {c : Nat} {v : Int32} (h : ∀ j, j ≠ c → g j = a j) : ∀ j, j ≠ c → upd g c v j = a j := fun j hj => (pk_un hj).trans (h j hj)
theorem upd_two {g a : Nat → Int32} {c : Nat} {v : Int32} (h : ∀ j, j ≠ c → g j = a j) : ∀ j, j < 293 → upd g c v j = upd a c v j := fun j _ => by
  by_cases hc : j = c
  · subst hc
    rw [pk_us, pk_us]
  · rw [pk_un hc, pk_un hc, h j hc]
theorem Rm_meas {μ : Mu} {a g : Nat → Int32} {y : Int32} (h : Rm μ a) (hg : ∀ j, j ≠ 0 → g j = a j) : Rm (muSet μ 0 y) (upd g 0 y) := (Rm_set h (by decide)).ext (upd_two hg)
theorem Rm_rightg {μ : Mu} {a g : Nat → Int32} {q : Nat} {y : Int32} (h : Rm μ a) (hq : q < 8) (hg : ∀ j, j ≠ 21 + q → g j = a j) : Rm (muRight μ q y) (upd g (21 + q) y) := (Rm_right h hq).ext (upd_two hg)
theorem Rm_back {μ : Mu} {a g : Nat → Int32} {c : Nat} {v : Int32} (h : Rm μ a) (hv : v = a c) (hg : ∀ j, j ≠ c → g j = a j) : Rm μ (upd g c v) := h.ext (fun j _ => by
  by_cases hc : j = c
  · subst hc
    rw [pk_us, hv]
  · rw [pk_un hc, hg j hc])
theorem lsm_d {μ : Mu} {L d : Nat} (hd : d ≤ 200) : lsmf μ L (d + 1) (200 - d) = if lnm μ (200 - d) ≤ L then nI (200 - d) else lsmf μ L d (201 - d) := by
  show (if lnm μ (200 - d) ≤ L then nI (200 - d) else lsmf μ L d (200 - d + 1)) = _
  rw [show 200 - d + 1 = 201 - d from by omega]
theorem dec_n {a : Nat} (h : 1 ≤ a) : nI a + Int32.ofInt (-1) = nI (a - 1) := (dec1 a).trans (pk_sub h)
/-- the characters of a number, one by one -/
theorem lN_nI : ∀ b, b < 256 → lN b = (nI b).toInt64 := by decide +kernel
theorem inL_b {b : Nat} (h : b < 256) : inL (lN b) 33 126 = if 33 ≤ b ∧ b ≤ 126 then nI 1 else nI 0 := by
  rw [lN_nI b h, inL_32 (nI b) (nI 33) (nI 126) (by decide) (by decide)]
  by_cases c : 33 ≤ b ∧ b ≤ 126
  · rw [if_pos c, if_pos ⟨(nI_leI (by decide) (by omega)).mpr c.1, (nI_leI (by omega) (by decide)).mpr c.2⟩]
  · rw [if_neg c, if_neg (fun q => c ⟨(nI_leI (by decide) (by omega)).mp q.1, (nI_leI (by omega) (by decide)).mp q.2⟩)]
theorem pln_go {V n : Nat} (h : n < 8) (hb : 33 ≤ V / 2 ^ (8 * n) % 256 ∧ V / 2 ^ (8 * n) % 256 ≤ 126) : lenc (8 - n) (V / 2 ^ (8 * n)) n = lenc (8 - (n + 1)) (V / 2 ^ (8 * (n + 1))) (n + 1) := by
  rw [show 8 - n = (8 - (n + 1)) + 1 from by omega]
  show (if V / 2 ^ (8 * n) = 0 then n else if V / 2 ^ (8 * n) % 256 < 33 ∨ 126 < V / 2 ^ (8 * n) % 256 then 0 else lenc (8 - (n + 1)) (V / 2 ^ (8 * n) / 256) (n + 1)) = _
  rw [if_neg (by omega), if_neg (by omega), pby_s]
theorem pln_0 {V n : Nat} (h : n ≤ 8) (h0 : V / 2 ^ (8 * n) = 0) : lenc (8 - n) (V / 2 ^ (8 * n)) n = n := by
  rw [h0]
  cases 8 - n with
  | zero => rfl
  | succ f => rfl
theorem pln_x {V n : Nat} (h : n < 8) (hb : ¬ (33 ≤ V / 2 ^ (8 * n) % 256 ∧ V / 2 ^ (8 * n) % 256 ≤ 126)) (h0 : ¬ V / 2 ^ (8 * n) = 0) : lenc (8 - n) (V / 2 ^ (8 * n)) n = 0 := by
  rw [show 8 - n = (8 - (n + 1)) + 1 from by omega]
  show (if V / 2 ^ (8 * n) = 0 then n else if V / 2 ^ (8 * n) % 256 < 33 ∨ 126 < V / 2 ^ (8 * n) % 256 then 0 else lenc (8 - (n + 1)) (V / 2 ^ (8 * n) / 256) (n + 1)) = _
  rw [if_neg h0, if_pos (by omega)]
theorem pln_8 {V n : Nat} (hV : V < 2 ^ 64) (h : 8 ≤ n) : V / 2 ^ (8 * n) = 0 := Nat.div_eq_of_lt (Nat.lt_of_lt_of_le hV (Nat.pow_le_pow_right (by decide) (by omega)))
theorem tm_put {pt : Nat → Nat} {t t2 : Nat → Int32} {pn V n : Nat} (ht : ∀ k, k < pn → t k = nI (pt k) ∧ 33 ≤ pt k ∧ pt k ≤ 126) (hc : ∀ j, j < n → 33 ≤ pby V j ∧ pby V j ≤ 126) (h1 : ∀ q, q < pn → t2 q = t q) (h2 : ∀ q, q < n → t2 (pn + q) = nI (pby V (n - 1 - q))) : ∀ k, k < pn + n → t2 k = nI (ptPut pt pn V n k) ∧ 33 ≤ ptPut pt pn V n k ∧ ptPut pt pn V n k ≤ 126 := fun k hk => by
  unfold ptPut
  by_cases hc2 : k < pn
  · rw [if_pos hc2, h1 k hc2]
    exact ht k hc2
  · rw [if_neg hc2]
    obtain ⟨q, rfl⟩ : ∃ q, k = pn + q := ⟨k - pn, by omega⟩
    rw [show pn + q - pn = q from by omega]
    exact ⟨h2 q (by omega), hc _ (by omega)⟩
theorem pt_1 {t t2 : Nat → Int32} {pn k : Nat} {v : Int32} (h1 : ∀ q, q < pn → t2 q = t q) : ∀ q, q < pn → upd t2 (pn + k) v q = t q := fun q hq => (pk_un (by omega)).trans (h1 q hq)
theorem pt_2 {t2 F : Nat → Int32} {pn k : Nat} (h2 : ∀ q, q < k → t2 (pn + q) = F q) : ∀ q, q < k + 1 → upd t2 (pn + k) (F k) (pn + q) = F q := fun q hq => by
  by_cases hc : q = k
  · subst hc
    exact pk_us
  · rw [pk_un (by omega)]
    exact h2 q (by omega)
theorem scvn_t {x : Int32} (h : scv (-1006) x = -1006) : ¬ sc x < 8 := fun q => by
  rw [scv_k q] at h
  exact nI_no (by omega) h
theorem scvn_f {x : Int32} (h : ¬ scv (-1006) x = -1006) : sc x < 8 := by
  by_cases q : sc x < 8
  · exact q
  · exact absurd (show scv (-1006) x = -1006 from if_neg q) h
/-- words of the pad so far -/
def FoI (pt : Nat → Nat) (pn i : Nat) : Prop := i < wno pt pn ∧ 2 * i ≤ wst pt pn i ∧ ∀ j, j < wst pt pn i → (pt j = 95 → sgk pt j ≠ 0) ∧ (pt j ≠ 95 → sc (nI (pt j)) < 8 ∧ sgk pt j ≠ 10)
/-- a word's end as it is sought -/
def WeI (pt : Nat → Nat) (pn c e : Nat) : Prop := c ≤ e ∧ e ≤ pn ∧ e ≤ c + 10 ∧ (∀ j, c ≤ j → j < e → sc (nI (pt j)) < 8) ∧ (e = pn ∨ e = c + 10 ∨ ¬ sc (nI (pt e)) < 8)
theorem WeI.n95 {pt : Nat → Nat} {pn c e : Nat} (h : WeI pt pn c e) : ∀ j, c ≤ j → j < e → pt j ≠ 95 := fun j h1 h2 q => by
  have := h.2.2.2.1 j h1 h2
  rw [q] at this
  exact absurd this (by decide)
theorem WeI.sg {pt : Nat → Nat} {pn i e : Nat} (h : WeI pt pn (wst pt pn i) e) (hF : FoI pt pn i) : ∀ k, wst pt pn i + k ≤ e → sgk pt (wst pt pn i + k) = k := fun k hk => sgk_in (wst_sg i hF.1) k (fun j h1 h2 => h.n95 j h1 (by omega))
theorem WeI.ok {pt : Nat → Nat} {pn i e : Nat} (h : WeI pt pn (wst pt pn i) e) (hF : FoI pt pn i) : ∀ j, j < e → (pt j = 95 → sgk pt j ≠ 0) ∧ (pt j ≠ 95 → sc (nI (pt j)) < 8 ∧ sgk pt j ≠ 10) := fun j hj => by
  rcases Nat.lt_or_ge j (wst pt pn i) with q | q
  · exact hF.2.2 j q
  · obtain ⟨k, rfl⟩ : ∃ k, j = wst pt pn i + k := ⟨j - wst pt pn i, by omega⟩
    have := h.sg hF k (by omega)
    have h10 := h.2.2.1
    exact ⟨fun z => absurd z (h.n95 _ q hj), fun _ => ⟨h.2.2.2.1 _ q hj, by omega⟩⟩
theorem fo_0 {pt : Nat → Nat} {pn : Nat} : FoI pt pn 0 := ⟨wno_pos pt pn, Nat.zero_le _, fun j hj => absurd hj (Nat.not_lt_zero j)⟩
theorem fo_here {pt : Nat → Nat} {pn i e : Nat} (h : WeI pt pn (wst pt pn i) e) (hF : FoI pt pn i) (c : e = wst pt pn i) : flt pt pn = nI (wst pt pn i) := by
  have h0 := h.sg hF 0 (by omega)
  rw [Nat.add_zero] at h0
  have h1 := h.2.1
  refine ftf_at pn 0 (wst pt pn i) (Nat.zero_le _) (by omega) (fun j _ hj => hF.2.2 j hj) ?_
  rcases h.2.2.2.2 with a | a | a
  · exact Or.inr ⟨by omega, h0⟩
  · omega
  · rw [c] at a
    rcases Nat.lt_or_ge (wst pt pn i) pn with q | q
    · refine Or.inl ⟨by omega, ?_⟩
      by_cases h95 : pt (wst pt pn i) = 95
      · exact Or.inl ⟨h95, h0⟩
      · exact Or.inr ⟨h95, Or.inl a⟩
    · exact Or.inr ⟨by omega, h0⟩
theorem fo_there {pt : Nat → Nat} {pn i e : Nat} (h : WeI pt pn (wst pt pn i) e) (hF : FoI pt pn i) (c : e < pn) (h95 : ¬ pt e = 95) : flt pt pn = nI e := by
  refine ftf_at pn 0 e (Nat.zero_le _) (by omega) (fun j _ hj => h.ok hF j hj) (Or.inl ⟨by omega, Or.inr ⟨h95, ?_⟩⟩)
  rcases h.2.2.2.2 with a | a | a
  · omega
  · subst a
    exact Or.inr (h.sg hF 10 (Nat.le_refl _))
  · exact Or.inl a
theorem fo_ext {pt : Nat → Nat} {pn i e : Nat} (h : WeI pt pn (wst pt pn i) e) (he : e = pn ∨ pt e = 95) : ext pt pn (wst pt pn i) = e ∧ wln pt pn i = e - wst pt pn i := by
  have := ext_is h.1 h.2.1 h.n95 he
  exact ⟨this, by unfold wln; rw [this]⟩
theorem fo_none {pt : Nat → Nat} {pn i e : Nat} (h : WeI pt pn (wst pt pn i) e) (hF : FoI pt pn i) (hne : ¬ e = wst pt pn i) (c : e = pn) : flt pt pn = -1006 ∧ i + 1 = wno pt pn := by
  have h1 := h.1
  constructor
  · refine ftf_yes pn 0 (fun j _ hj => h.ok hF j (by omega)) ?_
    rw [Nat.zero_add, ← c]
    have := h.sg hF (e - wst pt pn i) (by omega)
    rw [show wst pt pn i + (e - wst pt pn i) = e from by omega] at this
    omega
  · have he := (fo_ext h (Or.inl c)).1
    have hb := wno_br pt pn
    refine br_end hb hF.1 ?_
    show pn + 1 ≤ wst pt pn (i + 1)
    rw [wst_s, he]
    omega
theorem fo_next {pt : Nat → Nat} {pn i e : Nat} (h : WeI pt pn (wst pt pn i) e) (hF : FoI pt pn i) (hne : ¬ e = wst pt pn i) (c : e < pn) (h95 : pt e = 95) : FoI pt pn (i + 1) ∧ wst pt pn (i + 1) = e + 1 := by
  have he := (fo_ext h (Or.inr h95)).1
  have h1 := h.1
  have hs : wst pt pn (i + 1) = e + 1 := by rw [wst_s, he]
  have h2 := hF.2.1
  refine ⟨⟨br_lt (wno_br pt pn) hF.1 (by show wst pt pn (i + 1) < pn + 1; omega), by omega, fun j hj => ?_⟩, hs⟩
  rw [hs] at hj
  rcases Nat.lt_or_ge j e with q | q
  · exact h.ok hF j q
  · have : j = e := by omega
    subst this
    have := h.sg hF (j - wst pt pn i) (by omega)
    rw [show wst pt pn i + (j - wst pt pn i) = j from by omega] at this
    exact ⟨fun _ => by omega, fun z => absurd h95 z⟩
def WsI (pt : Nat → Nat) (pn i : Nat) (f l : Nat → Int32) : Prop := ∀ q, q < i → f q = nI (wst pt pn q) ∧ l q = nI (wln pt pn q)
theorem ws_next {pt : Nat → Nat} {pn i e : Nat} {f l : Nat → Int32} (h : WsI pt pn i f l) (he : wln pt pn i = e - wst pt pn i) : WsI pt pn (i + 1) (upd f i (nI (wst pt pn i))) (upd l i (nI (e - wst pt pn i))) := fun q hq => by
  by_cases hc : q = i
  · subst hc
    rw [pk_us, pk_us, he]
    exact ⟨rfl, rfl⟩
  · rw [pk_un hc, pk_un hc]
    exact h q (by omega)
/-- words going from the pad into the row -/
def RdI (μ : Mu) (pt : Nat → Nat) (pn : Nat) (a g : Nat → Int32) (w : Nat) : Prop := (∀ j, j < 29 + 11 * mn μ → j ≠ 4 → g j = a j) ∧ g 4 = nI (mn μ + w) ∧ ∀ q, q < w → g (29 + 11 * (mn μ + q)) = nI (wln pt pn q) ∧ ∀ j, j < wln pt pn q → g (29 + 11 * (mn μ + q) + 1 + j) = nI (pt (wst pt pn q + j))
def RdJ (μ : Mu) (pt : Nat → Nat) (pn : Nat) (a g : Nat → Int32) (w k : Nat) : Prop := RdI μ pt pn a g w ∧ g (29 + 11 * (mn μ + w)) = nI (wln pt pn w) ∧ ∀ j, j < k → g (29 + 11 * (mn μ + w) + 1 + j) = nI (pt (wst pt pn w + j))
theorem rd_0 {μ : Mu} {pt : Nat → Nat} {pn : Nat} {a : Nat → Int32} (h : Rm μ a) : RdI μ pt pn a a 0 := ⟨fun _ _ _ => rfl, h.n, fun q hq => absurd hq (Nat.not_lt_zero q)⟩
theorem rd_keep {μ : Mu} {pt : Nat → Nat} {pn w x : Nat} {a g : Nat → Int32} {v : Int32} (h : RdI μ pt pn a g w) (hx : 29 + 11 * (mn μ + w) ≤ x) (h10 : ∀ q, q < w → wln pt pn q ≤ 10) : RdI μ pt pn a (upd g x v) w := ⟨fun j h1 h2 => (pk_un (by omega)).trans (h.1 j h1 h2), (pk_un (by omega)).trans h.2.1, fun q hq => ⟨(pk_un (by omega)).trans (h.2.2 q hq).1, fun j hj => (pk_un (by have := h10 q hq; omega)).trans ((h.2.2 q hq).2 j hj)⟩⟩
theorem rd_j0 {μ : Mu} {pt : Nat → Nat} {pn w : Nat} {a g : Nat → Int32} (h : RdI μ pt pn a g w) (h10 : ∀ q, q < w → wln pt pn q ≤ 10) : RdJ μ pt pn a (upd g (29 + 11 * (mn μ + w)) (nI (wln pt pn w))) w 0 := ⟨rd_keep h (Nat.le_refl _) h10, pk_us, fun j hj => absurd hj (Nat.not_lt_zero j)⟩
theorem rd_js {μ : Mu} {pt : Nat → Nat} {pn w k : Nat} {a g : Nat → Int32} (h : RdJ μ pt pn a g w k) (h10 : ∀ q, q < w → wln pt pn q ≤ 10) : RdJ μ pt pn a (upd g (29 + 11 * (mn μ + w) + 1 + k) (nI (pt (wst pt pn w + k)))) w (k + 1) := ⟨rd_keep h.1 (by omega) h10, (pk_un (by omega)).trans h.2.1, fun j hj => by
  by_cases hc : j = k
  · subst hc
    exact pk_us
  · rw [pk_un (by omega)]
    exact h.2.2 j (by omega)⟩
theorem rd_s {μ : Mu} {pt : Nat → Nat} {pn w k : Nat} {a g : Nat → Int32} (h : RdJ μ pt pn a g w k) (hk : wln pt pn w ≤ k) : RdI μ pt pn a (upd g 4 (nI (mn μ + w + 1))) (w + 1) := ⟨fun j h1 h2 => (pk_un h2).trans (h.1.1 j h1 h2), pk_us, fun q hq => by
  by_cases hc : q = w
  · subst hc
    exact ⟨(pk_un (by omega)).trans h.2.1, fun j hj => (pk_un (by omega)).trans (h.2.2 j (by omega))⟩
  · exact ⟨(pk_un (by omega)).trans (h.1.2.2 q (by omega)).1, fun j hj => (pk_un (by omega)).trans ((h.1.2.2 q (by omega)).2 j hj)⟩⟩
theorem rd_end {μ : Mu} {pt : Nat → Nat} {pn w : Nat} {a g : Nat → Int32} (hR : Rm μ a) (h : RdI μ pt pn a g w) (hw : w = wno pt pn) (hN : NoF pt pn) (h24 : mn μ + wno pt pn ≤ 24) : Rm (muRead μ pt pn) g := by
  subst hw
  refine hR.head (muRead_ok hR.ok hN h24) rfl (fun j h1 h2 => h.1 j (by omega) h2) h.2.1 (fun i hi => ?_) (fun i hi j hj => ?_)
  · have hi : i < mn μ + wno pt pn := hi
    show _ = nI (if i < mn μ then ml μ i else wln pt pn (i - mn μ))
    by_cases hc : i < mn μ
    · rw [if_pos hc, h.1 _ (by omega) (by omega)]
      exact hR.len hc
    · rw [if_neg hc]
      have := (h.2.2 (i - mn μ) (by omega)).1
      rw [show mn μ + (i - mn μ) = i from by omega] at this
      exact this
  · have hi : i < mn μ + wno pt pn := hi
    have hj : j < (if i < mn μ then ml μ i else wln pt pn (i - mn μ)) := hj
    show _ = (if i < mn μ then mg μ i j else nI (pt (wst pt pn (i - mn μ) + j)))
    by_cases hc : i < mn μ
    · rw [if_pos hc] at hj ⊢
      have h10 := (hR.ok.len hc).2
      rw [h.1 _ (by omega) (by omega)]
      exact hR.sig hc hj
    · rw [if_neg hc] at hj ⊢
      have := (h.2.2 (i - mn μ) (by omega)).2 j hj
      rw [show mn μ + (i - mn μ) = i from by omega] at this
      exact this
theorem sm_save {κ : Kt} {z : Nat} {st : St} {sl : Nat → Mu} {fd : Nat → Nat} {s s2 a f : Nat → Int32} {i : Nat} {μ : Mu} (hi : i < 2) (hR : Rm μ a) (h : ∀ j, j < 2 → f j = nI (fd j) ∧ fd j ≤ 1 ∧ (fd j = 1 → Rm (sl j) (fun k => s (293 * j + k)))) (h1 : ∀ j, j < 293 → s2 (293 * i + j) = a j) (h2 : ∀ j, (j < 293 * i ∨ 293 * i + 293 ≤ j) → s2 j = s j) (hS : Ob z st 95 (bA κ 586 s2)) (hI : Ob z st 96 (bA κ 2 (upd f i (nI 1)))) : SmP κ z st (va_up sl i μ) (va_up fd i 1) := by
  refine ⟨s2, _, hS, hI, fun j hj => ?_⟩
  by_cases hc : j = i
  · subst hc
    rw [va_up_self, va_up_self, pk_us]
    exact ⟨rfl, Nat.le_refl _, fun _ => hR.ext (fun k hk => h1 k hk)⟩
  · rw [va_up_ne _ _ hc, va_up_ne _ _ hc, pk_un hc]
    obtain ⟨g1, g2, g3⟩ := h j hj
    exact ⟨g1, g2, fun e => (g3 e).ext (fun k hk => h2 _ (by omega))⟩
theorem sv_1 {s2 s : Nat → Int32} {i k : Nat} {v : Int32} (h : ∀ j, (j < 293 * i ∨ 293 * i + 293 ≤ j) → s2 j = s j) (hk : k < 293) : ∀ j, (j < 293 * i ∨ 293 * i + 293 ≤ j) → upd s2 (293 * i + k) v j = s j := fun j hj => (pk_un (by omega)).trans (h j hj)
