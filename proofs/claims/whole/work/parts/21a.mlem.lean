/-! Small facts for the reference's methods -/
theorem if01_n {p : Prop} [Decidable p] (h : (if p then nI 1 else nI 0) = 0) : ¬ p := fun q => by
  rw [if_pos q] at h
  exact absurd h (by decide)
theorem if01_y {p : Prop} [Decidable p] (h : ¬ (if p then nI 1 else nI 0) = 0) : p := by
  by_cases q : p
  · exact q
  · exact absurd (show (if p then nI 1 else nI 0) = 0 by rw [if_neg q]; rfl) h
theorem br_lt {nx : Nat → Nat} {n L i : Nat} (h : Br nx n L) (hi : i ≤ L) (hs : stt nx i < n) : i < L := by
  rcases Nat.lt_or_ge i L with q | q
  · exact q
  · have : i = L := by omega
    subst this
    have := h.1
    omega
theorem br_end {nx : Nat → Nat} {n L i : Nat} (h : Br nx n L) (hi : i ≤ L) (hs : n ≤ stt nx i) : i = L := by
  rcases Nat.lt_or_ge i L with q | q
  · have := h.2 i q
    omega
  · omega
theorem wo_none {b : Nat → Nat → Int32} {m : Int32} {n k t : Nat} {T lf2 tk2 : Nat → Int32} (h1 : ∀ j, t = j + 1 → lf2 k = (inn b m n T k j).1 ∧ tk2 k = nI ((inn b m n T k j).2 - k)) (hin : ∀ j, t = j + 1 → inn b m n T k (j + 1) = inn b m n T k j) (h0 : t ≠ 0) : ∀ j, t + 1 = j + 1 → lf2 k = (inn b m n T k j).1 ∧ tk2 k = nI ((inn b m n T k j).2 - k) := fun j hj => by
  obtain ⟨i, hi⟩ : ∃ i, t = i + 1 := ⟨t - 1, by omega⟩
  have : j = i + 1 := by omega
  subst this
  rw [hin i hi]
  exact h1 i hi
theorem wo_new {b : Nat → Nat → Int32} {m x : Int32} {n k t : Nat} {T lf2 tk2 : Nat → Int32} (hin : inn b m n T k t = (x, k + t + 1)) : ∀ j, t + 1 = j + 1 → upd lf2 k x k = (inn b m n T k j).1 ∧ upd tk2 k (nI (k + t + 1 - k)) k = nI ((inn b m n T k j).2 - k) := fun j hj => by
  have : j = t := by omega
  subst this
  rw [hin]
  exact ⟨pk_us, pk_us⟩
theorem wo_0 {b : Nat → Nat → Int32} {m : Int32} {n k t : Nat} {T lf2 tk2 : Nat → Int32} (ht : k + t ≤ 24) (h1 : ∀ j, t = j + 1 → lf2 k = (inn b m n T k j).1 ∧ tk2 k = nI ((inn b m n T k j).2 - k)) (c : tk2 k = 0) : t = 0 := by
  rcases Nat.eq_zero_or_pos t with q | q
  · exact q
  · obtain ⟨j, hj⟩ : ∃ j, t = j + 1 := ⟨t - 1, by omega⟩
    have h2 := inn_snd b m n T k j
    rw [(h1 j hj).2] at c
    have := (nI_eq (b := 0) (by omega) (by decide)).mp c
    omega
theorem inn_z {b : Nat → Nat → Int32} {m : Int32} {n k t : Nat} {T : Nat → Int32} (ht : t = 0) : inn b m n T k t = (bad b m n k (k + t) + T (k + t + 1), k + t + 1) := by
  subst ht
  rfl
theorem inn_s {b : Nat → Nat → Int32} {m : Int32} {n k t j : Nat} {T : Nat → Int32} (ht : t = j + 1) (h : bad b m n k (k + t) + T (k + t + 1) ≤ (inn b m n T k j).1) : inn b m n T k t = (bad b m n k (k + t) + T (k + t + 1), k + t + 1) := by
  subst ht
  exact inn_yes h
theorem inn_sn {b : Nat → Nat → Int32} {m : Int32} {n k t j : Nat} {T : Nat → Int32} (ht : t = j + 1) (h : ¬ bad b m n k (k + t) + T (k + t + 1) ≤ (inn b m n T k j).1) : ∀ i, t = i + 1 → inn b m n T k (i + 1) = inn b m n T k i := fun i hi => by
  have : i = j := by omega
  subst this
  subst ht
  exact inn_no h
theorem best_t {b : Nat → Nat → Int32} {m : Int32} {n d : Nat} {nx2 nx3 : Nat → Int32} (hd : d < n) (h1 : ∀ q, n - d ≤ q → q < n → nx2 q = nI ((bv b m n d).2 q - q)) (g1 : nx3 (n - 1 - d) = nI ((inn b m n (bv b m n d).1 (n - 1 - d) (gx b m n (n - 1 - d) - (n - 1 - d) - 1)).2 - (n - 1 - d))) (g3 : ∀ q, q ≠ n - 1 - d → nx3 q = nx2 q) : ∀ q, n - (d + 1) ≤ q → q < n → nx3 q = nI ((bv b m n (d + 1)).2 q - q) := by
  intro q h2 h3
  show _ = nI (va_up (bv b m n d).2 (n - 1 - d) _ q - q)
  by_cases hc : q = n - 1 - d
  · subst hc
    rw [va_up_self]
    exact g1
  · rw [va_up_ne _ _ hc, g3 q hc]
    exact h1 q (by omega) h3
theorem add_to {a b : Nat} (h : a ≤ b) : nI a + nI (b - a) = nI b := (nI_add _ _).trans (congrArg nI (by omega))
/-- the line of a word -/
theorem lof_is {nx : Nat → Nat} {n L w i : Nat} (ha : Adv nx n) (hb : Br nx n L) (hi : i < L) (h1 : stt nx i ≤ w) (h2 : w < stt nx (i + 1)) : lof nx w L = i := by
  have key : ∀ k, k ≤ L → i < k → lof nx w k = i := by
    intro k
    induction k with
    | zero => intro _ h; omega
    | succ k ih =>
      intro hk hik
      unfold lof
      by_cases hc : stt nx k ≤ w
      · rw [if_pos hc]
        rcases Nat.lt_or_ge i k with q | q
        · have := stt_mono ha hb (i + 1) k
          rcases Nat.lt_or_ge (i + 1) k with q2 | q2
          · have := this q2 (by omega)
            omega
          · have : k = i + 1 := by omega
            subst this
            omega
        · omega
      · rw [if_neg hc]
        rcases Nat.lt_or_ge i k with q | q
        · exact ih (by omega) q
        · have : k = i := by omega
          subst this
          exact absurd h1 hc
  exact key L (Nat.le_refl _) hi
theorem bix_nar (x : Int32) (n : Nat) : narrow .boolean (.int (bix x n)) = .int (bix x n) := by
  rw [bixE]
  split <;> rfl
theorem stt_le {nx : Nat → Nat} {n L i : Nat} (h : Br nx n L) (hi : i ≤ L) : stt nx i ≤ n := by
  rcases Nat.lt_or_ge i L with q | q
  · exact Nat.le_of_lt (h.2 i q)
  · have : i = L := by omega
    subst this
    exact Nat.le_of_eq h.1
theorem hcnt_le {n : Nat} (h : n ≤ 6) : hcnt n ≤ 6 := by
  unfold hcnt
  split <;> omega
theorem hcnt_lt {n : Nat} (h : n < 6) : n + 1 = hcnt n := (if_pos h).symm
theorem hcnt_6 {n : Nat} (h : n = 6) : 5 + 1 = hcnt n := by
  subst h
  rfl
theorem hrow_lt {n : Nat} {hs : Nat → Mu} {h : Nat → Int32} (hn : n < 6) (hh : ∀ k, k < n → Rm (hs k) (fun j => h (293 * k + j))) : ∀ k, k < n → Rm (if n < 6 then hs k else hs (k + 1)) (fun j => h (293 * k + j)) := fun k hk => by
  rw [if_pos hn]
  exact hh k hk
theorem hrow_6 {n t : Nat} {hs : Nat → Mu} {h h2 : Nat → Int32} (hn : n = 6) (ht : 1465 ≤ t) (hh : ∀ k, k < n → Rm (hs k) (fun j => h (293 * k + j))) (e1 : ∀ j, j < t → h2 j = h (j + 293)) : ∀ k, k < 5 → Rm (if n < 6 then hs k else hs (k + 1)) (fun j => h2 (293 * k + j)) := fun k hk => by
  rw [if_neg (by omega)]
  exact (hh (k + 1) (by omega)).ext (fun j hj => (e1 _ (by omega)).trans (congrArg h (by omega)))
theorem row_up {f a : Nat → Int32} {b j : Nat} (h : ∀ x, x < j → f (b + x) = a x) : ∀ x, x < j + 1 → upd f (b + j) (a j) (b + x) = a x := fun x hx => by
  by_cases hc : x = j
  · subst hc
    exact pk_us
  · rw [pk_un (by omega)]
    exact h x (by omega)
theorem row_lo {f g : Nat → Int32} {b j : Nat} {v : Int32} (h : ∀ x, x < b → f x = g x) (hj : b ≤ j) : ∀ x, x < b → upd f j v x = g x := fun x hx => (pk_un (by omega)).trans (h x hx)
def stI (x y : Int32) : Int32 := match ixv x 4 with
  | none => nI 0
  | some k => if lsv k ≤ y ∧ y ≤ gsv k then nI 1 else nI 0
theorem stI_k {k : Nat} {x y : Int32} (h : x = nI k) (hk : k < 4) : stI x y = if lsv k ≤ y ∧ y ≤ gsv k then nI 1 else nI 0 := by
  unfold stI
  rw [h, ixv_s hk (by decide)]
theorem stI_n {x y : Int32} (h : ixv x 4 = none) : stI x y = nI 0 := by
  unfold stI
  rw [h]
theorem stI_no {S : Sg} {x y : Int32} (h : stI x y = 0) : fSet S x y = (-1002, S) := by
  unfold stI at h
  unfold fSet
  cases hx : ixv x 4 with
  | none => rfl
  | some k =>
    rw [hx] at h
    exact if_neg (if01_n h)
theorem stI_yes {x y : Int32} (h : ¬ stI x y = 0) : ∃ k, k < 4 ∧ x = nI k ∧ ixv x 4 = some k ∧ lsv k ≤ y ∧ y ≤ gsv k := by
  unfold stI at h
  have hb : ¬ bix x 4 = 0 := fun q => by
    rw [bix_0 q] at h
    exact h rfl
  obtain ⟨k, hk, e, e2⟩ := bix_1 (n := 4) (by decide) hb
  rw [e2] at h
  exact ⟨k, hk, e, e2, if01_y h⟩
theorem nar01 {p : Prop} [Decidable p] : narrow .boolean (.int (if p then nI 1 else nI 0)) = .int (if p then nI 1 else nI 0) := by
  split <;> rfl
theorem sw4b (y : Int32) : y = nI 0 ∨ y = nI 1 ∨ y = nI 2 ∨ y = nI 3 ∨ (ixv y 4 = none ∧ (y.toInt < 0 ∨ 3 < y.toInt)) := by
  rcases sw_of (y := y) 4 (by decide) with ⟨j, hj, e⟩ | ⟨h1, h2⟩
  · rcases (show j = 0 ∨ j = 1 ∨ j = 2 ∨ j = 3 from by omega) with rfl | rfl | rfl | rfl
    · exact Or.inl e
    · exact Or.inr (Or.inl e)
    · exact Or.inr (Or.inr (Or.inl e))
    · exact Or.inr (Or.inr (Or.inr (Or.inl e)))
  · exact Or.inr (Or.inr (Or.inr (Or.inr ⟨h1, h2.imp id (fun q => by omega)⟩)))
theorem way_n {x : Int32} (h0 : ¬ x = 0) (h1 : ¬ x = nI 1) : ixv x 2 = none := by
  rcases sw_of (y := x) 2 (by decide) with ⟨j, hj, e⟩ | ⟨h, -⟩
  · rcases (show j = 0 ∨ j = 1 from by omega) with rfl | rfl
    · exact absurd e h0
    · exact absurd e h1
  · exact h
theorem nI_le0 {s : Nat} (hs : s < 8) (h : nI s ≤ 0) : s = 0 := by
  rw [fa_le, nI_toInt (by omega), show (0 : Int32).toInt = 0 from rfl] at h
  omega
theorem nI_le0' {s : Nat} (h : ¬ nI s ≤ 0) : s ≠ 0 := fun q => h (by rw [q]; decide)
theorem tk_1 {a g : Nat → Int32} {b t : Nat} (e2 : ∀ j, b ≤ j → j < b + t → g j = a (j + 11)) : ∀ j, b ≤ j → j < b + (t + 1) → upd g (b + t) (a (b + t + 11)) j = a (j + 11) := fun j h1 h2 => by
  by_cases hc : j = b + t
  · subst hc
    exact pk_us
  · rw [pk_un hc]
    exact e2 j h1 (by omega)
