/-! Small facts for the reference's methods -/
theorem if01_n {p : Prop} [Decidable p] (h : (if p then nI 1 else nI 0) = 0) : ¬ p := fun q => by
  rw [if_pos q] at h
  exact absurd h (by decide)
theorem if01_y {p : Prop} [Decidable p] (h : ¬ (if p then nI 1 else nI 0) = 0) : p := by
  by_cases q : p
  · exact q
  · exact absurd (show (if p then nI 1 else nI 0) = 0 by rw [if_neg q]; rfl) h
theorem br_lt {nx : Nat → Nat} {n L i : Nat} (h : Br nx n L) (hi : i ≤ L) (hs : stt nx i < n) : i < L := by
  rcases Nat.lt_or_ge i L with q | q
  · exact q
  · have : i = L := by omega
    subst this
    have := h.1
    omega
theorem br_end {nx : Nat → Nat} {n L i : Nat} (h : Br nx n L) (hi : i ≤ L) (hs : n ≤ stt nx i) : i = L := by
  rcases Nat.lt_or_ge i L with q | q
  · have := h.2 i q
    omega
  · omega
theorem wo_none {b : Nat → Nat → Int32} {m : Int32} {n k t : Nat} {T lf2 tk2 : Nat → Int32} (h1 : ∀ j, t = j + 1 → lf2 k = (inn b m n T k j).1 ∧ tk2 k = nI ((inn b m n T k j).2 - k)) (hin : ∀ j, t = j + 1 → inn b m n T k (j + 1) = inn b m n T k j) (h0 : t ≠ 0) : ∀ j, t + 1 = j + 1 → lf2 k = (inn b m n T k j).1 ∧ tk2 k = nI ((inn b m n T k j).2 - k) := fun j hj => by
  obtain ⟨i, hi⟩ : ∃ i, t = i + 1 := ⟨t - 1, by omega⟩
  have : j = i + 1 := by omega
  subst this
  rw [hin i hi]
  exact h1 i hi
theorem wo_new {b : Nat → Nat → Int32} {m x : Int32} {n k t : Nat} {T lf2 tk2 : Nat → Int32} (hin : inn b m n T k t = (x, k + t + 1)) : ∀ j, t + 1 = j + 1 → upd lf2 k x k = (inn b m n T k j).1 ∧ upd tk2 k (nI (k + t + 1 - k)) k = nI ((inn b m n T k j).2 - k) := fun j hj => by
  have : j = t := by omega
  subst this
  rw [hin]
  exact ⟨pk_us, pk_us⟩
theorem wo_0 {b : Nat → Nat → Int32} {m : Int32} {n k t : Nat} {T lf2 tk2 : Nat → Int32} (ht : k + t ≤ 24) (h1 : ∀ j, t = j + 1 → lf2 k = (inn b m n T k j).1 ∧ tk2 k = nI ((inn b m n T k j).2 - k)) (c : tk2 k = 0) : t = 0 := by
  rcases Nat.eq_zero_or_pos t with q | q
  · exact q
  · obtain ⟨j, hj⟩ : ∃ j, t = j + 1 := ⟨t - 1, by omega⟩
    have h2 := inn_snd b m n T k j
    rw [(h1 j hj).2] at c
    have := (nI_eq (b := 0) (by omega) (by decide)).mp c
    omega
theorem inn_z {b : Nat → Nat → Int32} {m : Int32} {n k t : Nat} {T : Nat → Int32} (ht : t = 0) : inn b m n T k t = (bad b m n k (k + t) + T (k + t + 1), k + t + 1) := by
  subst ht
  rfl
theorem inn_s {b : Nat → Nat → Int32} {m : Int32} {n k t j : Nat} {T : Nat → Int32} (ht : t = j + 1) (h : bad b m n k (k + t) + T (k + t + 1) ≤ (inn b m n T k j).1) : inn b m n T k t = (bad b m n k (k + t) + T (k + t + 1), k + t + 1) := by
  subst ht
  exact inn_yes h
theorem inn_sn {b : Nat → Nat → Int32} {m : Int32} {n k t j : Nat} {T : Nat → Int32} (ht : t = j + 1) (h : ¬ bad b m n k (k + t) + T (k + t + 1) ≤ (inn b m n T k j).1) : ∀ i, t = i + 1 → inn b m n T k (i + 1) = inn b m n T k i := fun i hi => by
  have : i = j := by omega
  subst this
  subst ht
  exact inn_no h
theorem best_t {b : Nat → Nat → Int32} {m : Int32} {n d : Nat} {nx2 nx3 : Nat → Int32} (hd : d < n) (h1 : ∀ q, n - d ≤ q → q < n → nx2 q = nI ((bv b m n d).2 q - q)) (g1 : nx3 (n - 1 - d) = nI ((inn b m n (bv b m n d).1 (n - 1 - d) (gx b m n (n - 1 - d) - (n - 1 - d) - 1)).2 - (n - 1 - d))) (g3 : ∀ q, q ≠ n - 1 - d → nx3 q = nx2 q) : ∀ q, n - (d + 1) ≤ q → q < n → nx3 q = nI ((bv b m n (d + 1)).2 q - q) := by
  intro q h2 h3
  show _ = nI (va_up (bv b m n d).2 (n - 1 - d) _ q - q)
  by_cases hc : q = n - 1 - d
  · subst hc
    rw [va_up_self]
    exact g1
  · rw [va_up_ne _ _ hc, g3 q hc]
    exact h1 q (by omega) h3
theorem add_to {a b : Nat} (h : a ≤ b) : nI a + nI (b - a) = nI b := (nI_add _ _).trans (congrArg nI (by omega))
/-- the line of a word -/
theorem lof_is {nx : Nat → Nat} {n L w i : Nat} (ha : Adv nx n) (hb : Br nx n L) (hi : i < L) (h1 : stt nx i ≤ w) (h2 : w < stt nx (i + 1)) : lof nx w L = i := by
  have key : ∀ k, k ≤ L → i < k → lof nx w k = i := by
    intro k
    induction k with
    | zero => intro _ h; omega
    | succ k ih =>
      intro hk hik
      unfold lof
      by_cases hc : stt nx k ≤ w
      · rw [if_pos hc]
        rcases Nat.lt_or_ge i k with q | q
        · have := stt_mono ha hb (i + 1) k
          rcases Nat.lt_or_ge (i + 1) k with q2 | q2
          · have := this q2 (by omega)
            omega
          · have : k = i + 1 := by omega
            subst this
            omega
        · omega
      · rw [if_neg hc]
        rcases Nat.lt_or_ge i k with q | q
        · exact ih (by omega) q
        · have : k = i := by omega
          subst this
          exact absurd h1 hc
  exact key L (Nat.le_refl _) hi
theorem bix_nar (x : Int32) (n : Nat) : narrow .boolean (.int (bix x n)) = .int (bix x n) := by
  rw [bixE]
  split <;> rfl
theorem stt_le {nx : Nat → Nat} {n L i : Nat} (h : Br nx n L) (hi : i ≤ L) : stt nx i ≤ n := by
  rcases Nat.lt_or_ge i L with q | q
  · exact Nat.le_of_lt (h.2 i q)
  · have : i = L := by omega
    subst this
    exact Nat.le_of_eq h.1
