/-! Facts for the reference's public methods -/
theorem sw11 {a g : Nat → Int32} {i j k : Nat} (h : ∀ w q, w < 24 → q < 11 → g (29 + 11 * w + q) = a (29 + 11 * (if q < k then (if w = i then j else if w = j then i else w) else w) + q)) (hi : i < 24) (hj : j < 24) (hij : ¬ i = j) (hk : k < 11) : ∀ w q, w < 24 → q < 11 → upd (upd g (29 + 11 * i + k) (a (29 + 11 * j + k))) (29 + 11 * j + k) (a (29 + 11 * i + k)) (29 + 11 * w + q) = a (29 + 11 * (if q < k + 1 then (if w = i then j else if w = j then i else w) else w) + q) := by
  intro w q hw hq
  by_cases hqk : q = k
  · subst hqk
    rw [if_pos (Nat.lt_succ_self q)]
    by_cases h1 : w = i
    · subst h1
      rw [if_pos rfl, pk_un (by omega), pk_us]
    · rw [if_neg h1]
      by_cases h2 : w = j
      · subst h2
        rw [if_pos rfl, pk_us]
      · rw [if_neg h2, pk_un (by omega), pk_un (by omega), h w q hw hq, if_neg (Nat.lt_irrefl q)]
  · rw [pk_un (by omega), pk_un (by omega), h w q hw hq]
    by_cases h3 : q < k
    · rw [if_pos h3, if_pos (show q < k + 1 from by omega)]
    · rw [if_neg h3, if_neg (show ¬ q < k + 1 from by omega)]
theorem ge4 {y : Int32} (h0 : 0 ≤ y) (h : y.toInt < 0 ∨ 3 < y.toInt) : nI 4 ≤ y := by
  rw [fa_le, show (0 : Int32).toInt = 0 from rfl] at h0
  rw [fa_le, nI_toInt (by decide)]
  omega
theorem sw59 (y : Int32) : y = nI 5 ∨ y = nI 6 ∨ y = nI 7 ∨ y = nI 8 ∨ y = nI 9 ∨ (y ≠ nI 7 ∧ (y.toInt < 5 ∨ 9 < y.toInt)) := by
  by_cases h5 : y = nI 5
  · exact Or.inl h5
  by_cases h6 : y = nI 6
  · exact Or.inr (Or.inl h6)
  by_cases h7 : y = nI 7
  · exact Or.inr (Or.inr (Or.inl h7))
  by_cases h8 : y = nI 8
  · exact Or.inr (Or.inr (Or.inr (Or.inl h8)))
  by_cases h9 : y = nI 9
  · exact Or.inr (Or.inr (Or.inr (Or.inr (Or.inl h9))))
  refine Or.inr (Or.inr (Or.inr (Or.inr (Or.inr ⟨h7, ?_⟩))))
  have key : ∀ k, k < 2 ^ 31 → ¬ y = nI k → y.toInt ≠ (k : Int) := fun k hk h q => h (Int32.toInt_inj.mp (by rw [nI_toInt hk]; exact q))
  have a5 := key 5 (by decide) h5
  have a6 := key 6 (by decide) h6
  have a7 := key 7 (by decide) h7
  have a8 := key 8 (by decide) h8
  have a9 := key 9 (by decide) h9
  omega
theorem none10 {y : Int32} (h : bix y 5 = 0) (hr : y.toInt < 5 ∨ 9 < y.toInt) : ixv y 10 = none := by
  have h5 := bix_0 h
  rcases sw_of (y := y) 10 (by decide) with ⟨j, hj, e⟩ | ⟨h1, h2⟩
  · subst e
    rcases Nat.lt_or_ge j 5 with q | q
    · rw [ixv_s q (by decide)] at h5
      cases h5
    · rw [nI_toInt (by omega)] at hr
      omega
  · exact h1
theorem fCount_all {S : Sg} {a : Nat → Int32} {x : Int32} {k : Nat} (hR : Rm (sM S) a) (hk : k < 5) (hx : x = nI k) : a k = fCount S x := by
  rcases Nat.lt_or_ge k 4 with q | q
  · rw [fCount_k hx q]
    exact hR.set q
  · rw [show k = 4 from by omega] at hx ⊢
    rw [fCount_4 hx]
    exact hR.n
/-- what is summed over lines -/
def smv (μ : Mu) (nxt : Nat → Nat) (L w k : Nat) : Int32 := if w = 1 then sumB μ nxt (mv μ 0 0) k else if w = 2 then nI (smN (indN μ nxt (mv μ 0 0) (mv μ 0 2) L) k) else nI (smN (unfN μ nxt (mv μ 0 0)) k)
theorem smv_0 {μ : Mu} {nxt : Nat → Nat} {L w : Nat} : smv μ nxt L w 0 = nI 0 := by
  unfold smv
  split
  · rfl
  · split <;> rfl
theorem smv_1 {μ : Mu} {nxt : Nat → Nat} {L w k : Nat} {x : Int32} (hx : x = smv μ nxt L w k) (hw : w = 1) : x + bad (bo μ) (mv μ 0 0) (mn μ) (stt nxt k) (stt nxt (k + 1) - 1) = smv μ nxt L w (k + 1) := by
  subst hx
  unfold smv
  rw [if_pos hw, if_pos hw]
  rfl
theorem smv_20 {μ : Mu} {nxt : Nat → Nat} {L w k : Nat} {x : Int32} (hx : x = smv μ nxt L w k) (h1 : ¬ w = 1) (hw : w = 2) (h : indN μ nxt (mv μ 0 0) (mv μ 0 2) L k = 0) : x + nI 0 = smv μ nxt L w (k + 1) := by
  subst hx
  unfold smv
  rw [if_neg h1, if_neg h1, if_pos hw, if_pos hw, sm_0 h]
  exact nI_add _ _
theorem smv_21 {μ : Mu} {nxt : Nat → Nat} {L w k : Nat} {x : Int32} (hx : x = smv μ nxt L w k) (h1 : ¬ w = 1) (hw : w = 2) (h : ¬ indN μ nxt (mv μ 0 0) (mv μ 0 2) L k = 0) : x + nI 1 = smv μ nxt L w (k + 1) := by
  subst hx
  unfold smv
  have hle := indN_le μ nxt (mv μ 0 0) (mv μ 0 2) L k
  rw [if_neg h1, if_neg h1, if_pos hw, if_pos hw, sm_1 (show _ = 1 by omega)]
  exact nI_add _ _
theorem smv_30 {μ : Mu} {nxt : Nat → Nat} {L w k : Nat} {x : Int32} (hx : x = smv μ nxt L w k) (h1 : ¬ w = 1) (hw : ¬ w = 2) (h : ¬ fitI μ nxt (mv μ 0 0) k = 0) : x + nI 0 = smv μ nxt L w (k + 1) := by
  subst hx
  unfold smv
  rw [if_neg h1, if_neg h1, if_neg hw, if_neg hw, sm_0 (unfN_y (fitI_y h))]
  exact nI_add _ _
theorem smv_31 {μ : Mu} {nxt : Nat → Nat} {L w k : Nat} {x : Int32} (hx : x = smv μ nxt L w k) (h1 : ¬ w = 1) (hw : ¬ w = 2) (h : fitI μ nxt (mv μ 0 0) k = 0) : x + nI 1 = smv μ nxt L w (k + 1) := by
  subst hx
  unfold smv
  rw [if_neg h1, if_neg h1, if_neg hw, if_neg hw, sm_1 (unfN_n (fitI_n h))]
  exact nI_add _ _
theorem gre_new0 {μ : Mu} {nxt : Nat → Nat} {k : Nat} (h : k = 0) : bol μ nxt k = greB μ nxt (k + 1) := by
  subst h
  rfl
theorem greB_s {μ : Mu} {nxt : Nat → Nat} {k : Nat} (h : ¬ k = 0) : greB μ nxt (k + 1) = if greB μ nxt k < bol μ nxt k then bol μ nxt k else greB μ nxt k := by
  obtain ⟨j, rfl⟩ : ∃ j, k = j + 1 := ⟨k - 1, by omega⟩
  rfl
def oflv (μ : Mu) (nxt : Nat → Nat) (L w : Nat) : Int32 := if w = 4 then greB μ nxt L else smv μ nxt L w L
theorem oflv_fLn {S : Sg} {way w : Nat} (h1 : ¬ w = 0) (h5 : w < 5) : oflv (sM S) (nxw (sM S) way) (lnw (sM S) way) w = fLn S way w := by
  rcases (show w = 1 ∨ w = 2 ∨ w = 3 ∨ w = 4 from by omega) with rfl | rfl | rfl | rfl <;> rfl
/-- lines as a set of bits -/
def bsN (nxt : Nat → Nat) : Nat → Nat
  | 0 => 0
  | k + 1 => bsN nxt k ||| 2 ^ stt nxt k
theorem bs_tb (nxt : Nat → Nat) (b : Nat) : ∀ k, (bsN nxt k).testBit b = true ↔ ∃ i, i < k ∧ stt nxt i = b := by
  intro k
  induction k with
  | zero =>
    show (0 : Nat).testBit b = true ↔ _
    rw [Nat.zero_testBit]
    constructor
    · intro h; cases h
    · rintro ⟨i, hi, -⟩; omega
  | succ k ih =>
    show (bsN nxt k ||| 2 ^ stt nxt k).testBit b = true ↔ _
    rw [Nat.testBit_or, Nat.testBit_two_pow, Bool.or_eq_true, ih, decide_eq_true_iff]
    constructor
    · rintro (⟨i, hi, e⟩ | e)
      · exact ⟨i, by omega, e⟩
      · exact ⟨k, by omega, e⟩
    · rintro ⟨i, hi, e⟩
      rcases Nat.lt_or_ge i k with q | q
      · exact Or.inl ⟨i, q, e⟩
      · exact Or.inr (by rw [← e, show i = k from by omega])
theorem bs_lt {nxt : Nat → Nat} {c : Nat} : ∀ k, (∀ i, i < k → stt nxt i < c) → bsN nxt k < 2 ^ c := by
  intro k
  induction k with
  | zero => intro _; exact Nat.two_pow_pos c
  | succ k ih =>
    intro h
    exact Nat.or_lt_two_pow (ih (fun i hi => h i (by omega))) (Nat.pow_lt_pow_right (by decide) (h k (by omega)))
theorem bs_or {a b : Nat} (ha : a < 2 ^ 24) (hb : b < 2 ^ 24) : nI a ||| nI b = nI (a ||| b) := by
  have h := Nat.or_lt_two_pow ha hb
  apply Int32.toBitVec_inj.mp
  rw [Int32.toBitVec_or]
  apply BitVec.eq_of_toNat_eq
  rw [BitVec.toNat_or]
  have t : ∀ n, n < 2 ^ 24 → (nI n).toBitVec.toNat = n := fun n hn => by
    show (BitVec.ofNat 32 n).toNat = n
    rw [BitVec.toNat_ofNat, Nat.mod_eq_of_lt (Nat.lt_of_lt_of_le hn (by decide))]
  rw [t a ha, t b hb, t _ h]
theorem bs_sh : ∀ k, k < 24 → nI 1 <<< (nI k &&& 31) = nI (2 ^ k) := by decide +kernel
theorem bs_same {n L0 L1 : Nat} {n0 n1 : Nat → Nat} (a0 : Adv n0 n) (a1 : Adv n1 n) (b0 : Br n0 n L0) (b1 : Br n1 n L1) : bsN n0 L0 = bsN n1 L1 ↔ (L0 = L1 ∧ ∀ i, i < L0 → stt n0 i = stt n1 i) := by
  constructor
  · intro h
    have key : ∀ b, (∃ i, i < L0 ∧ stt n0 i = b) ↔ ∃ i, i < L1 ∧ stt n1 i = b := fun b => by rw [← bs_tb, ← bs_tb, h]
    have eqs : ∀ i, i < L0 → i < L1 → (∀ j, j < i → stt n0 j = stt n1 j) → stt n0 i = stt n1 i := by
      intro i h0 h1 ih
      have s1 : stt n1 i ≤ stt n0 i := by
        obtain ⟨x, hx, e⟩ := (key (stt n0 i)).mp ⟨i, h0, rfl⟩
        rcases Nat.lt_or_ge x i with q | q
        · have := ih x q
          have := stt_mono a0 b0 x i q (by omega)
          omega
        · rcases Nat.lt_or_ge i x with q2 | q2
          · have := stt_mono a1 b1 i x q2 (by omega)
            omega
          · rw [show x = i from by omega] at e
            omega
      have s2 : stt n0 i ≤ stt n1 i := by
        obtain ⟨x, hx, e⟩ := (key (stt n1 i)).mpr ⟨i, h1, rfl⟩
        rcases Nat.lt_or_ge x i with q | q
        · have := ih x q
          have := stt_mono a1 b1 x i q (by omega)
          omega
        · rcases Nat.lt_or_ge i x with q2 | q2
          · have := stt_mono a0 b0 i x q2 (by omega)
            omega
          · rw [show x = i from by omega] at e
            omega
      omega
    have all : ∀ i, i < L0 → i < L1 → stt n0 i = stt n1 i := by
      intro i
      induction i using Nat.strongRecOn with
      | ind i ih => exact fun h0 h1 => eqs i h0 h1 (fun j hj => ih j hj (by omega) (by omega))
    have hL : L0 = L1 := by
      rcases Nat.lt_trichotomy L0 L1 with q | q | q
      · obtain ⟨x, hx, e⟩ := (key (stt n1 L0)).mpr ⟨L0, q, rfl⟩
        have := all x hx (by omega)
        have := stt_mono a1 b1 x L0 hx (by omega)
        omega
      · exact q
      · obtain ⟨x, hx, e⟩ := (key (stt n0 L1)).mp ⟨L1, q, rfl⟩
        have := all x (by omega) hx
        have := stt_mono a0 b0 x L1 hx (by omega)
        omega
    exact ⟨hL, fun i hi => all i hi (by omega)⟩
  · rintro ⟨hL, h⟩
    subst hL
    have : ∀ k, k ≤ L0 → bsN n0 k = bsN n1 k := by
      intro k
      induction k with
      | zero => intro _; rfl
      | succ k ih =>
        intro hk
        show bsN n0 k ||| 2 ^ stt n0 k = bsN n1 k ||| 2 ^ stt n1 k
        rw [ih (by omega), h k (by omega)]
    exact this L0 (Nat.le_refl _)
