/-! Rows for the law's own instructions; its small numbers -/
section LR
variable {p : Program} {l : Launch} {e : Env} {R : Room} {s : State} {m : MethodId} {args : Array Value} {below : List Frame} {meth : Method} {c : Code} {κ : Kt} {n k sl : Nat} {Q : State → Prop} {st : St} {lv : List (Option Value)} {stk : List Value} {cc : ByteArray} {nL : Nat} {own : String} {ret : Option FieldType}
theorem ws_ldc (pc : Nat) (C : Cx p s m args meth c κ cc nL own ret) {i : Nat} (d : decode cc pc = .ok (.ldc i, 2)) (v : Int32) (hk : Cond.constant own i v ∈ gT) (kk : WS p l e R s m args below meth c κ n k sl Q st (pc + 2) lv (.int v :: stk)) : WS p l e R s m args below meth c κ n k sl Q st pc lv (stk) := fun hz H locs ls hW hS hl => lv_ldc C.1.1 C.1.2.1 C.1.2.2.2.1 (C.1.2.2.2.2 _ hk) d (kk hz H locs ls hW hS hl)
theorem ws_ixor (pc : Nat) (C : Cx p s m args meth c κ cc nL own ret) {x y : Int32} (d : decode cc pc = .ok (.ixor, 1)) (v : Int32) (hv : x ^^^ y = v) (kk : WS p l e R s m args below meth c κ n k sl Q st (pc + 1) lv (.int v :: stk)) : WS p l e R s m args below meth c κ n k sl Q st pc lv (.int y :: .int x :: stk) := fun hz H locs ls hW hS hl => lv_ixor C.1.1 C.1.2.1 d (hv ▸ kk hz H locs ls hW hS hl)
theorem ws_ishr (pc : Nat) (C : Cx p s m args meth c κ cc nL own ret) {x y : Int32} (d : decode cc pc = .ok (.ishr, 1)) (v : Int32) (hv : x >>> (y &&& 31) = v) (kk : WS p l e R s m args below meth c κ n k sl Q st (pc + 1) lv (.int v :: stk)) : WS p l e R s m args below meth c κ n k sl Q st pc lv (.int y :: .int x :: stk) := fun hz H locs ls hW hS hl => lv_ishr C.1.1 C.1.2.1 d (hv ▸ kk hz H locs ls hW hS hl)
theorem xk_of (C : Cx p s m args meth c κ cc nL own ret) : va_X (kB κ) (kXL κ) (kXs κ) s s.heap ∧ kB κ < s.heap.size ∧ ¬ fr κ (kB κ) := by
  obtain ⟨hx, hb⟩ := C.2.1.2.2.1.2
  refine ⟨hx.kept (C.2.2.2.2.2 _ hb), Nat.lt_of_lt_of_le hb C.2.2.2.2.1, fun (q : kN κ ≤ kB κ) => ?_⟩
  omega
end LR
def cel (xs : Nat → Int32) (L k : Nat) : Int32 := if k < L then xs k else 2144462789 * nI (k + 1481)
def upn (v : Int32) (n : Nat) : Nat := v.toBitVec.toNat % 2 ^ 31 % n
theorem upn_lt (v : Int32) {n : Nat} (h : 0 < n) : upn v n < n := Nat.mod_lt _ h
theorem up_and (v : Int32) : v &&& 2147483647 = nI (v.toBitVec.toNat % 2 ^ 31) := by
  apply Int32.toBitVec_inj.mp
  rw [Int32.toBitVec_and]
  apply BitVec.eq_of_toNat_eq
  rw [BitVec.toNat_and]
  show v.toBitVec.toNat &&& (2 ^ 31 - 1) = (BitVec.ofNat 32 (v.toBitVec.toNat % 2 ^ 31)).toNat
  rw [Nat.and_two_pow_sub_one_eq_mod, BitVec.toNat_ofNat]
  omega
theorem up_rem (v : Int32) {n : Nat} (h0 : 0 < n) (hn : n < 2 ^ 31) : nI (v.toBitVec.toNat % 2 ^ 31) - nI (v.toBitVec.toNat % 2 ^ 31) / nI n * nI n = nI (upn v n) := pk_rem (Nat.mod_lt _ (by decide)) h0 hn
theorem there_i : ∀ k, k < 8 → ¬ k = 0 → ¬ k = 7 → ((nI k - nI 1) ^^^ nI 1) + nI 1 = nI (tn k) := by decide +kernel
/-- the code of a sign, the sign in the second text, the sign of a code -/
def cdN (k : Nat) : Nat := if k = 27 then 46 else if k = 28 then 44 else if k = 29 then 59 else if k = 30 then 58 else if k = 31 then 45 else if k = 32 then 39 else if k = 33 then 33 else 97 + (k - 1) % 26
def ohN (k : Nat) : Nat := if k < 27 then k % 26 + 1 else tn (k - 26) + 26
def sgd (x : Int32) : Nat → Nat
  | 0 => 0
  | d + 1 => if nI (cdN (33 - d)) = x then 33 - d else sgd x d
theorem cdN_r : ∀ k, k < 34 → 0 < k → 33 ≤ cdN k ∧ cdN k < 127 ∧ cdN k ≠ 95 ∧ sc (nI (cdN k)) < 8 ∧ cdN (ohN k) = otN (cdN k) ∧ 0 < ohN k ∧ ohN k < 34 := by decide +kernel
theorem cdN_o {k : Nat} (h : k < 34) (h0 : 0 < k) : cdN k < 2 ^ 31 := by have := (cdN_r k h h0).2.1; omega
theorem sgd_q : ∀ q, q < 127 → sc (nI q) < 8 → sgd (nI q) 33 < 34 ∧ 0 < sgd (nI q) 33 ∧ 0 < ohN (sgd (nI q) 33) ∧ ohN (sgd (nI q) 33) < 34 ∧ nI (cdN (ohN (sgd (nI q) 33))) = oth (nI q) := by decide +kernel
theorem sc_nat {x : Int32} (h : sc x < 8) : ∃ q, q < 127 ∧ x = nI q := by
  by_cases h0 : nI 97 ≤ x ∧ x ≤ nI 122
  · obtain ⟨j, hj, e⟩ := nI_of2 (M := nI 122) (n := 122) (by decide) (fun q => absurd (Int32.lt_of_lt_of_le q (by decide : (0 : Int32) ≤ nI 97)) (Int32.not_lt.mpr h0.1)) h0.2
    exact ⟨j, by omega, e⟩
  by_cases h1 : x = nI 46
  · exact ⟨46, by omega, h1⟩
  by_cases h2 : x = nI 44
  · exact ⟨44, by omega, h2⟩
  by_cases h3 : x = nI 59
  · exact ⟨59, by omega, h3⟩
  by_cases h4 : x = nI 58
  · exact ⟨58, by omega, h4⟩
  by_cases h5 : x = nI 45
  · exact ⟨45, by omega, h5⟩
  by_cases h6 : x = nI 39
  · exact ⟨39, by omega, h6⟩
  by_cases h7 : x = nI 33
  · exact ⟨33, by omega, h7⟩
  rw [sc_8 h0 h1 h2 h3 h4 h5 h6 h7] at h
  omega
theorem sgd_c {x : Int32} (h : sc x < 8) : sgd x 33 < 34 ∧ 0 < sgd x 33 ∧ 0 < ohN (sgd x 33) ∧ ohN (sgd x 33) < 34 ∧ nI (cdN (ohN (sgd x 33))) = oth x := by
  obtain ⟨q, hq, e⟩ := sc_nat h
  subst e
  exact sgd_q q hq h
theorem code_i : ∀ k, k < 34 → 0 < k → ((k = 27 ∨ k = 28 ∨ k = 29 ∨ k = 30 ∨ k = 31 ∨ k = 32 ∨ k = 33) ∨ (((nI k).toInt < 27 ∨ 33 < (nI k).toInt) ∧ nI 97 + (nI k - nI 1 - (nI k - nI 1) / nI 26 * nI 26) = nI (cdN k))) := by decide +kernel
theorem other_i : ∀ k, k < 27 → 0 < k → nI k - nI k / nI 26 * nI 26 = nI (k % 26) := by decide +kernel
