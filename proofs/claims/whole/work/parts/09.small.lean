/-! small facts for the walks -/
theorem ws_lv {p : Program} {l : Launch} {e : Env} {R : Room} {s : State} {m : MethodId} {args : Array Value} {below : List Frame} {meth : Method} {c : Code} {κ : Kt} {n k sl : Nat} {Q : State → Prop} {st : St} {pc : Nat} {lv lv2 : List (Option Value)} {stk : List Value} (h : lv = lv2) (kk : WS p l e R s m args below meth c κ n k sl Q st pc lv2 stk) : WS p l e R s m args below meth c κ n k sl Q st pc lv stk := h ▸ kk
/-- the sort's number, or another number where there is none -/
def scv (no x : Int32) : Int32 := if sc x < 8 then nI (sc x) else no
theorem scv_k {no x : Int32} (h : sc x < 8) : scv no x = nI (sc x) := if_pos h
theorem scv_0 {no x : Int32} (h1 : nI 97 ≤ x) (h2 : x ≤ nI 122) : scv no x = nI 0 := by
  have : sc x = 0 := by unfold sc; rw [if_pos ⟨h1, h2⟩]
  unfold scv
  rw [this]
  rfl
theorem sc_8 {x : Int32} (h0 : ¬ (nI 97 ≤ x ∧ x ≤ nI 122)) (h1 : ¬ x = nI 46) (h2 : ¬ x = nI 44) (h3 : ¬ x = nI 59) (h4 : ¬ x = nI 58) (h5 : ¬ x = nI 45) (h6 : ¬ x = nI 39) (h7 : ¬ x = nI 33) : sc x = 8 := by
  unfold sc
  rw [if_neg h0, if_neg h1, if_neg h2, if_neg h3, if_neg h4, if_neg h5, if_neg h6, if_neg h7]
theorem scv_8 {no x : Int32} (h0 : ¬ (nI 97 ≤ x ∧ x ≤ nI 122)) (h1 : ¬ x = nI 46) (h2 : ¬ x = nI 44) (h3 : ¬ x = nI 59) (h4 : ¬ x = nI 58) (h5 : ¬ x = nI 45) (h6 : ¬ x = nI 39) (h7 : ¬ x = nI 33) : scv no x = no := by
  unfold scv
  rw [sc_8 h0 h1 h2 h3 h4 h5 h6 h7]
  rfl
theorem fit_char {x : Int32} (h : fits .char (.int x) = true) : narrow .char (.int x) = .int x := by
  sorry
theorem max0 {a : Nat} (h : a < 2 ^ 31) : (if nI a < nI 0 then nI 0 else nI a) = nI a := if_neg (nI_nlt (Nat.zero_le _) h)
