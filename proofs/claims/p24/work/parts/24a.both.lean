/-! The contracts of both objects -/
section
variable {zl : Launch} {κ : Kt} {st : St} {S T : Sg}
theorem o_set (h : WI κ st S T) {x y : Int32} : CT zl κ yX4_set cX4_set 4 (some .int) (r0 3 60) 182 (.ref (ad κ 0) :: [.int (x), .int (y)]) st (PW κ (fSet S x y).1 (fSet S x y).2 T) := o_of (fun hX => c_X4_set hX) h
theorem p_set (h : WI κ st S T) {x y : Int32} : CT zl κ yX4_set cX4_set 4 (some .int) (r0 3 60) 182 (.ref (ad κ 91) :: [.int (x), .int (y)]) st (PW κ (fSet T x y).1 S (fSet T x y).2) := p_of (fun κ' hX => c_X4_set hX) h
theorem o_sort (h : WI κ st S T) {x w l r : Int32} : CT zl κ yX4_sort cX4_sort 6 (some .int) (r0 3 60) 182 (.ref (ad κ 0) :: [.int (x), .int (w), .int (l), .int (r)]) st (PW κ (fSort S x w l r).1 (fSort S x w l r).2 T) := o_of (fun hX => c_X4_sort hX) h
theorem p_sort (h : WI κ st S T) {x w l r : Int32} : CT zl κ yX4_sort cX4_sort 6 (some .int) (r0 3 60) 182 (.ref (ad κ 91) :: [.int (x), .int (w), .int (l), .int (r)]) st (PW κ (fSort T x w l r).1 S (fSort T x w l r).2) := p_of (fun κ' hX => c_X4_sort hX) h
theorem o_read (h : WI κ st S T)  : CT zl κ yX4_read cX4_read 1 (some .int) (r0 3 60) 182 (.ref (ad κ 0) :: []) st (PW κ (fRead S).1 (fRead S).2 T) := o_of (fun hX => c_X4_read hX) h
theorem p_read (h : WI κ st S T)  : CT zl κ yX4_read cX4_read 1 (some .int) (r0 3 60) 182 (.ref (ad κ 91) :: []) st (PW κ (fRead T).1 S (fRead T).2) := p_of (fun κ' hX => c_X4_read hX) h
theorem o_drop (h : WI κ st S T) {x : Int32} : CT zl κ yX4_drop cX4_drop 3 (some .int) (r0 3 67) 182 (.ref (ad κ 0) :: [.int (x)]) st (PW κ (fDrop S x).1 (fDrop S x).2 T) := o_of (fun hX => c_X4_drop hX) h
theorem p_drop (h : WI κ st S T) {x : Int32} : CT zl κ yX4_drop cX4_drop 3 (some .int) (r0 3 67) 182 (.ref (ad κ 91) :: [.int (x)]) st (PW κ (fDrop T x).1 S (fDrop T x).2) := p_of (fun κ' hX => c_X4_drop hX) h
theorem o_swap (h : WI κ st S T) {x y : Int32} : CT zl κ yX4_swap cX4_swap 3 (some .int) (r0 7 155) 182 (.ref (ad κ 0) :: [.int (x), .int (y)]) st (PW κ (fSwap S x y).1 (fSwap S x y).2 T) := o_of (fun hX => c_X4_swap hX) h
theorem p_swap (h : WI κ st S T) {x y : Int32} : CT zl κ yX4_swap cX4_swap 3 (some .int) (r0 7 155) 182 (.ref (ad κ 91) :: [.int (x), .int (y)]) st (PW κ (fSwap T x y).1 S (fSwap T x y).2) := p_of (fun κ' hX => c_X4_swap hX) h
theorem o_clear (h : WI κ st S T)  : CT zl κ yX4_clear cX4_clear 2 (some .int) (r0 3 60) 182 (.ref (ad κ 0) :: []) st (PW κ (fClear S).1 (fClear S).2 T) := o_of (fun hX => c_X4_clear hX) h
theorem p_clear (h : WI κ st S T)  : CT zl κ yX4_clear cX4_clear 2 (some .int) (r0 3 60) 182 (.ref (ad κ 91) :: []) st (PW κ (fClear T).1 S (fClear T).2) := p_of (fun κ' hX => c_X4_clear hX) h
theorem o_sortOf (h : WI κ st S T) {x y : Int32} : CT zl κ yX4_sortOf cX4_sortOf 3 (some .int) (r0 3 68) 182 (.ref (ad κ 0) :: [.int (x), .int (y)]) st (PW κ (fSortOf S x y) S T) := o_of (fun hX => c_X4_sortOf hX) h
theorem p_sortOf (h : WI κ st S T) {x y : Int32} : CT zl κ yX4_sortOf cX4_sortOf 3 (some .int) (r0 3 68) 182 (.ref (ad κ 91) :: [.int (x), .int (y)]) st (PW κ (fSortOf T x y) S T) := p_of (fun κ' hX => c_X4_sortOf hX) h
theorem o_word (h : WI κ st S T) {x y : Int32} : CT zl κ yX4_word cX4_word 3 (some .int) (r0 7 155) 182 (.ref (ad κ 0) :: [.int (x), .int (y)]) st (PW κ (fWord S x y) S T) := o_of (fun hX => c_X4_word hX) h
theorem p_word (h : WI κ st S T) {x y : Int32} : CT zl κ yX4_word cX4_word 3 (some .int) (r0 7 155) 182 (.ref (ad κ 91) :: [.int (x), .int (y)]) st (PW κ (fWord T x y) S T) := p_of (fun κ' hX => c_X4_word hX) h
theorem o_line (h : WI κ st S T) {x y v : Int32} : CT zl κ yX4_line cX4_line 5 (some .int) (r0 7 155) 182 (.ref (ad κ 0) :: [.int (x), .int (y), .int (v)]) st (PW κ (fLine S x y v) S T) := o_of (fun hX => c_X4_line hX) h
theorem p_line (h : WI κ st S T) {x y v : Int32} : CT zl κ yX4_line cX4_line 5 (some .int) (r0 7 155) 182 (.ref (ad κ 91) :: [.int (x), .int (y), .int (v)]) st (PW κ (fLine T x y v) S T) := p_of (fun κ' hX => c_X4_line hX) h
theorem o_lines (h : WI κ st S T) {x y : Int32} : CT zl κ yX4_lines cX4_lines 3 (some .int) (r0 7 155) 182 (.ref (ad κ 0) :: [.int (x), .int (y)]) st (PW κ (fLines S x y) S T) := o_of (fun hX => c_X4_lines hX) h
theorem p_lines (h : WI κ st S T) {x y : Int32} : CT zl κ yX4_lines cX4_lines 3 (some .int) (r0 7 155) 182 (.ref (ad κ 91) :: [.int (x), .int (y)]) st (PW κ (fLines T x y) S T) := p_of (fun κ' hX => c_X4_lines hX) h
theorem o_body (h : WI κ st S T) {x y : Int32} : CT zl κ yX4_body cX4_body 3 (some .int) (r0 4 89) 182 (.ref (ad κ 0) :: [.int (x), .int (y)]) st (PW κ (fBody S x y) S T) := o_of (fun hX => c_X4_body hX) h
theorem p_body (h : WI κ st S T) {x y : Int32} : CT zl κ yX4_body cX4_body 3 (some .int) (r0 4 89) 182 (.ref (ad κ 91) :: [.int (x), .int (y)]) st (PW κ (fBody T x y) S T) := p_of (fun κ' hX => c_X4_body hX) h
theorem o_leastMeasure (h : WI κ st S T) {x : Int32} : CT zl κ yX4_leastMeasure cX4_leastMeasure 3 (some .int) (r0 4 89) 182 (.ref (ad κ 0) :: [.int (x)]) st (PW κ (fLeast S x) S T) := o_of (fun hX => c_X4_leastMeasure hX) h
theorem p_leastMeasure (h : WI κ st S T) {x : Int32} : CT zl κ yX4_leastMeasure cX4_leastMeasure 3 (some .int) (r0 4 89) 182 (.ref (ad κ 91) :: [.int (x)]) st (PW κ (fLeast T x) S T) := p_of (fun κ' hX => c_X4_leastMeasure hX) h
theorem o_bestShare (h : WI κ st S T) {x : Int32} : CT zl κ yX4_bestShare cX4_bestShare 8 (some .int) (r0 6 132) 182 (.ref (ad κ 0) :: [.int (x)]) st (PW κ (fBest S x) S T) := o_of (fun hX => c_X4_bestShare hX) h
theorem p_bestShare (h : WI κ st S T) {x : Int32} : CT zl κ yX4_bestShare cX4_bestShare 8 (some .int) (r0 6 132) 182 (.ref (ad κ 91) :: [.int (x)]) st (PW κ (fBest T x) S T) := p_of (fun κ' hX => c_X4_bestShare hX) h
theorem o_worstWord (h : WI κ st S T)  : CT zl κ yX4_worstWord cX4_worstWord 5 (some .int) (r0 6 132) 182 (.ref (ad κ 0) :: []) st (PW κ (fWorst S) S T) := o_of (fun hX => c_X4_worstWord hX) h
theorem p_worstWord (h : WI κ st S T)  : CT zl κ yX4_worstWord cX4_worstWord 5 (some .int) (r0 6 132) 182 (.ref (ad κ 91) :: []) st (PW κ (fWorst T) S T) := p_of (fun κ' hX => c_X4_worstWord hX) h
theorem o_put (h : WI κ st S T) {V : Nat} (hV : V < 2 ^ 64) : CT zl κ yX4_put cX4_put 4 (some .int) (r0 1 26) 182 (.ref (ad κ 0) :: [.long (lN V)]) st (PW κ (fPut S V).1 (fPut S V).2 T) := o_of (fun hX => c_X4_put hX hV) h
theorem p_put (h : WI κ st S T) {V : Nat} (hV : V < 2 ^ 64) : CT zl κ yX4_put cX4_put 4 (some .int) (r0 1 26) 182 (.ref (ad κ 91) :: [.long (lN V)]) st (PW κ (fPut T V).1 S (fPut T V).2) := p_of (fun κ' hX => c_X4_put hX hV) h
theorem o_wipe (h : WI κ st S T)  : CT zl κ yX4_wipe cX4_wipe 2 (some .int) (r0 0 0) 182 (.ref (ad κ 0) :: []) st (PW κ (fWipe S).1 (fWipe S).2 T) := o_of (fun hX => c_X4_wipe hX) h
theorem p_wipe (h : WI κ st S T)  : CT zl κ yX4_wipe cX4_wipe 2 (some .int) (r0 0 0) 182 (.ref (ad κ 91) :: []) st (PW κ (fWipe T).1 S (fWipe T).2) := p_of (fun κ' hX => c_X4_wipe hX) h
theorem o_save (h : WI κ st S T) {x : Int32} : CT zl κ yX4_save cX4_save 2 (some .int) (r0 2 39) 182 (.ref (ad κ 0) :: [.int x]) st (PW κ (fSave S x).1 (fSave S x).2 T) := o_of (fun hX => c_X4_save hX) h
theorem p_save (h : WI κ st S T) {x : Int32} : CT zl κ yX4_save cX4_save 2 (some .int) (r0 2 39) 182 (.ref (ad κ 91) :: [.int x]) st (PW κ (fSave T x).1 S (fSave T x).2) := p_of (fun κ' hX => c_X4_save hX) h
theorem o_restore (h : WI κ st S T) {x : Int32} : CT zl κ yX4_restore cX4_restore 2 (some .int) (r0 3 60) 182 (.ref (ad κ 0) :: [.int x]) st (PW κ (fRestore S x).1 (fRestore S x).2 T) := o_of (fun hX => c_X4_restore hX) h
theorem p_restore (h : WI κ st S T) {x : Int32} : CT zl κ yX4_restore cX4_restore 2 (some .int) (r0 3 60) 182 (.ref (ad κ 91) :: [.int x]) st (PW κ (fRestore T x).1 S (fRestore T x).2) := p_of (fun κ' hX => c_X4_restore hX) h
theorem o_countR (h : WI κ st S T) {x : Int32} : CT zl κ yX4_count cX4_count 2 (some .int) (r0 7 155) 182 (.ref (ad κ 0) :: [.int x]) st (PI (fun r u => pCount S x r ∧ WI κ u S T)) := by
  refine (o_ofr (R := fun r S' => pCount S x r ∧ S' = S) (fun hX => (c_X4_count hX).mono ?_) h).mono ?_
  · rintro v u ⟨r, e1, e2, e3, e4⟩
    exact ⟨r, e1, _, ⟨e2, rfl⟩, e3, e4⟩
  · rintro v u ⟨r, e1, S', T', ⟨⟨e2, rfl⟩, rfl⟩, e4⟩
    exact ⟨r, e1, e2, e4⟩
theorem o_count (h : WI κ st S T) {k : Nat} (hk : k < 10) (h7 : k ≠ 7) : CT zl κ yX4_count cX4_count 2 (some .int) (r0 7 155) 182 (.ref (ad κ 0) :: [.int (nI k)]) st (PW κ (fCount S (nI k)) S T) := by
  refine (o_countR h).mono ?_
  rintro v u ⟨r, e1, e2, e3⟩
  rcases e2 with ⟨a, -⟩ | ⟨-, a⟩
  · exact absurd ((nI_eq (by omega) (by decide)).mp a) h7
  · exact ⟨r, e1, a, e3⟩
theorem o_count7 (h : WI κ st S T) : CT zl κ yX4_count cX4_count 2 (some .int) (r0 7 155) 182 (.ref (ad κ 0) :: [.int (nI 7)]) st (PI (fun r u => ((r = nI 1 ∧ Same (sM S)) ∨ (r = nI 0 ∧ ¬ Same (sM S))) ∧ WI κ u S T)) := by
  refine (o_countR h).mono ?_
  rintro v u ⟨r, e1, e2, e3⟩
  rcases e2 with ⟨-, a⟩ | ⟨a, -⟩
  · exact ⟨r, e1, a, e3⟩
  · exact absurd rfl a
theorem p_countR (h : WI κ st S T) {x : Int32} : CT zl κ yX4_count cX4_count 2 (some .int) (r0 7 155) 182 (.ref (ad κ 91) :: [.int x]) st (PI (fun r u => pCount T x r ∧ WI κ u S T)) := by
  refine (p_ofr (R := fun r S' => pCount T x r ∧ S' = T) (fun κ' hX => (c_X4_count hX).mono ?_) h).mono ?_
  · rintro v u ⟨r, e1, e2, e3, e4⟩
    exact ⟨r, e1, _, ⟨e2, rfl⟩, e3, e4⟩
  · rintro v u ⟨r, e1, S', T', ⟨⟨e2, rfl⟩, rfl⟩, e4⟩
    exact ⟨r, e1, e2, e4⟩
theorem p_count (h : WI κ st S T) {k : Nat} (hk : k < 10) (h7 : k ≠ 7) : CT zl κ yX4_count cX4_count 2 (some .int) (r0 7 155) 182 (.ref (ad κ 91) :: [.int (nI k)]) st (PW κ (fCount T (nI k)) S T) := by
  refine (p_countR h).mono ?_
  rintro v u ⟨r, e1, e2, e3⟩
  rcases e2 with ⟨a, -⟩ | ⟨-, a⟩
  · exact absurd ((nI_eq (by omega) (by decide)).mp a) h7
  · exact ⟨r, e1, a, e3⟩
theorem p_count7 (h : WI κ st S T) : CT zl κ yX4_count cX4_count 2 (some .int) (r0 7 155) 182 (.ref (ad κ 91) :: [.int (nI 7)]) st (PI (fun r u => ((r = nI 1 ∧ Same (sM T)) ∨ (r = nI 0 ∧ ¬ Same (sM T))) ∧ WI κ u S T)) := by
  refine (p_countR h).mono ?_
  rintro v u ⟨r, e1, e2, e3⟩
  rcases e2 with ⟨-, a⟩ | ⟨a, -⟩
  · exact ⟨r, e1, a, e3⟩
  · exact absurd rfl a
end
