section
variable {zl : Launch} {κ : Kt} {z : Nat} {st0 : St}
set_option maxRecDepth 100000 in
set_option maxHeartbeats 4000000 in
theorem c_L_up {v : Int32} {n : Nat} (h0 : 0 < n) (hn : n < 2 ^ 31) : CT zl κ yL_up cL_up 2 (some .int) (r0 0 0) z [.int (v), .int (nI n)] st0 (PRi (nI (upn v n)) st0) := by
  obtain ⟨P, hP⟩ : ∃ P : Option Value → St → Prop, P = (PRi (nI (upn v n)) st0) := ⟨_, rfl⟩
  rw [← hP]
  refine CT.of (by decide +kernel) (Nat.le_of_ble_eq_true rfl) (fun zp ze zs zm zar zbe zme zc C _ => ?_)
  have C : Cx zp zs zm zar zme zc κ cL_up 2 RL (some .int) := C
  refine ws_lv (lv2 := [some (.int (v)), some (.int (nI n))]) rfl ?_
  refine ws_iload_n 0 C dL_up_0 rfl ?_
  refine ws_ldc 1 C dL_up_1 (2147483647) k225 ?_
  refine ws_iand 3 C dL_up_3 (nI (v.toBitVec.toNat % 2 ^ 31)) (up_and v) ?_
  refine ws_iload_n 4 C dL_up_4 rfl ?_
  refine ws_irem 5 C dL_up_5 (nI_ne0 h0 hn) (nI (upn v n)) (up_rem v h0 hn) ?_
  exact ws_iret 6 C  dL_up_6 rfl (Nat.le_refl _) (Nat.le_refl _) (by rw [hP]; exact ⟨rfl, rfl⟩)

set_option maxRecDepth 100000 in
set_option maxHeartbeats 4000000 in
theorem c_L_there {k : Nat} (hk : k < 8) : CT zl κ yL_there cL_there 1 (some .int) (r0 0 0) z [.int (nI k)] st0 (PRi (nI (tn k)) st0) := by
  obtain ⟨P, hP⟩ : ∃ P : Option Value → St → Prop, P = (PRi (nI (tn k)) st0) := ⟨_, rfl⟩
  rw [← hP]
  refine CT.of (by decide +kernel) (Nat.le_of_ble_eq_true rfl) (fun zp ze zs zm zar zbe zme zc C _ => ?_)
  have C : Cx zp zs zm zar zme zc κ cL_there 1 RL (some .int) := C
  refine ws_lv (lv2 := [some (.int (nI k))]) rfl ?_
  refine ws_iload_n 0 C dL_there_0 rfl ?_
  refine ws_nif_eq 1 C 10 dL_there_1 (by decide) (by omega) (fun c1 => ?_) (fun c1 => ?_)
  · skip
    have e : nI k = nI (tn k) := by subst c1; rfl
    refine ws_iload_n 10 C dL_there_10 rfl ?_
    refine ws_goto 11 C 21 dL_there_11 (by decide) ?_
    exact ws_iret 21 C  dL_there_21 rfl (Nat.le_refl _) (Nat.le_refl _) (by rw [hP]; exact ⟨congrArg (fun z => some (Value.int z)) (e), rfl⟩)
  · skip
    refine ws_iload_n 4 C dL_there_4 rfl ?_
    refine ws_bipush 5 C dL_there_5 (nI 7) (by decide) ?_
    refine ws_nicmp_ne 7 C 14 dL_there_7 (by decide) (by omega) (by omega) (fun c7 => ?_) (fun c7 => ?_)
    · skip
      have e := there_i k hk c1 c7
      refine ws_iload_n 14 C dL_there_14 rfl ?_
      refine ws_iconst 15 C dL_there_15 (nI 1) (by decide) ?_
      refine ws_isub 16 C dL_there_16 ((nI k) - (nI 1)) rfl ?_
      refine ws_iconst 17 C dL_there_17 (nI 1) (by decide) ?_
      refine ws_ixor 18 C dL_there_18 (((nI k) - (nI 1)) ^^^ (nI 1)) rfl ?_
      refine ws_iconst 19 C dL_there_19 (nI 1) (by decide) ?_
      refine ws_iadd 20 C dL_there_20 ((((nI k) - (nI 1)) ^^^ (nI 1)) + (nI 1)) rfl ?_
      exact ws_iret 21 C  dL_there_21 rfl (Nat.le_refl _) (Nat.le_refl _) (by rw [hP]; exact ⟨congrArg (fun z => some (Value.int z)) (e), rfl⟩)
    · skip
      have e : nI k = nI (tn k) := by subst c7; rfl
      refine ws_iload_n 10 C dL_there_10 rfl ?_
      refine ws_goto 11 C 21 dL_there_11 (by decide) ?_
      exact ws_iret 21 C  dL_there_21 rfl (Nat.le_refl _) (Nat.le_refl _) (by rw [hP]; exact ⟨congrArg (fun z => some (Value.int z)) (e), rfl⟩)

set_option maxRecDepth 100000 in
set_option maxHeartbeats 4000000 in
theorem c_L_cell {k : Nat} (hk : k ≤ 44) (hL : kXL κ ≤ 260) : CT zl κ yL_cell cL_cell 2 (some .int) (r0 0 0) z [.ref (kB κ), .int (nI k)] st0 (PRi (cel (kXs κ) (kXL κ) k) st0) := by
  obtain ⟨P, hP⟩ : ∃ P : Option Value → St → Prop, P = (PRi (cel (kXs κ) (kXL κ) k) st0) := ⟨_, rfl⟩
  rw [← hP]
  refine CT.of (by decide +kernel) (Nat.le_of_ble_eq_true rfl) (fun zp ze zs zm zar zbe zme zc C _ => ?_)
  have C : Cx zp zs zm zar zme zc κ cL_cell 2 RL (some .int) := C
  refine ws_lv (lv2 := [some (.ref (kB κ)), some (.int (nI k))]) rfl ?_
  obtain ⟨hX, hbl, hbA⟩ := xk_of C
  refine ws_iload_n 0 C dL_cell_0 rfl ?_
  refine ws_aload_n 1 C dL_cell_1 rfl ?_
  refine ws_slen 2 C dL_cell_2 hX hbl hbA ?_
  refine ws_nicmp_ge 3 C 12 dL_cell_3 (by decide) (by omega) (by omega) (fun c3 => ?_) (fun c3 => ?_)
  · skip
    have e : (2144462789 : Int32) * nI (k + 1481) = cel (kXs κ) (kXL κ) k := (if_neg (by omega)).symm
    refine ws_ldc 12 C dL_cell_12 (2144462789) k156 ?_
    refine ws_iload_n 14 C dL_cell_14 rfl ?_
    refine ws_sipush 15 C dL_cell_15 (nI 1481) (by decide) ?_
    refine ws_iadd 18 C dL_cell_18 (nI (k + 1481)) (nI_add _ _) ?_
    refine ws_imul 19 C dL_cell_19 (2144462789 * (nI (k + 1481))) rfl ?_
    exact ws_iret 20 C  dL_cell_20 rfl (Nat.le_refl _) (Nat.le_refl _) (by rw [hP]; exact ⟨congrArg (fun z => some (Value.int z)) (e), rfl⟩)
  · skip
    have e : kXs κ k = cel (kXs κ) (kXL κ) k := (if_pos c3).symm
    refine ws_aload_n 6 C dL_cell_6 rfl ?_
    refine ws_iload_n 7 C dL_cell_7 rfl ?_
    refine ws_sld 8 C dL_cell_8 hX hbl hbA (vp_in_nI (by omega) (by omega)) (kXs κ k) (congrArg (kXs κ) (nI_clamp (by omega))) ?_
    refine ws_goto 9 C 20 dL_cell_9 (by decide) ?_
    exact ws_iret 20 C  dL_cell_20 rfl (Nat.le_refl _) (Nat.le_refl _) (by rw [hP]; exact ⟨congrArg (fun z => some (Value.int z)) (e), rfl⟩)

set_option maxRecDepth 100000 in
set_option maxHeartbeats 4000000 in
theorem c_L_code {k : Nat} (hk : k < 34) (h0 : 0 < k) : CT zl κ yL_code cL_code 1 (some .int) (r0 0 0) z [.int (nI k)] st0 (PRi (nI (cdN k)) st0) := by
  obtain ⟨P, hP⟩ : ∃ P : Option Value → St → Prop, P = (PRi (nI (cdN k)) st0) := ⟨_, rfl⟩
  rw [← hP]
  refine CT.of (by decide +kernel) (Nat.le_of_ble_eq_true rfl) (fun zp ze zs zm zar zbe zme zc C _ => ?_)
  have C : Cx zp zs zm zar zme zc κ cL_code 1 RL (some .int) := C
  refine ws_lv (lv2 := [some (.int (nI k))]) rfl ?_
  refine ws_iload_n 0 C dL_code_0 rfl ?_
  rcases code_i k hk h0 with (h | h | h | h | h | h | h) | ⟨hd, e⟩
  · skip
    have e : nI 46 = nI (cdN k) := by rw [h]; rfl
    refine ws_tin 1 C dL_code_1 (27) (43) 44 (by rw [h]; rfl) (by decide) (by decide) (by rfl) (by decide) ?_
    refine ws_bipush 44 C dL_code_44 (nI 46) (by decide) ?_
    exact ws_iret 46 C  dL_code_46 rfl (Nat.le_refl _) (Nat.le_refl _) (by rw [hP]; exact ⟨congrArg (fun z => some (Value.int z)) (e), rfl⟩)
  · skip
    have e : nI 44 = nI (cdN k) := by rw [h]; rfl
    refine ws_tin 1 C dL_code_1 (28) (46) 47 (by rw [h]; rfl) (by decide) (by decide) (by rfl) (by decide) ?_
    refine ws_bipush 47 C dL_code_47 (nI 44) (by decide) ?_
    exact ws_iret 49 C  dL_code_49 rfl (Nat.le_refl _) (Nat.le_refl _) (by rw [hP]; exact ⟨congrArg (fun z => some (Value.int z)) (e), rfl⟩)
  · skip
    have e : nI 59 = nI (cdN k) := by rw [h]; rfl
    refine ws_tin 1 C dL_code_1 (29) (49) 50 (by rw [h]; rfl) (by decide) (by decide) (by rfl) (by decide) ?_
    refine ws_bipush 50 C dL_code_50 (nI 59) (by decide) ?_
    exact ws_iret 52 C  dL_code_52 rfl (Nat.le_refl _) (Nat.le_refl _) (by rw [hP]; exact ⟨congrArg (fun z => some (Value.int z)) (e), rfl⟩)
  · skip
    have e : nI 58 = nI (cdN k) := by rw [h]; rfl
    refine ws_tin 1 C dL_code_1 (30) (52) 53 (by rw [h]; rfl) (by decide) (by decide) (by rfl) (by decide) ?_
    refine ws_bipush 53 C dL_code_53 (nI 58) (by decide) ?_
    exact ws_iret 55 C  dL_code_55 rfl (Nat.le_refl _) (Nat.le_refl _) (by rw [hP]; exact ⟨congrArg (fun z => some (Value.int z)) (e), rfl⟩)
  · skip
    have e : nI 45 = nI (cdN k) := by rw [h]; rfl
    refine ws_tin 1 C dL_code_1 (31) (55) 56 (by rw [h]; rfl) (by decide) (by decide) (by rfl) (by decide) ?_
    refine ws_bipush 56 C dL_code_56 (nI 45) (by decide) ?_
    exact ws_iret 58 C  dL_code_58 rfl (Nat.le_refl _) (Nat.le_refl _) (by rw [hP]; exact ⟨congrArg (fun z => some (Value.int z)) (e), rfl⟩)
  · skip
    have e : nI 39 = nI (cdN k) := by rw [h]; rfl
    refine ws_tin 1 C dL_code_1 (32) (58) 59 (by rw [h]; rfl) (by decide) (by decide) (by rfl) (by decide) ?_
    refine ws_bipush 59 C dL_code_59 (nI 39) (by decide) ?_
    exact ws_iret 61 C  dL_code_61 rfl (Nat.le_refl _) (Nat.le_refl _) (by rw [hP]; exact ⟨congrArg (fun z => some (Value.int z)) (e), rfl⟩)
  · skip
    have e : nI 33 = nI (cdN k) := by rw [h]; rfl
    refine ws_tin 1 C dL_code_1 (33) (61) 62 (by rw [h]; rfl) (by decide) (by decide) (by rfl) (by decide) ?_
    refine ws_bipush 62 C dL_code_62 (nI 33) (by decide) ?_
    exact ws_iret 64 C  dL_code_64 rfl (Nat.le_refl _) (Nat.le_refl _) (by rw [hP]; exact ⟨congrArg (fun z => some (Value.int z)) (e), rfl⟩)
  · skip
    refine ws_tout 1 C dL_code_1 65 (hd) (by decide) ?_
    refine ws_bipush 65 C dL_code_65 (nI 97) (by decide) ?_
    refine ws_iload_n 67 C dL_code_67 rfl ?_
    refine ws_iconst 68 C dL_code_68 (nI 1) (by decide) ?_
    refine ws_isub 69 C dL_code_69 ((nI k) - (nI 1)) rfl ?_
    refine ws_bipush 70 C dL_code_70 (nI 26) (by decide) ?_
    refine ws_irem 72 C dL_code_72 (by decide) ((nI k - nI 1) - (nI k - nI 1) / nI 26 * nI 26) rfl ?_
    refine ws_iadd 73 C dL_code_73 ((nI 97) + ((nI k - nI 1) - (nI k - nI 1) / nI 26 * nI 26)) rfl ?_
    exact ws_iret 74 C  dL_code_74 rfl (Nat.le_refl _) (Nat.le_refl _) (by rw [hP]; exact ⟨congrArg (fun z => some (Value.int z)) (e), rfl⟩)

set_option maxRecDepth 100000 in
set_option maxHeartbeats 4000000 in
theorem c_L_other {k : Nat} (hk : k < 34) (h0 : 0 < k) : CT zl κ yL_other cL_other 1 (some .int) (r0 1 20) z [.int (nI k)] st0 (PRi (nI (ohN k)) st0) := by
  obtain ⟨P, hP⟩ : ∃ P : Option Value → St → Prop, P = (PRi (nI (ohN k)) st0) := ⟨_, rfl⟩
  rw [← hP]
  refine CT.of (by decide +kernel) (Nat.le_of_ble_eq_true rfl) (fun zp ze zs zm zar zbe zme zc C _ => ?_)
  have C : Cx zp zs zm zar zme zc κ cL_other 1 RL (some .int) := C
  refine ws_lv (lv2 := [some (.int (nI k))]) rfl ?_
  refine ws_iload_n 0 C dL_other_0 rfl ?_
  refine ws_bipush 1 C dL_other_1 (nI 27) (by decide) ?_
  refine ws_nicmp_ge 3 C 15 dL_other_3 (by decide) (by omega) (by omega) (fun c3 => ?_) (fun c3 => ?_)
  · skip
    have e : nI (tn (k - 26) + 26) = nI (ohN k) := congrArg nI (if_neg (by omega)).symm
    refine ws_iload_n 15 C dL_other_15 rfl ?_
    refine ws_bipush 16 C dL_other_16 (nI 26) (by decide) ?_
    refine ws_isub 18 C dL_other_18 (nI (k - 26)) (pk_sub (by omega)) ?_
    refine ws_callS0 19 C dL_other_19 vL_9 (c_L_there (k := k - 26) (by omega)) rfl ⟨by decide, by decide⟩ ⟨Nat.zero_le _, Nat.zero_le _⟩ rfl rfl rfl (kR ?_)
    refine ws_bipush 22 C dL_other_22 (nI 26) (by decide) ?_
    refine ws_iadd 24 C dL_other_24 (nI (tn (k - 26) + 26)) (nI_add _ _) ?_
    exact ws_iret 25 C  dL_other_25 rfl (Nat.le_refl _) (Nat.le_refl _) (by rw [hP]; exact ⟨congrArg (fun z => some (Value.int z)) (e), rfl⟩)
  · skip
    have e : nI (k % 26 + 1) = nI (ohN k) := congrArg nI (if_pos c3).symm
    refine ws_iload_n 6 C dL_other_6 rfl ?_
    refine ws_bipush 7 C dL_other_7 (nI 26) (by decide) ?_
    refine ws_irem 9 C dL_other_9 (by decide) (nI (k % 26)) (pk_rem (by omega) (by decide) (by decide)) ?_
    refine ws_iconst 10 C dL_other_10 (nI 1) (by decide) ?_
    refine ws_iadd 11 C dL_other_11 (nI (k % 26 + 1)) (nI_add _ _) ?_
    refine ws_goto 12 C 25 dL_other_12 (by decide) ?_
    exact ws_iret 25 C  dL_other_25 rfl (Nat.le_refl _) (Nat.le_refl _) (by rw [hP]; exact ⟨congrArg (fun z => some (Value.int z)) (e), rfl⟩)

set_option maxRecDepth 100000 in
set_option maxHeartbeats 4000000 in
theorem c_L_signOf {x : Int32} : CT zl κ yL_signOf cL_signOf 3 (some .int) (r0 1 20) z [.int (x)] st0 (PRi (nI (sgd x 33)) st0) := by
  obtain ⟨P, hP⟩ : ∃ P : Option Value → St → Prop, P = (PRi (nI (sgd x 33)) st0) := ⟨_, rfl⟩
  rw [← hP]
  refine CT.of (by decide +kernel) (Nat.le_of_ble_eq_true rfl) (fun zp ze zs zm zar zbe zme zc C _ => ?_)
  have C : Cx zp zs zm zar zme zc κ cL_signOf 3 RL (some .int) := C
  refine ws_lv (lv2 := [some (.int (x)), none, none]) rfl ?_
  refine ws_iconst 0 C dL_signOf_0 (nI 0) (by decide) ?_
  refine ws_istore_n 1 C dL_signOf_1 rfl [some (.int (x)), some (.int (nI 0)), none] rfl ?_
  refine ws_bipush 2 C dL_signOf_2 (nI 33) (by decide) ?_
  refine ws_istore_n 4 C dL_signOf_4 rfl [some (.int (x)), some (.int (nI 0)), some (.int (nI 33))] rfl ?_
  have L5 : ∀ d : Nat, d ≤ 33 → WS zp zl ze (r0 1 20) zs zm zar zbe zme zc κ z 0 0 (QM zbe zar zs κ z (r0 1 20) P) st0 5 [some (.int (x)), some (.int (nI (sgd x d))), some (.int (nI (33 - d)))] [] := by
    refine dnw ?_
    intro d hd ih5 
    refine ws_iload_n 5 C dL_signOf_5 rfl ?_
    refine ws_nif_le 6 C 29 dL_signOf_6 (by decide) (by omega) (fun c6 => ?_) (fun c6 => ?_)
    · skip
      refine ws_iload_n 29 C dL_signOf_29 rfl ?_
      exact ws_iret 30 C  dL_signOf_30 rfl (Nat.le_refl _) (Nat.le_refl _) (by rw [hP]; exact ⟨congrArg (fun z => some (Value.int z)) (by rw [show d = 33 from by omega]), rfl⟩)
    · skip
      refine ws_iload_n 9 C dL_signOf_9 rfl ?_
      refine ws_callS0 10 C dL_signOf_10 vL_15 (c_L_code (k := 33 - d) (by omega) (by omega)) rfl ⟨by decide, by decide⟩ ⟨Nat.zero_le _, Nat.zero_le _⟩ rfl rfl rfl (kR ?_)
      refine ws_iload_n 13 C dL_signOf_13 rfl ?_
      refine ws_icmp_ne 14 C 21 dL_signOf_14 (by decide)  (fun c14 => ?_) (fun c14 => ?_)
      · skip
        have e : nI (sgd x d) = nI (sgd x (d + 1)) := congrArg nI (if_neg c14).symm
        refine ws_iload_n 21 C dL_signOf_21 rfl ?_
        refine ws_istore_n 22 C dL_signOf_22 rfl [some (.int (x)), some (.int (nI (sgd x d))), some (.int (nI (33 - d)))] rfl ?_
        refine ws_wk (lv2 := [some (.int (x)), some (.int (nI (sgd x (d + 1)))), some (.int (nI (33 - d)))]) ⟨rfl, (congrArg Value.int e.symm), rfl, trivial⟩ ?_
        refine ws_iinc 23 C dL_signOf_23 rfl (nI (33 - (d + 1))) ((dec1 _).trans ((pk_sub (by omega)).trans (congrArg nI (by omega)))) rfl [some (.int (x)), some (.int (nI (sgd x (d + 1)))), some (.int (nI (33 - (d + 1))))] rfl ?_
        refine ws_goto 26 C 5 dL_signOf_26 (by decide) ?_
        exact ih5 (by omega)
      · skip
        have e : nI (33 - d) = nI (sgd x (d + 1)) := congrArg nI (if_pos c14).symm
        refine ws_iload_n 17 C dL_signOf_17 rfl ?_
        refine ws_goto 18 C 22 dL_signOf_18 (by decide) ?_
        refine ws_istore_n 22 C dL_signOf_22 rfl [some (.int (x)), some (.int (nI (33 - d))), some (.int (nI (33 - d)))] rfl ?_
        refine ws_wk (lv2 := [some (.int (x)), some (.int (nI (sgd x (d + 1)))), some (.int (nI (33 - d)))]) ⟨rfl, (congrArg Value.int e.symm), rfl, trivial⟩ ?_
        refine ws_iinc 23 C dL_signOf_23 rfl (nI (33 - (d + 1))) ((dec1 _).trans ((pk_sub (by omega)).trans (congrArg nI (by omega)))) rfl [some (.int (x)), some (.int (nI (sgd x (d + 1)))), some (.int (nI (33 - (d + 1))))] rfl ?_
        refine ws_goto 26 C 5 dL_signOf_26 (by decide) ?_
        exact ih5 (by omega)
  exact L5 0 (Nat.zero_le _)
end
