section
variable {zl : Launch} {κ : Kt} {z : Nat} {st0 : St}
set_option maxRecDepth 100000 in
set_option maxHeartbeats 4000000 in
theorem c_X5_in {a b c : Int64} {r : Int32} (hr : inL a b c = r) : CT zl κ yX5_in cX5_in 6 (some .boolean) (r0 0 0) z [.long (a), .long (b), .long (c)] st0 (PRi r st0) := by
  obtain ⟨P, hP⟩ : ∃ P : Option Value → St → Prop, P = (PRi r st0) := ⟨_, rfl⟩
  rw [← hP]
  refine CT.of (by decide +kernel) (Nat.le_of_ble_eq_true rfl) (fun zp ze zs zm zar zbe zme zc C _ => ?_)
  have C : Cx zp zs zm zar zme zc κ cX5_in 6 RX5 (some .boolean) := C
  refine ws_lv (lv2 := [some (.long (a)), none, some (.long (b)), none, some (.long (c)), none]) rfl ?_
  refine ws_lload_n 0 C dX5_in_0 rfl ?_
  refine ws_lload_n 1 C dX5_in_1 rfl ?_
  refine ws_lcmp 2 C dX5_in_2 (lg_cmp a b) rfl ?_
  refine ws_if_lt 3 C 17 dX5_in_3 (by decide)  (fun c3 => ?_) (fun c3 => ?_)
  · skip
    have hv : nI 0 = r := (if_neg (fun q => absurd ((lg_cmp_lt _ _).mp c3) (Int64.not_lt.mpr q.1))).symm.trans hr
    refine ws_iconst 17 C dX5_in_17 (nI 0) (by decide) ?_
    exact ws_zret 18 C rfl dX5_in_18 rfl (Nat.le_refl _) (Nat.le_refl _) (by rw [hP]; exact ⟨congrArg (fun z => some (Value.int z)) (hv), rfl⟩)
  · skip
    refine ws_lload_n 6 C dX5_in_6 rfl ?_
    refine ws_lload 7 C dX5_in_7 rfl ?_
    refine ws_lcmp 9 C dX5_in_9 (lg_cmp a c) rfl ?_
    refine ws_if_gt 10 C 17 dX5_in_10 (by decide)  (fun c10 => ?_) (fun c10 => ?_)
    · skip
      have hv : nI 0 = r := (if_neg (fun q => absurd ((lg_cmp_gt _ _).mp c10) (Int64.not_lt.mpr q.2))).symm.trans hr
      refine ws_iconst 17 C dX5_in_17 (nI 0) (by decide) ?_
      exact ws_zret 18 C rfl dX5_in_18 rfl (Nat.le_refl _) (Nat.le_refl _) (by rw [hP]; exact ⟨congrArg (fun z => some (Value.int z)) (hv), rfl⟩)
    · skip
      have hv : nI 1 = r := (if_pos ⟨Int64.not_lt.mp (fun q => c3 ((lg_cmp_lt _ _).mpr q)), Int64.not_lt.mp (fun q => c10 ((lg_cmp_gt _ _).mpr q))⟩).symm.trans hr
      refine ws_iconst 13 C dX5_in_13 (nI 1) (by decide) ?_
      refine ws_goto 14 C 18 dX5_in_14 (by decide) ?_
      exact ws_zret 18 C rfl dX5_in_18 rfl (Nat.le_refl _) (Nat.le_refl _) (by rw [hP]; exact ⟨congrArg (fun z => some (Value.int z)) (hv), rfl⟩)

set_option maxRecDepth 100000 in
set_option maxHeartbeats 4000000 in
theorem c_X5_isSort {x : Int32} : CT zl κ yX5_isSort cX5_isSort 1 (some .boolean) (r0 1 25) z [.int (x)] st0 (PRi (bix x 8) st0) := by
  obtain ⟨P, hP⟩ : ∃ P : Option Value → St → Prop, P = (PRi (bix x 8) st0) := ⟨_, rfl⟩
  rw [← hP]
  refine CT.of (by decide +kernel) (Nat.le_of_ble_eq_true rfl) (fun zp ze zs zm zar zbe zme zc C _ => ?_)
  have C : Cx zp zs zm zar zme zc κ cX5_isSort 1 RX5 (some .boolean) := C
  refine ws_lv (lv2 := [some (.int (x))]) rfl ?_
  refine ws_iload_n 0 C dX5_isSort_0 rfl ?_
  refine ws_i2l 1 C dX5_isSort_1 (x.toInt64) rfl ?_
  refine ws_lconst 2 C dX5_isSort_2 0 (by decide) ?_
  refine ws_ldc2 3 C dX5_isSort_3 (7) k454 ?_
  refine ws_callS0 6 C dX5_isSort_6 vX5_58 (c_X5_in (inL_bix (n := 8) (by decide) (by decide) (by decide))) rfl ⟨by decide, by decide⟩ ⟨Nat.zero_le _, Nat.zero_le _⟩ rfl rfl rfl (kR ?_)
  exact ws_zret 9 C (bix_nar _ _) dX5_isSort_9 rfl (Nat.le_refl _) (Nat.le_refl _) (by rw [hP]; exact ⟨rfl, rfl⟩)

set_option maxRecDepth 100000 in
set_option maxHeartbeats 4000000 in
theorem c_X5_isWord {y0 y1 y2 y3 : Int32} {a : Nat → Int32} {μ : Mu} (hM : Ob z st0 91 (bMo κ y0 y1 y2 y3)) (hA : Ob z st0 92 (bA κ 293 a)) (hR : Rm μ a) {x : Int32} : CT zl κ yX5_isWord cX5_isWord 2 (some .boolean) (r0 1 25) z [.ref (ad κ 91), .int (x)] st0 (PRi (bix x (mn μ)) st0) := by
  obtain ⟨P, hP⟩ : ∃ P : Option Value → St → Prop, P = (PRi (bix x (mn μ)) st0) := ⟨_, rfl⟩
  rw [← hP]
  refine CT.of (by decide +kernel) (Nat.le_of_ble_eq_true rfl) (fun zp ze zs zm zar zbe zme zc C _ => ?_)
  have C : Cx zp zs zm zar zme zc κ cX5_isWord 2 RX5 (some .boolean) := C
  refine ws_lv (lv2 := [some (.ref (ad κ 91)), some (.int (x))]) rfl ?_
  have h24 := hR.le
  refine ws_iload_n 0 C dX5_isWord_0 rfl ?_
  refine ws_i2l 1 C dX5_isWord_1 (x.toInt64) rfl ?_
  refine ws_lconst 2 C dX5_isWord_2 0 (by decide) ?_
  refine ws_aload_n 3 C dX5_isWord_3 rfl ?_
  refine ws_get 4 C dX5_isWord_4 fX5_7 hM rfl rfl ?_
  refine ws_iconst 7 C dX5_isWord_7 (nI 4) (by decide) ?_
  refine ws_iald 8 C dX5_isWord_8 hA 0 rfl (vp_in_nI (by omega) (by decide)) (nI (mn μ)) ((congrArg a (nI_clamp (by omega))).trans (hR.n)) ?_
  refine ws_i2l 9 C dX5_isWord_9 ((nI (mn μ)).toInt64) rfl ?_
  refine ws_lconst 10 C dX5_isWord_10 1 (by decide) ?_
  refine ws_lsub 11 C dX5_isWord_11 ((nI (mn μ)).toInt64 - 1) rfl ?_
  refine ws_callS0 12 C dX5_isWord_12 vX5_58 (c_X5_in (inL_pred (n := mn μ) (by omega))) rfl ⟨by decide, by decide⟩ ⟨Nat.zero_le _, Nat.zero_le _⟩ rfl rfl rfl (kR ?_)
  exact ws_zret 15 C (bix_nar _ _) dX5_isWord_15 rfl (Nat.le_refl _) (Nat.le_refl _) (by rw [hP]; exact ⟨rfl, rfl⟩)

set_option maxRecDepth 100000 in
set_option maxHeartbeats 4000000 in
theorem c_X5_signs {y0 y1 y2 y3 : Int32} {a : Nat → Int32} {μ : Mu} (hM : Ob z st0 91 (bMo κ y0 y1 y2 y3)) (hA : Ob z st0 92 (bA κ 293 a)) (hR : Rm μ a) {i : Nat} (hi : i < mn μ) : CT zl κ yX5_signs cX5_signs 2 (some .int) (r0 0 0) z [.ref (ad κ 91), .int (nI i)] st0 (PRi (nI (ml μ i)) st0) := by
  obtain ⟨P, hP⟩ : ∃ P : Option Value → St → Prop, P = (PRi (nI (ml μ i)) st0) := ⟨_, rfl⟩
  rw [← hP]
  refine CT.of (by decide +kernel) (Nat.le_of_ble_eq_true rfl) (fun zp ze zs zm zar zbe zme zc C _ => ?_)
  have C : Cx zp zs zm zar zme zc κ cX5_signs 2 RX5 (some .int) := C
  refine ws_lv (lv2 := [some (.ref (ad κ 91)), some (.int (nI i))]) rfl ?_
  have h24 := hR.le
  refine ws_aload_n 0 C dX5_signs_0 rfl ?_
  refine ws_get 1 C dX5_signs_1 fX5_7 hM rfl rfl ?_
  refine ws_bipush 4 C dX5_signs_4 (nI 29) (by decide) ?_
  refine ws_bipush 6 C dX5_signs_6 (nI 11) (by decide) ?_
  refine ws_iload_n 8 C dX5_signs_8 rfl ?_
  refine ws_imul 9 C dX5_signs_9 (nI (11 * i)) (pk_mul _ _) ?_
  refine ws_iadd 10 C dX5_signs_10 (nI (29 + 11 * i)) (nI_add _ _) ?_
  refine ws_iald 11 C dX5_signs_11 hA 0 rfl (vp_in_nI (by omega) (by decide)) (nI (ml μ i)) ((congrArg a (nI_clamp (by omega))).trans (hR.len hi)) ?_
  exact ws_iret 12 C  dX5_signs_12 rfl (Nat.le_refl _) (Nat.le_refl _) (by rw [hP]; exact ⟨rfl, rfl⟩)

set_option maxRecDepth 100000 in
set_option maxHeartbeats 4000000 in
theorem c_X5_signAt {y0 y1 y2 y3 : Int32} {a : Nat → Int32} {μ : Mu} (hM : Ob z st0 91 (bMo κ y0 y1 y2 y3)) (hA : Ob z st0 92 (bA κ 293 a)) (hR : Rm μ a) {i : Nat} (hi : i < mn μ) {j : Nat} (hj : j < ml μ i) : CT zl κ yX5_signAt cX5_signAt 3 (some .int) (r0 0 0) z [.ref (ad κ 91), .int (nI i), .int (nI j)] st0 (PRi (mg μ i j) st0) := by
  obtain ⟨P, hP⟩ : ∃ P : Option Value → St → Prop, P = (PRi (mg μ i j) st0) := ⟨_, rfl⟩
  rw [← hP]
  refine CT.of (by decide +kernel) (Nat.le_of_ble_eq_true rfl) (fun zp ze zs zm zar zbe zme zc C _ => ?_)
  have C : Cx zp zs zm zar zme zc κ cX5_signAt 3 RX5 (some .int) := C
  refine ws_lv (lv2 := [some (.ref (ad κ 91)), some (.int (nI i)), some (.int (nI j))]) rfl ?_
  have h24 := hR.le
  have h10 := (hR.ok.len hi).2
  refine ws_aload_n 0 C dX5_signAt_0 rfl ?_
  refine ws_get 1 C dX5_signAt_1 fX5_7 hM rfl rfl ?_
  refine ws_bipush 4 C dX5_signAt_4 (nI 29) (by decide) ?_
  refine ws_bipush 6 C dX5_signAt_6 (nI 11) (by decide) ?_
  refine ws_iload_n 8 C dX5_signAt_8 rfl ?_
  refine ws_imul 9 C dX5_signAt_9 (nI (11 * i)) (pk_mul _ _) ?_
  refine ws_iadd 10 C dX5_signAt_10 (nI (29 + 11 * i)) (nI_add _ _) ?_
  refine ws_iconst 11 C dX5_signAt_11 (nI 1) (by decide) ?_
  refine ws_iadd 12 C dX5_signAt_12 (nI (29 + 11 * i + 1)) (nI_add _ _) ?_
  refine ws_iload_n 13 C dX5_signAt_13 rfl ?_
  refine ws_iadd 14 C dX5_signAt_14 (nI (29 + 11 * i + 1 + j)) (nI_add _ _) ?_
  refine ws_iald 15 C dX5_signAt_15 hA 0 rfl (vp_in_nI (by omega) (by decide)) (mg μ i j) ((congrArg a (nI_clamp (by omega))).trans (hR.sig hi hj)) ?_
  exact ws_iret 16 C  dX5_signAt_16 rfl (Nat.le_refl _) (Nat.le_refl _) (by rw [hP]; exact ⟨rfl, rfl⟩)

set_option maxRecDepth 100000 in
set_option maxHeartbeats 4000000 in
theorem c_X5_sortBy {x : Int32} : CT zl κ yX5_sortBy cX5_sortBy 1 (some .int) (r0 1 25) z [.int (x)] st0 (PRi (scv (-1006) x) st0) := by
  obtain ⟨P, hP⟩ : ∃ P : Option Value → St → Prop, P = (PRi (scv (-1006) x) st0) := ⟨_, rfl⟩
  rw [← hP]
  refine CT.of (by decide +kernel) (Nat.le_of_ble_eq_true rfl) (fun zp ze zs zm zar zbe zme zc C _ => ?_)
  have C : Cx zp zs zm zar zme zc κ cX5_sortBy 1 RX5 (some .int) := C
  refine ws_lv (lv2 := [some (.int (x))]) rfl ?_
  refine ws_iload_n 0 C dX5_sortBy_0 rfl ?_
  by_cases h33 : x = nI 33
  · skip
    refine ws_lsw 1 C dX5_sortBy_1 (80) 81 (by decide) (by rw [h33]; rfl) (by decide) ?_
    refine ws_bipush 81 C dX5_sortBy_81 (nI 7) (by decide) ?_
    exact ws_iret 83 C  dX5_sortBy_83 rfl (Nat.le_refl _) (Nat.le_refl _) (by rw [hP]; exact ⟨congrArg (fun z => some (Value.int z)) (by rw [h33]; decide), rfl⟩)
  by_cases h39 : x = nI 39
  · skip
    refine ws_lsw 1 C dX5_sortBy_1 (77) 78 (by decide) (by rw [h39]; rfl) (by decide) ?_
    refine ws_bipush 78 C dX5_sortBy_78 (nI 6) (by decide) ?_
    exact ws_iret 80 C  dX5_sortBy_80 rfl (Nat.le_refl _) (Nat.le_refl _) (by rw [hP]; exact ⟨congrArg (fun z => some (Value.int z)) (by rw [h39]; decide), rfl⟩)
  by_cases h44 : x = nI 44
  · skip
    refine ws_lsw 1 C dX5_sortBy_1 (69) 70 (by decide) (by rw [h44]; rfl) (by decide) ?_
    refine ws_iconst 70 C dX5_sortBy_70 (nI 2) (by decide) ?_
    exact ws_iret 71 C  dX5_sortBy_71 rfl (Nat.le_refl _) (Nat.le_refl _) (by rw [hP]; exact ⟨congrArg (fun z => some (Value.int z)) (by rw [h44]; decide), rfl⟩)
  by_cases h45 : x = nI 45
  · skip
    refine ws_lsw 1 C dX5_sortBy_1 (75) 76 (by decide) (by rw [h45]; rfl) (by decide) ?_
    refine ws_iconst 76 C dX5_sortBy_76 (nI 5) (by decide) ?_
    exact ws_iret 77 C  dX5_sortBy_77 rfl (Nat.le_refl _) (Nat.le_refl _) (by rw [hP]; exact ⟨congrArg (fun z => some (Value.int z)) (by rw [h45]; decide), rfl⟩)
  by_cases h46 : x = nI 46
  · skip
    refine ws_lsw 1 C dX5_sortBy_1 (67) 68 (by decide) (by rw [h46]; rfl) (by decide) ?_
    refine ws_iconst 68 C dX5_sortBy_68 (nI 1) (by decide) ?_
    exact ws_iret 69 C  dX5_sortBy_69 rfl (Nat.le_refl _) (Nat.le_refl _) (by rw [hP]; exact ⟨congrArg (fun z => some (Value.int z)) (by rw [h46]; decide), rfl⟩)
  by_cases h58 : x = nI 58
  · skip
    refine ws_lsw 1 C dX5_sortBy_1 (73) 74 (by decide) (by rw [h58]; rfl) (by decide) ?_
    refine ws_iconst 74 C dX5_sortBy_74 (nI 4) (by decide) ?_
    exact ws_iret 75 C  dX5_sortBy_75 rfl (Nat.le_refl _) (Nat.le_refl _) (by rw [hP]; exact ⟨congrArg (fun z => some (Value.int z)) (by rw [h58]; decide), rfl⟩)
  by_cases h59 : x = nI 59
  · skip
    refine ws_lsw 1 C dX5_sortBy_1 (71) 72 (by decide) (by rw [h59]; rfl) (by decide) ?_
    refine ws_iconst 72 C dX5_sortBy_72 (nI 3) (by decide) ?_
    exact ws_iret 73 C  dX5_sortBy_73 rfl (Nat.le_refl _) (Nat.le_refl _) (by rw [hP]; exact ⟨congrArg (fun z => some (Value.int z)) (by rw [h59]; decide), rfl⟩)
  refine ws_lsw 1 C dX5_sortBy_1 (83) 84 (by decide) (show Op.lookupswitch.offset [(33, 80), (39, 77), (44, 69), (45, 75), (46, 67), (58, 73), (59, 71)] (83) x.toInt = 83 from by rw [lv_osw (a := 33) h33 rfl, lv_osw (a := 39) h39 rfl, lv_osw (a := 44) h44 rfl, lv_osw (a := 45) h45 rfl, lv_osw (a := 46) h46 rfl, lv_osw (a := 58) h58 rfl, lv_osw (a := 59) h59 rfl]; rfl) (by decide) ?_
  refine ws_iload_n 84 C dX5_sortBy_84 rfl ?_
  refine ws_i2l 85 C dX5_sortBy_85 (x.toInt64) rfl ?_
  refine ws_ldc2 86 C dX5_sortBy_86 (97) k475 ?_
  refine ws_ldc2 89 C dX5_sortBy_89 (122) k476 ?_
  refine ws_callS0 92 C dX5_sortBy_92 vX5_58 (c_X5_in (inL_32 x (nI 97) (nI 122) (by decide) (by decide))) rfl ⟨by decide, by decide⟩ ⟨Nat.zero_le _, Nat.zero_le _⟩ rfl rfl rfl (kR ?_)
  refine ws_if_eq 95 C 102 dX5_sortBy_95 (by decide)  (fun c95 => ?_) (fun c95 => ?_)
  · skip
    have hv : (-1006) = scv (-1006) x := (scv_8 (if01_n c95) h46 h44 h59 h58 h45 h39 h33).symm
    refine ws_sipush 102 C dX5_sortBy_102 ((-1006)) (by decide) ?_
    exact ws_iret 105 C  dX5_sortBy_105 rfl (Nat.le_refl _) (Nat.le_refl _) (by rw [hP]; exact ⟨congrArg (fun z => some (Value.int z)) (hv), rfl⟩)
  · skip
    have hv : nI 0 = scv (-1006) x := (scv_0 (if01_y c95).1 (if01_y c95).2).symm
    refine ws_iconst 98 C dX5_sortBy_98 (nI 0) (by decide) ?_
    refine ws_goto 99 C 105 dX5_sortBy_99 (by decide) ?_
    exact ws_iret 105 C  dX5_sortBy_105 rfl (Nat.le_refl _) (Nat.le_refl _) (by rw [hP]; exact ⟨congrArg (fun z => some (Value.int z)) (hv), rfl⟩)

set_option maxRecDepth 100000 in
set_option maxHeartbeats 4000000 in
theorem c_X5_widthOf {y0 y1 y2 y3 : Int32} {a : Nat → Int32} {μ : Mu} (hM : Ob z st0 91 (bMo κ y0 y1 y2 y3)) (hA : Ob z st0 92 (bA κ 293 a)) (hR : Rm μ a) {i : Nat} (hi : i < mn μ) : CT zl κ yX5_widthOf cX5_widthOf 4 (some .int) (r0 2 45) z [.ref (ad κ 91), .int (nI i)] st0 (PRi (wd μ i) st0) := by
  obtain ⟨P, hP⟩ : ∃ P : Option Value → St → Prop, P = (PRi (wd μ i) st0) := ⟨_, rfl⟩
  rw [← hP]
  refine CT.of (by decide +kernel) (Nat.le_of_ble_eq_true rfl) (fun zp ze zs zm zar zbe zme zc C _ => ?_)
  have C : Cx zp zs zm zar zme zc κ cX5_widthOf 4 RX5 (some .int) := C
  refine ws_lv (lv2 := [some (.ref (ad κ 91)), some (.int (nI i)), none, none]) rfl ?_
  have h24 := hR.le
  have h10 := (hR.ok.len hi).2
  refine ws_iconst 0 C dX5_widthOf_0 (nI 0) (by decide) ?_
  refine ws_istore_n 1 C dX5_widthOf_1 rfl [some (.ref (ad κ 91)), some (.int (nI i)), some (.int (nI 0)), none] rfl ?_
  refine ws_iconst 2 C dX5_widthOf_2 (nI 0) (by decide) ?_
  refine ws_istore_n 3 C dX5_widthOf_3 rfl [some (.ref (ad κ 91)), some (.int (nI i)), some (.int (nI 0)), some (.int (nI 0))] rfl ?_
  have L4 : ∀ k : Nat, k ≤ ml μ i → ∀ (x : Int32), ∀ (ha : x = wdS μ i k), WS zp zl ze (r0 2 45) zs zm zar zbe zme zc κ z 0 0 (QM zbe zar zs κ z (r0 2 45) P) st0 4 [some (.ref (ad κ 91)), some (.int (nI i)), some (.int (x)), some (.int (nI k))] [] := by
    refine dnw ?_
    intro k hk ih4 x ha
    refine ws_iload_n 4 C dX5_widthOf_4 rfl ?_
    refine ws_aload_n 5 C dX5_widthOf_5 rfl ?_
    refine ws_iload_n 6 C dX5_widthOf_6 rfl ?_
    refine ws_callV0 7 C dX5_widthOf_7 vX5_66 (c_X5_signs hM hA hR hi) rfl hM rfl rfl ⟨by decide, by decide⟩ ⟨Nat.zero_le _, Nat.zero_le _⟩ rfl rfl rfl (kR ?_)
    refine ws_nicmp_ge 10 C 38 dX5_widthOf_10 (by decide) (by omega) (by omega) (fun c10 => ?_) (fun c10 => ?_)
    · skip
      refine ws_iload_n 38 C dX5_widthOf_38 rfl ?_
      exact ws_iret 39 C  dX5_widthOf_39 rfl (Nat.le_refl _) (Nat.le_refl _) (by rw [hP]; exact ⟨congrArg (fun z => some (Value.int z)) ((ha.trans (by rw [show k = ml μ i from by omega]; rfl))), rfl⟩)
    · skip
      refine ws_iload_n 13 C dX5_widthOf_13 rfl ?_
      refine ws_aload_n 14 C dX5_widthOf_14 rfl ?_
      refine ws_get 15 C dX5_widthOf_15 fX5_7 hM rfl rfl ?_
      refine ws_iconst 18 C dX5_widthOf_18 (nI 5) (by decide) ?_
      refine ws_aload_n 19 C dX5_widthOf_19 rfl ?_
      refine ws_iload_n 20 C dX5_widthOf_20 rfl ?_
      refine ws_iload_n 21 C dX5_widthOf_21 rfl ?_
      refine ws_callV0 22 C dX5_widthOf_22 vX5_70 (c_X5_signAt hM hA hR hi c10) rfl hM rfl rfl ⟨by decide, by decide⟩ ⟨Nat.zero_le _, Nat.zero_le _⟩ rfl rfl rfl (kR ?_)
      have h8 := hR.ok.so hi c10
      refine ws_callS0 25 C dX5_widthOf_25 vX5_74 ((scv_k h8 ▸ c_X5_sortBy : CT zl κ yX5_sortBy cX5_sortBy 1 (some .int) (r0 1 25) z [.int (mg μ i k)] st0 (PRi (nI (so μ i k)) st0))) rfl ⟨by decide, by decide⟩ ⟨Nat.zero_le _, Nat.zero_le _⟩ rfl rfl rfl (kR ?_)
      refine ws_iadd 28 C dX5_widthOf_28 (nI (5 + so μ i k)) (nI_add _ _) ?_
      refine ws_iald 29 C dX5_widthOf_29 hA 0 rfl (vp_in_nI (by omega) (by decide)) (mv μ 1 (so μ i k)) ((congrArg a (nI_clamp (by omega))).trans (hR.wid h8)) ?_
      refine ws_iadd 30 C dX5_widthOf_30 (x + (mv μ 1 (so μ i k))) rfl ?_
      refine ws_istore_n 31 C dX5_widthOf_31 rfl [some (.ref (ad κ 91)), some (.int (nI i)), some (.int (x + (mv μ 1 (so μ i k)))), some (.int (nI k))] rfl ?_
      refine ws_iinc 32 C dX5_widthOf_32 rfl (nI (k + 1)) (nI_1 _) rfl [some (.ref (ad κ 91)), some (.int (nI i)), some (.int (x + (mv μ 1 (so μ i k)))), some (.int (nI (k + 1)))] rfl ?_
      refine ws_goto 35 C 4 dX5_widthOf_35 (by decide) ?_
      exact ih4 c10 (x + mv μ 1 (so μ i k)) (ha ▸ rfl)
  exact L4 0 (Nat.zero_le _) (nI 0) rfl

set_option maxRecDepth 100000 in
set_option maxHeartbeats 4000000 in
theorem c_X5_hang {y0 y1 y2 y3 : Int32} {a : Nat → Int32} {μ : Mu} (hM : Ob z st0 91 (bMo κ y0 y1 y2 y3)) (hA : Ob z st0 92 (bA κ 293 a)) (hR : Rm μ a) {q sd side : Nat} (hq : q < 8) (hsd : sd + 8 ≤ 293) (hs : ∀ k, k < 8 → a (sd + k) = mv μ side k) : CT zl κ yX5_hang cX5_hang 3 (some .int) (r0 0 0) z [.ref (ad κ 91), .int (nI q), .int (nI sd)] st0 (PRi (hg μ side q) st0) := by
  obtain ⟨P, hP⟩ : ∃ P : Option Value → St → Prop, P = (PRi (hg μ side q) st0) := ⟨_, rfl⟩
  rw [← hP]
  refine CT.of (by decide +kernel) (Nat.le_of_ble_eq_true rfl) (fun zp ze zs zm zar zbe zme zc C _ => ?_)
  have C : Cx zp zs zm zar zme zc κ cX5_hang 3 RX5 (some .int) := C
  refine ws_lv (lv2 := [some (.ref (ad κ 91)), some (.int (nI q)), some (.int (nI sd))]) rfl ?_
  have h24 := hR.le
  refine ws_aload_n 0 C dX5_hang_0 rfl ?_
  refine ws_get 1 C dX5_hang_1 fX5_7 hM rfl rfl ?_
  refine ws_iconst 4 C dX5_hang_4 (nI 3) (by decide) ?_
  refine ws_iald 5 C dX5_hang_5 hA 0 rfl (vp_in_nI (by omega) (by decide)) (mv μ 0 3) ((congrArg a (nI_clamp (by omega))).trans (hR.set (by omega))) ?_
  refine ws_if_ne 6 C 13 dX5_hang_6 (by decide)  (fun c6 => ?_) (fun c6 => ?_)
  · skip
    have hv : mv μ 1 q * mv μ side q / nI 100 = hg μ side q := (if_neg c6).symm
    refine ws_aload_n 13 C dX5_hang_13 rfl ?_
    refine ws_get 14 C dX5_hang_14 fX5_7 hM rfl rfl ?_
    refine ws_iconst 17 C dX5_hang_17 (nI 5) (by decide) ?_
    refine ws_iload_n 18 C dX5_hang_18 rfl ?_
    refine ws_iadd 19 C dX5_hang_19 (nI (5 + q)) (nI_add _ _) ?_
    refine ws_iald 20 C dX5_hang_20 hA 0 rfl (vp_in_nI (by omega) (by decide)) (mv μ 1 q) ((congrArg a (nI_clamp (by omega))).trans (hR.wid hq)) ?_
    refine ws_aload_n 21 C dX5_hang_21 rfl ?_
    refine ws_get 22 C dX5_hang_22 fX5_7 hM rfl rfl ?_
    refine ws_iload_n 25 C dX5_hang_25 rfl ?_
    refine ws_iload_n 26 C dX5_hang_26 rfl ?_
    refine ws_iadd 27 C dX5_hang_27 (nI (sd + q)) (nI_add _ _) ?_
    refine ws_iald 28 C dX5_hang_28 hA 0 rfl (vp_in_nI (by omega) (by decide)) (mv μ side q) ((congrArg a (nI_clamp (by omega))).trans (hs q hq)) ?_
    refine ws_imul 29 C dX5_hang_29 ((mv μ 1 q) * (mv μ side q)) rfl ?_
    refine ws_bipush 30 C dX5_hang_30 (nI 100) (by decide) ?_
    refine ws_idiv 32 C dX5_hang_32 (by decide) (((mv μ 1 q) * (mv μ side q)) / (nI 100)) rfl ?_
    exact ws_iret 33 C  dX5_hang_33 rfl (Nat.le_refl _) (Nat.le_refl _) (by rw [hP]; exact ⟨congrArg (fun z => some (Value.int z)) (hv), rfl⟩)
  · skip
    have hv : nI 0 = hg μ side q := (if_pos c6).symm
    refine ws_iconst 9 C dX5_hang_9 (nI 0) (by decide) ?_
    refine ws_goto 10 C 33 dX5_hang_10 (by decide) ?_
    exact ws_iret 33 C  dX5_hang_33 rfl (Nat.le_refl _) (Nat.le_refl _) (by rw [hP]; exact ⟨congrArg (fun z => some (Value.int z)) (hv), rfl⟩)

set_option maxRecDepth 100000 in
set_option maxHeartbeats 4000000 in
theorem c_X5_hangsLeft {y0 y1 y2 y3 : Int32} {a : Nat → Int32} {μ : Mu} (hM : Ob z st0 91 (bMo κ y0 y1 y2 y3)) (hA : Ob z st0 92 (bA κ 293 a)) (hR : Rm μ a) {i : Nat} (hi : i < mn μ) : CT zl κ yX5_hangsLeft cX5_hangsLeft 2 (some .int) (r0 2 45) z [.ref (ad κ 91), .int (nI i)] st0 (PRi (lh μ i) st0) := by
  obtain ⟨P, hP⟩ : ∃ P : Option Value → St → Prop, P = (PRi (lh μ i) st0) := ⟨_, rfl⟩
  rw [← hP]
  refine CT.of (by decide +kernel) (Nat.le_of_ble_eq_true rfl) (fun zp ze zs zm zar zbe zme zc C _ => ?_)
  have C : Cx zp zs zm zar zme zc κ cX5_hangsLeft 2 RX5 (some .int) := C
  refine ws_lv (lv2 := [some (.ref (ad κ 91)), some (.int (nI i))]) rfl ?_
  have h24 := hR.le
  have h10 := hR.ok.len hi
  refine ws_aload_n 0 C dX5_hangsLeft_0 rfl ?_
  refine ws_aload_n 1 C dX5_hangsLeft_1 rfl ?_
  refine ws_iload_n 2 C dX5_hangsLeft_2 rfl ?_
  refine ws_iconst 3 C dX5_hangsLeft_3 (nI 0) (by decide) ?_
  refine ws_callV0 4 C dX5_hangsLeft_4 vX5_70 (c_X5_signAt hM hA hR hi (j := 0) (by omega)) rfl hM rfl rfl ⟨by decide, by decide⟩ ⟨Nat.zero_le _, Nat.zero_le _⟩ rfl rfl rfl (kR ?_)
  have h8 := hR.ok.so hi (j := 0) (by omega)
  refine ws_callS0 7 C dX5_hangsLeft_7 vX5_74 ((scv_k h8 ▸ c_X5_sortBy : CT zl κ yX5_sortBy cX5_sortBy 1 (some .int) (r0 1 25) z [.int (mg μ i 0)] st0 (PRi (nI (so μ i 0)) st0))) rfl ⟨by decide, by decide⟩ ⟨Nat.zero_le _, Nat.zero_le _⟩ rfl rfl rfl (kR ?_)
  refine ws_bipush 10 C dX5_hangsLeft_10 (nI 13) (by decide) ?_
  refine ws_callV0 12 C dX5_hangsLeft_12 vX5_77 (c_X5_hang hM hA hR h8 (sd := 13) (side := 2) (by omega) (fun k hk => hR.lef hk)) rfl hM rfl rfl ⟨by decide, by decide⟩ ⟨Nat.zero_le _, Nat.zero_le _⟩ rfl rfl rfl (kR ?_)
  exact ws_iret 15 C  dX5_hangsLeft_15 rfl (Nat.le_refl _) (Nat.le_refl _) (by rw [hP]; exact ⟨rfl, rfl⟩)

set_option maxRecDepth 100000 in
set_option maxHeartbeats 4000000 in
theorem c_X5_hangsRight {y0 y1 y2 y3 : Int32} {a : Nat → Int32} {μ : Mu} (hM : Ob z st0 91 (bMo κ y0 y1 y2 y3)) (hA : Ob z st0 92 (bA κ 293 a)) (hR : Rm μ a) {i : Nat} (hi : i < mn μ) : CT zl κ yX5_hangsRight cX5_hangsRight 2 (some .int) (r0 2 45) z [.ref (ad κ 91), .int (nI i)] st0 (PRi (rh μ i) st0) := by
  obtain ⟨P, hP⟩ : ∃ P : Option Value → St → Prop, P = (PRi (rh μ i) st0) := ⟨_, rfl⟩
  rw [← hP]
  refine CT.of (by decide +kernel) (Nat.le_of_ble_eq_true rfl) (fun zp ze zs zm zar zbe zme zc C _ => ?_)
  have C : Cx zp zs zm zar zme zc κ cX5_hangsRight 2 RX5 (some .int) := C
  refine ws_lv (lv2 := [some (.ref (ad κ 91)), some (.int (nI i))]) rfl ?_
  have h24 := hR.le
  have h10 := hR.ok.len hi
  refine ws_aload_n 0 C dX5_hangsRight_0 rfl ?_
  refine ws_aload_n 1 C dX5_hangsRight_1 rfl ?_
  refine ws_iload_n 2 C dX5_hangsRight_2 rfl ?_
  refine ws_aload_n 3 C dX5_hangsRight_3 rfl ?_
  refine ws_iload_n 4 C dX5_hangsRight_4 rfl ?_
  refine ws_callV0 5 C dX5_hangsRight_5 vX5_66 (c_X5_signs hM hA hR hi) rfl hM rfl rfl ⟨by decide, by decide⟩ ⟨Nat.zero_le _, Nat.zero_le _⟩ rfl rfl rfl (kR ?_)
  refine ws_iconst 8 C dX5_hangsRight_8 (nI 1) (by decide) ?_
  refine ws_isub 9 C dX5_hangsRight_9 (nI (ml μ i - 1)) (pk_sub (by omega)) ?_
  refine ws_callV0 10 C dX5_hangsRight_10 vX5_70 (c_X5_signAt hM hA hR hi (j := ml μ i - 1) (by omega)) rfl hM rfl rfl ⟨by decide, by decide⟩ ⟨Nat.zero_le _, Nat.zero_le _⟩ rfl rfl rfl (kR ?_)
  have h8 := hR.ok.so hi (j := ml μ i - 1) (by omega)
  refine ws_callS0 13 C dX5_hangsRight_13 vX5_74 ((scv_k h8 ▸ c_X5_sortBy : CT zl κ yX5_sortBy cX5_sortBy 1 (some .int) (r0 1 25) z [.int (mg μ i (ml μ i - 1))] st0 (PRi (nI (so μ i (ml μ i - 1))) st0))) rfl ⟨by decide, by decide⟩ ⟨Nat.zero_le _, Nat.zero_le _⟩ rfl rfl rfl (kR ?_)
  refine ws_bipush 16 C dX5_hangsRight_16 (nI 21) (by decide) ?_
  refine ws_callV0 18 C dX5_hangsRight_18 vX5_77 (c_X5_hang hM hA hR h8 (sd := 21) (side := 3) (by omega) (fun k hk => hR.rig hk)) rfl hM rfl rfl ⟨by decide, by decide⟩ ⟨Nat.zero_le _, Nat.zero_le _⟩ rfl rfl rfl (kR ?_)
  exact ws_iret 21 C  dX5_hangsRight_21 rfl (Nat.le_refl _) (Nat.le_refl _) (by rw [hP]; exact ⟨rfl, rfl⟩)

set_option maxRecDepth 100000 in
set_option maxHeartbeats 4000000 in
theorem c_X5_measures {y0 y1 y2 y3 : Int32} {a : Nat → Int32} {μ : Mu} (hM : Ob z st0 91 (bMo κ y0 y1 y2 y3)) (hA : Ob z st0 92 (bA κ 293 a)) (hR : Rm μ a) {p l r : Nat → Int32} (hp : Ob z st0 97 (bA κ 25 p)) (hlf : Ob z st0 98 (bA κ 24 l)) (hrt : Ob z st0 99 (bA κ 24 r)) (hp0 : p 0 = nI 0) : CT zl κ yX5_measures cX5_measures 2 none (r0 3 68) z [.ref (ad κ 91)] st0 (PV (fun u => (∃ p l r, Ob z u 97 (bA κ 25 p) ∧ Ob z u 98 (bA κ 24 l) ∧ Ob z u 99 (bA κ 24 r) ∧ MeW μ p l r) ∧ Fr (fun q : Nat => 97 ≤ q ∧ q < 100) st0 u)) := by
  obtain ⟨P, hP⟩ : ∃ P : Option Value → St → Prop, P = (PV (fun u => (∃ p l r, Ob z u 97 (bA κ 25 p) ∧ Ob z u 98 (bA κ 24 l) ∧ Ob z u 99 (bA κ 24 r) ∧ MeW μ p l r) ∧ Fr (fun q : Nat => 97 ≤ q ∧ q < 100) st0 u)) := ⟨_, rfl⟩
  rw [← hP]
  refine CT.of (by decide +kernel) (Nat.le_of_ble_eq_true rfl) (fun zp ze zs zm zar zbe zme zc C _ => ?_)
  have C : Cx zp zs zm zar zme zc κ cX5_measures 2 RX5 none := C
  refine ws_lv (lv2 := [some (.ref (ad κ 91)), none]) rfl ?_
  have h24 := hR.le
  have hF : Fr (fun q : Nat => 97 ≤ q ∧ q < 100) st0 st0 := Fr.rf
  refine ws_iconst 0 C dX5_measures_0 (nI 0) (by decide) ?_
  refine ws_istore_n 1 C dX5_measures_1 rfl [some (.ref (ad κ 91)), some (.int (nI 0))] rfl ?_
  have L2 : ∀ k : Nat, k ≤ mn μ → ∀ (p2 : Nat → Int32), ∀ (l2 : Nat → Int32), ∀ (r2 : Nat → Int32), ∀ (h1 : ∀ j, j ≤ k → p2 j = ah μ j), ∀ (h2 : ∀ j, j < k → l2 j = lh μ j), ∀ (h3 : ∀ j, j < k → r2 j = rh μ j), ∀ (st1 : St), ∀ (hM : Ob z st1 91 (bMo κ y0 y1 y2 y3)), ∀ (hA : Ob z st1 92 (bA κ 293 a)), ∀ (hp : Ob z st1 97 (bA κ 25 p2)), ∀ (hlf : Ob z st1 98 (bA κ 24 l2)), ∀ (hrt : Ob z st1 99 (bA κ 24 r2)), ∀ (hF : Fr (fun q : Nat => 97 ≤ q ∧ q < 100) st0 st1), WS zp zl ze (r0 3 68) zs zm zar zbe zme zc κ z 0 0 (QM zbe zar zs κ z (r0 3 68) P) st1 2 [some (.ref (ad κ 91)), some (.int (nI k))] [] := by
    refine dnw ?_
    intro k hk ih2 p2 l2 r2 h1 h2 h3 st1 hM hA hp hlf hrt hF
    refine ws_iload_n 2 C dX5_measures_2 rfl ?_
    refine ws_aload_n 3 C dX5_measures_3 rfl ?_
    refine ws_get 4 C dX5_measures_4 fX5_7 hM rfl rfl ?_
    refine ws_iconst 7 C dX5_measures_7 (nI 4) (by decide) ?_
    refine ws_iald 8 C dX5_measures_8 hA 0 rfl (vp_in_nI (by omega) (by decide)) (nI (mn μ)) ((congrArg a (nI_clamp (by omega))).trans (hR.n)) ?_
    refine ws_nicmp_ge 9 C 60 dX5_measures_9 (by decide) (by omega) (by omega) (fun c9 => ?_) (fun c9 => ?_)
    · skip
      exact ws_vret 60 C dX5_measures_60 rfl (Nat.le_refl _) (Nat.le_refl _) (by rw [hP]; exact ⟨rfl, ⟨⟨p2, l2, r2, hp, hlf, hrt, fun j hj => h1 j (by omega), fun j hj => h2 j (by omega), fun j hj => h3 j (by omega)⟩, hF⟩⟩)
    · skip
      refine ws_aload_n 12 C dX5_measures_12 rfl ?_
      refine ws_get 13 C dX5_measures_13 fX5_25 hM rfl rfl ?_
      refine ws_iload_n 16 C dX5_measures_16 rfl ?_
      refine ws_iconst 17 C dX5_measures_17 (nI 1) (by decide) ?_
      refine ws_iadd 18 C dX5_measures_18 (nI (k + 1)) (nI_add _ _) ?_
      refine ws_aload_n 19 C dX5_measures_19 rfl ?_
      refine ws_get 20 C dX5_measures_20 fX5_25 hM rfl rfl ?_
      refine ws_iload_n 23 C dX5_measures_23 rfl ?_
      refine ws_iald 24 C dX5_measures_24 hp 0 rfl (vp_in_nI (by omega) (by decide)) (ah μ k) ((congrArg p2 (nI_clamp (by omega))).trans (h1 k (Nat.le_refl _))) ?_
      refine ws_aload_n 25 C dX5_measures_25 rfl ?_
      refine ws_iload_n 26 C dX5_measures_26 rfl ?_
      refine ws_callV0 27 C dX5_measures_27 vX5_80 (c_X5_widthOf hM hA hR c9) rfl hM rfl rfl ⟨by decide, by decide⟩ ⟨Nat.zero_le _, Nat.zero_le _⟩ rfl rfl rfl (kR ?_)
      refine ws_iadd 30 C dX5_measures_30 ((ah μ k) + (wd μ k)) rfl ?_
      refine ws_iast 31 C dX5_measures_31 hp 0 rfl (vp_in_nI (by omega) (by decide)) (k + 1) (nI_clamp (by omega)) ((ah μ k) + (wd μ k)) rfl (fun st2 est2 => ?_)
      have hM := hM.ne' (L := 1) est2 rfl (by omega)
      have hA := hA.ne' (L := 1) est2 rfl (by omega)
      have hp : Ob z st2 97 (bA κ 25 (upd p2 (k + 1) ((ah μ k) + (wd μ k)))) := Ob.put' (j := 0) hp est2 rfl
      have hlf := hlf.ne' (L := 1) est2 rfl (by omega)
      have hrt := hrt.ne' (L := 1) est2 rfl (by omega)
      have hF := hF.put' est2 (show 97 ≤ (97) ∧ (97) < 100 from by omega)
      refine ws_aload_n 32 C dX5_measures_32 rfl ?_
      refine ws_get 33 C dX5_measures_33 fX5_28 hM rfl rfl ?_
      refine ws_iload_n 36 C dX5_measures_36 rfl ?_
      refine ws_aload_n 37 C dX5_measures_37 rfl ?_
      refine ws_iload_n 38 C dX5_measures_38 rfl ?_
      refine ws_callV0 39 C dX5_measures_39 vX5_83 (c_X5_hangsLeft hM hA hR c9) rfl hM rfl rfl ⟨by decide, by decide⟩ ⟨Nat.zero_le _, Nat.zero_le _⟩ rfl rfl rfl (kR ?_)
      refine ws_iast 42 C dX5_measures_42 hlf 0 rfl (vp_in_nI (by omega) (by decide)) k (nI_clamp (by omega)) (lh μ k) rfl (fun st3 est3 => ?_)
      have hM := hM.ne' (L := 1) est3 rfl (by omega)
      have hA := hA.ne' (L := 1) est3 rfl (by omega)
      have hp := hp.ne' (L := 1) est3 rfl (by omega)
      have hlf : Ob z st3 98 (bA κ 24 (upd l2 k (lh μ k))) := Ob.put' (j := 0) hlf est3 rfl
      have hrt := hrt.ne' (L := 1) est3 rfl (by omega)
      have hF := hF.put' est3 (show 97 ≤ (98) ∧ (98) < 100 from by omega)
      refine ws_aload_n 43 C dX5_measures_43 rfl ?_
      refine ws_get 44 C dX5_measures_44 fX5_31 hM rfl rfl ?_
      refine ws_iload_n 47 C dX5_measures_47 rfl ?_
      refine ws_aload_n 48 C dX5_measures_48 rfl ?_
      refine ws_iload_n 49 C dX5_measures_49 rfl ?_
      refine ws_callV0 50 C dX5_measures_50 vX5_86 (c_X5_hangsRight hM hA hR c9) rfl hM rfl rfl ⟨by decide, by decide⟩ ⟨Nat.zero_le _, Nat.zero_le _⟩ rfl rfl rfl (kR ?_)
      refine ws_iast 53 C dX5_measures_53 hrt 0 rfl (vp_in_nI (by omega) (by decide)) k (nI_clamp (by omega)) (rh μ k) rfl (fun st4 est4 => ?_)
      have hM := hM.ne' (L := 1) est4 rfl (by omega)
      have hA := hA.ne' (L := 1) est4 rfl (by omega)
      have hp := hp.ne' (L := 1) est4 rfl (by omega)
      have hlf := hlf.ne' (L := 1) est4 rfl (by omega)
      have hrt : Ob z st4 99 (bA κ 24 (upd r2 k (rh μ k))) := Ob.put' (j := 0) hrt est4 rfl
      have hF := hF.put' est4 (show 97 ≤ (99) ∧ (99) < 100 from by omega)
      refine ws_iinc 54 C dX5_measures_54 rfl (nI (k + 1)) (nI_1 _) rfl [some (.ref (ad κ 91)), some (.int (nI (k + 1)))] rfl ?_
      refine ws_goto 57 C 2 dX5_measures_57 (by decide) ?_
      exact ih2 c9 (upd p2 (k + 1) ((ah μ k) + (wd μ k))) (upd l2 k (lh μ k)) (upd r2 k (rh μ k)) (upd_le h1 rfl) (upd_lt h2 rfl) (upd_lt h3 rfl) st4 hM hA hp hlf hrt hF
  exact L2 0 (Nat.zero_le _) p l r (fun j hj => (by rw [show j = 0 from by omega]; exact hp0)) (fun j hj => (by omega)) (fun j hj => (by omega)) st0 hM hA hp hlf hrt hF

set_option maxRecDepth 100000 in
set_option maxHeartbeats 4000000 in
theorem c_X5_widthOfLine {y0 y1 y2 y3 : Int32} {a : Nat → Int32} {μ : Mu} (hM : Ob z st0 91 (bMo κ y0 y1 y2 y3)) (hA : Ob z st0 92 (bA κ 293 a)) (hR : Rm μ a) {p l r : Nat → Int32} (hp : Ob z st0 97 (bA κ 25 p)) (hlf : Ob z st0 98 (bA κ 24 l)) (hrt : Ob z st0 99 (bA κ 24 r)) (hW : MeW μ p l r) {i j : Nat} (hij : i ≤ j) (hj : j < mn μ) : CT zl κ yX5_widthOfLine cX5_widthOfLine 3 (some .int) (r0 0 0) z [.ref (ad κ 91), .int (nI i), .int (nI j)] st0 (PRi (wl μ i j) st0) := by
  obtain ⟨P, hP⟩ : ∃ P : Option Value → St → Prop, P = (PRi (wl μ i j) st0) := ⟨_, rfl⟩
  rw [← hP]
  refine CT.of (by decide +kernel) (Nat.le_of_ble_eq_true rfl) (fun zp ze zs zm zar zbe zme zc C _ => ?_)
  have C : Cx zp zs zm zar zme zc κ cX5_widthOfLine 3 RX5 (some .int) := C
  refine ws_lv (lv2 := [some (.ref (ad κ 91)), some (.int (nI i)), some (.int (nI j))]) rfl ?_
  have h24 := hR.le
  refine ws_iload_n 0 C dX5_widthOfLine_0 rfl ?_
  refine ws_iload_n 1 C dX5_widthOfLine_1 rfl ?_
  refine ws_isub 2 C dX5_widthOfLine_2 ((nI j) - (nI i)) rfl ?_
  refine ws_aload_n 3 C dX5_widthOfLine_3 rfl ?_
  refine ws_get 4 C dX5_widthOfLine_4 fX5_7 hM rfl rfl ?_
  refine ws_iconst 7 C dX5_widthOfLine_7 (nI 1) (by decide) ?_
  refine ws_iald 8 C dX5_widthOfLine_8 hA 0 rfl (vp_in_nI (by omega) (by decide)) (mv μ 0 1) ((congrArg a (nI_clamp (by omega))).trans (hR.set (by omega))) ?_
  refine ws_imul 9 C dX5_widthOfLine_9 (((nI j) - (nI i)) * (mv μ 0 1)) rfl ?_
  refine ws_aload_n 10 C dX5_widthOfLine_10 rfl ?_
  refine ws_get 11 C dX5_widthOfLine_11 fX5_25 hM rfl rfl ?_
  refine ws_iload_n 14 C dX5_widthOfLine_14 rfl ?_
  refine ws_iconst 15 C dX5_widthOfLine_15 (nI 1) (by decide) ?_
  refine ws_iadd 16 C dX5_widthOfLine_16 (nI (j + 1)) (nI_add _ _) ?_
  refine ws_iald 17 C dX5_widthOfLine_17 hp 0 rfl (vp_in_nI (by omega) (by decide)) (ah μ (j + 1)) ((congrArg p (nI_clamp (by omega))).trans (hW.1 _ (by omega))) ?_
  refine ws_iadd 18 C dX5_widthOfLine_18 ((((nI j) - (nI i)) * (mv μ 0 1)) + (ah μ (j + 1))) rfl ?_
  refine ws_aload_n 19 C dX5_widthOfLine_19 rfl ?_
  refine ws_get 20 C dX5_widthOfLine_20 fX5_25 hM rfl rfl ?_
  refine ws_iload_n 23 C dX5_widthOfLine_23 rfl ?_
  refine ws_iald 24 C dX5_widthOfLine_24 hp 0 rfl (vp_in_nI (by omega) (by decide)) (ah μ i) ((congrArg p (nI_clamp (by omega))).trans (hW.1 _ (by omega))) ?_
  refine ws_isub 25 C dX5_widthOfLine_25 (((((nI j) - (nI i)) * (mv μ 0 1)) + (ah μ (j + 1))) - (ah μ i)) rfl ?_
  exact ws_iret 26 C  dX5_widthOfLine_26 rfl (Nat.le_refl _) (Nat.le_refl _) (by rw [hP]; exact ⟨congrArg (fun z => some (Value.int z)) (wl_ref μ i j), rfl⟩)

set_option maxRecDepth 100000 in
set_option maxHeartbeats 4000000 in
theorem c_X5_bodyOf {y0 y1 y2 y3 : Int32} {a : Nat → Int32} {μ : Mu} (hM : Ob z st0 91 (bMo κ y0 y1 y2 y3)) (hA : Ob z st0 92 (bA κ 293 a)) (hR : Rm μ a) {p l r : Nat → Int32} (hp : Ob z st0 97 (bA κ 25 p)) (hlf : Ob z st0 98 (bA κ 24 l)) (hrt : Ob z st0 99 (bA κ 24 r)) (hW : MeW μ p l r) {i j : Nat} (hij : i ≤ j) (hj : j < mn μ) : CT zl κ yX5_bodyOf cX5_bodyOf 3 (some .int) (r0 1 22) z [.ref (ad κ 91), .int (nI i), .int (nI j)] st0 (PRi (bo μ i j) st0) := by
  obtain ⟨P, hP⟩ : ∃ P : Option Value → St → Prop, P = (PRi (bo μ i j) st0) := ⟨_, rfl⟩
  rw [← hP]
  refine CT.of (by decide +kernel) (Nat.le_of_ble_eq_true rfl) (fun zp ze zs zm zar zbe zme zc C _ => ?_)
  have C : Cx zp zs zm zar zme zc κ cX5_bodyOf 3 RX5 (some .int) := C
  refine ws_lv (lv2 := [some (.ref (ad κ 91)), some (.int (nI i)), some (.int (nI j))]) rfl ?_
  have h24 := hR.le
  refine ws_aload_n 0 C dX5_bodyOf_0 rfl ?_
  refine ws_iload_n 1 C dX5_bodyOf_1 rfl ?_
  refine ws_iload_n 2 C dX5_bodyOf_2 rfl ?_
  refine ws_callV0 3 C dX5_bodyOf_3 vX5_89 (c_X5_widthOfLine hM hA hR hp hlf hrt hW hij hj) rfl hM rfl rfl ⟨by decide, by decide⟩ ⟨Nat.zero_le _, Nat.zero_le _⟩ rfl rfl rfl (kR ?_)
  refine ws_aload_n 6 C dX5_bodyOf_6 rfl ?_
  refine ws_get 7 C dX5_bodyOf_7 fX5_28 hM rfl rfl ?_
  refine ws_iload_n 10 C dX5_bodyOf_10 rfl ?_
  refine ws_iald 11 C dX5_bodyOf_11 hlf 0 rfl (vp_in_nI (by omega) (by decide)) (lh μ i) ((congrArg l (nI_clamp (by omega))).trans (hW.2.1 _ (by omega))) ?_
  refine ws_isub 12 C dX5_bodyOf_12 ((wl μ i j) - (lh μ i)) rfl ?_
  refine ws_aload_n 13 C dX5_bodyOf_13 rfl ?_
  refine ws_get 14 C dX5_bodyOf_14 fX5_31 hM rfl rfl ?_
  refine ws_iload_n 17 C dX5_bodyOf_17 rfl ?_
  refine ws_iald 18 C dX5_bodyOf_18 hrt 0 rfl (vp_in_nI (by omega) (by decide)) (rh μ j) ((congrArg r (nI_clamp (by omega))).trans (hW.2.2 _ (by omega))) ?_
  refine ws_isub 19 C dX5_bodyOf_19 (((wl μ i j) - (lh μ i)) - (rh μ j)) rfl ?_
  exact ws_iret 20 C  dX5_bodyOf_20 rfl (Nat.le_refl _) (Nat.le_refl _) (by rw [hP]; exact ⟨rfl, rfl⟩)

set_option maxRecDepth 100000 in
set_option maxHeartbeats 4000000 in
theorem c_X5_badnessOf {y0 y1 y2 y3 : Int32} {a : Nat → Int32} {μ : Mu} (hM : Ob z st0 91 (bMo κ y0 y1 y2 y3)) (hA : Ob z st0 92 (bA κ 293 a)) (hR : Rm μ a) {p l r : Nat → Int32} (hp : Ob z st0 97 (bA κ 25 p)) (hlf : Ob z st0 98 (bA κ 24 l)) (hrt : Ob z st0 99 (bA κ 24 r)) (hW : MeW μ p l r) {i j : Nat} (hij : i ≤ j) (hj : j < mn μ) : CT zl κ yX5_badnessOf cX5_badnessOf 4 (some .int) (r0 2 44) z [.ref (ad κ 91), .int (nI i), .int (nI j)] st0 (PRi (bad (bo μ) (mv μ 0 0) (mn μ) i j) st0) := by
  obtain ⟨P, hP⟩ : ∃ P : Option Value → St → Prop, P = (PRi (bad (bo μ) (mv μ 0 0) (mn μ) i j) st0) := ⟨_, rfl⟩
  rw [← hP]
  refine CT.of (by decide +kernel) (Nat.le_of_ble_eq_true rfl) (fun zp ze zs zm zar zbe zme zc C _ => ?_)
  have C : Cx zp zs zm zar zme zc κ cX5_badnessOf 4 RX5 (some .int) := C
  refine ws_lv (lv2 := [some (.ref (ad κ 91)), some (.int (nI i)), some (.int (nI j)), none]) rfl ?_
  have h24 := hR.le
  refine ws_aload_n 0 C dX5_badnessOf_0 rfl ?_
  refine ws_get 1 C dX5_badnessOf_1 fX5_7 hM rfl rfl ?_
  refine ws_iconst 4 C dX5_badnessOf_4 (nI 0) (by decide) ?_
  refine ws_iald 5 C dX5_badnessOf_5 hA 0 rfl (vp_in_nI (by omega) (by decide)) (mv μ 0 0) ((congrArg a (nI_clamp (by omega))).trans (hR.set (by omega))) ?_
  refine ws_aload_n 6 C dX5_badnessOf_6 rfl ?_
  refine ws_iload_n 7 C dX5_badnessOf_7 rfl ?_
  refine ws_iload_n 8 C dX5_badnessOf_8 rfl ?_
  refine ws_callV0 9 C dX5_badnessOf_9 vX5_92 (c_X5_bodyOf hM hA hR hp hlf hrt hW hij hj) rfl hM rfl rfl ⟨by decide, by decide⟩ ⟨Nat.zero_le _, Nat.zero_le _⟩ rfl rfl rfl (kR ?_)
  refine ws_isub 12 C dX5_badnessOf_12 ((mv μ 0 0) - (bo μ i j)) rfl ?_
  refine ws_istore_n 13 C dX5_badnessOf_13 rfl [some (.ref (ad κ 91)), some (.int (nI i)), some (.int (nI j)), some (.int ((mv μ 0 0) - (bo μ i j)))] rfl ?_
  refine ws_iload_n 14 C dX5_badnessOf_14 rfl ?_
  refine ws_if_ge 15 C 24 dX5_badnessOf_15 (by decide)  (fun c15 => ?_) (fun c15 => ?_)
  · skip
    refine ws_iload_n 24 C dX5_badnessOf_24 rfl ?_
    refine ws_aload_n 25 C dX5_badnessOf_25 rfl ?_
    refine ws_get 26 C dX5_badnessOf_26 fX5_7 hM rfl rfl ?_
    refine ws_iconst 29 C dX5_badnessOf_29 (nI 4) (by decide) ?_
    refine ws_iald 30 C dX5_badnessOf_30 hA 0 rfl (vp_in_nI (by omega) (by decide)) (nI (mn μ)) ((congrArg a (nI_clamp (by omega))).trans (hR.n)) ?_
    refine ws_iconst 31 C dX5_badnessOf_31 (nI 1) (by decide) ?_
    refine ws_isub 32 C dX5_badnessOf_32 (nI (mn μ - 1)) (pk_sub (by omega)) ?_
    refine ws_nicmp_ne 33 C 40 dX5_badnessOf_33 (by decide) (by omega) (by omega) (fun c33 => ?_) (fun c33 => ?_)
    · skip
      have hv : ((mv μ 0 0) - bo μ i j) * ((mv μ 0 0) - bo μ i j) = bad (bo μ) (mv μ 0 0) (mn μ) i j := ((if_neg (Int32.not_lt.mpr c15)).trans (if_neg c33)).symm
      refine ws_iload_n 40 C dX5_badnessOf_40 rfl ?_
      refine ws_iload_n 41 C dX5_badnessOf_41 rfl ?_
      refine ws_imul 42 C dX5_badnessOf_42 (((mv μ 0 0) - (bo μ i j)) * ((mv μ 0 0) - (bo μ i j))) rfl ?_
      exact ws_iret 43 C  dX5_badnessOf_43 rfl (Nat.le_refl _) (Nat.le_refl _) (by rw [hP]; exact ⟨congrArg (fun z => some (Value.int z)) (hv), rfl⟩)
    · skip
      have hv : nI 0 = bad (bo μ) (mv μ 0 0) (mn μ) i j := ((if_neg (Int32.not_lt.mpr c15)).trans (if_pos c33)).symm
      refine ws_iconst 36 C dX5_badnessOf_36 (nI 0) (by decide) ?_
      refine ws_goto 37 C 43 dX5_badnessOf_37 (by decide) ?_
      exact ws_iret 43 C  dX5_badnessOf_43 rfl (Nat.le_refl _) (Nat.le_refl _) (by rw [hP]; exact ⟨congrArg (fun z => some (Value.int z)) (hv), rfl⟩)
  · skip
    have hv : nI 10000 = bad (bo μ) (mv μ 0 0) (mn μ) i j := (if_pos (Int32.not_le.mp c15)).symm
    refine ws_sipush 18 C dX5_badnessOf_18 (nI 10000) (by decide) ?_
    refine ws_goto 21 C 43 dX5_badnessOf_21 (by decide) ?_
    exact ws_iret 43 C  dX5_badnessOf_43 rfl (Nat.le_refl _) (Nat.le_refl _) (by rw [hP]; exact ⟨congrArg (fun z => some (Value.int z)) (hv), rfl⟩)

set_option maxRecDepth 100000 in
set_option maxHeartbeats 4000000 in
theorem c_X5_fills {y0 y1 y2 y3 : Int32} {a : Nat → Int32} {μ : Mu} (hM : Ob z st0 91 (bMo κ y0 y1 y2 y3)) (hA : Ob z st0 92 (bA κ 293 a)) (hR : Rm μ a) (hSc : ScP κ z st0) : CT zl κ yX5_fills cX5_fills 3 none (r0 4 89) z [.ref (ad κ 91)] st0 (PV (fun u => (Ob z u 91 (bMo κ y0 (nI (lno (gx (bo μ) (mv μ 0 0) (mn μ)) (mn μ))) y2 y3) ∧ MbP κ z u μ (gx (bo μ) (mv μ 0 0) (mn μ))) ∧ Fr (fun q : Nat => q = 91 ∨ (97 ≤ q ∧ q < 103)) st0 u)) := by
  obtain ⟨P, hP⟩ : ∃ P : Option Value → St → Prop, P = (PV (fun u => (Ob z u 91 (bMo κ y0 (nI (lno (gx (bo μ) (mv μ 0 0) (mn μ)) (mn μ))) y2 y3) ∧ MbP κ z u μ (gx (bo μ) (mv μ 0 0) (mn μ))) ∧ Fr (fun q : Nat => q = 91 ∨ (97 ≤ q ∧ q < 103)) st0 u)) := ⟨_, rfl⟩
  rw [← hP]
  refine CT.of (by decide +kernel) (Nat.le_of_ble_eq_true rfl) (fun zp ze zs zm zar zbe zme zc C _ => ?_)
  have C : Cx zp zs zm zar zme zc κ cX5_fills 3 RX5 none := C
  refine ws_lv (lv2 := [some (.ref (ad κ 91)), none, none]) rfl ?_
  obtain ⟨p, l, r, s, lf, tk, hp, hlf, hrt, hs_, hle, htk, hp0⟩ := hSc
  have h24 := hR.le
  have ha := gx_adv (bo μ) (mv μ 0 0) (mn μ)
  have hbr := lno_br ha
  have hLn := hbr.le ha
  have hF : Fr (fun q : Nat => q = 91 ∨ (97 ≤ q ∧ q < 103)) st0 st0 := Fr.rf
  refine ws_aload_n 0 C dX5_fills_0 rfl ?_
  refine ws_callV0 1 C dX5_fills_1 vX5_95 (c_X5_measures hM hA hR hp hlf hrt hp0) rfl hM rfl rfl ⟨by decide, by decide⟩ ⟨Nat.zero_le _, Nat.zero_le _⟩ rfl rfl rfl (kV (fun u1 h1 => ?_))
  obtain ⟨⟨p1, l1, r1, hp, hlf, hrt, hW⟩, hfr⟩ := h1
  have hM := hfr.ob hM (fun q (g1 : 91 ≤ q) (g2 : q < 91 + 1) => (show ¬ (97 ≤ q ∧ q < 100) from by omega))
  have hA := hfr.ob hA (fun q (g1 : 92 ≤ q) (g2 : q < 92 + 1) => (show ¬ (97 ≤ q ∧ q < 100) from by omega))
  have hs_ := hfr.ob hs_ (fun q (g1 : 100 ≤ q) (g2 : q < 100 + 1) => (show ¬ (97 ≤ q ∧ q < 100) from by omega))
  have hle := hfr.ob hle (fun q (g1 : 101 ≤ q) (g2 : q < 101 + 1) => (show ¬ (97 ≤ q ∧ q < 100) from by omega))
  have htk := hfr.ob htk (fun q (g1 : 102 ≤ q) (g2 : q < 102 + 1) => (show ¬ (97 ≤ q ∧ q < 100) from by omega))
  have hF := hF.then hfr (fun q (hq : 97 ≤ q ∧ q < 100) => (show q = 91 ∨ (97 ≤ q ∧ q < 103) from by omega))
  refine ws_aload_n 4 C dX5_fills_4 rfl ?_
  refine ws_iconst 5 C dX5_fills_5 (nI 0) (by decide) ?_
  refine ws_put 6 C dX5_fills_6 fX5_98 q5_10 hM rfl (Nat.le_of_ble_eq_true rfl) rfl rfl (fun st1 est1 => ?_)
  have hM : Ob z st1 91 (bMo κ y0 (nI 0) y2 y3) := Ob.put' (j := 0) hM est1 rfl
  have hA := hA.ne' (L := 1) est1 rfl (by omega)
  have hp := hp.ne' (L := 1) est1 rfl (by omega)
  have hlf := hlf.ne' (L := 1) est1 rfl (by omega)
  have hrt := hrt.ne' (L := 1) est1 rfl (by omega)
  have hs_ := hs_.ne' (L := 1) est1 rfl (by omega)
  have hle := hle.ne' (L := 1) est1 rfl (by omega)
  have htk := htk.ne' (L := 1) est1 rfl (by omega)
  have hF := hF.put' est1 (show (91) = 91 ∨ (97 ≤ (91) ∧ (91) < 103) from by omega)
  refine ws_iconst 9 C dX5_fills_9 (nI 0) (by decide) ?_
  refine ws_istore_n 10 C dX5_fills_10 rfl [some (.ref (ad κ 91)), some (.int (nI 0)), none] rfl ?_
  have L11 : ∀ i : Nat, i ≤ lno (gx (bo μ) (mv μ 0 0) (mn μ)) (mn μ) → ∀ (s2 : Nat → Int32), ∀ (hs : ∀ q, q < i → s2 q = nI (stt (gx (bo μ) (mv μ 0 0) (mn μ)) q)), ∀ (st2 : St), ∀ (hM : Ob z st2 91 (bMo κ y0 (nI i) y2 y3)), ∀ (hA : Ob z st2 92 (bA κ 293 a)), ∀ (hp : Ob z st2 97 (bA κ 25 p1)), ∀ (hlf : Ob z st2 98 (bA κ 24 l1)), ∀ (hrt : Ob z st2 99 (bA κ 24 r1)), ∀ (hs_ : Ob z st2 100 (bA κ 25 s2)), ∀ (hle : Ob z st2 101 (bA κ 25 lf)), ∀ (htk : Ob z st2 102 (bA κ 25 tk)), ∀ (hF : Fr (fun q : Nat => q = 91 ∨ (97 ≤ q ∧ q < 103)) st0 st2), WS zp zl ze (r0 4 89) zs zm zar zbe zme zc κ z 0 0 (QM zbe zar zs κ z (r0 4 89) P) st2 11 [some (.ref (ad κ 91)), some (.int (nI (stt (gx (bo μ) (mv μ 0 0) (mn μ)) i))), none] [] := by
    refine dnw ?_
    intro i hi ih11 s2 hs st2 hM hA hp hlf hrt hs_ hle htk hF
    have hkn := stt_le hbr hi
    refine ws_iload_n 11 C dX5_fills_11 rfl ?_
    refine ws_aload_n 12 C dX5_fills_12 rfl ?_
    refine ws_get 13 C dX5_fills_13 fX5_7 hM rfl rfl ?_
    refine ws_iconst 16 C dX5_fills_16 (nI 4) (by decide) ?_
    refine ws_iald 17 C dX5_fills_17 hA 0 rfl (vp_in_nI (by omega) (by decide)) (nI (mn μ)) ((congrArg a (nI_clamp (by omega))).trans (hR.n)) ?_
    refine ws_nicmp_ge 18 C 85 dX5_fills_18 (by decide) (by omega) (by omega) (fun c18 => ?_) (fun c18 => ?_)
    · skip
      have hiL := br_end hbr hi c18
      refine ws_aload_n 85 C dX5_fills_85 rfl ?_
      refine ws_get 86 C dX5_fills_86 fX5_34 hM rfl rfl ?_
      refine ws_aload_n 89 C dX5_fills_89 rfl ?_
      refine ws_get 90 C dX5_fills_90 fX5_98 hM rfl rfl ?_
      refine ws_aload_n 93 C dX5_fills_93 rfl ?_
      refine ws_get 94 C dX5_fills_94 fX5_7 hM rfl rfl ?_
      refine ws_iconst 97 C dX5_fills_97 (nI 4) (by decide) ?_
      refine ws_iald 98 C dX5_fills_98 hA 0 rfl (vp_in_nI (by omega) (by decide)) (nI (mn μ)) ((congrArg a (nI_clamp (by omega))).trans (hR.n)) ?_
      refine ws_iast 99 C dX5_fills_99 hs_ 0 rfl (vp_in_nI (by omega) (by decide)) i (nI_clamp (by omega)) (nI (mn μ)) rfl (fun st3 est3 => ?_)
      have hM := hM.ne' (L := 1) est3 rfl (by omega)
      have hA := hA.ne' (L := 1) est3 rfl (by omega)
      have hp := hp.ne' (L := 1) est3 rfl (by omega)
      have hlf := hlf.ne' (L := 1) est3 rfl (by omega)
      have hrt := hrt.ne' (L := 1) est3 rfl (by omega)
      have hs_ : Ob z st3 100 (bA κ 25 (upd s2 i (nI (mn μ)))) := Ob.put' (j := 0) hs_ est3 rfl
      have hle := hle.ne' (L := 1) est3 rfl (by omega)
      have htk := htk.ne' (L := 1) est3 rfl (by omega)
      have hF := hF.put' est3 (show (100) = 91 ∨ (97 ≤ (100) ∧ (100) < 103) from by omega)
      exact ws_vret 100 C dX5_fills_100 rfl (Nat.le_refl _) (Nat.le_refl _) (by rw [hP]; exact ⟨rfl, ⟨⟨hiL ▸ hM, p1, l1, r1, _, lf, tk, hp, hlf, hrt, hs_, hle, htk, hW, hiL ▸ LyB.of ha (hiL.symm ▸ hbr) hs⟩, hF⟩⟩)
    · skip
      have hiL := br_lt hbr hi c18
      refine ws_iload_n 21 C dX5_fills_21 rfl ?_
      refine ws_istore_n 22 C dX5_fills_22 rfl [some (.ref (ad κ 91)), some (.int (nI (stt (gx (bo μ) (mv μ 0 0) (mn μ)) i))), some (.int (nI (stt (gx (bo μ) (mv μ 0 0) (mn μ)) i)))] rfl ?_
      have L23 : ∀ t : Nat, t ≤ mn μ - 1 - stt (gx (bo μ) (mv μ 0 0) (mn μ)) i → ∀ (h4 : ∀ x, stt (gx (bo μ) (mv μ 0 0) (mn μ)) i < x → x ≤ stt (gx (bo μ) (mv μ 0 0) (mn μ)) i + t → bo μ (stt (gx (bo μ) (mv μ 0 0) (mn μ)) i) x ≤ (mv μ 0 0)), WS zp zl ze (r0 4 89) zs zm zar zbe zme zc κ z 0 0 (QM zbe zar zs κ z (r0 4 89) P) st2 23 [some (.ref (ad κ 91)), some (.int (nI (stt (gx (bo μ) (mv μ 0 0) (mn μ)) i))), some (.int (nI (stt (gx (bo μ) (mv μ 0 0) (mn μ)) i + t)))] [] := by
        refine dnw ?_
        intro t ht ih23 h4
        refine ws_iload_n 23 C dX5_fills_23 rfl ?_
        have J58 : ∀ (he : (gx (bo μ) (mv μ 0 0) (mn μ)) (stt (gx (bo μ) (mv μ 0 0) (mn μ)) i) = stt (gx (bo μ) (mv μ 0 0) (mn μ)) i + t + 1), WS zp zl ze (r0 4 89) zs zm zar zbe zme zc κ z 0 0 (QM zbe zar zs κ z (r0 4 89) P) st2 58 [some (.ref (ad κ 91)), some (.int (nI (stt (gx (bo μ) (mv μ 0 0) (mn μ)) i))), some (.int (nI (stt (gx (bo μ) (mv μ 0 0) (mn μ)) i + t)))] [] := by
          intro he
          refine ws_aload_n 58 C dX5_fills_58 rfl ?_
          refine ws_get 59 C dX5_fills_59 fX5_34 hM rfl rfl ?_
          refine ws_aload_n 62 C dX5_fills_62 rfl ?_
          refine ws_get 63 C dX5_fills_63 fX5_98 hM rfl rfl ?_
          refine ws_iload_n 66 C dX5_fills_66 rfl ?_
          refine ws_iast 67 C dX5_fills_67 hs_ 0 rfl (vp_in_nI (by omega) (by decide)) i (nI_clamp (by omega)) (nI (stt (gx (bo μ) (mv μ 0 0) (mn μ)) i)) rfl (fun st4 est4 => ?_)
          have hM := hM.ne' (L := 1) est4 rfl (by omega)
          have hA := hA.ne' (L := 1) est4 rfl (by omega)
          have hp := hp.ne' (L := 1) est4 rfl (by omega)
          have hlf := hlf.ne' (L := 1) est4 rfl (by omega)
          have hrt := hrt.ne' (L := 1) est4 rfl (by omega)
          have hs_ : Ob z st4 100 (bA κ 25 (upd s2 i (nI (stt (gx (bo μ) (mv μ 0 0) (mn μ)) i)))) := Ob.put' (j := 0) hs_ est4 rfl
          have hle := hle.ne' (L := 1) est4 rfl (by omega)
          have htk := htk.ne' (L := 1) est4 rfl (by omega)
          have hF := hF.put' est4 (show (100) = 91 ∨ (97 ≤ (100) ∧ (100) < 103) from by omega)
          refine ws_aload_n 68 C dX5_fills_68 rfl ?_
          refine ws_dup 69 C dX5_fills_69 rfl ?_
          refine ws_get 70 C dX5_fills_70 fX5_98 hM rfl rfl ?_
          refine ws_iconst 73 C dX5_fills_73 (nI 1) (by decide) ?_
          refine ws_iadd 74 C dX5_fills_74 (nI (i + 1)) (nI_add _ _) ?_
          refine ws_put 75 C dX5_fills_75 fX5_98 q5_10 hM rfl (Nat.le_of_ble_eq_true rfl) rfl rfl (fun st5 est5 => ?_)
          have hM : Ob z st5 91 (bMo κ y0 (nI (i + 1)) y2 y3) := Ob.put' (j := 0) hM est5 rfl
          have hA := hA.ne' (L := 1) est5 rfl (by omega)
          have hp := hp.ne' (L := 1) est5 rfl (by omega)
          have hlf := hlf.ne' (L := 1) est5 rfl (by omega)
          have hrt := hrt.ne' (L := 1) est5 rfl (by omega)
          have hs_ := hs_.ne' (L := 1) est5 rfl (by omega)
          have hle := hle.ne' (L := 1) est5 rfl (by omega)
          have htk := htk.ne' (L := 1) est5 rfl (by omega)
          have hF := hF.put' est5 (show (91) = 91 ∨ (97 ≤ (91) ∧ (91) < 103) from by omega)
          refine ws_iload_n 78 C dX5_fills_78 rfl ?_
          refine ws_iconst 79 C dX5_fills_79 (nI 1) (by decide) ?_
          refine ws_iadd 80 C dX5_fills_80 (nI (stt (gx (bo μ) (mv μ 0 0) (mn μ)) i + t + 1)) (nI_add _ _) ?_
          refine ws_istore_n 81 C dX5_fills_81 rfl [some (.ref (ad κ 91)), some (.int (nI (stt (gx (bo μ) (mv μ 0 0) (mn μ)) i + t + 1))), some (.int (nI (stt (gx (bo μ) (mv μ 0 0) (mn μ)) i + t)))] rfl ?_
          refine ws_wk (lv2 := [some (.ref (ad κ 91)), some (.int (nI (stt (gx (bo μ) (mv μ 0 0) (mn μ)) (i + 1)))), some (.int (nI (stt (gx (bo μ) (mv μ 0 0) (mn μ)) i + t)))]) ⟨rfl, (congrArg (fun q => Value.int (nI q)) he), rfl, trivial⟩ ?_
          refine ws_goto 82 C 11 dX5_fills_82 (by decide) ?_
          refine ws_wk (lv2 := [some (.ref (ad κ 91)), some (.int (nI (stt (gx (bo μ) (mv μ 0 0) (mn μ)) (i + 1)))), none]) ⟨rfl, rfl, trivial⟩ ?_
          exact ih11 hiL (upd s2 i (nI (stt (gx (bo μ) (mv μ 0 0) (mn μ)) i))) (upd_lt hs rfl) st5 hM hA hp hlf hrt hs_ hle htk hF
        refine ws_iconst 24 C dX5_fills_24 (nI 1) (by decide) ?_
        refine ws_iadd 25 C dX5_fills_25 (nI (stt (gx (bo μ) (mv μ 0 0) (mn μ)) i + t + 1)) (nI_add _ _) ?_
        refine ws_aload_n 26 C dX5_fills_26 rfl ?_
        refine ws_get 27 C dX5_fills_27 fX5_7 hM rfl rfl ?_
        refine ws_iconst 30 C dX5_fills_30 (nI 4) (by decide) ?_
        refine ws_iald 31 C dX5_fills_31 hA 0 rfl (vp_in_nI (by omega) (by decide)) (nI (mn μ)) ((congrArg a (nI_clamp (by omega))).trans (hR.n)) ?_
        refine ws_nicmp_ge 32 C 58 dX5_fills_32 (by decide) (by omega) (by omega) (fun c32 => ?_) (fun c32 => ?_)
        · skip
          have he : (gx (bo μ) (mv μ 0 0) (mn μ)) (stt (gx (bo μ) (mv μ 0 0) (mn μ)) i) = stt (gx (bo μ) (mv μ 0 0) (mn μ)) i + t + 1 := gx_is c18 (by omega) (by omega) (fun x h5 h6 => h4 x h5 (by omega)) (Or.inl (by omega))
          exact J58 he
        · skip
          refine ws_aload_n 35 C dX5_fills_35 rfl ?_
          refine ws_iload_n 36 C dX5_fills_36 rfl ?_
          refine ws_iload_n 37 C dX5_fills_37 rfl ?_
          refine ws_iconst 38 C dX5_fills_38 (nI 1) (by decide) ?_
          refine ws_iadd 39 C dX5_fills_39 (nI (stt (gx (bo μ) (mv μ 0 0) (mn μ)) i + t + 1)) (nI_add _ _) ?_
          refine ws_callV0 40 C dX5_fills_40 vX5_92 (c_X5_bodyOf hM hA hR hp hlf hrt hW (show stt (gx (bo μ) (mv μ 0 0) (mn μ)) i ≤ stt (gx (bo μ) (mv μ 0 0) (mn μ)) i + t + 1 from by omega) c32) rfl hM rfl rfl ⟨by decide, by decide⟩ ⟨Nat.zero_le _, Nat.zero_le _⟩ rfl rfl rfl (kR ?_)
          refine ws_aload_n 43 C dX5_fills_43 rfl ?_
          refine ws_get 44 C dX5_fills_44 fX5_7 hM rfl rfl ?_
          refine ws_iconst 47 C dX5_fills_47 (nI 0) (by decide) ?_
          refine ws_iald 48 C dX5_fills_48 hA 0 rfl (vp_in_nI (by omega) (by decide)) (mv μ 0 0) ((congrArg a (nI_clamp (by omega))).trans (hR.set (by omega))) ?_
          refine ws_icmp_gt 49 C 58 dX5_fills_49 (by decide)  (fun c49 => ?_) (fun c49 => ?_)
          · skip
            have he : (gx (bo μ) (mv μ 0 0) (mn μ)) (stt (gx (bo μ) (mv μ 0 0) (mn μ)) i) = stt (gx (bo μ) (mv μ 0 0) (mn μ)) i + t + 1 := gx_is c18 (by omega) (by omega) (fun x h5 h6 => h4 x h5 (by omega)) (Or.inr (Int32.not_le.mpr c49))
            exact J58 he
          · skip
            have h4b : ∀ x, stt (gx (bo μ) (mv μ 0 0) (mn μ)) i < x → x ≤ stt (gx (bo μ) (mv μ 0 0) (mn μ)) i + (t + 1) → bo μ (stt (gx (bo μ) (mv μ 0 0) (mn μ)) i) x ≤ (mv μ 0 0) := fun x h5 h6 => (by rcases Nat.lt_or_ge x (stt (gx (bo μ) (mv μ 0 0) (mn μ)) i + t + 1) with g | g; exact h4 x h5 (by omega); rw [show x = stt (gx (bo μ) (mv μ 0 0) (mn μ)) i + t + 1 from by omega]; exact Int32.not_lt.mp c49)
            refine ws_iinc 52 C dX5_fills_52 rfl (nI (stt (gx (bo μ) (mv μ 0 0) (mn μ)) i + t + 1)) (nI_1 _) rfl [some (.ref (ad κ 91)), some (.int (nI (stt (gx (bo μ) (mv μ 0 0) (mn μ)) i))), some (.int (nI (stt (gx (bo μ) (mv μ 0 0) (mn μ)) i + t + 1)))] rfl ?_
            refine ws_goto 55 C 23 dX5_fills_55 (by decide) ?_
            exact ih23 (by omega) h4b
      exact L23 0 (Nat.zero_le _) (fun x h5 h6 => (by omega))
  exact L11 0 (Nat.zero_le _) s (fun q hq => (by omega)) st1 hM hA hp hlf hrt hs_ hle htk hF

set_option maxRecDepth 100000 in
set_option maxHeartbeats 4000000 in
theorem c_X5_worksOutFrom {y0 y1 y2 y3 : Int32} {a : Nat → Int32} {μ : Mu} (hM : Ob z st0 91 (bMo κ y0 y1 y2 y3)) (hA : Ob z st0 92 (bA κ 293 a)) (hR : Rm μ a) {p l r : Nat → Int32} (hp : Ob z st0 97 (bA κ 25 p)) (hlf : Ob z st0 98 (bA κ 24 l)) (hrt : Ob z st0 99 (bA κ 24 r)) (hW : MeW μ p l r) {lf tk : Nat → Int32} (hle : Ob z st0 101 (bA κ 25 lf)) (htk : Ob z st0 102 (bA κ 25 tk)) {k : Nat} (hk : k < mn μ) (T : Nat → Int32) (hT : ∀ q, k < q → q ≤ mn μ → lf q = T q) : CT zl κ yX5_worksOutFrom cX5_worksOutFrom 4 none (r0 3 67) z [.ref (ad κ 91), .int (nI k)] st0 (PV (fun u => (∃ lf2 tk2, Ob z u 101 (bA κ 25 lf2) ∧ Ob z u 102 (bA κ 25 tk2) ∧ lf2 k = (inn (bo μ) (mv μ 0 0) (mn μ) T k (gx (bo μ) (mv μ 0 0) (mn μ) k - k - 1)).1 ∧ tk2 k = nI ((inn (bo μ) (mv μ 0 0) (mn μ) T k (gx (bo μ) (mv μ 0 0) (mn μ) k - k - 1)).2 - k) ∧ (∀ q, q ≠ k → lf2 q = lf q) ∧ ∀ q, q ≠ k → tk2 q = tk q) ∧ Fr (fun q : Nat => 101 ≤ q ∧ q < 103) st0 u)) := by
  obtain ⟨P, hP⟩ : ∃ P : Option Value → St → Prop, P = (PV (fun u => (∃ lf2 tk2, Ob z u 101 (bA κ 25 lf2) ∧ Ob z u 102 (bA κ 25 tk2) ∧ lf2 k = (inn (bo μ) (mv μ 0 0) (mn μ) T k (gx (bo μ) (mv μ 0 0) (mn μ) k - k - 1)).1 ∧ tk2 k = nI ((inn (bo μ) (mv μ 0 0) (mn μ) T k (gx (bo μ) (mv μ 0 0) (mn μ) k - k - 1)).2 - k) ∧ (∀ q, q ≠ k → lf2 q = lf q) ∧ ∀ q, q ≠ k → tk2 q = tk q) ∧ Fr (fun q : Nat => 101 ≤ q ∧ q < 103) st0 u)) := ⟨_, rfl⟩
  rw [← hP]
  refine CT.of (by decide +kernel) (Nat.le_of_ble_eq_true rfl) (fun zp ze zs zm zar zbe zme zc C _ => ?_)
  have C : Cx zp zs zm zar zme zc κ cX5_worksOutFrom 4 RX5 none := C
  refine ws_lv (lv2 := [some (.ref (ad κ 91)), some (.int (nI k)), none, none]) rfl ?_
  have h24 := hR.le
  have hF : Fr (fun q : Nat => 101 ≤ q ∧ q < 103) st0 st0 := Fr.rf
  refine ws_aload_n 0 C dX5_worksOutFrom_0 rfl ?_
  refine ws_get 1 C dX5_worksOutFrom_1 fX5_40 hM rfl rfl ?_
  refine ws_iload_n 4 C dX5_worksOutFrom_4 rfl ?_
  refine ws_iconst 5 C dX5_worksOutFrom_5 (nI 0) (by decide) ?_
  refine ws_iast 6 C dX5_worksOutFrom_6 htk 0 rfl (vp_in_nI (by omega) (by decide)) k (nI_clamp (by omega)) (nI 0) rfl (fun st1 est1 => ?_)
  have hM := hM.ne' (L := 1) est1 rfl (by omega)
  have hA := hA.ne' (L := 1) est1 rfl (by omega)
  have hp := hp.ne' (L := 1) est1 rfl (by omega)
  have hlf := hlf.ne' (L := 1) est1 rfl (by omega)
  have hrt := hrt.ne' (L := 1) est1 rfl (by omega)
  have hle := hle.ne' (L := 1) est1 rfl (by omega)
  have htk : Ob z st1 102 (bA κ 25 (upd tk k (nI 0))) := Ob.put' (j := 0) htk est1 rfl
  have hF := hF.put' est1 (show 101 ≤ (102) ∧ (102) < 103 from by omega)
  refine ws_iload_n 7 C dX5_worksOutFrom_7 rfl ?_
  refine ws_istore_n 8 C dX5_worksOutFrom_8 rfl [some (.ref (ad κ 91)), some (.int (nI k)), some (.int (nI k)), none] rfl ?_
  have L9 : ∀ t : Nat, t ≤ mn μ - k → ∀ (lf2 : Nat → Int32), ∀ (tk2 : Nat → Int32), ∀ (h0 : t = 0 → tk2 k = nI 0), ∀ (h1 : ∀ j, t = j + 1 → lf2 k = (inn (bo μ) (mv μ 0 0) (mn μ) T k j).1 ∧ tk2 k = nI ((inn (bo μ) (mv μ 0 0) (mn μ) T k j).2 - k)), ∀ (h3 : ∀ q, q ≠ k → lf2 q = lf q), ∀ (h3b : ∀ q, q ≠ k → tk2 q = tk q), ∀ (h4 : ∀ j, k < j → j < k + t → bo μ k j ≤ (mv μ 0 0)), ∀ (st2 : St), ∀ (hM : Ob z st2 91 (bMo κ y0 y1 y2 y3)), ∀ (hA : Ob z st2 92 (bA κ 293 a)), ∀ (hp : Ob z st2 97 (bA κ 25 p)), ∀ (hlf : Ob z st2 98 (bA κ 24 l)), ∀ (hrt : Ob z st2 99 (bA κ 24 r)), ∀ (hle : Ob z st2 101 (bA κ 25 lf2)), ∀ (htk : Ob z st2 102 (bA κ 25 tk2)), ∀ (hF : Fr (fun q : Nat => 101 ≤ q ∧ q < 103) st0 st2), WS zp zl ze (r0 3 67) zs zm zar zbe zme zc κ z 0 0 (QM zbe zar zs κ z (r0 3 67) P) st2 9 [some (.ref (ad κ 91)), some (.int (nI k)), some (.int (nI (k + t))), none] [] := by
    refine dnw ?_
    intro t ht ih9 lf2 tk2 h0 h1 h3 h3b h4 st2 hM hA hp hlf hrt hle htk hF
    refine ws_iload_n 9 C dX5_worksOutFrom_9 rfl ?_
    have J39 : ∀ (c16 : k + t < mn μ), ∀ (h4b : ∀ j, k < j → j < k + (t + 1) → bo μ k j ≤ (mv μ 0 0)), WS zp zl ze (r0 3 67) zs zm zar zbe zme zc κ z 0 0 (QM zbe zar zs κ z (r0 3 67) P) st2 39 [some (.ref (ad κ 91)), some (.int (nI k)), some (.int (nI (k + t))), none] [] := by
      intro c16 h4b
      refine ws_aload_n 39 C dX5_worksOutFrom_39 rfl ?_
      refine ws_iload_n 40 C dX5_worksOutFrom_40 rfl ?_
      refine ws_iload_n 41 C dX5_worksOutFrom_41 rfl ?_
      refine ws_callV0 42 C dX5_worksOutFrom_42 vX5_101 (c_X5_badnessOf hM hA hR hp hlf hrt hW (show k ≤ k + t from by omega) c16) rfl hM rfl rfl ⟨by decide, by decide⟩ ⟨Nat.zero_le _, Nat.zero_le _⟩ rfl rfl rfl (kR ?_)
      refine ws_aload_n 45 C dX5_worksOutFrom_45 rfl ?_
      refine ws_get 46 C dX5_worksOutFrom_46 fX5_37 hM rfl rfl ?_
      refine ws_iload_n 49 C dX5_worksOutFrom_49 rfl ?_
      refine ws_iconst 50 C dX5_worksOutFrom_50 (nI 1) (by decide) ?_
      refine ws_iadd 51 C dX5_worksOutFrom_51 (nI (k + t + 1)) (nI_add _ _) ?_
      refine ws_iald 52 C dX5_worksOutFrom_52 hle 0 rfl (vp_in_nI (by omega) (by decide)) (T (k + t + 1)) ((congrArg lf2 (nI_clamp (by omega))).trans ((h3 _ (by omega)).trans (hT _ (by omega) (by omega)))) ?_
      refine ws_iadd 53 C dX5_worksOutFrom_53 ((bad (bo μ) (mv μ 0 0) (mn μ) k (k + t)) + (T (k + t + 1))) rfl ?_
      refine ws_istore_n 54 C dX5_worksOutFrom_54 rfl [some (.ref (ad κ 91)), some (.int (nI k)), some (.int (nI (k + t))), some (.int ((bad (bo μ) (mv μ 0 0) (mn μ) k (k + t)) + (T (k + t + 1))))] rfl ?_
      refine ws_aload_n 55 C dX5_worksOutFrom_55 rfl ?_
      refine ws_get 56 C dX5_worksOutFrom_56 fX5_40 hM rfl rfl ?_
      refine ws_iload_n 59 C dX5_worksOutFrom_59 rfl ?_
      refine ws_iald 60 C dX5_worksOutFrom_60 htk 0 rfl (vp_in_nI (by omega) (by decide)) (tk2 k) (congrArg tk2 (nI_clamp (by omega))) ?_
      refine ws_if_eq 61 C 74 dX5_worksOutFrom_61 (by decide)  (fun c61 => ?_) (fun c61 => ?_)
      · skip
        have hin := inn_z (b := bo μ) (m := (mv μ 0 0)) (n := mn μ) (k := k) (T := T) (wo_0 (by omega) h1 c61)
        refine ws_aload_n 74 C dX5_worksOutFrom_74 rfl ?_
        refine ws_get 75 C dX5_worksOutFrom_75 fX5_37 hM rfl rfl ?_
        refine ws_iload_n 78 C dX5_worksOutFrom_78 rfl ?_
        refine ws_iload_n 79 C dX5_worksOutFrom_79 rfl ?_
        refine ws_iast 80 C dX5_worksOutFrom_80 hle 0 rfl (vp_in_nI (by omega) (by decide)) k (nI_clamp (by omega)) ((bad (bo μ) (mv μ 0 0) (mn μ) k (k + t)) + (T (k + t + 1))) rfl (fun st3 est3 => ?_)
        have hM := hM.ne' (L := 1) est3 rfl (by omega)
        have hA := hA.ne' (L := 1) est3 rfl (by omega)
        have hp := hp.ne' (L := 1) est3 rfl (by omega)
        have hlf := hlf.ne' (L := 1) est3 rfl (by omega)
        have hrt := hrt.ne' (L := 1) est3 rfl (by omega)
        have hle : Ob z st3 101 (bA κ 25 (upd lf2 k ((bad (bo μ) (mv μ 0 0) (mn μ) k (k + t)) + (T (k + t + 1))))) := Ob.put' (j := 0) hle est3 rfl
        have htk := htk.ne' (L := 1) est3 rfl (by omega)
        have hF := hF.put' est3 (show 101 ≤ (101) ∧ (101) < 103 from by omega)
        refine ws_aload_n 81 C dX5_worksOutFrom_81 rfl ?_
        refine ws_get 82 C dX5_worksOutFrom_82 fX5_40 hM rfl rfl ?_
        refine ws_iload_n 85 C dX5_worksOutFrom_85 rfl ?_
        refine ws_iload_n 86 C dX5_worksOutFrom_86 rfl ?_
        refine ws_iconst 87 C dX5_worksOutFrom_87 (nI 1) (by decide) ?_
        refine ws_iadd 88 C dX5_worksOutFrom_88 (nI (k + t + 1)) (nI_add _ _) ?_
        refine ws_iload_n 89 C dX5_worksOutFrom_89 rfl ?_
        refine ws_isub 90 C dX5_worksOutFrom_90 (nI (k + t + 1 - k)) (pk_sub (by omega)) ?_
        refine ws_iast 91 C dX5_worksOutFrom_91 htk 0 rfl (vp_in_nI (by omega) (by decide)) k (nI_clamp (by omega)) (nI (k + t + 1 - k)) rfl (fun st4 est4 => ?_)
        have hM := hM.ne' (L := 1) est4 rfl (by omega)
        have hA := hA.ne' (L := 1) est4 rfl (by omega)
        have hp := hp.ne' (L := 1) est4 rfl (by omega)
        have hlf := hlf.ne' (L := 1) est4 rfl (by omega)
        have hrt := hrt.ne' (L := 1) est4 rfl (by omega)
        have hle := hle.ne' (L := 1) est4 rfl (by omega)
        have htk : Ob z st4 102 (bA κ 25 (upd tk2 k (nI (k + t + 1 - k)))) := Ob.put' (j := 0) htk est4 rfl
        have hF := hF.put' est4 (show 101 ≤ (102) ∧ (102) < 103 from by omega)
        refine ws_iinc 92 C dX5_worksOutFrom_92 rfl (nI (k + t + 1)) (nI_1 _) rfl [some (.ref (ad κ 91)), some (.int (nI k)), some (.int (nI (k + t + 1))), some (.int ((bad (bo μ) (mv μ 0 0) (mn μ) k (k + t)) + (T (k + t + 1))))] rfl ?_
        refine ws_goto 95 C 9 dX5_worksOutFrom_95 (by decide) ?_
        refine ws_wk (lv2 := [some (.ref (ad κ 91)), some (.int (nI k)), some (.int (nI (k + t + 1))), none]) ⟨rfl, rfl, rfl, trivial⟩ ?_
        exact ih9 (by omega) (upd lf2 k ((bad (bo μ) (mv μ 0 0) (mn μ) k (k + t)) + (T (k + t + 1)))) (upd tk2 k (nI (k + t + 1 - k))) (fun q => (by omega)) (wo_new hin) (fun q hq => (pk_un hq).trans (h3 q hq)) (fun q hq => (pk_un hq).trans (h3b q hq)) h4b st4 hM hA hp hlf hrt hle htk hF
      · skip
        have htn : t ≠ 0 := fun q => c61 (h0 q)
        obtain ⟨j, hj⟩ : ∃ j, t = j + 1 := ⟨t - 1, by omega⟩
        refine ws_iload_n 64 C dX5_worksOutFrom_64 rfl ?_
        refine ws_aload_n 65 C dX5_worksOutFrom_65 rfl ?_
        refine ws_get 66 C dX5_worksOutFrom_66 fX5_37 hM rfl rfl ?_
        refine ws_iload_n 69 C dX5_worksOutFrom_69 rfl ?_
        refine ws_iald 70 C dX5_worksOutFrom_70 hle 0 rfl (vp_in_nI (by omega) (by decide)) ((inn (bo μ) (mv μ 0 0) (mn μ) T k j).1) ((congrArg lf2 (nI_clamp (by omega))).trans ((h1 j hj).1)) ?_
        refine ws_icmp_gt 71 C 92 dX5_worksOutFrom_71 (by decide)  (fun c71 => ?_) (fun c71 => ?_)
        · skip
          refine ws_iinc 92 C dX5_worksOutFrom_92 rfl (nI (k + t + 1)) (nI_1 _) rfl [some (.ref (ad κ 91)), some (.int (nI k)), some (.int (nI (k + t + 1))), some (.int ((bad (bo μ) (mv μ 0 0) (mn μ) k (k + t)) + (T (k + t + 1))))] rfl ?_
          refine ws_goto 95 C 9 dX5_worksOutFrom_95 (by decide) ?_
          refine ws_wk (lv2 := [some (.ref (ad κ 91)), some (.int (nI k)), some (.int (nI (k + t + 1))), none]) ⟨rfl, rfl, rfl, trivial⟩ ?_
          exact ih9 (by omega) lf2 tk2 (fun q => (by omega)) (wo_none h1 (inn_sn hj (Int32.not_le.mpr c71)) htn) h3 h3b h4b st2 hM hA hp hlf hrt hle htk hF
        · skip
          have hin := inn_s hj (Int32.not_lt.mp c71)
          refine ws_aload_n 74 C dX5_worksOutFrom_74 rfl ?_
          refine ws_get 75 C dX5_worksOutFrom_75 fX5_37 hM rfl rfl ?_
          refine ws_iload_n 78 C dX5_worksOutFrom_78 rfl ?_
          refine ws_iload_n 79 C dX5_worksOutFrom_79 rfl ?_
          refine ws_iast 80 C dX5_worksOutFrom_80 hle 0 rfl (vp_in_nI (by omega) (by decide)) k (nI_clamp (by omega)) ((bad (bo μ) (mv μ 0 0) (mn μ) k (k + t)) + (T (k + t + 1))) rfl (fun st5 est5 => ?_)
          have hM := hM.ne' (L := 1) est5 rfl (by omega)
          have hA := hA.ne' (L := 1) est5 rfl (by omega)
          have hp := hp.ne' (L := 1) est5 rfl (by omega)
          have hlf := hlf.ne' (L := 1) est5 rfl (by omega)
          have hrt := hrt.ne' (L := 1) est5 rfl (by omega)
          have hle : Ob z st5 101 (bA κ 25 (upd lf2 k ((bad (bo μ) (mv μ 0 0) (mn μ) k (k + t)) + (T (k + t + 1))))) := Ob.put' (j := 0) hle est5 rfl
          have htk := htk.ne' (L := 1) est5 rfl (by omega)
          have hF := hF.put' est5 (show 101 ≤ (101) ∧ (101) < 103 from by omega)
          refine ws_aload_n 81 C dX5_worksOutFrom_81 rfl ?_
          refine ws_get 82 C dX5_worksOutFrom_82 fX5_40 hM rfl rfl ?_
          refine ws_iload_n 85 C dX5_worksOutFrom_85 rfl ?_
          refine ws_iload_n 86 C dX5_worksOutFrom_86 rfl ?_
          refine ws_iconst 87 C dX5_worksOutFrom_87 (nI 1) (by decide) ?_
          refine ws_iadd 88 C dX5_worksOutFrom_88 (nI (k + t + 1)) (nI_add _ _) ?_
          refine ws_iload_n 89 C dX5_worksOutFrom_89 rfl ?_
          refine ws_isub 90 C dX5_worksOutFrom_90 (nI (k + t + 1 - k)) (pk_sub (by omega)) ?_
          refine ws_iast 91 C dX5_worksOutFrom_91 htk 0 rfl (vp_in_nI (by omega) (by decide)) k (nI_clamp (by omega)) (nI (k + t + 1 - k)) rfl (fun st6 est6 => ?_)
          have hM := hM.ne' (L := 1) est6 rfl (by omega)
          have hA := hA.ne' (L := 1) est6 rfl (by omega)
          have hp := hp.ne' (L := 1) est6 rfl (by omega)
          have hlf := hlf.ne' (L := 1) est6 rfl (by omega)
          have hrt := hrt.ne' (L := 1) est6 rfl (by omega)
          have hle := hle.ne' (L := 1) est6 rfl (by omega)
          have htk : Ob z st6 102 (bA κ 25 (upd tk2 k (nI (k + t + 1 - k)))) := Ob.put' (j := 0) htk est6 rfl
          have hF := hF.put' est6 (show 101 ≤ (102) ∧ (102) < 103 from by omega)
          refine ws_iinc 92 C dX5_worksOutFrom_92 rfl (nI (k + t + 1)) (nI_1 _) rfl [some (.ref (ad κ 91)), some (.int (nI k)), some (.int (nI (k + t + 1))), some (.int ((bad (bo μ) (mv μ 0 0) (mn μ) k (k + t)) + (T (k + t + 1))))] rfl ?_
          refine ws_goto 95 C 9 dX5_worksOutFrom_95 (by decide) ?_
          refine ws_wk (lv2 := [some (.ref (ad κ 91)), some (.int (nI k)), some (.int (nI (k + t + 1))), none]) ⟨rfl, rfl, rfl, trivial⟩ ?_
          exact ih9 (by omega) (upd lf2 k ((bad (bo μ) (mv μ 0 0) (mn μ) k (k + t)) + (T (k + t + 1)))) (upd tk2 k (nI (k + t + 1 - k))) (fun q => (by omega)) (wo_new hin) (fun q hq => (pk_un hq).trans (h3 q hq)) (fun q hq => (pk_un hq).trans (h3b q hq)) h4b st6 hM hA hp hlf hrt hle htk hF
    refine ws_aload_n 10 C dX5_worksOutFrom_10 rfl ?_
    refine ws_get 11 C dX5_worksOutFrom_11 fX5_7 hM rfl rfl ?_
    refine ws_iconst 14 C dX5_worksOutFrom_14 (nI 4) (by decide) ?_
    refine ws_iald 15 C dX5_worksOutFrom_15 hA 0 rfl (vp_in_nI (by omega) (by decide)) (nI (mn μ)) ((congrArg a (nI_clamp (by omega))).trans (hR.n)) ?_
    refine ws_nicmp_ge 16 C 98 dX5_worksOutFrom_16 (by decide) (by omega) (by omega) (fun c16 => ?_) (fun c16 => ?_)
    · skip
      obtain ⟨j, hj⟩ : ∃ j, t = j + 1 := ⟨t - 1, by omega⟩
      have hg : gx (bo μ) (mv μ 0 0) (mn μ) k = k + j + 1 := gx_is hk (by omega) (by omega) (fun x h5 h6 => h4 x h5 (by omega)) (Or.inl (by omega))
      exact ws_vret 98 C dX5_worksOutFrom_98 rfl (Nat.le_refl _) (Nat.le_refl _) (by rw [hP]; exact ⟨rfl, ⟨⟨_, _, hle, htk, (by rw [hg, show k + j + 1 - k - 1 = j from by omega]; exact (h1 j hj).1), (by rw [hg, show k + j + 1 - k - 1 = j from by omega]; exact (h1 j hj).2), h3, h3b⟩, hF⟩⟩)
    · skip
      refine ws_iload_n 19 C dX5_worksOutFrom_19 rfl ?_
      refine ws_iload_n 20 C dX5_worksOutFrom_20 rfl ?_
      refine ws_nicmp_eq 21 C 39 dX5_worksOutFrom_21 (by decide) (by omega) (by omega) (fun c21 => ?_) (fun c21 => ?_)
      · skip
        have h4b : ∀ j, k < j → j < k + (t + 1) → bo μ k j ≤ (mv μ 0 0) := fun j h5 h6 => (by omega)
        exact J39 c16 h4b
      · skip
        refine ws_aload_n 24 C dX5_worksOutFrom_24 rfl ?_
        refine ws_iload_n 25 C dX5_worksOutFrom_25 rfl ?_
        refine ws_iload_n 26 C dX5_worksOutFrom_26 rfl ?_
        refine ws_callV0 27 C dX5_worksOutFrom_27 vX5_92 (c_X5_bodyOf hM hA hR hp hlf hrt hW (show k ≤ k + t from by omega) c16) rfl hM rfl rfl ⟨by decide, by decide⟩ ⟨Nat.zero_le _, Nat.zero_le _⟩ rfl rfl rfl (kR ?_)
        refine ws_aload_n 30 C dX5_worksOutFrom_30 rfl ?_
        refine ws_get 31 C dX5_worksOutFrom_31 fX5_7 hM rfl rfl ?_
        refine ws_iconst 34 C dX5_worksOutFrom_34 (nI 0) (by decide) ?_
        refine ws_iald 35 C dX5_worksOutFrom_35 hA 0 rfl (vp_in_nI (by omega) (by decide)) (mv μ 0 0) ((congrArg a (nI_clamp (by omega))).trans (hR.set (by omega))) ?_
        refine ws_icmp_gt 36 C 98 dX5_worksOutFrom_36 (by decide)  (fun c36 => ?_) (fun c36 => ?_)
        · skip
          obtain ⟨j, hj⟩ : ∃ j, t = j + 1 := ⟨t - 1, by omega⟩
          have hg : gx (bo μ) (mv μ 0 0) (mn μ) k = k + j + 1 := gx_is hk (by omega) (by omega) (fun x h5 h6 => h4 x h5 (by omega)) (Or.inr (by rw [show k + j + 1 = k + t from by omega]; exact Int32.not_le.mpr c36))
          exact ws_vret 98 C dX5_worksOutFrom_98 rfl (Nat.le_refl _) (Nat.le_refl _) (by rw [hP]; exact ⟨rfl, ⟨⟨_, _, hle, htk, (by rw [hg, show k + j + 1 - k - 1 = j from by omega]; exact (h1 j hj).1), (by rw [hg, show k + j + 1 - k - 1 = j from by omega]; exact (h1 j hj).2), h3, h3b⟩, hF⟩⟩)
        · skip
          have h4b : ∀ j, k < j → j < k + (t + 1) → bo μ k j ≤ (mv μ 0 0) := fun j h5 h6 => (by rcases Nat.lt_or_ge j (k + t) with g | g; exact h4 j h5 g; rw [show j = k + t from by omega]; exact Int32.not_lt.mp c36)
          exact J39 c16 h4b
  exact L9 0 (Nat.zero_le _) lf (upd tk k (nI 0)) (fun _ => pk_us) (fun j hj => (by omega)) (fun q hq => rfl) (fun q hq => pk_un hq) (fun j h5 h6 => (by omega)) st1 hM hA hp hlf hrt hle htk hF
end
