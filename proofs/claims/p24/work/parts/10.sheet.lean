section
variable {zl : Launch} {κ : Kt} {z : Nat} {st0 : St}
set_option maxRecDepth 100000 in
set_option maxHeartbeats 4000000 in
theorem c_X4_sortWith {x : Int32} : CT zl κ yX4_sortWith cX4_sortWith 1 (some .int) (r0 0 0) z [.int (x)] st0 (PRi (scv (-1) x) st0) := by
  obtain ⟨P, hP⟩ : ∃ P : Option Value → St → Prop, P = (PRi (scv (-1) x) st0) := ⟨_, rfl⟩
  rw [← hP]
  refine CT.of (by decide +kernel) (Nat.le_of_ble_eq_true rfl) (fun zp ze zs zm zar zbe zme zc C _ => ?_)
  have C : Cx zp zs zm zar zme zc κ cX4_sortWith 1 RX4 (some .int) := C
  refine ws_lv (lv2 := [some (.int (x))]) rfl ?_
  refine ws_iload_n 0 C dX4_sortWith_0 rfl ?_
  refine ws_bipush 1 C dX4_sortWith_1 (nI 97) (by decide) ?_
  refine ws_icmp_lt 3 C 14 dX4_sortWith_3 (by decide)  (fun c3 => ?_) (fun c3 => ?_)
  · skip
    have h0 : ¬ (nI 97 ≤ x ∧ x ≤ nI 122) := fun q => Int32.not_lt.mpr q.1 c3
    refine ws_iload_n 14 C dX4_sortWith_14 rfl ?_
    by_cases h33 : x = nI 33
    · skip
      refine ws_lsw 15 C dX4_sortWith_15 (78) 93 (by decide) (by rw [h33]; rfl) (by decide) ?_
      refine ws_bipush 93 C dX4_sortWith_93 (nI 7) (by decide) ?_
      exact ws_iret 95 C  dX4_sortWith_95 rfl (Nat.le_refl _) (Nat.le_refl _) (by rw [hP]; exact ⟨congrArg (fun z => some (Value.int z)) (by rw [h33]; decide), rfl⟩)
    by_cases h39 : x = nI 39
    · skip
      refine ws_lsw 15 C dX4_sortWith_15 (75) 90 (by decide) (by rw [h39]; rfl) (by decide) ?_
      refine ws_bipush 90 C dX4_sortWith_90 (nI 6) (by decide) ?_
      exact ws_iret 92 C  dX4_sortWith_92 rfl (Nat.le_refl _) (Nat.le_refl _) (by rw [hP]; exact ⟨congrArg (fun z => some (Value.int z)) (by rw [h39]; decide), rfl⟩)
    by_cases h44 : x = nI 44
    · skip
      refine ws_lsw 15 C dX4_sortWith_15 (67) 82 (by decide) (by rw [h44]; rfl) (by decide) ?_
      refine ws_iconst 82 C dX4_sortWith_82 (nI 2) (by decide) ?_
      exact ws_iret 83 C  dX4_sortWith_83 rfl (Nat.le_refl _) (Nat.le_refl _) (by rw [hP]; exact ⟨congrArg (fun z => some (Value.int z)) (by rw [h44]; decide), rfl⟩)
    by_cases h45 : x = nI 45
    · skip
      refine ws_lsw 15 C dX4_sortWith_15 (73) 88 (by decide) (by rw [h45]; rfl) (by decide) ?_
      refine ws_iconst 88 C dX4_sortWith_88 (nI 5) (by decide) ?_
      exact ws_iret 89 C  dX4_sortWith_89 rfl (Nat.le_refl _) (Nat.le_refl _) (by rw [hP]; exact ⟨congrArg (fun z => some (Value.int z)) (by rw [h45]; decide), rfl⟩)
    by_cases h46 : x = nI 46
    · skip
      refine ws_lsw 15 C dX4_sortWith_15 (65) 80 (by decide) (by rw [h46]; rfl) (by decide) ?_
      refine ws_iconst 80 C dX4_sortWith_80 (nI 1) (by decide) ?_
      exact ws_iret 81 C  dX4_sortWith_81 rfl (Nat.le_refl _) (Nat.le_refl _) (by rw [hP]; exact ⟨congrArg (fun z => some (Value.int z)) (by rw [h46]; decide), rfl⟩)
    by_cases h58 : x = nI 58
    · skip
      refine ws_lsw 15 C dX4_sortWith_15 (71) 86 (by decide) (by rw [h58]; rfl) (by decide) ?_
      refine ws_iconst 86 C dX4_sortWith_86 (nI 4) (by decide) ?_
      exact ws_iret 87 C  dX4_sortWith_87 rfl (Nat.le_refl _) (Nat.le_refl _) (by rw [hP]; exact ⟨congrArg (fun z => some (Value.int z)) (by rw [h58]; decide), rfl⟩)
    by_cases h59 : x = nI 59
    · skip
      refine ws_lsw 15 C dX4_sortWith_15 (69) 84 (by decide) (by rw [h59]; rfl) (by decide) ?_
      refine ws_iconst 84 C dX4_sortWith_84 (nI 3) (by decide) ?_
      exact ws_iret 85 C  dX4_sortWith_85 rfl (Nat.le_refl _) (Nat.le_refl _) (by rw [hP]; exact ⟨congrArg (fun z => some (Value.int z)) (by rw [h59]; decide), rfl⟩)
    refine ws_lsw 15 C dX4_sortWith_15 (81) 96 (by decide) (show Op.lookupswitch.offset [(33, 78), (39, 75), (44, 67), (45, 73), (46, 65), (58, 71), (59, 69)] (81) x.toInt = 81 from by rw [lv_osw (a := 33) h33 rfl, lv_osw (a := 39) h39 rfl, lv_osw (a := 44) h44 rfl, lv_osw (a := 45) h45 rfl, lv_osw (a := 46) h46 rfl, lv_osw (a := 58) h58 rfl, lv_osw (a := 59) h59 rfl]; rfl) (by decide) ?_
    refine ws_iconst 96 C dX4_sortWith_96 ((-1)) (by decide) ?_
    exact ws_iret 97 C  dX4_sortWith_97 rfl (Nat.le_refl _) (Nat.le_refl _) (by rw [hP]; exact ⟨congrArg (fun z => some (Value.int z)) ((scv_8 h0 h46 h44 h59 h58 h45 h39 h33).symm), rfl⟩)
  · skip
    refine ws_iload_n 6 C dX4_sortWith_6 rfl ?_
    refine ws_bipush 7 C dX4_sortWith_7 (nI 122) (by decide) ?_
    refine ws_icmp_gt 9 C 14 dX4_sortWith_9 (by decide)  (fun c9 => ?_) (fun c9 => ?_)
    · skip
      have h0 : ¬ (nI 97 ≤ x ∧ x ≤ nI 122) := fun q => Int32.not_lt.mpr q.2 c9
      refine ws_iload_n 14 C dX4_sortWith_14 rfl ?_
      by_cases h33 : x = nI 33
      · skip
        refine ws_lsw 15 C dX4_sortWith_15 (78) 93 (by decide) (by rw [h33]; rfl) (by decide) ?_
        refine ws_bipush 93 C dX4_sortWith_93 (nI 7) (by decide) ?_
        exact ws_iret 95 C  dX4_sortWith_95 rfl (Nat.le_refl _) (Nat.le_refl _) (by rw [hP]; exact ⟨congrArg (fun z => some (Value.int z)) (by rw [h33]; decide), rfl⟩)
      by_cases h39 : x = nI 39
      · skip
        refine ws_lsw 15 C dX4_sortWith_15 (75) 90 (by decide) (by rw [h39]; rfl) (by decide) ?_
        refine ws_bipush 90 C dX4_sortWith_90 (nI 6) (by decide) ?_
        exact ws_iret 92 C  dX4_sortWith_92 rfl (Nat.le_refl _) (Nat.le_refl _) (by rw [hP]; exact ⟨congrArg (fun z => some (Value.int z)) (by rw [h39]; decide), rfl⟩)
      by_cases h44 : x = nI 44
      · skip
        refine ws_lsw 15 C dX4_sortWith_15 (67) 82 (by decide) (by rw [h44]; rfl) (by decide) ?_
        refine ws_iconst 82 C dX4_sortWith_82 (nI 2) (by decide) ?_
        exact ws_iret 83 C  dX4_sortWith_83 rfl (Nat.le_refl _) (Nat.le_refl _) (by rw [hP]; exact ⟨congrArg (fun z => some (Value.int z)) (by rw [h44]; decide), rfl⟩)
      by_cases h45 : x = nI 45
      · skip
        refine ws_lsw 15 C dX4_sortWith_15 (73) 88 (by decide) (by rw [h45]; rfl) (by decide) ?_
        refine ws_iconst 88 C dX4_sortWith_88 (nI 5) (by decide) ?_
        exact ws_iret 89 C  dX4_sortWith_89 rfl (Nat.le_refl _) (Nat.le_refl _) (by rw [hP]; exact ⟨congrArg (fun z => some (Value.int z)) (by rw [h45]; decide), rfl⟩)
      by_cases h46 : x = nI 46
      · skip
        refine ws_lsw 15 C dX4_sortWith_15 (65) 80 (by decide) (by rw [h46]; rfl) (by decide) ?_
        refine ws_iconst 80 C dX4_sortWith_80 (nI 1) (by decide) ?_
        exact ws_iret 81 C  dX4_sortWith_81 rfl (Nat.le_refl _) (Nat.le_refl _) (by rw [hP]; exact ⟨congrArg (fun z => some (Value.int z)) (by rw [h46]; decide), rfl⟩)
      by_cases h58 : x = nI 58
      · skip
        refine ws_lsw 15 C dX4_sortWith_15 (71) 86 (by decide) (by rw [h58]; rfl) (by decide) ?_
        refine ws_iconst 86 C dX4_sortWith_86 (nI 4) (by decide) ?_
        exact ws_iret 87 C  dX4_sortWith_87 rfl (Nat.le_refl _) (Nat.le_refl _) (by rw [hP]; exact ⟨congrArg (fun z => some (Value.int z)) (by rw [h58]; decide), rfl⟩)
      by_cases h59 : x = nI 59
      · skip
        refine ws_lsw 15 C dX4_sortWith_15 (69) 84 (by decide) (by rw [h59]; rfl) (by decide) ?_
        refine ws_iconst 84 C dX4_sortWith_84 (nI 3) (by decide) ?_
        exact ws_iret 85 C  dX4_sortWith_85 rfl (Nat.le_refl _) (Nat.le_refl _) (by rw [hP]; exact ⟨congrArg (fun z => some (Value.int z)) (by rw [h59]; decide), rfl⟩)
      refine ws_lsw 15 C dX4_sortWith_15 (81) 96 (by decide) (show Op.lookupswitch.offset [(33, 78), (39, 75), (44, 67), (45, 73), (46, 65), (58, 71), (59, 69)] (81) x.toInt = 81 from by rw [lv_osw (a := 33) h33 rfl, lv_osw (a := 39) h39 rfl, lv_osw (a := 44) h44 rfl, lv_osw (a := 45) h45 rfl, lv_osw (a := 46) h46 rfl, lv_osw (a := 58) h58 rfl, lv_osw (a := 59) h59 rfl]; rfl) (by decide) ?_
      refine ws_iconst 96 C dX4_sortWith_96 ((-1)) (by decide) ?_
      exact ws_iret 97 C  dX4_sortWith_97 rfl (Nat.le_refl _) (Nat.le_refl _) (by rw [hP]; exact ⟨congrArg (fun z => some (Value.int z)) ((scv_8 h0 h46 h44 h59 h58 h45 h39 h33).symm), rfl⟩)
    · skip
      refine ws_iconst 12 C dX4_sortWith_12 (nI 0) (by decide) ?_
      exact ws_iret 13 C  dX4_sortWith_13 rfl (Nat.le_refl _) (Nat.le_refl _) (by rw [hP]; exact ⟨congrArg (fun z => some (Value.int z)) ((scv_0 (Int32.not_lt.mp c3) (Int32.not_lt.mp c9)).symm), rfl⟩)

set_option maxRecDepth 100000 in
set_option maxHeartbeats 4000000 in
theorem c_X3_signAt {b : Nat} {f1 f2 f3 f4 f5 f6 : Nat → Int32} {μ : Mu} (hB : Ob z st0 b (bSh κ b f1 f2 f3 f4 f5 f6 (nI (mn μ)))) (hR : Rp μ f1 f2 f3 f4 f5 f6) {i j : Nat} (hi : i < mn μ) (hj : j < ml μ i) : CT zl κ yX3_signAt cX3_signAt 3 (some .char) (r0 0 0) z [.ref (ad κ b), .int (nI i), .int (nI j)] st0 (PRi (mg μ i j) st0) := by
  obtain ⟨P, hP⟩ : ∃ P : Option Value → St → Prop, P = (PRi (mg μ i j) st0) := ⟨_, rfl⟩
  rw [← hP]
  refine CT.of (by decide +kernel) (Nat.le_of_ble_eq_true rfl) (fun zp ze zs zm zar zbe zme zc C _ => ?_)
  have C : Cx zp zs zm zar zme zc κ cX3_signAt 3 RX3 (some .char) := C
  refine ws_lv (lv2 := [some (.ref (ad κ b)), some (.int (nI i)), some (.int (nI j))]) rfl ?_
  have h24 := hR.le
  have h10 := (hR.ok.len hi).2
  refine ws_aload_n 0 C dX3_signAt_0 rfl ?_
  refine ws_get 1 C dX3_signAt_1 fX3_24 hB rfl rfl ?_
  refine ws_iload_n 4 C dX3_signAt_4 rfl ?_
  refine ws_bipush 5 C dX3_signAt_5 (nI 10) (by decide) ?_
  refine ws_imul 7 C dX3_signAt_7 (nI (i * 10)) (pk_mul _ _) ?_
  refine ws_iload_n 8 C dX3_signAt_8 rfl ?_
  refine ws_iadd 9 C dX3_signAt_9 (nI (i * 10 + j)) (nI_add _ _) ?_
  refine ws_cald 10 C dX3_signAt_10 hB 5 rfl (vp_in_nI (by omega) (by decide)) (mg μ i j) ((congrArg f5 (nI_clamp (by omega))).trans (hR.sig hi hj)) ?_
  exact ws_cret 11 C (fit_char (hR.sig hi hj ▸ hR.fit _)) dX3_signAt_11 rfl (Nat.le_refl _) (Nat.le_refl _) (by rw [hP]; exact ⟨rfl, rfl⟩)

set_option maxRecDepth 100000 in
set_option maxHeartbeats 4000000 in
theorem c_X3_sortAt {b : Nat} {f1 f2 f3 f4 f5 f6 : Nat → Int32} {μ : Mu} (hB : Ob z st0 b (bSh κ b f1 f2 f3 f4 f5 f6 (nI (mn μ)))) (hR : Rp μ f1 f2 f3 f4 f5 f6) {i j : Nat} (hi : i < mn μ) (hj : j < ml μ i) : CT zl κ yX3_sortAt cX3_sortAt 3 (some .int) (r0 1 22) z [.ref (ad κ b), .int (nI i), .int (nI j)] st0 (PRi (nI (so μ i j)) st0) := by
  obtain ⟨P, hP⟩ : ∃ P : Option Value → St → Prop, P = (PRi (nI (so μ i j)) st0) := ⟨_, rfl⟩
  rw [← hP]
  refine CT.of (by decide +kernel) (Nat.le_of_ble_eq_true rfl) (fun zp ze zs zm zar zbe zme zc C _ => ?_)
  have C : Cx zp zs zm zar zme zc κ cX3_sortAt 3 RX3 (some .int) := C
  refine ws_lv (lv2 := [some (.ref (ad κ b)), some (.int (nI i)), some (.int (nI j))]) rfl ?_
  have h8 := hR.ok.so hi hj
  refine ws_aload_n 0 C dX3_sortAt_0 rfl ?_
  refine ws_iload_n 1 C dX3_sortAt_1 rfl ?_
  refine ws_iload_n 2 C dX3_sortAt_2 rfl ?_
  refine ws_callV0 3 C dX3_sortAt_3 vX3_41 (c_X3_signAt hB hR hi hj) rfl hB rfl rfl ⟨by decide, by decide⟩ ⟨Nat.zero_le _, Nat.zero_le _⟩ rfl rfl rfl (kR ?_)
  refine ws_callSN0 6 C dX3_sortAt_6 vX3_45 ((scv_k h8 ▸ c_X4_sortWith : CT zl κ yX4_sortWith cX4_sortWith 1 (some .int) (r0 0 0) z [.int (mg μ i j)] st0 (PRi (nI (so μ i j)) st0))) rfl ⟨by decide, by decide⟩ ⟨Nat.zero_le _, Nat.zero_le _⟩ rfl rfl rfl (kR ?_)
  refine ws_iconst 9 C dX3_sortAt_9 (nI 0) (by decide) ?_
  refine ws_mmax 10 C dX3_sortAt_10 k150 k151 k11 k152 rfl (by decide) (Nat.le_of_ble_eq_true rfl) (Nat.zero_le _) (Nat.zero_le _) (nI (so μ i j)) (max0 (a := so μ i j) (by omega)) ?_
  exact ws_iret 13 C  dX3_sortAt_13 rfl (Nat.le_refl _) (Nat.le_refl _) (by rw [hP]; exact ⟨rfl, rfl⟩)

set_option maxRecDepth 100000 in
set_option maxHeartbeats 4000000 in
theorem c_X3_widthOf {b : Nat} {f1 f2 f3 f4 f5 f6 : Nat → Int32} {μ : Mu} (hB : Ob z st0 b (bSh κ b f1 f2 f3 f4 f5 f6 (nI (mn μ)))) (hR : Rp μ f1 f2 f3 f4 f5 f6) {i : Nat} (hi : i < mn μ) : CT zl κ yX3_widthOf cX3_widthOf 4 (some .int) (r0 2 44) z [.ref (ad κ b), .int (nI i)] st0 (PRi (wd μ i) st0) := by
  obtain ⟨P, hP⟩ : ∃ P : Option Value → St → Prop, P = (PRi (wd μ i) st0) := ⟨_, rfl⟩
  rw [← hP]
  refine CT.of (by decide +kernel) (Nat.le_of_ble_eq_true rfl) (fun zp ze zs zm zar zbe zme zc C _ => ?_)
  have C : Cx zp zs zm zar zme zc κ cX3_widthOf 4 RX3 (some .int) := C
  refine ws_lv (lv2 := [some (.ref (ad κ b)), some (.int (nI i)), none, none]) rfl ?_
  have h24 := hR.le
  have h10 := (hR.ok.len hi).2
  refine ws_iconst 0 C dX3_widthOf_0 (nI 0) (by decide) ?_
  refine ws_istore_n 1 C dX3_widthOf_1 rfl [some (.ref (ad κ b)), some (.int (nI i)), some (.int (nI 0)), none] rfl ?_
  refine ws_iconst 2 C dX3_widthOf_2 (nI 0) (by decide) ?_
  refine ws_istore_n 3 C dX3_widthOf_3 rfl [some (.ref (ad κ b)), some (.int (nI i)), some (.int (nI 0)), some (.int (nI 0))] rfl ?_
  have L4 : ∀ k : Nat, k ≤ ml μ i → ∀ (a : Int32), ∀ (ha : a = wdS μ i k), WS zp zl ze (r0 2 44) zs zm zar zbe zme zc κ z 0 0 (QM zbe zar zs κ z (r0 2 44) P) st0 4 [some (.ref (ad κ b)), some (.int (nI i)), some (.int (a)), some (.int (nI k))] [] := by
    refine dnw ?_
    intro k hk ih4 a ha
    refine ws_iload_n 4 C dX3_widthOf_4 rfl ?_
    refine ws_aload_n 5 C dX3_widthOf_5 rfl ?_
    refine ws_get 6 C dX3_widthOf_6 fX3_28 hB rfl rfl ?_
    refine ws_iload_n 9 C dX3_widthOf_9 rfl ?_
    refine ws_iald 10 C dX3_widthOf_10 hB 6 rfl (vp_in_nI (by omega) (by decide)) (nI (ml μ i)) ((congrArg f6 (nI_clamp (by omega))).trans (hR.len hi)) ?_
    refine ws_nicmp_ge 11 C 34 dX3_widthOf_11 (by decide) (by omega) (by omega) (fun c11 => ?_) (fun c11 => ?_)
    · skip
      refine ws_iload_n 34 C dX3_widthOf_34 rfl ?_
      exact ws_iret 35 C  dX3_widthOf_35 rfl (Nat.le_refl _) (Nat.le_refl _) (by rw [hP]; exact ⟨congrArg (fun z => some (Value.int z)) ((ha.trans (by rw [show k = ml μ i from by omega]; rfl))), rfl⟩)
    · skip
      refine ws_iload_n 14 C dX3_widthOf_14 rfl ?_
      refine ws_aload_n 15 C dX3_widthOf_15 rfl ?_
      refine ws_get 16 C dX3_widthOf_16 fX3_15 hB rfl rfl ?_
      refine ws_aload_n 19 C dX3_widthOf_19 rfl ?_
      refine ws_iload_n 20 C dX3_widthOf_20 rfl ?_
      refine ws_iload_n 21 C dX3_widthOf_21 rfl ?_
      have h8 := hR.ok.so hi c11
      refine ws_callV0 22 C dX3_widthOf_22 vX3_55 (c_X3_sortAt hB hR hi c11) rfl hB rfl rfl ⟨by decide, by decide⟩ ⟨Nat.zero_le _, Nat.zero_le _⟩ rfl rfl rfl (kR ?_)
      refine ws_iald 25 C dX3_widthOf_25 hB 2 rfl (vp_in_nI (by omega) (by decide)) (mv μ 1 (so μ i k)) ((congrArg f2 (nI_clamp (by omega))).trans (hR.wid h8)) ?_
      refine ws_iadd 26 C dX3_widthOf_26 (a + (mv μ 1 (so μ i k))) rfl ?_
      refine ws_istore_n 27 C dX3_widthOf_27 rfl [some (.ref (ad κ b)), some (.int (nI i)), some (.int (a + (mv μ 1 (so μ i k)))), some (.int (nI k))] rfl ?_
      refine ws_iinc 28 C dX3_widthOf_28 rfl (nI (k + 1)) (nI_1 _) rfl [some (.ref (ad κ b)), some (.int (nI i)), some (.int (a + (mv μ 1 (so μ i k)))), some (.int (nI (k + 1)))] rfl ?_
      refine ws_goto 31 C 4 dX3_widthOf_31 (by decide) ?_
      exact ih4 c11 (a + mv μ 1 (so μ i k)) (ha ▸ rfl)
  exact L4 0 (Nat.zero_le _) (nI 0) rfl

set_option maxRecDepth 100000 in
set_option maxHeartbeats 4000000 in
theorem c_X3_countSigns {b : Nat} {f1 f2 f3 f4 f5 f6 : Nat → Int32} {μ : Mu} (hB : Ob z st0 b (bSh κ b f1 f2 f3 f4 f5 f6 (nI (mn μ)))) (hR : Rp μ f1 f2 f3 f4 f5 f6) : CT zl κ yX3_countSigns cX3_countSigns 3 (some .int) (r0 0 0) z [.ref (ad κ b)] st0 (PRi (nI (smN (ml μ) (mn μ))) st0) := by
  obtain ⟨P, hP⟩ : ∃ P : Option Value → St → Prop, P = (PRi (nI (smN (ml μ) (mn μ))) st0) := ⟨_, rfl⟩
  rw [← hP]
  refine CT.of (by decide +kernel) (Nat.le_of_ble_eq_true rfl) (fun zp ze zs zm zar zbe zme zc C _ => ?_)
  have C : Cx zp zs zm zar zme zc κ cX3_countSigns 3 RX3 (some .int) := C
  refine ws_lv (lv2 := [some (.ref (ad κ b)), none, none]) rfl ?_
  have h24 := hR.le
  refine ws_iconst 0 C dX3_countSigns_0 (nI 0) (by decide) ?_
  refine ws_istore_n 1 C dX3_countSigns_1 rfl [some (.ref (ad κ b)), some (.int (nI 0)), none] rfl ?_
  refine ws_iconst 2 C dX3_countSigns_2 (nI 0) (by decide) ?_
  refine ws_istore_n 3 C dX3_countSigns_3 rfl [some (.ref (ad κ b)), some (.int (nI 0)), some (.int (nI 0))] rfl ?_
  have L4 : ∀ k : Nat, k ≤ mn μ → WS zp zl ze (r0 0 0) zs zm zar zbe zme zc κ z 0 0 (QM zbe zar zs κ z (r0 0 0) P) st0 4 [some (.ref (ad κ b)), some (.int (nI (smN (ml μ) k))), some (.int (nI k))] [] := by
    refine dnw ?_
    intro k hk ih4 
    refine ws_iload_n 4 C dX3_countSigns_4 rfl ?_
    refine ws_aload_n 5 C dX3_countSigns_5 rfl ?_
    refine ws_get 6 C dX3_countSigns_6 fX3_31 hB rfl rfl ?_
    refine ws_nicmp_ge 9 C 27 dX3_countSigns_9 (by decide) (by omega) (by omega) (fun c9 => ?_) (fun c9 => ?_)
    · skip
      refine ws_iload_n 27 C dX3_countSigns_27 rfl ?_
      exact ws_iret 28 C  dX3_countSigns_28 rfl (Nat.le_refl _) (Nat.le_refl _) (by rw [hP]; exact ⟨congrArg (fun z => some (Value.int z)) ((by rw [show k = mn μ from by omega])), rfl⟩)
    · skip
      refine ws_iload_n 12 C dX3_countSigns_12 rfl ?_
      refine ws_aload_n 13 C dX3_countSigns_13 rfl ?_
      refine ws_get 14 C dX3_countSigns_14 fX3_28 hB rfl rfl ?_
      refine ws_iload_n 17 C dX3_countSigns_17 rfl ?_
      refine ws_iald 18 C dX3_countSigns_18 hB 6 rfl (vp_in_nI (by omega) (by decide)) (nI (ml μ k)) ((congrArg f6 (nI_clamp (by omega))).trans (hR.len c9)) ?_
      refine ws_iadd 19 C dX3_countSigns_19 (nI (smN (ml μ) (k + 1))) (nI_add _ _) ?_
      refine ws_istore_n 20 C dX3_countSigns_20 rfl [some (.ref (ad κ b)), some (.int (nI (smN (ml μ) (k + 1)))), some (.int (nI k))] rfl ?_
      refine ws_iinc 21 C dX3_countSigns_21 rfl (nI (k + 1)) (nI_1 _) rfl [some (.ref (ad κ b)), some (.int (nI (smN (ml μ) (k + 1)))), some (.int (nI (k + 1)))] rfl ?_
      refine ws_goto 24 C 4 dX3_countSigns_24 (by decide) ?_
      exact ih4 c9
  exact L4 0 (Nat.zero_le _)

set_option maxRecDepth 100000 in
set_option maxHeartbeats 4000000 in
theorem c_X3_countOf {b : Nat} {f1 f2 f3 f4 f5 f6 : Nat → Int32} {μ : Mu} (hB : Ob z st0 b (bSh κ b f1 f2 f3 f4 f5 f6 (nI (mn μ)))) (hR : Rp μ f1 f2 f3 f4 f5 f6) {q : Nat} (hq : q < 8) : CT zl κ yX3_countOf cX3_countOf 5 (some .int) (r0 2 44) z [.ref (ad κ b), .int (nI q)] st0 (PRi (nI (cnT μ q (mn μ))) st0) := by
  obtain ⟨P, hP⟩ : ∃ P : Option Value → St → Prop, P = (PRi (nI (cnT μ q (mn μ))) st0) := ⟨_, rfl⟩
  rw [← hP]
  refine CT.of (by decide +kernel) (Nat.le_of_ble_eq_true rfl) (fun zp ze zs zm zar zbe zme zc C _ => ?_)
  have C : Cx zp zs zm zar zme zc κ cX3_countOf 5 RX3 (some .int) := C
  refine ws_lv (lv2 := [some (.ref (ad κ b)), some (.int (nI q)), none, none, none]) rfl ?_
  have h24 := hR.le
  refine ws_iconst 0 C dX3_countOf_0 (nI 0) (by decide) ?_
  refine ws_istore_n 1 C dX3_countOf_1 rfl [some (.ref (ad κ b)), some (.int (nI q)), some (.int (nI 0)), none, none] rfl ?_
  refine ws_iconst 2 C dX3_countOf_2 (nI 0) (by decide) ?_
  refine ws_istore_n 3 C dX3_countOf_3 rfl [some (.ref (ad κ b)), some (.int (nI q)), some (.int (nI 0)), some (.int (nI 0)), none] rfl ?_
  have L4 : ∀ k : Nat, k ≤ mn μ → WS zp zl ze (r0 2 44) zs zm zar zbe zme zc κ z 0 0 (QM zbe zar zs κ z (r0 2 44) P) st0 4 [some (.ref (ad κ b)), some (.int (nI q)), some (.int (nI (cnT μ q k))), some (.int (nI k)), none] [] := by
    refine dnw ?_
    intro k hk ih4 
    refine ws_iload_n 4 C dX3_countOf_4 rfl ?_
    refine ws_aload_n 5 C dX3_countOf_5 rfl ?_
    refine ws_get 6 C dX3_countOf_6 fX3_31 hB rfl rfl ?_
    refine ws_nicmp_ge 9 C 52 dX3_countOf_9 (by decide) (by omega) (by omega) (fun c9 => ?_) (fun c9 => ?_)
    · skip
      refine ws_iload_n 52 C dX3_countOf_52 rfl ?_
      exact ws_iret 53 C  dX3_countOf_53 rfl (Nat.le_refl _) (Nat.le_refl _) (by rw [hP]; exact ⟨congrArg (fun z => some (Value.int z)) ((by rw [show k = mn μ from by omega])), rfl⟩)
    · skip
      have h10 := (hR.ok.len c9).2
      refine ws_iconst 12 C dX3_countOf_12 (nI 0) (by decide) ?_
      refine ws_istore 13 C dX3_countOf_13 rfl [some (.ref (ad κ b)), some (.int (nI q)), some (.int (nI (cnT μ q k))), some (.int (nI k)), some (.int (nI 0))] rfl ?_
      have L15 : ∀ j : Nat, j ≤ ml μ k → WS zp zl ze (r0 2 44) zs zm zar zbe zme zc κ z 0 0 (QM zbe zar zs κ z (r0 2 44) P) st0 15 [some (.ref (ad κ b)), some (.int (nI q)), some (.int (nI (cnT μ q k + cnW μ q k j))), some (.int (nI k)), some (.int (nI j))] [] := by
        refine dnw ?_
        intro j hj ih15 
        refine ws_iload 15 C dX3_countOf_15 rfl ?_
        refine ws_aload_n 17 C dX3_countOf_17 rfl ?_
        refine ws_get 18 C dX3_countOf_18 fX3_28 hB rfl rfl ?_
        refine ws_iload_n 21 C dX3_countOf_21 rfl ?_
        refine ws_iald 22 C dX3_countOf_22 hB 6 rfl (vp_in_nI (by omega) (by decide)) (nI (ml μ k)) ((congrArg f6 (nI_clamp (by omega))).trans (hR.len c9)) ?_
        refine ws_nicmp_ge 23 C 46 dX3_countOf_23 (by decide) (by omega) (by omega) (fun c23 => ?_) (fun c23 => ?_)
        · skip
          refine ws_wk (lv2 := [some (.ref (ad κ b)), some (.int (nI q)), some (.int (nI (cnT μ q (k + 1)))), some (.int (nI k)), some (.int (nI j))]) ⟨rfl, rfl, congrArg (fun x => Value.int (nI x)) ((cnT_s μ q k).trans (by rw [show j = ml μ k from by omega])), rfl, rfl, trivial⟩ ?_
          refine ws_iinc 46 C dX3_countOf_46 rfl (nI (k + 1)) (nI_1 _) rfl [some (.ref (ad κ b)), some (.int (nI q)), some (.int (nI (cnT μ q (k + 1)))), some (.int (nI (k + 1))), some (.int (nI j))] rfl ?_
          refine ws_goto 49 C 4 dX3_countOf_49 (by decide) ?_
          refine ws_wk (lv2 := [some (.ref (ad κ b)), some (.int (nI q)), some (.int (nI (cnT μ q (k + 1)))), some (.int (nI (k + 1))), none]) ⟨rfl, rfl, rfl, rfl, trivial⟩ ?_
          exact ih4 c9
        · skip
          refine ws_aload_n 26 C dX3_countOf_26 rfl ?_
          refine ws_iload_n 27 C dX3_countOf_27 rfl ?_
          refine ws_iload 28 C dX3_countOf_28 rfl ?_
          have h8 := hR.ok.so c9 c23
          refine ws_callV0 30 C dX3_countOf_30 vX3_55 (c_X3_sortAt hB hR c9 c23) rfl hB rfl rfl ⟨by decide, by decide⟩ ⟨Nat.zero_le _, Nat.zero_le _⟩ rfl rfl rfl (kR ?_)
          refine ws_iload_n 33 C dX3_countOf_33 rfl ?_
          refine ws_nicmp_ne 34 C 40 dX3_countOf_34 (by decide) (by omega) (by omega) (fun c34 => ?_) (fun c34 => ?_)
          · skip
            refine ws_wk (lv2 := [some (.ref (ad κ b)), some (.int (nI q)), some (.int (nI (cnT μ q k + cnW μ q k (j + 1)))), some (.int (nI k)), some (.int (nI j))]) ⟨rfl, rfl, congrArg (fun x => Value.int (nI (cnT μ q k + x))) (cnW_0 c34), rfl, rfl, trivial⟩ ?_
            refine ws_iinc 40 C dX3_countOf_40 rfl (nI (j + 1)) (nI_1 _) rfl [some (.ref (ad κ b)), some (.int (nI q)), some (.int (nI (cnT μ q k + cnW μ q k (j + 1)))), some (.int (nI k)), some (.int (nI (j + 1)))] rfl ?_
            refine ws_goto 43 C 15 dX3_countOf_43 (by decide) ?_
            exact ih15 c23
          · skip
            refine ws_iinc 37 C dX3_countOf_37 rfl (nI (cnT μ q k + cnW μ q k (j + 1))) ((nI_1 _).trans (congrArg nI (by rw [cnW_1 c34]; omega))) rfl [some (.ref (ad κ b)), some (.int (nI q)), some (.int (nI (cnT μ q k + cnW μ q k (j + 1)))), some (.int (nI k)), some (.int (nI j))] rfl ?_
            refine ws_iinc 40 C dX3_countOf_40 rfl (nI (j + 1)) (nI_1 _) rfl [some (.ref (ad κ b)), some (.int (nI q)), some (.int (nI (cnT μ q k + cnW μ q k (j + 1)))), some (.int (nI k)), some (.int (nI (j + 1)))] rfl ?_
            refine ws_goto 43 C 15 dX3_countOf_43 (by decide) ?_
            exact ih15 c23
      exact L15 0 (Nat.zero_le _)
  exact L4 0 (Nat.zero_le _)

set_option maxRecDepth 100000 in
set_option maxHeartbeats 4000000 in
theorem c_X3_hangAtLeft {b : Nat} {f1 f2 f3 f4 f5 f6 : Nat → Int32} {μ : Mu} (hB : Ob z st0 b (bSh κ b f1 f2 f3 f4 f5 f6 (nI (mn μ)))) (hR : Rp μ f1 f2 f3 f4 f5 f6) {q : Nat} (hq : q < 8) : CT zl κ yX3_hangAtLeft cX3_hangAtLeft 2 (some .int) (r0 0 0) z [.ref (ad κ b), .int (nI q)] st0 (PRi (hg μ 2 q) st0) := by
  obtain ⟨P, hP⟩ : ∃ P : Option Value → St → Prop, P = (PRi (hg μ 2 q) st0) := ⟨_, rfl⟩
  rw [← hP]
  refine CT.of (by decide +kernel) (Nat.le_of_ble_eq_true rfl) (fun zp ze zs zm zar zbe zme zc C _ => ?_)
  have C : Cx zp zs zm zar zme zc κ cX3_hangAtLeft 2 RX3 (some .int) := C
  refine ws_lv (lv2 := [some (.ref (ad κ b)), some (.int (nI q))]) rfl ?_
  refine ws_aload_n 0 C dX3_hangAtLeft_0 rfl ?_
  refine ws_get 1 C dX3_hangAtLeft_1 fX3_9 hB rfl rfl ?_
  refine ws_iconst 4 C dX3_hangAtLeft_4 (nI 3) (by decide) ?_
  refine ws_iald 5 C dX3_hangAtLeft_5 hB 1 rfl (vp_in_nI (by omega) (by decide)) (mv μ 0 3) ((congrArg f1 (nI_clamp (by omega))).trans (hR.set (by omega))) ?_
  refine ws_if_ne 6 C 13 dX3_hangAtLeft_6 (by decide)  (fun c6 => ?_) (fun c6 => ?_)
  · skip
    refine ws_aload_n 13 C dX3_hangAtLeft_13 rfl ?_
    refine ws_get 14 C dX3_hangAtLeft_14 fX3_15 hB rfl rfl ?_
    refine ws_iload_n 17 C dX3_hangAtLeft_17 rfl ?_
    refine ws_iald 18 C dX3_hangAtLeft_18 hB 2 rfl (vp_in_nI (by omega) (by decide)) (mv μ 1 q) ((congrArg f2 (nI_clamp (by omega))).trans (hR.wid hq)) ?_
    refine ws_aload_n 19 C dX3_hangAtLeft_19 rfl ?_
    refine ws_get 20 C dX3_hangAtLeft_20 fX3_18 hB rfl rfl ?_
    refine ws_iload_n 23 C dX3_hangAtLeft_23 rfl ?_
    refine ws_iald 24 C dX3_hangAtLeft_24 hB 3 rfl (vp_in_nI (by omega) (by decide)) (mv μ 2 q) ((congrArg f3 (nI_clamp (by omega))).trans (hR.lef hq)) ?_
    refine ws_imul 25 C dX3_hangAtLeft_25 ((mv μ 1 q) * (mv μ 2 q)) rfl ?_
    refine ws_bipush 26 C dX3_hangAtLeft_26 (nI 100) (by decide) ?_
    refine ws_idiv 28 C dX3_hangAtLeft_28 (by decide) (((mv μ 1 q) * (mv μ 2 q)) / (nI 100)) rfl ?_
    exact ws_iret 29 C  dX3_hangAtLeft_29 rfl (Nat.le_refl _) (Nat.le_refl _) (by rw [hP]; exact ⟨congrArg (fun z => some (Value.int z)) ((if_neg c6).symm), rfl⟩)
  · skip
    refine ws_wk (lv2 := [some (.ref (ad κ b)), some (.int (nI q))]) ⟨rfl, rfl, trivial⟩ ?_
    refine ws_iconst 9 C dX3_hangAtLeft_9 (nI 0) (by decide) ?_
    refine ws_goto 10 C 29 dX3_hangAtLeft_10 (by decide) ?_
    exact ws_iret 29 C dX3_hangAtLeft_29 rfl (Nat.le_refl _) (Nat.le_refl _) (by rw [hP]; exact ⟨congrArg (fun z => some (Value.int z)) (if_pos c6).symm, rfl⟩)

set_option maxRecDepth 100000 in
set_option maxHeartbeats 4000000 in
theorem c_X3_hangAtRight {b : Nat} {f1 f2 f3 f4 f5 f6 : Nat → Int32} {μ : Mu} (hB : Ob z st0 b (bSh κ b f1 f2 f3 f4 f5 f6 (nI (mn μ)))) (hR : Rp μ f1 f2 f3 f4 f5 f6) {q : Nat} (hq : q < 8) : CT zl κ yX3_hangAtRight cX3_hangAtRight 2 (some .int) (r0 0 0) z [.ref (ad κ b), .int (nI q)] st0 (PRi (hg μ 3 q) st0) := by
  obtain ⟨P, hP⟩ : ∃ P : Option Value → St → Prop, P = (PRi (hg μ 3 q) st0) := ⟨_, rfl⟩
  rw [← hP]
  refine CT.of (by decide +kernel) (Nat.le_of_ble_eq_true rfl) (fun zp ze zs zm zar zbe zme zc C _ => ?_)
  have C : Cx zp zs zm zar zme zc κ cX3_hangAtRight 2 RX3 (some .int) := C
  refine ws_lv (lv2 := [some (.ref (ad κ b)), some (.int (nI q))]) rfl ?_
  refine ws_aload_n 0 C dX3_hangAtRight_0 rfl ?_
  refine ws_get 1 C dX3_hangAtRight_1 fX3_9 hB rfl rfl ?_
  refine ws_iconst 4 C dX3_hangAtRight_4 (nI 3) (by decide) ?_
  refine ws_iald 5 C dX3_hangAtRight_5 hB 1 rfl (vp_in_nI (by omega) (by decide)) (mv μ 0 3) ((congrArg f1 (nI_clamp (by omega))).trans (hR.set (by omega))) ?_
  refine ws_if_ne 6 C 13 dX3_hangAtRight_6 (by decide)  (fun c6 => ?_) (fun c6 => ?_)
  · skip
    refine ws_aload_n 13 C dX3_hangAtRight_13 rfl ?_
    refine ws_get 14 C dX3_hangAtRight_14 fX3_15 hB rfl rfl ?_
    refine ws_iload_n 17 C dX3_hangAtRight_17 rfl ?_
    refine ws_iald 18 C dX3_hangAtRight_18 hB 2 rfl (vp_in_nI (by omega) (by decide)) (mv μ 1 q) ((congrArg f2 (nI_clamp (by omega))).trans (hR.wid hq)) ?_
    refine ws_aload_n 19 C dX3_hangAtRight_19 rfl ?_
    refine ws_get 20 C dX3_hangAtRight_20 fX3_21 hB rfl rfl ?_
    refine ws_iload_n 23 C dX3_hangAtRight_23 rfl ?_
    refine ws_iald 24 C dX3_hangAtRight_24 hB 4 rfl (vp_in_nI (by omega) (by decide)) (mv μ 3 q) ((congrArg f4 (nI_clamp (by omega))).trans (hR.rig hq)) ?_
    refine ws_imul 25 C dX3_hangAtRight_25 ((mv μ 1 q) * (mv μ 3 q)) rfl ?_
    refine ws_bipush 26 C dX3_hangAtRight_26 (nI 100) (by decide) ?_
    refine ws_idiv 28 C dX3_hangAtRight_28 (by decide) (((mv μ 1 q) * (mv μ 3 q)) / (nI 100)) rfl ?_
    exact ws_iret 29 C  dX3_hangAtRight_29 rfl (Nat.le_refl _) (Nat.le_refl _) (by rw [hP]; exact ⟨congrArg (fun z => some (Value.int z)) ((if_neg c6).symm), rfl⟩)
  · skip
    refine ws_wk (lv2 := [some (.ref (ad κ b)), some (.int (nI q))]) ⟨rfl, rfl, trivial⟩ ?_
    refine ws_iconst 9 C dX3_hangAtRight_9 (nI 0) (by decide) ?_
    refine ws_goto 10 C 29 dX3_hangAtRight_10 (by decide) ?_
    exact ws_iret 29 C dX3_hangAtRight_29 rfl (Nat.le_refl _) (Nat.le_refl _) (by rw [hP]; exact ⟨congrArg (fun z => some (Value.int z)) (if_pos c6).symm, rfl⟩)

set_option maxRecDepth 100000 in
set_option maxHeartbeats 4000000 in
theorem c_X3_leftHangOf {b : Nat} {f1 f2 f3 f4 f5 f6 : Nat → Int32} {μ : Mu} (hB : Ob z st0 b (bSh κ b f1 f2 f3 f4 f5 f6 (nI (mn μ)))) (hR : Rp μ f1 f2 f3 f4 f5 f6) {i : Nat} (hi : i < mn μ) : CT zl κ yX3_leftHangOf cX3_leftHangOf 2 (some .int) (r0 2 44) z [.ref (ad κ b), .int (nI i)] st0 (PRi (lh μ i) st0) := by
  obtain ⟨P, hP⟩ : ∃ P : Option Value → St → Prop, P = (PRi (lh μ i) st0) := ⟨_, rfl⟩
  rw [← hP]
  refine CT.of (by decide +kernel) (Nat.le_of_ble_eq_true rfl) (fun zp ze zs zm zar zbe zme zc C _ => ?_)
  have C : Cx zp zs zm zar zme zc κ cX3_leftHangOf 2 RX3 (some .int) := C
  refine ws_lv (lv2 := [some (.ref (ad κ b)), some (.int (nI i))]) rfl ?_
  have h1 := (hR.ok.len hi).1
  refine ws_aload_n 0 C dX3_leftHangOf_0 rfl ?_
  refine ws_aload_n 1 C dX3_leftHangOf_1 rfl ?_
  refine ws_iload_n 2 C dX3_leftHangOf_2 rfl ?_
  refine ws_iconst 3 C dX3_leftHangOf_3 (nI 0) (by decide) ?_
  have h8 := hR.ok.so hi h1
  refine ws_callV0 4 C dX3_leftHangOf_4 vX3_55 (c_X3_sortAt hB hR hi h1) rfl hB rfl rfl ⟨by decide, by decide⟩ ⟨Nat.zero_le _, Nat.zero_le _⟩ rfl rfl rfl (kR ?_)
  refine ws_callV0 7 C dX3_leftHangOf_7 vX3_58 (c_X3_hangAtLeft hB hR h8) rfl hB rfl rfl ⟨by decide, by decide⟩ ⟨Nat.zero_le _, Nat.zero_le _⟩ rfl rfl rfl (kR ?_)
  exact ws_iret 10 C  dX3_leftHangOf_10 rfl (Nat.le_refl _) (Nat.le_refl _) (by rw [hP]; exact ⟨rfl, rfl⟩)

set_option maxRecDepth 100000 in
set_option maxHeartbeats 4000000 in
theorem c_X3_rightHangOf {b : Nat} {f1 f2 f3 f4 f5 f6 : Nat → Int32} {μ : Mu} (hB : Ob z st0 b (bSh κ b f1 f2 f3 f4 f5 f6 (nI (mn μ)))) (hR : Rp μ f1 f2 f3 f4 f5 f6) {i : Nat} (hi : i < mn μ) : CT zl κ yX3_rightHangOf cX3_rightHangOf 2 (some .int) (r0 2 44) z [.ref (ad κ b), .int (nI i)] st0 (PRi (rh μ i) st0) := by
  obtain ⟨P, hP⟩ : ∃ P : Option Value → St → Prop, P = (PRi (rh μ i) st0) := ⟨_, rfl⟩
  rw [← hP]
  refine CT.of (by decide +kernel) (Nat.le_of_ble_eq_true rfl) (fun zp ze zs zm zar zbe zme zc C _ => ?_)
  have C : Cx zp zs zm zar zme zc κ cX3_rightHangOf 2 RX3 (some .int) := C
  refine ws_lv (lv2 := [some (.ref (ad κ b)), some (.int (nI i))]) rfl ?_
  have h24 := hR.le
  have h1 := (hR.ok.len hi).1
  have h10 := (hR.ok.len hi).2
  refine ws_aload_n 0 C dX3_rightHangOf_0 rfl ?_
  refine ws_aload_n 1 C dX3_rightHangOf_1 rfl ?_
  refine ws_iload_n 2 C dX3_rightHangOf_2 rfl ?_
  refine ws_aload_n 3 C dX3_rightHangOf_3 rfl ?_
  refine ws_get 4 C dX3_rightHangOf_4 fX3_28 hB rfl rfl ?_
  refine ws_iload_n 7 C dX3_rightHangOf_7 rfl ?_
  refine ws_iald 8 C dX3_rightHangOf_8 hB 6 rfl (vp_in_nI (by omega) (by decide)) (nI (ml μ i)) ((congrArg f6 (nI_clamp (by omega))).trans (hR.len hi)) ?_
  refine ws_iconst 9 C dX3_rightHangOf_9 (nI 1) (by decide) ?_
  refine ws_isub 10 C dX3_rightHangOf_10 (nI (ml μ i - 1)) (pk_sub h1) ?_
  refine ws_iconst 11 C dX3_rightHangOf_11 (nI 0) (by decide) ?_
  refine ws_mmax 12 C dX3_rightHangOf_12 k150 k151 k11 k152 rfl (by decide) (Nat.le_of_ble_eq_true rfl) (Nat.zero_le _) (Nat.zero_le _) (nI (ml μ i - 1)) (max0 (a := ml μ i - 1) (by omega)) ?_
  have h8 := hR.ok.so hi (show ml μ i - 1 < ml μ i from by omega)
  refine ws_callV0 15 C dX3_rightHangOf_15 vX3_55 (c_X3_sortAt (j := ml μ i - 1) hB hR hi (by omega)) rfl hB rfl rfl ⟨by decide, by decide⟩ ⟨Nat.zero_le _, Nat.zero_le _⟩ rfl rfl rfl (kR ?_)
  refine ws_callV0 18 C dX3_rightHangOf_18 vX3_61 (c_X3_hangAtRight hB hR h8) rfl hB rfl rfl ⟨by decide, by decide⟩ ⟨Nat.zero_le _, Nat.zero_le _⟩ rfl rfl rfl (kR ?_)
  exact ws_iret 21 C  dX3_rightHangOf_21 rfl (Nat.le_refl _) (Nat.le_refl _) (by rw [hP]; exact ⟨rfl, rfl⟩)

set_option maxRecDepth 100000 in
set_option maxHeartbeats 4000000 in
theorem c_X3_copyFrom {b b2 : Nat} {f1 f2 f3 f4 f5 f6 : Nat → Int32} {μ ν : Mu} (hT : ShP κ z st0 b ν) (hB2 : Ob z st0 b2 (bSh κ b2 f1 f2 f3 f4 f5 f6 (nI (mn μ)))) (hR : Rp μ f1 f2 f3 f4 f5 f6) (hd : b + 7 ≤ b2 ∨ b2 + 7 ≤ b) : CT zl κ yX3_copyFrom cX3_copyFrom 2 none (r0 1 18) z [.ref (ad κ b), .ref (ad κ b2)] st0 (PV (fun u => ShP κ z u b μ ∧ Fr (fun q : Nat => b ≤ q ∧ q < b + 7) st0 u)) := by
  obtain ⟨P, hP⟩ : ∃ P : Option Value → St → Prop, P = (PV (fun u => ShP κ z u b μ ∧ Fr (fun q : Nat => b ≤ q ∧ q < b + 7) st0 u)) := ⟨_, rfl⟩
  rw [← hP]
  refine CT.of (by decide +kernel) (Nat.le_of_ble_eq_true rfl) (fun zp ze zs zm zar zbe zme zc C _ => ?_)
  have C : Cx zp zs zm zar zme zc κ cX3_copyFrom 2 RX3 none := C
  refine ws_lv (lv2 := [some (.ref (ad κ b)), some (.ref (ad κ b2))]) rfl ?_
  have h24 := hR.le
  obtain ⟨g1, g2, g3, g4, g5, g6, hB, hRT⟩ := hT
  have hF : Fr (fun q : Nat => b ≤ q ∧ q < b + 7) st0 st0 := Fr.rf
  refine ws_aload_n 0 C dX3_copyFrom_0 rfl ?_
  refine ws_get 1 C dX3_copyFrom_1 fX3_9 hB2 rfl rfl ?_
  refine ws_iconst 4 C dX3_copyFrom_4 (nI 0) (by decide) ?_
  refine ws_aload_n 5 C dX3_copyFrom_5 rfl ?_
  refine ws_get 6 C dX3_copyFrom_6 fX3_9 hB rfl rfl ?_
  refine ws_iconst 9 C dX3_copyFrom_9 (nI 0) (by decide) ?_
  refine ws_iconst 10 C dX3_copyFrom_10 (nI 4) (by decide) ?_
  refine ws_copyI 11 C dX3_copyFrom_11 k110 k112 k111 k12 rfl hB2 1 rfl hB 1 rfl 0 0 4 (by omega) (by omega) (by decide) (by decide) (by decide) (by decide) (fun st1 est1 => ?_)
  have hB : Ob z st1 b (bSh κ b (va_cpy f1 g1 0 0 4) g2 g3 g4 g5 g6 (nI (mn ν))) := Ob.put' (j := 1) hB est1 rfl
  have hB2 := hB2.ne' (L := 7) est1 rfl (by omega)
  have hF := hF.put' est1 (show b ≤ (b + 1) ∧ (b + 1) < b + 7 from by omega)
  refine ws_aload_n 14 C dX3_copyFrom_14 rfl ?_
  refine ws_get 15 C dX3_copyFrom_15 fX3_15 hB2 rfl rfl ?_
  refine ws_iconst 18 C dX3_copyFrom_18 (nI 0) (by decide) ?_
  refine ws_aload_n 19 C dX3_copyFrom_19 rfl ?_
  refine ws_get 20 C dX3_copyFrom_20 fX3_15 hB rfl rfl ?_
  refine ws_iconst 23 C dX3_copyFrom_23 (nI 0) (by decide) ?_
  refine ws_bipush 24 C dX3_copyFrom_24 (nI 8) (by decide) ?_
  refine ws_copyI 26 C dX3_copyFrom_26 k110 k112 k111 k12 rfl hB2 2 rfl hB 2 rfl 0 0 8 (by omega) (by omega) (by decide) (by decide) (by decide) (by decide) (fun st2 est2 => ?_)
  have hB : Ob z st2 b (bSh κ b (va_cpy f1 g1 0 0 4) (va_cpy f2 g2 0 0 8) g3 g4 g5 g6 (nI (mn ν))) := Ob.put' (j := 2) hB est2 rfl
  have hB2 := hB2.ne' (L := 7) est2 rfl (by omega)
  have hF := hF.put' est2 (show b ≤ (b + 2) ∧ (b + 2) < b + 7 from by omega)
  refine ws_aload_n 29 C dX3_copyFrom_29 rfl ?_
  refine ws_get 30 C dX3_copyFrom_30 fX3_18 hB2 rfl rfl ?_
  refine ws_iconst 33 C dX3_copyFrom_33 (nI 0) (by decide) ?_
  refine ws_aload_n 34 C dX3_copyFrom_34 rfl ?_
  refine ws_get 35 C dX3_copyFrom_35 fX3_18 hB rfl rfl ?_
  refine ws_iconst 38 C dX3_copyFrom_38 (nI 0) (by decide) ?_
  refine ws_bipush 39 C dX3_copyFrom_39 (nI 8) (by decide) ?_
  refine ws_copyI 41 C dX3_copyFrom_41 k110 k112 k111 k12 rfl hB2 3 rfl hB 3 rfl 0 0 8 (by omega) (by omega) (by decide) (by decide) (by decide) (by decide) (fun st3 est3 => ?_)
  have hB : Ob z st3 b (bSh κ b (va_cpy f1 g1 0 0 4) (va_cpy f2 g2 0 0 8) (va_cpy f3 g3 0 0 8) g4 g5 g6 (nI (mn ν))) := Ob.put' (j := 3) hB est3 rfl
  have hB2 := hB2.ne' (L := 7) est3 rfl (by omega)
  have hF := hF.put' est3 (show b ≤ (b + 3) ∧ (b + 3) < b + 7 from by omega)
  refine ws_aload_n 44 C dX3_copyFrom_44 rfl ?_
  refine ws_get 45 C dX3_copyFrom_45 fX3_21 hB2 rfl rfl ?_
  refine ws_iconst 48 C dX3_copyFrom_48 (nI 0) (by decide) ?_
  refine ws_aload_n 49 C dX3_copyFrom_49 rfl ?_
  refine ws_get 50 C dX3_copyFrom_50 fX3_21 hB rfl rfl ?_
  refine ws_iconst 53 C dX3_copyFrom_53 (nI 0) (by decide) ?_
  refine ws_bipush 54 C dX3_copyFrom_54 (nI 8) (by decide) ?_
  refine ws_copyI 56 C dX3_copyFrom_56 k110 k112 k111 k12 rfl hB2 4 rfl hB 4 rfl 0 0 8 (by omega) (by omega) (by decide) (by decide) (by decide) (by decide) (fun st4 est4 => ?_)
  have hB : Ob z st4 b (bSh κ b (va_cpy f1 g1 0 0 4) (va_cpy f2 g2 0 0 8) (va_cpy f3 g3 0 0 8) (va_cpy f4 g4 0 0 8) g5 g6 (nI (mn ν))) := Ob.put' (j := 4) hB est4 rfl
  have hB2 := hB2.ne' (L := 7) est4 rfl (by omega)
  have hF := hF.put' est4 (show b ≤ (b + 4) ∧ (b + 4) < b + 7 from by omega)
  refine ws_aload_n 59 C dX3_copyFrom_59 rfl ?_
  refine ws_get 60 C dX3_copyFrom_60 fX3_24 hB2 rfl rfl ?_
  refine ws_iconst 63 C dX3_copyFrom_63 (nI 0) (by decide) ?_
  refine ws_aload_n 64 C dX3_copyFrom_64 rfl ?_
  refine ws_get 65 C dX3_copyFrom_65 fX3_24 hB rfl rfl ?_
  refine ws_iconst 68 C dX3_copyFrom_68 (nI 0) (by decide) ?_
  refine ws_aload_n 69 C dX3_copyFrom_69 rfl ?_
  refine ws_get 70 C dX3_copyFrom_70 fX3_31 hB2 rfl rfl ?_
  refine ws_bipush 73 C dX3_copyFrom_73 (nI 10) (by decide) ?_
  refine ws_imul 75 C dX3_copyFrom_75 (nI ((mn μ) * 10)) (pk_mul _ _) ?_
  refine ws_copyC 76 C dX3_copyFrom_76 k110 k112 k111 k12 rfl hB2 5 rfl hB 5 rfl 0 0 ((mn μ) * 10) (by omega) (by omega) (by decide) (by decide) (fun q _ => hR.fit _) (by decide) (by decide) (fun st5 est5 => ?_)
  have hB : Ob z st5 b (bSh κ b (va_cpy f1 g1 0 0 4) (va_cpy f2 g2 0 0 8) (va_cpy f3 g3 0 0 8) (va_cpy f4 g4 0 0 8) (va_cpy f5 g5 0 0 ((mn μ) * 10)) g6 (nI (mn ν))) := Ob.put' (j := 5) hB est5 rfl
  have hB2 := hB2.ne' (L := 7) est5 rfl (by omega)
  have hF := hF.put' est5 (show b ≤ (b + 5) ∧ (b + 5) < b + 7 from by omega)
  refine ws_aload_n 79 C dX3_copyFrom_79 rfl ?_
  refine ws_get 80 C dX3_copyFrom_80 fX3_28 hB2 rfl rfl ?_
  refine ws_iconst 83 C dX3_copyFrom_83 (nI 0) (by decide) ?_
  refine ws_aload_n 84 C dX3_copyFrom_84 rfl ?_
  refine ws_get 85 C dX3_copyFrom_85 fX3_28 hB rfl rfl ?_
  refine ws_iconst 88 C dX3_copyFrom_88 (nI 0) (by decide) ?_
  refine ws_aload_n 89 C dX3_copyFrom_89 rfl ?_
  refine ws_get 90 C dX3_copyFrom_90 fX3_31 hB2 rfl rfl ?_
  refine ws_copyI 93 C dX3_copyFrom_93 k110 k112 k111 k12 rfl hB2 6 rfl hB 6 rfl 0 0 (mn μ) (by omega) (by omega) (by decide) (by decide) (by decide) (by decide) (fun st6 est6 => ?_)
  have hB : Ob z st6 b (bSh κ b (va_cpy f1 g1 0 0 4) (va_cpy f2 g2 0 0 8) (va_cpy f3 g3 0 0 8) (va_cpy f4 g4 0 0 8) (va_cpy f5 g5 0 0 ((mn μ) * 10)) (va_cpy f6 g6 0 0 (mn μ)) (nI (mn ν))) := Ob.put' (j := 6) hB est6 rfl
  have hB2 := hB2.ne' (L := 7) est6 rfl (by omega)
  have hF := hF.put' est6 (show b ≤ (b + 6) ∧ (b + 6) < b + 7 from by omega)
  refine ws_aload_n 96 C dX3_copyFrom_96 rfl ?_
  refine ws_aload_n 97 C dX3_copyFrom_97 rfl ?_
  refine ws_get 98 C dX3_copyFrom_98 fX3_31 hB2 rfl rfl ?_
  refine ws_put 101 C dX3_copyFrom_101 fX3_31 q3_6 hB rfl (Nat.le_of_ble_eq_true rfl) rfl rfl (fun st7 est7 => ?_)
  have hB : Ob z st7 b (bSh κ b (va_cpy f1 g1 0 0 4) (va_cpy f2 g2 0 0 8) (va_cpy f3 g3 0 0 8) (va_cpy f4 g4 0 0 8) (va_cpy f5 g5 0 0 ((mn μ) * 10)) (va_cpy f6 g6 0 0 (mn μ)) (nI (mn μ))) := Ob.put' (j := 0) hB est7 rfl
  have hB2 := hB2.ne' (L := 7) est7 rfl (by omega)
  have hF := hF.put' est7 (show b ≤ (b) ∧ (b) < b + 7 from by omega)
  exact ws_vret 104 C dX3_copyFrom_104 rfl (Nat.le_refl _) (Nat.le_refl _) (by rw [hP]; exact ⟨rfl, ⟨⟨_, _, _, _, _, _, hB, Rp_copy hR hRT.fit⟩, hF⟩⟩)

set_option maxRecDepth 100000 in
set_option maxHeartbeats 4000000 in
theorem c_X3_beginWord {b n : Nat} {f1 f2 f3 f4 f5 f6 : Nat → Int32} (hB : Ob z st0 b (bSh κ b f1 f2 f3 f4 f5 f6 (nI n))) (hn : n < 24) : CT zl κ yX3_beginWord cX3_beginWord 1 none (r0 0 0) z [.ref (ad κ b)] st0 (PV (fun u => Ob z u b (bSh κ b f1 f2 f3 f4 f5 (upd f6 n (nI 0)) (nI (n + 1))) ∧ Fr (fun q : Nat => b ≤ q ∧ q < b + 7) st0 u)) := by
  obtain ⟨P, hP⟩ : ∃ P : Option Value → St → Prop, P = (PV (fun u => Ob z u b (bSh κ b f1 f2 f3 f4 f5 (upd f6 n (nI 0)) (nI (n + 1))) ∧ Fr (fun q : Nat => b ≤ q ∧ q < b + 7) st0 u)) := ⟨_, rfl⟩
  rw [← hP]
  refine CT.of (by decide +kernel) (Nat.le_of_ble_eq_true rfl) (fun zp ze zs zm zar zbe zme zc C _ => ?_)
  have C : Cx zp zs zm zar zme zc κ cX3_beginWord 1 RX3 none := C
  refine ws_lv (lv2 := [some (.ref (ad κ b))]) rfl ?_
  have hF : Fr (fun q : Nat => b ≤ q ∧ q < b + 7) st0 st0 := Fr.rf
  refine ws_aload_n 0 C dX3_beginWord_0 rfl ?_
  refine ws_get 1 C dX3_beginWord_1 fX3_31 hB rfl rfl ?_
  refine ws_bipush 4 C dX3_beginWord_4 (nI 24) (by decide) ?_
  refine ws_nicmp_lt 6 C 10 dX3_beginWord_6 (by decide) (by omega) (by omega) (fun c6 => ?_) (fun c6 => ?_)
  · skip
    refine ws_aload_n 10 C dX3_beginWord_10 rfl ?_
    refine ws_get 11 C dX3_beginWord_11 fX3_28 hB rfl rfl ?_
    refine ws_aload_n 14 C dX3_beginWord_14 rfl ?_
    refine ws_get 15 C dX3_beginWord_15 fX3_31 hB rfl rfl ?_
    refine ws_iconst 18 C dX3_beginWord_18 (nI 0) (by decide) ?_
    refine ws_iast 19 C dX3_beginWord_19 hB 6 rfl (vp_in_nI (by omega) (by decide)) n (nI_clamp (by omega)) (nI 0) rfl (fun st1 est1 => ?_)
    have hB : Ob z st1 b (bSh κ b f1 f2 f3 f4 f5 (upd f6 n (nI 0)) (nI n)) := Ob.put' (j := 6) hB est1 rfl
    have hF := hF.put' est1 (show b ≤ (b + 6) ∧ (b + 6) < b + 7 from by omega)
    refine ws_aload_n 20 C dX3_beginWord_20 rfl ?_
    refine ws_dup 21 C dX3_beginWord_21 rfl ?_
    refine ws_get 22 C dX3_beginWord_22 fX3_31 hB rfl rfl ?_
    refine ws_iconst 25 C dX3_beginWord_25 (nI 1) (by decide) ?_
    refine ws_iadd 26 C dX3_beginWord_26 (nI (n + 1)) (nI_add _ _) ?_
    refine ws_put 27 C dX3_beginWord_27 fX3_31 q3_6 hB rfl (Nat.le_of_ble_eq_true rfl) rfl rfl (fun st2 est2 => ?_)
    have hB : Ob z st2 b (bSh κ b f1 f2 f3 f4 f5 (upd f6 n (nI 0)) (nI (n + 1))) := Ob.put' (j := 0) hB est2 rfl
    have hF := hF.put' est2 (show b ≤ (b) ∧ (b) < b + 7 from by omega)
    exact ws_vret 30 C dX3_beginWord_30 rfl (Nat.le_refl _) (Nat.le_refl _) (by rw [hP]; exact ⟨rfl, ⟨hB, hF⟩⟩)
  · skip
    (exfalso; omega)

set_option maxRecDepth 100000 in
set_option maxHeartbeats 4000000 in
theorem c_X3_addSign {b n L : Nat} {x : Int32} {f1 f2 f3 f4 f5 f6 : Nat → Int32} (hB : Ob z st0 b (bSh κ b f1 f2 f3 f4 f5 f6 (nI n))) (hn : n ≤ 24) (hn1 : 1 ≤ n) (hl : f6 (n - 1) = nI L) (hL : L < 10) (hx : fits .char (.int x) = true) : CT zl κ yX3_addSign cX3_addSign 3 none (r0 0 0) z [.ref (ad κ b), .int (x)] st0 (PV (fun u => Ob z u b (bSh κ b f1 f2 f3 f4 (upd f5 ((n - 1) * 10 + L) x) (upd f6 (n - 1) (nI (L + 1))) (nI n)) ∧ Fr (fun q : Nat => b ≤ q ∧ q < b + 7) st0 u)) := by
  obtain ⟨P, hP⟩ : ∃ P : Option Value → St → Prop, P = (PV (fun u => Ob z u b (bSh κ b f1 f2 f3 f4 (upd f5 ((n - 1) * 10 + L) x) (upd f6 (n - 1) (nI (L + 1))) (nI n)) ∧ Fr (fun q : Nat => b ≤ q ∧ q < b + 7) st0 u)) := ⟨_, rfl⟩
  rw [← hP]
  refine CT.of (by decide +kernel) (Nat.le_of_ble_eq_true rfl) (fun zp ze zs zm zar zbe zme zc C _ => ?_)
  have C : Cx zp zs zm zar zme zc κ cX3_addSign 3 RX3 none := C
  refine ws_lv (lv2 := [some (.ref (ad κ b)), some (.int (x)), none]) rfl ?_
  have hF : Fr (fun q : Nat => b ≤ q ∧ q < b + 7) st0 st0 := Fr.rf
  refine ws_aload_n 0 C dX3_addSign_0 rfl ?_
  refine ws_get 1 C dX3_addSign_1 fX3_31 hB rfl rfl ?_
  refine ws_iconst 4 C dX3_addSign_4 (nI 1) (by decide) ?_
  refine ws_isub 5 C dX3_addSign_5 (nI (n - 1)) (pk_sub hn1) ?_
  refine ws_istore_n 6 C dX3_addSign_6 rfl [some (.ref (ad κ b)), some (.int (x)), some (.int (nI (n - 1)))] rfl ?_
  refine ws_iload_n 7 C dX3_addSign_7 rfl ?_
  refine ws_nif_lt 8 C 22 dX3_addSign_8 (by decide) (by omega) ?_
  refine ws_aload_n 11 C dX3_addSign_11 rfl ?_
  refine ws_get 12 C dX3_addSign_12 fX3_28 hB rfl rfl ?_
  refine ws_iload_n 15 C dX3_addSign_15 rfl ?_
  refine ws_iald 16 C dX3_addSign_16 hB 6 rfl (vp_in_nI (by omega) (by decide)) (nI L) ((congrArg f6 (nI_clamp (by omega))).trans (hl)) ?_
  refine ws_bipush 17 C dX3_addSign_17 (nI 10) (by decide) ?_
  refine ws_nicmp_lt 19 C 23 dX3_addSign_19 (by decide) (by omega) (by omega) (fun c19 => ?_) (fun c19 => ?_)
  · skip
    refine ws_aload_n 23 C dX3_addSign_23 rfl ?_
    refine ws_get 24 C dX3_addSign_24 fX3_24 hB rfl rfl ?_
    refine ws_iload_n 27 C dX3_addSign_27 rfl ?_
    refine ws_bipush 28 C dX3_addSign_28 (nI 10) (by decide) ?_
    refine ws_imul 30 C dX3_addSign_30 (nI ((n - 1) * 10)) (pk_mul _ _) ?_
    refine ws_aload_n 31 C dX3_addSign_31 rfl ?_
    refine ws_get 32 C dX3_addSign_32 fX3_28 hB rfl rfl ?_
    refine ws_iload_n 35 C dX3_addSign_35 rfl ?_
    refine ws_iald 36 C dX3_addSign_36 hB 6 rfl (vp_in_nI (by omega) (by decide)) (nI L) ((congrArg f6 (nI_clamp (by omega))).trans (hl)) ?_
    refine ws_iadd 37 C dX3_addSign_37 (nI ((n - 1) * 10 + L)) (nI_add _ _) ?_
    refine ws_iload_n 38 C dX3_addSign_38 rfl ?_
    refine ws_cast 39 C dX3_addSign_39 hB 5 rfl (vp_in_nI (by omega) (by decide)) ((n - 1) * 10 + L) (nI_clamp (by omega)) (x) (fit_nar hx) (fun st1 est1 => ?_)
    have hB : Ob z st1 b (bSh κ b f1 f2 f3 f4 (upd f5 ((n - 1) * 10 + L) (x)) f6 (nI n)) := Ob.put' (j := 5) hB est1 rfl
    have hF := hF.put' est1 (show b ≤ (b + 5) ∧ (b + 5) < b + 7 from by omega)
    refine ws_aload_n 40 C dX3_addSign_40 rfl ?_
    refine ws_get 41 C dX3_addSign_41 fX3_28 hB rfl rfl ?_
    refine ws_iload_n 44 C dX3_addSign_44 rfl ?_
    refine ws_dup2 45 C dX3_addSign_45 rfl rfl ?_
    refine ws_iald 46 C dX3_addSign_46 hB 6 rfl (vp_in_nI (by omega) (by decide)) (nI L) ((congrArg f6 (nI_clamp (by omega))).trans (hl)) ?_
    refine ws_iconst 47 C dX3_addSign_47 (nI 1) (by decide) ?_
    refine ws_iadd 48 C dX3_addSign_48 (nI (L + 1)) (nI_add _ _) ?_
    refine ws_iast 49 C dX3_addSign_49 hB 6 rfl (vp_in_nI (by omega) (by decide)) (n - 1) (nI_clamp (by omega)) (nI (L + 1)) rfl (fun st2 est2 => ?_)
    have hB : Ob z st2 b (bSh κ b f1 f2 f3 f4 (upd f5 ((n - 1) * 10 + L) (x)) (upd f6 (n - 1) (nI (L + 1))) (nI n)) := Ob.put' (j := 6) hB est2 rfl
    have hF := hF.put' est2 (show b ≤ (b + 6) ∧ (b + 6) < b + 7 from by omega)
    exact ws_vret 50 C dX3_addSign_50 rfl (Nat.le_refl _) (Nat.le_refl _) (by rw [hP]; exact ⟨rfl, ⟨hB, hF⟩⟩)
  · skip
    (exfalso; omega)

set_option maxRecDepth 100000 in
set_option maxHeartbeats 4000000 in
theorem c_X3_takeOut {b : Nat} {μ : Mu} (hT : ShP κ z st0 b μ) {i : Nat} (hi : i < mn μ) : CT zl κ yX3_takeOut cX3_takeOut 3 none (r0 1 18) z [.ref (ad κ b), .int (nI i)] st0 (PV (fun u => ShP κ z u b (muDrop μ i) ∧ Fr (fun q : Nat => b ≤ q ∧ q < b + 7) st0 u)) := by
  obtain ⟨P, hP⟩ : ∃ P : Option Value → St → Prop, P = (PV (fun u => ShP κ z u b (muDrop μ i) ∧ Fr (fun q : Nat => b ≤ q ∧ q < b + 7) st0 u)) := ⟨_, rfl⟩
  rw [← hP]
  refine CT.of (by decide +kernel) (Nat.le_of_ble_eq_true rfl) (fun zp ze zs zm zar zbe zme zc C _ => ?_)
  have C : Cx zp zs zm zar zme zc κ cX3_takeOut 3 RX3 none := C
  refine ws_lv (lv2 := [some (.ref (ad κ b)), some (.int (nI i)), none]) rfl ?_
  obtain ⟨f1, f2, f3, f4, f5, f6, hB, hR⟩ := hT
  have h24 := hR.le
  have hF : Fr (fun q : Nat => b ≤ q ∧ q < b + 7) st0 st0 := Fr.rf
  refine ws_iload_n 0 C dX3_takeOut_0 rfl ?_
  refine ws_iconst 1 C dX3_takeOut_1 (nI 1) (by decide) ?_
  refine ws_iadd 2 C dX3_takeOut_2 (nI (i + 1)) (nI_add _ _) ?_
  refine ws_istore_n 3 C dX3_takeOut_3 rfl [some (.ref (ad κ b)), some (.int (nI i)), some (.int (nI (i + 1)))] rfl ?_
  have L4 : ∀ k : Nat, k ≤ mn μ - 1 - i → ∀ (g5 : Nat → Int32), ∀ (g6 : Nat → Int32), ∀ (h6 : ∀ w, w < mn μ → g6 w = if i ≤ w ∧ w < i + k then nI (ml μ (w + 1)) else nI (ml μ w)), ∀ (h5 : ∀ w j, w < mn μ → j < 10 → g5 (w * 10 + j) = f5 ((if i ≤ w ∧ w < i + k then w + 1 else w) * 10 + j)), ∀ (hf : ∀ j, fits .char (.int (g5 j)) = true), ∀ (st1 : St), ∀ (hB : Ob z st1 b (bSh κ b f1 f2 f3 f4 g5 g6 (nI (mn μ)))), ∀ (hF : Fr (fun q : Nat => b ≤ q ∧ q < b + 7) st0 st1), WS zp zl ze (r0 1 18) zs zm zar zbe zme zc κ z 0 0 (QM zbe zar zs κ z (r0 1 18) P) st1 4 [some (.ref (ad κ b)), some (.int (nI i)), some (.int (nI (i + 1 + k)))] [] := by
    refine dnw ?_
    intro k hk ih4 g5 g6 h6 h5 hf st1 hB hF
    refine ws_iload_n 4 C dX3_takeOut_4 rfl ?_
    refine ws_aload_n 5 C dX3_takeOut_5 rfl ?_
    refine ws_get 6 C dX3_takeOut_6 fX3_31 hB rfl rfl ?_
    refine ws_nicmp_ge 9 C 55 dX3_takeOut_9 (by decide) (by omega) (by omega) (fun c9 => ?_) (fun c9 => ?_)
    · skip
      refine ws_aload_n 55 C dX3_takeOut_55 rfl ?_
      refine ws_dup 56 C dX3_takeOut_56 rfl ?_
      refine ws_get 57 C dX3_takeOut_57 fX3_31 hB rfl rfl ?_
      refine ws_iconst 60 C dX3_takeOut_60 (nI 1) (by decide) ?_
      refine ws_isub 61 C dX3_takeOut_61 (nI (mn μ - 1)) (pk_sub (by omega)) ?_
      refine ws_put 62 C dX3_takeOut_62 fX3_31 q3_6 hB rfl (Nat.le_of_ble_eq_true rfl) rfl rfl (fun st2 est2 => ?_)
      have hB : Ob z st2 b (bSh κ b f1 f2 f3 f4 g5 g6 (nI (mn μ - 1))) := Ob.put' (j := 0) hB est2 rfl
      have hF := hF.put' est2 (show b ≤ (b) ∧ (b) < b + 7 from by omega)
      exact ws_vret 65 C dX3_takeOut_65 rfl (Nat.le_refl _) (Nat.le_refl _) (by rw [hP]; exact ⟨rfl, ⟨⟨f1, f2, f3, f4, g5, g6, hB, Rp_drop hR hi (show mn μ - 1 ≤ i + k from by omega) h6 h5 hf⟩, hF⟩⟩)
    · skip
      refine ws_aload_n 12 C dX3_takeOut_12 rfl ?_
      refine ws_get 13 C dX3_takeOut_13 fX3_24 hB rfl rfl ?_
      refine ws_iload_n 16 C dX3_takeOut_16 rfl ?_
      refine ws_bipush 17 C dX3_takeOut_17 (nI 10) (by decide) ?_
      refine ws_imul 19 C dX3_takeOut_19 (nI ((i + 1 + k) * 10)) (pk_mul _ _) ?_
      refine ws_aload_n 20 C dX3_takeOut_20 rfl ?_
      refine ws_get 21 C dX3_takeOut_21 fX3_24 hB rfl rfl ?_
      refine ws_iload_n 24 C dX3_takeOut_24 rfl ?_
      refine ws_iconst 25 C dX3_takeOut_25 (nI 1) (by decide) ?_
      refine ws_isub 26 C dX3_takeOut_26 (nI (i + k)) ((pk_sub (by omega)).trans (congrArg nI (by omega))) ?_
      refine ws_bipush 27 C dX3_takeOut_27 (nI 10) (by decide) ?_
      refine ws_imul 29 C dX3_takeOut_29 (nI ((i + k) * 10)) (pk_mul _ _) ?_
      refine ws_bipush 30 C dX3_takeOut_30 (nI 10) (by decide) ?_
      refine ws_copyC 32 C dX3_takeOut_32 k110 k112 k111 k12 rfl hB 5 rfl hB 5 rfl ((i + 1 + k) * 10) ((i + k) * 10) 10 (by omega) (by omega) (by decide) (by decide) (fun q _ => hf _) (by decide) (by decide) (fun st3 est3 => ?_)
      have hB : Ob z st3 b (bSh κ b f1 f2 f3 f4 (va_cpy g5 g5 ((i + 1 + k) * 10) ((i + k) * 10) 10) g6 (nI (mn μ))) := Ob.put' (j := 5) hB est3 rfl
      have hF := hF.put' est3 (show b ≤ (b + 5) ∧ (b + 5) < b + 7 from by omega)
      refine ws_aload_n 35 C dX3_takeOut_35 rfl ?_
      refine ws_get 36 C dX3_takeOut_36 fX3_28 hB rfl rfl ?_
      refine ws_iload_n 39 C dX3_takeOut_39 rfl ?_
      refine ws_iconst 40 C dX3_takeOut_40 (nI 1) (by decide) ?_
      refine ws_isub 41 C dX3_takeOut_41 (nI (i + k)) ((pk_sub (by omega)).trans (congrArg nI (by omega))) ?_
      refine ws_aload_n 42 C dX3_takeOut_42 rfl ?_
      refine ws_get 43 C dX3_takeOut_43 fX3_28 hB rfl rfl ?_
      refine ws_iload_n 46 C dX3_takeOut_46 rfl ?_
      refine ws_iald 47 C dX3_takeOut_47 hB 6 rfl (vp_in_nI (by omega) (by decide)) (g6 (i + 1 + k)) (congrArg g6 (nI_clamp (by omega))) ?_
      refine ws_iast 48 C dX3_takeOut_48 hB 6 rfl (vp_in_nI (by omega) (by decide)) (i + k) (nI_clamp (by omega)) (g6 (i + 1 + k)) rfl (fun st4 est4 => ?_)
      have hB : Ob z st4 b (bSh κ b f1 f2 f3 f4 (va_cpy g5 g5 ((i + 1 + k) * 10) ((i + k) * 10) 10) (upd g6 (i + k) (g6 (i + 1 + k))) (nI (mn μ))) := Ob.put' (j := 6) hB est4 rfl
      have hF := hF.put' est4 (show b ≤ (b + 6) ∧ (b + 6) < b + 7 from by omega)
      refine ws_iinc 49 C dX3_takeOut_49 rfl (nI (i + 1 + k + 1)) (nI_1 _) rfl [some (.ref (ad κ b)), some (.int (nI i)), some (.int (nI (i + 1 + k + 1)))] rfl ?_
      refine ws_goto 52 C 4 dX3_takeOut_52 (by decide) ?_
      exact ih4 (by omega) (va_cpy g5 g5 ((i + 1 + k) * 10) ((i + k) * 10) 10) (upd g6 (i + k) (g6 (i + 1 + k))) (drop6 h6 (by omega)) (drop5 h5 (by omega)) (cpy_fit hf hf) st4 hB hF
  exact L4 0 (Nat.zero_le _) f5 f6 (fun w hw => (by rw [hR.len hw, if_neg (by omega)])) (fun w j hw hj => (by rw [if_neg (by omega)])) hR.fit st0 hB hF

set_option maxRecDepth 100000 in
set_option maxHeartbeats 4000000 in
theorem c_X3_exchange {b : Nat} {μ : Mu} (hT : ShP κ z st0 b μ) {i j : Nat} (hi : i < mn μ) (hj : j < mn μ) (hij : i ≠ j) : CT zl κ yX3_exchange cX3_exchange 5 none (r0 0 0) z [.ref (ad κ b), .int (nI i), .int (nI j)] st0 (PV (fun u => ShP κ z u b (muSwap μ i j) ∧ Fr (fun q : Nat => b ≤ q ∧ q < b + 7) st0 u)) := by
  obtain ⟨P, hP⟩ : ∃ P : Option Value → St → Prop, P = (PV (fun u => ShP κ z u b (muSwap μ i j) ∧ Fr (fun q : Nat => b ≤ q ∧ q < b + 7) st0 u)) := ⟨_, rfl⟩
  rw [← hP]
  refine CT.of (by decide +kernel) (Nat.le_of_ble_eq_true rfl) (fun zp ze zs zm zar zbe zme zc C _ => ?_)
  have C : Cx zp zs zm zar zme zc κ cX3_exchange 5 RX3 none := C
  refine ws_lv (lv2 := [some (.ref (ad κ b)), some (.int (nI i)), some (.int (nI j)), none, none]) rfl ?_
  obtain ⟨f1, f2, f3, f4, f5, f6, hB, hR⟩ := hT
  have h24 := hR.le
  have hF : Fr (fun q : Nat => b ≤ q ∧ q < b + 7) st0 st0 := Fr.rf
  refine ws_iconst 0 C dX3_exchange_0 (nI 0) (by decide) ?_
  refine ws_istore_n 1 C dX3_exchange_1 rfl [some (.ref (ad κ b)), some (.int (nI i)), some (.int (nI j)), some (.int (nI 0)), none] rfl ?_
  have L2 : ∀ k : Nat, k ≤ 10 → ∀ (g5 : Nat → Int32), ∀ (h5 : ∀ w q, w < 24 → q < 10 → g5 (w * 10 + q) = f5 ((if q < k then (if w = i then j else if w = j then i else w) else w) * 10 + q)), ∀ (hf : ∀ q, fits .char (.int (g5 q)) = true), ∀ (st1 : St), ∀ (hB : Ob z st1 b (bSh κ b f1 f2 f3 f4 g5 f6 (nI (mn μ)))), ∀ (hF : Fr (fun q : Nat => b ≤ q ∧ q < b + 7) st0 st1), WS zp zl ze (r0 0 0) zs zm zar zbe zme zc κ z 0 0 (QM zbe zar zs κ z (r0 0 0) P) st1 2 [some (.ref (ad κ b)), some (.int (nI i)), some (.int (nI j)), some (.int (nI k)), none] [] := by
    refine dnw ?_
    intro k hk ih2 g5 h5 hf st1 hB hF
    refine ws_iload_n 2 C dX3_exchange_2 rfl ?_
    refine ws_bipush 3 C dX3_exchange_3 (nI 10) (by decide) ?_
    refine ws_nicmp_ge 5 C 62 dX3_exchange_5 (by decide) (by omega) (by omega) (fun c5 => ?_) (fun c5 => ?_)
    · skip
      refine ws_aload_n 62 C dX3_exchange_62 rfl ?_
      refine ws_get 63 C dX3_exchange_63 fX3_28 hB rfl rfl ?_
      refine ws_iload_n 66 C dX3_exchange_66 rfl ?_
      refine ws_iald 67 C dX3_exchange_67 hB 6 rfl (vp_in_nI (by omega) (by decide)) (nI (ml μ i)) ((congrArg f6 (nI_clamp (by omega))).trans (hR.len hi)) ?_
      refine ws_istore_n 68 C dX3_exchange_68 rfl [some (.ref (ad κ b)), some (.int (nI i)), some (.int (nI j)), some (.int (nI (ml μ i))), none] rfl ?_
      refine ws_aload_n 69 C dX3_exchange_69 rfl ?_
      refine ws_get 70 C dX3_exchange_70 fX3_28 hB rfl rfl ?_
      refine ws_iload_n 73 C dX3_exchange_73 rfl ?_
      refine ws_aload_n 74 C dX3_exchange_74 rfl ?_
      refine ws_get 75 C dX3_exchange_75 fX3_28 hB rfl rfl ?_
      refine ws_iload_n 78 C dX3_exchange_78 rfl ?_
      refine ws_iald 79 C dX3_exchange_79 hB 6 rfl (vp_in_nI (by omega) (by decide)) (nI (ml μ j)) ((congrArg f6 (nI_clamp (by omega))).trans (hR.len hj)) ?_
      refine ws_iast 80 C dX3_exchange_80 hB 6 rfl (vp_in_nI (by omega) (by decide)) i (nI_clamp (by omega)) (nI (ml μ j)) rfl (fun st2 est2 => ?_)
      have hB : Ob z st2 b (bSh κ b f1 f2 f3 f4 g5 (upd f6 i (nI (ml μ j))) (nI (mn μ))) := Ob.put' (j := 6) hB est2 rfl
      have hF := hF.put' est2 (show b ≤ (b + 6) ∧ (b + 6) < b + 7 from by omega)
      refine ws_aload_n 81 C dX3_exchange_81 rfl ?_
      refine ws_get 82 C dX3_exchange_82 fX3_28 hB rfl rfl ?_
      refine ws_iload_n 85 C dX3_exchange_85 rfl ?_
      refine ws_iload_n 86 C dX3_exchange_86 rfl ?_
      refine ws_iast 87 C dX3_exchange_87 hB 6 rfl (vp_in_nI (by omega) (by decide)) j (nI_clamp (by omega)) (nI (ml μ i)) rfl (fun st3 est3 => ?_)
      have hB : Ob z st3 b (bSh κ b f1 f2 f3 f4 g5 (upd (upd f6 i (nI (ml μ j))) j (nI (ml μ i))) (nI (mn μ))) := Ob.put' (j := 6) hB est3 rfl
      have hF := hF.put' est3 (show b ≤ (b + 6) ∧ (b + 6) < b + 7 from by omega)
      exact ws_vret 88 C dX3_exchange_88 rfl (Nat.le_refl _) (Nat.le_refl _) (by rw [hP]; exact ⟨rfl, ⟨⟨f1, f2, f3, f4, g5, _, hB, Rp_swap hR hi hj hij (show 10 ≤ k from by omega) h5 hf⟩, hF⟩⟩)
    · skip
      refine ws_aload_n 8 C dX3_exchange_8 rfl ?_
      refine ws_get 9 C dX3_exchange_9 fX3_24 hB rfl rfl ?_
      refine ws_iload_n 12 C dX3_exchange_12 rfl ?_
      refine ws_bipush 13 C dX3_exchange_13 (nI 10) (by decide) ?_
      refine ws_imul 15 C dX3_exchange_15 (nI (i * 10)) (pk_mul _ _) ?_
      refine ws_iload_n 16 C dX3_exchange_16 rfl ?_
      refine ws_iadd 17 C dX3_exchange_17 (nI (i * 10 + k)) (nI_add _ _) ?_
      refine ws_cald 18 C dX3_exchange_18 hB 5 rfl (vp_in_nI (by omega) (by decide)) (g5 (i * 10 + k)) (congrArg g5 (nI_clamp (by omega))) ?_
      refine ws_istore 19 C dX3_exchange_19 rfl [some (.ref (ad κ b)), some (.int (nI i)), some (.int (nI j)), some (.int (nI k)), some (.int (g5 (i * 10 + k)))] rfl ?_
      refine ws_aload_n 21 C dX3_exchange_21 rfl ?_
      refine ws_get 22 C dX3_exchange_22 fX3_24 hB rfl rfl ?_
      refine ws_iload_n 25 C dX3_exchange_25 rfl ?_
      refine ws_bipush 26 C dX3_exchange_26 (nI 10) (by decide) ?_
      refine ws_imul 28 C dX3_exchange_28 (nI (i * 10)) (pk_mul _ _) ?_
      refine ws_iload_n 29 C dX3_exchange_29 rfl ?_
      refine ws_iadd 30 C dX3_exchange_30 (nI (i * 10 + k)) (nI_add _ _) ?_
      refine ws_aload_n 31 C dX3_exchange_31 rfl ?_
      refine ws_get 32 C dX3_exchange_32 fX3_24 hB rfl rfl ?_
      refine ws_iload_n 35 C dX3_exchange_35 rfl ?_
      refine ws_bipush 36 C dX3_exchange_36 (nI 10) (by decide) ?_
      refine ws_imul 38 C dX3_exchange_38 (nI (j * 10)) (pk_mul _ _) ?_
      refine ws_iload_n 39 C dX3_exchange_39 rfl ?_
      refine ws_iadd 40 C dX3_exchange_40 (nI (j * 10 + k)) (nI_add _ _) ?_
      refine ws_cald 41 C dX3_exchange_41 hB 5 rfl (vp_in_nI (by omega) (by decide)) (g5 (j * 10 + k)) (congrArg g5 (nI_clamp (by omega))) ?_
      refine ws_cast 42 C dX3_exchange_42 hB 5 rfl (vp_in_nI (by omega) (by decide)) (i * 10 + k) (nI_clamp (by omega)) (g5 (j * 10 + k)) (fit_nar (hf _)) (fun st4 est4 => ?_)
      have hB : Ob z st4 b (bSh κ b f1 f2 f3 f4 (upd g5 (i * 10 + k) (g5 (j * 10 + k))) f6 (nI (mn μ))) := Ob.put' (j := 5) hB est4 rfl
      have hF := hF.put' est4 (show b ≤ (b + 5) ∧ (b + 5) < b + 7 from by omega)
      refine ws_aload_n 43 C dX3_exchange_43 rfl ?_
      refine ws_get 44 C dX3_exchange_44 fX3_24 hB rfl rfl ?_
      refine ws_iload_n 47 C dX3_exchange_47 rfl ?_
      refine ws_bipush 48 C dX3_exchange_48 (nI 10) (by decide) ?_
      refine ws_imul 50 C dX3_exchange_50 (nI (j * 10)) (pk_mul _ _) ?_
      refine ws_iload_n 51 C dX3_exchange_51 rfl ?_
      refine ws_iadd 52 C dX3_exchange_52 (nI (j * 10 + k)) (nI_add _ _) ?_
      refine ws_iload 53 C dX3_exchange_53 rfl ?_
      refine ws_cast 55 C dX3_exchange_55 hB 5 rfl (vp_in_nI (by omega) (by decide)) (j * 10 + k) (nI_clamp (by omega)) (g5 (i * 10 + k)) (fit_nar (hf _)) (fun st5 est5 => ?_)
      have hB : Ob z st5 b (bSh κ b f1 f2 f3 f4 (upd (upd g5 (i * 10 + k) (g5 (j * 10 + k))) (j * 10 + k) (g5 (i * 10 + k))) f6 (nI (mn μ))) := Ob.put' (j := 5) hB est5 rfl
      have hF := hF.put' est5 (show b ≤ (b + 5) ∧ (b + 5) < b + 7 from by omega)
      refine ws_iinc 56 C dX3_exchange_56 rfl (nI (k + 1)) (nI_1 _) rfl [some (.ref (ad κ b)), some (.int (nI i)), some (.int (nI j)), some (.int (nI (k + 1))), some (.int (g5 (i * 10 + k)))] rfl ?_
      refine ws_goto 59 C 2 dX3_exchange_59 (by decide) ?_
      refine ws_wk (lv2 := [some (.ref (ad κ b)), some (.int (nI i)), some (.int (nI j)), some (.int (nI (k + 1))), none]) ⟨rfl, rfl, rfl, rfl, trivial⟩ ?_
      exact ih2 c5 (upd (upd g5 (i * 10 + k) (g5 (j * 10 + k))) (j * 10 + k) (g5 (i * 10 + k))) (swap5 h5 (by omega) (by omega) hij c5) (upd_fit (upd_fit hf (hf _)) (hf _)) st5 hB hF
  exact L2 0 (Nat.zero_le _) f5 (fun w q hw hq => (by rw [if_neg (by omega)])) hR.fit st0 hB hF
end
