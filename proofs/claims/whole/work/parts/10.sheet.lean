section
variable {l : Launch} {κ : Kt} {z : Nat} {st0 : St}
set_option maxRecDepth 100000 in
set_option maxHeartbeats 4000000 in
theorem c_X4_sortWith {x : Int32} : CT l κ yX4_sortWith cX4_sortWith 1 (some .int) (r0 0 0) z [.int (x)] st0 (PRi (scv (-1) x) st0) := by
  obtain ⟨P, hP⟩ : ∃ P : Option Value → St → Prop, P = (PRi (scv (-1) x) st0) := ⟨_, rfl⟩
  rw [← hP]
  refine CT.of (by decide +kernel) (Nat.le_of_ble_eq_true rfl) (fun p e s m args below meth c C _ => ?_)
  have C : Cx p s m args meth c κ cX4_sortWith 1 RX4 (some .int) := C
  refine ws_lv (lv2 := [some (.int (x))]) rfl ?_
  refine ws_iload_n 0 C dX4_sortWith_0 rfl ?_
  refine ws_bipush 1 C dX4_sortWith_1 (nI 97) (by decide) ?_
  refine ws_icmp_lt 3 C 14 dX4_sortWith_3 (by decide)  (fun c3 => ?_) (fun c3 => ?_)
  · skip
    have h0 : ¬ (nI 97 ≤ x ∧ x ≤ nI 122) := fun q => Int32.not_lt.mpr q.1 c3
    refine ws_iload_n 14 C dX4_sortWith_14 rfl ?_
    by_cases h33 : x = nI 33
    · skip
      refine ws_lsw 15 C dX4_sortWith_15 (78) 93 (by decide) (by rw [h33]; rfl) (by decide) ?_
      refine ws_bipush 93 C dX4_sortWith_93 (nI 7) (by decide) ?_
      exact ws_iret 95 C  dX4_sortWith_95 rfl (Nat.le_refl _) (Nat.le_refl _) (by rw [hP]; exact ⟨congrArg (fun z => some (Value.int z)) (by rw [h33]; decide), rfl⟩)
    by_cases h39 : x = nI 39
    · skip
      refine ws_lsw 15 C dX4_sortWith_15 (75) 90 (by decide) (by rw [h39]; rfl) (by decide) ?_
      refine ws_bipush 90 C dX4_sortWith_90 (nI 6) (by decide) ?_
      exact ws_iret 92 C  dX4_sortWith_92 rfl (Nat.le_refl _) (Nat.le_refl _) (by rw [hP]; exact ⟨congrArg (fun z => some (Value.int z)) (by rw [h39]; decide), rfl⟩)
    by_cases h44 : x = nI 44
    · skip
      refine ws_lsw 15 C dX4_sortWith_15 (67) 82 (by decide) (by rw [h44]; rfl) (by decide) ?_
      refine ws_iconst 82 C dX4_sortWith_82 (nI 2) (by decide) ?_
      exact ws_iret 83 C  dX4_sortWith_83 rfl (Nat.le_refl _) (Nat.le_refl _) (by rw [hP]; exact ⟨congrArg (fun z => some (Value.int z)) (by rw [h44]; decide), rfl⟩)
    by_cases h45 : x = nI 45
    · skip
      refine ws_lsw 15 C dX4_sortWith_15 (73) 88 (by decide) (by rw [h45]; rfl) (by decide) ?_
      refine ws_iconst 88 C dX4_sortWith_88 (nI 5) (by decide) ?_
      exact ws_iret 89 C  dX4_sortWith_89 rfl (Nat.le_refl _) (Nat.le_refl _) (by rw [hP]; exact ⟨congrArg (fun z => some (Value.int z)) (by rw [h45]; decide), rfl⟩)
    by_cases h46 : x = nI 46
    · skip
      refine ws_lsw 15 C dX4_sortWith_15 (65) 80 (by decide) (by rw [h46]; rfl) (by decide) ?_
      refine ws_iconst 80 C dX4_sortWith_80 (nI 1) (by decide) ?_
      exact ws_iret 81 C  dX4_sortWith_81 rfl (Nat.le_refl _) (Nat.le_refl _) (by rw [hP]; exact ⟨congrArg (fun z => some (Value.int z)) (by rw [h46]; decide), rfl⟩)
    by_cases h58 : x = nI 58
    · skip
      refine ws_lsw 15 C dX4_sortWith_15 (71) 86 (by decide) (by rw [h58]; rfl) (by decide) ?_
      refine ws_iconst 86 C dX4_sortWith_86 (nI 4) (by decide) ?_
      exact ws_iret 87 C  dX4_sortWith_87 rfl (Nat.le_refl _) (Nat.le_refl _) (by rw [hP]; exact ⟨congrArg (fun z => some (Value.int z)) (by rw [h58]; decide), rfl⟩)
    by_cases h59 : x = nI 59
    · skip
      refine ws_lsw 15 C dX4_sortWith_15 (69) 84 (by decide) (by rw [h59]; rfl) (by decide) ?_
      refine ws_iconst 84 C dX4_sortWith_84 (nI 3) (by decide) ?_
      exact ws_iret 85 C  dX4_sortWith_85 rfl (Nat.le_refl _) (Nat.le_refl _) (by rw [hP]; exact ⟨congrArg (fun z => some (Value.int z)) (by rw [h59]; decide), rfl⟩)
    refine ws_lsw 15 C dX4_sortWith_15 (81) 96 (by decide) (show Op.lookupswitch.offset [(33, 78), (39, 75), (44, 67), (45, 73), (46, 65), (58, 71), (59, 69)] (81) x.toInt = 81 from by rw [lv_osw (a := 33) h33 rfl, lv_osw (a := 39) h39 rfl, lv_osw (a := 44) h44 rfl, lv_osw (a := 45) h45 rfl, lv_osw (a := 46) h46 rfl, lv_osw (a := 58) h58 rfl, lv_osw (a := 59) h59 rfl]; rfl) (by decide) ?_
    refine ws_iconst 96 C dX4_sortWith_96 ((-1)) (by decide) ?_
    exact ws_iret 97 C  dX4_sortWith_97 rfl (Nat.le_refl _) (Nat.le_refl _) (by rw [hP]; exact ⟨congrArg (fun z => some (Value.int z)) ((scv_8 h0 h46 h44 h59 h58 h45 h39 h33).symm), rfl⟩)
  · skip
    refine ws_iload_n 6 C dX4_sortWith_6 rfl ?_
    refine ws_bipush 7 C dX4_sortWith_7 (nI 122) (by decide) ?_
    refine ws_icmp_gt 9 C 14 dX4_sortWith_9 (by decide)  (fun c9 => ?_) (fun c9 => ?_)
    · skip
      have h0 : ¬ (nI 97 ≤ x ∧ x ≤ nI 122) := fun q => Int32.not_lt.mpr q.2 c9
      refine ws_iload_n 14 C dX4_sortWith_14 rfl ?_
      by_cases h33 : x = nI 33
      · skip
        refine ws_lsw 15 C dX4_sortWith_15 (78) 93 (by decide) (by rw [h33]; rfl) (by decide) ?_
        refine ws_bipush 93 C dX4_sortWith_93 (nI 7) (by decide) ?_
        exact ws_iret 95 C  dX4_sortWith_95 rfl (Nat.le_refl _) (Nat.le_refl _) (by rw [hP]; exact ⟨congrArg (fun z => some (Value.int z)) (by rw [h33]; decide), rfl⟩)
      by_cases h39 : x = nI 39
      · skip
        refine ws_lsw 15 C dX4_sortWith_15 (75) 90 (by decide) (by rw [h39]; rfl) (by decide) ?_
        refine ws_bipush 90 C dX4_sortWith_90 (nI 6) (by decide) ?_
        exact ws_iret 92 C  dX4_sortWith_92 rfl (Nat.le_refl _) (Nat.le_refl _) (by rw [hP]; exact ⟨congrArg (fun z => some (Value.int z)) (by rw [h39]; decide), rfl⟩)
      by_cases h44 : x = nI 44
      · skip
        refine ws_lsw 15 C dX4_sortWith_15 (67) 82 (by decide) (by rw [h44]; rfl) (by decide) ?_
        refine ws_iconst 82 C dX4_sortWith_82 (nI 2) (by decide) ?_
        exact ws_iret 83 C  dX4_sortWith_83 rfl (Nat.le_refl _) (Nat.le_refl _) (by rw [hP]; exact ⟨congrArg (fun z => some (Value.int z)) (by rw [h44]; decide), rfl⟩)
      by_cases h45 : x = nI 45
      · skip
        refine ws_lsw 15 C dX4_sortWith_15 (73) 88 (by decide) (by rw [h45]; rfl) (by decide) ?_
        refine ws_iconst 88 C dX4_sortWith_88 (nI 5) (by decide) ?_
        exact ws_iret 89 C  dX4_sortWith_89 rfl (Nat.le_refl _) (Nat.le_refl _) (by rw [hP]; exact ⟨congrArg (fun z => some (Value.int z)) (by rw [h45]; decide), rfl⟩)
      by_cases h46 : x = nI 46
      · skip
        refine ws_lsw 15 C dX4_sortWith_15 (65) 80 (by decide) (by rw [h46]; rfl) (by decide) ?_
        refine ws_iconst 80 C dX4_sortWith_80 (nI 1) (by decide) ?_
        exact ws_iret 81 C  dX4_sortWith_81 rfl (Nat.le_refl _) (Nat.le_refl _) (by rw [hP]; exact ⟨congrArg (fun z => some (Value.int z)) (by rw [h46]; decide), rfl⟩)
      by_cases h58 : x = nI 58
      · skip
        refine ws_lsw 15 C dX4_sortWith_15 (71) 86 (by decide) (by rw [h58]; rfl) (by decide) ?_
        refine ws_iconst 86 C dX4_sortWith_86 (nI 4) (by decide) ?_
        exact ws_iret 87 C  dX4_sortWith_87 rfl (Nat.le_refl _) (Nat.le_refl _) (by rw [hP]; exact ⟨congrArg (fun z => some (Value.int z)) (by rw [h58]; decide), rfl⟩)
      by_cases h59 : x = nI 59
      · skip
        refine ws_lsw 15 C dX4_sortWith_15 (69) 84 (by decide) (by rw [h59]; rfl) (by decide) ?_
        refine ws_iconst 84 C dX4_sortWith_84 (nI 3) (by decide) ?_
        exact ws_iret 85 C  dX4_sortWith_85 rfl (Nat.le_refl _) (Nat.le_refl _) (by rw [hP]; exact ⟨congrArg (fun z => some (Value.int z)) (by rw [h59]; decide), rfl⟩)
      refine ws_lsw 15 C dX4_sortWith_15 (81) 96 (by decide) (show Op.lookupswitch.offset [(33, 78), (39, 75), (44, 67), (45, 73), (46, 65), (58, 71), (59, 69)] (81) x.toInt = 81 from by rw [lv_osw (a := 33) h33 rfl, lv_osw (a := 39) h39 rfl, lv_osw (a := 44) h44 rfl, lv_osw (a := 45) h45 rfl, lv_osw (a := 46) h46 rfl, lv_osw (a := 58) h58 rfl, lv_osw (a := 59) h59 rfl]; rfl) (by decide) ?_
      refine ws_iconst 96 C dX4_sortWith_96 ((-1)) (by decide) ?_
      exact ws_iret 97 C  dX4_sortWith_97 rfl (Nat.le_refl _) (Nat.le_refl _) (by rw [hP]; exact ⟨congrArg (fun z => some (Value.int z)) ((scv_8 h0 h46 h44 h59 h58 h45 h39 h33).symm), rfl⟩)
    · skip
      refine ws_iconst 12 C dX4_sortWith_12 (nI 0) (by decide) ?_
      exact ws_iret 13 C  dX4_sortWith_13 rfl (Nat.le_refl _) (Nat.le_refl _) (by rw [hP]; exact ⟨congrArg (fun z => some (Value.int z)) ((scv_0 (Int32.not_lt.mp c3) (Int32.not_lt.mp c9)).symm), rfl⟩)

set_option maxRecDepth 100000 in
set_option maxHeartbeats 4000000 in
theorem c_X3_signAt {b : Nat} {f1 f2 f3 f4 f5 f6 : Nat → Int32} {wn : Int32} {μ : Mu} (hB : Ob z st0 b (bSh κ b f1 f2 f3 f4 f5 f6 wn)) (hR : Rp μ f1 f2 f3 f4 f5 f6 wn) {i j : Nat} (hi : i < mn μ) (hj : j < ml μ i) : CT l κ yX3_signAt cX3_signAt 3 (some .char) (r0 0 0) z [.ref (ad κ b), .int (nI i), .int (nI j)] st0 (PRi (mg μ i j) st0) := by
  obtain ⟨P, hP⟩ : ∃ P : Option Value → St → Prop, P = (PRi (mg μ i j) st0) := ⟨_, rfl⟩
  rw [← hP]
  refine CT.of (by decide +kernel) (Nat.le_of_ble_eq_true rfl) (fun p e s m args below meth c C _ => ?_)
  have C : Cx p s m args meth c κ cX3_signAt 3 RX3 (some .char) := C
  refine ws_lv (lv2 := [some (.ref (ad κ b)), some (.int (nI i)), some (.int (nI j))]) rfl ?_
  have h24 := hR.le
  have h10 := (hR.ok.len hi).2
  refine ws_aload_n 0 C dX3_signAt_0 rfl ?_
  refine ws_get 1 C dX3_signAt_1 fX3_24 hB rfl rfl ?_
  refine ws_iload_n 4 C dX3_signAt_4 rfl ?_
  refine ws_bipush 5 C dX3_signAt_5 (nI 10) (by decide) ?_
  refine ws_imul 7 C dX3_signAt_7 (nI (i * 10)) (pk_mul _ _) ?_
  refine ws_iload_n 8 C dX3_signAt_8 rfl ?_
  refine ws_iadd 9 C dX3_signAt_9 (nI (i * 10 + j)) (nI_add _ _) ?_
  refine ws_cald 10 C dX3_signAt_10 hB 5 rfl (vp_in_nI (by omega) (by decide)) (mg μ i j) ((congrArg f5 (nI_clamp (by omega))).trans (hR.sig hi hj)) ?_
  exact ws_cret 11 C (fit_char (hR.sig hi hj ▸ hR.fit _)) dX3_signAt_11 rfl (Nat.le_refl _) (Nat.le_refl _) (by rw [hP]; exact ⟨rfl, rfl⟩)

set_option maxRecDepth 100000 in
set_option maxHeartbeats 4000000 in
theorem c_X3_sortAt {b : Nat} {f1 f2 f3 f4 f5 f6 : Nat → Int32} {wn : Int32} {μ : Mu} (hB : Ob z st0 b (bSh κ b f1 f2 f3 f4 f5 f6 wn)) (hR : Rp μ f1 f2 f3 f4 f5 f6 wn) {i j : Nat} (hi : i < mn μ) (hj : j < ml μ i) : CT l κ yX3_sortAt cX3_sortAt 3 (some .int) (r0 1 22) z [.ref (ad κ b), .int (nI i), .int (nI j)] st0 (PRi (nI (so μ i j)) st0) := by
  obtain ⟨P, hP⟩ : ∃ P : Option Value → St → Prop, P = (PRi (nI (so μ i j)) st0) := ⟨_, rfl⟩
  rw [← hP]
  refine CT.of (by decide +kernel) (Nat.le_of_ble_eq_true rfl) (fun p e s m args below meth c C _ => ?_)
  have C : Cx p s m args meth c κ cX3_sortAt 3 RX3 (some .int) := C
  refine ws_lv (lv2 := [some (.ref (ad κ b)), some (.int (nI i)), some (.int (nI j))]) rfl ?_
  have h8 := hR.ok.so hi hj
  refine ws_aload_n 0 C dX3_sortAt_0 rfl ?_
  refine ws_iload_n 1 C dX3_sortAt_1 rfl ?_
  refine ws_iload_n 2 C dX3_sortAt_2 rfl ?_
  refine ws_callV0 3 C dX3_sortAt_3 vX3_41 (c_X3_signAt hB hR hi hj) rfl hB rfl rfl ⟨by decide, by decide⟩ ⟨Nat.zero_le _, Nat.zero_le _⟩ rfl rfl rfl (kR ?_)
  refine ws_callSN0 6 C dX3_sortAt_6 vX3_45 ((scv_k h8 ▸ c_X4_sortWith : CT l κ yX4_sortWith cX4_sortWith 1 (some .int) (r0 0 0) z [.int (mg μ i j)] st0 (PRi (nI (so μ i j)) st0))) rfl ⟨by decide, by decide⟩ ⟨Nat.zero_le _, Nat.zero_le _⟩ rfl rfl rfl (kR ?_)
  refine ws_iconst 9 C dX3_sortAt_9 (nI 0) (by decide) ?_
  refine ws_mmax 10 C dX3_sortAt_10 k201 k202 k43 k203 rfl (by decide) (Nat.le_of_ble_eq_true rfl) (Nat.zero_le _) (Nat.zero_le _) (nI (so μ i j)) (max0 (a := so μ i j) (by omega)) ?_
  exact ws_iret 13 C  dX3_sortAt_13 rfl (Nat.le_refl _) (Nat.le_refl _) (by rw [hP]; exact ⟨rfl, rfl⟩)

set_option maxRecDepth 100000 in
set_option maxHeartbeats 4000000 in
theorem c_X3_widthOf {b : Nat} {f1 f2 f3 f4 f5 f6 : Nat → Int32} {wn : Int32} {μ : Mu} (hB : Ob z st0 b (bSh κ b f1 f2 f3 f4 f5 f6 wn)) (hR : Rp μ f1 f2 f3 f4 f5 f6 wn) {i : Nat} (hi : i < mn μ) : CT l κ yX3_widthOf cX3_widthOf 4 (some .int) (r0 2 44) z [.ref (ad κ b), .int (nI i)] st0 (PRi (wd μ i) st0) := by
  obtain ⟨P, hP⟩ : ∃ P : Option Value → St → Prop, P = (PRi (wd μ i) st0) := ⟨_, rfl⟩
  rw [← hP]
  refine CT.of (by decide +kernel) (Nat.le_of_ble_eq_true rfl) (fun p e s m args below meth c C _ => ?_)
  have C : Cx p s m args meth c κ cX3_widthOf 4 RX3 (some .int) := C
  refine ws_lv (lv2 := [some (.ref (ad κ b)), some (.int (nI i)), none, none]) rfl ?_
  have h24 := hR.le
  have h10 := (hR.ok.len hi).2
  refine ws_iconst 0 C dX3_widthOf_0 (nI 0) (by decide) ?_
  refine ws_istore_n 1 C dX3_widthOf_1 rfl [some (.ref (ad κ b)), some (.int (nI i)), some (.int (nI 0)), none] rfl ?_
  refine ws_iconst 2 C dX3_widthOf_2 (nI 0) (by decide) ?_
  refine ws_istore_n 3 C dX3_widthOf_3 rfl [some (.ref (ad κ b)), some (.int (nI i)), some (.int (nI 0)), some (.int (nI 0))] rfl ?_
  have L4 : ∀ k : Nat, k ≤ ml μ i → ∀ (a : Int32), ∀ (ha : a = wdS μ i k), WS p l e (r0 2 44) s m args below meth c κ z 0 0 (QM below args s κ z (r0 2 44) P) st0 4 [some (.ref (ad κ b)), some (.int (nI i)), some (.int (a)), some (.int (nI k))] [] := by
    refine dnw ?_
    intro k hk ih4 a ha
    refine ws_iload_n 4 C dX3_widthOf_4 rfl ?_
    refine ws_aload_n 5 C dX3_widthOf_5 rfl ?_
    refine ws_get 6 C dX3_widthOf_6 fX3_28 hB rfl rfl ?_
    refine ws_iload_n 9 C dX3_widthOf_9 rfl ?_
    refine ws_iald 10 C dX3_widthOf_10 hB 6 rfl (vp_in_nI (by omega) (by decide)) (nI (ml μ i)) ((congrArg f6 (nI_clamp (by omega))).trans (hR.len hi)) ?_
    refine ws_nicmp_ge 11 C 34 dX3_widthOf_11 (by decide) (by omega) (by omega) (fun c11 => ?_) (fun c11 => ?_)
    · skip
      refine ws_iload_n 34 C dX3_widthOf_34 rfl ?_
      exact ws_iret 35 C  dX3_widthOf_35 rfl (Nat.le_refl _) (Nat.le_refl _) (by rw [hP]; exact ⟨congrArg (fun z => some (Value.int z)) ((ha.trans (by rw [show k = ml μ i from by omega]; rfl))), rfl⟩)
    · skip
      refine ws_iload_n 14 C dX3_widthOf_14 rfl ?_
      refine ws_aload_n 15 C dX3_widthOf_15 rfl ?_
      refine ws_get 16 C dX3_widthOf_16 fX3_15 hB rfl rfl ?_
      refine ws_aload_n 19 C dX3_widthOf_19 rfl ?_
      refine ws_iload_n 20 C dX3_widthOf_20 rfl ?_
      refine ws_iload_n 21 C dX3_widthOf_21 rfl ?_
      have h8 := hR.ok.so hi c11
      refine ws_callV0 22 C dX3_widthOf_22 vX3_55 (c_X3_sortAt hB hR hi c11) rfl hB rfl rfl ⟨by decide, by decide⟩ ⟨Nat.zero_le _, Nat.zero_le _⟩ rfl rfl rfl (kR ?_)
      refine ws_iald 25 C dX3_widthOf_25 hB 2 rfl (vp_in_nI (by omega) (by decide)) (mv μ 1 (so μ i k)) ((congrArg f2 (nI_clamp (by omega))).trans (hR.wid h8)) ?_
      refine ws_iadd 26 C dX3_widthOf_26 (a + (mv μ 1 (so μ i k))) rfl ?_
      refine ws_istore_n 27 C dX3_widthOf_27 rfl [some (.ref (ad κ b)), some (.int (nI i)), some (.int (a + (mv μ 1 (so μ i k)))), some (.int (nI k))] rfl ?_
      refine ws_iinc 28 C dX3_widthOf_28 rfl (nI (k + 1)) (nI_1 _) rfl [some (.ref (ad κ b)), some (.int (nI i)), some (.int (a + (mv μ 1 (so μ i k)))), some (.int (nI (k + 1)))] rfl ?_
      refine ws_goto 31 C 4 dX3_widthOf_31 (by decide) ?_
      exact ih4 c11 (a + mv μ 1 (so μ i k)) (ha ▸ rfl)
  exact L4 0 (Nat.zero_le _) (nI 0) rfl
end
