section
variable {zl : Launch} {κ : Kt} {z : Nat} {st0 : St}
set_option maxRecDepth 100000 in
set_option maxHeartbeats 4000000 in
theorem c_X0_record {hs : Nat → Mu} {n : Nat} {μ : Mu} (hHs : HsP κ z st0 hs n) (hS : ShP κ z st0 1 μ) : CT zl κ yX0_record cX0_record 2 none (r0 2 39) z [.ref (ad κ 31), .ref (ad κ 1)] st0 (PV (fun u => HsP κ z u (hpush hs n μ) (hcnt n) ∧ Fr (fun q : Nat => 31 ≤ q ∧ q < 75) st0 u)) := by
  obtain ⟨P, hP⟩ : ∃ P : Option Value → St → Prop, P = (PV (fun u => HsP κ z u (hpush hs n μ) (hcnt n) ∧ Fr (fun q : Nat => 31 ≤ q ∧ q < 75) st0 u)) := ⟨_, rfl⟩
  rw [← hP]
  refine CT.of (by decide +kernel) (Nat.le_of_ble_eq_true rfl) (fun zp ze zs zm zar zbe zme zc C _ => ?_)
  have C : Cx zp zs zm zar zme zc κ cX0_record 2 RX0 none := C
  refine ws_lv (lv2 := [some (.ref (ad κ 31)), some (.ref (ad κ 1))]) rfl ?_
  obtain ⟨g, nx, hH, h2, h3, h4, h5, h6⟩ := hHs
  obtain ⟨ν, t1, t2, t3, t4, t5, t6, hT, hRT⟩ := h5 nx h3
  obtain ⟨f1, f2, f3, f4, f5, f6, hB, hR⟩ := hS
  have hF : Fr (fun q : Nat => q = 31 ∨ (33 + 7 * nx ≤ q ∧ q < 33 + 7 * nx + 7)) st0 st0 := Fr.rf
  refine ws_aload_n 0 C dX0_record_0 rfl ?_
  refine ws_get 1 C dX0_record_1 fX0_11 hH rfl rfl ?_
  refine ws_aload_n 4 C dX0_record_4 rfl ?_
  refine ws_get 5 C dX0_record_5 fX0_17 hH rfl rfl ?_
  refine ws_aald 8 C dX0_record_8 hH 1 rfl (vp_in_nI (by omega) (by decide)) (ad κ (33 + 7 * nx)) ((congrArg g (nI_clamp (by omega))).trans (h2 nx h3)) ?_
  refine ws_aload_n 9 C dX0_record_9 rfl ?_
  refine ws_callV0 10 C dX0_record_10 vX0_25 (c_X3_copyFrom ⟨_, _, _, _, _, _, hT, hRT⟩ hB hR (by omega)) rfl hT rfl rfl ⟨by decide, by decide⟩ ⟨Nat.zero_le _, Nat.zero_le _⟩ rfl rfl rfl (kV (fun u10 h10 => ?_))
  obtain ⟨⟨t1, t2, t3, t4, t5, t6, hT, hRT⟩, hfr⟩ := h10
  have hH := hfr.ob hH (fun q (g1 : 31 ≤ q) (g2 : q < 31 + 2) => (show ¬ (33 + 7 * nx ≤ q ∧ q < 33 + 7 * nx + 7) from by omega))
  have hB := hfr.ob hB (fun q (g1 : 1 ≤ q) (g2 : q < 1 + 7) => (show ¬ (33 + 7 * nx ≤ q ∧ q < 33 + 7 * nx + 7) from by omega))
  have hF := hF.then hfr (fun q (hq : 33 + 7 * nx ≤ q ∧ q < 33 + 7 * nx + 7) => (show q = 31 ∨ (33 + 7 * nx ≤ q ∧ q < 33 + 7 * nx + 7) from by omega))
  refine ws_aload_n 13 C dX0_record_13 rfl ?_
  refine ws_aload_n 14 C dX0_record_14 rfl ?_
  refine ws_get 15 C dX0_record_15 fX0_17 hH rfl rfl ?_
  refine ws_iconst 18 C dX0_record_18 (nI 1) (by decide) ?_
  refine ws_iadd 19 C dX0_record_19 (nI (nx + 1)) (nI_add _ _) ?_
  refine ws_bipush 20 C dX0_record_20 (nI 6) (by decide) ?_
  refine ws_irem 22 C dX0_record_22 (by decide) (nI ((nx + 1) % 6)) (pk_rem (by omega) (by omega) (by omega)) ?_
  refine ws_put 23 C dX0_record_23 fX0_17 q0_1 hH rfl (Nat.le_of_ble_eq_true rfl) rfl rfl (fun st1 est1 => ?_)
  have hH : Ob z st1 31 (bHs κ 31 g (nI ((nx + 1) % 6)) (nI n)) := Ob.put' (j := 0) hH est1 rfl
  have hB := hB.ne' (L := 7) est1 rfl (by omega)
  have hT := hT.ne' (L := 7) est1 rfl (by omega)
  have hF := hF.put' est1 (show (31) = 31 ∨ (33 + 7 * nx ≤ (31) ∧ (31) < 33 + 7 * nx + 7) from by omega)
  refine ws_aload_n 26 C dX0_record_26 rfl ?_
  refine ws_get 27 C dX0_record_27 fX0_21 hH rfl rfl ?_
  refine ws_bipush 30 C dX0_record_30 (nI 6) (by decide) ?_
  refine ws_nicmp_ge 32 C 45 dX0_record_32 (by decide) (by omega) (by omega) (fun c32 => ?_) (fun c32 => ?_)
  · skip
    have hcn : hcnt n = n := (if_neg (by omega)).trans (by omega)
    rw [← hcn] at hH
    exact ws_vret 45 C dX0_record_45 rfl (Nat.le_refl _) (Nat.le_refl _) (by rw [hP]; exact ⟨rfl, ⟨HsP.push h2 h3 h4 h5 h6 (by first | exact hH | (rw [hcn]; exact hH)) ⟨_, _, _, _, _, _, hT, hRT⟩ hF, hF.weak (fun q (hq : q = 31 ∨ (33 + 7 * nx ≤ q ∧ q < 33 + 7 * nx + 7)) => (show 31 ≤ q ∧ q < 75 from by omega))⟩⟩)
  · skip
    have hcn : hcnt n = n + 1 := if_pos c32
    refine ws_aload_n 35 C dX0_record_35 rfl ?_
    refine ws_dup 36 C dX0_record_36 rfl ?_
    refine ws_get 37 C dX0_record_37 fX0_21 hH rfl rfl ?_
    refine ws_iconst 40 C dX0_record_40 (nI 1) (by decide) ?_
    refine ws_iadd 41 C dX0_record_41 (nI (n + 1)) (nI_add _ _) ?_
    refine ws_put 42 C dX0_record_42 fX0_21 q0_2 hH rfl (Nat.le_of_ble_eq_true rfl) rfl rfl (fun st2 est2 => ?_)
    have hH : Ob z st2 31 (bHs κ 31 g (nI ((nx + 1) % 6)) (nI (n + 1))) := Ob.put' (j := 0) hH est2 rfl
    have hB := hB.ne' (L := 7) est2 rfl (by omega)
    have hT := hT.ne' (L := 7) est2 rfl (by omega)
    have hF := hF.put' est2 (show (31) = 31 ∨ (33 + 7 * nx ≤ (31) ∧ (31) < 33 + 7 * nx + 7) from by omega)
    rw [← hcn] at hH
    exact ws_vret 45 C dX0_record_45 rfl (Nat.le_refl _) (Nat.le_refl _) (by rw [hP]; exact ⟨rfl, ⟨HsP.push h2 h3 h4 h5 h6 (by first | exact hH | (rw [hcn]; exact hH)) ⟨_, _, _, _, _, _, hT, hRT⟩ hF, hF.weak (fun q (hq : q = 31 ∨ (33 + 7 * nx ≤ q ∧ q < 33 + 7 * nx + 7)) => (show 31 ≤ q ∧ q < 75 from by omega))⟩⟩)

set_option maxRecDepth 100000 in
set_option maxHeartbeats 4000000 in
theorem c_X4_isSort {x : Int32} : CT zl κ yX4_isSort cX4_isSort 1 (some .boolean) (r0 0 0) z [.int (x)] st0 (PRi (bix x 8) st0) := by
  obtain ⟨P, hP⟩ : ∃ P : Option Value → St → Prop, P = (PRi (bix x 8) st0) := ⟨_, rfl⟩
  rw [← hP]
  refine CT.of (by decide +kernel) (Nat.le_of_ble_eq_true rfl) (fun zp ze zs zm zar zbe zme zc C _ => ?_)
  have C : Cx zp zs zm zar zme zc κ cX4_isSort 1 RX4 (some .boolean) := C
  refine ws_lv (lv2 := [some (.int (x))]) rfl ?_
  refine ws_iload_n 0 C dX4_isSort_0 rfl ?_
  refine ws_if_lt 1 C 14 dX4_isSort_1 (by decide)  (fun c1 => ?_) (fun c1 => ?_)
  · skip
    have hv : nI 0 = bix x 8 := (bix_n (ixv_n c1)).symm
    refine ws_iconst 14 C dX4_isSort_14 (nI 0) (by decide) ?_
    exact ws_zret 15 C rfl dX4_isSort_15 rfl (Nat.le_refl _) (Nat.le_refl _) (by rw [hP]; exact ⟨congrArg (fun z => some (Value.int z)) (hv), rfl⟩)
  · skip
    refine ws_iload_n 4 C dX4_isSort_4 rfl ?_
    refine ws_bipush 5 C dX4_isSort_5 (nI 8) (by decide) ?_
    refine ws_icmp_ge 7 C 14 dX4_isSort_7 (by decide)  (fun c7 => ?_) (fun c7 => ?_)
    · skip
      have hv : nI 0 = bix x 8 := (bix_n (ixv_g (Int32.not_lt.mpr c7))).symm
      refine ws_iconst 14 C dX4_isSort_14 (nI 0) (by decide) ?_
      exact ws_zret 15 C rfl dX4_isSort_15 rfl (Nat.le_refl _) (Nat.le_refl _) (by rw [hP]; exact ⟨congrArg (fun z => some (Value.int z)) (hv), rfl⟩)
    · skip
      have hv : nI 1 = bix x 8 := by obtain ⟨k, hk, e, e2⟩ := ixv_of (n := 8) (by decide) c1 (Int32.not_le.mp c7); exact (bix_s e2).symm
      refine ws_iconst 10 C dX4_isSort_10 (nI 1) (by decide) ?_
      refine ws_goto 11 C 15 dX4_isSort_11 (by decide) ?_
      exact ws_zret 15 C rfl dX4_isSort_15 rfl (Nat.le_refl _) (Nat.le_refl _) (by rw [hP]; exact ⟨congrArg (fun z => some (Value.int z)) (hv), rfl⟩)

set_option maxRecDepth 100000 in
set_option maxHeartbeats 4000000 in
theorem c_X4_isShare {x : Int32} : CT zl κ yX4_isShare cX4_isShare 1 (some .boolean) (r0 0 0) z [.int (x)] st0 (PRi (bix x 101) st0) := by
  obtain ⟨P, hP⟩ : ∃ P : Option Value → St → Prop, P = (PRi (bix x 101) st0) := ⟨_, rfl⟩
  rw [← hP]
  refine CT.of (by decide +kernel) (Nat.le_of_ble_eq_true rfl) (fun zp ze zs zm zar zbe zme zc C _ => ?_)
  have C : Cx zp zs zm zar zme zc κ cX4_isShare 1 RX4 (some .boolean) := C
  refine ws_lv (lv2 := [some (.int (x))]) rfl ?_
  refine ws_iload_n 0 C dX4_isShare_0 rfl ?_
  refine ws_if_lt 1 C 14 dX4_isShare_1 (by decide)  (fun c1 => ?_) (fun c1 => ?_)
  · skip
    have hv : nI 0 = bix x 101 := (bix_n (ixv_n c1)).symm
    refine ws_iconst 14 C dX4_isShare_14 (nI 0) (by decide) ?_
    exact ws_zret 15 C rfl dX4_isShare_15 rfl (Nat.le_refl _) (Nat.le_refl _) (by rw [hP]; exact ⟨congrArg (fun z => some (Value.int z)) (hv), rfl⟩)
  · skip
    refine ws_iload_n 4 C dX4_isShare_4 rfl ?_
    refine ws_bipush 5 C dX4_isShare_5 (nI 100) (by decide) ?_
    refine ws_icmp_gt 7 C 14 dX4_isShare_7 (by decide)  (fun c7 => ?_) (fun c7 => ?_)
    · skip
      have hv : nI 0 = bix x 101 := (bix_n (ixv_g (fun q => le100 q c7))).symm
      refine ws_iconst 14 C dX4_isShare_14 (nI 0) (by decide) ?_
      exact ws_zret 15 C rfl dX4_isShare_15 rfl (Nat.le_refl _) (Nat.le_refl _) (by rw [hP]; exact ⟨congrArg (fun z => some (Value.int z)) (hv), rfl⟩)
    · skip
      have hv : nI 1 = bix x 101 := by obtain ⟨k, hk, e, e2⟩ := ixv_of (n := 101) (by decide) c1 (lt101 c7); exact (bix_s e2).symm
      refine ws_iconst 10 C dX4_isShare_10 (nI 1) (by decide) ?_
      refine ws_goto 11 C 15 dX4_isShare_11 (by decide) ?_
      exact ws_zret 15 C rfl dX4_isShare_15 rfl (Nat.le_refl _) (Nat.le_refl _) (by rw [hP]; exact ⟨congrArg (fun z => some (Value.int z)) (hv), rfl⟩)

set_option maxRecDepth 100000 in
set_option maxHeartbeats 4000000 in
theorem c_X4_isWay {x : Int32} : CT zl κ yX4_isWay cX4_isWay 1 (some .boolean) (r0 0 0) z [.int (x)] st0 (PRi (bix x 2) st0) := by
  obtain ⟨P, hP⟩ : ∃ P : Option Value → St → Prop, P = (PRi (bix x 2) st0) := ⟨_, rfl⟩
  rw [← hP]
  refine CT.of (by decide +kernel) (Nat.le_of_ble_eq_true rfl) (fun zp ze zs zm zar zbe zme zc C _ => ?_)
  have C : Cx zp zs zm zar zme zc κ cX4_isWay 1 RX4 (some .boolean) := C
  refine ws_lv (lv2 := [some (.int (x))]) rfl ?_
  refine ws_iload_n 0 C dX4_isWay_0 rfl ?_
  refine ws_if_lt 1 C 13 dX4_isWay_1 (by decide)  (fun c1 => ?_) (fun c1 => ?_)
  · skip
    have hv : nI 0 = bix x 2 := (bix_n (ixv_n c1)).symm
    refine ws_iconst 13 C dX4_isWay_13 (nI 0) (by decide) ?_
    exact ws_zret 14 C rfl dX4_isWay_14 rfl (Nat.le_refl _) (Nat.le_refl _) (by rw [hP]; exact ⟨congrArg (fun z => some (Value.int z)) (hv), rfl⟩)
  · skip
    refine ws_iload_n 4 C dX4_isWay_4 rfl ?_
    refine ws_iconst 5 C dX4_isWay_5 (nI 2) (by decide) ?_
    refine ws_icmp_ge 6 C 13 dX4_isWay_6 (by decide)  (fun c6 => ?_) (fun c6 => ?_)
    · skip
      have hv : nI 0 = bix x 2 := (bix_n (ixv_g (Int32.not_lt.mpr c6))).symm
      refine ws_iconst 13 C dX4_isWay_13 (nI 0) (by decide) ?_
      exact ws_zret 14 C rfl dX4_isWay_14 rfl (Nat.le_refl _) (Nat.le_refl _) (by rw [hP]; exact ⟨congrArg (fun z => some (Value.int z)) (hv), rfl⟩)
    · skip
      have hv : nI 1 = bix x 2 := by obtain ⟨k, hk, e, e2⟩ := ixv_of (n := 2) (by decide) c1 (Int32.not_le.mp c6); exact (bix_s e2).symm
      refine ws_iconst 9 C dX4_isWay_9 (nI 1) (by decide) ?_
      refine ws_goto 10 C 14 dX4_isWay_10 (by decide) ?_
      exact ws_zret 14 C rfl dX4_isWay_14 rfl (Nat.le_refl _) (Nat.le_refl _) (by rw [hP]; exact ⟨congrArg (fun z => some (Value.int z)) (hv), rfl⟩)

set_option maxRecDepth 100000 in
set_option maxHeartbeats 4000000 in
theorem c_X4_isWord {μ : Mu} {x : Int32} (hO : Ob z st0 0 (bXo κ)) (hS : ShP κ z st0 1 μ) : CT zl κ yX4_isWord cX4_isWord 2 (some .boolean) (r0 0 0) z [.ref (ad κ 0), .int (x)] st0 (PRi (bix x (mn μ)) st0) := by
  obtain ⟨P, hP⟩ : ∃ P : Option Value → St → Prop, P = (PRi (bix x (mn μ)) st0) := ⟨_, rfl⟩
  rw [← hP]
  refine CT.of (by decide +kernel) (Nat.le_of_ble_eq_true rfl) (fun zp ze zs zm zar zbe zme zc C _ => ?_)
  have C : Cx zp zs zm zar zme zc κ cX4_isWord 2 RX4 (some .boolean) := C
  refine ws_lv (lv2 := [some (.ref (ad κ 0)), some (.int (x))]) rfl ?_
  obtain ⟨f1, f2, f3, f4, f5, f6, hB, hR⟩ := hS
  have h24 := hR.le
  refine ws_iload_n 0 C dX4_isWord_0 rfl ?_
  refine ws_if_lt 1 C 19 dX4_isWord_1 (by decide)  (fun c1 => ?_) (fun c1 => ?_)
  · skip
    have hv : nI 0 = bix x (mn μ) := (bix_n (ixv_n c1)).symm
    refine ws_iconst 19 C dX4_isWord_19 (nI 0) (by decide) ?_
    exact ws_zret 20 C rfl dX4_isWord_20 rfl (Nat.le_refl _) (Nat.le_refl _) (by rw [hP]; exact ⟨congrArg (fun z => some (Value.int z)) (hv), rfl⟩)
  · skip
    refine ws_iload_n 4 C dX4_isWord_4 rfl ?_
    refine ws_aload_n 5 C dX4_isWord_5 rfl ?_
    refine ws_get 6 C dX4_isWord_6 fX4_10 hO rfl rfl ?_
    refine ws_get 9 C dX4_isWord_9 fX4_85 hB rfl rfl ?_
    refine ws_icmp_ge 12 C 19 dX4_isWord_12 (by decide)  (fun c12 => ?_) (fun c12 => ?_)
    · skip
      have hv : nI 0 = bix x (mn μ) := (bix_n (ixv_g (Int32.not_lt.mpr c12))).symm
      refine ws_iconst 19 C dX4_isWord_19 (nI 0) (by decide) ?_
      exact ws_zret 20 C rfl dX4_isWord_20 rfl (Nat.le_refl _) (Nat.le_refl _) (by rw [hP]; exact ⟨congrArg (fun z => some (Value.int z)) (hv), rfl⟩)
    · skip
      have hv : nI 1 = bix x (mn μ) := by obtain ⟨k, hk, e, e2⟩ := ixv_of (n := mn μ) (by omega) c1 (Int32.not_le.mp c12); exact (bix_s e2).symm
      refine ws_iconst 15 C dX4_isWord_15 (nI 1) (by decide) ?_
      refine ws_goto 16 C 20 dX4_isWord_16 (by decide) ?_
      exact ws_zret 20 C rfl dX4_isWord_20 rfl (Nat.le_refl _) (Nat.le_refl _) (by rw [hP]; exact ⟨congrArg (fun z => some (Value.int z)) (hv), rfl⟩)

set_option maxRecDepth 100000 in
set_option maxHeartbeats 4000000 in
theorem c_X4_broken {μ : Mu} {way : Nat} (hw : way < 2) (hO : Ob z st0 0 (bXo κ)) (hS : ShP κ z st0 1 μ) (hLg : LyA κ z st0 15) (hLb : LyA κ z st0 22) : CT zl κ yX4_broken cX4_broken 3 (some (.object "HungStops$Layout")) (r0 6 133) z [.ref (ad κ 0), .int (nI way)] st0 (PA (fun rr u => (rr = ad κ (lid way) ∧ BrkP κ z u (lid way) μ (nxw μ way)) ∧ Fr (fun q : Nat => lid way ≤ q ∧ q < lid way + 7) st0 u)) := by
  obtain ⟨P, hP⟩ : ∃ P : Option Value → St → Prop, P = (PA (fun rr u => (rr = ad κ (lid way) ∧ BrkP κ z u (lid way) μ (nxw μ way)) ∧ Fr (fun q : Nat => lid way ≤ q ∧ q < lid way + 7) st0 u)) := ⟨_, rfl⟩
  rw [← hP]
  refine CT.of (by decide +kernel) (Nat.le_of_ble_eq_true rfl) (fun zp ze zs zm zar zbe zme zc C _ => ?_)
  have C : Cx zp zs zm zar zme zc κ cX4_broken 3 RX4 (some (.object "HungStops$Layout")) := C
  refine ws_lv (lv2 := [some (.ref (ad κ 0)), some (.int (nI way)), none]) rfl ?_
  obtain ⟨f1, f2, f3, f4, f5, f6, hB, hR⟩ := hS
  have hF : Fr (fun q : Nat => lid way ≤ q ∧ q < lid way + 7) st0 st0 := Fr.rf
  refine ws_iload_n 0 C dX4_broken_0 rfl ?_
  refine ws_nif_ne 1 C 11 dX4_broken_1 (by decide) (by omega) (fun c1 => ?_) (fun c1 => ?_)
  · skip
    have hl : lid way = 22 := if_neg c1
    obtain ⟨p, l, r, wn, m, sp, lo, s, ln, lf, nx, hL⟩ := hLb
    refine ws_aload_n 11 C dX4_broken_11 rfl ?_
    refine ws_get 12 C dX4_broken_12 fX4_26 hO rfl rfl ?_
    refine ws_astore_n 15 C dX4_broken_15 rfl [some (.ref (ad κ 0)), some (.int (nI way)), some (.ref (ad κ 22))] rfl ?_
    refine ws_aload_n 16 C dX4_broken_16 rfl ?_
    refine ws_aload_n 17 C dX4_broken_17 rfl ?_
    refine ws_get 18 C dX4_broken_18 fX4_10 hO rfl rfl ?_
    refine ws_callV0 21 C dX4_broken_21 vX4_168 (c_X1_weigh hL hB hR (by omega)) rfl hL rfl rfl ⟨by decide, by decide⟩ ⟨Nat.zero_le _, Nat.zero_le _⟩ rfl rfl rfl (kV (fun u21 h21 => ?_))
    obtain ⟨⟨p, l, r, hL, hW⟩, hfr⟩ := h21
    have hO := hfr.ob hO (fun q (g1 : 0 ≤ q) (g2 : q < 0 + 1) => (show ¬ (22 ≤ q ∧ q < 22 + 7) from by omega))
    have hB := hfr.ob hB (fun q (g1 : 1 ≤ q) (g2 : q < 1 + 7) => (show ¬ (22 ≤ q ∧ q < 22 + 7) from by omega))
    have hF := hF.then hfr (fun q (hq : 22 ≤ q ∧ q < 22 + 7) => (show lid way ≤ q ∧ q < lid way + 7 from by omega))
    refine ws_iload_n 24 C dX4_broken_24 rfl ?_
    refine ws_nif_ne 25 C 35 dX4_broken_25 (by decide) (by omega) (fun c25 => ?_) (fun c25 => ?_)
    · skip
      refine ws_aload_n 35 C dX4_broken_35 rfl ?_
      refine ws_callV0 36 C dX4_broken_36 vX4_198 (c_X1_breakBest hL hW hR.ok) rfl hL rfl rfl ⟨by decide, by decide⟩ ⟨Nat.zero_le _, Nat.zero_le _⟩ rfl rfl rfl (kV (fun u36 h36 => ?_))
      obtain ⟨⟨s, lf, nx, hL, hb⟩, hfr⟩ := h36
      have hO := hfr.ob hO (fun q (g1 : 0 ≤ q) (g2 : q < 0 + 1) => (show ¬ (22 ≤ q ∧ q < 22 + 7) from by omega))
      have hB := hfr.ob hB (fun q (g1 : 1 ≤ q) (g2 : q < 1 + 7) => (show ¬ (22 ≤ q ∧ q < 22 + 7) from by omega))
      have hF := hF.then hfr (fun q (hq : 22 ≤ q ∧ q < 22 + 7) => (show lid way ≤ q ∧ q < lid way + 7 from by omega))
      refine ws_aload_n 39 C dX4_broken_39 rfl ?_
      exact ws_aret 40 C dX4_broken_40 rfl (Nat.le_refl _) (Nat.le_refl _) (by rw [hP]; exact ⟨_, rfl, ⟨⟨by rw [hl], by rw [hl, show nxw μ way = _ from (by first | exact if_pos c1 | exact if_neg c1)]; exact ⟨p, l, r, s, lf, nx, hL, hW, hb⟩⟩, hF⟩⟩)
    · skip
      (exfalso; omega)
  · skip
    have hl : lid way = 15 := if_pos c1
    obtain ⟨p, l, r, wn, m, sp, lo, s, ln, lf, nx, hL⟩ := hLg
    refine ws_aload_n 4 C dX4_broken_4 rfl ?_
    refine ws_get 5 C dX4_broken_5 fX4_22 hO rfl rfl ?_
    refine ws_goto 8 C 15 dX4_broken_8 (by decide) ?_
    refine ws_astore_n 15 C dX4_broken_15 rfl [some (.ref (ad κ 0)), some (.int (nI way)), some (.ref (ad κ 15))] rfl ?_
    refine ws_aload_n 16 C dX4_broken_16 rfl ?_
    refine ws_aload_n 17 C dX4_broken_17 rfl ?_
    refine ws_get 18 C dX4_broken_18 fX4_10 hO rfl rfl ?_
    refine ws_callV0 21 C dX4_broken_21 vX4_168 (c_X1_weigh hL hB hR (by omega)) rfl hL rfl rfl ⟨by decide, by decide⟩ ⟨Nat.zero_le _, Nat.zero_le _⟩ rfl rfl rfl (kV (fun u21 h21 => ?_))
    obtain ⟨⟨p, l, r, hL, hW⟩, hfr⟩ := h21
    have hO := hfr.ob hO (fun q (g1 : 0 ≤ q) (g2 : q < 0 + 1) => (show ¬ (15 ≤ q ∧ q < 15 + 7) from by omega))
    have hB := hfr.ob hB (fun q (g1 : 1 ≤ q) (g2 : q < 1 + 7) => (show ¬ (15 ≤ q ∧ q < 15 + 7) from by omega))
    have hF := hF.then hfr (fun q (hq : 15 ≤ q ∧ q < 15 + 7) => (show lid way ≤ q ∧ q < lid way + 7 from by omega))
    refine ws_iload_n 24 C dX4_broken_24 rfl ?_
    refine ws_nif_ne 25 C 35 dX4_broken_25 (by decide) (by omega) (fun c25 => ?_) (fun c25 => ?_)
    · skip
      (exfalso; omega)
    · skip
      refine ws_aload_n 28 C dX4_broken_28 rfl ?_
      refine ws_callV0 29 C dX4_broken_29 vX4_177 (c_X1_fillGreedily hL hW hR.ok) rfl hL rfl rfl ⟨by decide, by decide⟩ ⟨Nat.zero_le _, Nat.zero_le _⟩ rfl rfl rfl (kV (fun u29 h29 => ?_))
      obtain ⟨⟨s, hL, hb⟩, hfr⟩ := h29
      have hO := hfr.ob hO (fun q (g1 : 0 ≤ q) (g2 : q < 0 + 1) => (show ¬ (15 ≤ q ∧ q < 15 + 7) from by omega))
      have hB := hfr.ob hB (fun q (g1 : 1 ≤ q) (g2 : q < 1 + 7) => (show ¬ (15 ≤ q ∧ q < 15 + 7) from by omega))
      have hF := hF.then hfr (fun q (hq : 15 ≤ q ∧ q < 15 + 7) => (show lid way ≤ q ∧ q < lid way + 7 from by omega))
      refine ws_goto 32 C 39 dX4_broken_32 (by decide) ?_
      refine ws_aload_n 39 C dX4_broken_39 rfl ?_
      exact ws_aret 40 C dX4_broken_40 rfl (Nat.le_refl _) (Nat.le_refl _) (by rw [hP]; exact ⟨_, rfl, ⟨⟨by rw [hl], by rw [hl, show nxw μ way = _ from (by first | exact if_pos c1 | exact if_neg c1)]; exact ⟨p, l, r, s, lf, nx, hL, hW, hb⟩⟩, hF⟩⟩)

set_option maxRecDepth 100000 in
set_option maxHeartbeats 4000000 in
theorem c_X4_leastBadnessOf {μ : Mu} (hO : Ob z st0 0 (bXo κ)) (hS : ShP κ z st0 8 μ) (hLb : LyA κ z st0 22) : CT zl κ yX4_leastBadnessOf cX4_leastBadnessOf 2 (some .int) (r0 5 111) z [.ref (ad κ 0), .ref (ad κ 8)] st0 (PI (fun rr u => (rr = lbd μ ∧ LyA κ z u 22) ∧ Fr (fun q : Nat => 22 ≤ q ∧ q < 29) st0 u)) := by
  obtain ⟨P, hP⟩ : ∃ P : Option Value → St → Prop, P = (PI (fun rr u => (rr = lbd μ ∧ LyA κ z u 22) ∧ Fr (fun q : Nat => 22 ≤ q ∧ q < 29) st0 u)) := ⟨_, rfl⟩
  rw [← hP]
  refine CT.of (by decide +kernel) (Nat.le_of_ble_eq_true rfl) (fun zp ze zs zm zar zbe zme zc C _ => ?_)
  have C : Cx zp zs zm zar zme zc κ cX4_leastBadnessOf 2 RX4 (some .int) := C
  refine ws_lv (lv2 := [some (.ref (ad κ 0)), some (.ref (ad κ 8))]) rfl ?_
  obtain ⟨f1, f2, f3, f4, f5, f6, hB, hR⟩ := hS
  obtain ⟨p, l, r, wn, m, sp, lo, s, ln, lf, nx, hL⟩ := hLb
  have hF : Fr (fun q : Nat => 22 ≤ q ∧ q < 29) st0 st0 := Fr.rf
  refine ws_aload_n 0 C dX4_leastBadnessOf_0 rfl ?_
  refine ws_get 1 C dX4_leastBadnessOf_1 fX4_26 hO rfl rfl ?_
  refine ws_aload_n 4 C dX4_leastBadnessOf_4 rfl ?_
  refine ws_callV0 5 C dX4_leastBadnessOf_5 vX4_168 (c_X1_weigh hL hB hR (by omega)) rfl hL rfl rfl ⟨by decide, by decide⟩ ⟨Nat.zero_le _, Nat.zero_le _⟩ rfl rfl rfl (kV (fun u5 h5 => ?_))
  obtain ⟨⟨p, l, r, hL, hW⟩, hfr⟩ := h5
  have hO := hfr.ob hO (fun q (g1 : 0 ≤ q) (g2 : q < 0 + 1) => (show ¬ (22 ≤ q ∧ q < 22 + 7) from by omega))
  have hB := hfr.ob hB (fun q (g1 : 8 ≤ q) (g2 : q < 8 + 7) => (show ¬ (22 ≤ q ∧ q < 22 + 7) from by omega))
  have hF := hF.then hfr (fun q (hq : 22 ≤ q ∧ q < 22 + 7) => (show 22 ≤ q ∧ q < 29 from by omega))
  refine ws_aload_n 8 C dX4_leastBadnessOf_8 rfl ?_
  refine ws_get 9 C dX4_leastBadnessOf_9 fX4_26 hO rfl rfl ?_
  refine ws_callV0 12 C dX4_leastBadnessOf_12 vX4_201 (c_X1_leastBadness hL hW hR.ok) rfl hL rfl rfl ⟨by decide, by decide⟩ ⟨Nat.zero_le _, Nat.zero_le _⟩ rfl rfl rfl (kI' (fun r12 u12 h12 => ?_))
  obtain ⟨⟨hr, lf, nx, hL, -⟩, hfr⟩ := h12
  have hO := hfr.ob hO (fun q (g1 : 0 ≤ q) (g2 : q < 0 + 1) => (show ¬ (22 ≤ q ∧ q < 22 + 7) from by omega))
  have hB := hfr.ob hB (fun q (g1 : 8 ≤ q) (g2 : q < 8 + 7) => (show ¬ (22 ≤ q ∧ q < 22 + 7) from by omega))
  have hF := hF.then hfr (fun q (hq : 22 ≤ q ∧ q < 22 + 7) => (show 22 ≤ q ∧ q < 29 from by omega))
  exact ws_iret 15 C  dX4_leastBadnessOf_15 rfl (Nat.le_refl _) (Nat.le_refl _) (by rw [hP]; exact ⟨r12, rfl, ⟨⟨hr, _, _, _, _, _, _, _, _, _, _, _, hL⟩, hF⟩⟩)
end
