section
variable {zl : Launch} {κ : Kt} {z : Nat} {st0 : St}
set_option maxRecDepth 100000 in
set_option maxHeartbeats 4000000 in
theorem c_X4_set {S : Sg} (hX : XI κ z st0 S) {x y : Int32} : CT zl κ yX4_set cX4_set 4 (some .int) (r0 3 60) z [.ref (ad κ 0), .int (x), .int (y)] st0 (PX κ z st0 (fSet S x y)) := by
  obtain ⟨P, hP⟩ : ∃ P : Option Value → St → Prop, P = (PX κ z st0 (fSet S x y)) := ⟨_, rfl⟩
  rw [← hP]
  refine CT.of (by decide +kernel) (Nat.le_of_ble_eq_true rfl) (fun zp ze zs zm zar zbe zme zc C _ => ?_)
  have C : Cx zp zs zm zar zme zc κ cX4_set 4 RX4 (some .int) := C
  refine ws_lv (lv2 := [some (.ref (ad κ 0)), some (.int (x)), some (.int (y)), none]) rfl ?_
  obtain ⟨hO, hS1, hS8, hLg, hLb, hPd, hHs, hSl⟩ := hX
  have hF : Fr (fun q : Nat => q < 91) st0 st0 := Fr.rf
  refine ws_iload_n 0 C dX4_set_0 rfl ?_
  refine ws_if_lt 1 C 9 dX4_set_1 (by decide)  (fun c1 => ?_) (fun c1 => ?_)
  · skip
    have hn := ixv_n (n := 4) c1
    refine ws_sipush 9 C dX4_set_9 ((-1002)) (by decide) ?_
    exact ws_iret 12 C  dX4_set_12 rfl (Nat.le_refl _) (Nat.le_refl _) (by rw [hP]; exact PX_ret (fSet_n hn) ⟨hO, hS1, hS8, hLg, hLb, hPd, hHs, hSl⟩ hF)
  · skip
    refine ws_iload_n 4 C dX4_set_4 rfl ?_
    refine ws_iconst 5 C dX4_set_5 (nI 4) (by decide) ?_
    refine ws_icmp_lt 6 C 13 dX4_set_6 (by decide)  (fun c6 => ?_) (fun c6 => ?_)
    · skip
      obtain ⟨k, hk, hxk, hix⟩ := ixv_of (n := 4) (by decide) c1 c6
      refine ws_wk (lv2 := [some (.ref (ad κ 0)), some (.int (nI k)), some (.int (y)), none]) ⟨rfl, (congrArg Value.int hxk.symm), rfl, trivial⟩ ?_
      refine ws_iload_n 13 C dX4_set_13 rfl ?_
      refine ws_gstL 14 C dX4_set_14 k98 ?_
      refine ws_iload_n 17 C dX4_set_17 rfl ?_
      refine ws_staL 18 C dX4_set_18 (vp_in_nI (by omega) (by decide)) (lsv k) (congrArg lsv (nI_clamp (by omega))) ?_
      refine ws_icmp_lt 19 C 31 dX4_set_19 (by decide)  (fun c19 => ?_) (fun c19 => ?_)
      · skip
        have hb : ¬ (lsv k ≤ y ∧ y ≤ gsv k) := fun q => Int32.not_lt.mpr q.1 c19
        refine ws_sipush 31 C dX4_set_31 ((-1002)) (by decide) ?_
        exact ws_iret 34 C  dX4_set_34 rfl (Nat.le_refl _) (Nat.le_refl _) (by rw [hP]; exact PX_ret (fSet_b hix hb) ⟨hO, hS1, hS8, hLg, hLb, hPd, hHs, hSl⟩ hF)
      · skip
        refine ws_iload_n 22 C dX4_set_22 rfl ?_
        refine ws_gstG 23 C dX4_set_23 k100 ?_
        refine ws_iload_n 26 C dX4_set_26 rfl ?_
        refine ws_staG 27 C dX4_set_27 (vp_in_nI (by omega) (by decide)) (gsv k) (congrArg gsv (nI_clamp (by omega))) ?_
        refine ws_icmp_le 28 C 35 dX4_set_28 (by decide)  (fun c28 => ?_) (fun c28 => ?_)
        · skip
          refine ws_aload_n 35 C dX4_set_35 rfl ?_
          obtain ⟨g, nx, hH, -⟩ := id hHs
          refine ws_get 36 C dX4_set_36 fX4_39 hO rfl rfl ?_
          refine ws_aload_n 39 C dX4_set_39 rfl ?_
          refine ws_get 40 C dX4_set_40 fX4_10 hO rfl rfl ?_
          refine ws_callV0 43 C dX4_set_43 vX4_58 (c_X0_record hHs hS1) rfl hH rfl rfl ⟨by decide, by decide⟩ ⟨Nat.zero_le _, Nat.zero_le _⟩ rfl rfl rfl (kV (fun u43 h43 => ?_))
          obtain ⟨hHs, hfr⟩ := h43
          have hS1 := hS1.fr hfr (fun q (g1 : 1 ≤ q) (g2 : q < 8) => (show ¬ (31 ≤ q ∧ q < 75) from by omega))
          have hS8 := hS8.fr hfr (fun q (g1 : 8 ≤ q) (g2 : q < 15) => (show ¬ (31 ≤ q ∧ q < 75) from by omega))
          have hLg := hLg.fr hfr (fun q (g1 : 15 ≤ q) (g2 : q < 22) => (show ¬ (31 ≤ q ∧ q < 75) from by omega))
          have hLb := hLb.fr hfr (fun q (g1 : 22 ≤ q) (g2 : q < 29) => (show ¬ (31 ≤ q ∧ q < 75) from by omega))
          have hPd := hPd.fr hfr (fun q (g1 : 29 ≤ q) (g2 : q < 31) => (show ¬ (31 ≤ q ∧ q < 75) from by omega))
          have hSl := hSl.fr hfr (fun q (g1 : 75 ≤ q) (g2 : q < 91) => (show ¬ (31 ≤ q ∧ q < 75) from by omega))
          have hO := hfr.ob hO (fun q (g1 : 0 ≤ q) (g2 : q < 0 + 1) => (show ¬ (31 ≤ q ∧ q < 75) from by omega))
          have hF := hF.then hfr (fun q (hq : 31 ≤ q ∧ q < 75) => (show q < 91 from by omega))
          obtain ⟨f1, f2, f3, f4, f5, f6, hB, hR⟩ := id hS1
          have h24 := hR.le
          refine ws_aload_n 46 C dX4_set_46 rfl ?_
          refine ws_get 47 C dX4_set_47 fX4_10 hO rfl rfl ?_
          refine ws_get 50 C dX4_set_50 fX4_62 hB rfl rfl ?_
          refine ws_iload_n 53 C dX4_set_53 rfl ?_
          refine ws_iald 54 C dX4_set_54 hB 1 rfl (vp_in_nI (by omega) (by decide)) (mv (sM S) 0 k) ((congrArg f1 (nI_clamp (by omega))).trans (hR.set hk)) ?_
          refine ws_istore_n 55 C dX4_set_55 rfl [some (.ref (ad κ 0)), some (.int (nI k)), some (.int (y)), some (.int (mv (sM S) 0 k))] rfl ?_
          refine ws_aload_n 56 C dX4_set_56 rfl ?_
          refine ws_get 57 C dX4_set_57 fX4_10 hO rfl rfl ?_
          refine ws_get 60 C dX4_set_60 fX4_62 hB rfl rfl ?_
          refine ws_iload_n 63 C dX4_set_63 rfl ?_
          refine ws_iload_n 64 C dX4_set_64 rfl ?_
          refine ws_iast 65 C dX4_set_65 hB 1 rfl (vp_in_nI (by omega) (by decide)) k (nI_clamp (by omega)) (y) rfl (fun st1 est1 => ?_)
          have hO := hO.ne' (L := 1) est1 rfl (by omega)
          have hB : Ob z st1 1 (bSh κ 1 (upd f1 k (y)) f2 f3 f4 f5 f6 (nI (mn (sM S)))) := Ob.put' (j := 1) hB est1 rfl
          have hS8 := hS8.fr (Fr.one est1) (fun q (g1 : 8 ≤ q) (g2 : q < 15) => (show ¬ (q = 2) from by omega))
          have hLg := hLg.fr (Fr.one est1) (fun q (g1 : 15 ≤ q) (g2 : q < 22) => (show ¬ (q = 2) from by omega))
          have hLb := hLb.fr (Fr.one est1) (fun q (g1 : 22 ≤ q) (g2 : q < 29) => (show ¬ (q = 2) from by omega))
          have hPd := hPd.fr (Fr.one est1) (fun q (g1 : 29 ≤ q) (g2 : q < 31) => (show ¬ (q = 2) from by omega))
          have hHs := hHs.fr (Fr.one est1) (fun q (g1 : 31 ≤ q) (g2 : q < 75) => (show ¬ (q = 2) from by omega))
          have hSl := hSl.fr (Fr.one est1) (fun q (g1 : 75 ≤ q) (g2 : q < 91) => (show ¬ (q = 2) from by omega))
          have hF := hF.put' est1 (show (2) < 91 from by omega)
          refine ws_iload_n 66 C dX4_set_66 rfl ?_
          exact ws_iret 67 C  dX4_set_67 rfl (Nat.le_refl _) (Nat.le_refl _) (by rw [hP]; exact PX_ret (fSet_s hix (Int32.not_lt.mp c19) c28) ⟨hO, ⟨_, _, _, _, _, _, hB, Rp_set hR⟩, hS8, hLg, hLb, hPd, hHs, hSl⟩ hF)
        · skip
          have hb : ¬ (lsv k ≤ y ∧ y ≤ gsv k) := fun q => c28 q.2
          refine ws_sipush 31 C dX4_set_31 ((-1002)) (by decide) ?_
          exact ws_iret 34 C  dX4_set_34 rfl (Nat.le_refl _) (Nat.le_refl _) (by rw [hP]; exact PX_ret (fSet_b hix hb) ⟨hO, hS1, hS8, hLg, hLb, hPd, hHs, hSl⟩ hF)
    · skip
      have hn := ixv_g (n := 4) c6
      refine ws_sipush 9 C dX4_set_9 ((-1002)) (by decide) ?_
      exact ws_iret 12 C  dX4_set_12 rfl (Nat.le_refl _) (Nat.le_refl _) (by rw [hP]; exact PX_ret (fSet_n hn) ⟨hO, hS1, hS8, hLg, hLb, hPd, hHs, hSl⟩ hF)

set_option maxRecDepth 100000 in
set_option maxHeartbeats 4000000 in
theorem c_X4_sort {S : Sg} (hX : XI κ z st0 S) {x w l r : Int32} : CT zl κ yX4_sort cX4_sort 6 (some .int) (r0 3 60) z [.ref (ad κ 0), .int (x), .int (w), .int (l), .int (r)] st0 (PX κ z st0 (fSort S x w l r)) := by
  obtain ⟨P, hP⟩ : ∃ P : Option Value → St → Prop, P = (PX κ z st0 (fSort S x w l r)) := ⟨_, rfl⟩
  rw [← hP]
  refine CT.of (by decide +kernel) (Nat.le_of_ble_eq_true rfl) (fun zp ze zs zm zar zbe zme zc C _ => ?_)
  have C : Cx zp zs zm zar zme zc κ cX4_sort 6 RX4 (some .int) := C
  refine ws_lv (lv2 := [some (.ref (ad κ 0)), some (.int (x)), some (.int (w)), some (.int (l)), some (.int (r)), none]) rfl ?_
  obtain ⟨hO, hS1, hS8, hLg, hLb, hPd, hHs, hSl⟩ := hX
  have hF : Fr (fun q : Nat => q < 91) st0 st0 := Fr.rf
  refine ws_iload_n 0 C dX4_sort_0 rfl ?_
  refine ws_callS0 1 C dX4_sort_1 vX4_65 (c_X4_isSort) rfl ⟨by decide, by decide⟩ ⟨Nat.zero_le _, Nat.zero_le _⟩ rfl rfl rfl (kR ?_)
  refine ws_if_ne 4 C 11 dX4_sort_4 (by decide)  (fun c4 => ?_) (fun c4 => ?_)
  · skip
    obtain ⟨q, hq, hxq, hix⟩ := bix_1 (n := 8) (by decide) c4
    refine ws_wk (lv2 := [some (.ref (ad κ 0)), some (.int (nI q)), some (.int (w)), some (.int (l)), some (.int (r)), none]) ⟨rfl, (congrArg Value.int hxq.symm), rfl, rfl, rfl, trivial⟩ ?_
    refine ws_iload_n 11 C dX4_sort_11 rfl ?_
    refine ws_iconst 12 C dX4_sort_12 (nI 1) (by decide) ?_
    refine ws_icmp_lt 13 C 37 dX4_sort_13 (by decide)  (fun c13 => ?_) (fun c13 => ?_)
    · skip
      have hb : ¬ ((nI 1 ≤ w ∧ w ≤ nI 20) ∧ ixv l 101 ≠ none ∧ ixv r 101 ≠ none) := fun q => Int32.not_lt.mpr q.1.1 c13
      refine ws_sipush 37 C dX4_sort_37 ((-1002)) (by decide) ?_
      exact ws_iret 40 C  dX4_sort_40 rfl (Nat.le_refl _) (Nat.le_refl _) (by rw [hP]; exact PX_ret (fSort_b hix hb) ⟨hO, hS1, hS8, hLg, hLb, hPd, hHs, hSl⟩ hF)
    · skip
      refine ws_iload_n 16 C dX4_sort_16 rfl ?_
      refine ws_bipush 17 C dX4_sort_17 (nI 20) (by decide) ?_
      refine ws_icmp_gt 19 C 37 dX4_sort_19 (by decide)  (fun c19 => ?_) (fun c19 => ?_)
      · skip
        have hb : ¬ ((nI 1 ≤ w ∧ w ≤ nI 20) ∧ ixv l 101 ≠ none ∧ ixv r 101 ≠ none) := fun q => Int32.not_lt.mpr q.1.2 c19
        refine ws_sipush 37 C dX4_sort_37 ((-1002)) (by decide) ?_
        exact ws_iret 40 C  dX4_sort_40 rfl (Nat.le_refl _) (Nat.le_refl _) (by rw [hP]; exact PX_ret (fSort_b hix hb) ⟨hO, hS1, hS8, hLg, hLb, hPd, hHs, hSl⟩ hF)
      · skip
        refine ws_iload_n 22 C dX4_sort_22 rfl ?_
        refine ws_callS0 23 C dX4_sort_23 vX4_69 (c_X4_isShare) rfl ⟨by decide, by decide⟩ ⟨Nat.zero_le _, Nat.zero_le _⟩ rfl rfl rfl (kR ?_)
        refine ws_if_eq 26 C 37 dX4_sort_26 (by decide)  (fun c26 => ?_) (fun c26 => ?_)
        · skip
          have hb : ¬ ((nI 1 ≤ w ∧ w ≤ nI 20) ∧ ixv l 101 ≠ none ∧ ixv r 101 ≠ none) := fun q => q.2.1 (bix_0 c26)
          refine ws_sipush 37 C dX4_sort_37 ((-1002)) (by decide) ?_
          exact ws_iret 40 C  dX4_sort_40 rfl (Nat.le_refl _) (Nat.le_refl _) (by rw [hP]; exact PX_ret (fSort_b hix hb) ⟨hO, hS1, hS8, hLg, hLb, hPd, hHs, hSl⟩ hF)
        · skip
          refine ws_iload 29 C dX4_sort_29 rfl ?_
          refine ws_callS0 31 C dX4_sort_31 vX4_69 (c_X4_isShare) rfl ⟨by decide, by decide⟩ ⟨Nat.zero_le _, Nat.zero_le _⟩ rfl rfl rfl (kR ?_)
          refine ws_if_ne 34 C 41 dX4_sort_34 (by decide)  (fun c34 => ?_) (fun c34 => ?_)
          · skip
            refine ws_aload_n 41 C dX4_sort_41 rfl ?_
            obtain ⟨g, nx, hH, -⟩ := id hHs
            refine ws_get 42 C dX4_sort_42 fX4_39 hO rfl rfl ?_
            refine ws_aload_n 45 C dX4_sort_45 rfl ?_
            refine ws_get 46 C dX4_sort_46 fX4_10 hO rfl rfl ?_
            refine ws_callV0 49 C dX4_sort_49 vX4_58 (c_X0_record hHs hS1) rfl hH rfl rfl ⟨by decide, by decide⟩ ⟨Nat.zero_le _, Nat.zero_le _⟩ rfl rfl rfl (kV (fun u49 h49 => ?_))
            obtain ⟨hHs, hfr⟩ := h49
            have hS1 := hS1.fr hfr (fun q (g1 : 1 ≤ q) (g2 : q < 8) => (show ¬ (31 ≤ q ∧ q < 75) from by omega))
            have hS8 := hS8.fr hfr (fun q (g1 : 8 ≤ q) (g2 : q < 15) => (show ¬ (31 ≤ q ∧ q < 75) from by omega))
            have hLg := hLg.fr hfr (fun q (g1 : 15 ≤ q) (g2 : q < 22) => (show ¬ (31 ≤ q ∧ q < 75) from by omega))
            have hLb := hLb.fr hfr (fun q (g1 : 22 ≤ q) (g2 : q < 29) => (show ¬ (31 ≤ q ∧ q < 75) from by omega))
            have hPd := hPd.fr hfr (fun q (g1 : 29 ≤ q) (g2 : q < 31) => (show ¬ (31 ≤ q ∧ q < 75) from by omega))
            have hSl := hSl.fr hfr (fun q (g1 : 75 ≤ q) (g2 : q < 91) => (show ¬ (31 ≤ q ∧ q < 75) from by omega))
            have hO := hfr.ob hO (fun q (g1 : 0 ≤ q) (g2 : q < 0 + 1) => (show ¬ (31 ≤ q ∧ q < 75) from by omega))
            have hF := hF.then hfr (fun q (hq : 31 ≤ q ∧ q < 75) => (show q < 91 from by omega))
            obtain ⟨f1, f2, f3, f4, f5, f6, hB, hR⟩ := id hS1
            have h24 := hR.le
            refine ws_aload_n 52 C dX4_sort_52 rfl ?_
            refine ws_get 53 C dX4_sort_53 fX4_10 hO rfl rfl ?_
            refine ws_get 56 C dX4_sort_56 fX4_72 hB rfl rfl ?_
            refine ws_iload_n 59 C dX4_sort_59 rfl ?_
            refine ws_iald 60 C dX4_sort_60 hB 2 rfl (vp_in_nI (by omega) (by decide)) (mv (sM S) 1 q) ((congrArg f2 (nI_clamp (by omega))).trans (hR.wid hq)) ?_
            refine ws_istore 61 C dX4_sort_61 rfl [some (.ref (ad κ 0)), some (.int (nI q)), some (.int (w)), some (.int (l)), some (.int (r)), some (.int (mv (sM S) 1 q))] rfl ?_
            refine ws_aload_n 63 C dX4_sort_63 rfl ?_
            refine ws_get 64 C dX4_sort_64 fX4_10 hO rfl rfl ?_
            refine ws_get 67 C dX4_sort_67 fX4_72 hB rfl rfl ?_
            refine ws_iload_n 70 C dX4_sort_70 rfl ?_
            refine ws_iload_n 71 C dX4_sort_71 rfl ?_
            refine ws_iast 72 C dX4_sort_72 hB 2 rfl (vp_in_nI (by omega) (by decide)) q (nI_clamp (by omega)) (w) rfl (fun st1 est1 => ?_)
            have hO := hO.ne' (L := 1) est1 rfl (by omega)
            have hB : Ob z st1 1 (bSh κ 1 f1 (upd f2 q (w)) f3 f4 f5 f6 (nI (mn (sM S)))) := Ob.put' (j := 2) hB est1 rfl
            have hS8 := hS8.fr (Fr.one est1) (fun q (g1 : 8 ≤ q) (g2 : q < 15) => (show ¬ (q = 3) from by omega))
            have hLg := hLg.fr (Fr.one est1) (fun q (g1 : 15 ≤ q) (g2 : q < 22) => (show ¬ (q = 3) from by omega))
            have hLb := hLb.fr (Fr.one est1) (fun q (g1 : 22 ≤ q) (g2 : q < 29) => (show ¬ (q = 3) from by omega))
            have hPd := hPd.fr (Fr.one est1) (fun q (g1 : 29 ≤ q) (g2 : q < 31) => (show ¬ (q = 3) from by omega))
            have hHs := hHs.fr (Fr.one est1) (fun q (g1 : 31 ≤ q) (g2 : q < 75) => (show ¬ (q = 3) from by omega))
            have hSl := hSl.fr (Fr.one est1) (fun q (g1 : 75 ≤ q) (g2 : q < 91) => (show ¬ (q = 3) from by omega))
            have hF := hF.put' est1 (show (3) < 91 from by omega)
            refine ws_aload_n 73 C dX4_sort_73 rfl ?_
            refine ws_get 74 C dX4_sort_74 fX4_10 hO rfl rfl ?_
            refine ws_get 77 C dX4_sort_77 fX4_75 hB rfl rfl ?_
            refine ws_iload_n 80 C dX4_sort_80 rfl ?_
            refine ws_iload_n 81 C dX4_sort_81 rfl ?_
            refine ws_iast 82 C dX4_sort_82 hB 3 rfl (vp_in_nI (by omega) (by decide)) q (nI_clamp (by omega)) (l) rfl (fun st2 est2 => ?_)
            have hO := hO.ne' (L := 1) est2 rfl (by omega)
            have hB : Ob z st2 1 (bSh κ 1 f1 (upd f2 q (w)) (upd f3 q (l)) f4 f5 f6 (nI (mn (sM S)))) := Ob.put' (j := 3) hB est2 rfl
            have hS8 := hS8.fr (Fr.one est2) (fun q (g1 : 8 ≤ q) (g2 : q < 15) => (show ¬ (q = 4) from by omega))
            have hLg := hLg.fr (Fr.one est2) (fun q (g1 : 15 ≤ q) (g2 : q < 22) => (show ¬ (q = 4) from by omega))
            have hLb := hLb.fr (Fr.one est2) (fun q (g1 : 22 ≤ q) (g2 : q < 29) => (show ¬ (q = 4) from by omega))
            have hPd := hPd.fr (Fr.one est2) (fun q (g1 : 29 ≤ q) (g2 : q < 31) => (show ¬ (q = 4) from by omega))
            have hHs := hHs.fr (Fr.one est2) (fun q (g1 : 31 ≤ q) (g2 : q < 75) => (show ¬ (q = 4) from by omega))
            have hSl := hSl.fr (Fr.one est2) (fun q (g1 : 75 ≤ q) (g2 : q < 91) => (show ¬ (q = 4) from by omega))
            have hF := hF.put' est2 (show (4) < 91 from by omega)
            refine ws_aload_n 83 C dX4_sort_83 rfl ?_
            refine ws_get 84 C dX4_sort_84 fX4_10 hO rfl rfl ?_
            refine ws_get 87 C dX4_sort_87 fX4_78 hB rfl rfl ?_
            refine ws_iload_n 90 C dX4_sort_90 rfl ?_
            refine ws_iload 91 C dX4_sort_91 rfl ?_
            refine ws_iast 93 C dX4_sort_93 hB 4 rfl (vp_in_nI (by omega) (by decide)) q (nI_clamp (by omega)) (r) rfl (fun st3 est3 => ?_)
            have hO := hO.ne' (L := 1) est3 rfl (by omega)
            have hB : Ob z st3 1 (bSh κ 1 f1 (upd f2 q (w)) (upd f3 q (l)) (upd f4 q (r)) f5 f6 (nI (mn (sM S)))) := Ob.put' (j := 4) hB est3 rfl
            have hS8 := hS8.fr (Fr.one est3) (fun q (g1 : 8 ≤ q) (g2 : q < 15) => (show ¬ (q = 5) from by omega))
            have hLg := hLg.fr (Fr.one est3) (fun q (g1 : 15 ≤ q) (g2 : q < 22) => (show ¬ (q = 5) from by omega))
            have hLb := hLb.fr (Fr.one est3) (fun q (g1 : 22 ≤ q) (g2 : q < 29) => (show ¬ (q = 5) from by omega))
            have hPd := hPd.fr (Fr.one est3) (fun q (g1 : 29 ≤ q) (g2 : q < 31) => (show ¬ (q = 5) from by omega))
            have hHs := hHs.fr (Fr.one est3) (fun q (g1 : 31 ≤ q) (g2 : q < 75) => (show ¬ (q = 5) from by omega))
            have hSl := hSl.fr (Fr.one est3) (fun q (g1 : 75 ≤ q) (g2 : q < 91) => (show ¬ (q = 5) from by omega))
            have hF := hF.put' est3 (show (5) < 91 from by omega)
            refine ws_iload 94 C dX4_sort_94 rfl ?_
            exact ws_iret 96 C  dX4_sort_96 rfl (Nat.le_refl _) (Nat.le_refl _) (by rw [hP]; exact PX_ret (fSort_s hix ⟨⟨Int32.not_lt.mp c13, Int32.not_lt.mp c19⟩, bix_ne c26, bix_ne c34⟩) ⟨hO, ⟨_, _, _, _, _, _, hB, Rp_sort hR⟩, hS8, hLg, hLb, hPd, hHs, hSl⟩ hF)
          · skip
            have hb : ¬ ((nI 1 ≤ w ∧ w ≤ nI 20) ∧ ixv l 101 ≠ none ∧ ixv r 101 ≠ none) := fun q => q.2.2 (bix_0 c34)
            refine ws_sipush 37 C dX4_sort_37 ((-1002)) (by decide) ?_
            exact ws_iret 40 C  dX4_sort_40 rfl (Nat.le_refl _) (Nat.le_refl _) (by rw [hP]; exact PX_ret (fSort_b hix hb) ⟨hO, hS1, hS8, hLg, hLb, hPd, hHs, hSl⟩ hF)
  · skip
    have hn := bix_0 c4
    refine ws_sipush 7 C dX4_sort_7 ((-1001)) (by decide) ?_
    exact ws_iret 10 C  dX4_sort_10 rfl (Nat.le_refl _) (Nat.le_refl _) (by rw [hP]; exact PX_ret (fSort_n hn) ⟨hO, hS1, hS8, hLg, hLb, hPd, hHs, hSl⟩ hF)

set_option maxRecDepth 100000 in
set_option maxHeartbeats 4000000 in
theorem c_X4_read {S : Sg} (hX : XI κ z st0 S) : CT zl κ yX4_read cX4_read 1 (some .int) (r0 3 60) z [.ref (ad κ 0)] st0 (PX κ z st0 (fRead S)) := by
  obtain ⟨P, hP⟩ : ∃ P : Option Value → St → Prop, P = (PX κ z st0 (fRead S)) := ⟨_, rfl⟩
  rw [← hP]
  refine CT.of (by decide +kernel) (Nat.le_of_ble_eq_true rfl) (fun zp ze zs zm zar zbe zme zc C _ => ?_)
  have C : Cx zp zs zm zar zme zc κ cX4_read 1 RX4 (some .int) := C
  refine ws_lv (lv2 := [some (.ref (ad κ 0))]) rfl ?_
  obtain ⟨hO, hS1, hS8, hLg, hLb, hPd, hHs, hSl⟩ := hX
  have hF : Fr (fun q : Nat => q < 91) st0 st0 := Fr.rf
  refine ws_aload_n 0 C dX4_read_0 rfl ?_
  obtain ⟨t, hP2, hpd⟩ := id hPd
  have h60 := hpd.1
  have hwl := wno_le (sPt S) (sPn S)
  refine ws_get 1 C dX4_read_1 fX4_32 hO rfl rfl ?_
  refine ws_callV0 4 C dX4_read_4 vX4_81 (c_X2_firstFault hP2 hpd) rfl hP2 rfl rfl ⟨by decide, by decide⟩ ⟨Nat.zero_le _, Nat.zero_le _⟩ rfl rfl rfl (kR ?_)
  refine ws_sipush 7 C dX4_read_7 ((-1006)) (by decide) ?_
  refine ws_icmp_eq 10 C 17 dX4_read_10 (by decide)  (fun c10 => ?_) (fun c10 => ?_)
  · skip
    refine ws_aload_n 17 C dX4_read_17 rfl ?_
    obtain ⟨f1, f2, f3, f4, f5, f6, hB, hR⟩ := id hS1
    have h24 := hR.le
    refine ws_get 18 C dX4_read_18 fX4_10 hO rfl rfl ?_
    refine ws_get 21 C dX4_read_21 fX4_85 hB rfl rfl ?_
    refine ws_aload_n 24 C dX4_read_24 rfl ?_
    refine ws_get 25 C dX4_read_25 fX4_32 hO rfl rfl ?_
    refine ws_callV0 28 C dX4_read_28 vX4_89 (c_X2_countWords hP2 hpd) rfl hP2 rfl rfl ⟨by decide, by decide⟩ ⟨Nat.zero_le _, Nat.zero_le _⟩ rfl rfl rfl (kR ?_)
    refine ws_iadd 31 C dX4_read_31 (nI (mn (sM S) + wno (sPt S) (sPn S))) (nI_add _ _) ?_
    refine ws_bipush 32 C dX4_read_32 (nI 24) (by decide) ?_
    refine ws_nicmp_le 34 C 41 dX4_read_34 (by decide) (by omega) (by omega) (fun c34 => ?_) (fun c34 => ?_)
    · skip
      refine ws_aload_n 41 C dX4_read_41 rfl ?_
      obtain ⟨g, nx, hH, -⟩ := id hHs
      refine ws_get 42 C dX4_read_42 fX4_39 hO rfl rfl ?_
      refine ws_aload_n 45 C dX4_read_45 rfl ?_
      refine ws_get 46 C dX4_read_46 fX4_10 hO rfl rfl ?_
      refine ws_callV0 49 C dX4_read_49 vX4_58 (c_X0_record hHs hS1) rfl hH rfl rfl ⟨by decide, by decide⟩ ⟨Nat.zero_le _, Nat.zero_le _⟩ rfl rfl rfl (kV (fun u49 h49 => ?_))
      obtain ⟨hHs, hfr⟩ := h49
      have hS1 := hS1.fr hfr (fun q (g1 : 1 ≤ q) (g2 : q < 8) => (show ¬ (31 ≤ q ∧ q < 75) from by omega))
      have hS8 := hS8.fr hfr (fun q (g1 : 8 ≤ q) (g2 : q < 15) => (show ¬ (31 ≤ q ∧ q < 75) from by omega))
      have hLg := hLg.fr hfr (fun q (g1 : 15 ≤ q) (g2 : q < 22) => (show ¬ (31 ≤ q ∧ q < 75) from by omega))
      have hLb := hLb.fr hfr (fun q (g1 : 22 ≤ q) (g2 : q < 29) => (show ¬ (31 ≤ q ∧ q < 75) from by omega))
      have hPd := hPd.fr hfr (fun q (g1 : 29 ≤ q) (g2 : q < 31) => (show ¬ (31 ≤ q ∧ q < 75) from by omega))
      have hSl := hSl.fr hfr (fun q (g1 : 75 ≤ q) (g2 : q < 91) => (show ¬ (31 ≤ q ∧ q < 75) from by omega))
      have hO := hfr.ob hO (fun q (g1 : 0 ≤ q) (g2 : q < 0 + 1) => (show ¬ (31 ≤ q ∧ q < 75) from by omega))
      have hP2 := hfr.ob hP2 (fun q (g1 : 29 ≤ q) (g2 : q < 29 + 2) => (show ¬ (31 ≤ q ∧ q < 75) from by omega))
      have hB := hfr.ob hB (fun q (g1 : 1 ≤ q) (g2 : q < 1 + 7) => (show ¬ (31 ≤ q ∧ q < 75) from by omega))
      have hF := hF.then hfr (fun q (hq : 31 ≤ q ∧ q < 75) => (show q < 91 from by omega))
      refine ws_aload_n 52 C dX4_read_52 rfl ?_
      refine ws_get 53 C dX4_read_53 fX4_32 hO rfl rfl ?_
      refine ws_aload_n 56 C dX4_read_56 rfl ?_
      refine ws_get 57 C dX4_read_57 fX4_10 hO rfl rfl ?_
      refine ws_callV0 60 C dX4_read_60 vX4_92 (c_X2_addWordsTo hP2 hpd hB hR (by omega) (flt_no h60 c10) c34) rfl hP2 rfl rfl ⟨by decide, by decide⟩ ⟨Nat.zero_le _, Nat.zero_le _⟩ rfl rfl rfl (kV (fun u60 h60 => ?_))
      obtain ⟨hS1, hfr⟩ := h60
      have hS8 := hS8.fr hfr (fun q (g1 : 8 ≤ q) (g2 : q < 15) => (show ¬ (1 ≤ q ∧ q < 1 + 7) from by omega))
      have hLg := hLg.fr hfr (fun q (g1 : 15 ≤ q) (g2 : q < 22) => (show ¬ (1 ≤ q ∧ q < 1 + 7) from by omega))
      have hLb := hLb.fr hfr (fun q (g1 : 22 ≤ q) (g2 : q < 29) => (show ¬ (1 ≤ q ∧ q < 1 + 7) from by omega))
      have hPd := hPd.fr hfr (fun q (g1 : 29 ≤ q) (g2 : q < 31) => (show ¬ (1 ≤ q ∧ q < 1 + 7) from by omega))
      have hHs := hHs.fr hfr (fun q (g1 : 31 ≤ q) (g2 : q < 75) => (show ¬ (1 ≤ q ∧ q < 1 + 7) from by omega))
      have hSl := hSl.fr hfr (fun q (g1 : 75 ≤ q) (g2 : q < 91) => (show ¬ (1 ≤ q ∧ q < 1 + 7) from by omega))
      have hO := hfr.ob hO (fun q (g1 : 0 ≤ q) (g2 : q < 0 + 1) => (show ¬ (1 ≤ q ∧ q < 1 + 7) from by omega))
      have hP2 := hfr.ob hP2 (fun q (g1 : 29 ≤ q) (g2 : q < 29 + 2) => (show ¬ (1 ≤ q ∧ q < 1 + 7) from by omega))
      have hF := hF.then hfr (fun q (hq : 1 ≤ q ∧ q < 1 + 7) => (show q < 91 from by omega))
      refine ws_aload_n 63 C dX4_read_63 rfl ?_
      refine ws_get 64 C dX4_read_64 fX4_32 hO rfl rfl ?_
      refine ws_iconst 67 C dX4_read_67 (nI 0) (by decide) ?_
      refine ws_put 68 C dX4_read_68 fX4_95 q2_1 hP2 rfl (Nat.le_of_ble_eq_true rfl) rfl rfl (fun st1 est1 => ?_)
      have hO := hO.ne' (L := 1) est1 rfl (by omega)
      have hP2 : Ob z st1 29 (bPd κ 29 t (nI 0)) := Ob.put' (j := 0) hP2 est1 rfl
      have hS1 := hS1.fr (Fr.one est1) (fun q (g1 : 1 ≤ q) (g2 : q < 8) => (show ¬ (q = 29) from by omega))
      have hS8 := hS8.fr (Fr.one est1) (fun q (g1 : 8 ≤ q) (g2 : q < 15) => (show ¬ (q = 29) from by omega))
      have hLg := hLg.fr (Fr.one est1) (fun q (g1 : 15 ≤ q) (g2 : q < 22) => (show ¬ (q = 29) from by omega))
      have hLb := hLb.fr (Fr.one est1) (fun q (g1 : 22 ≤ q) (g2 : q < 29) => (show ¬ (q = 29) from by omega))
      have hHs := hHs.fr (Fr.one est1) (fun q (g1 : 31 ≤ q) (g2 : q < 75) => (show ¬ (q = 29) from by omega))
      have hSl := hSl.fr (Fr.one est1) (fun q (g1 : 75 ≤ q) (g2 : q < 91) => (show ¬ (q = 29) from by omega))
      have hF := hF.put' est1 (show (29) < 91 from by omega)
      refine ws_aload_n 71 C dX4_read_71 rfl ?_
      obtain ⟨k1, k2, k3, k4, k5, k6, hB, hR2⟩ := id hS1
      refine ws_get 72 C dX4_read_72 fX4_10 hO rfl rfl ?_
      refine ws_get 75 C dX4_read_75 fX4_85 hB rfl rfl ?_
      exact ws_iret 78 C  dX4_read_78 rfl (Nat.le_refl _) (Nat.le_refl _) (by rw [hP]; exact PX_ret (fRead_s c10 c34) ⟨hO, hS1, hS8, hLg, hLb, ⟨t, hP2, Nat.zero_le _, hpd.2.1, fun k hk => absurd hk (Nat.not_lt_zero k)⟩, hHs, hSl⟩ hF)
    · skip
      refine ws_sipush 37 C dX4_read_37 ((-1004)) (by decide) ?_
      exact ws_iret 40 C  dX4_read_40 rfl (Nat.le_refl _) (Nat.le_refl _) (by rw [hP]; exact PX_ret (fRead_t c10 (by omega)) ⟨hO, hS1, hS8, hLg, hLb, hPd, hHs, hSl⟩ hF)
  · skip
    refine ws_sipush 13 C dX4_read_13 ((-1003)) (by decide) ?_
    exact ws_iret 16 C  dX4_read_16 rfl (Nat.le_refl _) (Nat.le_refl _) (by rw [hP]; exact PX_ret (fRead_b c10) ⟨hO, hS1, hS8, hLg, hLb, hPd, hHs, hSl⟩ hF)

set_option maxRecDepth 100000 in
set_option maxHeartbeats 4000000 in
theorem c_X4_drop {S : Sg} (hX : XI κ z st0 S) {x : Int32} : CT zl κ yX4_drop cX4_drop 3 (some .int) (r0 3 67) z [.ref (ad κ 0), .int (x)] st0 (PX κ z st0 (fDrop S x)) := by
  obtain ⟨P, hP⟩ : ∃ P : Option Value → St → Prop, P = (PX κ z st0 (fDrop S x)) := ⟨_, rfl⟩
  rw [← hP]
  refine CT.of (by decide +kernel) (Nat.le_of_ble_eq_true rfl) (fun zp ze zs zm zar zbe zme zc C _ => ?_)
  have C : Cx zp zs zm zar zme zc κ cX4_drop 3 RX4 (some .int) := C
  refine ws_lv (lv2 := [some (.ref (ad κ 0)), some (.int (x)), none]) rfl ?_
  obtain ⟨hO, hS1, hS8, hLg, hLb, hPd, hHs, hSl⟩ := hX
  have hF : Fr (fun q : Nat => q < 91) st0 st0 := Fr.rf
  obtain ⟨f1, f2, f3, f4, f5, f6, hB, hR⟩ := id hS1
  have h24 := hR.le
  refine ws_aload_n 0 C dX4_drop_0 rfl ?_
  refine ws_iload_n 1 C dX4_drop_1 rfl ?_
  refine ws_callV0 2 C dX4_drop_2 vX4_98 (c_X4_isWord hO hS1) rfl hO rfl rfl ⟨by decide, by decide⟩ ⟨Nat.zero_le _, Nat.zero_le _⟩ rfl rfl rfl (kR ?_)
  refine ws_if_ne 5 C 12 dX4_drop_5 (by decide)  (fun c5 => ?_) (fun c5 => ?_)
  · skip
    obtain ⟨i, hi, hxi, hix⟩ := bix_1 (n := mn (sM S)) (by omega) c5
    refine ws_wk (lv2 := [some (.ref (ad κ 0)), some (.int (nI i)), none]) ⟨rfl, (congrArg Value.int hxi.symm), trivial⟩ ?_
    refine ws_aload_n 12 C dX4_drop_12 rfl ?_
    obtain ⟨g, nx, hH, -⟩ := id hHs
    refine ws_get 13 C dX4_drop_13 fX4_39 hO rfl rfl ?_
    refine ws_aload_n 16 C dX4_drop_16 rfl ?_
    refine ws_get 17 C dX4_drop_17 fX4_10 hO rfl rfl ?_
    refine ws_callV0 20 C dX4_drop_20 vX4_58 (c_X0_record hHs hS1) rfl hH rfl rfl ⟨by decide, by decide⟩ ⟨Nat.zero_le _, Nat.zero_le _⟩ rfl rfl rfl (kV (fun u20 h20 => ?_))
    obtain ⟨hHs, hfr⟩ := h20
    have hS1 := hS1.fr hfr (fun q (g1 : 1 ≤ q) (g2 : q < 8) => (show ¬ (31 ≤ q ∧ q < 75) from by omega))
    have hS8 := hS8.fr hfr (fun q (g1 : 8 ≤ q) (g2 : q < 15) => (show ¬ (31 ≤ q ∧ q < 75) from by omega))
    have hLg := hLg.fr hfr (fun q (g1 : 15 ≤ q) (g2 : q < 22) => (show ¬ (31 ≤ q ∧ q < 75) from by omega))
    have hLb := hLb.fr hfr (fun q (g1 : 22 ≤ q) (g2 : q < 29) => (show ¬ (31 ≤ q ∧ q < 75) from by omega))
    have hPd := hPd.fr hfr (fun q (g1 : 29 ≤ q) (g2 : q < 31) => (show ¬ (31 ≤ q ∧ q < 75) from by omega))
    have hSl := hSl.fr hfr (fun q (g1 : 75 ≤ q) (g2 : q < 91) => (show ¬ (31 ≤ q ∧ q < 75) from by omega))
    have hO := hfr.ob hO (fun q (g1 : 0 ≤ q) (g2 : q < 0 + 1) => (show ¬ (31 ≤ q ∧ q < 75) from by omega))
    have hF := hF.then hfr (fun q (hq : 31 ≤ q ∧ q < 75) => (show q < 91 from by omega))
    refine ws_aload_n 23 C dX4_drop_23 rfl ?_
    obtain ⟨f1, f2, f3, f4, f5, f6, hB, hR⟩ := id hS1
    have h24 := hR.le
    refine ws_get 24 C dX4_drop_24 fX4_10 hO rfl rfl ?_
    refine ws_iload_n 27 C dX4_drop_27 rfl ?_
    refine ws_callV0 28 C dX4_drop_28 vX4_101 (c_X3_widthOf hB hR hi) rfl hB rfl rfl ⟨by decide, by decide⟩ ⟨Nat.zero_le _, Nat.zero_le _⟩ rfl rfl rfl (kR ?_)
    refine ws_istore_n 31 C dX4_drop_31 rfl [some (.ref (ad κ 0)), some (.int (nI i)), some (.int (wd (sM S) i))] rfl ?_
    refine ws_aload_n 32 C dX4_drop_32 rfl ?_
    refine ws_get 33 C dX4_drop_33 fX4_10 hO rfl rfl ?_
    refine ws_iload_n 36 C dX4_drop_36 rfl ?_
    refine ws_callV0 37 C dX4_drop_37 vX4_105 (c_X3_takeOut hS1 hi) rfl hB rfl rfl ⟨by decide, by decide⟩ ⟨Nat.zero_le _, Nat.zero_le _⟩ rfl rfl rfl (kV (fun u37 h37 => ?_))
    obtain ⟨hS1, hfr⟩ := h37
    have hS8 := hS8.fr hfr (fun q (g1 : 8 ≤ q) (g2 : q < 15) => (show ¬ (1 ≤ q ∧ q < 1 + 7) from by omega))
    have hLg := hLg.fr hfr (fun q (g1 : 15 ≤ q) (g2 : q < 22) => (show ¬ (1 ≤ q ∧ q < 1 + 7) from by omega))
    have hLb := hLb.fr hfr (fun q (g1 : 22 ≤ q) (g2 : q < 29) => (show ¬ (1 ≤ q ∧ q < 1 + 7) from by omega))
    have hPd := hPd.fr hfr (fun q (g1 : 29 ≤ q) (g2 : q < 31) => (show ¬ (1 ≤ q ∧ q < 1 + 7) from by omega))
    have hHs := hHs.fr hfr (fun q (g1 : 31 ≤ q) (g2 : q < 75) => (show ¬ (1 ≤ q ∧ q < 1 + 7) from by omega))
    have hSl := hSl.fr hfr (fun q (g1 : 75 ≤ q) (g2 : q < 91) => (show ¬ (1 ≤ q ∧ q < 1 + 7) from by omega))
    have hO := hfr.ob hO (fun q (g1 : 0 ≤ q) (g2 : q < 0 + 1) => (show ¬ (1 ≤ q ∧ q < 1 + 7) from by omega))
    have hF := hF.then hfr (fun q (hq : 1 ≤ q ∧ q < 1 + 7) => (show q < 91 from by omega))
    refine ws_iload_n 40 C dX4_drop_40 rfl ?_
    exact ws_iret 41 C  dX4_drop_41 rfl (Nat.le_refl _) (Nat.le_refl _) (by rw [hP]; exact PX_ret (fDrop_s hix) ⟨hO, hS1, hS8, hLg, hLb, hPd, hHs, hSl⟩ hF)
  · skip
    have hn := bix_0 c5
    refine ws_sipush 8 C dX4_drop_8 ((-1001)) (by decide) ?_
    exact ws_iret 11 C  dX4_drop_11 rfl (Nat.le_refl _) (Nat.le_refl _) (by rw [hP]; exact PX_ret (fDrop_n hn) ⟨hO, hS1, hS8, hLg, hLb, hPd, hHs, hSl⟩ hF)

set_option maxRecDepth 100000 in
set_option maxHeartbeats 4000000 in
theorem c_X4_swap {S : Sg} (hX : XI κ z st0 S) {x y : Int32} : CT zl κ yX4_swap cX4_swap 3 (some .int) (r0 7 155) z [.ref (ad κ 0), .int (x), .int (y)] st0 (PX κ z st0 (fSwap S x y)) := by
  obtain ⟨P, hP⟩ : ∃ P : Option Value → St → Prop, P = (PX κ z st0 (fSwap S x y)) := ⟨_, rfl⟩
  rw [← hP]
  refine CT.of (by decide +kernel) (Nat.le_of_ble_eq_true rfl) (fun zp ze zs zm zar zbe zme zc C _ => ?_)
  have C : Cx zp zs zm zar zme zc κ cX4_swap 3 RX4 (some .int) := C
  refine ws_lv (lv2 := [some (.ref (ad κ 0)), some (.int (x)), some (.int (y))]) rfl ?_
  obtain ⟨hO, hS1, hS8, hLg, hLb, hPd, hHs, hSl⟩ := hX
  have hF : Fr (fun q : Nat => q < 91) st0 st0 := Fr.rf
  obtain ⟨f1, f2, f3, f4, f5, f6, hB, hR⟩ := id hS1
  have h24 := hR.le
  refine ws_aload_n 0 C dX4_swap_0 rfl ?_
  refine ws_iload_n 1 C dX4_swap_1 rfl ?_
  refine ws_callV0 2 C dX4_swap_2 vX4_98 (c_X4_isWord hO hS1) rfl hO rfl rfl ⟨by decide, by decide⟩ ⟨Nat.zero_le _, Nat.zero_le _⟩ rfl rfl rfl (kR ?_)
  refine ws_if_eq 5 C 16 dX4_swap_5 (by decide)  (fun c5 => ?_) (fun c5 => ?_)
  · skip
    have hf := fSwap_1 (y := y) (bix_0 c5)
    refine ws_sipush 16 C dX4_swap_16 ((-1001)) (by decide) ?_
    exact ws_iret 19 C  dX4_swap_19 rfl (Nat.le_refl _) (Nat.le_refl _) (by rw [hP]; exact PX_ret (hf) ⟨hO, hS1, hS8, hLg, hLb, hPd, hHs, hSl⟩ hF)
  · skip
    obtain ⟨i, hi, hxi, hix⟩ := bix_1 (n := mn (sM S)) (by omega) c5
    refine ws_wk (lv2 := [some (.ref (ad κ 0)), some (.int (nI i)), some (.int (y))]) ⟨rfl, (congrArg Value.int hxi.symm), rfl, trivial⟩ ?_
    refine ws_aload_n 8 C dX4_swap_8 rfl ?_
    refine ws_iload_n 9 C dX4_swap_9 rfl ?_
    refine ws_callV0 10 C dX4_swap_10 vX4_98 (c_X4_isWord hO hS1) rfl hO rfl rfl ⟨by decide, by decide⟩ ⟨Nat.zero_le _, Nat.zero_le _⟩ rfl rfl rfl (kR ?_)
    refine ws_if_ne 13 C 20 dX4_swap_13 (by decide)  (fun c13 => ?_) (fun c13 => ?_)
    · skip
      obtain ⟨j, hj, hyj, hjx⟩ := bix_1 (n := mn (sM S)) (by omega) c13
      refine ws_wk (lv2 := [some (.ref (ad κ 0)), some (.int (nI i)), some (.int (nI j))]) ⟨rfl, rfl, (congrArg Value.int hyj.symm), trivial⟩ ?_
      refine ws_iload_n 20 C dX4_swap_20 rfl ?_
      refine ws_iload_n 21 C dX4_swap_21 rfl ?_
      refine ws_nicmp_ne 22 C 29 dX4_swap_22 (by decide) (by omega) (by omega) (fun c22 => ?_) (fun c22 => ?_)
      · skip
        refine ws_aload_n 29 C dX4_swap_29 rfl ?_
        obtain ⟨g, nx, hH, -⟩ := id hHs
        refine ws_get 30 C dX4_swap_30 fX4_39 hO rfl rfl ?_
        refine ws_aload_n 33 C dX4_swap_33 rfl ?_
        refine ws_get 34 C dX4_swap_34 fX4_10 hO rfl rfl ?_
        refine ws_callV0 37 C dX4_swap_37 vX4_58 (c_X0_record hHs hS1) rfl hH rfl rfl ⟨by decide, by decide⟩ ⟨Nat.zero_le _, Nat.zero_le _⟩ rfl rfl rfl (kV (fun u37 h37 => ?_))
        obtain ⟨hHs, hfr⟩ := h37
        have hS1 := hS1.fr hfr (fun q (g1 : 1 ≤ q) (g2 : q < 8) => (show ¬ (31 ≤ q ∧ q < 75) from by omega))
        have hS8 := hS8.fr hfr (fun q (g1 : 8 ≤ q) (g2 : q < 15) => (show ¬ (31 ≤ q ∧ q < 75) from by omega))
        have hLg := hLg.fr hfr (fun q (g1 : 15 ≤ q) (g2 : q < 22) => (show ¬ (31 ≤ q ∧ q < 75) from by omega))
        have hLb := hLb.fr hfr (fun q (g1 : 22 ≤ q) (g2 : q < 29) => (show ¬ (31 ≤ q ∧ q < 75) from by omega))
        have hPd := hPd.fr hfr (fun q (g1 : 29 ≤ q) (g2 : q < 31) => (show ¬ (31 ≤ q ∧ q < 75) from by omega))
        have hSl := hSl.fr hfr (fun q (g1 : 75 ≤ q) (g2 : q < 91) => (show ¬ (31 ≤ q ∧ q < 75) from by omega))
        have hO := hfr.ob hO (fun q (g1 : 0 ≤ q) (g2 : q < 0 + 1) => (show ¬ (31 ≤ q ∧ q < 75) from by omega))
        have hF := hF.then hfr (fun q (hq : 31 ≤ q ∧ q < 75) => (show q < 91 from by omega))
        refine ws_aload_n 40 C dX4_swap_40 rfl ?_
        obtain ⟨f1, f2, f3, f4, f5, f6, hB, hR⟩ := id hS1
        have h24 := hR.le
        refine ws_get 41 C dX4_swap_41 fX4_10 hO rfl rfl ?_
        refine ws_iload_n 44 C dX4_swap_44 rfl ?_
        refine ws_iload_n 45 C dX4_swap_45 rfl ?_
        refine ws_callV0 46 C dX4_swap_46 vX4_109 (c_X3_exchange hS1 hi hj c22) rfl hB rfl rfl ⟨by decide, by decide⟩ ⟨Nat.zero_le _, Nat.zero_le _⟩ rfl rfl rfl (kV (fun u46 h46 => ?_))
        obtain ⟨hS1, hfr⟩ := h46
        have hS8 := hS8.fr hfr (fun q (g1 : 8 ≤ q) (g2 : q < 15) => (show ¬ (1 ≤ q ∧ q < 1 + 7) from by omega))
        have hLg := hLg.fr hfr (fun q (g1 : 15 ≤ q) (g2 : q < 22) => (show ¬ (1 ≤ q ∧ q < 1 + 7) from by omega))
        have hLb := hLb.fr hfr (fun q (g1 : 22 ≤ q) (g2 : q < 29) => (show ¬ (1 ≤ q ∧ q < 1 + 7) from by omega))
        have hPd := hPd.fr hfr (fun q (g1 : 29 ≤ q) (g2 : q < 31) => (show ¬ (1 ≤ q ∧ q < 1 + 7) from by omega))
        have hHs := hHs.fr hfr (fun q (g1 : 31 ≤ q) (g2 : q < 75) => (show ¬ (1 ≤ q ∧ q < 1 + 7) from by omega))
        have hSl := hSl.fr hfr (fun q (g1 : 75 ≤ q) (g2 : q < 91) => (show ¬ (1 ≤ q ∧ q < 1 + 7) from by omega))
        have hO := hfr.ob hO (fun q (g1 : 0 ≤ q) (g2 : q < 0 + 1) => (show ¬ (1 ≤ q ∧ q < 1 + 7) from by omega))
        have hF := hF.then hfr (fun q (hq : 1 ≤ q ∧ q < 1 + 7) => (show q < 91 from by omega))
        refine ws_aload_n 49 C dX4_swap_49 rfl ?_
        refine ws_iconst 50 C dX4_swap_50 (nI 0) (by decide) ?_
        refine ws_callV0 51 C dX4_swap_51 vX4_113 (c_X4_broken (by decide) hO hS1 hLg hLb) rfl hO rfl rfl ⟨by decide, by decide⟩ ⟨Nat.zero_le _, Nat.zero_le _⟩ rfl rfl rfl (kA (fun r51 u51 h51 => ?_))
        obtain ⟨⟨hr, hBk⟩, hfr⟩ := h51
        rw [show lid 0 = 15 from rfl] at hr hBk hfr
        subst hr
        have hLg := hBk.ly
        obtain ⟨p, l, r, s, lf, nx, hL, hW, hb⟩ := hBk
        have hS1 := hS1.fr hfr (fun q (g1 : 1 ≤ q) (g2 : q < 8) => (show ¬ (15 ≤ q ∧ q < 15 + 7) from by omega))
        have hS8 := hS8.fr hfr (fun q (g1 : 8 ≤ q) (g2 : q < 15) => (show ¬ (15 ≤ q ∧ q < 15 + 7) from by omega))
        have hLb := hLb.fr hfr (fun q (g1 : 22 ≤ q) (g2 : q < 29) => (show ¬ (15 ≤ q ∧ q < 15 + 7) from by omega))
        have hPd := hPd.fr hfr (fun q (g1 : 29 ≤ q) (g2 : q < 31) => (show ¬ (15 ≤ q ∧ q < 15 + 7) from by omega))
        have hHs := hHs.fr hfr (fun q (g1 : 31 ≤ q) (g2 : q < 75) => (show ¬ (15 ≤ q ∧ q < 15 + 7) from by omega))
        have hSl := hSl.fr hfr (fun q (g1 : 75 ≤ q) (g2 : q < 91) => (show ¬ (15 ≤ q ∧ q < 15 + 7) from by omega))
        have hO := hfr.ob hO (fun q (g1 : 0 ≤ q) (g2 : q < 0 + 1) => (show ¬ (15 ≤ q ∧ q < 15 + 7) from by omega))
        have hF := hF.then hfr (fun q (hq : 15 ≤ q ∧ q < 15 + 7) => (show q < 91 from by omega))
        refine ws_get 54 C dX4_swap_54 fX4_117 hL rfl rfl ?_
        exact ws_iret 57 C  dX4_swap_57 rfl (Nat.le_refl _) (Nat.le_refl _) (by rw [hP]; exact PX_ret (fSwap_s hix hjx c22) ⟨hO, hS1, hS8, hLg, hLb, hPd, hHs, hSl⟩ hF)
      · skip
        refine ws_sipush 25 C dX4_swap_25 ((-1002)) (by decide) ?_
        exact ws_iret 28 C  dX4_swap_28 rfl (Nat.le_refl _) (Nat.le_refl _) (by rw [hP]; exact PX_ret (fSwap_e hix hjx c22) ⟨hO, hS1, hS8, hLg, hLb, hPd, hHs, hSl⟩ hF)
    · skip
      have hf := fSwap_2 (x := x) (bix_0 c13)
      refine ws_sipush 16 C dX4_swap_16 ((-1001)) (by decide) ?_
      exact ws_iret 19 C  dX4_swap_19 rfl (Nat.le_refl _) (Nat.le_refl _) (by rw [hP]; exact PX_ret (hf) ⟨hO, hS1, hS8, hLg, hLb, hPd, hHs, hSl⟩ hF)

set_option maxRecDepth 100000 in
set_option maxHeartbeats 4000000 in
theorem c_X4_clear {S : Sg} (hX : XI κ z st0 S) : CT zl κ yX4_clear cX4_clear 2 (some .int) (r0 3 60) z [.ref (ad κ 0)] st0 (PX κ z st0 (fClear S)) := by
  obtain ⟨P, hP⟩ : ∃ P : Option Value → St → Prop, P = (PX κ z st0 (fClear S)) := ⟨_, rfl⟩
  rw [← hP]
  refine CT.of (by decide +kernel) (Nat.le_of_ble_eq_true rfl) (fun zp ze zs zm zar zbe zme zc C _ => ?_)
  have C : Cx zp zs zm zar zme zc κ cX4_clear 2 RX4 (some .int) := C
  refine ws_lv (lv2 := [some (.ref (ad κ 0)), none]) rfl ?_
  obtain ⟨hO, hS1, hS8, hLg, hLb, hPd, hHs, hSl⟩ := hX
  have hF : Fr (fun q : Nat => q < 91) st0 st0 := Fr.rf
  refine ws_aload_n 0 C dX4_clear_0 rfl ?_
  obtain ⟨g, nx, hH, -⟩ := id hHs
  refine ws_get 1 C dX4_clear_1 fX4_39 hO rfl rfl ?_
  refine ws_aload_n 4 C dX4_clear_4 rfl ?_
  refine ws_get 5 C dX4_clear_5 fX4_10 hO rfl rfl ?_
  refine ws_callV0 8 C dX4_clear_8 vX4_58 (c_X0_record hHs hS1) rfl hH rfl rfl ⟨by decide, by decide⟩ ⟨Nat.zero_le _, Nat.zero_le _⟩ rfl rfl rfl (kV (fun u8 h8 => ?_))
  obtain ⟨hHs, hfr⟩ := h8
  have hS1 := hS1.fr hfr (fun q (g1 : 1 ≤ q) (g2 : q < 8) => (show ¬ (31 ≤ q ∧ q < 75) from by omega))
  have hS8 := hS8.fr hfr (fun q (g1 : 8 ≤ q) (g2 : q < 15) => (show ¬ (31 ≤ q ∧ q < 75) from by omega))
  have hLg := hLg.fr hfr (fun q (g1 : 15 ≤ q) (g2 : q < 22) => (show ¬ (31 ≤ q ∧ q < 75) from by omega))
  have hLb := hLb.fr hfr (fun q (g1 : 22 ≤ q) (g2 : q < 29) => (show ¬ (31 ≤ q ∧ q < 75) from by omega))
  have hPd := hPd.fr hfr (fun q (g1 : 29 ≤ q) (g2 : q < 31) => (show ¬ (31 ≤ q ∧ q < 75) from by omega))
  have hSl := hSl.fr hfr (fun q (g1 : 75 ≤ q) (g2 : q < 91) => (show ¬ (31 ≤ q ∧ q < 75) from by omega))
  have hO := hfr.ob hO (fun q (g1 : 0 ≤ q) (g2 : q < 0 + 1) => (show ¬ (31 ≤ q ∧ q < 75) from by omega))
  have hF := hF.then hfr (fun q (hq : 31 ≤ q ∧ q < 75) => (show q < 91 from by omega))
  refine ws_aload_n 11 C dX4_clear_11 rfl ?_
  obtain ⟨f1, f2, f3, f4, f5, f6, hB, hR⟩ := id hS1
  have h24 := hR.le
  refine ws_get 12 C dX4_clear_12 fX4_10 hO rfl rfl ?_
  refine ws_get 15 C dX4_clear_15 fX4_85 hB rfl rfl ?_
  refine ws_istore_n 18 C dX4_clear_18 rfl [some (.ref (ad κ 0)), some (.int (nI (mn (sM S))))] rfl ?_
  refine ws_aload_n 19 C dX4_clear_19 rfl ?_
  refine ws_get 20 C dX4_clear_20 fX4_10 hO rfl rfl ?_
  refine ws_iconst 23 C dX4_clear_23 (nI 0) (by decide) ?_
  refine ws_put 24 C dX4_clear_24 fX4_85 q3_6 hB rfl (Nat.le_of_ble_eq_true rfl) rfl rfl (fun st1 est1 => ?_)
  have hO := hO.ne' (L := 1) est1 rfl (by omega)
  have hB : Ob z st1 1 (bSh κ 1 f1 f2 f3 f4 f5 f6 (nI 0)) := Ob.put' (j := 0) hB est1 rfl
  have hS8 := hS8.fr (Fr.one est1) (fun q (g1 : 8 ≤ q) (g2 : q < 15) => (show ¬ (q = 1) from by omega))
  have hLg := hLg.fr (Fr.one est1) (fun q (g1 : 15 ≤ q) (g2 : q < 22) => (show ¬ (q = 1) from by omega))
  have hLb := hLb.fr (Fr.one est1) (fun q (g1 : 22 ≤ q) (g2 : q < 29) => (show ¬ (q = 1) from by omega))
  have hPd := hPd.fr (Fr.one est1) (fun q (g1 : 29 ≤ q) (g2 : q < 31) => (show ¬ (q = 1) from by omega))
  have hHs := hHs.fr (Fr.one est1) (fun q (g1 : 31 ≤ q) (g2 : q < 75) => (show ¬ (q = 1) from by omega))
  have hSl := hSl.fr (Fr.one est1) (fun q (g1 : 75 ≤ q) (g2 : q < 91) => (show ¬ (q = 1) from by omega))
  have hF := hF.put' est1 (show (1) < 91 from by omega)
  refine ws_iload_n 27 C dX4_clear_27 rfl ?_
  exact ws_iret 28 C  dX4_clear_28 rfl (Nat.le_refl _) (Nat.le_refl _) (by rw [hP]; exact PX_ret (rfl) ⟨hO, ⟨_, _, _, _, _, _, hB, Rp_clear hR⟩, hS8, hLg, hLb, hPd, hHs, hSl⟩ hF)
end
