section
variable {zl : Launch} {κ : Kt} {z : Nat} {st0 : St}
set_option maxRecDepth 100000 in
set_option maxHeartbeats 4000000 in
theorem c_X5_set {S : Sg} (hX : MI κ z st0 S) {x y : Int32} : CT zl κ yX5_set cX5_set 4 (some .int) (r0 2 46) z [.ref (ad κ 91), .int (x), .int (y)] st0 (PM κ z st0 (fSet S x y)) := by
  obtain ⟨P, hP⟩ : ∃ P : Option Value → St → Prop, P = (PM κ z st0 (fSet S x y)) := ⟨_, rfl⟩
  rw [← hP]
  refine CT.of (by decide +kernel) (Nat.le_of_ble_eq_true rfl) (fun zp ze zs zm zar zbe zme zc C _ => ?_)
  have C : Cx zp zs zm zar zme zc κ cX5_set 4 RX5 (some .int) := C
  refine ws_lv (lv2 := [some (.ref (ad κ 91)), some (.int (x)), some (.int (y)), none]) rfl ?_
  obtain ⟨⟨y1, y3, hM⟩, ⟨a, hA, hR⟩, hKp, hH, hS, hSc, hT, hB1, hB2⟩ := hX
  have h24 := hR.le
  have hF : Fr (fun q : Nat => 91 ≤ q ∧ q < 106) st0 st0 := Fr.rf
  refine ws_iload_n 0 C dX5_set_0 rfl ?_
  refine ws_iload_n 1 C dX5_set_1 rfl ?_
  refine ws_callS0 2 C dX5_set_2 vX5_130 (c_X5_isSetting) rfl ⟨by decide, by decide⟩ ⟨Nat.zero_le _, Nat.zero_le _⟩ rfl rfl rfl (kR ?_)
  refine ws_if_ne 5 C 12 dX5_set_5 (by decide)  (fun c5 => ?_) (fun c5 => ?_)
  · skip
    obtain ⟨k, hk, hxk, hix, h1, h2⟩ := stI_yes c5
    refine ws_wk (lv2 := [some (.ref (ad κ 91)), some (.int (nI k)), some (.int (y)), none]) ⟨rfl, (congrArg Value.int hxk.symm), rfl, trivial⟩ ?_
    refine ws_aload_n 12 C dX5_set_12 rfl ?_
    refine ws_callV0 13 C dX5_set_13 vX5_134 (c_X5_changes hM hA hR hH) rfl hM rfl rfl ⟨by decide, by decide⟩ ⟨Nat.zero_le _, Nat.zero_le _⟩ rfl rfl rfl (kV (fun u13 h13 => ?_))
    obtain ⟨⟨hM, hH⟩, hfr⟩ := h13
    have hKp := hKp.fr hfr (fun q (g1 : 93 ≤ q) (g2 : q < 94) => (show ¬ (q = 91 ∨ q = 94) from by omega))
    have hS := hS.fr hfr (fun q (g1 : 95 ≤ q) (g2 : q < 97) => (show ¬ (q = 91 ∨ q = 94) from by omega))
    have hSc := hSc.fr hfr (fun q (g1 : 97 ≤ q) (g2 : q < 103) => (show ¬ (q = 91 ∨ q = 94) from by omega))
    have hT := hT.fr hfr (fun q (g1 : 103 ≤ q) (g2 : q < 104) => (show ¬ (q = 91 ∨ q = 94) from by omega))
    have hB1 := hB1.fr hfr (fun q (g1 : 104 ≤ q) (g2 : q < 105) => (show ¬ (q = 91 ∨ q = 94) from by omega))
    have hB2 := hB2.fr hfr (fun q (g1 : 105 ≤ q) (g2 : q < 106) => (show ¬ (q = 91 ∨ q = 94) from by omega))
    have hA := hfr.ob hA (fun q (g1 : 92 ≤ q) (g2 : q < 92 + 1) => (show ¬ (q = 91 ∨ q = 94) from by omega))
    have hF := hF.then hfr (fun q (hq : q = 91 ∨ q = 94) => (show 91 ≤ q ∧ q < 106 from by omega))
    refine ws_aload_n 16 C dX5_set_16 rfl ?_
    refine ws_get 17 C dX5_set_17 fX5_7 hM rfl rfl ?_
    refine ws_iload_n 20 C dX5_set_20 rfl ?_
    refine ws_iald 21 C dX5_set_21 hA 0 rfl (vp_in_nI (by omega) (by decide)) (mv (sM S) 0 k) ((congrArg a (nI_clamp (by omega))).trans (hR.set hk)) ?_
    refine ws_istore_n 22 C dX5_set_22 rfl [some (.ref (ad κ 91)), some (.int (nI k)), some (.int (y)), some (.int (mv (sM S) 0 k))] rfl ?_
    refine ws_aload_n 23 C dX5_set_23 rfl ?_
    refine ws_get 24 C dX5_set_24 fX5_7 hM rfl rfl ?_
    refine ws_iload_n 27 C dX5_set_27 rfl ?_
    refine ws_iload_n 28 C dX5_set_28 rfl ?_
    refine ws_iast 29 C dX5_set_29 hA 0 rfl (vp_in_nI (by omega) (by decide)) k (nI_clamp (by omega)) (y) rfl (fun st1 est1 => ?_)
    have hM := hM.ne' (L := 1) est1 rfl (by omega)
    have hA : Ob z st1 92 (bA κ 293 (upd a k (y))) := Ob.put' (j := 0) hA est1 rfl
    have hKp := hKp.fr (Fr.one est1) (fun q (g1 : 93 ≤ q) (g2 : q < 94) => (show ¬ (q = 92) from by omega))
    have hH := hH.fr (Fr.one est1) (fun q (g1 : 94 ≤ q) (g2 : q < 95) => (show ¬ (q = 92) from by omega))
    have hS := hS.fr (Fr.one est1) (fun q (g1 : 95 ≤ q) (g2 : q < 97) => (show ¬ (q = 92) from by omega))
    have hSc := hSc.fr (Fr.one est1) (fun q (g1 : 97 ≤ q) (g2 : q < 103) => (show ¬ (q = 92) from by omega))
    have hT := hT.fr (Fr.one est1) (fun q (g1 : 103 ≤ q) (g2 : q < 104) => (show ¬ (q = 92) from by omega))
    have hB1 := hB1.fr (Fr.one est1) (fun q (g1 : 104 ≤ q) (g2 : q < 105) => (show ¬ (q = 92) from by omega))
    have hB2 := hB2.fr (Fr.one est1) (fun q (g1 : 105 ≤ q) (g2 : q < 106) => (show ¬ (q = 92) from by omega))
    have hF := hF.put' est1 (show 91 ≤ (92) ∧ (92) < 106 from by omega)
    refine ws_iload_n 30 C dX5_set_30 rfl ?_
    exact ws_iret 31 C dX5_set_31 rfl (Nat.le_refl _) (Nat.le_refl _) (by rw [hP]; exact PM_ret (fSet_s hix h1 h2) ⟨⟨_, _, hM⟩, ⟨_, hA, Rm_set hR hk⟩, hKp, hH, hS, hSc, hT, hB1, hB2⟩ hF)
  · skip
    have hf := stI_no (S := S) c5
    refine ws_sipush 8 C dX5_set_8 ((-1002)) (by decide) ?_
    exact ws_iret 11 C dX5_set_11 rfl (Nat.le_refl _) (Nat.le_refl _) (by rw [hP]; exact PM_ret (hf) ⟨⟨_, _, hM⟩, ⟨_, hA, hR⟩, hKp, hH, hS, hSc, hT, hB1, hB2⟩ hF)

set_option maxRecDepth 100000 in
set_option maxHeartbeats 4000000 in
theorem c_X5_sort {S : Sg} (hX : MI κ z st0 S) {x w l r : Int32} : CT zl κ yX5_sort cX5_sort 6 (some .int) (r0 2 45) z [.ref (ad κ 91), .int (x), .int (w), .int (l), .int (r)] st0 (PM κ z st0 (fSort S x w l r)) := by
  obtain ⟨P, hP⟩ : ∃ P : Option Value → St → Prop, P = (PM κ z st0 (fSort S x w l r)) := ⟨_, rfl⟩
  rw [← hP]
  refine CT.of (by decide +kernel) (Nat.le_of_ble_eq_true rfl) (fun zp ze zs zm zar zbe zme zc C _ => ?_)
  have C : Cx zp zs zm zar zme zc κ cX5_sort 6 RX5 (some .int) := C
  refine ws_lv (lv2 := [some (.ref (ad κ 91)), some (.int (x)), some (.int (w)), some (.int (l)), some (.int (r)), none]) rfl ?_
  obtain ⟨⟨y1, y3, hM⟩, ⟨a, hA, hR⟩, hKp, hH, hS, hSc, hT, hB1, hB2⟩ := hX
  have h24 := hR.le
  have hF : Fr (fun q : Nat => 91 ≤ q ∧ q < 106) st0 st0 := Fr.rf
  refine ws_iload_n 0 C dX5_sort_0 rfl ?_
  refine ws_callS0 1 C dX5_sort_1 vX5_137 (c_X5_isSort) rfl ⟨by decide, by decide⟩ ⟨Nat.zero_le _, Nat.zero_le _⟩ rfl rfl rfl (kR ?_)
  refine ws_if_ne 4 C 11 dX5_sort_4 (by decide)  (fun c4 => ?_) (fun c4 => ?_)
  · skip
    obtain ⟨q, hq, hxq, hix⟩ := bix_1 (n := 8) (by decide) c4
    refine ws_wk (lv2 := [some (.ref (ad κ 91)), some (.int (nI q)), some (.int (w)), some (.int (l)), some (.int (r)), none]) ⟨rfl, (congrArg Value.int hxq.symm), rfl, rfl, rfl, trivial⟩ ?_
    refine ws_iload_n 11 C dX5_sort_11 rfl ?_
    refine ws_i2l 12 C dX5_sort_12 (w.toInt64) rfl ?_
    refine ws_lconst 13 C dX5_sort_13 1 (by decide) ?_
    refine ws_ldc2 14 C dX5_sort_14 (20) k438 ?_
    refine ws_callS0 17 C dX5_sort_17 vX5_58 (c_X5_in (inL_32 w (nI 1) (nI 20) (by decide) (by decide))) rfl ⟨by decide, by decide⟩ ⟨Nat.zero_le _, Nat.zero_le _⟩ rfl rfl rfl (kR ?_)
    refine ws_if_eq 20 C 48 dX5_sort_20 (by decide)  (fun c20 => ?_) (fun c20 => ?_)
    · skip
      have hb : ¬ ((nI 1 ≤ w ∧ w ≤ nI 20) ∧ ixv l 101 ≠ none ∧ ixv r 101 ≠ none) := fun q => if01_n c20 q.1
      refine ws_sipush 48 C dX5_sort_48 ((-1002)) (by decide) ?_
      exact ws_iret 51 C dX5_sort_51 rfl (Nat.le_refl _) (Nat.le_refl _) (by rw [hP]; exact PM_ret (fSort_b hix hb) ⟨⟨_, _, hM⟩, ⟨_, hA, hR⟩, hKp, hH, hS, hSc, hT, hB1, hB2⟩ hF)
    · skip
      refine ws_iload_n 23 C dX5_sort_23 rfl ?_
      refine ws_i2l 24 C dX5_sort_24 (l.toInt64) rfl ?_
      refine ws_lconst 25 C dX5_sort_25 0 (by decide) ?_
      refine ws_ldc2 26 C dX5_sort_26 (100) k455 ?_
      refine ws_callS0 29 C dX5_sort_29 vX5_58 (c_X5_in (inL_bix (n := 101) (by decide) (by decide) (by decide))) rfl ⟨by decide, by decide⟩ ⟨Nat.zero_le _, Nat.zero_le _⟩ rfl rfl rfl (kR ?_)
      refine ws_if_eq 32 C 48 dX5_sort_32 (by decide)  (fun c32 => ?_) (fun c32 => ?_)
      · skip
        have hb : ¬ ((nI 1 ≤ w ∧ w ≤ nI 20) ∧ ixv l 101 ≠ none ∧ ixv r 101 ≠ none) := fun q => q.2.1 (bix_0 c32)
        refine ws_sipush 48 C dX5_sort_48 ((-1002)) (by decide) ?_
        exact ws_iret 51 C dX5_sort_51 rfl (Nat.le_refl _) (Nat.le_refl _) (by rw [hP]; exact PM_ret (fSort_b hix hb) ⟨⟨_, _, hM⟩, ⟨_, hA, hR⟩, hKp, hH, hS, hSc, hT, hB1, hB2⟩ hF)
      · skip
        refine ws_iload 35 C dX5_sort_35 rfl ?_
        refine ws_i2l 37 C dX5_sort_37 (r.toInt64) rfl ?_
        refine ws_lconst 38 C dX5_sort_38 0 (by decide) ?_
        refine ws_ldc2 39 C dX5_sort_39 (100) k455 ?_
        refine ws_callS0 42 C dX5_sort_42 vX5_58 (c_X5_in (inL_bix (n := 101) (by decide) (by decide) (by decide))) rfl ⟨by decide, by decide⟩ ⟨Nat.zero_le _, Nat.zero_le _⟩ rfl rfl rfl (kR ?_)
        refine ws_if_ne 45 C 52 dX5_sort_45 (by decide)  (fun c45 => ?_) (fun c45 => ?_)
        · skip
          refine ws_aload_n 52 C dX5_sort_52 rfl ?_
          refine ws_callV0 53 C dX5_sort_53 vX5_134 (c_X5_changes hM hA hR hH) rfl hM rfl rfl ⟨by decide, by decide⟩ ⟨Nat.zero_le _, Nat.zero_le _⟩ rfl rfl rfl (kV (fun u53 h53 => ?_))
          obtain ⟨⟨hM, hH⟩, hfr⟩ := h53
          have hKp := hKp.fr hfr (fun q (g1 : 93 ≤ q) (g2 : q < 94) => (show ¬ (q = 91 ∨ q = 94) from by omega))
          have hS := hS.fr hfr (fun q (g1 : 95 ≤ q) (g2 : q < 97) => (show ¬ (q = 91 ∨ q = 94) from by omega))
          have hSc := hSc.fr hfr (fun q (g1 : 97 ≤ q) (g2 : q < 103) => (show ¬ (q = 91 ∨ q = 94) from by omega))
          have hT := hT.fr hfr (fun q (g1 : 103 ≤ q) (g2 : q < 104) => (show ¬ (q = 91 ∨ q = 94) from by omega))
          have hB1 := hB1.fr hfr (fun q (g1 : 104 ≤ q) (g2 : q < 105) => (show ¬ (q = 91 ∨ q = 94) from by omega))
          have hB2 := hB2.fr hfr (fun q (g1 : 105 ≤ q) (g2 : q < 106) => (show ¬ (q = 91 ∨ q = 94) from by omega))
          have hA := hfr.ob hA (fun q (g1 : 92 ≤ q) (g2 : q < 92 + 1) => (show ¬ (q = 91 ∨ q = 94) from by omega))
          have hF := hF.then hfr (fun q (hq : q = 91 ∨ q = 94) => (show 91 ≤ q ∧ q < 106 from by omega))
          refine ws_aload_n 56 C dX5_sort_56 rfl ?_
          refine ws_get 57 C dX5_sort_57 fX5_7 hM rfl rfl ?_
          refine ws_iconst 60 C dX5_sort_60 (nI 5) (by decide) ?_
          refine ws_iload_n 61 C dX5_sort_61 rfl ?_
          refine ws_iadd 62 C dX5_sort_62 (nI (5 + q)) (nI_add _ _) ?_
          refine ws_iald 63 C dX5_sort_63 hA 0 rfl (vp_in_nI (by omega) (by decide)) (mv (sM S) 1 q) ((congrArg a (nI_clamp (by omega))).trans (hR.wid hq)) ?_
          refine ws_istore 64 C dX5_sort_64 rfl [some (.ref (ad κ 91)), some (.int (nI q)), some (.int (w)), some (.int (l)), some (.int (r)), some (.int (mv (sM S) 1 q))] rfl ?_
          refine ws_aload_n 66 C dX5_sort_66 rfl ?_
          refine ws_get 67 C dX5_sort_67 fX5_7 hM rfl rfl ?_
          refine ws_iconst 70 C dX5_sort_70 (nI 5) (by decide) ?_
          refine ws_iload_n 71 C dX5_sort_71 rfl ?_
          refine ws_iadd 72 C dX5_sort_72 (nI (5 + q)) (nI_add _ _) ?_
          refine ws_iload_n 73 C dX5_sort_73 rfl ?_
          refine ws_iast 74 C dX5_sort_74 hA 0 rfl (vp_in_nI (by omega) (by decide)) (5 + q) (nI_clamp (by omega)) (w) rfl (fun st1 est1 => ?_)
          have hM := hM.ne' (L := 1) est1 rfl (by omega)
          have hA : Ob z st1 92 (bA κ 293 (upd a (5 + q) (w))) := Ob.put' (j := 0) hA est1 rfl
          have hKp := hKp.fr (Fr.one est1) (fun q (g1 : 93 ≤ q) (g2 : q < 94) => (show ¬ (q = 92) from by omega))
          have hH := hH.fr (Fr.one est1) (fun q (g1 : 94 ≤ q) (g2 : q < 95) => (show ¬ (q = 92) from by omega))
          have hS := hS.fr (Fr.one est1) (fun q (g1 : 95 ≤ q) (g2 : q < 97) => (show ¬ (q = 92) from by omega))
          have hSc := hSc.fr (Fr.one est1) (fun q (g1 : 97 ≤ q) (g2 : q < 103) => (show ¬ (q = 92) from by omega))
          have hT := hT.fr (Fr.one est1) (fun q (g1 : 103 ≤ q) (g2 : q < 104) => (show ¬ (q = 92) from by omega))
          have hB1 := hB1.fr (Fr.one est1) (fun q (g1 : 104 ≤ q) (g2 : q < 105) => (show ¬ (q = 92) from by omega))
          have hB2 := hB2.fr (Fr.one est1) (fun q (g1 : 105 ≤ q) (g2 : q < 106) => (show ¬ (q = 92) from by omega))
          have hF := hF.put' est1 (show 91 ≤ (92) ∧ (92) < 106 from by omega)
          refine ws_aload_n 75 C dX5_sort_75 rfl ?_
          refine ws_get 76 C dX5_sort_76 fX5_7 hM rfl rfl ?_
          refine ws_bipush 79 C dX5_sort_79 (nI 13) (by decide) ?_
          refine ws_iload_n 81 C dX5_sort_81 rfl ?_
          refine ws_iadd 82 C dX5_sort_82 (nI (13 + q)) (nI_add _ _) ?_
          refine ws_iload_n 83 C dX5_sort_83 rfl ?_
          refine ws_iast 84 C dX5_sort_84 hA 0 rfl (vp_in_nI (by omega) (by decide)) (13 + q) (nI_clamp (by omega)) (l) rfl (fun st2 est2 => ?_)
          have hM := hM.ne' (L := 1) est2 rfl (by omega)
          have hA : Ob z st2 92 (bA κ 293 (upd (upd a (5 + q) (w)) (13 + q) (l))) := Ob.put' (j := 0) hA est2 rfl
          have hKp := hKp.fr (Fr.one est2) (fun q (g1 : 93 ≤ q) (g2 : q < 94) => (show ¬ (q = 92) from by omega))
          have hH := hH.fr (Fr.one est2) (fun q (g1 : 94 ≤ q) (g2 : q < 95) => (show ¬ (q = 92) from by omega))
          have hS := hS.fr (Fr.one est2) (fun q (g1 : 95 ≤ q) (g2 : q < 97) => (show ¬ (q = 92) from by omega))
          have hSc := hSc.fr (Fr.one est2) (fun q (g1 : 97 ≤ q) (g2 : q < 103) => (show ¬ (q = 92) from by omega))
          have hT := hT.fr (Fr.one est2) (fun q (g1 : 103 ≤ q) (g2 : q < 104) => (show ¬ (q = 92) from by omega))
          have hB1 := hB1.fr (Fr.one est2) (fun q (g1 : 104 ≤ q) (g2 : q < 105) => (show ¬ (q = 92) from by omega))
          have hB2 := hB2.fr (Fr.one est2) (fun q (g1 : 105 ≤ q) (g2 : q < 106) => (show ¬ (q = 92) from by omega))
          have hF := hF.put' est2 (show 91 ≤ (92) ∧ (92) < 106 from by omega)
          refine ws_aload_n 85 C dX5_sort_85 rfl ?_
          refine ws_get 86 C dX5_sort_86 fX5_7 hM rfl rfl ?_
          refine ws_bipush 89 C dX5_sort_89 (nI 21) (by decide) ?_
          refine ws_iload_n 91 C dX5_sort_91 rfl ?_
          refine ws_iadd 92 C dX5_sort_92 (nI (21 + q)) (nI_add _ _) ?_
          refine ws_iload 93 C dX5_sort_93 rfl ?_
          refine ws_iast 95 C dX5_sort_95 hA 0 rfl (vp_in_nI (by omega) (by decide)) (21 + q) (nI_clamp (by omega)) (r) rfl (fun st3 est3 => ?_)
          have hM := hM.ne' (L := 1) est3 rfl (by omega)
          have hA : Ob z st3 92 (bA κ 293 (upd (upd (upd a (5 + q) (w)) (13 + q) (l)) (21 + q) (r))) := Ob.put' (j := 0) hA est3 rfl
          have hKp := hKp.fr (Fr.one est3) (fun q (g1 : 93 ≤ q) (g2 : q < 94) => (show ¬ (q = 92) from by omega))
          have hH := hH.fr (Fr.one est3) (fun q (g1 : 94 ≤ q) (g2 : q < 95) => (show ¬ (q = 92) from by omega))
          have hS := hS.fr (Fr.one est3) (fun q (g1 : 95 ≤ q) (g2 : q < 97) => (show ¬ (q = 92) from by omega))
          have hSc := hSc.fr (Fr.one est3) (fun q (g1 : 97 ≤ q) (g2 : q < 103) => (show ¬ (q = 92) from by omega))
          have hT := hT.fr (Fr.one est3) (fun q (g1 : 103 ≤ q) (g2 : q < 104) => (show ¬ (q = 92) from by omega))
          have hB1 := hB1.fr (Fr.one est3) (fun q (g1 : 104 ≤ q) (g2 : q < 105) => (show ¬ (q = 92) from by omega))
          have hB2 := hB2.fr (Fr.one est3) (fun q (g1 : 105 ≤ q) (g2 : q < 106) => (show ¬ (q = 92) from by omega))
          have hF := hF.put' est3 (show 91 ≤ (92) ∧ (92) < 106 from by omega)
          refine ws_iload 96 C dX5_sort_96 rfl ?_
          exact ws_iret 98 C dX5_sort_98 rfl (Nat.le_refl _) (Nat.le_refl _) (by rw [hP]; exact PM_ret (fSort_s hix ⟨if01_y c20, bix_ne c32, bix_ne c45⟩) ⟨⟨_, _, hM⟩, ⟨_, hA, Rm_sort hR hq⟩, hKp, hH, hS, hSc, hT, hB1, hB2⟩ hF)
        · skip
          have hb : ¬ ((nI 1 ≤ w ∧ w ≤ nI 20) ∧ ixv l 101 ≠ none ∧ ixv r 101 ≠ none) := fun q => q.2.2 (bix_0 c45)
          refine ws_sipush 48 C dX5_sort_48 ((-1002)) (by decide) ?_
          exact ws_iret 51 C dX5_sort_51 rfl (Nat.le_refl _) (Nat.le_refl _) (by rw [hP]; exact PM_ret (fSort_b hix hb) ⟨⟨_, _, hM⟩, ⟨_, hA, hR⟩, hKp, hH, hS, hSc, hT, hB1, hB2⟩ hF)
  · skip
    have hf := fSort_n (S := S) (w := w) (l := l) (r := r) (bix_0 c4)
    refine ws_sipush 7 C dX5_sort_7 ((-1001)) (by decide) ?_
    exact ws_iret 10 C dX5_sort_10 rfl (Nat.le_refl _) (Nat.le_refl _) (by rw [hP]; exact PM_ret (hf) ⟨⟨_, _, hM⟩, ⟨_, hA, hR⟩, hKp, hH, hS, hSc, hT, hB1, hB2⟩ hF)

set_option maxRecDepth 100000 in
set_option maxHeartbeats 4000000 in
theorem c_X5_drop {S : Sg} (hX : MI κ z st0 S) {x : Int32} : CT zl κ yX5_drop cX5_drop 3 (some .int) (r0 3 68) z [.ref (ad κ 91), .int (x)] st0 (PM κ z st0 (fDrop S x)) := by
  obtain ⟨P, hP⟩ : ∃ P : Option Value → St → Prop, P = (PM κ z st0 (fDrop S x)) := ⟨_, rfl⟩
  rw [← hP]
  refine CT.of (by decide +kernel) (Nat.le_of_ble_eq_true rfl) (fun zp ze zs zm zar zbe zme zc C _ => ?_)
  have C : Cx zp zs zm zar zme zc κ cX5_drop 3 RX5 (some .int) := C
  refine ws_lv (lv2 := [some (.ref (ad κ 91)), some (.int (x)), none]) rfl ?_
  obtain ⟨⟨y1, y3, hM⟩, ⟨a, hA, hR⟩, hKp, hH, hS, hSc, hT, hB1, hB2⟩ := hX
  have h24 := hR.le
  have hF : Fr (fun q : Nat => 91 ≤ q ∧ q < 106) st0 st0 := Fr.rf
  refine ws_aload_n 0 C dX5_drop_0 rfl ?_
  refine ws_iload_n 1 C dX5_drop_1 rfl ?_
  refine ws_callV0 2 C dX5_drop_2 vX5_142 (c_X5_isWord hM hA hR) rfl hM rfl rfl ⟨by decide, by decide⟩ ⟨Nat.zero_le _, Nat.zero_le _⟩ rfl rfl rfl (kR ?_)
  refine ws_if_ne 5 C 12 dX5_drop_5 (by decide)  (fun c5 => ?_) (fun c5 => ?_)
  · skip
    obtain ⟨i, hi, hxi, hix⟩ := bix_1 (n := mn (sM S)) (by omega) c5
    refine ws_wk (lv2 := [some (.ref (ad κ 91)), some (.int (nI i)), none]) ⟨rfl, (congrArg Value.int hxi.symm), trivial⟩ ?_
    refine ws_aload_n 12 C dX5_drop_12 rfl ?_
    refine ws_callV0 13 C dX5_drop_13 vX5_134 (c_X5_changes hM hA hR hH) rfl hM rfl rfl ⟨by decide, by decide⟩ ⟨Nat.zero_le _, Nat.zero_le _⟩ rfl rfl rfl (kV (fun u13 h13 => ?_))
    obtain ⟨⟨hM, hH⟩, hfr⟩ := h13
    have hKp := hKp.fr hfr (fun q (g1 : 93 ≤ q) (g2 : q < 94) => (show ¬ (q = 91 ∨ q = 94) from by omega))
    have hS := hS.fr hfr (fun q (g1 : 95 ≤ q) (g2 : q < 97) => (show ¬ (q = 91 ∨ q = 94) from by omega))
    have hSc := hSc.fr hfr (fun q (g1 : 97 ≤ q) (g2 : q < 103) => (show ¬ (q = 91 ∨ q = 94) from by omega))
    have hT := hT.fr hfr (fun q (g1 : 103 ≤ q) (g2 : q < 104) => (show ¬ (q = 91 ∨ q = 94) from by omega))
    have hB1 := hB1.fr hfr (fun q (g1 : 104 ≤ q) (g2 : q < 105) => (show ¬ (q = 91 ∨ q = 94) from by omega))
    have hB2 := hB2.fr hfr (fun q (g1 : 105 ≤ q) (g2 : q < 106) => (show ¬ (q = 91 ∨ q = 94) from by omega))
    have hA := hfr.ob hA (fun q (g1 : 92 ≤ q) (g2 : q < 92 + 1) => (show ¬ (q = 91 ∨ q = 94) from by omega))
    have hF := hF.then hfr (fun q (hq : q = 91 ∨ q = 94) => (show 91 ≤ q ∧ q < 106 from by omega))
    refine ws_aload_n 16 C dX5_drop_16 rfl ?_
    refine ws_iload_n 17 C dX5_drop_17 rfl ?_
    refine ws_callV0 18 C dX5_drop_18 vX5_80 (c_X5_widthOf hM hA hR hi) rfl hM rfl rfl ⟨by decide, by decide⟩ ⟨Nat.zero_le _, Nat.zero_le _⟩ rfl rfl rfl (kR ?_)
    refine ws_istore_n 21 C dX5_drop_21 rfl [some (.ref (ad κ 91)), some (.int (nI i)), some (.int (wd (sM S) i))] rfl ?_
    refine ws_aload_n 22 C dX5_drop_22 rfl ?_
    refine ws_iload_n 23 C dX5_drop_23 rfl ?_
    refine ws_callV0 24 C dX5_drop_24 vX5_145 (c_X5_takesOut hM hA hR hi) rfl hM rfl rfl ⟨by decide, by decide⟩ ⟨Nat.zero_le _, Nat.zero_le _⟩ rfl rfl rfl (kV (fun u24 h24 => ?_))
    obtain ⟨⟨g, hA, hR2⟩, hfr⟩ := h24
    have hKp := hKp.fr hfr (fun q (g1 : 93 ≤ q) (g2 : q < 94) => (show ¬ (q = 92) from by omega))
    have hH := hH.fr hfr (fun q (g1 : 94 ≤ q) (g2 : q < 95) => (show ¬ (q = 92) from by omega))
    have hS := hS.fr hfr (fun q (g1 : 95 ≤ q) (g2 : q < 97) => (show ¬ (q = 92) from by omega))
    have hSc := hSc.fr hfr (fun q (g1 : 97 ≤ q) (g2 : q < 103) => (show ¬ (q = 92) from by omega))
    have hT := hT.fr hfr (fun q (g1 : 103 ≤ q) (g2 : q < 104) => (show ¬ (q = 92) from by omega))
    have hB1 := hB1.fr hfr (fun q (g1 : 104 ≤ q) (g2 : q < 105) => (show ¬ (q = 92) from by omega))
    have hB2 := hB2.fr hfr (fun q (g1 : 105 ≤ q) (g2 : q < 106) => (show ¬ (q = 92) from by omega))
    have hM := hfr.ob hM (fun q (g1 : 91 ≤ q) (g2 : q < 91 + 1) => (show ¬ (q = 92) from by omega))
    have hF := hF.then hfr (fun q (hq : q = 92) => (show 91 ≤ q ∧ q < 106 from by omega))
    refine ws_iload_n 27 C dX5_drop_27 rfl ?_
    exact ws_iret 28 C dX5_drop_28 rfl (Nat.le_refl _) (Nat.le_refl _) (by rw [hP]; exact PM_ret (fDrop_s hix) ⟨⟨_, _, hM⟩, ⟨_, hA, hR2⟩, hKp, hH, hS, hSc, hT, hB1, hB2⟩ hF)
  · skip
    have hf := fDrop_n (S := S) (bix_0 c5)
    refine ws_sipush 8 C dX5_drop_8 ((-1001)) (by decide) ?_
    exact ws_iret 11 C dX5_drop_11 rfl (Nat.le_refl _) (Nat.le_refl _) (by rw [hP]; exact PM_ret (hf) ⟨⟨_, _, hM⟩, ⟨_, hA, hR⟩, hKp, hH, hS, hSc, hT, hB1, hB2⟩ hF)

set_option maxRecDepth 100000 in
set_option maxHeartbeats 4000000 in
theorem c_X5_swap {S : Sg} (hX : MI κ z st0 S) {x y : Int32} : CT zl κ yX5_swap cX5_swap 5 (some .int) (r0 5 111) z [.ref (ad κ 91), .int (x), .int (y)] st0 (PM κ z st0 (fSwap S x y)) := by
  obtain ⟨P, hP⟩ : ∃ P : Option Value → St → Prop, P = (PM κ z st0 (fSwap S x y)) := ⟨_, rfl⟩
  rw [← hP]
  refine CT.of (by decide +kernel) (Nat.le_of_ble_eq_true rfl) (fun zp ze zs zm zar zbe zme zc C _ => ?_)
  have C : Cx zp zs zm zar zme zc κ cX5_swap 5 RX5 (some .int) := C
  refine ws_lv (lv2 := [some (.ref (ad κ 91)), some (.int (x)), some (.int (y)), none, none]) rfl ?_
  obtain ⟨⟨y1, y3, hM⟩, ⟨a, hA, hR⟩, hKp, hH, hS, hSc, hT, hB1, hB2⟩ := hX
  have h24 := hR.le
  have hF : Fr (fun q : Nat => 91 ≤ q ∧ q < 106) st0 st0 := Fr.rf
  refine ws_aload_n 0 C dX5_swap_0 rfl ?_
  refine ws_iload_n 1 C dX5_swap_1 rfl ?_
  refine ws_callV0 2 C dX5_swap_2 vX5_142 (c_X5_isWord hM hA hR) rfl hM rfl rfl ⟨by decide, by decide⟩ ⟨Nat.zero_le _, Nat.zero_le _⟩ rfl rfl rfl (kR ?_)
  refine ws_if_eq 5 C 16 dX5_swap_5 (by decide)  (fun c5 => ?_) (fun c5 => ?_)
  · skip
    have hf := fSwap_1 (S := S) (y := y) (bix_0 c5)
    refine ws_sipush 16 C dX5_swap_16 ((-1001)) (by decide) ?_
    exact ws_iret 19 C dX5_swap_19 rfl (Nat.le_refl _) (Nat.le_refl _) (by rw [hP]; exact PM_ret (hf) ⟨⟨_, _, hM⟩, ⟨_, hA, hR⟩, hKp, hH, hS, hSc, hT, hB1, hB2⟩ hF)
  · skip
    obtain ⟨i, hi, hxi, hix⟩ := bix_1 (n := mn (sM S)) (by omega) c5
    refine ws_wk (lv2 := [some (.ref (ad κ 91)), some (.int (nI i)), some (.int (y)), none, none]) ⟨rfl, (congrArg Value.int hxi.symm), rfl, trivial⟩ ?_
    refine ws_aload_n 8 C dX5_swap_8 rfl ?_
    refine ws_iload_n 9 C dX5_swap_9 rfl ?_
    refine ws_callV0 10 C dX5_swap_10 vX5_142 (c_X5_isWord hM hA hR) rfl hM rfl rfl ⟨by decide, by decide⟩ ⟨Nat.zero_le _, Nat.zero_le _⟩ rfl rfl rfl (kR ?_)
    refine ws_if_ne 13 C 20 dX5_swap_13 (by decide)  (fun c13 => ?_) (fun c13 => ?_)
    · skip
      obtain ⟨j, hj, hyj, hjx⟩ := bix_1 (n := mn (sM S)) (by omega) c13
      refine ws_wk (lv2 := [some (.ref (ad κ 91)), some (.int (nI i)), some (.int (nI j)), none, none]) ⟨rfl, rfl, (congrArg Value.int hyj.symm), trivial⟩ ?_
      refine ws_iload_n 20 C dX5_swap_20 rfl ?_
      refine ws_iload_n 21 C dX5_swap_21 rfl ?_
      refine ws_nicmp_ne 22 C 29 dX5_swap_22 (by decide) (by omega) (by omega) (fun c22 => ?_) (fun c22 => ?_)
      · skip
        refine ws_aload_n 29 C dX5_swap_29 rfl ?_
        refine ws_callV0 30 C dX5_swap_30 vX5_134 (c_X5_changes hM hA hR hH) rfl hM rfl rfl ⟨by decide, by decide⟩ ⟨Nat.zero_le _, Nat.zero_le _⟩ rfl rfl rfl (kV (fun u30 h30 => ?_))
        obtain ⟨⟨hM, hH⟩, hfr⟩ := h30
        have hKp := hKp.fr hfr (fun q (g1 : 93 ≤ q) (g2 : q < 94) => (show ¬ (q = 91 ∨ q = 94) from by omega))
        have hS := hS.fr hfr (fun q (g1 : 95 ≤ q) (g2 : q < 97) => (show ¬ (q = 91 ∨ q = 94) from by omega))
        have hSc := hSc.fr hfr (fun q (g1 : 97 ≤ q) (g2 : q < 103) => (show ¬ (q = 91 ∨ q = 94) from by omega))
        have hT := hT.fr hfr (fun q (g1 : 103 ≤ q) (g2 : q < 104) => (show ¬ (q = 91 ∨ q = 94) from by omega))
        have hB1 := hB1.fr hfr (fun q (g1 : 104 ≤ q) (g2 : q < 105) => (show ¬ (q = 91 ∨ q = 94) from by omega))
        have hB2 := hB2.fr hfr (fun q (g1 : 105 ≤ q) (g2 : q < 106) => (show ¬ (q = 91 ∨ q = 94) from by omega))
        have hA := hfr.ob hA (fun q (g1 : 92 ≤ q) (g2 : q < 92 + 1) => (show ¬ (q = 91 ∨ q = 94) from by omega))
        have hF := hF.then hfr (fun q (hq : q = 91 ∨ q = 94) => (show 91 ≤ q ∧ q < 106 from by omega))
        refine ws_iconst 33 C dX5_swap_33 (nI 0) (by decide) ?_
        refine ws_istore_n 34 C dX5_swap_34 rfl [some (.ref (ad κ 91)), some (.int (nI i)), some (.int (nI j)), some (.int (nI 0)), none] rfl ?_
        have L35 : ∀ k : Nat, k ≤ 11 → ∀ (g : Nat → Int32), ∀ (e0 : ∀ x, x < 29 → g x = a x), ∀ (e1 : ∀ w q, w < 24 → q < 11 → g (29 + 11 * w + q) = a (29 + 11 * (if q < k then (if w = i then j else if w = j then i else w) else w) + q)), ∀ (st1 : St), ∀ (hM : Ob z st1 91 (bMo κ (nI (hcnt (sHn S))) y1 (nI (sPn S)) y3)), ∀ (hA : Ob z st1 92 (bA κ 293 g)), ∀ (hKp : AnyA κ z st1 93 293), ∀ (hH : HmP κ z st1 (hpush (sH S) (sHn S) (sM S)) (hcnt (sHn S))), ∀ (hS : SmP κ z st1 (sSl S) (sFd S)), ∀ (hSc : ScP κ z st1), ∀ (hT : TmP κ z st1 (sPt S) (sPn S)), ∀ (hB1 : AnyA κ z st1 104 31), ∀ (hB2 : AnyA κ z st1 105 31), ∀ (hF : Fr (fun q : Nat => 91 ≤ q ∧ q < 106) st0 st1), WS zp zl ze (r0 5 111) zs zm zar zbe zme zc κ z 0 0 (QM zbe zar zs κ z (r0 5 111) P) st1 35 [some (.ref (ad κ 91)), some (.int (nI i)), some (.int (nI j)), some (.int (nI k)), none] [] := by
          refine dnw ?_
          intro k hk ih35 g e0 e1 st1 hM hA hKp hH hS hSc hT hB1 hB2 hF
          refine ws_iload_n 35 C dX5_swap_35 rfl ?_
          refine ws_bipush 36 C dX5_swap_36 (nI 11) (by decide) ?_
          refine ws_nicmp_ge 38 C 107 dX5_swap_38 (by decide) (by omega) (by omega) (fun c38 => ?_) (fun c38 => ?_)
          · skip
            have hR2 : Rm (muSwap (sM S) i j) g := Rm_swap hR hi hj e0 (fun w q hw hq => (e1 w q hw hq).trans (by rw [if_pos (by omega)]))
            refine ws_aload_n 107 C dX5_swap_107 rfl ?_
            refine ws_callV0 108 C dX5_swap_108 vX5_108 (c_X5_fills hM hA hR2 hSc) rfl hM rfl rfl ⟨by decide, by decide⟩ ⟨Nat.zero_le _, Nat.zero_le _⟩ rfl rfl rfl (kV (fun u108 h108 => ?_))
            obtain ⟨⟨hM, hMb⟩, hfr⟩ := h108
            have hSc := hMb.sc
            have hKp := hKp.fr hfr (fun q (g1 : 93 ≤ q) (g2 : q < 94) => (show ¬ (q = 91 ∨ (97 ≤ q ∧ q < 103)) from by omega))
            have hH := hH.fr hfr (fun q (g1 : 94 ≤ q) (g2 : q < 95) => (show ¬ (q = 91 ∨ (97 ≤ q ∧ q < 103)) from by omega))
            have hS := hS.fr hfr (fun q (g1 : 95 ≤ q) (g2 : q < 97) => (show ¬ (q = 91 ∨ (97 ≤ q ∧ q < 103)) from by omega))
            have hT := hT.fr hfr (fun q (g1 : 103 ≤ q) (g2 : q < 104) => (show ¬ (q = 91 ∨ (97 ≤ q ∧ q < 103)) from by omega))
            have hB1 := hB1.fr hfr (fun q (g1 : 104 ≤ q) (g2 : q < 105) => (show ¬ (q = 91 ∨ (97 ≤ q ∧ q < 103)) from by omega))
            have hB2 := hB2.fr hfr (fun q (g1 : 105 ≤ q) (g2 : q < 106) => (show ¬ (q = 91 ∨ (97 ≤ q ∧ q < 103)) from by omega))
            have hA := hfr.ob hA (fun q (g1 : 92 ≤ q) (g2 : q < 92 + 1) => (show ¬ (q = 91 ∨ (97 ≤ q ∧ q < 103)) from by omega))
            have hF := hF.then hfr (fun q (hq : q = 91 ∨ (97 ≤ q ∧ q < 103)) => (show 91 ≤ q ∧ q < 106 from by omega))
            refine ws_aload_n 111 C dX5_swap_111 rfl ?_
            refine ws_get 112 C dX5_swap_112 fX5_98 hM rfl rfl ?_
            exact ws_iret 115 C dX5_swap_115 rfl (Nat.le_refl _) (Nat.le_refl _) (by rw [hP]; exact PM_ret (fSwap_s hix hjx c22) ⟨⟨_, _, hM⟩, ⟨_, hA, hR2⟩, hKp, hH, hS, hSc, hT, hB1, hB2⟩ hF)
          · skip
            refine ws_aload_n 41 C dX5_swap_41 rfl ?_
            refine ws_get 42 C dX5_swap_42 fX5_7 hM rfl rfl ?_
            refine ws_bipush 45 C dX5_swap_45 (nI 29) (by decide) ?_
            refine ws_bipush 47 C dX5_swap_47 (nI 11) (by decide) ?_
            refine ws_iload_n 49 C dX5_swap_49 rfl ?_
            refine ws_imul 50 C dX5_swap_50 (nI (11 * i)) (pk_mul _ _) ?_
            refine ws_iadd 51 C dX5_swap_51 (nI (29 + 11 * i)) (nI_add _ _) ?_
            refine ws_iload_n 52 C dX5_swap_52 rfl ?_
            refine ws_iadd 53 C dX5_swap_53 (nI (29 + 11 * i + k)) (nI_add _ _) ?_
            refine ws_iald 54 C dX5_swap_54 hA 0 rfl (vp_in_nI (by omega) (by decide)) (a (29 + 11 * i + k)) ((congrArg g (nI_clamp (by omega))).trans ((e1 i k (by omega) c38).trans (by rw [if_neg (Nat.lt_irrefl k)]))) ?_
            refine ws_istore 55 C dX5_swap_55 rfl [some (.ref (ad κ 91)), some (.int (nI i)), some (.int (nI j)), some (.int (nI k)), some (.int (a (29 + 11 * i + k)))] rfl ?_
            refine ws_aload_n 57 C dX5_swap_57 rfl ?_
            refine ws_get 58 C dX5_swap_58 fX5_7 hM rfl rfl ?_
            refine ws_bipush 61 C dX5_swap_61 (nI 29) (by decide) ?_
            refine ws_bipush 63 C dX5_swap_63 (nI 11) (by decide) ?_
            refine ws_iload_n 65 C dX5_swap_65 rfl ?_
            refine ws_imul 66 C dX5_swap_66 (nI (11 * i)) (pk_mul _ _) ?_
            refine ws_iadd 67 C dX5_swap_67 (nI (29 + 11 * i)) (nI_add _ _) ?_
            refine ws_iload_n 68 C dX5_swap_68 rfl ?_
            refine ws_iadd 69 C dX5_swap_69 (nI (29 + 11 * i + k)) (nI_add _ _) ?_
            refine ws_aload_n 70 C dX5_swap_70 rfl ?_
            refine ws_get 71 C dX5_swap_71 fX5_7 hM rfl rfl ?_
            refine ws_bipush 74 C dX5_swap_74 (nI 29) (by decide) ?_
            refine ws_bipush 76 C dX5_swap_76 (nI 11) (by decide) ?_
            refine ws_iload_n 78 C dX5_swap_78 rfl ?_
            refine ws_imul 79 C dX5_swap_79 (nI (11 * j)) (pk_mul _ _) ?_
            refine ws_iadd 80 C dX5_swap_80 (nI (29 + 11 * j)) (nI_add _ _) ?_
            refine ws_iload_n 81 C dX5_swap_81 rfl ?_
            refine ws_iadd 82 C dX5_swap_82 (nI (29 + 11 * j + k)) (nI_add _ _) ?_
            refine ws_iald 83 C dX5_swap_83 hA 0 rfl (vp_in_nI (by omega) (by decide)) (a (29 + 11 * j + k)) ((congrArg g (nI_clamp (by omega))).trans ((e1 j k (by omega) c38).trans (by rw [if_neg (Nat.lt_irrefl k)]))) ?_
            refine ws_iast 84 C dX5_swap_84 hA 0 rfl (vp_in_nI (by omega) (by decide)) (29 + 11 * i + k) (nI_clamp (by omega)) (a (29 + 11 * j + k)) rfl (fun st2 est2 => ?_)
            have hM := hM.ne' (L := 1) est2 rfl (by omega)
            have hA : Ob z st2 92 (bA κ 293 (upd g (29 + 11 * i + k) (a (29 + 11 * j + k)))) := Ob.put' (j := 0) hA est2 rfl
            have hKp := hKp.fr (Fr.one est2) (fun q (g1 : 93 ≤ q) (g2 : q < 94) => (show ¬ (q = 92) from by omega))
            have hH := hH.fr (Fr.one est2) (fun q (g1 : 94 ≤ q) (g2 : q < 95) => (show ¬ (q = 92) from by omega))
            have hS := hS.fr (Fr.one est2) (fun q (g1 : 95 ≤ q) (g2 : q < 97) => (show ¬ (q = 92) from by omega))
            have hSc := hSc.fr (Fr.one est2) (fun q (g1 : 97 ≤ q) (g2 : q < 103) => (show ¬ (q = 92) from by omega))
            have hT := hT.fr (Fr.one est2) (fun q (g1 : 103 ≤ q) (g2 : q < 104) => (show ¬ (q = 92) from by omega))
            have hB1 := hB1.fr (Fr.one est2) (fun q (g1 : 104 ≤ q) (g2 : q < 105) => (show ¬ (q = 92) from by omega))
            have hB2 := hB2.fr (Fr.one est2) (fun q (g1 : 105 ≤ q) (g2 : q < 106) => (show ¬ (q = 92) from by omega))
            have hF := hF.put' est2 (show 91 ≤ (92) ∧ (92) < 106 from by omega)
            refine ws_aload_n 85 C dX5_swap_85 rfl ?_
            refine ws_get 86 C dX5_swap_86 fX5_7 hM rfl rfl ?_
            refine ws_bipush 89 C dX5_swap_89 (nI 29) (by decide) ?_
            refine ws_bipush 91 C dX5_swap_91 (nI 11) (by decide) ?_
            refine ws_iload_n 93 C dX5_swap_93 rfl ?_
            refine ws_imul 94 C dX5_swap_94 (nI (11 * j)) (pk_mul _ _) ?_
            refine ws_iadd 95 C dX5_swap_95 (nI (29 + 11 * j)) (nI_add _ _) ?_
            refine ws_iload_n 96 C dX5_swap_96 rfl ?_
            refine ws_iadd 97 C dX5_swap_97 (nI (29 + 11 * j + k)) (nI_add _ _) ?_
            refine ws_iload 98 C dX5_swap_98 rfl ?_
            refine ws_iast 100 C dX5_swap_100 hA 0 rfl (vp_in_nI (by omega) (by decide)) (29 + 11 * j + k) (nI_clamp (by omega)) (a (29 + 11 * i + k)) rfl (fun st3 est3 => ?_)
            have hM := hM.ne' (L := 1) est3 rfl (by omega)
            have hA : Ob z st3 92 (bA κ 293 (upd (upd g (29 + 11 * i + k) (a (29 + 11 * j + k))) (29 + 11 * j + k) (a (29 + 11 * i + k)))) := Ob.put' (j := 0) hA est3 rfl
            have hKp := hKp.fr (Fr.one est3) (fun q (g1 : 93 ≤ q) (g2 : q < 94) => (show ¬ (q = 92) from by omega))
            have hH := hH.fr (Fr.one est3) (fun q (g1 : 94 ≤ q) (g2 : q < 95) => (show ¬ (q = 92) from by omega))
            have hS := hS.fr (Fr.one est3) (fun q (g1 : 95 ≤ q) (g2 : q < 97) => (show ¬ (q = 92) from by omega))
            have hSc := hSc.fr (Fr.one est3) (fun q (g1 : 97 ≤ q) (g2 : q < 103) => (show ¬ (q = 92) from by omega))
            have hT := hT.fr (Fr.one est3) (fun q (g1 : 103 ≤ q) (g2 : q < 104) => (show ¬ (q = 92) from by omega))
            have hB1 := hB1.fr (Fr.one est3) (fun q (g1 : 104 ≤ q) (g2 : q < 105) => (show ¬ (q = 92) from by omega))
            have hB2 := hB2.fr (Fr.one est3) (fun q (g1 : 105 ≤ q) (g2 : q < 106) => (show ¬ (q = 92) from by omega))
            have hF := hF.put' est3 (show 91 ≤ (92) ∧ (92) < 106 from by omega)
            refine ws_iinc 101 C dX5_swap_101 rfl (nI (k + 1)) (nI_1 _) rfl [some (.ref (ad κ 91)), some (.int (nI i)), some (.int (nI j)), some (.int (nI (k + 1))), some (.int (a (29 + 11 * i + k)))] rfl ?_
            refine ws_goto 104 C 35 dX5_swap_104 (by decide) ?_
            refine ws_wk (lv2 := [some (.ref (ad κ 91)), some (.int (nI i)), some (.int (nI j)), some (.int (nI (k + 1))), none]) ⟨rfl, rfl, rfl, rfl, trivial⟩ ?_
            exact ih35 c38 (upd (upd g (29 + 11 * i + k) (a (29 + 11 * j + k))) (29 + 11 * j + k) (a (29 + 11 * i + k))) (row_lo (row_lo e0 (by omega)) (by omega)) (sw11 e1 (by omega) (by omega) c22 c38) st3 hM hA hKp hH hS hSc hT hB1 hB2 hF
        exact L35 0 (Nat.zero_le _) a (fun x hx => rfl) (fun w q hw hq => (by rw [if_neg (Nat.not_lt_zero q)])) u30 hM hA hKp hH hS hSc hT hB1 hB2 hF
      · skip
        refine ws_sipush 25 C dX5_swap_25 ((-1002)) (by decide) ?_
        exact ws_iret 28 C dX5_swap_28 rfl (Nat.le_refl _) (Nat.le_refl _) (by rw [hP]; exact PM_ret (fSwap_e hix hjx c22) ⟨⟨_, _, hM⟩, ⟨_, hA, hR⟩, hKp, hH, hS, hSc, hT, hB1, hB2⟩ hF)
    · skip
      have hf := fSwap_2 (S := S) (x := x) (bix_0 c13)
      refine ws_sipush 16 C dX5_swap_16 ((-1001)) (by decide) ?_
      exact ws_iret 19 C dX5_swap_19 rfl (Nat.le_refl _) (Nat.le_refl _) (by rw [hP]; exact PM_ret (hf) ⟨⟨_, _, hM⟩, ⟨_, hA, hR⟩, hKp, hH, hS, hSc, hT, hB1, hB2⟩ hF)

set_option maxRecDepth 100000 in
set_option maxHeartbeats 4000000 in
theorem c_X5_clear {S : Sg} (hX : MI κ z st0 S) : CT zl κ yX5_clear cX5_clear 3 (some .int) (r0 1 21) z [.ref (ad κ 91)] st0 (PM κ z st0 (fClear S)) := by
  obtain ⟨P, hP⟩ : ∃ P : Option Value → St → Prop, P = (PM κ z st0 (fClear S)) := ⟨_, rfl⟩
  rw [← hP]
  refine CT.of (by decide +kernel) (Nat.le_of_ble_eq_true rfl) (fun zp ze zs zm zar zbe zme zc C _ => ?_)
  have C : Cx zp zs zm zar zme zc κ cX5_clear 3 RX5 (some .int) := C
  refine ws_lv (lv2 := [some (.ref (ad κ 91)), none, none]) rfl ?_
  obtain ⟨⟨y1, y3, hM⟩, ⟨a, hA, hR⟩, hKp, hH, hS, hSc, hT, hB1, hB2⟩ := hX
  have h24 := hR.le
  have hF : Fr (fun q : Nat => 91 ≤ q ∧ q < 106) st0 st0 := Fr.rf
  refine ws_aload_n 0 C dX5_clear_0 rfl ?_
  refine ws_callV0 1 C dX5_clear_1 vX5_134 (c_X5_changes hM hA hR hH) rfl hM rfl rfl ⟨by decide, by decide⟩ ⟨Nat.zero_le _, Nat.zero_le _⟩ rfl rfl rfl (kV (fun u1 h1 => ?_))
  obtain ⟨⟨hM, hH⟩, hfr⟩ := h1
  have hKp := hKp.fr hfr (fun q (g1 : 93 ≤ q) (g2 : q < 94) => (show ¬ (q = 91 ∨ q = 94) from by omega))
  have hS := hS.fr hfr (fun q (g1 : 95 ≤ q) (g2 : q < 97) => (show ¬ (q = 91 ∨ q = 94) from by omega))
  have hSc := hSc.fr hfr (fun q (g1 : 97 ≤ q) (g2 : q < 103) => (show ¬ (q = 91 ∨ q = 94) from by omega))
  have hT := hT.fr hfr (fun q (g1 : 103 ≤ q) (g2 : q < 104) => (show ¬ (q = 91 ∨ q = 94) from by omega))
  have hB1 := hB1.fr hfr (fun q (g1 : 104 ≤ q) (g2 : q < 105) => (show ¬ (q = 91 ∨ q = 94) from by omega))
  have hB2 := hB2.fr hfr (fun q (g1 : 105 ≤ q) (g2 : q < 106) => (show ¬ (q = 91 ∨ q = 94) from by omega))
  have hA := hfr.ob hA (fun q (g1 : 92 ≤ q) (g2 : q < 92 + 1) => (show ¬ (q = 91 ∨ q = 94) from by omega))
  have hF := hF.then hfr (fun q (hq : q = 91 ∨ q = 94) => (show 91 ≤ q ∧ q < 106 from by omega))
  refine ws_aload_n 4 C dX5_clear_4 rfl ?_
  refine ws_get 5 C dX5_clear_5 fX5_7 hM rfl rfl ?_
  refine ws_iconst 8 C dX5_clear_8 (nI 4) (by decide) ?_
  refine ws_iald 9 C dX5_clear_9 hA 0 rfl (vp_in_nI (by omega) (by decide)) (nI (mn (sM S))) ((congrArg a (nI_clamp (by omega))).trans (hR.n)) ?_
  refine ws_istore_n 10 C dX5_clear_10 rfl [some (.ref (ad κ 91)), some (.int (nI (mn (sM S)))), none] rfl ?_
  refine ws_bipush 11 C dX5_clear_11 (nI 29) (by decide) ?_
  refine ws_istore_n 13 C dX5_clear_13 rfl [some (.ref (ad κ 91)), some (.int (nI (mn (sM S)))), some (.int (nI 29))] rfl ?_
  have L14 : ∀ t : Nat, t ≤ 264 → ∀ (g : Nat → Int32), ∀ (e0 : ∀ x, x < 29 → g x = a x), ∀ (st1 : St), ∀ (hM : Ob z st1 91 (bMo κ (nI (hcnt (sHn S))) y1 (nI (sPn S)) y3)), ∀ (hA : Ob z st1 92 (bA κ 293 g)), ∀ (hKp : AnyA κ z st1 93 293), ∀ (hH : HmP κ z st1 (hpush (sH S) (sHn S) (sM S)) (hcnt (sHn S))), ∀ (hS : SmP κ z st1 (sSl S) (sFd S)), ∀ (hSc : ScP κ z st1), ∀ (hT : TmP κ z st1 (sPt S) (sPn S)), ∀ (hB1 : AnyA κ z st1 104 31), ∀ (hB2 : AnyA κ z st1 105 31), ∀ (hF : Fr (fun q : Nat => 91 ≤ q ∧ q < 106) st0 st1), WS zp zl ze (r0 1 21) zs zm zar zbe zme zc κ z 0 0 (QM zbe zar zs κ z (r0 1 21) P) st1 14 [some (.ref (ad κ 91)), some (.int (nI (mn (sM S)))), some (.int (nI (29 + t)))] [] := by
    refine dnw ?_
    intro t ht ih14 g e0 st1 hM hA hKp hH hS hSc hT hB1 hB2 hF
    refine ws_iload_n 14 C dX5_clear_14 rfl ?_
    refine ws_sipush 15 C dX5_clear_15 (nI 293) (by decide) ?_
    refine ws_nicmp_ge 18 C 34 dX5_clear_18 (by decide) (by omega) (by omega) (fun c18 => ?_) (fun c18 => ?_)
    · skip
      refine ws_aload_n 34 C dX5_clear_34 rfl ?_
      refine ws_get 35 C dX5_clear_35 fX5_7 hM rfl rfl ?_
      refine ws_iconst 38 C dX5_clear_38 (nI 4) (by decide) ?_
      refine ws_iconst 39 C dX5_clear_39 (nI 0) (by decide) ?_
      refine ws_iast 40 C dX5_clear_40 hA 0 rfl (vp_in_nI (by omega) (by decide)) 4 (nI_clamp (by omega)) (nI 0) rfl (fun st2 est2 => ?_)
      have hM := hM.ne' (L := 1) est2 rfl (by omega)
      have hA : Ob z st2 92 (bA κ 293 (upd g 4 (nI 0))) := Ob.put' (j := 0) hA est2 rfl
      have hKp := hKp.fr (Fr.one est2) (fun q (g1 : 93 ≤ q) (g2 : q < 94) => (show ¬ (q = 92) from by omega))
      have hH := hH.fr (Fr.one est2) (fun q (g1 : 94 ≤ q) (g2 : q < 95) => (show ¬ (q = 92) from by omega))
      have hS := hS.fr (Fr.one est2) (fun q (g1 : 95 ≤ q) (g2 : q < 97) => (show ¬ (q = 92) from by omega))
      have hSc := hSc.fr (Fr.one est2) (fun q (g1 : 97 ≤ q) (g2 : q < 103) => (show ¬ (q = 92) from by omega))
      have hT := hT.fr (Fr.one est2) (fun q (g1 : 103 ≤ q) (g2 : q < 104) => (show ¬ (q = 92) from by omega))
      have hB1 := hB1.fr (Fr.one est2) (fun q (g1 : 104 ≤ q) (g2 : q < 105) => (show ¬ (q = 92) from by omega))
      have hB2 := hB2.fr (Fr.one est2) (fun q (g1 : 105 ≤ q) (g2 : q < 106) => (show ¬ (q = 92) from by omega))
      have hF := hF.put' est2 (show 91 ≤ (92) ∧ (92) < 106 from by omega)
      refine ws_iload_n 41 C dX5_clear_41 rfl ?_
      exact ws_iret 42 C dX5_clear_42 rfl (Nat.le_refl _) (Nat.le_refl _) (by rw [hP]; exact PM_ret (rfl) ⟨⟨_, _, hM⟩, ⟨_, hA, Rm_clear hR e0⟩, hKp, hH, hS, hSc, hT, hB1, hB2⟩ hF)
    · skip
      refine ws_aload_n 21 C dX5_clear_21 rfl ?_
      refine ws_get 22 C dX5_clear_22 fX5_7 hM rfl rfl ?_
      refine ws_iload_n 25 C dX5_clear_25 rfl ?_
      refine ws_iconst 26 C dX5_clear_26 (nI 0) (by decide) ?_
      refine ws_iast 27 C dX5_clear_27 hA 0 rfl (vp_in_nI (by omega) (by decide)) (29 + t) (nI_clamp (by omega)) (nI 0) rfl (fun st3 est3 => ?_)
      have hM := hM.ne' (L := 1) est3 rfl (by omega)
      have hA : Ob z st3 92 (bA κ 293 (upd g (29 + t) (nI 0))) := Ob.put' (j := 0) hA est3 rfl
      have hKp := hKp.fr (Fr.one est3) (fun q (g1 : 93 ≤ q) (g2 : q < 94) => (show ¬ (q = 92) from by omega))
      have hH := hH.fr (Fr.one est3) (fun q (g1 : 94 ≤ q) (g2 : q < 95) => (show ¬ (q = 92) from by omega))
      have hS := hS.fr (Fr.one est3) (fun q (g1 : 95 ≤ q) (g2 : q < 97) => (show ¬ (q = 92) from by omega))
      have hSc := hSc.fr (Fr.one est3) (fun q (g1 : 97 ≤ q) (g2 : q < 103) => (show ¬ (q = 92) from by omega))
      have hT := hT.fr (Fr.one est3) (fun q (g1 : 103 ≤ q) (g2 : q < 104) => (show ¬ (q = 92) from by omega))
      have hB1 := hB1.fr (Fr.one est3) (fun q (g1 : 104 ≤ q) (g2 : q < 105) => (show ¬ (q = 92) from by omega))
      have hB2 := hB2.fr (Fr.one est3) (fun q (g1 : 105 ≤ q) (g2 : q < 106) => (show ¬ (q = 92) from by omega))
      have hF := hF.put' est3 (show 91 ≤ (92) ∧ (92) < 106 from by omega)
      refine ws_iinc 28 C dX5_clear_28 rfl (nI (29 + t + 1)) (nI_1 _) rfl [some (.ref (ad κ 91)), some (.int (nI (mn (sM S)))), some (.int (nI (29 + t + 1)))] rfl ?_
      refine ws_goto 31 C 14 dX5_clear_31 (by decide) ?_
      exact ih14 (by omega) (upd g (29 + t) (nI 0)) (row_lo e0 (by omega)) st3 hM hA hKp hH hS hSc hT hB1 hB2 hF
  exact L14 0 (Nat.zero_le _) a (fun x hx => rfl) u1 hM hA hKp hH hS hSc hT hB1 hB2 hF

set_option maxRecDepth 100000 in
set_option maxHeartbeats 4000000 in
theorem c_X5_sortOf {S : Sg} (hX : MI κ z st0 S) {x y : Int32} : CT zl κ yX5_sortOf cX5_sortOf 3 (some .int) (r0 3 70) z [.ref (ad κ 91), .int (x), .int (y)] st0 (PM κ z st0 (fSortOf S x y, S)) := by
  obtain ⟨P, hP⟩ : ∃ P : Option Value → St → Prop, P = (PM κ z st0 (fSortOf S x y, S)) := ⟨_, rfl⟩
  rw [← hP]
  refine CT.of (by decide +kernel) (Nat.le_of_ble_eq_true rfl) (fun zp ze zs zm zar zbe zme zc C _ => ?_)
  have C : Cx zp zs zm zar zme zc κ cX5_sortOf 3 RX5 (some .int) := C
  refine ws_lv (lv2 := [some (.ref (ad κ 91)), some (.int (x)), some (.int (y))]) rfl ?_
  obtain ⟨⟨y1, y3, hM⟩, ⟨a, hA, hR⟩, hKp, hH, hS, hSc, hT, hB1, hB2⟩ := hX
  have h24 := hR.le
  have hF : Fr (fun q : Nat => 91 ≤ q ∧ q < 106) st0 st0 := Fr.rf
  refine ws_iload_n 0 C dX5_sortOf_0 rfl ?_
  refine ws_callS0 1 C dX5_sortOf_1 vX5_137 (c_X5_isSort) rfl ⟨by decide, by decide⟩ ⟨Nat.zero_le _, Nat.zero_le _⟩ rfl rfl rfl (kR ?_)
  refine ws_if_ne 4 C 11 dX5_sortOf_4 (by decide)  (fun c4 => ?_) (fun c4 => ?_)
  · skip
    obtain ⟨q, hq, hxq, hix⟩ := bix_1 (n := 8) (by decide) c4
    refine ws_wk (lv2 := [some (.ref (ad κ 91)), some (.int (nI q)), some (.int (y))]) ⟨rfl, (congrArg Value.int hxq.symm), rfl, trivial⟩ ?_
    refine ws_iload_n 11 C dX5_sortOf_11 rfl ?_
    rcases sw6 y with hy | hy | hy | hy | hy | hy | hy
    · skip
      have hf := (fSortOf_0 (S := S) hix hy).trans (hR.wid hq).symm
      subst hy
      refine ws_tin 12 C dX5_sortOf_12 (0) (40) 52 (by decide) (by decide) (by decide) (by rfl) (by decide) ?_
      refine ws_aload_n 52 C dX5_sortOf_52 rfl ?_
      refine ws_get 53 C dX5_sortOf_53 fX5_7 hM rfl rfl ?_
      refine ws_iconst 56 C dX5_sortOf_56 (nI 5) (by decide) ?_
      refine ws_bipush 57 C dX5_sortOf_57 (nI 8) (by decide) ?_
      refine ws_iload_n 59 C dX5_sortOf_59 rfl ?_
      refine ws_imul 60 C dX5_sortOf_60 (nI (8 * 0)) (pk_mul _ _) ?_
      refine ws_iadd 61 C dX5_sortOf_61 (nI (5 + 8 * 0)) (nI_add _ _) ?_
      refine ws_iload_n 62 C dX5_sortOf_62 rfl ?_
      refine ws_iadd 63 C dX5_sortOf_63 (nI (5 + 8 * 0 + q)) (nI_add _ _) ?_
      refine ws_iald 64 C dX5_sortOf_64 hA 0 rfl (vp_in_nI (by omega) (by decide)) (a (5 + 8 * 0 + q)) (congrArg a (nI_clamp (by omega))) ?_
      exact ws_iret 65 C dX5_sortOf_65 rfl (Nat.le_refl _) (Nat.le_refl _) (by rw [hP]; exact PM_ret (congrArg (fun t => (t, S)) hf) ⟨⟨_, _, hM⟩, ⟨_, hA, hR⟩, hKp, hH, hS, hSc, hT, hB1, hB2⟩ hF)
    · skip
      have hf := (fSortOf_1 (S := S) hix hy).trans (hR.lef hq).symm
      subst hy
      refine ws_tin 12 C dX5_sortOf_12 (1) (40) 52 (by decide) (by decide) (by decide) (by rfl) (by decide) ?_
      refine ws_aload_n 52 C dX5_sortOf_52 rfl ?_
      refine ws_get 53 C dX5_sortOf_53 fX5_7 hM rfl rfl ?_
      refine ws_iconst 56 C dX5_sortOf_56 (nI 5) (by decide) ?_
      refine ws_bipush 57 C dX5_sortOf_57 (nI 8) (by decide) ?_
      refine ws_iload_n 59 C dX5_sortOf_59 rfl ?_
      refine ws_imul 60 C dX5_sortOf_60 (nI (8 * 1)) (pk_mul _ _) ?_
      refine ws_iadd 61 C dX5_sortOf_61 (nI (5 + 8 * 1)) (nI_add _ _) ?_
      refine ws_iload_n 62 C dX5_sortOf_62 rfl ?_
      refine ws_iadd 63 C dX5_sortOf_63 (nI (5 + 8 * 1 + q)) (nI_add _ _) ?_
      refine ws_iald 64 C dX5_sortOf_64 hA 0 rfl (vp_in_nI (by omega) (by decide)) (a (5 + 8 * 1 + q)) (congrArg a (nI_clamp (by omega))) ?_
      exact ws_iret 65 C dX5_sortOf_65 rfl (Nat.le_refl _) (Nat.le_refl _) (by rw [hP]; exact PM_ret (congrArg (fun t => (t, S)) hf) ⟨⟨_, _, hM⟩, ⟨_, hA, hR⟩, hKp, hH, hS, hSc, hT, hB1, hB2⟩ hF)
    · skip
      have hf := (fSortOf_2 (S := S) hix hy).trans (hR.rig hq).symm
      subst hy
      refine ws_tin 12 C dX5_sortOf_12 (2) (40) 52 (by decide) (by decide) (by decide) (by rfl) (by decide) ?_
      refine ws_aload_n 52 C dX5_sortOf_52 rfl ?_
      refine ws_get 53 C dX5_sortOf_53 fX5_7 hM rfl rfl ?_
      refine ws_iconst 56 C dX5_sortOf_56 (nI 5) (by decide) ?_
      refine ws_bipush 57 C dX5_sortOf_57 (nI 8) (by decide) ?_
      refine ws_iload_n 59 C dX5_sortOf_59 rfl ?_
      refine ws_imul 60 C dX5_sortOf_60 (nI (8 * 2)) (pk_mul _ _) ?_
      refine ws_iadd 61 C dX5_sortOf_61 (nI (5 + 8 * 2)) (nI_add _ _) ?_
      refine ws_iload_n 62 C dX5_sortOf_62 rfl ?_
      refine ws_iadd 63 C dX5_sortOf_63 (nI (5 + 8 * 2 + q)) (nI_add _ _) ?_
      refine ws_iald 64 C dX5_sortOf_64 hA 0 rfl (vp_in_nI (by omega) (by decide)) (a (5 + 8 * 2 + q)) (congrArg a (nI_clamp (by omega))) ?_
      exact ws_iret 65 C dX5_sortOf_65 rfl (Nat.le_refl _) (Nat.le_refl _) (by rw [hP]; exact PM_ret (congrArg (fun t => (t, S)) hf) ⟨⟨_, _, hM⟩, ⟨_, hA, hR⟩, hKp, hH, hS, hSc, hT, hB1, hB2⟩ hF)
    · skip
      refine ws_tin 12 C dX5_sortOf_12 (3) (54) 66 (by rw [hy]; rfl) (by decide) (by decide) (by rfl) (by decide) ?_
      have hf := fSortOf_3 (S := S) hix hy
      refine ws_aload_n 66 C dX5_sortOf_66 rfl ?_
      refine ws_iload_n 67 C dX5_sortOf_67 rfl ?_
      refine ws_bipush 68 C dX5_sortOf_68 (nI 13) (by decide) ?_
      refine ws_callV0 70 C dX5_sortOf_70 vX5_77 (c_X5_hang hM hA hR hq (sd := 13) (side := 2) (by omega) (fun k hk => hR.lef hk)) rfl hM rfl rfl ⟨by decide, by decide⟩ ⟨Nat.zero_le _, Nat.zero_le _⟩ rfl rfl rfl (kR ?_)
      exact ws_iret 73 C dX5_sortOf_73 rfl (Nat.le_refl _) (Nat.le_refl _) (by rw [hP]; exact PM_ret (congrArg (fun t => (t, S)) hf) ⟨⟨_, _, hM⟩, ⟨_, hA, hR⟩, hKp, hH, hS, hSc, hT, hB1, hB2⟩ hF)
    · skip
      refine ws_tin 12 C dX5_sortOf_12 (4) (62) 74 (by rw [hy]; rfl) (by decide) (by decide) (by rfl) (by decide) ?_
      have hf := fSortOf_4 (S := S) hix hy
      refine ws_aload_n 74 C dX5_sortOf_74 rfl ?_
      refine ws_iload_n 75 C dX5_sortOf_75 rfl ?_
      refine ws_bipush 76 C dX5_sortOf_76 (nI 21) (by decide) ?_
      refine ws_callV0 78 C dX5_sortOf_78 vX5_77 (c_X5_hang hM hA hR hq (sd := 21) (side := 3) (by omega) (fun k hk => hR.rig hk)) rfl hM rfl rfl ⟨by decide, by decide⟩ ⟨Nat.zero_le _, Nat.zero_le _⟩ rfl rfl rfl (kR ?_)
      exact ws_iret 81 C dX5_sortOf_81 rfl (Nat.le_refl _) (Nat.le_refl _) (by rw [hP]; exact PM_ret (congrArg (fun t => (t, S)) hf) ⟨⟨_, _, hM⟩, ⟨_, hA, hR⟩, hKp, hH, hS, hSc, hT, hB1, hB2⟩ hF)
    · skip
      refine ws_tin 12 C dX5_sortOf_12 (5) (70) 82 (by rw [hy]; rfl) (by decide) (by decide) (by rfl) (by decide) ?_
      have hf := fSortOf_5 (S := S) hix hy
      refine ws_aload_n 82 C dX5_sortOf_82 rfl ?_
      refine ws_iload_n 83 C dX5_sortOf_83 rfl ?_
      refine ws_callV0 84 C dX5_sortOf_84 vX5_148 (c_X5_often hM hA hR hq) rfl hM rfl rfl ⟨by decide, by decide⟩ ⟨Nat.zero_le _, Nat.zero_le _⟩ rfl rfl rfl (kR ?_)
      exact ws_iret 87 C dX5_sortOf_87 rfl (Nat.le_refl _) (Nat.le_refl _) (by rw [hP]; exact PM_ret (congrArg (fun t => (t, S)) hf) ⟨⟨_, _, hM⟩, ⟨_, hA, hR⟩, hKp, hH, hS, hSc, hT, hB1, hB2⟩ hF)
    · skip
      refine ws_tout 12 C dX5_sortOf_12 88 (hy.2) (by decide) ?_
      have hf := fSortOf_b (S := S) hix hy.1
      refine ws_sipush 88 C dX5_sortOf_88 ((-1002)) (by decide) ?_
      exact ws_iret 91 C dX5_sortOf_91 rfl (Nat.le_refl _) (Nat.le_refl _) (by rw [hP]; exact PM_ret (congrArg (fun t => (t, S)) hf) ⟨⟨_, _, hM⟩, ⟨_, hA, hR⟩, hKp, hH, hS, hSc, hT, hB1, hB2⟩ hF)
  · skip
    have hf := fSortOf_n (S := S) (y := y) (bix_0 c4)
    refine ws_sipush 7 C dX5_sortOf_7 ((-1001)) (by decide) ?_
    exact ws_iret 10 C dX5_sortOf_10 rfl (Nat.le_refl _) (Nat.le_refl _) (by rw [hP]; exact PM_ret (congrArg (fun t => (t, S)) hf) ⟨⟨_, _, hM⟩, ⟨_, hA, hR⟩, hKp, hH, hS, hSc, hT, hB1, hB2⟩ hF)

set_option maxRecDepth 100000 in
set_option maxHeartbeats 4000000 in
theorem c_X5_lineOf {y0 y1 y2 y3 : Int32} {a : Nat → Int32} {μ : Mu} (hM : Ob z st0 91 (bMo κ y0 y1 y2 y3)) (hA : Ob z st0 92 (bA κ 293 a)) (hR : Rm μ a)(hSc : ScP κ z st0) {w i : Nat} (hw : w < 2) (hi : i < mn μ) : CT zl κ yX5_lineOf cX5_lineOf 4 (some .int) (r0 6 132) z [.ref (ad κ 91), .int (nI w), .int (nI i)] st0 (PI (fun rr u => (rr = nI (lof (nxw μ w) i (lnw μ w)) ∧ Ob z u 91 (bMo κ y0 (nI (lno (nxw μ w) (mn μ))) y2 y3) ∧ ScP κ z u) ∧ Fr (fun q : Nat => q = 91 ∨ (97 ≤ q ∧ q < 103)) st0 u)) := by
  obtain ⟨P, hP⟩ : ∃ P : Option Value → St → Prop, P = (PI (fun rr u => (rr = nI (lof (nxw μ w) i (lnw μ w)) ∧ Ob z u 91 (bMo κ y0 (nI (lno (nxw μ w) (mn μ))) y2 y3) ∧ ScP κ z u) ∧ Fr (fun q : Nat => q = 91 ∨ (97 ≤ q ∧ q < 103)) st0 u)) := ⟨_, rfl⟩
  rw [← hP]
  refine CT.of (by decide +kernel) (Nat.le_of_ble_eq_true rfl) (fun zp ze zs zm zar zbe zme zc C _ => ?_)
  have C : Cx zp zs zm zar zme zc κ cX5_lineOf 4 RX5 (some .int) := C
  refine ws_lv (lv2 := [some (.ref (ad κ 91)), some (.int (nI w)), some (.int (nI i)), none]) rfl ?_
  have h24 := hR.le
  have hF : Fr (fun q : Nat => q = 91 ∨ (97 ≤ q ∧ q < 103)) st0 st0 := Fr.rf
  refine ws_aload_n 0 C dX5_lineOf_0 rfl ?_
  refine ws_iload_n 1 C dX5_lineOf_1 rfl ?_
  refine ws_callV0 2 C dX5_lineOf_2 vX5_151 (c_X5_breaks hM hA hR hSc hw) rfl hM rfl rfl ⟨by decide, by decide⟩ ⟨Nat.zero_le _, Nat.zero_le _⟩ rfl rfl rfl (kV (fun u2 h2 => ?_))
  obtain ⟨⟨hM, hMb⟩, hfr⟩ := h2
  have hSc := hMb.sc
  obtain ⟨p, l, r, s, lf, tk, hp, hlf, hrt, hs_, hle, htk, hW, hb⟩ := id hMb
  have hA := hfr.ob hA (fun q (g1 : 92 ≤ q) (g2 : q < 92 + 1) => (show ¬ (q = 91 ∨ (97 ≤ q ∧ q < 103)) from by omega))
  have hF := hF.then hfr (fun q (hq : q = 91 ∨ (97 ≤ q ∧ q < 103)) => (show q = 91 ∨ (97 ≤ q ∧ q < 103) from by omega))
  refine ws_iconst 5 C dX5_lineOf_5 (nI 0) (by decide) ?_
  refine ws_istore_n 6 C dX5_lineOf_6 rfl [some (.ref (ad κ 91)), some (.int (nI w)), some (.int (nI i)), some (.int (nI 0))] rfl ?_
  have L7 : ∀ t : Nat, t ≤ lno (nxw μ w) (mn μ) → ∀ (hst : stt (nxw μ w) t ≤ i), WS zp zl ze (r0 6 132) zs zm zar zbe zme zc κ z 0 0 (QM zbe zar zs κ z (r0 6 132) P) u2 7 [some (.ref (ad κ 91)), some (.int (nI w)), some (.int (nI i)), some (.int (nI t))] [] := by
    refine dnw ?_
    intro t ht ih7 hst
    have hLn := hb.L_le
    have htL := br_lt hb.2.1 ht (Nat.lt_of_le_of_lt hst hi)
    refine ws_aload_n 7 C dX5_lineOf_7 rfl ?_
    refine ws_get 8 C dX5_lineOf_8 fX5_34 hM rfl rfl ?_
    refine ws_iload_n 11 C dX5_lineOf_11 rfl ?_
    refine ws_iconst 12 C dX5_lineOf_12 (nI 1) (by decide) ?_
    refine ws_iadd 13 C dX5_lineOf_13 (nI (t + 1)) (nI_add _ _) ?_
    refine ws_iald 14 C dX5_lineOf_14 hs_ 0 rfl (vp_in_nI (by omega) (by decide)) (nI (stt (nxw μ w) (t + 1))) ((congrArg s (nI_clamp (by omega))).trans (hb.at htL)) ?_
    refine ws_iload_n 15 C dX5_lineOf_15 rfl ?_
    refine ws_nicmp_gt 16 C 25 dX5_lineOf_16 (by decide) (by first | omega | (have := hb.le (show t + 1 ≤ _ from htL); omega)) (by first | omega | (have := hb.le (show t + 1 ≤ _ from htL); omega)) (fun c16 => ?_) (fun c16 => ?_)
    · skip
      have hlo := lof_is hb.1 hb.2.1 htL hst c16
      refine ws_iload_n 25 C dX5_lineOf_25 rfl ?_
      exact ws_iret 26 C  dX5_lineOf_26 rfl (Nat.le_refl _) (Nat.le_refl _) (by rw [hP]; exact ⟨nI t, rfl, ⟨⟨congrArg nI hlo.symm, hM, hSc⟩, hF⟩⟩)
    · skip
      refine ws_iinc 19 C dX5_lineOf_19 rfl (nI (t + 1)) (nI_1 _) rfl [some (.ref (ad κ 91)), some (.int (nI w)), some (.int (nI i)), some (.int (nI (t + 1)))] rfl ?_
      refine ws_goto 22 C 7 dX5_lineOf_22 (by decide) ?_
      exact ih7 htL (by omega)
  exact L7 0 (Nat.zero_le _) (Nat.zero_le _)

set_option maxRecDepth 100000 in
set_option maxHeartbeats 4000000 in
theorem c_X5_word {S : Sg} (hX : MI κ z st0 S) {x y : Int32} : CT zl κ yX5_word cX5_word 3 (some .int) (r0 7 155) z [.ref (ad κ 91), .int (x), .int (y)] st0 (PM κ z st0 (fWord S x y, S)) := by
  obtain ⟨P, hP⟩ : ∃ P : Option Value → St → Prop, P = (PM κ z st0 (fWord S x y, S)) := ⟨_, rfl⟩
  rw [← hP]
  refine CT.of (by decide +kernel) (Nat.le_of_ble_eq_true rfl) (fun zp ze zs zm zar zbe zme zc C _ => ?_)
  have C : Cx zp zs zm zar zme zc κ cX5_word 3 RX5 (some .int) := C
  refine ws_lv (lv2 := [some (.ref (ad κ 91)), some (.int (x)), some (.int (y))]) rfl ?_
  obtain ⟨⟨y1, y3, hM⟩, ⟨a, hA, hR⟩, hKp, hH, hS, hSc, hT, hB1, hB2⟩ := hX
  have h24 := hR.le
  have hF : Fr (fun q : Nat => 91 ≤ q ∧ q < 106) st0 st0 := Fr.rf
  refine ws_aload_n 0 C dX5_word_0 rfl ?_
  refine ws_iload_n 1 C dX5_word_1 rfl ?_
  refine ws_callV0 2 C dX5_word_2 vX5_142 (c_X5_isWord hM hA hR) rfl hM rfl rfl ⟨by decide, by decide⟩ ⟨Nat.zero_le _, Nat.zero_le _⟩ rfl rfl rfl (kR ?_)
  refine ws_if_ne 5 C 12 dX5_word_5 (by decide)  (fun c5 => ?_) (fun c5 => ?_)
  · skip
    obtain ⟨i, hi, hxi, hix⟩ := bix_1 (n := mn (sM S)) (by omega) c5
    have h10 := (hR.ok.len hi).2
    refine ws_wk (lv2 := [some (.ref (ad κ 91)), some (.int (nI i)), some (.int (y))]) ⟨rfl, (congrArg Value.int hxi.symm), rfl, trivial⟩ ?_
    refine ws_iload_n 12 C dX5_word_12 rfl ?_
    rcases sw4b y with hy | hy | hy | hy | ⟨hy, ht⟩
    · skip
      refine ws_tin 13 C dX5_word_13 (0) (31) 44 (by rw [hy]; rfl) (by decide) (by decide) (by rfl) (by decide) ?_
      have hf := fWord_0 (S := S) hix hy
      refine ws_aload_n 44 C dX5_word_44 rfl ?_
      refine ws_iload_n 45 C dX5_word_45 rfl ?_
      refine ws_callV0 46 C dX5_word_46 vX5_66 (c_X5_signs hM hA hR hi) rfl hM rfl rfl ⟨by decide, by decide⟩ ⟨Nat.zero_le _, Nat.zero_le _⟩ rfl rfl rfl (kR ?_)
      exact ws_iret 49 C dX5_word_49 rfl (Nat.le_refl _) (Nat.le_refl _) (by rw [hP]; exact PM_ret (congrArg (fun t => (t, S)) hf) ⟨⟨_, _, hM⟩, ⟨_, hA, hR⟩, hKp, hH, hS, hSc, hT, hB1, hB2⟩ hF)
    · skip
      refine ws_tin 13 C dX5_word_13 (1) (37) 50 (by rw [hy]; rfl) (by decide) (by decide) (by rfl) (by decide) ?_
      have hf := fWord_1 (S := S) hix hy
      refine ws_aload_n 50 C dX5_word_50 rfl ?_
      refine ws_iload_n 51 C dX5_word_51 rfl ?_
      refine ws_callV0 52 C dX5_word_52 vX5_80 (c_X5_widthOf hM hA hR hi) rfl hM rfl rfl ⟨by decide, by decide⟩ ⟨Nat.zero_le _, Nat.zero_le _⟩ rfl rfl rfl (kR ?_)
      exact ws_iret 55 C dX5_word_55 rfl (Nat.le_refl _) (Nat.le_refl _) (by rw [hP]; exact PM_ret (congrArg (fun t => (t, S)) hf) ⟨⟨_, _, hM⟩, ⟨_, hA, hR⟩, hKp, hH, hS, hSc, hT, hB1, hB2⟩ hF)
    · skip
      have hf := fWord_2 (S := S) hix hy
      subst hy
      refine ws_tin 13 C dX5_word_13 (2) (43) 56 (by decide) (by decide) (by decide) (by rfl) (by decide) ?_
      refine ws_aload_n 56 C dX5_word_56 rfl ?_
      refine ws_iload_n 57 C dX5_word_57 rfl ?_
      refine ws_iconst 58 C dX5_word_58 (nI 2) (by decide) ?_
      refine ws_isub 59 C dX5_word_59 (nI 0) (by decide) ?_
      refine ws_iload_n 60 C dX5_word_60 rfl ?_
      refine ws_callV0 61 C dX5_word_61 vX5_154 (c_X5_lineOf hM hA hR hSc (w := 0) (by decide) hi) rfl hM rfl rfl ⟨by decide, by decide⟩ ⟨Nat.zero_le _, Nat.zero_le _⟩ rfl rfl rfl (kI' (fun r61 u61 h61 => ?_))
      obtain ⟨⟨hr, hM, hSc⟩, hfr⟩ := h61
      have hKp := hKp.fr hfr (fun q (g1 : 93 ≤ q) (g2 : q < 94) => (show ¬ (q = 91 ∨ (97 ≤ q ∧ q < 103)) from by omega))
      have hH := hH.fr hfr (fun q (g1 : 94 ≤ q) (g2 : q < 95) => (show ¬ (q = 91 ∨ (97 ≤ q ∧ q < 103)) from by omega))
      have hS := hS.fr hfr (fun q (g1 : 95 ≤ q) (g2 : q < 97) => (show ¬ (q = 91 ∨ (97 ≤ q ∧ q < 103)) from by omega))
      have hT := hT.fr hfr (fun q (g1 : 103 ≤ q) (g2 : q < 104) => (show ¬ (q = 91 ∨ (97 ≤ q ∧ q < 103)) from by omega))
      have hB1 := hB1.fr hfr (fun q (g1 : 104 ≤ q) (g2 : q < 105) => (show ¬ (q = 91 ∨ (97 ≤ q ∧ q < 103)) from by omega))
      have hB2 := hB2.fr hfr (fun q (g1 : 105 ≤ q) (g2 : q < 106) => (show ¬ (q = 91 ∨ (97 ≤ q ∧ q < 103)) from by omega))
      have hA := hfr.ob hA (fun q (g1 : 92 ≤ q) (g2 : q < 92 + 1) => (show ¬ (q = 91 ∨ (97 ≤ q ∧ q < 103)) from by omega))
      have hF := hF.then hfr (fun q (hq : q = 91 ∨ (97 ≤ q ∧ q < 103)) => (show 91 ≤ q ∧ q < 106 from by omega))
      exact ws_iret 64 C dX5_word_64 rfl (Nat.le_refl _) (Nat.le_refl _) (by rw [hP]; exact PM_ret (congrArg (fun t => (t, S)) (hf.trans hr.symm)) ⟨⟨_, _, hM⟩, ⟨_, hA, hR⟩, hKp, hH, hS, hSc, hT, hB1, hB2⟩ hF)
    · skip
      have hf := fWord_3 (S := S) hix hy
      subst hy
      refine ws_tin 13 C dX5_word_13 (3) (43) 56 (by decide) (by decide) (by decide) (by rfl) (by decide) ?_
      refine ws_aload_n 56 C dX5_word_56 rfl ?_
      refine ws_iload_n 57 C dX5_word_57 rfl ?_
      refine ws_iconst 58 C dX5_word_58 (nI 2) (by decide) ?_
      refine ws_isub 59 C dX5_word_59 (nI 1) (by decide) ?_
      refine ws_iload_n 60 C dX5_word_60 rfl ?_
      refine ws_callV0 61 C dX5_word_61 vX5_154 (c_X5_lineOf hM hA hR hSc (w := 1) (by decide) hi) rfl hM rfl rfl ⟨by decide, by decide⟩ ⟨Nat.zero_le _, Nat.zero_le _⟩ rfl rfl rfl (kI' (fun r61 u61 h61 => ?_))
      obtain ⟨⟨hr, hM, hSc⟩, hfr⟩ := h61
      have hKp := hKp.fr hfr (fun q (g1 : 93 ≤ q) (g2 : q < 94) => (show ¬ (q = 91 ∨ (97 ≤ q ∧ q < 103)) from by omega))
      have hH := hH.fr hfr (fun q (g1 : 94 ≤ q) (g2 : q < 95) => (show ¬ (q = 91 ∨ (97 ≤ q ∧ q < 103)) from by omega))
      have hS := hS.fr hfr (fun q (g1 : 95 ≤ q) (g2 : q < 97) => (show ¬ (q = 91 ∨ (97 ≤ q ∧ q < 103)) from by omega))
      have hT := hT.fr hfr (fun q (g1 : 103 ≤ q) (g2 : q < 104) => (show ¬ (q = 91 ∨ (97 ≤ q ∧ q < 103)) from by omega))
      have hB1 := hB1.fr hfr (fun q (g1 : 104 ≤ q) (g2 : q < 105) => (show ¬ (q = 91 ∨ (97 ≤ q ∧ q < 103)) from by omega))
      have hB2 := hB2.fr hfr (fun q (g1 : 105 ≤ q) (g2 : q < 106) => (show ¬ (q = 91 ∨ (97 ≤ q ∧ q < 103)) from by omega))
      have hA := hfr.ob hA (fun q (g1 : 92 ≤ q) (g2 : q < 92 + 1) => (show ¬ (q = 91 ∨ (97 ≤ q ∧ q < 103)) from by omega))
      have hF := hF.then hfr (fun q (hq : q = 91 ∨ (97 ≤ q ∧ q < 103)) => (show 91 ≤ q ∧ q < 106 from by omega))
      exact ws_iret 64 C dX5_word_64 rfl (Nat.le_refl _) (Nat.le_refl _) (by rw [hP]; exact PM_ret (congrArg (fun t => (t, S)) (hf.trans hr.symm)) ⟨⟨_, _, hM⟩, ⟨_, hA, hR⟩, hKp, hH, hS, hSc, hT, hB1, hB2⟩ hF)
    · skip
      refine ws_tout 13 C dX5_word_13 65 (ht) (by decide) ?_
      refine ws_iload_n 65 C dX5_word_65 rfl ?_
      refine ws_if_ge 66 C 75 dX5_word_66 (by decide)  (fun c66 => ?_) (fun c66 => ?_)
      · skip
        have h4 := ge4 c66 ht
        refine ws_iload_n 75 C dX5_word_75 rfl ?_
        refine ws_iconst 76 C dX5_word_76 (nI 4) (by decide) ?_
        refine ws_isub 77 C dX5_word_77 (y - (nI 4)) rfl ?_
        refine ws_aload_n 78 C dX5_word_78 rfl ?_
        refine ws_iload_n 79 C dX5_word_79 rfl ?_
        refine ws_callV0 80 C dX5_word_80 vX5_66 (c_X5_signs hM hA hR hi) rfl hM rfl rfl ⟨by decide, by decide⟩ ⟨Nat.zero_le _, Nat.zero_le _⟩ rfl rfl rfl (kR ?_)
        refine ws_icmp_ge 83 C 97 dX5_word_83 (by decide)  (fun c83 => ?_) (fun c83 => ?_)
        · skip
          have hf := fWord_5 (S := S) hix h4 (sub4n c83)
          refine ws_sipush 97 C dX5_word_97 ((-1006)) (by decide) ?_
          exact ws_iret 100 C dX5_word_100 rfl (Nat.le_refl _) (Nat.le_refl _) (by rw [hP]; exact PM_ret (congrArg (fun t => (t, S)) hf) ⟨⟨_, _, hM⟩, ⟨_, hA, hR⟩, hKp, hH, hS, hSc, hT, hB1, hB2⟩ hF)
        · skip
          obtain ⟨j, hj, hyj, hjx⟩ := sub4 h10 h4 c83
          have hf := fWord_4 (S := S) hix h4 hjx
          refine ws_aload_n 86 C dX5_word_86 rfl ?_
          refine ws_iload_n 87 C dX5_word_87 rfl ?_
          refine ws_iload_n 88 C dX5_word_88 rfl ?_
          refine ws_iconst 89 C dX5_word_89 (nI 4) (by decide) ?_
          refine ws_isub 90 C dX5_word_90 (nI j) hyj ?_
          refine ws_callV0 91 C dX5_word_91 vX5_70 (c_X5_signAt hM hA hR hi hj) rfl hM rfl rfl ⟨by decide, by decide⟩ ⟨Nat.zero_le _, Nat.zero_le _⟩ rfl rfl rfl (kR ?_)
          refine ws_goto 94 C 100 dX5_word_94 (by decide) ?_
          exact ws_iret 100 C dX5_word_100 rfl (Nat.le_refl _) (Nat.le_refl _) (by rw [hP]; exact PM_ret (congrArg (fun t => (t, S)) hf) ⟨⟨_, _, hM⟩, ⟨_, hA, hR⟩, hKp, hH, hS, hSc, hT, hB1, hB2⟩ hF)
      · skip
        have hf := fWord_b (S := S) hix (Int32.not_le.mp c66)
        refine ws_sipush 69 C dX5_word_69 ((-1002)) (by decide) ?_
        refine ws_goto 72 C 100 dX5_word_72 (by decide) ?_
        exact ws_iret 100 C dX5_word_100 rfl (Nat.le_refl _) (Nat.le_refl _) (by rw [hP]; exact PM_ret (congrArg (fun t => (t, S)) hf) ⟨⟨_, _, hM⟩, ⟨_, hA, hR⟩, hKp, hH, hS, hSc, hT, hB1, hB2⟩ hF)
  · skip
    have hf := fWord_n (S := S) (y := y) (bix_0 c5)
    refine ws_sipush 8 C dX5_word_8 ((-1001)) (by decide) ?_
    exact ws_iret 11 C dX5_word_11 rfl (Nat.le_refl _) (Nat.le_refl _) (by rw [hP]; exact PM_ret (congrArg (fun t => (t, S)) hf) ⟨⟨_, _, hM⟩, ⟨_, hA, hR⟩, hKp, hH, hS, hSc, hT, hB1, hB2⟩ hF)
end
