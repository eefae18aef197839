section
variable {zl : Launch} {κ : Kt} {z : Nat} {st0 : St}
set_option maxRecDepth 100000 in
set_option maxHeartbeats 4000000 in
theorem c_X4_sortOf {S : Sg} (hX : XI κ z st0 S) {x y : Int32} : CT zl κ yX4_sortOf cX4_sortOf 3 (some .int) (r0 3 68) z [.ref (ad κ 0), .int (x), .int (y)] st0 (PX κ z st0 (fSortOf S x y, S)) := by
  obtain ⟨P, hP⟩ : ∃ P : Option Value → St → Prop, P = (PX κ z st0 (fSortOf S x y, S)) := ⟨_, rfl⟩
  rw [← hP]
  refine CT.of (by decide +kernel) (Nat.le_of_ble_eq_true rfl) (fun zp ze zs zm zar zbe zme zc C _ => ?_)
  have C : Cx zp zs zm zar zme zc κ cX4_sortOf 3 RX4 (some .int) := C
  refine ws_lv (lv2 := [some (.ref (ad κ 0)), some (.int (x)), some (.int (y))]) rfl ?_
  obtain ⟨hO, hS1, hS8, hLg, hLb, hPd, hHs, hSl⟩ := hX
  have hF : Fr (fun q : Nat => q < 91) st0 st0 := Fr.rf
  refine ws_iload_n 0 C dX4_sortOf_0 rfl ?_
  refine ws_callS0 1 C dX4_sortOf_1 vX4_65 (c_X4_isSort) rfl ⟨by decide, by decide⟩ ⟨Nat.zero_le _, Nat.zero_le _⟩ rfl rfl rfl (kR ?_)
  refine ws_if_ne 4 C 11 dX4_sortOf_4 (by decide)  (fun c4 => ?_) (fun c4 => ?_)
  · skip
    obtain ⟨q, hq, hxq, hix⟩ := bix_1 (n := 8) (by decide) c4
    refine ws_wk (lv2 := [some (.ref (ad κ 0)), some (.int (nI q)), some (.int (y))]) ⟨rfl, (congrArg Value.int hxq.symm), rfl, trivial⟩ ?_
    obtain ⟨f1, f2, f3, f4, f5, f6, hB, hR⟩ := id hS1
    have h24 := hR.le
    refine ws_iload_n 11 C dX4_sortOf_11 rfl ?_
    rcases sw6 y with hy | hy | hy | hy | hy | hy | hy
    · skip
      refine ws_tin 12 C dX4_sortOf_12 (0) (40) 52 (by rw [hy]; rfl) (by decide) (by decide) (by rfl) (by decide) ?_
      have hf := fSortOf_0 (S := S) hix hy
      refine ws_aload_n 52 C dX4_sortOf_52 rfl ?_
      refine ws_get 53 C dX4_sortOf_53 fX4_10 hO rfl rfl ?_
      refine ws_get 56 C dX4_sortOf_56 fX4_72 hB rfl rfl ?_
      refine ws_iload_n 59 C dX4_sortOf_59 rfl ?_
      refine ws_iald 60 C dX4_sortOf_60 hB 2 rfl (vp_in_nI (by omega) (by decide)) (mv (sM S) 1 q) ((congrArg f2 (nI_clamp (by omega))).trans (hR.wid hq)) ?_
      exact ws_iret 61 C  dX4_sortOf_61 rfl (Nat.le_refl _) (Nat.le_refl _) (by rw [hP]; exact PX_ret (congrArg (fun t => (t, S)) hf) ⟨hO, hS1, hS8, hLg, hLb, hPd, hHs, hSl⟩ hF)
    · skip
      refine ws_tin 12 C dX4_sortOf_12 (1) (50) 62 (by rw [hy]; rfl) (by decide) (by decide) (by rfl) (by decide) ?_
      have hf := fSortOf_1 (S := S) hix hy
      refine ws_aload_n 62 C dX4_sortOf_62 rfl ?_
      refine ws_get 63 C dX4_sortOf_63 fX4_10 hO rfl rfl ?_
      refine ws_get 66 C dX4_sortOf_66 fX4_75 hB rfl rfl ?_
      refine ws_iload_n 69 C dX4_sortOf_69 rfl ?_
      refine ws_iald 70 C dX4_sortOf_70 hB 3 rfl (vp_in_nI (by omega) (by decide)) (mv (sM S) 2 q) ((congrArg f3 (nI_clamp (by omega))).trans (hR.lef hq)) ?_
      exact ws_iret 71 C  dX4_sortOf_71 rfl (Nat.le_refl _) (Nat.le_refl _) (by rw [hP]; exact PX_ret (congrArg (fun t => (t, S)) hf) ⟨hO, hS1, hS8, hLg, hLb, hPd, hHs, hSl⟩ hF)
    · skip
      refine ws_tin 12 C dX4_sortOf_12 (2) (60) 72 (by rw [hy]; rfl) (by decide) (by decide) (by rfl) (by decide) ?_
      have hf := fSortOf_2 (S := S) hix hy
      refine ws_aload_n 72 C dX4_sortOf_72 rfl ?_
      refine ws_get 73 C dX4_sortOf_73 fX4_10 hO rfl rfl ?_
      refine ws_get 76 C dX4_sortOf_76 fX4_78 hB rfl rfl ?_
      refine ws_iload_n 79 C dX4_sortOf_79 rfl ?_
      refine ws_iald 80 C dX4_sortOf_80 hB 4 rfl (vp_in_nI (by omega) (by decide)) (mv (sM S) 3 q) ((congrArg f4 (nI_clamp (by omega))).trans (hR.rig hq)) ?_
      exact ws_iret 81 C  dX4_sortOf_81 rfl (Nat.le_refl _) (Nat.le_refl _) (by rw [hP]; exact PX_ret (congrArg (fun t => (t, S)) hf) ⟨hO, hS1, hS8, hLg, hLb, hPd, hHs, hSl⟩ hF)
    · skip
      refine ws_tin 12 C dX4_sortOf_12 (3) (70) 82 (by rw [hy]; rfl) (by decide) (by decide) (by rfl) (by decide) ?_
      have hf := fSortOf_3 (S := S) hix hy
      refine ws_aload_n 82 C dX4_sortOf_82 rfl ?_
      refine ws_get 83 C dX4_sortOf_83 fX4_10 hO rfl rfl ?_
      refine ws_iload_n 86 C dX4_sortOf_86 rfl ?_
      refine ws_callV0 87 C dX4_sortOf_87 vX4_120 (c_X3_hangAtLeft hB hR hq) rfl hB rfl rfl ⟨by decide, by decide⟩ ⟨Nat.zero_le _, Nat.zero_le _⟩ rfl rfl rfl (kR ?_)
      exact ws_iret 90 C  dX4_sortOf_90 rfl (Nat.le_refl _) (Nat.le_refl _) (by rw [hP]; exact PX_ret (congrArg (fun t => (t, S)) hf) ⟨hO, hS1, hS8, hLg, hLb, hPd, hHs, hSl⟩ hF)
    · skip
      refine ws_tin 12 C dX4_sortOf_12 (4) (79) 91 (by rw [hy]; rfl) (by decide) (by decide) (by rfl) (by decide) ?_
      have hf := fSortOf_4 (S := S) hix hy
      refine ws_aload_n 91 C dX4_sortOf_91 rfl ?_
      refine ws_get 92 C dX4_sortOf_92 fX4_10 hO rfl rfl ?_
      refine ws_iload_n 95 C dX4_sortOf_95 rfl ?_
      refine ws_callV0 96 C dX4_sortOf_96 vX4_123 (c_X3_hangAtRight hB hR hq) rfl hB rfl rfl ⟨by decide, by decide⟩ ⟨Nat.zero_le _, Nat.zero_le _⟩ rfl rfl rfl (kR ?_)
      exact ws_iret 99 C  dX4_sortOf_99 rfl (Nat.le_refl _) (Nat.le_refl _) (by rw [hP]; exact PX_ret (congrArg (fun t => (t, S)) hf) ⟨hO, hS1, hS8, hLg, hLb, hPd, hHs, hSl⟩ hF)
    · skip
      refine ws_tin 12 C dX4_sortOf_12 (5) (88) 100 (by rw [hy]; rfl) (by decide) (by decide) (by rfl) (by decide) ?_
      have hf := fSortOf_5 (S := S) hix hy
      refine ws_aload_n 100 C dX4_sortOf_100 rfl ?_
      refine ws_get 101 C dX4_sortOf_101 fX4_10 hO rfl rfl ?_
      refine ws_iload_n 104 C dX4_sortOf_104 rfl ?_
      refine ws_callV0 105 C dX4_sortOf_105 vX4_126 (c_X3_countOf hB hR hq) rfl hB rfl rfl ⟨by decide, by decide⟩ ⟨Nat.zero_le _, Nat.zero_le _⟩ rfl rfl rfl (kR ?_)
      exact ws_iret 108 C  dX4_sortOf_108 rfl (Nat.le_refl _) (Nat.le_refl _) (by rw [hP]; exact PX_ret (congrArg (fun t => (t, S)) hf) ⟨hO, hS1, hS8, hLg, hLb, hPd, hHs, hSl⟩ hF)
    · skip
      refine ws_tout 12 C dX4_sortOf_12 109 (hy.2) (by decide) ?_
      have hf := fSortOf_b (S := S) hix hy.1
      refine ws_sipush 109 C dX4_sortOf_109 ((-1002)) (by decide) ?_
      exact ws_iret 112 C  dX4_sortOf_112 rfl (Nat.le_refl _) (Nat.le_refl _) (by rw [hP]; exact PX_ret (congrArg (fun t => (t, S)) hf) ⟨hO, hS1, hS8, hLg, hLb, hPd, hHs, hSl⟩ hF)
  · skip
    have hn := bix_0 c4
    refine ws_sipush 7 C dX4_sortOf_7 ((-1001)) (by decide) ?_
    exact ws_iret 10 C  dX4_sortOf_10 rfl (Nat.le_refl _) (Nat.le_refl _) (by rw [hP]; exact PX_ret (congrArg (fun t => (t, S)) (fSortOf_n hn)) ⟨hO, hS1, hS8, hLg, hLb, hPd, hHs, hSl⟩ hF)

set_option maxRecDepth 100000 in
set_option maxHeartbeats 4000000 in
theorem c_X4_word {S : Sg} (hX : XI κ z st0 S) {x y : Int32} : CT zl κ yX4_word cX4_word 3 (some .int) (r0 7 155) z [.ref (ad κ 0), .int (x), .int (y)] st0 (PX κ z st0 (fWord S x y, S)) := by
  obtain ⟨P, hP⟩ : ∃ P : Option Value → St → Prop, P = (PX κ z st0 (fWord S x y, S)) := ⟨_, rfl⟩
  rw [← hP]
  refine CT.of (by decide +kernel) (Nat.le_of_ble_eq_true rfl) (fun zp ze zs zm zar zbe zme zc C _ => ?_)
  have C : Cx zp zs zm zar zme zc κ cX4_word 3 RX4 (some .int) := C
  refine ws_lv (lv2 := [some (.ref (ad κ 0)), some (.int (x)), some (.int (y))]) rfl ?_
  obtain ⟨hO, hS1, hS8, hLg, hLb, hPd, hHs, hSl⟩ := hX
  have hF : Fr (fun q : Nat => q < 91) st0 st0 := Fr.rf
  obtain ⟨f1, f2, f3, f4, f5, f6, hB, hR⟩ := id hS1
  have h24 := hR.le
  refine ws_aload_n 0 C dX4_word_0 rfl ?_
  refine ws_iload_n 1 C dX4_word_1 rfl ?_
  refine ws_callV0 2 C dX4_word_2 vX4_98 (c_X4_isWord hO hS1) rfl hO rfl rfl ⟨by decide, by decide⟩ ⟨Nat.zero_le _, Nat.zero_le _⟩ rfl rfl rfl (kR ?_)
  refine ws_if_ne 5 C 12 dX4_word_5 (by decide)  (fun c5 => ?_) (fun c5 => ?_)
  · skip
    obtain ⟨i, hi, hxi, hix⟩ := bix_1 (n := mn (sM S)) (by omega) c5
    have h10 := (hR.ok.len hi).2
    refine ws_wk (lv2 := [some (.ref (ad κ 0)), some (.int (nI i)), some (.int (y))]) ⟨rfl, (congrArg Value.int hxi.symm), rfl, trivial⟩ ?_
    refine ws_iload_n 12 C dX4_word_12 rfl ?_
    refine ws_if_ge 13 C 20 dX4_word_13 (by decide)  (fun c13 => ?_) (fun c13 => ?_)
    · skip
      refine ws_iload_n 20 C dX4_word_20 rfl ?_
      rcases sw4 c13 with hy | hy | hy | hy | hy
      · skip
        refine ws_tin 21 C dX4_word_21 (0) (31) 52 (by rw [hy]; rfl) (by decide) (by decide) (by rfl) (by decide) ?_
        have hf := fWord_0 (S := S) hix hy
        refine ws_aload_n 52 C dX4_word_52 rfl ?_
        refine ws_get 53 C dX4_word_53 fX4_10 hO rfl rfl ?_
        refine ws_get 56 C dX4_word_56 fX4_129 hB rfl rfl ?_
        refine ws_iload_n 59 C dX4_word_59 rfl ?_
        refine ws_iald 60 C dX4_word_60 hB 6 rfl (vp_in_nI (by omega) (by decide)) (nI (ml (sM S) i)) ((congrArg f6 (nI_clamp (by omega))).trans (hR.len hi)) ?_
        exact ws_iret 61 C  dX4_word_61 rfl (Nat.le_refl _) (Nat.le_refl _) (by rw [hP]; exact PX_ret (congrArg (fun t => (t, S)) hf) ⟨hO, hS1, hS8, hLg, hLb, hPd, hHs, hSl⟩ hF)
      · skip
        refine ws_tin 21 C dX4_word_21 (1) (41) 62 (by rw [hy]; rfl) (by decide) (by decide) (by rfl) (by decide) ?_
        have hf := fWord_1 (S := S) hix hy
        refine ws_aload_n 62 C dX4_word_62 rfl ?_
        refine ws_get 63 C dX4_word_63 fX4_10 hO rfl rfl ?_
        refine ws_iload_n 66 C dX4_word_66 rfl ?_
        refine ws_callV0 67 C dX4_word_67 vX4_101 (c_X3_widthOf hB hR hi) rfl hB rfl rfl ⟨by decide, by decide⟩ ⟨Nat.zero_le _, Nat.zero_le _⟩ rfl rfl rfl (kR ?_)
        exact ws_iret 70 C  dX4_word_70 rfl (Nat.le_refl _) (Nat.le_refl _) (by rw [hP]; exact PX_ret (congrArg (fun t => (t, S)) hf) ⟨hO, hS1, hS8, hLg, hLb, hPd, hHs, hSl⟩ hF)
      · skip
        refine ws_tin 21 C dX4_word_21 (2) (50) 71 (by rw [hy]; rfl) (by decide) (by decide) (by rfl) (by decide) ?_
        have hf := fWord_2 (S := S) hix hy
        refine ws_aload_n 71 C dX4_word_71 rfl ?_
        refine ws_iconst 72 C dX4_word_72 (nI 0) (by decide) ?_
        refine ws_callV0 73 C dX4_word_73 vX4_113 (c_X4_broken (way := 0) (by decide) hO hS1 hLg hLb) rfl hO rfl rfl ⟨by decide, by decide⟩ ⟨Nat.zero_le _, Nat.zero_le _⟩ rfl rfl rfl (kA (fun r73 u73 h73 => ?_))
        obtain ⟨⟨hr, hBk⟩, hfr⟩ := h73
        rw [show lid 0 = 15 from rfl] at hr hBk hfr
        subst hr
        have hLg := hBk.ly
        obtain ⟨p, l, r, s, lf, nx, hL, hW, hb⟩ := hBk
        have hS1 := hS1.fr hfr (fun q (g1 : 1 ≤ q) (g2 : q < 8) => (show ¬ (15 ≤ q ∧ q < 15 + 7) from by omega))
        have hS8 := hS8.fr hfr (fun q (g1 : 8 ≤ q) (g2 : q < 15) => (show ¬ (15 ≤ q ∧ q < 15 + 7) from by omega))
        have hLb := hLb.fr hfr (fun q (g1 : 22 ≤ q) (g2 : q < 29) => (show ¬ (15 ≤ q ∧ q < 15 + 7) from by omega))
        have hPd := hPd.fr hfr (fun q (g1 : 29 ≤ q) (g2 : q < 31) => (show ¬ (15 ≤ q ∧ q < 15 + 7) from by omega))
        have hHs := hHs.fr hfr (fun q (g1 : 31 ≤ q) (g2 : q < 75) => (show ¬ (15 ≤ q ∧ q < 15 + 7) from by omega))
        have hSl := hSl.fr hfr (fun q (g1 : 75 ≤ q) (g2 : q < 91) => (show ¬ (15 ≤ q ∧ q < 15 + 7) from by omega))
        have hO := hfr.ob hO (fun q (g1 : 0 ≤ q) (g2 : q < 0 + 1) => (show ¬ (15 ≤ q ∧ q < 15 + 7) from by omega))
        have hB := hfr.ob hB (fun q (g1 : 1 ≤ q) (g2 : q < 1 + 7) => (show ¬ (15 ≤ q ∧ q < 15 + 7) from by omega))
        have hF := hF.then hfr (fun q (hq : 15 ≤ q ∧ q < 15 + 7) => (show q < 91 from by omega))
        refine ws_iload_n 76 C dX4_word_76 rfl ?_
        refine ws_callV0 77 C dX4_word_77 vX4_132 (c_X1_lineWith hL hW hR.ok hb hi) rfl hL rfl rfl ⟨by decide, by decide⟩ ⟨Nat.zero_le _, Nat.zero_le _⟩ rfl rfl rfl (kR ?_)
        exact ws_iret 80 C  dX4_word_80 rfl (Nat.le_refl _) (Nat.le_refl _) (by rw [hP]; exact PX_ret (congrArg (fun t => (t, S)) hf) ⟨hO, hS1, hS8, hLg, hLb, hPd, hHs, hSl⟩ hF)
      · skip
        refine ws_tin 21 C dX4_word_21 (3) (60) 81 (by rw [hy]; rfl) (by decide) (by decide) (by rfl) (by decide) ?_
        have hf := fWord_3 (S := S) hix hy
        refine ws_aload_n 81 C dX4_word_81 rfl ?_
        refine ws_iconst 82 C dX4_word_82 (nI 1) (by decide) ?_
        refine ws_callV0 83 C dX4_word_83 vX4_113 (c_X4_broken (way := 1) (by decide) hO hS1 hLg hLb) rfl hO rfl rfl ⟨by decide, by decide⟩ ⟨Nat.zero_le _, Nat.zero_le _⟩ rfl rfl rfl (kA (fun r83 u83 h83 => ?_))
        obtain ⟨⟨hr, hBk⟩, hfr⟩ := h83
        rw [show lid 1 = 22 from rfl] at hr hBk hfr
        subst hr
        have hLb := hBk.ly
        obtain ⟨p, l, r, s, lf, nx, hL, hW, hb⟩ := hBk
        have hS1 := hS1.fr hfr (fun q (g1 : 1 ≤ q) (g2 : q < 8) => (show ¬ (22 ≤ q ∧ q < 22 + 7) from by omega))
        have hS8 := hS8.fr hfr (fun q (g1 : 8 ≤ q) (g2 : q < 15) => (show ¬ (22 ≤ q ∧ q < 22 + 7) from by omega))
        have hLg := hLg.fr hfr (fun q (g1 : 15 ≤ q) (g2 : q < 22) => (show ¬ (22 ≤ q ∧ q < 22 + 7) from by omega))
        have hPd := hPd.fr hfr (fun q (g1 : 29 ≤ q) (g2 : q < 31) => (show ¬ (22 ≤ q ∧ q < 22 + 7) from by omega))
        have hHs := hHs.fr hfr (fun q (g1 : 31 ≤ q) (g2 : q < 75) => (show ¬ (22 ≤ q ∧ q < 22 + 7) from by omega))
        have hSl := hSl.fr hfr (fun q (g1 : 75 ≤ q) (g2 : q < 91) => (show ¬ (22 ≤ q ∧ q < 22 + 7) from by omega))
        have hO := hfr.ob hO (fun q (g1 : 0 ≤ q) (g2 : q < 0 + 1) => (show ¬ (22 ≤ q ∧ q < 22 + 7) from by omega))
        have hB := hfr.ob hB (fun q (g1 : 1 ≤ q) (g2 : q < 1 + 7) => (show ¬ (22 ≤ q ∧ q < 22 + 7) from by omega))
        have hF := hF.then hfr (fun q (hq : 22 ≤ q ∧ q < 22 + 7) => (show q < 91 from by omega))
        refine ws_iload_n 86 C dX4_word_86 rfl ?_
        refine ws_callV0 87 C dX4_word_87 vX4_132 (c_X1_lineWith hL hW hR.ok hb hi) rfl hL rfl rfl ⟨by decide, by decide⟩ ⟨Nat.zero_le _, Nat.zero_le _⟩ rfl rfl rfl (kR ?_)
        exact ws_iret 90 C  dX4_word_90 rfl (Nat.le_refl _) (Nat.le_refl _) (by rw [hP]; exact PX_ret (congrArg (fun t => (t, S)) hf) ⟨hO, hS1, hS8, hLg, hLb, hPd, hHs, hSl⟩ hF)
      · skip
        refine ws_tout 21 C dX4_word_21 91 (hy.2) (by decide) ?_
        refine ws_iload_n 91 C dX4_word_91 rfl ?_
        refine ws_iconst 92 C dX4_word_92 (nI 4) (by decide) ?_
        refine ws_isub 93 C dX4_word_93 (y - (nI 4)) rfl ?_
        refine ws_aload_n 94 C dX4_word_94 rfl ?_
        refine ws_get 95 C dX4_word_95 fX4_10 hO rfl rfl ?_
        refine ws_get 98 C dX4_word_98 fX4_129 hB rfl rfl ?_
        refine ws_iload_n 101 C dX4_word_101 rfl ?_
        refine ws_iald 102 C dX4_word_102 hB 6 rfl (vp_in_nI (by omega) (by decide)) (nI (ml (sM S) i)) ((congrArg f6 (nI_clamp (by omega))).trans (hR.len hi)) ?_
        refine ws_icmp_ge 103 C 120 dX4_word_103 (by decide)  (fun c103 => ?_) (fun c103 => ?_)
        · skip
          have hf := fWord_5 (S := S) hix hy.1 (sub4n c103)
          refine ws_sipush 120 C dX4_word_120 ((-1006)) (by decide) ?_
          exact ws_iret 123 C  dX4_word_123 rfl (Nat.le_refl _) (Nat.le_refl _) (by rw [hP]; exact PX_ret (congrArg (fun t => (t, S)) hf) ⟨hO, hS1, hS8, hLg, hLb, hPd, hHs, hSl⟩ hF)
        · skip
          obtain ⟨j, hj, hyj, hjx⟩ := sub4 h10 hy.1 c103
          have hf := fWord_4 (S := S) hix hy.1 hjx
          refine ws_aload_n 106 C dX4_word_106 rfl ?_
          refine ws_get 107 C dX4_word_107 fX4_10 hO rfl rfl ?_
          refine ws_iload_n 110 C dX4_word_110 rfl ?_
          refine ws_iload_n 111 C dX4_word_111 rfl ?_
          refine ws_iconst 112 C dX4_word_112 (nI 4) (by decide) ?_
          refine ws_isub 113 C dX4_word_113 (nI j) hyj ?_
          refine ws_callV0 114 C dX4_word_114 vX4_135 (c_X3_signAt hB hR hi hj) rfl hB rfl rfl ⟨by decide, by decide⟩ ⟨Nat.zero_le _, Nat.zero_le _⟩ rfl rfl rfl (kR ?_)
          refine ws_goto 117 C 123 dX4_word_117 (by decide) ?_
          exact ws_iret 123 C  dX4_word_123 rfl (Nat.le_refl _) (Nat.le_refl _) (by rw [hP]; exact PX_ret (congrArg (fun t => (t, S)) hf) ⟨hO, hS1, hS8, hLg, hLb, hPd, hHs, hSl⟩ hF)
    · skip
      have hf := fWord_b (S := S) hix (Int32.not_le.mp c13)
      refine ws_sipush 16 C dX4_word_16 ((-1002)) (by decide) ?_
      exact ws_iret 19 C  dX4_word_19 rfl (Nat.le_refl _) (Nat.le_refl _) (by rw [hP]; exact PX_ret (congrArg (fun t => (t, S)) hf) ⟨hO, hS1, hS8, hLg, hLb, hPd, hHs, hSl⟩ hF)
  · skip
    have hn := bix_0 c5
    refine ws_sipush 8 C dX4_word_8 ((-1001)) (by decide) ?_
    exact ws_iret 11 C  dX4_word_11 rfl (Nat.le_refl _) (Nat.le_refl _) (by rw [hP]; exact PX_ret (congrArg (fun t => (t, S)) (fWord_n hn)) ⟨hO, hS1, hS8, hLg, hLb, hPd, hHs, hSl⟩ hF)

set_option maxRecDepth 100000 in
set_option maxHeartbeats 4000000 in
theorem c_X4_line {S : Sg} (hX : XI κ z st0 S) {x y v : Int32} : CT zl κ yX4_line cX4_line 5 (some .int) (r0 7 155) z [.ref (ad κ 0), .int (x), .int (y), .int (v)] st0 (PX κ z st0 (fLine S x y v, S)) := by
  obtain ⟨P, hP⟩ : ∃ P : Option Value → St → Prop, P = (PX κ z st0 (fLine S x y v, S)) := ⟨_, rfl⟩
  rw [← hP]
  refine CT.of (by decide +kernel) (Nat.le_of_ble_eq_true rfl) (fun zp ze zs zm zar zbe zme zc C _ => ?_)
  have C : Cx zp zs zm zar zme zc κ cX4_line 5 RX4 (some .int) := C
  refine ws_lv (lv2 := [some (.ref (ad κ 0)), some (.int (x)), some (.int (y)), some (.int (v)), none]) rfl ?_
  obtain ⟨hO, hS1, hS8, hLg, hLb, hPd, hHs, hSl⟩ := hX
  have hF : Fr (fun q : Nat => q < 91) st0 st0 := Fr.rf
  obtain ⟨f1, f2, f3, f4, f5, f6, hB, hR⟩ := id hS1
  have h24 := hR.le
  refine ws_iload_n 0 C dX4_line_0 rfl ?_
  refine ws_callS0 1 C dX4_line_1 vX4_139 (c_X4_isWay) rfl ⟨by decide, by decide⟩ ⟨Nat.zero_le _, Nat.zero_le _⟩ rfl rfl rfl (kR ?_)
  refine ws_if_eq 4 C 17 dX4_line_4 (by decide)  (fun c4 => ?_) (fun c4 => ?_)
  · skip
    have hf := fLine_1 (S := S) (y := y) (v := v) (bix_0 c4)
    refine ws_sipush 17 C dX4_line_17 ((-1002)) (by decide) ?_
    exact ws_iret 20 C  dX4_line_20 rfl (Nat.le_refl _) (Nat.le_refl _) (by rw [hP]; exact PX_ret (congrArg (fun t => (t, S)) hf) ⟨hO, hS1, hS8, hLg, hLb, hPd, hHs, hSl⟩ hF)
  · skip
    obtain ⟨way, hw, hxw, hix⟩ := bix_1 (n := 2) (by decide) c4
    refine ws_wk (lv2 := [some (.ref (ad κ 0)), some (.int (nI way)), some (.int (y)), some (.int (v)), none]) ⟨rfl, (congrArg Value.int hxw.symm), rfl, rfl, trivial⟩ ?_
    refine ws_iload_n 7 C dX4_line_7 rfl ?_
    refine ws_if_lt 8 C 17 dX4_line_8 (by decide)  (fun c8 => ?_) (fun c8 => ?_)
    · skip
      have hf := fLine_2 (S := S) (x := x) (y := y) (ixv_n (n := 9) c8)
      refine ws_sipush 17 C dX4_line_17 ((-1002)) (by decide) ?_
      exact ws_iret 20 C  dX4_line_20 rfl (Nat.le_refl _) (Nat.le_refl _) (by rw [hP]; exact PX_ret (congrArg (fun t => (t, S)) hf) ⟨hO, hS1, hS8, hLg, hLb, hPd, hHs, hSl⟩ hF)
    · skip
      refine ws_iload_n 11 C dX4_line_11 rfl ?_
      refine ws_bipush 12 C dX4_line_12 (nI 8) (by decide) ?_
      refine ws_icmp_le 14 C 21 dX4_line_14 (by decide)  (fun c14 => ?_) (fun c14 => ?_)
      · skip
        obtain ⟨w, hw9, hvw, hvx⟩ := ixv_of (n := 9) (by decide) c8 (le8 c14)
        refine ws_wk (lv2 := [some (.ref (ad κ 0)), some (.int (nI way)), some (.int (y)), some (.int (nI w)), none]) ⟨rfl, rfl, rfl, (congrArg Value.int hvw.symm), trivial⟩ ?_
        refine ws_aload_n 21 C dX4_line_21 rfl ?_
        refine ws_iload_n 22 C dX4_line_22 rfl ?_
        refine ws_callV0 23 C dX4_line_23 vX4_113 (c_X4_broken hw hO hS1 hLg hLb) rfl hO rfl rfl ⟨by decide, by decide⟩ ⟨Nat.zero_le _, Nat.zero_le _⟩ rfl rfl rfl (kA (fun r23 u23 h23 => ?_))
        obtain ⟨⟨hr, hBk⟩, hfr⟩ := h23
        subst hr
        have hlo := lid_or way
        obtain ⟨hLg, hLb⟩ := hBk.two hfr hLg hLb
        obtain ⟨p, l, r, s, lf, nx, hL, hW, hb⟩ := hBk
        have hLn := hb.L_le
        have hS1 := hS1.fr hfr (fun q (g1 : 1 ≤ q) (g2 : q < 8) => (show ¬ (lid way ≤ q ∧ q < lid way + 7) from by omega))
        have hS8 := hS8.fr hfr (fun q (g1 : 8 ≤ q) (g2 : q < 15) => (show ¬ (lid way ≤ q ∧ q < lid way + 7) from by omega))
        have hPd := hPd.fr hfr (fun q (g1 : 29 ≤ q) (g2 : q < 31) => (show ¬ (lid way ≤ q ∧ q < lid way + 7) from by omega))
        have hHs := hHs.fr hfr (fun q (g1 : 31 ≤ q) (g2 : q < 75) => (show ¬ (lid way ≤ q ∧ q < lid way + 7) from by omega))
        have hSl := hSl.fr hfr (fun q (g1 : 75 ≤ q) (g2 : q < 91) => (show ¬ (lid way ≤ q ∧ q < lid way + 7) from by omega))
        have hO := hfr.ob hO (fun q (g1 : 0 ≤ q) (g2 : q < 0 + 1) => (show ¬ (lid way ≤ q ∧ q < lid way + 7) from by omega))
        have hF := hF.then hfr (fun q (hq : lid way ≤ q ∧ q < lid way + 7) => (show q < 91 from by omega))
        refine ws_astore 26 C dX4_line_26 rfl [some (.ref (ad κ 0)), some (.int (nI way)), some (.int (y)), some (.int (nI w)), some (.ref (ad κ (lid way)))] rfl ?_
        refine ws_iload_n 28 C dX4_line_28 rfl ?_
        refine ws_if_lt 29 C 41 dX4_line_29 (by decide)  (fun c29 => ?_) (fun c29 => ?_)
        · skip
          have hf := fLine_3 (S := S) hix hvx (ixv_n c29)
          refine ws_sipush 41 C dX4_line_41 ((-1001)) (by decide) ?_
          exact ws_iret 44 C  dX4_line_44 rfl (Nat.le_refl _) (Nat.le_refl _) (by rw [hP]; exact PX_ret (congrArg (fun t => (t, S)) hf) ⟨hO, hS1, hS8, hLg, hLb, hPd, hHs, hSl⟩ hF)
        · skip
          refine ws_iload_n 32 C dX4_line_32 rfl ?_
          refine ws_aload 33 C dX4_line_33 rfl ?_
          refine ws_get 35 C dX4_line_35 fX4_117 hL rfl rfl ?_
          refine ws_icmp_lt 38 C 45 dX4_line_38 (by decide)  (fun c38 => ?_) (fun c38 => ?_)
          · skip
            obtain ⟨i, hi, hyi, hyx⟩ := ixv_of (n := lnw (sM S) way) (by show lno _ _ < _; omega) c29 c38
            have hf := fLine_4 (S := S) hix hvx hyx
            refine ws_wk (lv2 := [some (.ref (ad κ 0)), some (.int (nI way)), some (.int (nI i)), some (.int (nI w)), some (.ref (ad κ (lid way)))]) ⟨rfl, rfl, (congrArg Value.int hyi.symm), rfl, rfl, trivial⟩ ?_
            refine ws_aload 45 C dX4_line_45 rfl ?_
            refine ws_iload_n 47 C dX4_line_47 rfl ?_
            refine ws_iload_n 48 C dX4_line_48 rfl ?_
            refine ws_callV0 49 C dX4_line_49 vX4_142 (c_X1_tellLine hL hW hR.ok hb hi (w := w) (by omega)) rfl hL rfl rfl ⟨by decide, by decide⟩ ⟨Nat.zero_le _, Nat.zero_le _⟩ rfl rfl rfl (kR ?_)
            exact ws_iret 52 C  dX4_line_52 rfl (Nat.le_refl _) (Nat.le_refl _) (by rw [hP]; exact PX_ret (congrArg (fun t => (t, S)) hf) ⟨hO, hS1, hS8, hLg, hLb, hPd, hHs, hSl⟩ hF)
          · skip
            have hf := fLine_3 (S := S) hix hvx (ixv_g c38)
            refine ws_sipush 41 C dX4_line_41 ((-1001)) (by decide) ?_
            exact ws_iret 44 C  dX4_line_44 rfl (Nat.le_refl _) (Nat.le_refl _) (by rw [hP]; exact PX_ret (congrArg (fun t => (t, S)) hf) ⟨hO, hS1, hS8, hLg, hLb, hPd, hHs, hSl⟩ hF)
      · skip
        have hf := fLine_2 (S := S) (x := x) (y := y) (ixv_g (n := 9) (le8n c14))
        refine ws_sipush 17 C dX4_line_17 ((-1002)) (by decide) ?_
        exact ws_iret 20 C  dX4_line_20 rfl (Nat.le_refl _) (Nat.le_refl _) (by rw [hP]; exact PX_ret (congrArg (fun t => (t, S)) hf) ⟨hO, hS1, hS8, hLg, hLb, hPd, hHs, hSl⟩ hF)

set_option maxRecDepth 100000 in
set_option maxHeartbeats 4000000 in
theorem c_X4_lines {S : Sg} (hX : XI κ z st0 S) {x y : Int32} : CT zl κ yX4_lines cX4_lines 3 (some .int) (r0 7 155) z [.ref (ad κ 0), .int (x), .int (y)] st0 (PX κ z st0 (fLines S x y, S)) := by
  obtain ⟨P, hP⟩ : ∃ P : Option Value → St → Prop, P = (PX κ z st0 (fLines S x y, S)) := ⟨_, rfl⟩
  rw [← hP]
  refine CT.of (by decide +kernel) (Nat.le_of_ble_eq_true rfl) (fun zp ze zs zm zar zbe zme zc C _ => ?_)
  have C : Cx zp zs zm zar zme zc κ cX4_lines 3 RX4 (some .int) := C
  refine ws_lv (lv2 := [some (.ref (ad κ 0)), some (.int (x)), some (.int (y))]) rfl ?_
  obtain ⟨hO, hS1, hS8, hLg, hLb, hPd, hHs, hSl⟩ := hX
  have hF : Fr (fun q : Nat => q < 91) st0 st0 := Fr.rf
  obtain ⟨f1, f2, f3, f4, f5, f6, hB, hR⟩ := id hS1
  have h24 := hR.le
  refine ws_iload_n 0 C dX4_lines_0 rfl ?_
  refine ws_callS0 1 C dX4_lines_1 vX4_139 (c_X4_isWay) rfl ⟨by decide, by decide⟩ ⟨Nat.zero_le _, Nat.zero_le _⟩ rfl rfl rfl (kR ?_)
  refine ws_if_ne 4 C 11 dX4_lines_4 (by decide)  (fun c4 => ?_) (fun c4 => ?_)
  · skip
    obtain ⟨way, hw, hxw, hix⟩ := bix_1 (n := 2) (by decide) c4
    refine ws_wk (lv2 := [some (.ref (ad κ 0)), some (.int (nI way)), some (.int (y))]) ⟨rfl, (congrArg Value.int hxw.symm), rfl, trivial⟩ ?_
    refine ws_iload_n 11 C dX4_lines_11 rfl ?_
    rcases sw5 y with hy | hy | hy | hy | hy | hy
    · skip
      refine ws_tin 12 C dX4_lines_12 (0) (36) 48 (by rw [hy]; rfl) (by decide) (by decide) (by rfl) (by decide) ?_
      have hf := fLines_s (S := S) hix hy (by decide)
      refine ws_aload_n 48 C dX4_lines_48 rfl ?_
      refine ws_iload_n 49 C dX4_lines_49 rfl ?_
      refine ws_callV0 50 C dX4_lines_50 vX4_113 (c_X4_broken hw hO hS1 hLg hLb) rfl hO rfl rfl ⟨by decide, by decide⟩ ⟨Nat.zero_le _, Nat.zero_le _⟩ rfl rfl rfl (kA (fun r50 u50 h50 => ?_))
      obtain ⟨⟨hr, hBk⟩, hfr⟩ := h50
      subst hr
      have hlo := lid_or way
      obtain ⟨hLg, hLb⟩ := hBk.two hfr hLg hLb
      obtain ⟨p, l, r, s, lf, nx, hL, hW, hb⟩ := hBk
      have hLn := hb.L_le
      have hS1 := hS1.fr hfr (fun q (g1 : 1 ≤ q) (g2 : q < 8) => (show ¬ (lid way ≤ q ∧ q < lid way + 7) from by omega))
      have hS8 := hS8.fr hfr (fun q (g1 : 8 ≤ q) (g2 : q < 15) => (show ¬ (lid way ≤ q ∧ q < lid way + 7) from by omega))
      have hPd := hPd.fr hfr (fun q (g1 : 29 ≤ q) (g2 : q < 31) => (show ¬ (lid way ≤ q ∧ q < lid way + 7) from by omega))
      have hHs := hHs.fr hfr (fun q (g1 : 31 ≤ q) (g2 : q < 75) => (show ¬ (lid way ≤ q ∧ q < lid way + 7) from by omega))
      have hSl := hSl.fr hfr (fun q (g1 : 75 ≤ q) (g2 : q < 91) => (show ¬ (lid way ≤ q ∧ q < lid way + 7) from by omega))
      have hO := hfr.ob hO (fun q (g1 : 0 ≤ q) (g2 : q < 0 + 1) => (show ¬ (lid way ≤ q ∧ q < lid way + 7) from by omega))
      have hF := hF.then hfr (fun q (hq : lid way ≤ q ∧ q < lid way + 7) => (show q < 91 from by omega))
      refine ws_get 53 C dX4_lines_53 fX4_117 hL rfl rfl ?_
      exact ws_iret 56 C  dX4_lines_56 rfl (Nat.le_refl _) (Nat.le_refl _) (by rw [hP]; exact PX_ret (congrArg (fun t => (t, S)) hf) ⟨hO, hS1, hS8, hLg, hLb, hPd, hHs, hSl⟩ hF)
    · skip
      refine ws_tin 12 C dX4_lines_12 (1) (45) 57 (by rw [hy]; rfl) (by decide) (by decide) (by rfl) (by decide) ?_
      have hf := fLines_s (S := S) hix hy (by decide)
      refine ws_aload_n 57 C dX4_lines_57 rfl ?_
      refine ws_iload_n 58 C dX4_lines_58 rfl ?_
      refine ws_callV0 59 C dX4_lines_59 vX4_113 (c_X4_broken hw hO hS1 hLg hLb) rfl hO rfl rfl ⟨by decide, by decide⟩ ⟨Nat.zero_le _, Nat.zero_le _⟩ rfl rfl rfl (kA (fun r59 u59 h59 => ?_))
      obtain ⟨⟨hr, hBk⟩, hfr⟩ := h59
      subst hr
      have hlo := lid_or way
      obtain ⟨hLg, hLb⟩ := hBk.two hfr hLg hLb
      obtain ⟨p, l, r, s, lf, nx, hL, hW, hb⟩ := hBk
      have hLn := hb.L_le
      have hS1 := hS1.fr hfr (fun q (g1 : 1 ≤ q) (g2 : q < 8) => (show ¬ (lid way ≤ q ∧ q < lid way + 7) from by omega))
      have hS8 := hS8.fr hfr (fun q (g1 : 8 ≤ q) (g2 : q < 15) => (show ¬ (lid way ≤ q ∧ q < lid way + 7) from by omega))
      have hPd := hPd.fr hfr (fun q (g1 : 29 ≤ q) (g2 : q < 31) => (show ¬ (lid way ≤ q ∧ q < lid way + 7) from by omega))
      have hHs := hHs.fr hfr (fun q (g1 : 31 ≤ q) (g2 : q < 75) => (show ¬ (lid way ≤ q ∧ q < lid way + 7) from by omega))
      have hSl := hSl.fr hfr (fun q (g1 : 75 ≤ q) (g2 : q < 91) => (show ¬ (lid way ≤ q ∧ q < lid way + 7) from by omega))
      have hO := hfr.ob hO (fun q (g1 : 0 ≤ q) (g2 : q < 0 + 1) => (show ¬ (lid way ≤ q ∧ q < lid way + 7) from by omega))
      have hF := hF.then hfr (fun q (hq : lid way ≤ q ∧ q < lid way + 7) => (show q < 91 from by omega))
      refine ws_callV0 62 C dX4_lines_62 vX4_146 (c_X1_badness hL hW hR.ok hb) rfl hL rfl rfl ⟨by decide, by decide⟩ ⟨Nat.zero_le _, Nat.zero_le _⟩ rfl rfl rfl (kR ?_)
      exact ws_iret 65 C  dX4_lines_65 rfl (Nat.le_refl _) (Nat.le_refl _) (by rw [hP]; exact PX_ret (congrArg (fun t => (t, S)) hf) ⟨hO, hS1, hS8, hLg, hLb, hPd, hHs, hSl⟩ hF)
    · skip
      refine ws_tin 12 C dX4_lines_12 (2) (54) 66 (by rw [hy]; rfl) (by decide) (by decide) (by rfl) (by decide) ?_
      have hf := fLines_s (S := S) hix hy (by decide)
      refine ws_aload_n 66 C dX4_lines_66 rfl ?_
      refine ws_iload_n 67 C dX4_lines_67 rfl ?_
      refine ws_callV0 68 C dX4_lines_68 vX4_113 (c_X4_broken hw hO hS1 hLg hLb) rfl hO rfl rfl ⟨by decide, by decide⟩ ⟨Nat.zero_le _, Nat.zero_le _⟩ rfl rfl rfl (kA (fun r68 u68 h68 => ?_))
      obtain ⟨⟨hr, hBk⟩, hfr⟩ := h68
      subst hr
      have hlo := lid_or way
      obtain ⟨hLg, hLb⟩ := hBk.two hfr hLg hLb
      obtain ⟨p, l, r, s, lf, nx, hL, hW, hb⟩ := hBk
      have hLn := hb.L_le
      have hS1 := hS1.fr hfr (fun q (g1 : 1 ≤ q) (g2 : q < 8) => (show ¬ (lid way ≤ q ∧ q < lid way + 7) from by omega))
      have hS8 := hS8.fr hfr (fun q (g1 : 8 ≤ q) (g2 : q < 15) => (show ¬ (lid way ≤ q ∧ q < lid way + 7) from by omega))
      have hPd := hPd.fr hfr (fun q (g1 : 29 ≤ q) (g2 : q < 31) => (show ¬ (lid way ≤ q ∧ q < lid way + 7) from by omega))
      have hHs := hHs.fr hfr (fun q (g1 : 31 ≤ q) (g2 : q < 75) => (show ¬ (lid way ≤ q ∧ q < lid way + 7) from by omega))
      have hSl := hSl.fr hfr (fun q (g1 : 75 ≤ q) (g2 : q < 91) => (show ¬ (lid way ≤ q ∧ q < lid way + 7) from by omega))
      have hO := hfr.ob hO (fun q (g1 : 0 ≤ q) (g2 : q < 0 + 1) => (show ¬ (lid way ≤ q ∧ q < lid way + 7) from by omega))
      have hF := hF.then hfr (fun q (hq : lid way ≤ q ∧ q < lid way + 7) => (show q < 91 from by omega))
      refine ws_callV0 71 C dX4_lines_71 vX4_149 (c_X1_countIndented hL hW hR.ok hb) rfl hL rfl rfl ⟨by decide, by decide⟩ ⟨Nat.zero_le _, Nat.zero_le _⟩ rfl rfl rfl (kR ?_)
      exact ws_iret 74 C  dX4_lines_74 rfl (Nat.le_refl _) (Nat.le_refl _) (by rw [hP]; exact PX_ret (congrArg (fun t => (t, S)) hf) ⟨hO, hS1, hS8, hLg, hLb, hPd, hHs, hSl⟩ hF)
    · skip
      refine ws_tin 12 C dX4_lines_12 (3) (63) 75 (by rw [hy]; rfl) (by decide) (by decide) (by rfl) (by decide) ?_
      have hf := fLines_s (S := S) hix hy (by decide)
      refine ws_aload_n 75 C dX4_lines_75 rfl ?_
      refine ws_iload_n 76 C dX4_lines_76 rfl ?_
      refine ws_callV0 77 C dX4_lines_77 vX4_113 (c_X4_broken hw hO hS1 hLg hLb) rfl hO rfl rfl ⟨by decide, by decide⟩ ⟨Nat.zero_le _, Nat.zero_le _⟩ rfl rfl rfl (kA (fun r77 u77 h77 => ?_))
      obtain ⟨⟨hr, hBk⟩, hfr⟩ := h77
      subst hr
      have hlo := lid_or way
      obtain ⟨hLg, hLb⟩ := hBk.two hfr hLg hLb
      obtain ⟨p, l, r, s, lf, nx, hL, hW, hb⟩ := hBk
      have hLn := hb.L_le
      have hS1 := hS1.fr hfr (fun q (g1 : 1 ≤ q) (g2 : q < 8) => (show ¬ (lid way ≤ q ∧ q < lid way + 7) from by omega))
      have hS8 := hS8.fr hfr (fun q (g1 : 8 ≤ q) (g2 : q < 15) => (show ¬ (lid way ≤ q ∧ q < lid way + 7) from by omega))
      have hPd := hPd.fr hfr (fun q (g1 : 29 ≤ q) (g2 : q < 31) => (show ¬ (lid way ≤ q ∧ q < lid way + 7) from by omega))
      have hHs := hHs.fr hfr (fun q (g1 : 31 ≤ q) (g2 : q < 75) => (show ¬ (lid way ≤ q ∧ q < lid way + 7) from by omega))
      have hSl := hSl.fr hfr (fun q (g1 : 75 ≤ q) (g2 : q < 91) => (show ¬ (lid way ≤ q ∧ q < lid way + 7) from by omega))
      have hO := hfr.ob hO (fun q (g1 : 0 ≤ q) (g2 : q < 0 + 1) => (show ¬ (lid way ≤ q ∧ q < lid way + 7) from by omega))
      have hF := hF.then hfr (fun q (hq : lid way ≤ q ∧ q < lid way + 7) => (show q < 91 from by omega))
      refine ws_callV0 80 C dX4_lines_80 vX4_152 (c_X1_countUnfit hL hW hR.ok hb) rfl hL rfl rfl ⟨by decide, by decide⟩ ⟨Nat.zero_le _, Nat.zero_le _⟩ rfl rfl rfl (kR ?_)
      exact ws_iret 83 C  dX4_lines_83 rfl (Nat.le_refl _) (Nat.le_refl _) (by rw [hP]; exact PX_ret (congrArg (fun t => (t, S)) hf) ⟨hO, hS1, hS8, hLg, hLb, hPd, hHs, hSl⟩ hF)
    · skip
      refine ws_tin 12 C dX4_lines_12 (4) (72) 84 (by rw [hy]; rfl) (by decide) (by decide) (by rfl) (by decide) ?_
      have hf := fLines_s (S := S) hix hy (by decide)
      refine ws_aload_n 84 C dX4_lines_84 rfl ?_
      refine ws_iload_n 85 C dX4_lines_85 rfl ?_
      refine ws_callV0 86 C dX4_lines_86 vX4_113 (c_X4_broken hw hO hS1 hLg hLb) rfl hO rfl rfl ⟨by decide, by decide⟩ ⟨Nat.zero_le _, Nat.zero_le _⟩ rfl rfl rfl (kA (fun r86 u86 h86 => ?_))
      obtain ⟨⟨hr, hBk⟩, hfr⟩ := h86
      subst hr
      have hlo := lid_or way
      obtain ⟨hLg, hLb⟩ := hBk.two hfr hLg hLb
      obtain ⟨p, l, r, s, lf, nx, hL, hW, hb⟩ := hBk
      have hLn := hb.L_le
      have hS1 := hS1.fr hfr (fun q (g1 : 1 ≤ q) (g2 : q < 8) => (show ¬ (lid way ≤ q ∧ q < lid way + 7) from by omega))
      have hS8 := hS8.fr hfr (fun q (g1 : 8 ≤ q) (g2 : q < 15) => (show ¬ (lid way ≤ q ∧ q < lid way + 7) from by omega))
      have hPd := hPd.fr hfr (fun q (g1 : 29 ≤ q) (g2 : q < 31) => (show ¬ (lid way ≤ q ∧ q < lid way + 7) from by omega))
      have hHs := hHs.fr hfr (fun q (g1 : 31 ≤ q) (g2 : q < 75) => (show ¬ (lid way ≤ q ∧ q < lid way + 7) from by omega))
      have hSl := hSl.fr hfr (fun q (g1 : 75 ≤ q) (g2 : q < 91) => (show ¬ (lid way ≤ q ∧ q < lid way + 7) from by omega))
      have hO := hfr.ob hO (fun q (g1 : 0 ≤ q) (g2 : q < 0 + 1) => (show ¬ (lid way ≤ q ∧ q < lid way + 7) from by omega))
      have hF := hF.then hfr (fun q (hq : lid way ≤ q ∧ q < lid way + 7) => (show q < 91 from by omega))
      refine ws_callV0 89 C dX4_lines_89 vX4_155 (c_X1_greatestBody hL hW hR.ok hb) rfl hL rfl rfl ⟨by decide, by decide⟩ ⟨Nat.zero_le _, Nat.zero_le _⟩ rfl rfl rfl (kR ?_)
      exact ws_iret 92 C  dX4_lines_92 rfl (Nat.le_refl _) (Nat.le_refl _) (by rw [hP]; exact PX_ret (congrArg (fun t => (t, S)) hf) ⟨hO, hS1, hS8, hLg, hLb, hPd, hHs, hSl⟩ hF)
    · skip
      refine ws_tout 12 C dX4_lines_12 93 (hy.2) (by decide) ?_
      have hf := fLines_2 (S := S) (x := x) hy.1
      refine ws_sipush 93 C dX4_lines_93 ((-1002)) (by decide) ?_
      exact ws_iret 96 C  dX4_lines_96 rfl (Nat.le_refl _) (Nat.le_refl _) (by rw [hP]; exact PX_ret (congrArg (fun t => (t, S)) hf) ⟨hO, hS1, hS8, hLg, hLb, hPd, hHs, hSl⟩ hF)
  · skip
    have hf := fLines_1 (S := S) (y := y) (bix_0 c4)
    refine ws_sipush 7 C dX4_lines_7 ((-1002)) (by decide) ?_
    exact ws_iret 10 C  dX4_lines_10 rfl (Nat.le_refl _) (Nat.le_refl _) (by rw [hP]; exact PX_ret (congrArg (fun t => (t, S)) hf) ⟨hO, hS1, hS8, hLg, hLb, hPd, hHs, hSl⟩ hF)
end
