section
variable {zl : Launch} {κ : Kt} {z : Nat} {st0 : St}
set_option maxRecDepth 100000 in
set_option maxHeartbeats 4000000 in
theorem c_X4_count {S : Sg} (hX : XI κ z st0 S) {x : Int32} : CT zl κ yX4_count cX4_count 2 (some .int) (r0 7 155) z [.ref (ad κ 0), .int (x)] st0 (PI (fun rr u => pCount S x rr ∧ XI κ z u S ∧ Fr (fun q : Nat => q < 91) st0 u)) := by
  obtain ⟨P, hP⟩ : ∃ P : Option Value → St → Prop, P = (PI (fun rr u => pCount S x rr ∧ XI κ z u S ∧ Fr (fun q : Nat => q < 91) st0 u)) := ⟨_, rfl⟩
  rw [← hP]
  refine CT.of (by decide +kernel) (Nat.le_of_ble_eq_true rfl) (fun zp ze zs zm zar zbe zme zc C _ => ?_)
  have C : Cx zp zs zm zar zme zc κ cX4_count 2 RX4 (some .int) := C
  refine ws_lv (lv2 := [some (.ref (ad κ 0)), some (.int (x))]) rfl ?_
  obtain ⟨hO, hS1, hS8, hLg, hLb, hPd, hHs, hSl⟩ := hX
  obtain ⟨f1, f2, f3, f4, f5, f6, hB, hR⟩ := id hS1
  have h24 := hR.le
  have hF : Fr (fun q : Nat => q < 91) st0 st0 := Fr.rf
  refine ws_iload_n 0 C dX4_count_0 rfl ?_
  refine ws_if_lt 1 C 19 dX4_count_1 (by decide)  (fun c1 => ?_) (fun c1 => ?_)
  · skip
    have hor : x < 0 ∨ nI 4 ≤ x := Or.inl c1
    refine ws_iload_n 19 C dX4_count_19 rfl ?_
    rcases sw49 hor with hy | hy | hy | hy | hy | hy | hy
    · skip
      refine ws_tin 20 C dX4_count_20 (4) (40) 60 (by rw [hy]; rfl) (by decide) (by decide) (by rfl) (by decide) ?_
      have h7 : x ≠ nI 7 := nI_ne hy (by decide) (by decide) (by decide)
      have hpc := pCount_of (S := S) h7 (fCount_4 (S := S) hy).symm
      refine ws_aload_n 60 C dX4_count_60 rfl ?_
      refine ws_get 61 C dX4_count_61 fX4_10 hO rfl rfl ?_
      refine ws_get 64 C dX4_count_64 fX4_85 hB rfl rfl ?_
      exact ws_iret 67 C  dX4_count_67 rfl (Nat.le_refl _) (Nat.le_refl _) (by rw [hP]; exact ⟨nI (mn (sM S)), rfl, ⟨hpc, ⟨hO, hS1, hS8, hLg, hLb, hPd, hHs, hSl⟩, hF⟩⟩)
    · skip
      refine ws_tin 20 C dX4_count_20 (5) (48) 68 (by rw [hy]; rfl) (by decide) (by decide) (by rfl) (by decide) ?_
      have h7 : x ≠ nI 7 := nI_ne hy (by decide) (by decide) (by decide)
      have hpc := pCount_of (S := S) h7 (fCount_5 (S := S) hy).symm
      refine ws_aload_n 68 C dX4_count_68 rfl ?_
      refine ws_get 69 C dX4_count_69 fX4_10 hO rfl rfl ?_
      refine ws_callV0 72 C dX4_count_72 vX4_158 (c_X3_countSigns hB hR) rfl hB rfl rfl ⟨by decide, by decide⟩ ⟨Nat.zero_le _, Nat.zero_le _⟩ rfl rfl rfl (kR ?_)
      exact ws_iret 75 C  dX4_count_75 rfl (Nat.le_refl _) (Nat.le_refl _) (by rw [hP]; exact ⟨nI (smN (ml (sM S)) (mn (sM S))), rfl, ⟨hpc, ⟨hO, hS1, hS8, hLg, hLb, hPd, hHs, hSl⟩, hF⟩⟩)
    · skip
      refine ws_tin 20 C dX4_count_20 (6) (56) 76 (by rw [hy]; rfl) (by decide) (by decide) (by rfl) (by decide) ?_
      have h7 : x ≠ nI 7 := nI_ne hy (by decide) (by decide) (by decide)
      have hpc := pCount_of (S := S) h7 (fCount_6 (S := S) hy).symm
      refine ws_aload_n 76 C dX4_count_76 rfl ?_
      refine ws_get 77 C dX4_count_77 fX4_10 hO rfl rfl ?_
      refine ws_callV0 80 C dX4_count_80 vX4_158 (c_X3_countSigns hB hR) rfl hB rfl rfl ⟨by decide, by decide⟩ ⟨Nat.zero_le _, Nat.zero_le _⟩ rfl rfl rfl (kR ?_)
      refine ws_aload_n 83 C dX4_count_83 rfl ?_
      refine ws_get 84 C dX4_count_84 fX4_10 hO rfl rfl ?_
      refine ws_iconst 87 C dX4_count_87 (nI 0) (by decide) ?_
      refine ws_callV0 88 C dX4_count_88 vX4_126 (c_X3_countOf hB hR (q := 0) (by decide)) rfl hB rfl rfl ⟨by decide, by decide⟩ ⟨Nat.zero_le _, Nat.zero_le _⟩ rfl rfl rfl (kR ?_)
      refine ws_isub 91 C dX4_count_91 (nI (smN (ml (sM S)) (mn (sM S)) - cnT (sM S) 0 (mn (sM S)))) (pk_sub (cnT_le_s _ _ _)) ?_
      exact ws_iret 92 C  dX4_count_92 rfl (Nat.le_refl _) (Nat.le_refl _) (by rw [hP]; exact ⟨nI (smN (ml (sM S)) (mn (sM S)) - cnT (sM S) 0 (mn (sM S))), rfl, ⟨hpc, ⟨hO, hS1, hS8, hLg, hLb, hPd, hHs, hSl⟩, hF⟩⟩)
    · skip
      refine ws_tin 20 C dX4_count_20 (7) (73) 93 (by rw [hy]; rfl) (by decide) (by decide) (by rfl) (by decide) ?_
      refine ws_aload_n 93 C dX4_count_93 rfl ?_
      refine ws_iconst 94 C dX4_count_94 (nI 0) (by decide) ?_
      refine ws_callV0 95 C dX4_count_95 vX4_113 (c_X4_broken (way := 0) (by decide) hO hS1 hLg hLb) rfl hO rfl rfl ⟨by decide, by decide⟩ ⟨Nat.zero_le _, Nat.zero_le _⟩ rfl rfl rfl (kA (fun r95 u95 h95 => ?_))
      obtain ⟨⟨hr, hBk⟩, hfr⟩ := h95
      rw [show lid 0 = 15 from rfl] at hr hBk hfr
      subst hr
      have hLg := hBk.ly
      obtain ⟨p, l, r, s, lf, nx, hL, hW, hb⟩ := hBk
      have hS1 := hS1.fr hfr (fun q (g1 : 1 ≤ q) (g2 : q < 8) => (show ¬ (15 ≤ q ∧ q < 15 + 7) from by omega))
      have hS8 := hS8.fr hfr (fun q (g1 : 8 ≤ q) (g2 : q < 15) => (show ¬ (15 ≤ q ∧ q < 15 + 7) from by omega))
      have hLb := hLb.fr hfr (fun q (g1 : 22 ≤ q) (g2 : q < 29) => (show ¬ (15 ≤ q ∧ q < 15 + 7) from by omega))
      have hPd := hPd.fr hfr (fun q (g1 : 29 ≤ q) (g2 : q < 31) => (show ¬ (15 ≤ q ∧ q < 15 + 7) from by omega))
      have hHs := hHs.fr hfr (fun q (g1 : 31 ≤ q) (g2 : q < 75) => (show ¬ (15 ≤ q ∧ q < 15 + 7) from by omega))
      have hSl := hSl.fr hfr (fun q (g1 : 75 ≤ q) (g2 : q < 91) => (show ¬ (15 ≤ q ∧ q < 15 + 7) from by omega))
      have hO := hfr.ob hO (fun q (g1 : 0 ≤ q) (g2 : q < 0 + 1) => (show ¬ (15 ≤ q ∧ q < 15 + 7) from by omega))
      have hB := hfr.ob hB (fun q (g1 : 1 ≤ q) (g2 : q < 1 + 7) => (show ¬ (15 ≤ q ∧ q < 15 + 7) from by omega))
      have hF := hF.then hfr (fun q (hq : 15 ≤ q ∧ q < 15 + 7) => (show q < 91 from by omega))
      refine ws_aload_n 98 C dX4_count_98 rfl ?_
      refine ws_iconst 99 C dX4_count_99 (nI 1) (by decide) ?_
      refine ws_callV0 100 C dX4_count_100 vX4_113 (c_X4_broken (way := 1) (by decide) hO hS1 hLg hLb) rfl hO rfl rfl ⟨by decide, by decide⟩ ⟨Nat.zero_le _, Nat.zero_le _⟩ rfl rfl rfl (kA (fun r100 u100 h100 => ?_))
      obtain ⟨⟨hr, hBk⟩, hfr⟩ := h100
      rw [show lid 1 = 22 from rfl] at hr hBk hfr
      subst hr
      have hLb := hBk.ly
      obtain ⟨p2, l2, r2, s2, lf2, nx2, hL2, hW2, hb2⟩ := hBk
      have hS1 := hS1.fr hfr (fun q (g1 : 1 ≤ q) (g2 : q < 8) => (show ¬ (22 ≤ q ∧ q < 22 + 7) from by omega))
      have hS8 := hS8.fr hfr (fun q (g1 : 8 ≤ q) (g2 : q < 15) => (show ¬ (22 ≤ q ∧ q < 22 + 7) from by omega))
      have hLg := hLg.fr hfr (fun q (g1 : 15 ≤ q) (g2 : q < 22) => (show ¬ (22 ≤ q ∧ q < 22 + 7) from by omega))
      have hPd := hPd.fr hfr (fun q (g1 : 29 ≤ q) (g2 : q < 31) => (show ¬ (22 ≤ q ∧ q < 22 + 7) from by omega))
      have hHs := hHs.fr hfr (fun q (g1 : 31 ≤ q) (g2 : q < 75) => (show ¬ (22 ≤ q ∧ q < 22 + 7) from by omega))
      have hSl := hSl.fr hfr (fun q (g1 : 75 ≤ q) (g2 : q < 91) => (show ¬ (22 ≤ q ∧ q < 22 + 7) from by omega))
      have hO := hfr.ob hO (fun q (g1 : 0 ≤ q) (g2 : q < 0 + 1) => (show ¬ (22 ≤ q ∧ q < 22 + 7) from by omega))
      have hB := hfr.ob hB (fun q (g1 : 1 ≤ q) (g2 : q < 1 + 7) => (show ¬ (22 ≤ q ∧ q < 22 + 7) from by omega))
      have hL := hfr.ob hL (fun q (g1 : 15 ≤ q) (g2 : q < 15 + 7) => (show ¬ (22 ≤ q ∧ q < 22 + 7) from by omega))
      have hF := hF.then hfr (fun q (hq : 22 ≤ q ∧ q < 22 + 7) => (show q < 91 from by omega))
      refine ws_callV0 103 C dX4_count_103 vX4_161 (c_X1_breaksLike h24 hL hL2 hb hb2) rfl hL rfl rfl ⟨by decide, by decide⟩ ⟨Nat.zero_le _, Nat.zero_le _⟩ rfl rfl rfl (kI' (fun r103 u103 h103 => ?_))
      obtain ⟨hd, hu⟩ := h103
      subst hu
      refine ws_if_eq 106 C 113 dX4_count_106 (by decide)  (fun c106 => ?_) (fun c106 => ?_)
      · skip
        have hpc : pCount S x (nI 0) := Or.inl ⟨hy, Or.inr ⟨rfl, by rcases hd with ⟨a, b⟩ | ⟨a, b⟩; exact absurd (a.symm.trans c106) (by decide); exact b⟩⟩
        refine ws_iconst 113 C dX4_count_113 (nI 0) (by decide) ?_
        exact ws_iret 114 C  dX4_count_114 rfl (Nat.le_refl _) (Nat.le_refl _) (by rw [hP]; exact ⟨nI 0, rfl, ⟨hpc, ⟨hO, hS1, hS8, hLg, hLb, hPd, hHs, hSl⟩, hF⟩⟩)
      · skip
        have hpc : pCount S x (nI 1) := Or.inl ⟨hy, Or.inl ⟨rfl, by rcases hd with ⟨a, b⟩ | ⟨a, b⟩; exact b; exact absurd a c106⟩⟩
        refine ws_iconst 109 C dX4_count_109 (nI 1) (by decide) ?_
        refine ws_goto 110 C 114 dX4_count_110 (by decide) ?_
        exact ws_iret 114 C  dX4_count_114 rfl (Nat.le_refl _) (Nat.le_refl _) (by rw [hP]; exact ⟨nI 1, rfl, ⟨hpc, ⟨hO, hS1, hS8, hLg, hLb, hPd, hHs, hSl⟩, hF⟩⟩)
    · skip
      refine ws_tin 20 C dX4_count_20 (8) (95) 115 (by rw [hy]; rfl) (by decide) (by decide) (by rfl) (by decide) ?_
      have h7 : x ≠ nI 7 := nI_ne hy (by decide) (by decide) (by decide)
      have hpc := pCount_of (S := S) h7 (fCount_8 (S := S) hy).symm
      refine ws_aload_n 115 C dX4_count_115 rfl ?_
      obtain ⟨t, hP2, hpd⟩ := id hPd
      refine ws_get 116 C dX4_count_116 fX4_32 hO rfl rfl ?_
      refine ws_get 119 C dX4_count_119 fX4_95 hP2 rfl rfl ?_
      exact ws_iret 122 C  dX4_count_122 rfl (Nat.le_refl _) (Nat.le_refl _) (by rw [hP]; exact ⟨nI (sPn S), rfl, ⟨hpc, ⟨hO, hS1, hS8, hLg, hLb, hPd, hHs, hSl⟩, hF⟩⟩)
    · skip
      refine ws_tin 20 C dX4_count_20 (9) (103) 123 (by rw [hy]; rfl) (by decide) (by decide) (by rfl) (by decide) ?_
      have h7 : x ≠ nI 7 := nI_ne hy (by decide) (by decide) (by decide)
      have hpc := pCount_of (S := S) h7 (fCount_9 (S := S) hy).symm
      refine ws_aload_n 123 C dX4_count_123 rfl ?_
      obtain ⟨g, nx, hH, -⟩ := id hHs
      refine ws_get 124 C dX4_count_124 fX4_39 hO rfl rfl ?_
      refine ws_get 127 C dX4_count_127 fX4_165 hH rfl rfl ?_
      exact ws_iret 130 C  dX4_count_130 rfl (Nat.le_refl _) (Nat.le_refl _) (by rw [hP]; exact ⟨nI (sHn S), rfl, ⟨hpc, ⟨hO, hS1, hS8, hLg, hLb, hPd, hHs, hSl⟩, hF⟩⟩)
    · skip
      refine ws_tout 20 C dX4_count_20 131 (hy.2) (by decide) ?_
      have hpc := pCount_of (S := S) (none_ne hy.1 (by decide) (by decide)) (fCount_b (S := S) hy.1).symm
      refine ws_sipush 131 C dX4_count_131 ((-1002)) (by decide) ?_
      exact ws_iret 134 C  dX4_count_134 rfl (Nat.le_refl _) (Nat.le_refl _) (by rw [hP]; exact ⟨(-1002), rfl, ⟨hpc, ⟨hO, hS1, hS8, hLg, hLb, hPd, hHs, hSl⟩, hF⟩⟩)
  · skip
    refine ws_iload_n 4 C dX4_count_4 rfl ?_
    refine ws_iconst 5 C dX4_count_5 (nI 4) (by decide) ?_
    refine ws_icmp_ge 6 C 19 dX4_count_6 (by decide)  (fun c6 => ?_) (fun c6 => ?_)
    · skip
      have hor : x < 0 ∨ nI 4 ≤ x := Or.inr c6
      refine ws_iload_n 19 C dX4_count_19 rfl ?_
      rcases sw49 hor with hy | hy | hy | hy | hy | hy | hy
      · skip
        refine ws_tin 20 C dX4_count_20 (4) (40) 60 (by rw [hy]; rfl) (by decide) (by decide) (by rfl) (by decide) ?_
        have h7 : x ≠ nI 7 := nI_ne hy (by decide) (by decide) (by decide)
        have hpc := pCount_of (S := S) h7 (fCount_4 (S := S) hy).symm
        refine ws_aload_n 60 C dX4_count_60 rfl ?_
        refine ws_get 61 C dX4_count_61 fX4_10 hO rfl rfl ?_
        refine ws_get 64 C dX4_count_64 fX4_85 hB rfl rfl ?_
        exact ws_iret 67 C  dX4_count_67 rfl (Nat.le_refl _) (Nat.le_refl _) (by rw [hP]; exact ⟨nI (mn (sM S)), rfl, ⟨hpc, ⟨hO, hS1, hS8, hLg, hLb, hPd, hHs, hSl⟩, hF⟩⟩)
      · skip
        refine ws_tin 20 C dX4_count_20 (5) (48) 68 (by rw [hy]; rfl) (by decide) (by decide) (by rfl) (by decide) ?_
        have h7 : x ≠ nI 7 := nI_ne hy (by decide) (by decide) (by decide)
        have hpc := pCount_of (S := S) h7 (fCount_5 (S := S) hy).symm
        refine ws_aload_n 68 C dX4_count_68 rfl ?_
        refine ws_get 69 C dX4_count_69 fX4_10 hO rfl rfl ?_
        refine ws_callV0 72 C dX4_count_72 vX4_158 (c_X3_countSigns hB hR) rfl hB rfl rfl ⟨by decide, by decide⟩ ⟨Nat.zero_le _, Nat.zero_le _⟩ rfl rfl rfl (kR ?_)
        exact ws_iret 75 C  dX4_count_75 rfl (Nat.le_refl _) (Nat.le_refl _) (by rw [hP]; exact ⟨nI (smN (ml (sM S)) (mn (sM S))), rfl, ⟨hpc, ⟨hO, hS1, hS8, hLg, hLb, hPd, hHs, hSl⟩, hF⟩⟩)
      · skip
        refine ws_tin 20 C dX4_count_20 (6) (56) 76 (by rw [hy]; rfl) (by decide) (by decide) (by rfl) (by decide) ?_
        have h7 : x ≠ nI 7 := nI_ne hy (by decide) (by decide) (by decide)
        have hpc := pCount_of (S := S) h7 (fCount_6 (S := S) hy).symm
        refine ws_aload_n 76 C dX4_count_76 rfl ?_
        refine ws_get 77 C dX4_count_77 fX4_10 hO rfl rfl ?_
        refine ws_callV0 80 C dX4_count_80 vX4_158 (c_X3_countSigns hB hR) rfl hB rfl rfl ⟨by decide, by decide⟩ ⟨Nat.zero_le _, Nat.zero_le _⟩ rfl rfl rfl (kR ?_)
        refine ws_aload_n 83 C dX4_count_83 rfl ?_
        refine ws_get 84 C dX4_count_84 fX4_10 hO rfl rfl ?_
        refine ws_iconst 87 C dX4_count_87 (nI 0) (by decide) ?_
        refine ws_callV0 88 C dX4_count_88 vX4_126 (c_X3_countOf hB hR (q := 0) (by decide)) rfl hB rfl rfl ⟨by decide, by decide⟩ ⟨Nat.zero_le _, Nat.zero_le _⟩ rfl rfl rfl (kR ?_)
        refine ws_isub 91 C dX4_count_91 (nI (smN (ml (sM S)) (mn (sM S)) - cnT (sM S) 0 (mn (sM S)))) (pk_sub (cnT_le_s _ _ _)) ?_
        exact ws_iret 92 C  dX4_count_92 rfl (Nat.le_refl _) (Nat.le_refl _) (by rw [hP]; exact ⟨nI (smN (ml (sM S)) (mn (sM S)) - cnT (sM S) 0 (mn (sM S))), rfl, ⟨hpc, ⟨hO, hS1, hS8, hLg, hLb, hPd, hHs, hSl⟩, hF⟩⟩)
      · skip
        refine ws_tin 20 C dX4_count_20 (7) (73) 93 (by rw [hy]; rfl) (by decide) (by decide) (by rfl) (by decide) ?_
        refine ws_aload_n 93 C dX4_count_93 rfl ?_
        refine ws_iconst 94 C dX4_count_94 (nI 0) (by decide) ?_
        refine ws_callV0 95 C dX4_count_95 vX4_113 (c_X4_broken (way := 0) (by decide) hO hS1 hLg hLb) rfl hO rfl rfl ⟨by decide, by decide⟩ ⟨Nat.zero_le _, Nat.zero_le _⟩ rfl rfl rfl (kA (fun r95 u95 h95 => ?_))
        obtain ⟨⟨hr, hBk⟩, hfr⟩ := h95
        rw [show lid 0 = 15 from rfl] at hr hBk hfr
        subst hr
        have hLg := hBk.ly
        obtain ⟨p, l, r, s, lf, nx, hL, hW, hb⟩ := hBk
        have hS1 := hS1.fr hfr (fun q (g1 : 1 ≤ q) (g2 : q < 8) => (show ¬ (15 ≤ q ∧ q < 15 + 7) from by omega))
        have hS8 := hS8.fr hfr (fun q (g1 : 8 ≤ q) (g2 : q < 15) => (show ¬ (15 ≤ q ∧ q < 15 + 7) from by omega))
        have hLb := hLb.fr hfr (fun q (g1 : 22 ≤ q) (g2 : q < 29) => (show ¬ (15 ≤ q ∧ q < 15 + 7) from by omega))
        have hPd := hPd.fr hfr (fun q (g1 : 29 ≤ q) (g2 : q < 31) => (show ¬ (15 ≤ q ∧ q < 15 + 7) from by omega))
        have hHs := hHs.fr hfr (fun q (g1 : 31 ≤ q) (g2 : q < 75) => (show ¬ (15 ≤ q ∧ q < 15 + 7) from by omega))
        have hSl := hSl.fr hfr (fun q (g1 : 75 ≤ q) (g2 : q < 91) => (show ¬ (15 ≤ q ∧ q < 15 + 7) from by omega))
        have hO := hfr.ob hO (fun q (g1 : 0 ≤ q) (g2 : q < 0 + 1) => (show ¬ (15 ≤ q ∧ q < 15 + 7) from by omega))
        have hB := hfr.ob hB (fun q (g1 : 1 ≤ q) (g2 : q < 1 + 7) => (show ¬ (15 ≤ q ∧ q < 15 + 7) from by omega))
        have hF := hF.then hfr (fun q (hq : 15 ≤ q ∧ q < 15 + 7) => (show q < 91 from by omega))
        refine ws_aload_n 98 C dX4_count_98 rfl ?_
        refine ws_iconst 99 C dX4_count_99 (nI 1) (by decide) ?_
        refine ws_callV0 100 C dX4_count_100 vX4_113 (c_X4_broken (way := 1) (by decide) hO hS1 hLg hLb) rfl hO rfl rfl ⟨by decide, by decide⟩ ⟨Nat.zero_le _, Nat.zero_le _⟩ rfl rfl rfl (kA (fun r100 u100 h100 => ?_))
        obtain ⟨⟨hr, hBk⟩, hfr⟩ := h100
        rw [show lid 1 = 22 from rfl] at hr hBk hfr
        subst hr
        have hLb := hBk.ly
        obtain ⟨p2, l2, r2, s2, lf2, nx2, hL2, hW2, hb2⟩ := hBk
        have hS1 := hS1.fr hfr (fun q (g1 : 1 ≤ q) (g2 : q < 8) => (show ¬ (22 ≤ q ∧ q < 22 + 7) from by omega))
        have hS8 := hS8.fr hfr (fun q (g1 : 8 ≤ q) (g2 : q < 15) => (show ¬ (22 ≤ q ∧ q < 22 + 7) from by omega))
        have hLg := hLg.fr hfr (fun q (g1 : 15 ≤ q) (g2 : q < 22) => (show ¬ (22 ≤ q ∧ q < 22 + 7) from by omega))
        have hPd := hPd.fr hfr (fun q (g1 : 29 ≤ q) (g2 : q < 31) => (show ¬ (22 ≤ q ∧ q < 22 + 7) from by omega))
        have hHs := hHs.fr hfr (fun q (g1 : 31 ≤ q) (g2 : q < 75) => (show ¬ (22 ≤ q ∧ q < 22 + 7) from by omega))
        have hSl := hSl.fr hfr (fun q (g1 : 75 ≤ q) (g2 : q < 91) => (show ¬ (22 ≤ q ∧ q < 22 + 7) from by omega))
        have hO := hfr.ob hO (fun q (g1 : 0 ≤ q) (g2 : q < 0 + 1) => (show ¬ (22 ≤ q ∧ q < 22 + 7) from by omega))
        have hB := hfr.ob hB (fun q (g1 : 1 ≤ q) (g2 : q < 1 + 7) => (show ¬ (22 ≤ q ∧ q < 22 + 7) from by omega))
        have hL := hfr.ob hL (fun q (g1 : 15 ≤ q) (g2 : q < 15 + 7) => (show ¬ (22 ≤ q ∧ q < 22 + 7) from by omega))
        have hF := hF.then hfr (fun q (hq : 22 ≤ q ∧ q < 22 + 7) => (show q < 91 from by omega))
        refine ws_callV0 103 C dX4_count_103 vX4_161 (c_X1_breaksLike h24 hL hL2 hb hb2) rfl hL rfl rfl ⟨by decide, by decide⟩ ⟨Nat.zero_le _, Nat.zero_le _⟩ rfl rfl rfl (kI' (fun r103 u103 h103 => ?_))
        obtain ⟨hd, hu⟩ := h103
        subst hu
        refine ws_if_eq 106 C 113 dX4_count_106 (by decide)  (fun c106 => ?_) (fun c106 => ?_)
        · skip
          have hpc : pCount S x (nI 0) := Or.inl ⟨hy, Or.inr ⟨rfl, by rcases hd with ⟨a, b⟩ | ⟨a, b⟩; exact absurd (a.symm.trans c106) (by decide); exact b⟩⟩
          refine ws_iconst 113 C dX4_count_113 (nI 0) (by decide) ?_
          exact ws_iret 114 C  dX4_count_114 rfl (Nat.le_refl _) (Nat.le_refl _) (by rw [hP]; exact ⟨nI 0, rfl, ⟨hpc, ⟨hO, hS1, hS8, hLg, hLb, hPd, hHs, hSl⟩, hF⟩⟩)
        · skip
          have hpc : pCount S x (nI 1) := Or.inl ⟨hy, Or.inl ⟨rfl, by rcases hd with ⟨a, b⟩ | ⟨a, b⟩; exact b; exact absurd a c106⟩⟩
          refine ws_iconst 109 C dX4_count_109 (nI 1) (by decide) ?_
          refine ws_goto 110 C 114 dX4_count_110 (by decide) ?_
          exact ws_iret 114 C  dX4_count_114 rfl (Nat.le_refl _) (Nat.le_refl _) (by rw [hP]; exact ⟨nI 1, rfl, ⟨hpc, ⟨hO, hS1, hS8, hLg, hLb, hPd, hHs, hSl⟩, hF⟩⟩)
      · skip
        refine ws_tin 20 C dX4_count_20 (8) (95) 115 (by rw [hy]; rfl) (by decide) (by decide) (by rfl) (by decide) ?_
        have h7 : x ≠ nI 7 := nI_ne hy (by decide) (by decide) (by decide)
        have hpc := pCount_of (S := S) h7 (fCount_8 (S := S) hy).symm
        refine ws_aload_n 115 C dX4_count_115 rfl ?_
        obtain ⟨t, hP2, hpd⟩ := id hPd
        refine ws_get 116 C dX4_count_116 fX4_32 hO rfl rfl ?_
        refine ws_get 119 C dX4_count_119 fX4_95 hP2 rfl rfl ?_
        exact ws_iret 122 C  dX4_count_122 rfl (Nat.le_refl _) (Nat.le_refl _) (by rw [hP]; exact ⟨nI (sPn S), rfl, ⟨hpc, ⟨hO, hS1, hS8, hLg, hLb, hPd, hHs, hSl⟩, hF⟩⟩)
      · skip
        refine ws_tin 20 C dX4_count_20 (9) (103) 123 (by rw [hy]; rfl) (by decide) (by decide) (by rfl) (by decide) ?_
        have h7 : x ≠ nI 7 := nI_ne hy (by decide) (by decide) (by decide)
        have hpc := pCount_of (S := S) h7 (fCount_9 (S := S) hy).symm
        refine ws_aload_n 123 C dX4_count_123 rfl ?_
        obtain ⟨g, nx, hH, -⟩ := id hHs
        refine ws_get 124 C dX4_count_124 fX4_39 hO rfl rfl ?_
        refine ws_get 127 C dX4_count_127 fX4_165 hH rfl rfl ?_
        exact ws_iret 130 C  dX4_count_130 rfl (Nat.le_refl _) (Nat.le_refl _) (by rw [hP]; exact ⟨nI (sHn S), rfl, ⟨hpc, ⟨hO, hS1, hS8, hLg, hLb, hPd, hHs, hSl⟩, hF⟩⟩)
      · skip
        refine ws_tout 20 C dX4_count_20 131 (hy.2) (by decide) ?_
        have hpc := pCount_of (S := S) (none_ne hy.1 (by decide) (by decide)) (fCount_b (S := S) hy.1).symm
        refine ws_sipush 131 C dX4_count_131 ((-1002)) (by decide) ?_
        exact ws_iret 134 C  dX4_count_134 rfl (Nat.le_refl _) (Nat.le_refl _) (by rw [hP]; exact ⟨(-1002), rfl, ⟨hpc, ⟨hO, hS1, hS8, hLg, hLb, hPd, hHs, hSl⟩, hF⟩⟩)
    · skip
      obtain ⟨k, hk, hxk, hix⟩ := ixv_of (n := 4) (by decide) c1 (Int32.not_le.mp c6)
      have hpc := pCount_of (S := S) (nI_ne hxk (by omega) (by decide) (by omega)) (fCount_k (S := S) hxk hk).symm
      refine ws_wk (lv2 := [some (.ref (ad κ 0)), some (.int (nI k))]) ⟨rfl, (congrArg Value.int hxk.symm), trivial⟩ ?_
      refine ws_aload_n 9 C dX4_count_9 rfl ?_
      refine ws_get 10 C dX4_count_10 fX4_10 hO rfl rfl ?_
      refine ws_get 13 C dX4_count_13 fX4_62 hB rfl rfl ?_
      refine ws_iload_n 16 C dX4_count_16 rfl ?_
      refine ws_iald 17 C dX4_count_17 hB 1 rfl (vp_in_nI (by omega) (by decide)) (mv (sM S) 0 k) ((congrArg f1 (nI_clamp (by omega))).trans (hR.set hk)) ?_
      exact ws_iret 18 C  dX4_count_18 rfl (Nat.le_refl _) (Nat.le_refl _) (by rw [hP]; exact ⟨mv (sM S) 0 k, rfl, ⟨hpc, ⟨hO, hS1, hS8, hLg, hLb, hPd, hHs, hSl⟩, hF⟩⟩)

set_option maxRecDepth 100000 in
set_option maxHeartbeats 4000000 in
theorem c_X4_body {S : Sg} (hX : XI κ z st0 S) {x y : Int32} : CT zl κ yX4_body cX4_body 3 (some .int) (r0 4 89) z [.ref (ad κ 0), .int (x), .int (y)] st0 (PX κ z st0 (fBody S x y, S)) := by
  obtain ⟨P, hP⟩ : ∃ P : Option Value → St → Prop, P = (PX κ z st0 (fBody S x y, S)) := ⟨_, rfl⟩
  rw [← hP]
  refine CT.of (by decide +kernel) (Nat.le_of_ble_eq_true rfl) (fun zp ze zs zm zar zbe zme zc C _ => ?_)
  have C : Cx zp zs zm zar zme zc κ cX4_body 3 RX4 (some .int) := C
  refine ws_lv (lv2 := [some (.ref (ad κ 0)), some (.int (x)), some (.int (y))]) rfl ?_
  obtain ⟨hO, hS1, hS8, hLg, hLb, hPd, hHs, hSl⟩ := hX
  have hF : Fr (fun q : Nat => q < 91) st0 st0 := Fr.rf
  obtain ⟨f1, f2, f3, f4, f5, f6, hB, hR⟩ := id hS1
  have h24 := hR.le
  refine ws_aload_n 0 C dX4_body_0 rfl ?_
  refine ws_iload_n 1 C dX4_body_1 rfl ?_
  refine ws_callV0 2 C dX4_body_2 vX4_98 (c_X4_isWord hO hS1) rfl hO rfl rfl ⟨by decide, by decide⟩ ⟨Nat.zero_le _, Nat.zero_le _⟩ rfl rfl rfl (kR ?_)
  refine ws_if_eq 5 C 21 dX4_body_5 (by decide)  (fun c5 => ?_) (fun c5 => ?_)
  · skip
    have hf := fBody_1 (S := S) (y := y) (bix_0 c5)
    refine ws_sipush 21 C dX4_body_21 ((-1001)) (by decide) ?_
    exact ws_iret 24 C  dX4_body_24 rfl (Nat.le_refl _) (Nat.le_refl _) (by rw [hP]; exact PX_ret (congrArg (fun t => (t, S)) hf) ⟨hO, hS1, hS8, hLg, hLb, hPd, hHs, hSl⟩ hF)
  · skip
    obtain ⟨i, hi, hxi, hix⟩ := bix_1 (n := mn (sM S)) (by omega) c5
    refine ws_wk (lv2 := [some (.ref (ad κ 0)), some (.int (nI i)), some (.int (y))]) ⟨rfl, (congrArg Value.int hxi.symm), rfl, trivial⟩ ?_
    refine ws_aload_n 8 C dX4_body_8 rfl ?_
    refine ws_iload_n 9 C dX4_body_9 rfl ?_
    refine ws_callV0 10 C dX4_body_10 vX4_98 (c_X4_isWord hO hS1) rfl hO rfl rfl ⟨by decide, by decide⟩ ⟨Nat.zero_le _, Nat.zero_le _⟩ rfl rfl rfl (kR ?_)
    refine ws_if_eq 13 C 21 dX4_body_13 (by decide)  (fun c13 => ?_) (fun c13 => ?_)
    · skip
      have hf := fBody_2 (S := S) (x := x) (bix_0 c13)
      refine ws_sipush 21 C dX4_body_21 ((-1001)) (by decide) ?_
      exact ws_iret 24 C  dX4_body_24 rfl (Nat.le_refl _) (Nat.le_refl _) (by rw [hP]; exact PX_ret (congrArg (fun t => (t, S)) hf) ⟨hO, hS1, hS8, hLg, hLb, hPd, hHs, hSl⟩ hF)
    · skip
      obtain ⟨j, hj, hyj, hjx⟩ := bix_1 (n := mn (sM S)) (by omega) c13
      refine ws_wk (lv2 := [some (.ref (ad κ 0)), some (.int (nI i)), some (.int (nI j))]) ⟨rfl, rfl, (congrArg Value.int hyj.symm), trivial⟩ ?_
      refine ws_iload_n 16 C dX4_body_16 rfl ?_
      refine ws_iload_n 17 C dX4_body_17 rfl ?_
      refine ws_nicmp_ge 18 C 25 dX4_body_18 (by decide) (by omega) (by omega) (fun c18 => ?_) (fun c18 => ?_)
      · skip
        have hf := fBody_4 (S := S) hix hjx c18
        refine ws_aload_n 25 C dX4_body_25 rfl ?_
        obtain ⟨p, l, r, wn, m, sp, lo, s, ln, lf, nx, hL⟩ := (id hLg)
        refine ws_get 26 C dX4_body_26 fX4_22 hO rfl rfl ?_
        refine ws_aload_n 29 C dX4_body_29 rfl ?_
        refine ws_get 30 C dX4_body_30 fX4_10 hO rfl rfl ?_
        refine ws_callV0 33 C dX4_body_33 vX4_168 (c_X1_weigh hL hB hR (by omega)) rfl hL rfl rfl ⟨by decide, by decide⟩ ⟨Nat.zero_le _, Nat.zero_le _⟩ rfl rfl rfl (kV (fun u33 h33 => ?_))
        obtain ⟨⟨p, l, r, hL, hW⟩, hfr⟩ := h33
        have hLg : LyA κ z u33 15 := ⟨_, _, _, _, _, _, _, _, _, _, _, hL⟩
        have hS1 := hS1.fr hfr (fun q (g1 : 1 ≤ q) (g2 : q < 8) => (show ¬ (15 ≤ q ∧ q < 15 + 7) from by omega))
        have hS8 := hS8.fr hfr (fun q (g1 : 8 ≤ q) (g2 : q < 15) => (show ¬ (15 ≤ q ∧ q < 15 + 7) from by omega))
        have hLb := hLb.fr hfr (fun q (g1 : 22 ≤ q) (g2 : q < 29) => (show ¬ (15 ≤ q ∧ q < 15 + 7) from by omega))
        have hPd := hPd.fr hfr (fun q (g1 : 29 ≤ q) (g2 : q < 31) => (show ¬ (15 ≤ q ∧ q < 15 + 7) from by omega))
        have hHs := hHs.fr hfr (fun q (g1 : 31 ≤ q) (g2 : q < 75) => (show ¬ (15 ≤ q ∧ q < 15 + 7) from by omega))
        have hSl := hSl.fr hfr (fun q (g1 : 75 ≤ q) (g2 : q < 91) => (show ¬ (15 ≤ q ∧ q < 15 + 7) from by omega))
        have hO := hfr.ob hO (fun q (g1 : 0 ≤ q) (g2 : q < 0 + 1) => (show ¬ (15 ≤ q ∧ q < 15 + 7) from by omega))
        have hB := hfr.ob hB (fun q (g1 : 1 ≤ q) (g2 : q < 1 + 7) => (show ¬ (15 ≤ q ∧ q < 15 + 7) from by omega))
        have hF := hF.then hfr (fun q (hq : 15 ≤ q ∧ q < 15 + 7) => (show q < 91 from by omega))
        refine ws_aload_n 36 C dX4_body_36 rfl ?_
        refine ws_get 37 C dX4_body_37 fX4_22 hO rfl rfl ?_
        refine ws_iload_n 40 C dX4_body_40 rfl ?_
        refine ws_iload_n 41 C dX4_body_41 rfl ?_
        refine ws_callV0 42 C dX4_body_42 vX4_171 (c_X1_bodyOf hL hW hR.ok c18 hj) rfl hL rfl rfl ⟨by decide, by decide⟩ ⟨Nat.zero_le _, Nat.zero_le _⟩ rfl rfl rfl (kR ?_)
        exact ws_iret 45 C  dX4_body_45 rfl (Nat.le_refl _) (Nat.le_refl _) (by rw [hP]; exact PX_ret (congrArg (fun t => (t, S)) hf) ⟨hO, hS1, hS8, hLg, hLb, hPd, hHs, hSl⟩ hF)
      · skip
        have hf := fBody_3 (S := S) hix hjx (by omega)
        refine ws_sipush 21 C dX4_body_21 ((-1001)) (by decide) ?_
        exact ws_iret 24 C  dX4_body_24 rfl (Nat.le_refl _) (Nat.le_refl _) (by rw [hP]; exact PX_ret (congrArg (fun t => (t, S)) hf) ⟨hO, hS1, hS8, hLg, hLb, hPd, hHs, hSl⟩ hF)

set_option maxRecDepth 100000 in
set_option maxHeartbeats 4000000 in
theorem c_X4_leastMeasure {S : Sg} (hX : XI κ z st0 S) {x : Int32} : CT zl κ yX4_leastMeasure cX4_leastMeasure 3 (some .int) (r0 4 89) z [.ref (ad κ 0), .int (x)] st0 (PX κ z st0 (fLeast S x, S)) := by
  obtain ⟨P, hP⟩ : ∃ P : Option Value → St → Prop, P = (PX κ z st0 (fLeast S x, S)) := ⟨_, rfl⟩
  rw [← hP]
  refine CT.of (by decide +kernel) (Nat.le_of_ble_eq_true rfl) (fun zp ze zs zm zar zbe zme zc C _ => ?_)
  have C : Cx zp zs zm zar zme zc κ cX4_leastMeasure 3 RX4 (some .int) := C
  refine ws_lv (lv2 := [some (.ref (ad κ 0)), some (.int (x)), none]) rfl ?_
  obtain ⟨hO, hS1, hS8, hLg, hLb, hPd, hHs, hSl⟩ := hX
  have hF : Fr (fun q : Nat => q < 91) st0 st0 := Fr.rf
  obtain ⟨f1, f2, f3, f4, f5, f6, hB, hR⟩ := id hS1
  have h24 := hR.le
  refine ws_iload_n 0 C dX4_leastMeasure_0 rfl ?_
  refine ws_iconst 1 C dX4_leastMeasure_1 (nI 1) (by decide) ?_
  refine ws_icmp_lt 2 C 11 dX4_leastMeasure_2 (by decide)  (fun c2 => ?_) (fun c2 => ?_)
  · skip
    have hf := fLeast_b (S := S) (x := x) (fun q => Int32.not_lt.mpr q.1 c2)
    refine ws_sipush 11 C dX4_leastMeasure_11 ((-1002)) (by decide) ?_
    exact ws_iret 14 C  dX4_leastMeasure_14 rfl (Nat.le_refl _) (Nat.le_refl _) (by rw [hP]; exact PX_ret (congrArg (fun t => (t, S)) hf) ⟨hO, hS1, hS8, hLg, hLb, hPd, hHs, hSl⟩ hF)
  · skip
    refine ws_iload_n 5 C dX4_leastMeasure_5 rfl ?_
    refine ws_bipush 6 C dX4_leastMeasure_6 (nI 24) (by decide) ?_
    refine ws_icmp_le 8 C 15 dX4_leastMeasure_8 (by decide)  (fun c8 => ?_) (fun c8 => ?_)
    · skip
      obtain ⟨L, hL0, hL24, hxL⟩ := rng24 (Int32.not_lt.mp c2) c8
      have hfl := fLeast_s (S := S) hxL hL0 hL24
      refine ws_wk (lv2 := [some (.ref (ad κ 0)), some (.int (nI L)), none]) ⟨rfl, (congrArg Value.int hxL.symm), trivial⟩ ?_
      refine ws_aload_n 15 C dX4_leastMeasure_15 rfl ?_
      obtain ⟨p, l, r, wn, m, sp, lo, s, ln, lf, nx, hL⟩ := (id hLg)
      refine ws_get 16 C dX4_leastMeasure_16 fX4_22 hO rfl rfl ?_
      refine ws_aload_n 19 C dX4_leastMeasure_19 rfl ?_
      refine ws_get 20 C dX4_leastMeasure_20 fX4_10 hO rfl rfl ?_
      refine ws_callV0 23 C dX4_leastMeasure_23 vX4_168 (c_X1_weigh hL hB hR (by omega)) rfl hL rfl rfl ⟨by decide, by decide⟩ ⟨Nat.zero_le _, Nat.zero_le _⟩ rfl rfl rfl (kV (fun u23 h23 => ?_))
      obtain ⟨⟨p, l, r, hL, hW⟩, hfr⟩ := h23
      have hS1 := hS1.fr hfr (fun q (g1 : 1 ≤ q) (g2 : q < 8) => (show ¬ (15 ≤ q ∧ q < 15 + 7) from by omega))
      have hS8 := hS8.fr hfr (fun q (g1 : 8 ≤ q) (g2 : q < 15) => (show ¬ (15 ≤ q ∧ q < 15 + 7) from by omega))
      have hLb := hLb.fr hfr (fun q (g1 : 22 ≤ q) (g2 : q < 29) => (show ¬ (15 ≤ q ∧ q < 15 + 7) from by omega))
      have hPd := hPd.fr hfr (fun q (g1 : 29 ≤ q) (g2 : q < 31) => (show ¬ (15 ≤ q ∧ q < 15 + 7) from by omega))
      have hHs := hHs.fr hfr (fun q (g1 : 31 ≤ q) (g2 : q < 75) => (show ¬ (15 ≤ q ∧ q < 15 + 7) from by omega))
      have hSl := hSl.fr hfr (fun q (g1 : 75 ≤ q) (g2 : q < 91) => (show ¬ (15 ≤ q ∧ q < 15 + 7) from by omega))
      have hO := hfr.ob hO (fun q (g1 : 0 ≤ q) (g2 : q < 0 + 1) => (show ¬ (15 ≤ q ∧ q < 15 + 7) from by omega))
      have hB := hfr.ob hB (fun q (g1 : 1 ≤ q) (g2 : q < 1 + 7) => (show ¬ (15 ≤ q ∧ q < 15 + 7) from by omega))
      have hF := hF.then hfr (fun q (hq : 15 ≤ q ∧ q < 15 + 7) => (show q < 91 from by omega))
      refine ws_gstL 26 C dX4_leastMeasure_26 k98 ?_
      refine ws_iconst 29 C dX4_leastMeasure_29 (nI 0) (by decide) ?_
      refine ws_staL 30 C dX4_leastMeasure_30 (vp_in_nI (by omega) (by decide)) (nI (20 + 0)) (congrArg lsv (nI_clamp (by omega))) ?_
      refine ws_istore_n 31 C dX4_leastMeasure_31 rfl [some (.ref (ad κ 0)), some (.int (nI L)), some (.int (nI (20 + 0)))] rfl ?_
      have L32 : ∀ d : Nat, d ≤ 181 → ∀ (m0 : Int32), ∀ (s2 : Nat → Int32), ∀ (ln2 : Int32), ∀ (he : lsmf (sM S) L 181 20 = lsmf (sM S) L (181 - d) (20 + d)), ∀ (st1 : St), ∀ (hO : Ob z st1 0 (bXo κ)), ∀ (hB : Ob z st1 1 (bSh κ 1 f1 f2 f3 f4 f5 f6 (nI (mn (sM S))))), ∀ (hL : Ob z st1 15 (bLy κ 15 p l r (nI (mn (sM S))) m0 (mv (sM S) 0 1) (mv (sM S) 0 2) s2 ln2 lf nx)), ∀ (hS1 : ShP κ z st1 1 (sM S)), ∀ (hS8 : ShA κ z st1 8), ∀ (hLb : LyA κ z st1 22), ∀ (hPd : PdA κ z st1 (sPt S) (sPn S)), ∀ (hHs : HsP κ z st1 (sH S) (sHn S)), ∀ (hSl : SlP κ z st1 (sSl S) (sFd S)), ∀ (hF : Fr (fun q : Nat => q < 91) st0 st1), WS zp zl ze (r0 4 89) zs zm zar zbe zme zc κ z 0 0 (QM zbe zar zs κ z (r0 4 89) P) st1 32 [some (.ref (ad κ 0)), some (.int (nI L)), some (.int (nI (20 + d)))] [] := by
        refine dnw ?_
        intro d hd ih32 m0 s2 ln2 he st1 hO hB hL hS1 hS8 hLb hPd hHs hSl hF
        refine ws_iload_n 32 C dX4_leastMeasure_32 rfl ?_
        refine ws_gstG 33 C dX4_leastMeasure_33 k100 ?_
        refine ws_iconst 36 C dX4_leastMeasure_36 (nI 0) (by decide) ?_
        refine ws_staG 37 C dX4_leastMeasure_37 (vp_in_nI (by omega) (by decide)) (nI 200) (congrArg gsv (nI_clamp (by omega))) ?_
        refine ws_nicmp_gt 38 C 75 dX4_leastMeasure_38 (by decide) (by omega) (by omega) (fun c38 => ?_) (fun c38 => ?_)
        · skip
          have hf : fLeast S x = -1006 := by rw [hfl, he, show 181 - d = 0 from by omega]; rfl
          have hLg : LyA κ z st1 15 := ⟨_, _, _, _, _, _, _, _, _, _, _, hL⟩
          refine ws_sipush 75 C dX4_leastMeasure_75 ((-1006)) (by decide) ?_
          exact ws_iret 78 C  dX4_leastMeasure_78 rfl (Nat.le_refl _) (Nat.le_refl _) (by rw [hP]; exact PX_ret (congrArg (fun t => (t, S)) hf) ⟨hO, hS1, hS8, hLg, hLb, hPd, hHs, hSl⟩ hF)
        · skip
          have hd181 : d < 181 := by omega
          refine ws_aload_n 41 C dX4_leastMeasure_41 rfl ?_
          refine ws_get 42 C dX4_leastMeasure_42 fX4_22 hO rfl rfl ?_
          refine ws_iload_n 45 C dX4_leastMeasure_45 rfl ?_
          refine ws_put 46 C dX4_leastMeasure_46 fX4_174 q1_4 hL rfl (Nat.le_of_ble_eq_true rfl) rfl rfl (fun st2 est2 => ?_)
          have hO := hO.ne' (L := 1) est2 rfl (by omega)
          have hB := hB.ne' (L := 7) est2 rfl (by omega)
          have hL : Ob z st2 15 (bLy κ 15 p l r (nI (mn (sM S))) (nI (20 + d)) (mv (sM S) 0 1) (mv (sM S) 0 2) s2 ln2 lf nx) := Ob.put' (j := 0) hL est2 rfl
          have hS1 := hS1.fr (Fr.one est2) (fun q (g1 : 1 ≤ q) (g2 : q < 8) => (show ¬ (q = 15) from by omega))
          have hS8 := hS8.fr (Fr.one est2) (fun q (g1 : 8 ≤ q) (g2 : q < 15) => (show ¬ (q = 15) from by omega))
          have hLb := hLb.fr (Fr.one est2) (fun q (g1 : 22 ≤ q) (g2 : q < 29) => (show ¬ (q = 15) from by omega))
          have hPd := hPd.fr (Fr.one est2) (fun q (g1 : 29 ≤ q) (g2 : q < 31) => (show ¬ (q = 15) from by omega))
          have hHs := hHs.fr (Fr.one est2) (fun q (g1 : 31 ≤ q) (g2 : q < 75) => (show ¬ (q = 15) from by omega))
          have hSl := hSl.fr (Fr.one est2) (fun q (g1 : 75 ≤ q) (g2 : q < 91) => (show ¬ (q = 15) from by omega))
          have hF := hF.put' est2 (show (15) < 91 from by omega)
          refine ws_aload_n 49 C dX4_leastMeasure_49 rfl ?_
          refine ws_get 50 C dX4_leastMeasure_50 fX4_22 hO rfl rfl ?_
          refine ws_callV0 53 C dX4_leastMeasure_53 vX4_177 (c_X1_fillGreedily (m := nI (20 + d)) hL hW hR.ok) rfl hL rfl rfl ⟨by decide, by decide⟩ ⟨Nat.zero_le _, Nat.zero_le _⟩ rfl rfl rfl (kV (fun u53 h53 => ?_))
          obtain ⟨⟨s3, hL, hb⟩, hfr⟩ := h53
          have hlle := hb.L_le
          have hll : lnm (sM S) (20 + d) = lno (gx (bo (sM S)) (nI (20 + d)) (mn (sM S))) (mn (sM S)) := rfl
          have hS1 := hS1.fr hfr (fun q (g1 : 1 ≤ q) (g2 : q < 8) => (show ¬ (15 ≤ q ∧ q < 15 + 7) from by omega))
          have hS8 := hS8.fr hfr (fun q (g1 : 8 ≤ q) (g2 : q < 15) => (show ¬ (15 ≤ q ∧ q < 15 + 7) from by omega))
          have hLb := hLb.fr hfr (fun q (g1 : 22 ≤ q) (g2 : q < 29) => (show ¬ (15 ≤ q ∧ q < 15 + 7) from by omega))
          have hPd := hPd.fr hfr (fun q (g1 : 29 ≤ q) (g2 : q < 31) => (show ¬ (15 ≤ q ∧ q < 15 + 7) from by omega))
          have hHs := hHs.fr hfr (fun q (g1 : 31 ≤ q) (g2 : q < 75) => (show ¬ (15 ≤ q ∧ q < 15 + 7) from by omega))
          have hSl := hSl.fr hfr (fun q (g1 : 75 ≤ q) (g2 : q < 91) => (show ¬ (15 ≤ q ∧ q < 15 + 7) from by omega))
          have hO := hfr.ob hO (fun q (g1 : 0 ≤ q) (g2 : q < 0 + 1) => (show ¬ (15 ≤ q ∧ q < 15 + 7) from by omega))
          have hB := hfr.ob hB (fun q (g1 : 1 ≤ q) (g2 : q < 1 + 7) => (show ¬ (15 ≤ q ∧ q < 15 + 7) from by omega))
          have hF := hF.then hfr (fun q (hq : 15 ≤ q ∧ q < 15 + 7) => (show q < 91 from by omega))
          refine ws_aload_n 56 C dX4_leastMeasure_56 rfl ?_
          refine ws_get 57 C dX4_leastMeasure_57 fX4_22 hO rfl rfl ?_
          refine ws_get 60 C dX4_leastMeasure_60 fX4_117 hL rfl rfl ?_
          refine ws_iload_n 63 C dX4_leastMeasure_63 rfl ?_
          refine ws_nicmp_gt 64 C 69 dX4_leastMeasure_64 (by decide) (by first | omega | (rw [hll]; omega)) (by first | omega | (rw [hll]; omega)) (fun c64 => ?_) (fun c64 => ?_)
          · skip
            refine ws_iinc 69 C dX4_leastMeasure_69 rfl (nI (20 + d + 1)) (nI_1 _) rfl [some (.ref (ad κ 0)), some (.int (nI L)), some (.int (nI (20 + d + 1)))] rfl ?_
            refine ws_goto 72 C 32 dX4_leastMeasure_72 (by decide) ?_
            exact ih32 hd181 (nI (20 + d)) s3 (nI (lnm (sM S) (20 + d))) (he.trans ((lsmf_s hd181).trans (if_neg (by omega)))) u53 hO hB hL hS1 hS8 hLb hPd hHs hSl hF
          · skip
            have hf : fLeast S x = nI (20 + d) := by rw [hfl, he, lsmf_s hd181]; exact if_pos c64
            have hLg : LyA κ z u53 15 := ⟨_, _, _, _, _, _, _, _, _, _, _, hL⟩
            refine ws_iload_n 67 C dX4_leastMeasure_67 rfl ?_
            exact ws_iret 68 C  dX4_leastMeasure_68 rfl (Nat.le_refl _) (Nat.le_refl _) (by rw [hP]; exact PX_ret (congrArg (fun t => (t, S)) hf) ⟨hO, hS1, hS8, hLg, hLb, hPd, hHs, hSl⟩ hF)
      exact L32 0 (Nat.zero_le _) (mv (sM S) 0 0) s ln rfl u23 hO hB hL hS1 hS8 hLb hPd hHs hSl hF
    · skip
      have hf := fLeast_b (S := S) (x := x) (fun q => c8 q.2)
      refine ws_sipush 11 C dX4_leastMeasure_11 ((-1002)) (by decide) ?_
      exact ws_iret 14 C  dX4_leastMeasure_14 rfl (Nat.le_refl _) (Nat.le_refl _) (by rw [hP]; exact PX_ret (congrArg (fun t => (t, S)) hf) ⟨hO, hS1, hS8, hLg, hLb, hPd, hHs, hSl⟩ hF)

set_option maxRecDepth 100000 in
set_option maxHeartbeats 4000000 in
theorem c_X4_bestShare {S : Sg} (hX : XI κ z st0 S) {x : Int32} : CT zl κ yX4_bestShare cX4_bestShare 8 (some .int) (r0 6 132) z [.ref (ad κ 0), .int (x)] st0 (PX κ z st0 (fBest S x, S)) := by
  obtain ⟨P, hP⟩ : ∃ P : Option Value → St → Prop, P = (PX κ z st0 (fBest S x, S)) := ⟨_, rfl⟩
  rw [← hP]
  refine CT.of (by decide +kernel) (Nat.le_of_ble_eq_true rfl) (fun zp ze zs zm zar zbe zme zc C _ => ?_)
  have C : Cx zp zs zm zar zme zc κ cX4_bestShare 8 RX4 (some .int) := C
  refine ws_lv (lv2 := [some (.ref (ad κ 0)), some (.int (x)), none, none, none, none, none, none]) rfl ?_
  obtain ⟨hO, hS1, hS8, hLg, hLb, hPd, hHs, hSl⟩ := hX
  have hF : Fr (fun q : Nat => q < 91) st0 st0 := Fr.rf
  obtain ⟨f1, f2, f3, f4, f5, f6, hB, hR⟩ := id hS1
  have h24 := hR.le
  refine ws_iload_n 0 C dX4_bestShare_0 rfl ?_
  refine ws_callS0 1 C dX4_bestShare_1 vX4_65 (c_X4_isSort) rfl ⟨by decide, by decide⟩ ⟨Nat.zero_le _, Nat.zero_le _⟩ rfl rfl rfl (kR ?_)
  refine ws_if_ne 4 C 11 dX4_bestShare_4 (by decide)  (fun c4 => ?_) (fun c4 => ?_)
  · skip
    obtain ⟨q, hq, hxq, hix⟩ := bix_1 (n := 8) (by decide) c4
    refine ws_wk (lv2 := [some (.ref (ad κ 0)), some (.int (nI q)), none, none, none, none, none, none]) ⟨rfl, (congrArg Value.int hxq.symm), trivial⟩ ?_
    refine ws_aload_n 11 C dX4_bestShare_11 rfl ?_
    obtain ⟨ν, t1, t2, t3, t4, t5, t6, hT, hRT⟩ := hS8
    refine ws_get 12 C dX4_bestShare_12 fX4_16 hO rfl rfl ?_
    refine ws_aload_n 15 C dX4_bestShare_15 rfl ?_
    refine ws_get 16 C dX4_bestShare_16 fX4_10 hO rfl rfl ?_
    refine ws_callV0 19 C dX4_bestShare_19 vX4_180 (c_X3_copyFrom ⟨_, _, _, _, _, _, hT, hRT⟩ hB hR (by omega)) rfl hT rfl rfl ⟨by decide, by decide⟩ ⟨Nat.zero_le _, Nat.zero_le _⟩ rfl rfl rfl (kV (fun u19 h19 => ?_))
    obtain ⟨⟨g1, g2, g3, g4, g5, g6, hT, hRT⟩, hfr⟩ := h19
    have hS1 := hS1.fr hfr (fun q (g1 : 1 ≤ q) (g2 : q < 8) => (show ¬ (8 ≤ q ∧ q < 8 + 7) from by omega))
    have hLg := hLg.fr hfr (fun q (g1 : 15 ≤ q) (g2 : q < 22) => (show ¬ (8 ≤ q ∧ q < 8 + 7) from by omega))
    have hLb := hLb.fr hfr (fun q (g1 : 22 ≤ q) (g2 : q < 29) => (show ¬ (8 ≤ q ∧ q < 8 + 7) from by omega))
    have hPd := hPd.fr hfr (fun q (g1 : 29 ≤ q) (g2 : q < 31) => (show ¬ (8 ≤ q ∧ q < 8 + 7) from by omega))
    have hHs := hHs.fr hfr (fun q (g1 : 31 ≤ q) (g2 : q < 75) => (show ¬ (8 ≤ q ∧ q < 8 + 7) from by omega))
    have hSl := hSl.fr hfr (fun q (g1 : 75 ≤ q) (g2 : q < 91) => (show ¬ (8 ≤ q ∧ q < 8 + 7) from by omega))
    have hO := hfr.ob hO (fun q (g1 : 0 ≤ q) (g2 : q < 0 + 1) => (show ¬ (8 ≤ q ∧ q < 8 + 7) from by omega))
    have hB := hfr.ob hB (fun q (g1 : 1 ≤ q) (g2 : q < 1 + 7) => (show ¬ (8 ≤ q ∧ q < 8 + 7) from by omega))
    have hF := hF.then hfr (fun q (hq : 8 ≤ q ∧ q < 8 + 7) => (show q < 91 from by omega))
    refine ws_iconst 22 C dX4_bestShare_22 (nI 0) (by decide) ?_
    refine ws_istore_n 23 C dX4_bestShare_23 rfl [some (.ref (ad κ 0)), some (.int (nI q)), some (.int (nI 0)), none, none, none, none, none] rfl ?_
    refine ws_iconst 24 C dX4_bestShare_24 (nI 0) (by decide) ?_
    refine ws_istore_n 25 C dX4_bestShare_25 rfl [some (.ref (ad κ 0)), some (.int (nI q)), some (.int (nI 0)), some (.int (nI 0)), none, none, none, none] rfl ?_
    refine ws_iconst 26 C dX4_bestShare_26 ((-1)) (by decide) ?_
    refine ws_istore 27 C dX4_bestShare_27 rfl [some (.ref (ad κ 0)), some (.int (nI q)), some (.int (nI 0)), some (.int (nI 0)), some (.int ((-1))), none, none, none] rfl ?_
    refine ws_iconst 29 C dX4_bestShare_29 (nI 0) (by decide) ?_
    refine ws_istore 30 C dX4_bestShare_30 rfl [some (.ref (ad κ 0)), some (.int (nI q)), some (.int (nI 0)), some (.int (nI 0)), some (.int ((-1))), some (.int (nI 0)), none, none] rfl ?_
    have L32 : ∀ k : Nat, k ≤ 101 → ∀ (h4 : Nat → Int32), ∀ (hb : Int32), ∀ (hq4 : ∀ v, Rp (muRight (sM S) q v) g1 g2 g3 (upd h4 q v) g5 g6), ∀ (hhb : (k = 0 ∧ hb = -1) ∨ (0 < k ∧ hb = hg (muRight (sM S) q (nI (k - 1))) 3 q)), ∀ (st1 : St), ∀ (hO : Ob z st1 0 (bXo κ)), ∀ (hB : Ob z st1 1 (bSh κ 1 f1 f2 f3 f4 f5 f6 (nI (mn (sM S))))), ∀ (hT : Ob z st1 8 (bSh κ 8 g1 g2 g3 h4 g5 g6 (nI (mn (sM S))))), ∀ (hS1 : ShP κ z st1 1 (sM S)), ∀ (hLg : LyA κ z st1 15), ∀ (hLb : LyA κ z st1 22), ∀ (hPd : PdA κ z st1 (sPt S) (sPn S)), ∀ (hHs : HsP κ z st1 (sH S) (sHn S)), ∀ (hSl : SlP κ z st1 (sSl S) (sFd S)), ∀ (hF : Fr (fun q : Nat => q < 91) st0 st1), WS zp zl ze (r0 6 132) zs zm zar zbe zme zc κ z 0 0 (QM zbe zar zs κ z (r0 6 132) P) st1 32 [some (.ref (ad κ 0)), some (.int (nI q)), some (.int (nI ((arg1 (fun r => lbd (muRight (sM S) q (nI r))) k).1))), some (.int ((arg1 (fun r => lbd (muRight (sM S) q (nI r))) k).2)), some (.int (hb)), some (.int (nI k)), none, none] [] := by
      refine dnw ?_
      intro k hk ih32 h4 hb hq4 hhb st1 hO hB hT hS1 hLg hLb hPd hHs hSl hF
      refine ws_iload 32 C dX4_bestShare_32 rfl ?_
      refine ws_bipush 34 C dX4_bestShare_34 (nI 100) (by decide) ?_
      refine ws_nicmp_gt 36 C 107 dX4_bestShare_36 (by decide) (by omega) (by omega) (fun c36 => ?_) (fun c36 => ?_)
      · skip
        have hf : fBest S x = nI (arg1 (fun r => lbd (muRight (sM S) q (nI r))) k).1 := by rw [fBest_s hix, show k = 101 from by omega]
        have hS8 : ShA κ z st1 8 := sh_any hT (hq4 (nI 0))
        refine ws_iload_n 107 C dX4_bestShare_107 rfl ?_
        exact ws_iret 108 C  dX4_bestShare_108 rfl (Nat.le_refl _) (Nat.le_refl _) (by rw [hP]; exact PX_ret (congrArg (fun t => (t, S)) hf) ⟨hO, hS1, hS8, hLg, hLb, hPd, hHs, hSl⟩ hF)
      · skip
        have hk1 : k < 101 := by omega
        refine ws_aload_n 39 C dX4_bestShare_39 rfl ?_
        refine ws_get 40 C dX4_bestShare_40 fX4_16 hO rfl rfl ?_
        refine ws_get 43 C dX4_bestShare_43 fX4_78 hT rfl rfl ?_
        refine ws_iload_n 46 C dX4_bestShare_46 rfl ?_
        refine ws_iload 47 C dX4_bestShare_47 rfl ?_
        refine ws_iast 49 C dX4_bestShare_49 hT 4 rfl (vp_in_nI (by omega) (by decide)) q (nI_clamp (by omega)) (nI k) rfl (fun st2 est2 => ?_)
        have hO := hO.ne' (L := 1) est2 rfl (by omega)
        have hB := hB.ne' (L := 7) est2 rfl (by omega)
        have hT : Ob z st2 8 (bSh κ 8 g1 g2 g3 (upd h4 q (nI k)) g5 g6 (nI (mn (sM S)))) := Ob.put' (j := 4) hT est2 rfl
        have hS1 := hS1.fr (Fr.one est2) (fun q (g1 : 1 ≤ q) (g2 : q < 8) => (show ¬ (q = 12) from by omega))
        have hLg := hLg.fr (Fr.one est2) (fun q (g1 : 15 ≤ q) (g2 : q < 22) => (show ¬ (q = 12) from by omega))
        have hLb := hLb.fr (Fr.one est2) (fun q (g1 : 22 ≤ q) (g2 : q < 29) => (show ¬ (q = 12) from by omega))
        have hPd := hPd.fr (Fr.one est2) (fun q (g1 : 29 ≤ q) (g2 : q < 31) => (show ¬ (q = 12) from by omega))
        have hHs := hHs.fr (Fr.one est2) (fun q (g1 : 31 ≤ q) (g2 : q < 75) => (show ¬ (q = 12) from by omega))
        have hSl := hSl.fr (Fr.one est2) (fun q (g1 : 75 ≤ q) (g2 : q < 91) => (show ¬ (q = 12) from by omega))
        have hF := hF.put' est2 (show (12) < 91 from by omega)
        refine ws_aload_n 50 C dX4_bestShare_50 rfl ?_
        refine ws_get 51 C dX4_bestShare_51 fX4_16 hO rfl rfl ?_
        refine ws_iload_n 54 C dX4_bestShare_54 rfl ?_
        have hRk := hq4 (nI k)
        have hq5 : ∀ v, Rp (muRight (sM S) q v) g1 g2 g3 (upd (upd h4 q (nI k)) q v) g5 g6 := fun v => (by rw [upd2]; exact hq4 v)
        refine ws_callV0 55 C dX4_bestShare_55 vX4_123 (c_X3_hangAtRight (μ := muRight (sM S) q (nI k)) hT hRk hq) rfl hT rfl rfl ⟨by decide, by decide⟩ ⟨Nat.zero_le _, Nat.zero_le _⟩ rfl rfl rfl (kR ?_)
        refine ws_istore 58 C dX4_bestShare_58 rfl [some (.ref (ad κ 0)), some (.int (nI q)), some (.int (nI ((arg1 (fun r => lbd (muRight (sM S) q (nI r))) k).1))), some (.int ((arg1 (fun r => lbd (muRight (sM S) q (nI r))) k).2)), some (.int (hb)), some (.int (nI k)), some (.int (hg (muRight (sM S) q (nI k)) 3 q)), none] rfl ?_
        refine ws_iload 60 C dX4_bestShare_60 rfl ?_
        refine ws_iload 62 C dX4_bestShare_62 rfl ?_
        refine ws_icmp_ne 64 C 70 dX4_bestShare_64 (by decide)  (fun c64 => ?_) (fun c64 => ?_)
        · skip
          refine ws_iload 70 C dX4_bestShare_70 rfl ?_
          refine ws_istore 72 C dX4_bestShare_72 rfl [some (.ref (ad κ 0)), some (.int (nI q)), some (.int (nI ((arg1 (fun r => lbd (muRight (sM S) q (nI r))) k).1))), some (.int ((arg1 (fun r => lbd (muRight (sM S) q (nI r))) k).2)), some (.int (hg (muRight (sM S) q (nI k)) 3 q)), some (.int (nI k)), some (.int (hg (muRight (sM S) q (nI k)) 3 q)), none] rfl ?_
          refine ws_aload_n 74 C dX4_bestShare_74 rfl ?_
          refine ws_aload_n 75 C dX4_bestShare_75 rfl ?_
          refine ws_get 76 C dX4_bestShare_76 fX4_16 hO rfl rfl ?_
          refine ws_callV0 79 C dX4_bestShare_79 vX4_183 (c_X4_leastBadnessOf (μ := muRight (sM S) q (nI k)) hO ⟨_, _, _, _, _, _, hT, hRk⟩ hLb) rfl hO rfl rfl ⟨by decide, by decide⟩ ⟨Nat.zero_le _, Nat.zero_le _⟩ rfl rfl rfl (kI' (fun r79 u79 h79 => ?_))
          obtain ⟨⟨hr, hLb⟩, hfr⟩ := h79
          have hr : r79 = lbd (muRight (sM S) q (nI k)) := hr
          have hS1 := hS1.fr hfr (fun q (g1 : 1 ≤ q) (g2 : q < 8) => (show ¬ (22 ≤ q ∧ q < 29) from by omega))
          have hLg := hLg.fr hfr (fun q (g1 : 15 ≤ q) (g2 : q < 22) => (show ¬ (22 ≤ q ∧ q < 29) from by omega))
          have hPd := hPd.fr hfr (fun q (g1 : 29 ≤ q) (g2 : q < 31) => (show ¬ (22 ≤ q ∧ q < 29) from by omega))
          have hHs := hHs.fr hfr (fun q (g1 : 31 ≤ q) (g2 : q < 75) => (show ¬ (22 ≤ q ∧ q < 29) from by omega))
          have hSl := hSl.fr hfr (fun q (g1 : 75 ≤ q) (g2 : q < 91) => (show ¬ (22 ≤ q ∧ q < 29) from by omega))
          have hO := hfr.ob hO (fun q (g1 : 0 ≤ q) (g2 : q < 0 + 1) => (show ¬ (22 ≤ q ∧ q < 29) from by omega))
          have hB := hfr.ob hB (fun q (g1 : 1 ≤ q) (g2 : q < 1 + 7) => (show ¬ (22 ≤ q ∧ q < 29) from by omega))
          have hT := hfr.ob hT (fun q (g1 : 8 ≤ q) (g2 : q < 8 + 7) => (show ¬ (22 ≤ q ∧ q < 29) from by omega))
          have hF := hF.then hfr (fun q (hq : 22 ≤ q ∧ q < 29) => (show q < 91 from by omega))
          refine ws_istore 82 C dX4_bestShare_82 rfl [some (.ref (ad κ 0)), some (.int (nI q)), some (.int (nI ((arg1 (fun r => lbd (muRight (sM S) q (nI r))) k).1))), some (.int ((arg1 (fun r => lbd (muRight (sM S) q (nI r))) k).2)), some (.int (hg (muRight (sM S) q (nI k)) 3 q)), some (.int (nI k)), some (.int (hg (muRight (sM S) q (nI k)) 3 q)), some (.int (r79))] rfl ?_
          refine ws_iload 84 C dX4_bestShare_84 rfl ?_
          refine ws_nif_eq 86 C 95 dX4_bestShare_86 (by decide) (by omega) (fun c86 => ?_) (fun c86 => ?_)
          · skip
            have hy := arg1_y (f := (fun r => lbd (muRight (sM S) q (nI r)))) (k := k) (Or.inl c86)
            refine ws_iload 95 C dX4_bestShare_95 rfl ?_
            refine ws_istore_n 97 C dX4_bestShare_97 rfl [some (.ref (ad κ 0)), some (.int (nI q)), some (.int (nI k)), some (.int ((arg1 (fun r => lbd (muRight (sM S) q (nI r))) k).2)), some (.int (hg (muRight (sM S) q (nI k)) 3 q)), some (.int (nI k)), some (.int (hg (muRight (sM S) q (nI k)) 3 q)), some (.int (r79))] rfl ?_
            refine ws_wk (lv2 := [some (.ref (ad κ 0)), some (.int (nI q)), some (.int (nI ((arg1 (fun r => lbd (muRight (sM S) q (nI r))) (k + 1)).1))), some (.int ((arg1 (fun r => lbd (muRight (sM S) q (nI r))) k).2)), some (.int (hg (muRight (sM S) q (nI k)) 3 q)), some (.int (nI k)), some (.int (hg (muRight (sM S) q (nI k)) 3 q)), some (.int (r79))]) ⟨rfl, rfl, (congrArg (fun t : Nat × Int32 => Value.int (nI t.1)) hy), rfl, rfl, rfl, rfl, rfl, trivial⟩ ?_
            refine ws_iload 98 C dX4_bestShare_98 rfl ?_
            refine ws_istore_n 100 C dX4_bestShare_100 rfl [some (.ref (ad κ 0)), some (.int (nI q)), some (.int (nI ((arg1 (fun r => lbd (muRight (sM S) q (nI r))) (k + 1)).1))), some (.int (r79)), some (.int (hg (muRight (sM S) q (nI k)) 3 q)), some (.int (nI k)), some (.int (hg (muRight (sM S) q (nI k)) 3 q)), some (.int (r79))] rfl ?_
            refine ws_wk (lv2 := [some (.ref (ad κ 0)), some (.int (nI q)), some (.int (nI ((arg1 (fun r => lbd (muRight (sM S) q (nI r))) (k + 1)).1))), some (.int ((arg1 (fun r => lbd (muRight (sM S) q (nI r))) (k + 1)).2)), some (.int (hg (muRight (sM S) q (nI k)) 3 q)), some (.int (nI k)), some (.int (hg (muRight (sM S) q (nI k)) 3 q)), some (.int (r79))]) ⟨rfl, rfl, rfl, ((congrArg (fun t : Nat × Int32 => Value.int t.2) hy).trans (congrArg Value.int hr.symm)), rfl, rfl, rfl, rfl, trivial⟩ ?_
            refine ws_iinc 101 C dX4_bestShare_101 rfl (nI (k + 1)) (nI_1 _) rfl [some (.ref (ad κ 0)), some (.int (nI q)), some (.int (nI ((arg1 (fun r => lbd (muRight (sM S) q (nI r))) (k + 1)).1))), some (.int ((arg1 (fun r => lbd (muRight (sM S) q (nI r))) (k + 1)).2)), some (.int (hg (muRight (sM S) q (nI k)) 3 q)), some (.int (nI (k + 1))), some (.int (hg (muRight (sM S) q (nI k)) 3 q)), some (.int (r79))] rfl ?_
            refine ws_goto 104 C 32 dX4_bestShare_104 (by decide) ?_
            refine ws_wk (lv2 := [some (.ref (ad κ 0)), some (.int (nI q)), some (.int (nI ((arg1 (fun r => lbd (muRight (sM S) q (nI r))) (k + 1)).1))), some (.int ((arg1 (fun r => lbd (muRight (sM S) q (nI r))) (k + 1)).2)), some (.int (hg (muRight (sM S) q (nI k)) 3 q)), some (.int (nI (k + 1))), none, none]) ⟨rfl, rfl, rfl, rfl, rfl, rfl, trivial⟩ ?_
            exact ih32 (by omega) (upd h4 q (nI k)) (hg (muRight (sM S) q (nI k)) 3 q) hq5 (Or.inr ⟨Nat.succ_pos k, rfl⟩) u79 hO hB hT hS1 hLg hLb hPd hHs hSl hF
          · skip
            refine ws_iload 89 C dX4_bestShare_89 rfl ?_
            refine ws_iload_n 91 C dX4_bestShare_91 rfl ?_
            refine ws_icmp_ge 92 C 101 dX4_bestShare_92 (by decide)  (fun c92 => ?_) (fun c92 => ?_)
            · skip
              have hn := arg1_n (f := (fun r => lbd (muRight (sM S) q (nI r)))) (k := k) (fun z => by rcases z with z | z; exact c86 z; exact Int32.not_lt.mpr c92 (by rw [hr]; exact z))
              refine ws_wk (lv2 := [some (.ref (ad κ 0)), some (.int (nI q)), some (.int (nI ((arg1 (fun r => lbd (muRight (sM S) q (nI r))) (k + 1)).1))), some (.int ((arg1 (fun r => lbd (muRight (sM S) q (nI r))) (k + 1)).2)), some (.int (hg (muRight (sM S) q (nI k)) 3 q)), some (.int (nI k)), some (.int (hg (muRight (sM S) q (nI k)) 3 q)), some (.int (r79))]) ⟨rfl, rfl, (congrArg (fun t : Nat × Int32 => Value.int (nI t.1)) hn), (congrArg (fun t : Nat × Int32 => Value.int t.2) hn), rfl, rfl, rfl, rfl, trivial⟩ ?_
              refine ws_iinc 101 C dX4_bestShare_101 rfl (nI (k + 1)) (nI_1 _) rfl [some (.ref (ad κ 0)), some (.int (nI q)), some (.int (nI ((arg1 (fun r => lbd (muRight (sM S) q (nI r))) (k + 1)).1))), some (.int ((arg1 (fun r => lbd (muRight (sM S) q (nI r))) (k + 1)).2)), some (.int (hg (muRight (sM S) q (nI k)) 3 q)), some (.int (nI (k + 1))), some (.int (hg (muRight (sM S) q (nI k)) 3 q)), some (.int (r79))] rfl ?_
              refine ws_goto 104 C 32 dX4_bestShare_104 (by decide) ?_
              refine ws_wk (lv2 := [some (.ref (ad κ 0)), some (.int (nI q)), some (.int (nI ((arg1 (fun r => lbd (muRight (sM S) q (nI r))) (k + 1)).1))), some (.int ((arg1 (fun r => lbd (muRight (sM S) q (nI r))) (k + 1)).2)), some (.int (hg (muRight (sM S) q (nI k)) 3 q)), some (.int (nI (k + 1))), none, none]) ⟨rfl, rfl, rfl, rfl, rfl, rfl, trivial⟩ ?_
              exact ih32 (by omega) (upd h4 q (nI k)) (hg (muRight (sM S) q (nI k)) 3 q) hq5 (Or.inr ⟨Nat.succ_pos k, rfl⟩) u79 hO hB hT hS1 hLg hLb hPd hHs hSl hF
            · skip
              have hy := arg1_y (f := (fun r => lbd (muRight (sM S) q (nI r)))) (k := k) (Or.inr (by show lbd _ < _; rw [← hr]; exact Int32.not_le.mp c92))
              refine ws_iload 95 C dX4_bestShare_95 rfl ?_
              refine ws_istore_n 97 C dX4_bestShare_97 rfl [some (.ref (ad κ 0)), some (.int (nI q)), some (.int (nI k)), some (.int ((arg1 (fun r => lbd (muRight (sM S) q (nI r))) k).2)), some (.int (hg (muRight (sM S) q (nI k)) 3 q)), some (.int (nI k)), some (.int (hg (muRight (sM S) q (nI k)) 3 q)), some (.int (r79))] rfl ?_
              refine ws_wk (lv2 := [some (.ref (ad κ 0)), some (.int (nI q)), some (.int (nI ((arg1 (fun r => lbd (muRight (sM S) q (nI r))) (k + 1)).1))), some (.int ((arg1 (fun r => lbd (muRight (sM S) q (nI r))) k).2)), some (.int (hg (muRight (sM S) q (nI k)) 3 q)), some (.int (nI k)), some (.int (hg (muRight (sM S) q (nI k)) 3 q)), some (.int (r79))]) ⟨rfl, rfl, (congrArg (fun t : Nat × Int32 => Value.int (nI t.1)) hy), rfl, rfl, rfl, rfl, rfl, trivial⟩ ?_
              refine ws_iload 98 C dX4_bestShare_98 rfl ?_
              refine ws_istore_n 100 C dX4_bestShare_100 rfl [some (.ref (ad κ 0)), some (.int (nI q)), some (.int (nI ((arg1 (fun r => lbd (muRight (sM S) q (nI r))) (k + 1)).1))), some (.int (r79)), some (.int (hg (muRight (sM S) q (nI k)) 3 q)), some (.int (nI k)), some (.int (hg (muRight (sM S) q (nI k)) 3 q)), some (.int (r79))] rfl ?_
              refine ws_wk (lv2 := [some (.ref (ad κ 0)), some (.int (nI q)), some (.int (nI ((arg1 (fun r => lbd (muRight (sM S) q (nI r))) (k + 1)).1))), some (.int ((arg1 (fun r => lbd (muRight (sM S) q (nI r))) (k + 1)).2)), some (.int (hg (muRight (sM S) q (nI k)) 3 q)), some (.int (nI k)), some (.int (hg (muRight (sM S) q (nI k)) 3 q)), some (.int (r79))]) ⟨rfl, rfl, rfl, ((congrArg (fun t : Nat × Int32 => Value.int t.2) hy).trans (congrArg Value.int hr.symm)), rfl, rfl, rfl, rfl, trivial⟩ ?_
              refine ws_iinc 101 C dX4_bestShare_101 rfl (nI (k + 1)) (nI_1 _) rfl [some (.ref (ad κ 0)), some (.int (nI q)), some (.int (nI ((arg1 (fun r => lbd (muRight (sM S) q (nI r))) (k + 1)).1))), some (.int ((arg1 (fun r => lbd (muRight (sM S) q (nI r))) (k + 1)).2)), some (.int (hg (muRight (sM S) q (nI k)) 3 q)), some (.int (nI (k + 1))), some (.int (hg (muRight (sM S) q (nI k)) 3 q)), some (.int (r79))] rfl ?_
              refine ws_goto 104 C 32 dX4_bestShare_104 (by decide) ?_
              refine ws_wk (lv2 := [some (.ref (ad κ 0)), some (.int (nI q)), some (.int (nI ((arg1 (fun r => lbd (muRight (sM S) q (nI r))) (k + 1)).1))), some (.int ((arg1 (fun r => lbd (muRight (sM S) q (nI r))) (k + 1)).2)), some (.int (hg (muRight (sM S) q (nI k)) 3 q)), some (.int (nI (k + 1))), none, none]) ⟨rfl, rfl, rfl, rfl, rfl, rfl, trivial⟩ ?_
              exact ih32 (by omega) (upd h4 q (nI k)) (hg (muRight (sM S) q (nI k)) 3 q) hq5 (Or.inr ⟨Nat.succ_pos k, rfl⟩) u79 hO hB hT hS1 hLg hLb hPd hHs hSl hF
        · skip
          have hskip := best_skip (S := S) hhb c64
          have hhb2 : (k + 1 = 0 ∧ hb = -1) ∨ (0 < k + 1 ∧ hb = hg (muRight (sM S) q (nI (k + 1 - 1))) 3 q) := Or.inr ⟨by omega, c64.symm⟩
          refine ws_wk (lv2 := [some (.ref (ad κ 0)), some (.int (nI q)), some (.int (nI ((arg1 (fun r => lbd (muRight (sM S) q (nI r))) (k + 1)).1))), some (.int ((arg1 (fun r => lbd (muRight (sM S) q (nI r))) (k + 1)).2)), some (.int (hb)), some (.int (nI k)), some (.int (hg (muRight (sM S) q (nI k)) 3 q)), none]) ⟨rfl, rfl, (congrArg (fun t : Nat × Int32 => Value.int (nI t.1)) hskip), (congrArg (fun t : Nat × Int32 => Value.int t.2) hskip), rfl, rfl, rfl, trivial⟩ ?_
          refine ws_goto 67 C 101 dX4_bestShare_67 (by decide) ?_
          refine ws_iinc 101 C dX4_bestShare_101 rfl (nI (k + 1)) (nI_1 _) rfl [some (.ref (ad κ 0)), some (.int (nI q)), some (.int (nI ((arg1 (fun r => lbd (muRight (sM S) q (nI r))) (k + 1)).1))), some (.int ((arg1 (fun r => lbd (muRight (sM S) q (nI r))) (k + 1)).2)), some (.int (hb)), some (.int (nI (k + 1))), some (.int (hg (muRight (sM S) q (nI k)) 3 q)), none] rfl ?_
          refine ws_goto 104 C 32 dX4_bestShare_104 (by decide) ?_
          refine ws_wk (lv2 := [some (.ref (ad κ 0)), some (.int (nI q)), some (.int (nI ((arg1 (fun r => lbd (muRight (sM S) q (nI r))) (k + 1)).1))), some (.int ((arg1 (fun r => lbd (muRight (sM S) q (nI r))) (k + 1)).2)), some (.int (hb)), some (.int (nI (k + 1))), none, none]) ⟨rfl, rfl, rfl, rfl, rfl, rfl, trivial⟩ ?_
          exact ih32 (by omega) (upd h4 q (nI k)) hb hq5 hhb2 st2 hO hB hT hS1 hLg hLb hPd hHs hSl hF
    exact L32 0 (Nat.zero_le _) g4 (-1) (fun v => Rp_right hRT) (Or.inl ⟨rfl, rfl⟩) u19 hO hB hT hS1 hLg hLb hPd hHs hSl hF
  · skip
    have hf := fBest_n (S := S) (bix_0 c4)
    refine ws_sipush 7 C dX4_bestShare_7 ((-1001)) (by decide) ?_
    exact ws_iret 10 C  dX4_bestShare_10 rfl (Nat.le_refl _) (Nat.le_refl _) (by rw [hP]; exact PX_ret (congrArg (fun t => (t, S)) hf) ⟨hO, hS1, hS8, hLg, hLb, hPd, hHs, hSl⟩ hF)

set_option maxRecDepth 100000 in
set_option maxHeartbeats 4000000 in
theorem c_X4_worstWord {S : Sg} (hX : XI κ z st0 S) : CT zl κ yX4_worstWord cX4_worstWord 5 (some .int) (r0 6 132) z [.ref (ad κ 0)] st0 (PX κ z st0 (fWorst S, S)) := by
  obtain ⟨P, hP⟩ : ∃ P : Option Value → St → Prop, P = (PX κ z st0 (fWorst S, S)) := ⟨_, rfl⟩
  rw [← hP]
  refine CT.of (by decide +kernel) (Nat.le_of_ble_eq_true rfl) (fun zp ze zs zm zar zbe zme zc C _ => ?_)
  have C : Cx zp zs zm zar zme zc κ cX4_worstWord 5 RX4 (some .int) := C
  refine ws_lv (lv2 := [some (.ref (ad κ 0)), none, none, none, none]) rfl ?_
  obtain ⟨hO, hS1, hS8, hLg, hLb, hPd, hHs, hSl⟩ := hX
  have hF : Fr (fun q : Nat => q < 91) st0 st0 := Fr.rf
  obtain ⟨f1, f2, f3, f4, f5, f6, hB, hR⟩ := id hS1
  have h24 := hR.le
  refine ws_sipush 0 C dX4_worstWord_0 ((-1006)) (by decide) ?_
  refine ws_istore_n 3 C dX4_worstWord_3 rfl [some (.ref (ad κ 0)), some (.int ((-1006))), none, none, none] rfl ?_
  refine ws_iconst 4 C dX4_worstWord_4 (nI 0) (by decide) ?_
  refine ws_istore_n 5 C dX4_worstWord_5 rfl [some (.ref (ad κ 0)), some (.int ((-1006))), some (.int (nI 0)), none, none] rfl ?_
  refine ws_iconst 6 C dX4_worstWord_6 (nI 0) (by decide) ?_
  refine ws_istore_n 7 C dX4_worstWord_7 rfl [some (.ref (ad κ 0)), some (.int ((-1006))), some (.int (nI 0)), some (.int (nI 0)), none] rfl ?_
  have L8 : ∀ k : Nat, k ≤ mn (sM S) → ∀ (y : Int32), ∀ (hy : y = if k = 0 then -1006 else nI (arg1 (fun w => lbd (muDrop (sM S) w)) k).1), ∀ (st1 : St), ∀ (hO : Ob z st1 0 (bXo κ)), ∀ (hB : Ob z st1 1 (bSh κ 1 f1 f2 f3 f4 f5 f6 (nI (mn (sM S))))), ∀ (hS1 : ShP κ z st1 1 (sM S)), ∀ (hS8 : ShA κ z st1 8), ∀ (hLg : LyA κ z st1 15), ∀ (hLb : LyA κ z st1 22), ∀ (hPd : PdA κ z st1 (sPt S) (sPn S)), ∀ (hHs : HsP κ z st1 (sH S) (sHn S)), ∀ (hSl : SlP κ z st1 (sSl S) (sFd S)), ∀ (hF : Fr (fun q : Nat => q < 91) st0 st1), WS zp zl ze (r0 6 132) zs zm zar zbe zme zc κ z 0 0 (QM zbe zar zs κ z (r0 6 132) P) st1 8 [some (.ref (ad κ 0)), some (.int (y)), some (.int ((arg1 (fun w => lbd (muDrop (sM S) w)) k).2)), some (.int (nI k)), none] [] := by
    refine dnw ?_
    intro k hk ih8 y hy st1 hO hB hS1 hS8 hLg hLb hPd hHs hSl hF
    refine ws_iload_n 8 C dX4_worstWord_8 rfl ?_
    refine ws_aload_n 9 C dX4_worstWord_9 rfl ?_
    refine ws_get 10 C dX4_worstWord_10 fX4_10 hO rfl rfl ?_
    refine ws_get 13 C dX4_worstWord_13 fX4_85 hB rfl rfl ?_
    refine ws_nicmp_ge 16 C 72 dX4_worstWord_16 (by decide) (by omega) (by omega) (fun c16 => ?_) (fun c16 => ?_)
    · skip
      have hf : fWorst S = y := by rw [hy, show k = mn (sM S) from by omega]; rfl
      refine ws_iload_n 72 C dX4_worstWord_72 rfl ?_
      exact ws_iret 73 C  dX4_worstWord_73 rfl (Nat.le_refl _) (Nat.le_refl _) (by rw [hP]; exact PX_ret (congrArg (fun t => (t, S)) hf) ⟨hO, hS1, hS8, hLg, hLb, hPd, hHs, hSl⟩ hF)
    · skip
      refine ws_aload_n 19 C dX4_worstWord_19 rfl ?_
      obtain ⟨ν, t1, t2, t3, t4, t5, t6, hT, hRT⟩ := hS8
      refine ws_get 20 C dX4_worstWord_20 fX4_16 hO rfl rfl ?_
      refine ws_aload_n 23 C dX4_worstWord_23 rfl ?_
      refine ws_get 24 C dX4_worstWord_24 fX4_10 hO rfl rfl ?_
      refine ws_callV0 27 C dX4_worstWord_27 vX4_180 (c_X3_copyFrom ⟨_, _, _, _, _, _, hT, hRT⟩ hB hR (by omega)) rfl hT rfl rfl ⟨by decide, by decide⟩ ⟨Nat.zero_le _, Nat.zero_le _⟩ rfl rfl rfl (kV (fun u27 h27 => ?_))
      obtain ⟨hS8, hfr⟩ := h27
      obtain ⟨g1, g2, g3, g4, g5, g6, hT, hRT⟩ := id hS8
      have hS1 := hS1.fr hfr (fun q (g1 : 1 ≤ q) (g2 : q < 8) => (show ¬ (8 ≤ q ∧ q < 8 + 7) from by omega))
      have hLg := hLg.fr hfr (fun q (g1 : 15 ≤ q) (g2 : q < 22) => (show ¬ (8 ≤ q ∧ q < 8 + 7) from by omega))
      have hLb := hLb.fr hfr (fun q (g1 : 22 ≤ q) (g2 : q < 29) => (show ¬ (8 ≤ q ∧ q < 8 + 7) from by omega))
      have hPd := hPd.fr hfr (fun q (g1 : 29 ≤ q) (g2 : q < 31) => (show ¬ (8 ≤ q ∧ q < 8 + 7) from by omega))
      have hHs := hHs.fr hfr (fun q (g1 : 31 ≤ q) (g2 : q < 75) => (show ¬ (8 ≤ q ∧ q < 8 + 7) from by omega))
      have hSl := hSl.fr hfr (fun q (g1 : 75 ≤ q) (g2 : q < 91) => (show ¬ (8 ≤ q ∧ q < 8 + 7) from by omega))
      have hO := hfr.ob hO (fun q (g1 : 0 ≤ q) (g2 : q < 0 + 1) => (show ¬ (8 ≤ q ∧ q < 8 + 7) from by omega))
      have hB := hfr.ob hB (fun q (g1 : 1 ≤ q) (g2 : q < 1 + 7) => (show ¬ (8 ≤ q ∧ q < 8 + 7) from by omega))
      have hF := hF.then hfr (fun q (hq : 8 ≤ q ∧ q < 8 + 7) => (show q < 91 from by omega))
      refine ws_aload_n 30 C dX4_worstWord_30 rfl ?_
      refine ws_get 31 C dX4_worstWord_31 fX4_16 hO rfl rfl ?_
      refine ws_iload_n 34 C dX4_worstWord_34 rfl ?_
      refine ws_callV0 35 C dX4_worstWord_35 vX4_105 (c_X3_takeOut hS8 c16) rfl hT rfl rfl ⟨by decide, by decide⟩ ⟨Nat.zero_le _, Nat.zero_le _⟩ rfl rfl rfl (kV (fun u35 h35 => ?_))
      obtain ⟨hS8, hfr⟩ := h35
      obtain ⟨g1, g2, g3, g4, g5, g6, hT, hRT⟩ := id hS8
      have hS1 := hS1.fr hfr (fun q (g1 : 1 ≤ q) (g2 : q < 8) => (show ¬ (8 ≤ q ∧ q < 8 + 7) from by omega))
      have hLg := hLg.fr hfr (fun q (g1 : 15 ≤ q) (g2 : q < 22) => (show ¬ (8 ≤ q ∧ q < 8 + 7) from by omega))
      have hLb := hLb.fr hfr (fun q (g1 : 22 ≤ q) (g2 : q < 29) => (show ¬ (8 ≤ q ∧ q < 8 + 7) from by omega))
      have hPd := hPd.fr hfr (fun q (g1 : 29 ≤ q) (g2 : q < 31) => (show ¬ (8 ≤ q ∧ q < 8 + 7) from by omega))
      have hHs := hHs.fr hfr (fun q (g1 : 31 ≤ q) (g2 : q < 75) => (show ¬ (8 ≤ q ∧ q < 8 + 7) from by omega))
      have hSl := hSl.fr hfr (fun q (g1 : 75 ≤ q) (g2 : q < 91) => (show ¬ (8 ≤ q ∧ q < 8 + 7) from by omega))
      have hO := hfr.ob hO (fun q (g1 : 0 ≤ q) (g2 : q < 0 + 1) => (show ¬ (8 ≤ q ∧ q < 8 + 7) from by omega))
      have hB := hfr.ob hB (fun q (g1 : 1 ≤ q) (g2 : q < 1 + 7) => (show ¬ (8 ≤ q ∧ q < 8 + 7) from by omega))
      have hF := hF.then hfr (fun q (hq : 8 ≤ q ∧ q < 8 + 7) => (show q < 91 from by omega))
      refine ws_aload_n 38 C dX4_worstWord_38 rfl ?_
      refine ws_aload_n 39 C dX4_worstWord_39 rfl ?_
      refine ws_get 40 C dX4_worstWord_40 fX4_16 hO rfl rfl ?_
      refine ws_callV0 43 C dX4_worstWord_43 vX4_183 (c_X4_leastBadnessOf hO hS8 hLb) rfl hO rfl rfl ⟨by decide, by decide⟩ ⟨Nat.zero_le _, Nat.zero_le _⟩ rfl rfl rfl (kI' (fun r43 u43 h43 => ?_))
      obtain ⟨⟨hr, hLb⟩, hfr⟩ := h43
      have hr : r43 = lbd (muDrop (sM S) k) := hr
      have hS1 := hS1.fr hfr (fun q (g1 : 1 ≤ q) (g2 : q < 8) => (show ¬ (22 ≤ q ∧ q < 29) from by omega))
      have hS8 := hS8.fr hfr (fun q (g1 : 8 ≤ q) (g2 : q < 15) => (show ¬ (22 ≤ q ∧ q < 29) from by omega))
      have hLg := hLg.fr hfr (fun q (g1 : 15 ≤ q) (g2 : q < 22) => (show ¬ (22 ≤ q ∧ q < 29) from by omega))
      have hPd := hPd.fr hfr (fun q (g1 : 29 ≤ q) (g2 : q < 31) => (show ¬ (22 ≤ q ∧ q < 29) from by omega))
      have hHs := hHs.fr hfr (fun q (g1 : 31 ≤ q) (g2 : q < 75) => (show ¬ (22 ≤ q ∧ q < 29) from by omega))
      have hSl := hSl.fr hfr (fun q (g1 : 75 ≤ q) (g2 : q < 91) => (show ¬ (22 ≤ q ∧ q < 29) from by omega))
      have hO := hfr.ob hO (fun q (g1 : 0 ≤ q) (g2 : q < 0 + 1) => (show ¬ (22 ≤ q ∧ q < 29) from by omega))
      have hB := hfr.ob hB (fun q (g1 : 1 ≤ q) (g2 : q < 1 + 7) => (show ¬ (22 ≤ q ∧ q < 29) from by omega))
      have hT := hfr.ob hT (fun q (g1 : 8 ≤ q) (g2 : q < 8 + 7) => (show ¬ (22 ≤ q ∧ q < 29) from by omega))
      have hF := hF.then hfr (fun q (hq : 22 ≤ q ∧ q < 29) => (show q < 91 from by omega))
      refine ws_istore 46 C dX4_worstWord_46 rfl [some (.ref (ad κ 0)), some (.int (y)), some (.int ((arg1 (fun w => lbd (muDrop (sM S) w)) k).2)), some (.int (nI k)), some (.int (r43))] rfl ?_
      refine ws_iload_n 48 C dX4_worstWord_48 rfl ?_
      refine ws_sipush 49 C dX4_worstWord_49 ((-1006)) (by decide) ?_
      refine ws_icmp_eq 52 C 61 dX4_worstWord_52 (by decide)  (fun c52 => ?_) (fun c52 => ?_)
      · skip
        have hyy := arg1_y (f := (fun w => lbd (muDrop (sM S) w))) (k := k) (Or.inl (worst_0 hy h24 hk c52))
        have hS8 : ShA κ z u43 8 := ⟨_, hS8⟩
        refine ws_iload_n 61 C dX4_worstWord_61 rfl ?_
        refine ws_istore_n 62 C dX4_worstWord_62 rfl [some (.ref (ad κ 0)), some (.int (nI k)), some (.int ((arg1 (fun w => lbd (muDrop (sM S) w)) k).2)), some (.int (nI k)), some (.int (r43))] rfl ?_
        refine ws_iload 63 C dX4_worstWord_63 rfl ?_
        refine ws_istore_n 65 C dX4_worstWord_65 rfl [some (.ref (ad κ 0)), some (.int (nI k)), some (.int (r43)), some (.int (nI k)), some (.int (r43))] rfl ?_
        refine ws_wk (lv2 := [some (.ref (ad κ 0)), some (.int (nI k)), some (.int ((arg1 (fun w => lbd (muDrop (sM S) w)) (k + 1)).2)), some (.int (nI k)), some (.int (r43))]) ⟨rfl, rfl, ((congrArg (fun t : Nat × Int32 => Value.int t.2) hyy).trans (congrArg Value.int hr.symm)), rfl, rfl, trivial⟩ ?_
        refine ws_iinc 66 C dX4_worstWord_66 rfl (nI (k + 1)) (nI_1 _) rfl [some (.ref (ad κ 0)), some (.int (nI k)), some (.int ((arg1 (fun w => lbd (muDrop (sM S) w)) (k + 1)).2)), some (.int (nI (k + 1))), some (.int (r43))] rfl ?_
        refine ws_goto 69 C 8 dX4_worstWord_69 (by decide) ?_
        refine ws_wk (lv2 := [some (.ref (ad κ 0)), some (.int (nI k)), some (.int ((arg1 (fun w => lbd (muDrop (sM S) w)) (k + 1)).2)), some (.int (nI (k + 1))), none]) ⟨rfl, rfl, rfl, rfl, trivial⟩ ?_
        exact ih8 c16 (nI k) ((congrArg (fun t : Nat × Int32 => nI t.1) hyy).symm.trans (if_neg (Nat.succ_ne_zero k)).symm) u43 hO hB hS1 hS8 hLg hLb hPd hHs hSl hF
      · skip
        have hk0 := worst_n hy c52
        refine ws_iload 55 C dX4_worstWord_55 rfl ?_
        refine ws_iload_n 57 C dX4_worstWord_57 rfl ?_
        refine ws_icmp_ge 58 C 66 dX4_worstWord_58 (by decide)  (fun c58 => ?_) (fun c58 => ?_)
        · skip
          have hn := arg1_n (f := (fun w => lbd (muDrop (sM S) w))) (k := k) (fun z => by rcases z with z | z; exact hk0 z; exact Int32.not_lt.mpr c58 (by rw [hr]; exact z))
          have hS8 : ShA κ z u43 8 := ⟨_, hS8⟩
          refine ws_wk (lv2 := [some (.ref (ad κ 0)), some (.int (y)), some (.int ((arg1 (fun w => lbd (muDrop (sM S) w)) (k + 1)).2)), some (.int (nI k)), some (.int (r43))]) ⟨rfl, rfl, (congrArg (fun t : Nat × Int32 => Value.int t.2) hn), rfl, rfl, trivial⟩ ?_
          refine ws_iinc 66 C dX4_worstWord_66 rfl (nI (k + 1)) (nI_1 _) rfl [some (.ref (ad κ 0)), some (.int (y)), some (.int ((arg1 (fun w => lbd (muDrop (sM S) w)) (k + 1)).2)), some (.int (nI (k + 1))), some (.int (r43))] rfl ?_
          refine ws_goto 69 C 8 dX4_worstWord_69 (by decide) ?_
          refine ws_wk (lv2 := [some (.ref (ad κ 0)), some (.int (y)), some (.int ((arg1 (fun w => lbd (muDrop (sM S) w)) (k + 1)).2)), some (.int (nI (k + 1))), none]) ⟨rfl, rfl, rfl, rfl, trivial⟩ ?_
          exact ih8 c16 y (hy.trans ((if_neg hk0).trans ((congrArg (fun t : Nat × Int32 => nI t.1) hn).symm.trans (if_neg (Nat.succ_ne_zero k)).symm))) u43 hO hB hS1 hS8 hLg hLb hPd hHs hSl hF
        · skip
          have hyy := arg1_y (f := (fun w => lbd (muDrop (sM S) w))) (k := k) (Or.inr (by show lbd _ < _; rw [← hr]; exact Int32.not_le.mp c58))
          have hS8 : ShA κ z u43 8 := ⟨_, hS8⟩
          refine ws_iload_n 61 C dX4_worstWord_61 rfl ?_
          refine ws_istore_n 62 C dX4_worstWord_62 rfl [some (.ref (ad κ 0)), some (.int (nI k)), some (.int ((arg1 (fun w => lbd (muDrop (sM S) w)) k).2)), some (.int (nI k)), some (.int (r43))] rfl ?_
          refine ws_iload 63 C dX4_worstWord_63 rfl ?_
          refine ws_istore_n 65 C dX4_worstWord_65 rfl [some (.ref (ad κ 0)), some (.int (nI k)), some (.int (r43)), some (.int (nI k)), some (.int (r43))] rfl ?_
          refine ws_wk (lv2 := [some (.ref (ad κ 0)), some (.int (nI k)), some (.int ((arg1 (fun w => lbd (muDrop (sM S) w)) (k + 1)).2)), some (.int (nI k)), some (.int (r43))]) ⟨rfl, rfl, ((congrArg (fun t : Nat × Int32 => Value.int t.2) hyy).trans (congrArg Value.int hr.symm)), rfl, rfl, trivial⟩ ?_
          refine ws_iinc 66 C dX4_worstWord_66 rfl (nI (k + 1)) (nI_1 _) rfl [some (.ref (ad κ 0)), some (.int (nI k)), some (.int ((arg1 (fun w => lbd (muDrop (sM S) w)) (k + 1)).2)), some (.int (nI (k + 1))), some (.int (r43))] rfl ?_
          refine ws_goto 69 C 8 dX4_worstWord_69 (by decide) ?_
          refine ws_wk (lv2 := [some (.ref (ad κ 0)), some (.int (nI k)), some (.int ((arg1 (fun w => lbd (muDrop (sM S) w)) (k + 1)).2)), some (.int (nI (k + 1))), none]) ⟨rfl, rfl, rfl, rfl, trivial⟩ ?_
          exact ih8 c16 (nI k) ((congrArg (fun t : Nat × Int32 => nI t.1) hyy).symm.trans (if_neg (Nat.succ_ne_zero k)).symm) u43 hO hB hS1 hS8 hLg hLb hPd hHs hSl hF
  exact L8 0 (Nat.zero_le _) (-1006) rfl st0 hO hB hS1 hS8 hLg hLb hPd hHs hSl hF
end
