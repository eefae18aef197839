section
variable {zl : Launch} {κ : Kt} {z : Nat} {st0 : St}
set_option maxRecDepth 100000 in
set_option maxHeartbeats 4000000 in
theorem c_X5_ofLines {y0 y2 y3 : Int32} {a : Nat → Int32} {μ : Mu} {nxt : Nat → Nat} {L : Nat} (hM : Ob z st0 91 (bMo κ y0 (nI L) y2 y3)) (hA : Ob z st0 92 (bA κ 293 a)) (hR : Rm μ a) {p l r s : Nat → Int32} (hp : Ob z st0 97 (bA κ 25 p)) (hlf : Ob z st0 98 (bA κ 24 l)) (hrt : Ob z st0 99 (bA κ 24 r)) (hs_ : Ob z st0 100 (bA κ 25 s)) (hW : MeW μ p l r) (hb : LyB nxt (mn μ) L s) {w : Nat} (h1 : ¬ w = 0) (h5 : w < 5) : CT zl κ yX5_ofLines cX5_ofLines 6 (some .int) (r0 5 107) z [.ref (ad κ 91), .int (nI w)] st0 (PRi (oflv μ nxt L w) st0) := by
  obtain ⟨P, hP⟩ : ∃ P : Option Value → St → Prop, P = (PRi (oflv μ nxt L w) st0) := ⟨_, rfl⟩
  rw [← hP]
  refine CT.of (by decide +kernel) (Nat.le_of_ble_eq_true rfl) (fun zp ze zs zm zar zbe zme zc C _ => ?_)
  have C : Cx zp zs zm zar zme zc κ cX5_ofLines 6 RX5 (some .int) := C
  refine ws_lv (lv2 := [some (.ref (ad κ 91)), some (.int (nI w)), none, none, none, none]) rfl ?_
  have h24 := hR.le
  have hLn := hb.L_le
  refine ws_iconst 0 C dX5_ofLines_0 (nI 0) (by decide) ?_
  refine ws_istore_n 1 C dX5_ofLines_1 rfl [some (.ref (ad κ 91)), some (.int (nI w)), some (.int (nI 0)), none, none, none] rfl ?_
  refine ws_sipush 2 C dX5_ofLines_2 ((-1006)) (by decide) ?_
  refine ws_istore_n 5 C dX5_ofLines_5 rfl [some (.ref (ad κ 91)), some (.int (nI w)), some (.int (nI 0)), some (.int ((-1006))), none, none] rfl ?_
  refine ws_iconst 6 C dX5_ofLines_6 (nI 0) (by decide) ?_
  refine ws_istore 7 C dX5_ofLines_7 rfl [some (.ref (ad κ 91)), some (.int (nI w)), some (.int (nI 0)), some (.int ((-1006))), some (.int (nI 0)), none] rfl ?_
  have L9 : ∀ k : Nat, k ≤ L → ∀ (x : Int32), ∀ (g : Int32), ∀ (hx : x = smv μ nxt L w k), ∀ (hg : g = greB μ nxt k), WS zp zl ze (r0 5 107) zs zm zar zbe zme zc κ z 0 0 (QM zbe zar zs κ z (r0 5 107) P) st0 9 [some (.ref (ad κ 91)), some (.int (nI w)), some (.int (x)), some (.int (g)), some (.int (nI k)), none] [] := by
    refine dnw ?_
    intro k hk ih9 x g hx hg
    refine ws_iload 9 C dX5_ofLines_9 rfl ?_
    refine ws_aload_n 11 C dX5_ofLines_11 rfl ?_
    refine ws_get 12 C dX5_ofLines_12 fX5_98 hM rfl rfl ?_
    refine ws_nicmp_ge 15 C 109 dX5_ofLines_15 (by decide) (by omega) (by omega) (fun c15 => ?_) (fun c15 => ?_)
    · skip
      refine ws_iload_n 109 C dX5_ofLines_109 rfl ?_
      refine ws_iconst 110 C dX5_ofLines_110 (nI 4) (by decide) ?_
      refine ws_nicmp_ne 111 C 118 dX5_ofLines_111 (by decide) (by omega) (by omega) (fun c111 => ?_) (fun c111 => ?_)
      · skip
        have hv : x = oflv μ nxt L w := by rw [hx, show k = L from by omega]; exact (if_neg c111).symm
        refine ws_iload_n 118 C dX5_ofLines_118 rfl ?_
        exact ws_iret 119 C  dX5_ofLines_119 rfl (Nat.le_refl _) (Nat.le_refl _) (by rw [hP]; exact ⟨congrArg (fun z => some (Value.int z)) (hv), rfl⟩)
      · skip
        have hv : g = oflv μ nxt L w := by rw [hg, show k = L from by omega]; exact (if_pos c111).symm
        refine ws_iload_n 114 C dX5_ofLines_114 rfl ?_
        refine ws_goto 115 C 119 dX5_ofLines_115 (by decide) ?_
        exact ws_iret 119 C  dX5_ofLines_119 rfl (Nat.le_refl _) (Nat.le_refl _) (by rw [hP]; exact ⟨congrArg (fun z => some (Value.int z)) (hv), rfl⟩)
    · skip
      have hnx := hb.next c15
      have J44 : ∀ (g2 : Int32), ∀ (hgn : g2 = greB μ nxt (k + 1)), WS zp zl ze (r0 5 107) zs zm zar zbe zme zc κ z 0 0 (QM zbe zar zs κ z (r0 5 107) P) st0 44 [some (.ref (ad κ 91)), some (.int (nI w)), some (.int (x)), some (.int (g2)), some (.int (nI k)), none] [] := by
        intro g2 hgn
        refine ws_iload_n 44 C dX5_ofLines_44 rfl ?_
        refine ws_iload_n 45 C dX5_ofLines_45 rfl ?_
        refine ws_iconst 46 C dX5_ofLines_46 (nI 1) (by decide) ?_
        refine ws_nicmp_ne 47 C 70 dX5_ofLines_47 (by decide) (by omega) (by omega) (fun c47 => ?_) (fun c47 => ?_)
        · skip
          refine ws_iload_n 70 C dX5_ofLines_70 rfl ?_
          refine ws_iconst 71 C dX5_ofLines_71 (nI 2) (by decide) ?_
          refine ws_nicmp_ne 72 C 87 dX5_ofLines_72 (by decide) (by omega) (by omega) (fun c72 => ?_) (fun c72 => ?_)
          · skip
            refine ws_aload_n 87 C dX5_ofLines_87 rfl ?_
            refine ws_iload 88 C dX5_ofLines_88 rfl ?_
            refine ws_callV0 90 C dX5_ofLines_90 vX5_120 (c_X5_fits hM hA hR hp hlf hrt hs_ hW hb c15) rfl hM rfl rfl ⟨by decide, by decide⟩ ⟨Nat.zero_le _, Nat.zero_le _⟩ rfl rfl rfl (kR ?_)
            refine ws_if_ne 93 C 100 dX5_ofLines_93 (by decide)  (fun c93 => ?_) (fun c93 => ?_)
            · skip
              have hxn := smv_30 (L := L) hx c47 c72 c93
              refine ws_iconst 100 C dX5_ofLines_100 (nI 0) (by decide) ?_
              refine ws_iadd 101 C dX5_ofLines_101 (x + (nI 0)) rfl ?_
              refine ws_istore_n 102 C dX5_ofLines_102 rfl [some (.ref (ad κ 91)), some (.int (nI w)), some (.int (x + (nI 0))), some (.int (g2)), some (.int (nI k)), none] rfl ?_
              refine ws_iinc 103 C dX5_ofLines_103 rfl (nI (k + 1)) (nI_1 _) rfl [some (.ref (ad κ 91)), some (.int (nI w)), some (.int (x + (nI 0))), some (.int (g2)), some (.int (nI (k + 1))), none] rfl ?_
              refine ws_goto 106 C 9 dX5_ofLines_106 (by decide) ?_
              exact ih9 c15 _ _ hxn hgn
            · skip
              have hxn := smv_31 (L := L) hx c47 c72 c93
              refine ws_iconst 96 C dX5_ofLines_96 (nI 1) (by decide) ?_
              refine ws_goto 97 C 101 dX5_ofLines_97 (by decide) ?_
              refine ws_iadd 101 C dX5_ofLines_101 (x + (nI 1)) rfl ?_
              refine ws_istore_n 102 C dX5_ofLines_102 rfl [some (.ref (ad κ 91)), some (.int (nI w)), some (.int (x + (nI 1))), some (.int (g2)), some (.int (nI k)), none] rfl ?_
              refine ws_iinc 103 C dX5_ofLines_103 rfl (nI (k + 1)) (nI_1 _) rfl [some (.ref (ad κ 91)), some (.int (nI w)), some (.int (x + (nI 1))), some (.int (g2)), some (.int (nI (k + 1))), none] rfl ?_
              refine ws_goto 106 C 9 dX5_ofLines_106 (by decide) ?_
              exact ih9 c15 _ _ hxn hgn
          · skip
            refine ws_aload_n 75 C dX5_ofLines_75 rfl ?_
            refine ws_iload 76 C dX5_ofLines_76 rfl ?_
            refine ws_callV0 78 C dX5_ofLines_78 vX5_162 (c_X5_looksIndented hM hA hR hp hlf hrt hs_ hW hb c15) rfl hM rfl rfl ⟨by decide, by decide⟩ ⟨Nat.zero_le _, Nat.zero_le _⟩ rfl rfl rfl (kR ?_)
            refine ws_nif_eq 81 C 100 dX5_ofLines_81 (by decide) (by have := indN_le μ nxt (mv μ 0 0) (mv μ 0 2) L k; omega) (fun c81 => ?_) (fun c81 => ?_)
            · skip
              have hxn := smv_20 hx c47 c72 c81
              refine ws_iconst 100 C dX5_ofLines_100 (nI 0) (by decide) ?_
              refine ws_iadd 101 C dX5_ofLines_101 (x + (nI 0)) rfl ?_
              refine ws_istore_n 102 C dX5_ofLines_102 rfl [some (.ref (ad κ 91)), some (.int (nI w)), some (.int (x + (nI 0))), some (.int (g2)), some (.int (nI k)), none] rfl ?_
              refine ws_iinc 103 C dX5_ofLines_103 rfl (nI (k + 1)) (nI_1 _) rfl [some (.ref (ad κ 91)), some (.int (nI w)), some (.int (x + (nI 0))), some (.int (g2)), some (.int (nI (k + 1))), none] rfl ?_
              refine ws_goto 106 C 9 dX5_ofLines_106 (by decide) ?_
              exact ih9 c15 _ _ hxn hgn
            · skip
              have hxn := smv_21 hx c47 c72 c81
              refine ws_goto 84 C 96 dX5_ofLines_84 (by decide) ?_
              refine ws_iconst 96 C dX5_ofLines_96 (nI 1) (by decide) ?_
              refine ws_goto 97 C 101 dX5_ofLines_97 (by decide) ?_
              refine ws_iadd 101 C dX5_ofLines_101 (x + (nI 1)) rfl ?_
              refine ws_istore_n 102 C dX5_ofLines_102 rfl [some (.ref (ad κ 91)), some (.int (nI w)), some (.int (x + (nI 1))), some (.int (g2)), some (.int (nI k)), none] rfl ?_
              refine ws_iinc 103 C dX5_ofLines_103 rfl (nI (k + 1)) (nI_1 _) rfl [some (.ref (ad κ 91)), some (.int (nI w)), some (.int (x + (nI 1))), some (.int (g2)), some (.int (nI (k + 1))), none] rfl ?_
              refine ws_goto 106 C 9 dX5_ofLines_106 (by decide) ?_
              exact ih9 c15 _ _ hxn hgn
        · skip
          have hxn := smv_1 (L := L) hx c47
          refine ws_aload_n 50 C dX5_ofLines_50 rfl ?_
          refine ws_aload_n 51 C dX5_ofLines_51 rfl ?_
          refine ws_get 52 C dX5_ofLines_52 fX5_34 hM rfl rfl ?_
          refine ws_iload 55 C dX5_ofLines_55 rfl ?_
          refine ws_iald 57 C dX5_ofLines_57 hs_ 0 rfl (vp_in_nI (by omega) (by decide)) (nI (stt nxt k)) ((congrArg s (nI_clamp (by omega))).trans (hb.at (Nat.le_of_lt c15))) ?_
          refine ws_aload_n 58 C dX5_ofLines_58 rfl ?_
          refine ws_iload 59 C dX5_ofLines_59 rfl ?_
          refine ws_callV0 61 C dX5_ofLines_61 vX5_114 (c_X5_lastOf hM hA hR hp hlf hrt hs_ hW hb c15) rfl hM rfl rfl ⟨by decide, by decide⟩ ⟨Nat.zero_le _, Nat.zero_le _⟩ rfl rfl rfl (kR ?_)
          refine ws_callV0 64 C dX5_ofLines_64 vX5_101 (c_X5_badnessOf hM hA hR hp hlf hrt hW (show stt nxt k ≤ stt nxt (k + 1) - 1 from by omega) (by omega)) rfl hM rfl rfl ⟨by decide, by decide⟩ ⟨Nat.zero_le _, Nat.zero_le _⟩ rfl rfl rfl (kR ?_)
          refine ws_goto 67 C 101 dX5_ofLines_67 (by decide) ?_
          refine ws_iadd 101 C dX5_ofLines_101 (x + (bad (bo μ) (mv μ 0 0) (mn μ) (stt nxt k) (stt nxt (k + 1) - 1))) rfl ?_
          refine ws_istore_n 102 C dX5_ofLines_102 rfl [some (.ref (ad κ 91)), some (.int (nI w)), some (.int (x + (bad (bo μ) (mv μ 0 0) (mn μ) (stt nxt k) (stt nxt (k + 1) - 1)))), some (.int (g2)), some (.int (nI k)), none] rfl ?_
          refine ws_iinc 103 C dX5_ofLines_103 rfl (nI (k + 1)) (nI_1 _) rfl [some (.ref (ad κ 91)), some (.int (nI w)), some (.int (x + (bad (bo μ) (mv μ 0 0) (mn μ) (stt nxt k) (stt nxt (k + 1) - 1)))), some (.int (g2)), some (.int (nI (k + 1))), none] rfl ?_
          refine ws_goto 106 C 9 dX5_ofLines_106 (by decide) ?_
          exact ih9 c15 _ _ hxn hgn
      refine ws_aload_n 18 C dX5_ofLines_18 rfl ?_
      refine ws_iload 19 C dX5_ofLines_19 rfl ?_
      refine ws_callV0 21 C dX5_ofLines_21 vX5_117 (c_X5_bodyOfLine hM hA hR hp hlf hrt hs_ hW hb c15) rfl hM rfl rfl ⟨by decide, by decide⟩ ⟨Nat.zero_le _, Nat.zero_le _⟩ rfl rfl rfl (kR ?_)
      refine ws_istore 24 C dX5_ofLines_24 rfl [some (.ref (ad κ 91)), some (.int (nI w)), some (.int (x)), some (.int (g)), some (.int (nI k)), some (.int (bol μ nxt k))] rfl ?_
      refine ws_iload 26 C dX5_ofLines_26 rfl ?_
      refine ws_nif_eq 28 C 37 dX5_ofLines_28 (by decide) (by omega) (fun c28 => ?_) (fun c28 => ?_)
      · skip
        have hgn := gre_new0 (μ := μ) (nxt := nxt) c28
        refine ws_iload 37 C dX5_ofLines_37 rfl ?_
        refine ws_goto 39 C 43 dX5_ofLines_39 (by decide) ?_
        refine ws_istore_n 43 C dX5_ofLines_43 rfl [some (.ref (ad κ 91)), some (.int (nI w)), some (.int (x)), some (.int (bol μ nxt k)), some (.int (nI k)), some (.int (bol μ nxt k))] rfl ?_
        refine ws_wk (lv2 := [some (.ref (ad κ 91)), some (.int (nI w)), some (.int (x)), some (.int (bol μ nxt k)), some (.int (nI k)), none]) ⟨rfl, rfl, rfl, rfl, rfl, trivial⟩ ?_
        exact J44 _ hgn
      · skip
        refine ws_iload 31 C dX5_ofLines_31 rfl ?_
        refine ws_iload_n 33 C dX5_ofLines_33 rfl ?_
        refine ws_icmp_le 34 C 42 dX5_ofLines_34 (by decide)  (fun c34 => ?_) (fun c34 => ?_)
        · skip
          have hgn : g = greB μ nxt (k + 1) := by rw [greB_s c28, if_neg (by rw [← hg]; exact Int32.not_lt.mpr c34)]; exact hg
          refine ws_iload_n 42 C dX5_ofLines_42 rfl ?_
          refine ws_istore_n 43 C dX5_ofLines_43 rfl [some (.ref (ad κ 91)), some (.int (nI w)), some (.int (x)), some (.int (g)), some (.int (nI k)), some (.int (bol μ nxt k))] rfl ?_
          refine ws_wk (lv2 := [some (.ref (ad κ 91)), some (.int (nI w)), some (.int (x)), some (.int (g)), some (.int (nI k)), none]) ⟨rfl, rfl, rfl, rfl, rfl, trivial⟩ ?_
          exact J44 _ hgn
        · skip
          have hgn : bol μ nxt k = greB μ nxt (k + 1) := by rw [greB_s c28, if_pos (by rw [← hg]; exact Int32.not_le.mp c34)]
          refine ws_iload 37 C dX5_ofLines_37 rfl ?_
          refine ws_goto 39 C 43 dX5_ofLines_39 (by decide) ?_
          refine ws_istore_n 43 C dX5_ofLines_43 rfl [some (.ref (ad κ 91)), some (.int (nI w)), some (.int (x)), some (.int (bol μ nxt k)), some (.int (nI k)), some (.int (bol μ nxt k))] rfl ?_
          refine ws_wk (lv2 := [some (.ref (ad κ 91)), some (.int (nI w)), some (.int (x)), some (.int (bol μ nxt k)), some (.int (nI k)), none]) ⟨rfl, rfl, rfl, rfl, rfl, trivial⟩ ?_
          exact J44 _ hgn
  exact L9 0 (Nat.zero_le _) (nI 0) (-1006) smv_0.symm rfl

set_option maxRecDepth 100000 in
set_option maxHeartbeats 4000000 in
theorem c_X5_line {S : Sg} (hX : MI κ z st0 S) {x y v : Int32} : CT zl κ yX5_line cX5_line 6 (some .int) (r0 6 132) z [.ref (ad κ 91), .int (x), .int (y), .int (v)] st0 (PM κ z st0 (fLine S x y v, S)) := by
  obtain ⟨P, hP⟩ : ∃ P : Option Value → St → Prop, P = (PM κ z st0 (fLine S x y v, S)) := ⟨_, rfl⟩
  rw [← hP]
  refine CT.of (by decide +kernel) (Nat.le_of_ble_eq_true rfl) (fun zp ze zs zm zar zbe zme zc C _ => ?_)
  have C : Cx zp zs zm zar zme zc κ cX5_line 6 RX5 (some .int) := C
  refine ws_lv (lv2 := [some (.ref (ad κ 91)), some (.int (x)), some (.int (y)), some (.int (v)), none, none]) rfl ?_
  obtain ⟨⟨y1, y3, hM⟩, ⟨a, hA, hR⟩, hKp, hH, hS, hSc, hT, hB1, hB2⟩ := hX
  have h24 := hR.le
  have hF : Fr (fun q : Nat => 91 ≤ q ∧ q < 106) st0 st0 := Fr.rf
  refine ws_iload_n 0 C dX5_line_0 rfl ?_
  refine ws_callS0 1 C dX5_line_1 vX5_157 (c_X5_isWay) rfl ⟨by decide, by decide⟩ ⟨Nat.zero_le _, Nat.zero_le _⟩ rfl rfl rfl (kR ?_)
  refine ws_if_eq 4 C 19 dX5_line_4 (by decide)  (fun c4 => ?_) (fun c4 => ?_)
  · skip
    have hf := fLine_1 (S := S) (y := y) (v := v) (bix_0 c4)
    refine ws_sipush 19 C dX5_line_19 ((-1002)) (by decide) ?_
    exact ws_iret 22 C dX5_line_22 rfl (Nat.le_refl _) (Nat.le_refl _) (by rw [hP]; exact PM_ret (congrArg (fun t => (t, S)) hf) ⟨⟨_, _, hM⟩, ⟨_, hA, hR⟩, hKp, hH, hS, hSc, hT, hB1, hB2⟩ hF)
  · skip
    obtain ⟨way, hw, hxw, hix⟩ := bix_1 (n := 2) (by decide) c4
    refine ws_wk (lv2 := [some (.ref (ad κ 91)), some (.int (nI way)), some (.int (y)), some (.int (v)), none, none]) ⟨rfl, (congrArg Value.int hxw.symm), rfl, rfl, trivial⟩ ?_
    refine ws_iload_n 7 C dX5_line_7 rfl ?_
    refine ws_i2l 8 C dX5_line_8 (v.toInt64) rfl ?_
    refine ws_lconst 9 C dX5_line_9 0 (by decide) ?_
    refine ws_ldc2 10 C dX5_line_10 (8) k542 ?_
    refine ws_callS0 13 C dX5_line_13 vX5_58 (c_X5_in (inL_bix (n := 9) (by decide) (by decide) (by decide))) rfl ⟨by decide, by decide⟩ ⟨Nat.zero_le _, Nat.zero_le _⟩ rfl rfl rfl (kR ?_)
    refine ws_if_ne 16 C 23 dX5_line_16 (by decide)  (fun c16 => ?_) (fun c16 => ?_)
    · skip
      obtain ⟨w, hw9, hvw, hvx⟩ := bix_1 (n := 9) (by decide) c16
      refine ws_wk (lv2 := [some (.ref (ad κ 91)), some (.int (nI way)), some (.int (y)), some (.int (nI w)), none, none]) ⟨rfl, rfl, rfl, (congrArg Value.int hvw.symm), trivial⟩ ?_
      refine ws_aload_n 23 C dX5_line_23 rfl ?_
      refine ws_iload_n 24 C dX5_line_24 rfl ?_
      refine ws_callV0 25 C dX5_line_25 vX5_151 (c_X5_breaks hM hA hR hSc hw) rfl hM rfl rfl ⟨by decide, by decide⟩ ⟨Nat.zero_le _, Nat.zero_le _⟩ rfl rfl rfl (kV (fun u25 h25 => ?_))
      obtain ⟨⟨hM, hMb⟩, hfr⟩ := h25
      have hSc := hMb.sc
      obtain ⟨p, l, r, s, lf, tk, hp, hlf, hrt, hs_, hle, htk, hW, hb⟩ := id hMb
      have hb : LyB (nxw (sM S) way) (mn (sM S)) (lnw (sM S) way) s := hb
      have hM : Ob z u25 91 (bMo κ (nI (sHn S)) (nI (lnw (sM S) way)) (nI (sPn S)) y3) := hM
      have hLn : lnw (sM S) way ≤ mn (sM S) := hb.L_le
      have hKp := hKp.fr hfr (fun q (g1 : 93 ≤ q) (g2 : q < 94) => (show ¬ (q = 91 ∨ (97 ≤ q ∧ q < 103)) from by omega))
      have hH := hH.fr hfr (fun q (g1 : 94 ≤ q) (g2 : q < 95) => (show ¬ (q = 91 ∨ (97 ≤ q ∧ q < 103)) from by omega))
      have hS := hS.fr hfr (fun q (g1 : 95 ≤ q) (g2 : q < 97) => (show ¬ (q = 91 ∨ (97 ≤ q ∧ q < 103)) from by omega))
      have hT := hT.fr hfr (fun q (g1 : 103 ≤ q) (g2 : q < 104) => (show ¬ (q = 91 ∨ (97 ≤ q ∧ q < 103)) from by omega))
      have hB1 := hB1.fr hfr (fun q (g1 : 104 ≤ q) (g2 : q < 105) => (show ¬ (q = 91 ∨ (97 ≤ q ∧ q < 103)) from by omega))
      have hB2 := hB2.fr hfr (fun q (g1 : 105 ≤ q) (g2 : q < 106) => (show ¬ (q = 91 ∨ (97 ≤ q ∧ q < 103)) from by omega))
      have hA := hfr.ob hA (fun q (g1 : 92 ≤ q) (g2 : q < 92 + 1) => (show ¬ (q = 91 ∨ (97 ≤ q ∧ q < 103)) from by omega))
      have hF := hF.then hfr (fun q (hq : q = 91 ∨ (97 ≤ q ∧ q < 103)) => (show 91 ≤ q ∧ q < 106 from by omega))
      refine ws_iload_n 28 C dX5_line_28 rfl ?_
      refine ws_i2l 29 C dX5_line_29 (y.toInt64) rfl ?_
      refine ws_lconst 30 C dX5_line_30 0 (by decide) ?_
      refine ws_aload_n 31 C dX5_line_31 rfl ?_
      refine ws_get 32 C dX5_line_32 fX5_98 hM rfl rfl ?_
      refine ws_i2l 35 C dX5_line_35 ((nI (lnw (sM S) way)).toInt64) rfl ?_
      refine ws_lconst 36 C dX5_line_36 1 (by decide) ?_
      refine ws_lsub 37 C dX5_line_37 ((nI (lnw (sM S) way)).toInt64 - 1) rfl ?_
      refine ws_callS0 38 C dX5_line_38 vX5_58 (c_X5_in (inL_pred (n := lnw (sM S) way) (by omega))) rfl ⟨by decide, by decide⟩ ⟨Nat.zero_le _, Nat.zero_le _⟩ rfl rfl rfl (kR ?_)
      refine ws_if_ne 41 C 48 dX5_line_41 (by decide)  (fun c41 => ?_) (fun c41 => ?_)
      · skip
        obtain ⟨i, hi, hyi, hyx⟩ := bix_1 (n := lnw (sM S) way) (by omega) c41
        have hf := fLine_4 (S := S) hix hvx hyx
        have hnx := hb.next hi
        refine ws_wk (lv2 := [some (.ref (ad κ 91)), some (.int (nI way)), some (.int (nI i)), some (.int (nI w)), none, none]) ⟨rfl, rfl, (congrArg Value.int hyi.symm), rfl, trivial⟩ ?_
        refine ws_aload_n 48 C dX5_line_48 rfl ?_
        refine ws_get 49 C dX5_line_49 fX5_34 hM rfl rfl ?_
        refine ws_iload_n 52 C dX5_line_52 rfl ?_
        refine ws_iald 53 C dX5_line_53 hs_ 0 rfl (vp_in_nI (by omega) (by decide)) (nI (stt (nxw (sM S) way) i)) ((congrArg s (nI_clamp (by omega))).trans (hb.at (Nat.le_of_lt hi))) ?_
        refine ws_istore 54 C dX5_line_54 rfl [some (.ref (ad κ 91)), some (.int (nI way)), some (.int (nI i)), some (.int (nI w)), some (.int (nI (stt (nxw (sM S) way) i))), none] rfl ?_
        refine ws_aload_n 56 C dX5_line_56 rfl ?_
        refine ws_iload_n 57 C dX5_line_57 rfl ?_
        refine ws_callV0 58 C dX5_line_58 vX5_114 (c_X5_lastOf hM hA hR hp hlf hrt hs_ hW hb hi) rfl hM rfl rfl ⟨by decide, by decide⟩ ⟨Nat.zero_le _, Nat.zero_le _⟩ rfl rfl rfl (kR ?_)
        refine ws_istore 61 C dX5_line_61 rfl [some (.ref (ad κ 91)), some (.int (nI way)), some (.int (nI i)), some (.int (nI w)), some (.int (nI (stt (nxw (sM S) way) i))), some (.int (nI (stt (nxw (sM S) way) (i + 1) - 1)))] rfl ?_
        refine ws_iload_n 63 C dX5_line_63 rfl ?_
        rcases (show w = 0 ∨ w = 1 ∨ w = 2 ∨ w = 3 ∨ w = 4 ∨ w = 5 ∨ w = 6 ∨ w = 7 ∨ w = 8 from by omega) with rfl | rfl | rfl | rfl | rfl | rfl | rfl | rfl | rfl
        · skip
          refine ws_tin 64 C dX5_line_64 (0) (48) 112 (by rfl) (by decide) (by decide) (by rfl) (by decide) ?_
          refine ws_iload 112 C dX5_line_112 rfl ?_
          exact ws_iret 114 C dX5_line_114 rfl (Nat.le_refl _) (Nat.le_refl _) (by rw [hP]; exact PM_ret (congrArg (fun t => (t, S)) hf) ⟨⟨_, _, hM⟩, ⟨_, hA, hR⟩, hKp, hH, hS, hSc, hT, hB1, hB2⟩ hF)
        · skip
          refine ws_tin 64 C dX5_line_64 (1) (51) 115 (by rfl) (by decide) (by decide) (by rfl) (by decide) ?_
          refine ws_iload 115 C dX5_line_115 rfl ?_
          refine ws_iconst 117 C dX5_line_117 (nI 1) (by decide) ?_
          refine ws_iadd 118 C dX5_line_118 (nI (stt (nxw (sM S) way) (i + 1))) ((nI_add _ _).trans (congrArg nI (by omega))) ?_
          refine ws_iload 119 C dX5_line_119 rfl ?_
          refine ws_isub 121 C dX5_line_121 (nI (stt (nxw (sM S) way) (i + 1) - stt (nxw (sM S) way) i)) (pk_sub (by omega)) ?_
          exact ws_iret 122 C dX5_line_122 rfl (Nat.le_refl _) (Nat.le_refl _) (by rw [hP]; exact PM_ret (congrArg (fun t => (t, S)) hf) ⟨⟨_, _, hM⟩, ⟨_, hA, hR⟩, hKp, hH, hS, hSc, hT, hB1, hB2⟩ hF)
        · skip
          refine ws_tin 64 C dX5_line_64 (2) (59) 123 (by rfl) (by decide) (by decide) (by rfl) (by decide) ?_
          refine ws_aload_n 123 C dX5_line_123 rfl ?_
          refine ws_iload 124 C dX5_line_124 rfl ?_
          refine ws_iload 126 C dX5_line_126 rfl ?_
          refine ws_callV0 128 C dX5_line_128 vX5_89 (c_X5_widthOfLine hM hA hR hp hlf hrt hW (show stt (nxw (sM S) way) i ≤ stt (nxw (sM S) way) (i + 1) - 1 from by omega) (by omega)) rfl hM rfl rfl ⟨by decide, by decide⟩ ⟨Nat.zero_le _, Nat.zero_le _⟩ rfl rfl rfl (kR ?_)
          exact ws_iret 131 C dX5_line_131 rfl (Nat.le_refl _) (Nat.le_refl _) (by rw [hP]; exact PM_ret (congrArg (fun t => (t, S)) hf) ⟨⟨_, _, hM⟩, ⟨_, hA, hR⟩, hKp, hH, hS, hSc, hT, hB1, hB2⟩ hF)
        · skip
          refine ws_tin 64 C dX5_line_64 (3) (68) 132 (by rfl) (by decide) (by decide) (by rfl) (by decide) ?_
          refine ws_aload_n 132 C dX5_line_132 rfl ?_
          refine ws_iload 133 C dX5_line_133 rfl ?_
          refine ws_callV0 135 C dX5_line_135 vX5_83 (c_X5_hangsLeft hM hA hR (i := stt (nxw (sM S) way) i) (by omega)) rfl hM rfl rfl ⟨by decide, by decide⟩ ⟨Nat.zero_le _, Nat.zero_le _⟩ rfl rfl rfl (kR ?_)
          exact ws_iret 138 C dX5_line_138 rfl (Nat.le_refl _) (Nat.le_refl _) (by rw [hP]; exact PM_ret (congrArg (fun t => (t, S)) hf) ⟨⟨_, _, hM⟩, ⟨_, hA, hR⟩, hKp, hH, hS, hSc, hT, hB1, hB2⟩ hF)
        · skip
          refine ws_tin 64 C dX5_line_64 (4) (75) 139 (by rfl) (by decide) (by decide) (by rfl) (by decide) ?_
          refine ws_aload_n 139 C dX5_line_139 rfl ?_
          refine ws_iload 140 C dX5_line_140 rfl ?_
          refine ws_callV0 142 C dX5_line_142 vX5_86 (c_X5_hangsRight hM hA hR (i := stt (nxw (sM S) way) (i + 1) - 1) (by omega)) rfl hM rfl rfl ⟨by decide, by decide⟩ ⟨Nat.zero_le _, Nat.zero_le _⟩ rfl rfl rfl (kR ?_)
          exact ws_iret 145 C dX5_line_145 rfl (Nat.le_refl _) (Nat.le_refl _) (by rw [hP]; exact PM_ret (congrArg (fun t => (t, S)) hf) ⟨⟨_, _, hM⟩, ⟨_, hA, hR⟩, hKp, hH, hS, hSc, hT, hB1, hB2⟩ hF)
        · skip
          refine ws_tin 64 C dX5_line_64 (5) (82) 146 (by rfl) (by decide) (by decide) (by rfl) (by decide) ?_
          refine ws_aload_n 146 C dX5_line_146 rfl ?_
          refine ws_iload 147 C dX5_line_147 rfl ?_
          refine ws_iload 149 C dX5_line_149 rfl ?_
          refine ws_callV0 151 C dX5_line_151 vX5_92 (c_X5_bodyOf hM hA hR hp hlf hrt hW (show stt (nxw (sM S) way) i ≤ stt (nxw (sM S) way) (i + 1) - 1 from by omega) (by omega)) rfl hM rfl rfl ⟨by decide, by decide⟩ ⟨Nat.zero_le _, Nat.zero_le _⟩ rfl rfl rfl (kR ?_)
          exact ws_iret 154 C dX5_line_154 rfl (Nat.le_refl _) (Nat.le_refl _) (by rw [hP]; exact PM_ret (congrArg (fun t => (t, S)) hf) ⟨⟨_, _, hM⟩, ⟨_, hA, hR⟩, hKp, hH, hS, hSc, hT, hB1, hB2⟩ hF)
        · skip
          refine ws_tin 64 C dX5_line_64 (6) (91) 155 (by rfl) (by decide) (by decide) (by rfl) (by decide) ?_
          refine ws_aload_n 155 C dX5_line_155 rfl ?_
          refine ws_iload_n 156 C dX5_line_156 rfl ?_
          refine ws_callV0 157 C dX5_line_157 vX5_120 (c_X5_fits hM hA hR hp hlf hrt hs_ hW hb hi) rfl hM rfl rfl ⟨by decide, by decide⟩ ⟨Nat.zero_le _, Nat.zero_le _⟩ rfl rfl rfl (kR ?_)
          refine ws_if_eq 160 C 181 dX5_line_160 (by decide)  (fun c160 => ?_) (fun c160 => ?_)
          · skip
            have hf : fLine S x y v = -1006 := hf.trans (if_neg (fitI_n c160))
            refine ws_sipush 181 C dX5_line_181 ((-1006)) (by decide) ?_
            exact ws_iret 184 C dX5_line_184 rfl (Nat.le_refl _) (Nat.le_refl _) (by rw [hP]; exact PM_ret (congrArg (fun t => (t, S)) hf) ⟨⟨_, _, hM⟩, ⟨_, hA, hR⟩, hKp, hH, hS, hSc, hT, hB1, hB2⟩ hF)
          · skip
            have hf : fLine S x y v = mv (sM S) 0 0 - bol (sM S) (nxw (sM S) way) i := hf.trans (if_pos (fitI_y c160))
            refine ws_aload_n 163 C dX5_line_163 rfl ?_
            refine ws_get 164 C dX5_line_164 fX5_7 hM rfl rfl ?_
            refine ws_iconst 167 C dX5_line_167 (nI 0) (by decide) ?_
            refine ws_iald 168 C dX5_line_168 hA 0 rfl (vp_in_nI (by omega) (by decide)) (mv (sM S) 0 0) ((congrArg a (nI_clamp (by omega))).trans (hR.set (by omega))) ?_
            refine ws_aload_n 169 C dX5_line_169 rfl ?_
            refine ws_iload 170 C dX5_line_170 rfl ?_
            refine ws_iload 172 C dX5_line_172 rfl ?_
            refine ws_callV0 174 C dX5_line_174 vX5_92 (c_X5_bodyOf hM hA hR hp hlf hrt hW (show stt (nxw (sM S) way) i ≤ stt (nxw (sM S) way) (i + 1) - 1 from by omega) (by omega)) rfl hM rfl rfl ⟨by decide, by decide⟩ ⟨Nat.zero_le _, Nat.zero_le _⟩ rfl rfl rfl (kR ?_)
            refine ws_isub 177 C dX5_line_177 ((mv (sM S) 0 0) - (bol (sM S) (nxw (sM S) way) i)) rfl ?_
            refine ws_goto 178 C 184 dX5_line_178 (by decide) ?_
            exact ws_iret 184 C dX5_line_184 rfl (Nat.le_refl _) (Nat.le_refl _) (by rw [hP]; exact PM_ret (congrArg (fun t => (t, S)) hf) ⟨⟨_, _, hM⟩, ⟨_, hA, hR⟩, hKp, hH, hS, hSc, hT, hB1, hB2⟩ hF)
        · skip
          refine ws_tin 64 C dX5_line_64 (7) (121) 185 (by rfl) (by decide) (by decide) (by rfl) (by decide) ?_
          refine ws_aload_n 185 C dX5_line_185 rfl ?_
          refine ws_iload_n 186 C dX5_line_186 rfl ?_
          refine ws_callV0 187 C dX5_line_187 vX5_120 (c_X5_fits hM hA hR hp hlf hrt hs_ hW hb hi) rfl hM rfl rfl ⟨by decide, by decide⟩ ⟨Nat.zero_le _, Nat.zero_le _⟩ rfl rfl rfl (kR ?_)
          refine ws_if_eq 190 C 197 dX5_line_190 (by decide)  (fun c190 => ?_) (fun c190 => ?_)
          · skip
            have hf : fLine S x y v = nI 0 := hf.trans (if_neg (fitI_n c190))
            refine ws_iconst 197 C dX5_line_197 (nI 0) (by decide) ?_
            exact ws_iret 198 C dX5_line_198 rfl (Nat.le_refl _) (Nat.le_refl _) (by rw [hP]; exact PM_ret (congrArg (fun t => (t, S)) hf) ⟨⟨_, _, hM⟩, ⟨_, hA, hR⟩, hKp, hH, hS, hSc, hT, hB1, hB2⟩ hF)
          · skip
            have hf : fLine S x y v = nI 1 := hf.trans (if_pos (fitI_y c190))
            refine ws_iconst 193 C dX5_line_193 (nI 1) (by decide) ?_
            refine ws_goto 194 C 198 dX5_line_194 (by decide) ?_
            exact ws_iret 198 C dX5_line_198 rfl (Nat.le_refl _) (Nat.le_refl _) (by rw [hP]; exact PM_ret (congrArg (fun t => (t, S)) hf) ⟨⟨_, _, hM⟩, ⟨_, hA, hR⟩, hKp, hH, hS, hSc, hT, hB1, hB2⟩ hF)
        · skip
          refine ws_tout 64 C dX5_line_64 199 (Or.inr (by decide)) (by decide) ?_
          refine ws_aload_n 199 C dX5_line_199 rfl ?_
          refine ws_iload_n 200 C dX5_line_200 rfl ?_
          refine ws_callV0 201 C dX5_line_201 vX5_162 (c_X5_looksIndented hM hA hR hp hlf hrt hs_ hW hb hi) rfl hM rfl rfl ⟨by decide, by decide⟩ ⟨Nat.zero_le _, Nat.zero_le _⟩ rfl rfl rfl (kR ?_)
          refine ws_nif_eq 204 C 211 dX5_line_204 (by decide) (by have := indN_le (sM S) (nxw (sM S) way) (mv (sM S) 0 0) (mv (sM S) 0 2) (lnw (sM S) way) i; omega) (fun c204 => ?_) (fun c204 => ?_)
          · skip
            have hf : fLine S x y v = nI 0 := hf.trans (congrArg nI c204)
            refine ws_iconst 211 C dX5_line_211 (nI 0) (by decide) ?_
            exact ws_iret 212 C dX5_line_212 rfl (Nat.le_refl _) (Nat.le_refl _) (by rw [hP]; exact PM_ret (congrArg (fun t => (t, S)) hf) ⟨⟨_, _, hM⟩, ⟨_, hA, hR⟩, hKp, hH, hS, hSc, hT, hB1, hB2⟩ hF)
          · skip
            have hf : fLine S x y v = nI 1 := hf.trans (congrArg nI (show indN (sM S) (nxw (sM S) way) (mv (sM S) 0 0) (mv (sM S) 0 2) (lnw (sM S) way) i = 1 from by have := indN_le (sM S) (nxw (sM S) way) (mv (sM S) 0 0) (mv (sM S) 0 2) (lnw (sM S) way) i; omega))
            refine ws_iconst 207 C dX5_line_207 (nI 1) (by decide) ?_
            refine ws_goto 208 C 212 dX5_line_208 (by decide) ?_
            exact ws_iret 212 C dX5_line_212 rfl (Nat.le_refl _) (Nat.le_refl _) (by rw [hP]; exact PM_ret (congrArg (fun t => (t, S)) hf) ⟨⟨_, _, hM⟩, ⟨_, hA, hR⟩, hKp, hH, hS, hSc, hT, hB1, hB2⟩ hF)
      · skip
        have hf := fLine_3 (S := S) hix hvx (bix_0 c41)
        refine ws_sipush 44 C dX5_line_44 ((-1001)) (by decide) ?_
        exact ws_iret 47 C dX5_line_47 rfl (Nat.le_refl _) (Nat.le_refl _) (by rw [hP]; exact PM_ret (congrArg (fun t => (t, S)) hf) ⟨⟨_, _, hM⟩, ⟨_, hA, hR⟩, hKp, hH, hS, hSc, hT, hB1, hB2⟩ hF)
    · skip
      have hf := fLine_2 (S := S) (x := x) (y := y) (bix_0 c16)
      refine ws_sipush 19 C dX5_line_19 ((-1002)) (by decide) ?_
      exact ws_iret 22 C dX5_line_22 rfl (Nat.le_refl _) (Nat.le_refl _) (by rw [hP]; exact PM_ret (congrArg (fun t => (t, S)) hf) ⟨⟨_, _, hM⟩, ⟨_, hA, hR⟩, hKp, hH, hS, hSc, hT, hB1, hB2⟩ hF)

set_option maxRecDepth 100000 in
set_option maxHeartbeats 4000000 in
theorem c_X5_lines {S : Sg} (hX : MI κ z st0 S) {x y : Int32} : CT zl κ yX5_lines cX5_lines 3 (some .int) (r0 6 132) z [.ref (ad κ 91), .int (x), .int (y)] st0 (PM κ z st0 (fLines S x y, S)) := by
  obtain ⟨P, hP⟩ : ∃ P : Option Value → St → Prop, P = (PM κ z st0 (fLines S x y, S)) := ⟨_, rfl⟩
  rw [← hP]
  refine CT.of (by decide +kernel) (Nat.le_of_ble_eq_true rfl) (fun zp ze zs zm zar zbe zme zc C _ => ?_)
  have C : Cx zp zs zm zar zme zc κ cX5_lines 3 RX5 (some .int) := C
  refine ws_lv (lv2 := [some (.ref (ad κ 91)), some (.int (x)), some (.int (y))]) rfl ?_
  obtain ⟨⟨y1, y3, hM⟩, ⟨a, hA, hR⟩, hKp, hH, hS, hSc, hT, hB1, hB2⟩ := hX
  have h24 := hR.le
  have hF : Fr (fun q : Nat => 91 ≤ q ∧ q < 106) st0 st0 := Fr.rf
  refine ws_iload_n 0 C dX5_lines_0 rfl ?_
  refine ws_callS0 1 C dX5_lines_1 vX5_157 (c_X5_isWay) rfl ⟨by decide, by decide⟩ ⟨Nat.zero_le _, Nat.zero_le _⟩ rfl rfl rfl (kR ?_)
  refine ws_if_eq 4 C 19 dX5_lines_4 (by decide)  (fun c4 => ?_) (fun c4 => ?_)
  · skip
    have hf := fLines_1 (S := S) (y := y) (bix_0 c4)
    refine ws_sipush 19 C dX5_lines_19 ((-1002)) (by decide) ?_
    exact ws_iret 22 C dX5_lines_22 rfl (Nat.le_refl _) (Nat.le_refl _) (by rw [hP]; exact PM_ret (congrArg (fun t => (t, S)) hf) ⟨⟨_, _, hM⟩, ⟨_, hA, hR⟩, hKp, hH, hS, hSc, hT, hB1, hB2⟩ hF)
  · skip
    obtain ⟨way, hw, hxw, hix⟩ := bix_1 (n := 2) (by decide) c4
    refine ws_wk (lv2 := [some (.ref (ad κ 91)), some (.int (nI way)), some (.int (y))]) ⟨rfl, (congrArg Value.int hxw.symm), rfl, trivial⟩ ?_
    refine ws_iload_n 7 C dX5_lines_7 rfl ?_
    refine ws_i2l 8 C dX5_lines_8 (y.toInt64) rfl ?_
    refine ws_lconst 9 C dX5_lines_9 0 (by decide) ?_
    refine ws_ldc2 10 C dX5_lines_10 (4) k559 ?_
    refine ws_callS0 13 C dX5_lines_13 vX5_58 (c_X5_in (inL_bix (n := 5) (by decide) (by decide) (by decide))) rfl ⟨by decide, by decide⟩ ⟨Nat.zero_le _, Nat.zero_le _⟩ rfl rfl rfl (kR ?_)
    refine ws_if_ne 16 C 23 dX5_lines_16 (by decide)  (fun c16 => ?_) (fun c16 => ?_)
    · skip
      obtain ⟨w, hw5, hyw, hyx⟩ := bix_1 (n := 5) (by decide) c16
      have hf := fLines_s (S := S) hix hyw hw5
      refine ws_wk (lv2 := [some (.ref (ad κ 91)), some (.int (nI way)), some (.int (nI w))]) ⟨rfl, rfl, (congrArg Value.int hyw.symm), trivial⟩ ?_
      refine ws_aload_n 23 C dX5_lines_23 rfl ?_
      refine ws_iload_n 24 C dX5_lines_24 rfl ?_
      refine ws_callV0 25 C dX5_lines_25 vX5_151 (c_X5_breaks hM hA hR hSc hw) rfl hM rfl rfl ⟨by decide, by decide⟩ ⟨Nat.zero_le _, Nat.zero_le _⟩ rfl rfl rfl (kV (fun u25 h25 => ?_))
      obtain ⟨⟨hM, hMb⟩, hfr⟩ := h25
      have hSc := hMb.sc
      obtain ⟨p, l, r, s, lf, tk, hp, hlf, hrt, hs_, hle, htk, hW, hb⟩ := id hMb
      have hb : LyB (nxw (sM S) way) (mn (sM S)) (lnw (sM S) way) s := hb
      have hM : Ob z u25 91 (bMo κ (nI (sHn S)) (nI (lnw (sM S) way)) (nI (sPn S)) y3) := hM
      have hLn : lnw (sM S) way ≤ mn (sM S) := hb.L_le
      have hKp := hKp.fr hfr (fun q (g1 : 93 ≤ q) (g2 : q < 94) => (show ¬ (q = 91 ∨ (97 ≤ q ∧ q < 103)) from by omega))
      have hH := hH.fr hfr (fun q (g1 : 94 ≤ q) (g2 : q < 95) => (show ¬ (q = 91 ∨ (97 ≤ q ∧ q < 103)) from by omega))
      have hS := hS.fr hfr (fun q (g1 : 95 ≤ q) (g2 : q < 97) => (show ¬ (q = 91 ∨ (97 ≤ q ∧ q < 103)) from by omega))
      have hT := hT.fr hfr (fun q (g1 : 103 ≤ q) (g2 : q < 104) => (show ¬ (q = 91 ∨ (97 ≤ q ∧ q < 103)) from by omega))
      have hB1 := hB1.fr hfr (fun q (g1 : 104 ≤ q) (g2 : q < 105) => (show ¬ (q = 91 ∨ (97 ≤ q ∧ q < 103)) from by omega))
      have hB2 := hB2.fr hfr (fun q (g1 : 105 ≤ q) (g2 : q < 106) => (show ¬ (q = 91 ∨ (97 ≤ q ∧ q < 103)) from by omega))
      have hA := hfr.ob hA (fun q (g1 : 92 ≤ q) (g2 : q < 92 + 1) => (show ¬ (q = 91 ∨ (97 ≤ q ∧ q < 103)) from by omega))
      have hF := hF.then hfr (fun q (hq : q = 91 ∨ (97 ≤ q ∧ q < 103)) => (show 91 ≤ q ∧ q < 106 from by omega))
      refine ws_iload_n 28 C dX5_lines_28 rfl ?_
      refine ws_nif_ne 29 C 39 dX5_lines_29 (by decide) (by omega) (fun c29 => ?_) (fun c29 => ?_)
      · skip
        have hf := hf.trans (oflv_fLn c29 hw5).symm
        refine ws_aload_n 39 C dX5_lines_39 rfl ?_
        refine ws_iload_n 40 C dX5_lines_40 rfl ?_
        refine ws_callV0 41 C dX5_lines_41 vX5_167 (c_X5_ofLines hM hA hR hp hlf hrt hs_ hW hb c29 hw5) rfl hM rfl rfl ⟨by decide, by decide⟩ ⟨Nat.zero_le _, Nat.zero_le _⟩ rfl rfl rfl (kR ?_)
        exact ws_iret 44 C dX5_lines_44 rfl (Nat.le_refl _) (Nat.le_refl _) (by rw [hP]; exact PM_ret (congrArg (fun t => (t, S)) hf) ⟨⟨_, _, hM⟩, ⟨_, hA, hR⟩, hKp, hH, hS, hSc, hT, hB1, hB2⟩ hF)
      · skip
        have hf : fLines S x y = nI (lnw (sM S) way) := hf.trans (by rw [c29]; rfl)
        refine ws_aload_n 32 C dX5_lines_32 rfl ?_
        refine ws_get 33 C dX5_lines_33 fX5_98 hM rfl rfl ?_
        refine ws_goto 36 C 44 dX5_lines_36 (by decide) ?_
        exact ws_iret 44 C dX5_lines_44 rfl (Nat.le_refl _) (Nat.le_refl _) (by rw [hP]; exact PM_ret (congrArg (fun t => (t, S)) hf) ⟨⟨_, _, hM⟩, ⟨_, hA, hR⟩, hKp, hH, hS, hSc, hT, hB1, hB2⟩ hF)
    · skip
      have hf := fLines_2 (S := S) (x := x) (bix_0 c16)
      refine ws_sipush 19 C dX5_lines_19 ((-1002)) (by decide) ?_
      exact ws_iret 22 C dX5_lines_22 rfl (Nat.le_refl _) (Nat.le_refl _) (by rw [hP]; exact PM_ret (congrArg (fun t => (t, S)) hf) ⟨⟨_, _, hM⟩, ⟨_, hA, hR⟩, hKp, hH, hS, hSc, hT, hB1, hB2⟩ hF)

set_option maxRecDepth 100000 in
set_option maxHeartbeats 4000000 in
theorem c_X5_areAlike {y0 y1 y2 y3 : Int32} {a : Nat → Int32} {μ : Mu} (hM : Ob z st0 91 (bMo κ y0 y1 y2 y3)) (hA : Ob z st0 92 (bA κ 293 a)) (hR : Rm μ a)(hSc : ScP κ z st0) : CT zl κ yX5_areAlike cX5_areAlike 4 (some .int) (r0 5 111) z [.ref (ad κ 91)] st0 (PI (fun rr u => (((rr = nI 1 ∧ Same μ) ∨ (rr = nI 0 ∧ ¬ Same μ)) ∧ Ob z u 91 (bMo κ y0 (nI (lno (nb (bo μ) (mv μ 0 0) (mn μ)) (mn μ))) y2 y3) ∧ ScP κ z u) ∧ Fr (fun q : Nat => q = 91 ∨ (97 ≤ q ∧ q < 103)) st0 u)) := by
  obtain ⟨P, hP⟩ : ∃ P : Option Value → St → Prop, P = (PI (fun rr u => (((rr = nI 1 ∧ Same μ) ∨ (rr = nI 0 ∧ ¬ Same μ)) ∧ Ob z u 91 (bMo κ y0 (nI (lno (nb (bo μ) (mv μ 0 0) (mn μ)) (mn μ))) y2 y3) ∧ ScP κ z u) ∧ Fr (fun q : Nat => q = 91 ∨ (97 ≤ q ∧ q < 103)) st0 u)) := ⟨_, rfl⟩
  rw [← hP]
  refine CT.of (by decide +kernel) (Nat.le_of_ble_eq_true rfl) (fun zp ze zs zm zar zbe zme zc C _ => ?_)
  have C : Cx zp zs zm zar zme zc κ cX5_areAlike 4 RX5 (some .int) := C
  refine ws_lv (lv2 := [some (.ref (ad κ 91)), none, none, none]) rfl ?_
  have h24 := hR.le
  have hF : Fr (fun q : Nat => q = 91 ∨ (97 ≤ q ∧ q < 103)) st0 st0 := Fr.rf
  refine ws_aload_n 0 C dX5_areAlike_0 rfl ?_
  refine ws_callV0 1 C dX5_areAlike_1 vX5_108 (c_X5_fills hM hA hR hSc) rfl hM rfl rfl ⟨by decide, by decide⟩ ⟨Nat.zero_le _, Nat.zero_le _⟩ rfl rfl rfl (kV (fun u1 h1 => ?_))
  obtain ⟨⟨hM, hMb⟩, hfr⟩ := h1
  have hSc := hMb.sc
  obtain ⟨p, l, r, s, lf, tk, hp, hlf, hrt, hs_, hle, htk, hW, hb⟩ := id hMb
  have hA := hfr.ob hA (fun q (g1 : 92 ≤ q) (g2 : q < 92 + 1) => (show ¬ (q = 91 ∨ (97 ≤ q ∧ q < 103)) from by omega))
  have hF := hF.then hfr (fun q (hq : q = 91 ∨ (97 ≤ q ∧ q < 103)) => (show q = 91 ∨ (97 ≤ q ∧ q < 103) from by omega))
  have hLn := hb.L_le
  refine ws_iconst 4 C dX5_areAlike_4 (nI 0) (by decide) ?_
  refine ws_istore_n 5 C dX5_areAlike_5 rfl [some (.ref (ad κ 91)), some (.int (nI 0)), none, none] rfl ?_
  refine ws_iconst 6 C dX5_areAlike_6 (nI 0) (by decide) ?_
  refine ws_istore_n 7 C dX5_areAlike_7 rfl [some (.ref (ad κ 91)), some (.int (nI 0)), some (.int (nI 0)), none] rfl ?_
  have L8 : ∀ k : Nat, k ≤ lno (gx (bo μ) (mv μ 0 0) (mn μ)) (mn μ) → WS zp zl ze (r0 5 111) zs zm zar zbe zme zc κ z 0 0 (QM zbe zar zs κ z (r0 5 111) P) u1 8 [some (.ref (ad κ 91)), some (.int (nI (bsN (gx (bo μ) (mv μ 0 0) (mn μ)) k))), some (.int (nI k)), none] [] := by
    refine dnw ?_
    intro k hk ih8 
    refine ws_iload_n 8 C dX5_areAlike_8 rfl ?_
    refine ws_aload_n 9 C dX5_areAlike_9 rfl ?_
    refine ws_get 10 C dX5_areAlike_10 fX5_98 hM rfl rfl ?_
    refine ws_nicmp_ge 13 C 33 dX5_areAlike_13 (by decide) (by omega) (by omega) (fun c13 => ?_) (fun c13 => ?_)
    · skip
      refine ws_aload_n 33 C dX5_areAlike_33 rfl ?_
      refine ws_callV0 34 C dX5_areAlike_34 vX5_111 (c_X5_breaksBest hM hA hR hSc) rfl hM rfl rfl ⟨by decide, by decide⟩ ⟨Nat.zero_le _, Nat.zero_le _⟩ rfl rfl rfl (kV (fun u34 h34 => ?_))
      obtain ⟨⟨hM, hMb, -⟩, hfr⟩ := h34
      have hSc := hMb.sc
      obtain ⟨p2, l2, r2, s2, lf2, tk2, hp2, hlf2, hrt2, hs2_, hle2, htk2, hW2, hb2⟩ := id hMb
      have hA := hfr.ob hA (fun q (g1 : 92 ≤ q) (g2 : q < 92 + 1) => (show ¬ (q = 91 ∨ (97 ≤ q ∧ q < 103)) from by omega))
      have hF := hF.then hfr (fun q (hq : q = 91 ∨ (97 ≤ q ∧ q < 103)) => (show q = 91 ∨ (97 ≤ q ∧ q < 103) from by omega))
      have hLn2 := hb2.L_le
      refine ws_iconst 37 C dX5_areAlike_37 (nI 0) (by decide) ?_
      refine ws_istore_n 38 C dX5_areAlike_38 rfl [some (.ref (ad κ 91)), some (.int (nI (bsN (gx (bo μ) (mv μ 0 0) (mn μ)) k))), some (.int (nI 0)), none] rfl ?_
      refine ws_iconst 39 C dX5_areAlike_39 (nI 0) (by decide) ?_
      refine ws_istore_n 40 C dX5_areAlike_40 rfl [some (.ref (ad κ 91)), some (.int (nI (bsN (gx (bo μ) (mv μ 0 0) (mn μ)) k))), some (.int (nI 0)), some (.int (nI 0))] rfl ?_
      have L41 : ∀ j : Nat, j ≤ lno (nb (bo μ) (mv μ 0 0) (mn μ)) (mn μ) → WS zp zl ze (r0 5 111) zs zm zar zbe zme zc κ z 0 0 (QM zbe zar zs κ z (r0 5 111) P) u34 41 [some (.ref (ad κ 91)), some (.int (nI (bsN (gx (bo μ) (mv μ 0 0) (mn μ)) k))), some (.int (nI (bsN (nb (bo μ) (mv μ 0 0) (mn μ)) j))), some (.int (nI j))] [] := by
        refine dnw ?_
        intro j hj ih41 
        refine ws_iload_n 41 C dX5_areAlike_41 rfl ?_
        refine ws_aload_n 42 C dX5_areAlike_42 rfl ?_
        refine ws_get 43 C dX5_areAlike_43 fX5_98 hM rfl rfl ?_
        refine ws_nicmp_ge 46 C 66 dX5_areAlike_46 (by decide) (by omega) (by omega) (fun c46 => ?_) (fun c46 => ?_)
        · skip
          have ek : k = lno (gx (bo μ) (mv μ 0 0) (mn μ)) (mn μ) := by omega
          have ej : j = lno (nb (bo μ) (mv μ 0 0) (mn μ)) (mn μ) := by omega
          have hsm : bsN (gx (bo μ) (mv μ 0 0) (mn μ)) k = bsN (nb (bo μ) (mv μ 0 0) (mn μ)) j ↔ Same μ := by rw [ek, ej]; exact bs_same hb.1 hb2.1 hb.2.1 hb2.2.1
          have b1 : bsN (gx (bo μ) (mv μ 0 0) (mn μ)) k < 2 ^ 31 := Nat.lt_trans (bs_lt (c := 24) k (fun i hi => (by have := hb.lt (show i < lno (gx (bo μ) (mv μ 0 0) (mn μ)) (mn μ) from by omega); omega))) (by decide)
          have b2 : bsN (nb (bo μ) (mv μ 0 0) (mn μ)) j < 2 ^ 31 := Nat.lt_trans (bs_lt (c := 24) j (fun i hi => (by have := hb2.lt (show i < lno (nb (bo μ) (mv μ 0 0) (mn μ)) (mn μ) from by omega); omega))) (by decide)
          refine ws_iload_n 66 C dX5_areAlike_66 rfl ?_
          refine ws_iload_n 67 C dX5_areAlike_67 rfl ?_
          refine ws_nicmp_ne 68 C 75 dX5_areAlike_68 (by decide) (by assumption) (by assumption) (fun c68 => ?_) (fun c68 => ?_)
          · skip
            have hd : (nI 0 = nI 1 ∧ Same μ) ∨ (nI 0 = nI 0 ∧ ¬ Same μ) := Or.inr ⟨rfl, fun q => c68 (hsm.mpr q)⟩
            refine ws_iconst 75 C dX5_areAlike_75 (nI 0) (by decide) ?_
            exact ws_iret 76 C  dX5_areAlike_76 rfl (Nat.le_refl _) (Nat.le_refl _) (by rw [hP]; exact ⟨nI 0, rfl, ⟨⟨hd, hM, hSc⟩, hF⟩⟩)
          · skip
            have hd : (nI 1 = nI 1 ∧ Same μ) ∨ (nI 1 = nI 0 ∧ ¬ Same μ) := Or.inl ⟨rfl, hsm.mp c68⟩
            refine ws_iconst 71 C dX5_areAlike_71 (nI 1) (by decide) ?_
            refine ws_goto 72 C 76 dX5_areAlike_72 (by decide) ?_
            exact ws_iret 76 C  dX5_areAlike_76 rfl (Nat.le_refl _) (Nat.le_refl _) (by rw [hP]; exact ⟨nI 1, rfl, ⟨⟨hd, hM, hSc⟩, hF⟩⟩)
        · skip
          have hlt2 := hb2.lt c46
          have h2l2 : 2 ^ stt (nb (bo μ) (mv μ 0 0) (mn μ)) j < 2 ^ 24 := Nat.pow_lt_pow_right (by decide) (by omega)
          have h1l2 : bsN (nb (bo μ) (mv μ 0 0) (mn μ)) j < 2 ^ 24 := bs_lt j (fun i hi => (by have := hb2.lt (Nat.lt_trans hi c46); omega))
          refine ws_iload_n 49 C dX5_areAlike_49 rfl ?_
          refine ws_iconst 50 C dX5_areAlike_50 (nI 1) (by decide) ?_
          refine ws_aload_n 51 C dX5_areAlike_51 rfl ?_
          refine ws_get 52 C dX5_areAlike_52 fX5_34 hM rfl rfl ?_
          refine ws_iload_n 55 C dX5_areAlike_55 rfl ?_
          refine ws_iald 56 C dX5_areAlike_56 hs2_ 0 rfl (vp_in_nI (by omega) (by decide)) (nI (stt (nb (bo μ) (mv μ 0 0) (mn μ)) j)) ((congrArg s2 (nI_clamp (by omega))).trans (hb2.at (Nat.le_of_lt c46))) ?_
          refine ws_ishl 57 C dX5_areAlike_57 (nI (2 ^ stt (nb (bo μ) (mv μ 0 0) (mn μ)) j)) (bs_sh _ (by omega)) ?_
          refine ws_ior 58 C dX5_areAlike_58 (nI (bsN (nb (bo μ) (mv μ 0 0) (mn μ)) (j + 1))) (bs_or h1l2 h2l2) ?_
          refine ws_istore_n 59 C dX5_areAlike_59 rfl [some (.ref (ad κ 91)), some (.int (nI (bsN (gx (bo μ) (mv μ 0 0) (mn μ)) k))), some (.int (nI (bsN (nb (bo μ) (mv μ 0 0) (mn μ)) (j + 1)))), some (.int (nI j))] rfl ?_
          refine ws_iinc 60 C dX5_areAlike_60 rfl (nI (j + 1)) (nI_1 _) rfl [some (.ref (ad κ 91)), some (.int (nI (bsN (gx (bo μ) (mv μ 0 0) (mn μ)) k))), some (.int (nI (bsN (nb (bo μ) (mv μ 0 0) (mn μ)) (j + 1)))), some (.int (nI (j + 1)))] rfl ?_
          refine ws_goto 63 C 41 dX5_areAlike_63 (by decide) ?_
          exact ih41 c46
      exact L41 0 (Nat.zero_le _)
    · skip
      have hlt := hb.lt c13
      have h2l : 2 ^ stt (gx (bo μ) (mv μ 0 0) (mn μ)) k < 2 ^ 24 := Nat.pow_lt_pow_right (by decide) (by omega)
      have h1l : bsN (gx (bo μ) (mv μ 0 0) (mn μ)) k < 2 ^ 24 := bs_lt k (fun i hi => (by have := hb.lt (Nat.lt_trans hi c13); omega))
      refine ws_iload_n 16 C dX5_areAlike_16 rfl ?_
      refine ws_iconst 17 C dX5_areAlike_17 (nI 1) (by decide) ?_
      refine ws_aload_n 18 C dX5_areAlike_18 rfl ?_
      refine ws_get 19 C dX5_areAlike_19 fX5_34 hM rfl rfl ?_
      refine ws_iload_n 22 C dX5_areAlike_22 rfl ?_
      refine ws_iald 23 C dX5_areAlike_23 hs_ 0 rfl (vp_in_nI (by omega) (by decide)) (nI (stt (gx (bo μ) (mv μ 0 0) (mn μ)) k)) ((congrArg s (nI_clamp (by omega))).trans (hb.at (Nat.le_of_lt c13))) ?_
      refine ws_ishl 24 C dX5_areAlike_24 (nI (2 ^ stt (gx (bo μ) (mv μ 0 0) (mn μ)) k)) (bs_sh _ (by omega)) ?_
      refine ws_ior 25 C dX5_areAlike_25 (nI (bsN (gx (bo μ) (mv μ 0 0) (mn μ)) (k + 1))) (bs_or h1l h2l) ?_
      refine ws_istore_n 26 C dX5_areAlike_26 rfl [some (.ref (ad κ 91)), some (.int (nI (bsN (gx (bo μ) (mv μ 0 0) (mn μ)) (k + 1)))), some (.int (nI k)), none] rfl ?_
      refine ws_iinc 27 C dX5_areAlike_27 rfl (nI (k + 1)) (nI_1 _) rfl [some (.ref (ad κ 91)), some (.int (nI (bsN (gx (bo μ) (mv μ 0 0) (mn μ)) (k + 1)))), some (.int (nI (k + 1))), none] rfl ?_
      refine ws_goto 30 C 8 dX5_areAlike_30 (by decide) ?_
      exact ih8 c13
  exact L8 0 (Nat.zero_le _)

set_option maxRecDepth 100000 in
set_option maxHeartbeats 4000000 in
theorem c_X5_count {S : Sg} (hX : MI κ z st0 S) {x : Int32} : CT zl κ yX5_count cX5_count 2 (some .int) (r0 6 134) z [.ref (ad κ 91), .int (x)] st0 (PI (fun rr u => pCount S x rr ∧ MI κ z u S ∧ Fr (fun q : Nat => 91 ≤ q ∧ q < 106) st0 u)) := by
  obtain ⟨P, hP⟩ : ∃ P : Option Value → St → Prop, P = (PI (fun rr u => pCount S x rr ∧ MI κ z u S ∧ Fr (fun q : Nat => 91 ≤ q ∧ q < 106) st0 u)) := ⟨_, rfl⟩
  rw [← hP]
  refine CT.of (by decide +kernel) (Nat.le_of_ble_eq_true rfl) (fun zp ze zs zm zar zbe zme zc C _ => ?_)
  have C : Cx zp zs zm zar zme zc κ cX5_count 2 RX5 (some .int) := C
  refine ws_lv (lv2 := [some (.ref (ad κ 91)), some (.int (x))]) rfl ?_
  obtain ⟨⟨y1, y3, hM⟩, ⟨a, hA, hR⟩, hKp, hH, hS, hSc, hT, hB1, hB2⟩ := hX
  have h24 := hR.le
  have hF : Fr (fun q : Nat => 91 ≤ q ∧ q < 106) st0 st0 := Fr.rf
  refine ws_iload_n 0 C dX5_count_0 rfl ?_
  rcases sw59 x with hy | hy | hy | hy | hy | ⟨h7, hy⟩
  · skip
    refine ws_tin 1 C dX5_count_1 (5) (35) 36 (by rw [hy]; rfl) (by decide) (by decide) (by rfl) (by decide) ?_
    have h7 : x ≠ nI 7 := nI_ne hy (by decide) (by decide) (by decide)
    have hpc := pCount_of (S := S) h7 (fCount_5 (S := S) hy).symm
    refine ws_aload_n 36 C dX5_count_36 rfl ?_
    refine ws_callV0 37 C dX5_count_37 vX5_170 (c_X5_allSigns hM hA hR) rfl hM rfl rfl ⟨by decide, by decide⟩ ⟨Nat.zero_le _, Nat.zero_le _⟩ rfl rfl rfl (kR ?_)
    exact ws_iret 40 C  dX5_count_40 rfl (Nat.le_refl _) (Nat.le_refl _) (by rw [hP]; exact ⟨nI (smN (ml (sM S)) (mn (sM S))), rfl, ⟨hpc, ⟨⟨_, _, hM⟩, ⟨_, hA, hR⟩, hKp, hH, hS, hSc, hT, hB1, hB2⟩, hF⟩⟩)
  · skip
    refine ws_tin 1 C dX5_count_1 (6) (40) 41 (by rw [hy]; rfl) (by decide) (by decide) (by rfl) (by decide) ?_
    have h7 : x ≠ nI 7 := nI_ne hy (by decide) (by decide) (by decide)
    have hpc := pCount_of (S := S) h7 (fCount_6 (S := S) hy).symm
    refine ws_aload_n 41 C dX5_count_41 rfl ?_
    refine ws_sipush 42 C dX5_count_42 ((-1006)) (by decide) ?_
    refine ws_callV0 45 C dX5_count_45 vX5_148 (c_X5_oftenN hM hA hR) rfl hM rfl rfl ⟨by decide, by decide⟩ ⟨Nat.zero_le _, Nat.zero_le _⟩ rfl rfl rfl (kR ?_)
    exact ws_iret 48 C  dX5_count_48 rfl (Nat.le_refl _) (Nat.le_refl _) (by rw [hP]; exact ⟨nI (smN (ml (sM S)) (mn (sM S)) - cnT (sM S) 0 (mn (sM S))), rfl, ⟨hpc, ⟨⟨_, _, hM⟩, ⟨_, hA, hR⟩, hKp, hH, hS, hSc, hT, hB1, hB2⟩, hF⟩⟩)
  · skip
    refine ws_tin 1 C dX5_count_1 (7) (48) 49 (by rw [hy]; rfl) (by decide) (by decide) (by rfl) (by decide) ?_
    refine ws_aload_n 49 C dX5_count_49 rfl ?_
    refine ws_callV0 50 C dX5_count_50 vX5_174 (c_X5_areAlike hM hA hR hSc) rfl hM rfl rfl ⟨by decide, by decide⟩ ⟨Nat.zero_le _, Nat.zero_le _⟩ rfl rfl rfl (kI' (fun r50 u50 h50 => ?_))
    obtain ⟨⟨hd, hM, hSc⟩, hfr⟩ := h50
    have hpc : pCount S x r50 := Or.inl ⟨hy, hd⟩
    have hKp := hKp.fr hfr (fun q (g1 : 93 ≤ q) (g2 : q < 94) => (show ¬ (q = 91 ∨ (97 ≤ q ∧ q < 103)) from by omega))
    have hH := hH.fr hfr (fun q (g1 : 94 ≤ q) (g2 : q < 95) => (show ¬ (q = 91 ∨ (97 ≤ q ∧ q < 103)) from by omega))
    have hS := hS.fr hfr (fun q (g1 : 95 ≤ q) (g2 : q < 97) => (show ¬ (q = 91 ∨ (97 ≤ q ∧ q < 103)) from by omega))
    have hT := hT.fr hfr (fun q (g1 : 103 ≤ q) (g2 : q < 104) => (show ¬ (q = 91 ∨ (97 ≤ q ∧ q < 103)) from by omega))
    have hB1 := hB1.fr hfr (fun q (g1 : 104 ≤ q) (g2 : q < 105) => (show ¬ (q = 91 ∨ (97 ≤ q ∧ q < 103)) from by omega))
    have hB2 := hB2.fr hfr (fun q (g1 : 105 ≤ q) (g2 : q < 106) => (show ¬ (q = 91 ∨ (97 ≤ q ∧ q < 103)) from by omega))
    have hA := hfr.ob hA (fun q (g1 : 92 ≤ q) (g2 : q < 92 + 1) => (show ¬ (q = 91 ∨ (97 ≤ q ∧ q < 103)) from by omega))
    have hF := hF.then hfr (fun q (hq : q = 91 ∨ (97 ≤ q ∧ q < 103)) => (show 91 ≤ q ∧ q < 106 from by omega))
    exact ws_iret 53 C  dX5_count_53 rfl (Nat.le_refl _) (Nat.le_refl _) (by rw [hP]; exact ⟨r50, rfl, ⟨hpc, ⟨⟨_, _, hM⟩, ⟨_, hA, hR⟩, hKp, hH, hS, hSc, hT, hB1, hB2⟩, hF⟩⟩)
  · skip
    refine ws_tin 1 C dX5_count_1 (8) (53) 54 (by rw [hy]; rfl) (by decide) (by decide) (by rfl) (by decide) ?_
    have h7 : x ≠ nI 7 := nI_ne hy (by decide) (by decide) (by decide)
    have hpc := pCount_of (S := S) h7 (fCount_8 (S := S) hy).symm
    refine ws_aload_n 54 C dX5_count_54 rfl ?_
    refine ws_get 55 C dX5_count_55 fX5_177 hM rfl rfl ?_
    exact ws_iret 58 C  dX5_count_58 rfl (Nat.le_refl _) (Nat.le_refl _) (by rw [hP]; exact ⟨nI (sPn S), rfl, ⟨hpc, ⟨⟨_, _, hM⟩, ⟨_, hA, hR⟩, hKp, hH, hS, hSc, hT, hB1, hB2⟩, hF⟩⟩)
  · skip
    refine ws_tin 1 C dX5_count_1 (9) (58) 59 (by rw [hy]; rfl) (by decide) (by decide) (by rfl) (by decide) ?_
    have h7 : x ≠ nI 7 := nI_ne hy (by decide) (by decide) (by decide)
    have hpc := pCount_of (S := S) h7 (fCount_9 (S := S) hy).symm
    refine ws_aload_n 59 C dX5_count_59 rfl ?_
    refine ws_get 60 C dX5_count_60 fX5_52 hM rfl rfl ?_
    exact ws_iret 63 C  dX5_count_63 rfl (Nat.le_refl _) (Nat.le_refl _) (by rw [hP]; exact ⟨nI (sHn S), rfl, ⟨hpc, ⟨⟨_, _, hM⟩, ⟨_, hA, hR⟩, hKp, hH, hS, hSc, hT, hB1, hB2⟩, hF⟩⟩)
  · skip
    refine ws_tout 1 C dX5_count_1 64 (hy) (by decide) ?_
    refine ws_iload_n 64 C dX5_count_64 rfl ?_
    refine ws_i2l 65 C dX5_count_65 (x.toInt64) rfl ?_
    refine ws_lconst 66 C dX5_count_66 0 (by decide) ?_
    refine ws_ldc2 67 C dX5_count_67 (4) k559 ?_
    refine ws_callS0 70 C dX5_count_70 vX5_58 (c_X5_in (inL_bix (n := 5) (by decide) (by decide) (by decide))) rfl ⟨by decide, by decide⟩ ⟨Nat.zero_le _, Nat.zero_le _⟩ rfl rfl rfl (kR ?_)
    refine ws_if_eq 73 C 85 dX5_count_73 (by decide)  (fun c73 => ?_) (fun c73 => ?_)
    · skip
      have hpc := pCount_of (S := S) h7 (fCount_b (S := S) (none10 c73 hy)).symm
      refine ws_sipush 85 C dX5_count_85 ((-1002)) (by decide) ?_
      exact ws_iret 88 C  dX5_count_88 rfl (Nat.le_refl _) (Nat.le_refl _) (by rw [hP]; exact ⟨(-1002), rfl, ⟨hpc, ⟨⟨_, _, hM⟩, ⟨_, hA, hR⟩, hKp, hH, hS, hSc, hT, hB1, hB2⟩, hF⟩⟩)
    · skip
      obtain ⟨k, hk, hxk, hix⟩ := bix_1 (n := 5) (by decide) c73
      have hpc := pCount_of (S := S) h7 (fCount_all hR hk hxk)
      refine ws_wk (lv2 := [some (.ref (ad κ 91)), some (.int (nI k))]) ⟨rfl, (congrArg Value.int hxk.symm), trivial⟩ ?_
      refine ws_aload_n 76 C dX5_count_76 rfl ?_
      refine ws_get 77 C dX5_count_77 fX5_7 hM rfl rfl ?_
      refine ws_iload_n 80 C dX5_count_80 rfl ?_
      refine ws_iald 81 C dX5_count_81 hA 0 rfl (vp_in_nI (by omega) (by decide)) (a k) (congrArg a (nI_clamp (by omega))) ?_
      refine ws_goto 82 C 88 dX5_count_82 (by decide) ?_
      exact ws_iret 88 C  dX5_count_88 rfl (Nat.le_refl _) (Nat.le_refl _) (by rw [hP]; exact ⟨a k, rfl, ⟨hpc, ⟨⟨_, _, hM⟩, ⟨_, hA, hR⟩, hKp, hH, hS, hSc, hT, hB1, hB2⟩, hF⟩⟩)

set_option maxRecDepth 100000 in
set_option maxHeartbeats 4000000 in
theorem c_X5_body {S : Sg} (hX : MI κ z st0 S) {x y : Int32} : CT zl κ yX5_body cX5_body 3 (some .int) (r0 4 89) z [.ref (ad κ 91), .int (x), .int (y)] st0 (PM κ z st0 (fBody S x y, S)) := by
  obtain ⟨P, hP⟩ : ∃ P : Option Value → St → Prop, P = (PM κ z st0 (fBody S x y, S)) := ⟨_, rfl⟩
  rw [← hP]
  refine CT.of (by decide +kernel) (Nat.le_of_ble_eq_true rfl) (fun zp ze zs zm zar zbe zme zc C _ => ?_)
  have C : Cx zp zs zm zar zme zc κ cX5_body 3 RX5 (some .int) := C
  refine ws_lv (lv2 := [some (.ref (ad κ 91)), some (.int (x)), some (.int (y))]) rfl ?_
  obtain ⟨⟨y1, y3, hM⟩, ⟨a, hA, hR⟩, hKp, hH, hS, hSc, hT, hB1, hB2⟩ := hX
  have h24 := hR.le
  have hF : Fr (fun q : Nat => 91 ≤ q ∧ q < 106) st0 st0 := Fr.rf
  obtain ⟨p, l, r, s, lf, tk, hp, hlf, hrt, hs_, hle, htk, hp0⟩ := hSc
  refine ws_aload_n 0 C dX5_body_0 rfl ?_
  refine ws_callV0 1 C dX5_body_1 vX5_95 (c_X5_measures hM hA hR hp hlf hrt hp0) rfl hM rfl rfl ⟨by decide, by decide⟩ ⟨Nat.zero_le _, Nat.zero_le _⟩ rfl rfl rfl (kV (fun u1 h1 => ?_))
  obtain ⟨⟨p1, l1, r1, hp, hlf, hrt, hW⟩, hfr⟩ := h1
  have hKp := hKp.fr hfr (fun q (g1 : 93 ≤ q) (g2 : q < 94) => (show ¬ (97 ≤ q ∧ q < 100) from by omega))
  have hH := hH.fr hfr (fun q (g1 : 94 ≤ q) (g2 : q < 95) => (show ¬ (97 ≤ q ∧ q < 100) from by omega))
  have hS := hS.fr hfr (fun q (g1 : 95 ≤ q) (g2 : q < 97) => (show ¬ (97 ≤ q ∧ q < 100) from by omega))
  have hT := hT.fr hfr (fun q (g1 : 103 ≤ q) (g2 : q < 104) => (show ¬ (97 ≤ q ∧ q < 100) from by omega))
  have hB1 := hB1.fr hfr (fun q (g1 : 104 ≤ q) (g2 : q < 105) => (show ¬ (97 ≤ q ∧ q < 100) from by omega))
  have hB2 := hB2.fr hfr (fun q (g1 : 105 ≤ q) (g2 : q < 106) => (show ¬ (97 ≤ q ∧ q < 100) from by omega))
  have hM := hfr.ob hM (fun q (g1 : 91 ≤ q) (g2 : q < 91 + 1) => (show ¬ (97 ≤ q ∧ q < 100) from by omega))
  have hA := hfr.ob hA (fun q (g1 : 92 ≤ q) (g2 : q < 92 + 1) => (show ¬ (97 ≤ q ∧ q < 100) from by omega))
  have hs_ := hfr.ob hs_ (fun q (g1 : 100 ≤ q) (g2 : q < 100 + 1) => (show ¬ (97 ≤ q ∧ q < 100) from by omega))
  have hle := hfr.ob hle (fun q (g1 : 101 ≤ q) (g2 : q < 101 + 1) => (show ¬ (97 ≤ q ∧ q < 100) from by omega))
  have htk := hfr.ob htk (fun q (g1 : 102 ≤ q) (g2 : q < 102 + 1) => (show ¬ (97 ≤ q ∧ q < 100) from by omega))
  have hF := hF.then hfr (fun q (hq : 97 ≤ q ∧ q < 100) => (show 91 ≤ q ∧ q < 106 from by omega))
  refine ws_aload_n 4 C dX5_body_4 rfl ?_
  refine ws_iload_n 5 C dX5_body_5 rfl ?_
  refine ws_callV0 6 C dX5_body_6 vX5_142 (c_X5_isWord hM hA hR) rfl hM rfl rfl ⟨by decide, by decide⟩ ⟨Nat.zero_le _, Nat.zero_le _⟩ rfl rfl rfl (kR ?_)
  refine ws_if_eq 9 C 34 dX5_body_9 (by decide)  (fun c9 => ?_) (fun c9 => ?_)
  · skip
    have hf := fBody_1 (S := S) (y := y) (bix_0 c9)
    refine ws_sipush 34 C dX5_body_34 ((-1001)) (by decide) ?_
    exact ws_iret 37 C dX5_body_37 rfl (Nat.le_refl _) (Nat.le_refl _) (by rw [hP]; exact PM_ret (congrArg (fun t => (t, S)) hf) ⟨⟨_, _, hM⟩, ⟨_, hA, hR⟩, hKp, hH, hS, ⟨_, _, _, _, _, _, hp, hlf, hrt, hs_, hle, htk, hW.1 0 (Nat.zero_le _)⟩, hT, hB1, hB2⟩ hF)
  · skip
    obtain ⟨i, hi, hxi, hix⟩ := bix_1 (n := mn (sM S)) (by omega) c9
    refine ws_wk (lv2 := [some (.ref (ad κ 91)), some (.int (nI i)), some (.int (y))]) ⟨rfl, (congrArg Value.int hxi.symm), rfl, trivial⟩ ?_
    refine ws_aload_n 12 C dX5_body_12 rfl ?_
    refine ws_iload_n 13 C dX5_body_13 rfl ?_
    refine ws_callV0 14 C dX5_body_14 vX5_142 (c_X5_isWord hM hA hR) rfl hM rfl rfl ⟨by decide, by decide⟩ ⟨Nat.zero_le _, Nat.zero_le _⟩ rfl rfl rfl (kR ?_)
    refine ws_if_eq 17 C 34 dX5_body_17 (by decide)  (fun c17 => ?_) (fun c17 => ?_)
    · skip
      have hf := fBody_2 (S := S) (x := x) (bix_0 c17)
      refine ws_sipush 34 C dX5_body_34 ((-1001)) (by decide) ?_
      exact ws_iret 37 C dX5_body_37 rfl (Nat.le_refl _) (Nat.le_refl _) (by rw [hP]; exact PM_ret (congrArg (fun t => (t, S)) hf) ⟨⟨_, _, hM⟩, ⟨_, hA, hR⟩, hKp, hH, hS, ⟨_, _, _, _, _, _, hp, hlf, hrt, hs_, hle, htk, hW.1 0 (Nat.zero_le _)⟩, hT, hB1, hB2⟩ hF)
    · skip
      obtain ⟨j, hj, hyj, hjx⟩ := bix_1 (n := mn (sM S)) (by omega) c17
      refine ws_wk (lv2 := [some (.ref (ad κ 91)), some (.int (nI i)), some (.int (nI j))]) ⟨rfl, rfl, (congrArg Value.int hyj.symm), trivial⟩ ?_
      refine ws_iload_n 20 C dX5_body_20 rfl ?_
      refine ws_iload_n 21 C dX5_body_21 rfl ?_
      refine ws_nicmp_gt 22 C 34 dX5_body_22 (by decide) (by omega) (by omega) (fun c22 => ?_) (fun c22 => ?_)
      · skip
        have hf := fBody_3 (S := S) hix hjx (by omega)
        refine ws_sipush 34 C dX5_body_34 ((-1001)) (by decide) ?_
        exact ws_iret 37 C dX5_body_37 rfl (Nat.le_refl _) (Nat.le_refl _) (by rw [hP]; exact PM_ret (congrArg (fun t => (t, S)) hf) ⟨⟨_, _, hM⟩, ⟨_, hA, hR⟩, hKp, hH, hS, ⟨_, _, _, _, _, _, hp, hlf, hrt, hs_, hle, htk, hW.1 0 (Nat.zero_le _)⟩, hT, hB1, hB2⟩ hF)
      · skip
        have hf := fBody_4 (S := S) hix hjx c22
        refine ws_aload_n 25 C dX5_body_25 rfl ?_
        refine ws_iload_n 26 C dX5_body_26 rfl ?_
        refine ws_iload_n 27 C dX5_body_27 rfl ?_
        refine ws_callV0 28 C dX5_body_28 vX5_92 (c_X5_bodyOf hM hA hR hp hlf hrt hW c22 hj) rfl hM rfl rfl ⟨by decide, by decide⟩ ⟨Nat.zero_le _, Nat.zero_le _⟩ rfl rfl rfl (kR ?_)
        refine ws_goto 31 C 37 dX5_body_31 (by decide) ?_
        exact ws_iret 37 C dX5_body_37 rfl (Nat.le_refl _) (Nat.le_refl _) (by rw [hP]; exact PM_ret (congrArg (fun t => (t, S)) hf) ⟨⟨_, _, hM⟩, ⟨_, hA, hR⟩, hKp, hH, hS, ⟨_, _, _, _, _, _, hp, hlf, hrt, hs_, hle, htk, hW.1 0 (Nat.zero_le _)⟩, hT, hB1, hB2⟩ hF)
end
