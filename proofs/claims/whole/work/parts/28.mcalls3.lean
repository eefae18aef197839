section
variable {zl : Launch} {κ : Kt} {z : Nat} {st0 : St}
set_option maxRecDepth 100000 in
set_option maxHeartbeats 4000000 in
theorem c_X5_leastMeasure {S : Sg} (hX : MI κ z st0 S) {x : Int32} : CT zl κ yX5_leastMeasure cX5_leastMeasure 5 (some .int) (r0 5 111) z [.ref (ad κ 91), .int (x)] st0 (PM κ z st0 (fLeast S x, S)) := by
  obtain ⟨P, hP⟩ : ∃ P : Option Value → St → Prop, P = (PM κ z st0 (fLeast S x, S)) := ⟨_, rfl⟩
  rw [← hP]
  refine CT.of (by decide +kernel) (Nat.le_of_ble_eq_true rfl) (fun zp ze zs zm zar zbe zme zc C _ => ?_)
  have C : Cx zp zs zm zar zme zc κ cX5_leastMeasure 5 RX5 (some .int) := C
  refine ws_lv (lv2 := [some (.ref (ad κ 91)), some (.int (x)), none, none, none]) rfl ?_
  obtain ⟨⟨y1, y3, hM⟩, ⟨a, hA, hR⟩, hKp, hH, hS, hSc, hT, hB1, hB2⟩ := hX
  have h24 := hR.le
  have hF : Fr (fun q : Nat => 91 ≤ q ∧ q < 106) st0 st0 := Fr.rf
  refine ws_iload_n 0 C dX5_leastMeasure_0 rfl ?_
  refine ws_i2l 1 C dX5_leastMeasure_1 (x.toInt64) rfl ?_
  refine ws_lconst 2 C dX5_leastMeasure_2 1 (by decide) ?_
  refine ws_ldc2 3 C dX5_leastMeasure_3 (24) k581 ?_
  refine ws_callS0 6 C dX5_leastMeasure_6 vX5_58 (c_X5_in (inL_32 x (nI 1) (nI 24) (by decide) (by decide))) rfl ⟨by decide, by decide⟩ ⟨Nat.zero_le _, Nat.zero_le _⟩ rfl rfl rfl (kR ?_)
  refine ws_if_ne 9 C 16 dX5_leastMeasure_9 (by decide)  (fun c9 => ?_) (fun c9 => ?_)
  · skip
    obtain ⟨L, hL0, hL24, hxL⟩ := rng24 (if01_y c9).1 (if01_y c9).2
    have hfl := fLeast_s (S := S) hxL hL0 hL24
    refine ws_wk (lv2 := [some (.ref (ad κ 91)), some (.int (nI L)), none, none, none]) ⟨rfl, (congrArg Value.int hxL.symm), trivial⟩ ?_
    refine ws_aload_n 16 C dX5_leastMeasure_16 rfl ?_
    refine ws_get 17 C dX5_leastMeasure_17 fX5_7 hM rfl rfl ?_
    refine ws_iconst 20 C dX5_leastMeasure_20 (nI 0) (by decide) ?_
    refine ws_iald 21 C dX5_leastMeasure_21 hA 0 rfl (vp_in_nI (by omega) (by decide)) (mv (sM S) 0 0) ((congrArg a (nI_clamp (by omega))).trans (hR.set (by omega))) ?_
    refine ws_istore_n 22 C dX5_leastMeasure_22 rfl [some (.ref (ad κ 91)), some (.int (nI L)), some (.int (mv (sM S) 0 0)), none, none] rfl ?_
    refine ws_sipush 23 C dX5_leastMeasure_23 ((-1006)) (by decide) ?_
    refine ws_istore_n 26 C dX5_leastMeasure_26 rfl [some (.ref (ad κ 91)), some (.int (nI L)), some (.int (mv (sM S) 0 0)), some (.int ((-1006))), none] rfl ?_
    refine ws_sipush 27 C dX5_leastMeasure_27 (nI 200) (by decide) ?_
    refine ws_istore 30 C dX5_leastMeasure_30 rfl [some (.ref (ad κ 91)), some (.int (nI L)), some (.int (mv (sM S) 0 0)), some (.int ((-1006))), some (.int (nI 200))] rfl ?_
    refine ws_wk (lv2 := [some (.ref (ad κ 91)), some (.int (nI L)), some (.int (mv (sM S) 0 0)), some (.int ((-1006))), some (.int (nI (200 - 0)))]) ⟨rfl, rfl, rfl, rfl, rfl, trivial⟩ ?_
    have L32 : ∀ d : Nat, d ≤ 181 → ∀ (xx : Int32), ∀ (g : Nat → Int32), ∀ (yy : Int32), ∀ (hx : xx = lsmf (sM S) L d (201 - d)), ∀ (hg : ∀ j, j ≠ 0 → g j = a j), ∀ (st1 : St), ∀ (hM : Ob z st1 91 (bMo κ (nI (sHn S)) yy (nI (sPn S)) y3)), ∀ (hA : Ob z st1 92 (bA κ 293 g)), ∀ (hKp : AnyA κ z st1 93 293), ∀ (hH : HmP κ z st1 (sH S) (sHn S)), ∀ (hS : SmP κ z st1 (sSl S) (sFd S)), ∀ (hSc : ScP κ z st1), ∀ (hT : TmP κ z st1 (sPt S) (sPn S)), ∀ (hB1 : AnyA κ z st1 104 31), ∀ (hB2 : AnyA κ z st1 105 31), ∀ (hF : Fr (fun q : Nat => 91 ≤ q ∧ q < 106) st0 st1), WS zp zl ze (r0 5 111) zs zm zar zbe zme zc κ z 0 0 (QM zbe zar zs κ z (r0 5 111) P) st1 32 [some (.ref (ad κ 91)), some (.int (nI L)), some (.int (mv (sM S) 0 0)), some (.int (xx)), some (.int (nI (200 - d)))] [] := by
      refine dnw ?_
      intro d hd ih32 xx g yy hx hg st1 hM hA hKp hH hS hSc hT hB1 hB2 hF
      refine ws_iload 32 C dX5_leastMeasure_32 rfl ?_
      refine ws_bipush 34 C dX5_leastMeasure_34 (nI 20) (by decide) ?_
      refine ws_nicmp_lt 36 C 72 dX5_leastMeasure_36 (by decide) (by omega) (by omega) (fun c36 => ?_) (fun c36 => ?_)
      · skip
        have hf : fLeast S x = xx := by rw [hfl, hx, show d = 181 from by omega]
        refine ws_aload_n 72 C dX5_leastMeasure_72 rfl ?_
        refine ws_get 73 C dX5_leastMeasure_73 fX5_7 hM rfl rfl ?_
        refine ws_iconst 76 C dX5_leastMeasure_76 (nI 0) (by decide) ?_
        refine ws_iload_n 77 C dX5_leastMeasure_77 rfl ?_
        refine ws_iast 78 C dX5_leastMeasure_78 hA 0 rfl (vp_in_nI (by omega) (by decide)) 0 (nI_clamp (by omega)) (mv (sM S) 0 0) rfl (fun st2 est2 => ?_)
        have hM := hM.ne' (L := 1) est2 rfl (by omega)
        have hA : Ob z st2 92 (bA κ 293 (upd g 0 (mv (sM S) 0 0))) := Ob.put' (j := 0) hA est2 rfl
        have hKp := hKp.fr (Fr.one est2) (fun q (g1 : 93 ≤ q) (g2 : q < 94) => (show ¬ (q = 92) from by omega))
        have hH := hH.fr (Fr.one est2) (fun q (g1 : 94 ≤ q) (g2 : q < 95) => (show ¬ (q = 92) from by omega))
        have hS := hS.fr (Fr.one est2) (fun q (g1 : 95 ≤ q) (g2 : q < 97) => (show ¬ (q = 92) from by omega))
        have hSc := hSc.fr (Fr.one est2) (fun q (g1 : 97 ≤ q) (g2 : q < 103) => (show ¬ (q = 92) from by omega))
        have hT := hT.fr (Fr.one est2) (fun q (g1 : 103 ≤ q) (g2 : q < 104) => (show ¬ (q = 92) from by omega))
        have hB1 := hB1.fr (Fr.one est2) (fun q (g1 : 104 ≤ q) (g2 : q < 105) => (show ¬ (q = 92) from by omega))
        have hB2 := hB2.fr (Fr.one est2) (fun q (g1 : 105 ≤ q) (g2 : q < 106) => (show ¬ (q = 92) from by omega))
        have hF := hF.put' est2 (show 91 ≤ (92) ∧ (92) < 106 from by omega)
        refine ws_iload_n 79 C dX5_leastMeasure_79 rfl ?_
        exact ws_iret 80 C dX5_leastMeasure_80 rfl (Nat.le_refl _) (Nat.le_refl _) (by rw [hP]; exact PM_ret (congrArg (fun t => (t, S)) hf) ⟨⟨_, _, hM⟩, ⟨_, hA, Rm_back hR (hR.set (show 0 < 4 from by omega)).symm hg⟩, hKp, hH, hS, hSc, hT, hB1, hB2⟩ hF)
      · skip
        have hd181 : d < 181 := by omega
        have hRm : Rm (muSet (sM S) 0 (nI (200 - d))) (upd g 0 (nI (200 - d))) := Rm_meas hR hg
        refine ws_aload_n 39 C dX5_leastMeasure_39 rfl ?_
        refine ws_get 40 C dX5_leastMeasure_40 fX5_7 hM rfl rfl ?_
        refine ws_iconst 43 C dX5_leastMeasure_43 (nI 0) (by decide) ?_
        refine ws_iload 44 C dX5_leastMeasure_44 rfl ?_
        refine ws_iast 46 C dX5_leastMeasure_46 hA 0 rfl (vp_in_nI (by omega) (by decide)) 0 (nI_clamp (by omega)) (nI (200 - d)) rfl (fun st3 est3 => ?_)
        have hM := hM.ne' (L := 1) est3 rfl (by omega)
        have hA : Ob z st3 92 (bA κ 293 (upd g 0 (nI (200 - d)))) := Ob.put' (j := 0) hA est3 rfl
        have hKp := hKp.fr (Fr.one est3) (fun q (g1 : 93 ≤ q) (g2 : q < 94) => (show ¬ (q = 92) from by omega))
        have hH := hH.fr (Fr.one est3) (fun q (g1 : 94 ≤ q) (g2 : q < 95) => (show ¬ (q = 92) from by omega))
        have hS := hS.fr (Fr.one est3) (fun q (g1 : 95 ≤ q) (g2 : q < 97) => (show ¬ (q = 92) from by omega))
        have hSc := hSc.fr (Fr.one est3) (fun q (g1 : 97 ≤ q) (g2 : q < 103) => (show ¬ (q = 92) from by omega))
        have hT := hT.fr (Fr.one est3) (fun q (g1 : 103 ≤ q) (g2 : q < 104) => (show ¬ (q = 92) from by omega))
        have hB1 := hB1.fr (Fr.one est3) (fun q (g1 : 104 ≤ q) (g2 : q < 105) => (show ¬ (q = 92) from by omega))
        have hB2 := hB2.fr (Fr.one est3) (fun q (g1 : 105 ≤ q) (g2 : q < 106) => (show ¬ (q = 92) from by omega))
        have hF := hF.put' est3 (show 91 ≤ (92) ∧ (92) < 106 from by omega)
        refine ws_aload_n 47 C dX5_leastMeasure_47 rfl ?_
        refine ws_callV0 48 C dX5_leastMeasure_48 vX5_108 (c_X5_fills hM hA hRm hSc) rfl hM rfl rfl ⟨by decide, by decide⟩ ⟨Nat.zero_le _, Nat.zero_le _⟩ rfl rfl rfl (kV (fun u48 h48 => ?_))
        obtain ⟨⟨hM, hMb⟩, hfr⟩ := h48
        have hSc := hMb.sc
        rw [lnm_set] at hM
        have hlle : lnm (sM S) (200 - d) ≤ mn (sM S) := (lno_br (gx_adv _ _ _)).le (gx_adv _ _ _)
        have hKp := hKp.fr hfr (fun q (g1 : 93 ≤ q) (g2 : q < 94) => (show ¬ (q = 91 ∨ (97 ≤ q ∧ q < 103)) from by omega))
        have hH := hH.fr hfr (fun q (g1 : 94 ≤ q) (g2 : q < 95) => (show ¬ (q = 91 ∨ (97 ≤ q ∧ q < 103)) from by omega))
        have hS := hS.fr hfr (fun q (g1 : 95 ≤ q) (g2 : q < 97) => (show ¬ (q = 91 ∨ (97 ≤ q ∧ q < 103)) from by omega))
        have hT := hT.fr hfr (fun q (g1 : 103 ≤ q) (g2 : q < 104) => (show ¬ (q = 91 ∨ (97 ≤ q ∧ q < 103)) from by omega))
        have hB1 := hB1.fr hfr (fun q (g1 : 104 ≤ q) (g2 : q < 105) => (show ¬ (q = 91 ∨ (97 ≤ q ∧ q < 103)) from by omega))
        have hB2 := hB2.fr hfr (fun q (g1 : 105 ≤ q) (g2 : q < 106) => (show ¬ (q = 91 ∨ (97 ≤ q ∧ q < 103)) from by omega))
        have hA := hfr.ob hA (fun q (g1 : 92 ≤ q) (g2 : q < 92 + 1) => (show ¬ (q = 91 ∨ (97 ≤ q ∧ q < 103)) from by omega))
        have hF := hF.then hfr (fun q (hq : q = 91 ∨ (97 ≤ q ∧ q < 103)) => (show 91 ≤ q ∧ q < 106 from by omega))
        refine ws_aload_n 51 C dX5_leastMeasure_51 rfl ?_
        refine ws_get 52 C dX5_leastMeasure_52 fX5_98 hM rfl rfl ?_
        refine ws_iload_n 55 C dX5_leastMeasure_55 rfl ?_
        refine ws_nicmp_gt 56 C 64 dX5_leastMeasure_56 (by decide) (by omega) (by omega) (fun c56 => ?_) (fun c56 => ?_)
        · skip
          have hxn : xx = lsmf (sM S) L (d + 1) (201 - (d + 1)) := by rw [show 201 - (d + 1) = 200 - d from by omega, lsm_d (by omega), if_neg (by omega)]; exact hx
          refine ws_iload_n 64 C dX5_leastMeasure_64 rfl ?_
          refine ws_istore_n 65 C dX5_leastMeasure_65 rfl [some (.ref (ad κ 91)), some (.int (nI L)), some (.int (mv (sM S) 0 0)), some (.int (xx)), some (.int (nI (200 - d)))] rfl ?_
          refine ws_iinc 66 C dX5_leastMeasure_66 rfl (nI (200 - (d + 1))) (dec_n (by omega)) rfl [some (.ref (ad κ 91)), some (.int (nI L)), some (.int (mv (sM S) 0 0)), some (.int (xx)), some (.int (nI (200 - (d + 1))))] rfl ?_
          refine ws_goto 69 C 32 dX5_leastMeasure_69 (by decide) ?_
          exact ih32 hd181 _ (upd g 0 (nI (200 - d))) (nI (lnm (sM S) (200 - d))) hxn (upd_oth hg) u48 hM hA hKp hH hS hSc hT hB1 hB2 hF
        · skip
          have hxn : nI (200 - d) = lsmf (sM S) L (d + 1) (201 - (d + 1)) := by rw [show 201 - (d + 1) = 200 - d from by omega, lsm_d (by omega), if_pos c56]
          refine ws_iload 59 C dX5_leastMeasure_59 rfl ?_
          refine ws_goto 61 C 65 dX5_leastMeasure_61 (by decide) ?_
          refine ws_istore_n 65 C dX5_leastMeasure_65 rfl [some (.ref (ad κ 91)), some (.int (nI L)), some (.int (mv (sM S) 0 0)), some (.int (nI (200 - d))), some (.int (nI (200 - d)))] rfl ?_
          refine ws_iinc 66 C dX5_leastMeasure_66 rfl (nI (200 - (d + 1))) (dec_n (by omega)) rfl [some (.ref (ad κ 91)), some (.int (nI L)), some (.int (mv (sM S) 0 0)), some (.int (nI (200 - d))), some (.int (nI (200 - (d + 1))))] rfl ?_
          refine ws_goto 69 C 32 dX5_leastMeasure_69 (by decide) ?_
          exact ih32 hd181 _ (upd g 0 (nI (200 - d))) (nI (lnm (sM S) (200 - d))) hxn (upd_oth hg) u48 hM hA hKp hH hS hSc hT hB1 hB2 hF
    exact L32 0 (Nat.zero_le _) (-1006) a y1 rfl (fun j hj => rfl) st0 hM hA hKp hH hS hSc hT hB1 hB2 hF
  · skip
    have hf := fLeast_b (S := S) (if01_n c9)
    refine ws_sipush 12 C dX5_leastMeasure_12 ((-1002)) (by decide) ?_
    exact ws_iret 15 C dX5_leastMeasure_15 rfl (Nat.le_refl _) (Nat.le_refl _) (by rw [hP]; exact PM_ret (congrArg (fun t => (t, S)) hf) ⟨⟨_, _, hM⟩, ⟨_, hA, hR⟩, hKp, hH, hS, hSc, hT, hB1, hB2⟩ hF)

set_option maxRecDepth 100000 in
set_option maxHeartbeats 4000000 in
theorem c_X5_bestShare {S : Sg} (hX : MI κ z st0 S) {x : Int32} : CT zl κ yX5_bestShare cX5_bestShare 7 (some .int) (r0 6 131) z [.ref (ad κ 91), .int (x)] st0 (PM κ z st0 (fBest S x, S)) := by
  obtain ⟨P, hP⟩ : ∃ P : Option Value → St → Prop, P = (PM κ z st0 (fBest S x, S)) := ⟨_, rfl⟩
  rw [← hP]
  refine CT.of (by decide +kernel) (Nat.le_of_ble_eq_true rfl) (fun zp ze zs zm zar zbe zme zc C _ => ?_)
  have C : Cx zp zs zm zar zme zc κ cX5_bestShare 7 RX5 (some .int) := C
  refine ws_lv (lv2 := [some (.ref (ad κ 91)), some (.int (x)), none, none, none, none, none]) rfl ?_
  obtain ⟨⟨y1, y3, hM⟩, ⟨a, hA, hR⟩, hKp, hH, hS, hSc, hT, hB1, hB2⟩ := hX
  have h24 := hR.le
  have hF : Fr (fun q : Nat => 91 ≤ q ∧ q < 106) st0 st0 := Fr.rf
  refine ws_iload_n 0 C dX5_bestShare_0 rfl ?_
  refine ws_callS0 1 C dX5_bestShare_1 vX5_137 (c_X5_isSort) rfl ⟨by decide, by decide⟩ ⟨Nat.zero_le _, Nat.zero_le _⟩ rfl rfl rfl (kR ?_)
  refine ws_if_ne 4 C 11 dX5_bestShare_4 (by decide)  (fun c4 => ?_) (fun c4 => ?_)
  · skip
    obtain ⟨q, hq, hxq, hix⟩ := bix_1 (n := 8) (by decide) c4
    refine ws_wk (lv2 := [some (.ref (ad κ 91)), some (.int (nI q)), none, none, none, none, none]) ⟨rfl, (congrArg Value.int hxq.symm), trivial⟩ ?_
    refine ws_aload_n 11 C dX5_bestShare_11 rfl ?_
    refine ws_get 12 C dX5_bestShare_12 fX5_7 hM rfl rfl ?_
    refine ws_bipush 15 C dX5_bestShare_15 (nI 21) (by decide) ?_
    refine ws_iload_n 17 C dX5_bestShare_17 rfl ?_
    refine ws_iadd 18 C dX5_bestShare_18 (nI (21 + q)) (nI_add _ _) ?_
    refine ws_iald 19 C dX5_bestShare_19 hA 0 rfl (vp_in_nI (by omega) (by decide)) (mv (sM S) 3 q) ((congrArg a (nI_clamp (by omega))).trans (hR.rig hq)) ?_
    refine ws_istore_n 20 C dX5_bestShare_20 rfl [some (.ref (ad κ 91)), some (.int (nI q)), some (.int (mv (sM S) 3 q)), none, none, none, none] rfl ?_
    refine ws_iconst 21 C dX5_bestShare_21 (nI 0) (by decide) ?_
    refine ws_istore_n 22 C dX5_bestShare_22 rfl [some (.ref (ad κ 91)), some (.int (nI q)), some (.int (mv (sM S) 3 q)), some (.int (nI 0)), none, none, none] rfl ?_
    refine ws_iconst 23 C dX5_bestShare_23 (nI 0) (by decide) ?_
    refine ws_istore 24 C dX5_bestShare_24 rfl [some (.ref (ad κ 91)), some (.int (nI q)), some (.int (mv (sM S) 3 q)), some (.int (nI 0)), some (.int (nI 0)), none, none] rfl ?_
    refine ws_iconst 26 C dX5_bestShare_26 (nI 0) (by decide) ?_
    refine ws_istore 27 C dX5_bestShare_27 rfl [some (.ref (ad κ 91)), some (.int (nI q)), some (.int (mv (sM S) 3 q)), some (.int (nI 0)), some (.int (nI 0)), some (.int (nI 0)), none] rfl ?_
    have L29 : ∀ k : Nat, k ≤ 101 → ∀ (g : Nat → Int32), ∀ (yy : Int32), ∀ (hg : ∀ j, j ≠ 21 + q → g j = a j), ∀ (st1 : St), ∀ (hM : Ob z st1 91 (bMo κ (nI (sHn S)) yy (nI (sPn S)) y3)), ∀ (hA : Ob z st1 92 (bA κ 293 g)), ∀ (hKp : AnyA κ z st1 93 293), ∀ (hH : HmP κ z st1 (sH S) (sHn S)), ∀ (hS : SmP κ z st1 (sSl S) (sFd S)), ∀ (hSc : ScP κ z st1), ∀ (hT : TmP κ z st1 (sPt S) (sPn S)), ∀ (hB1 : AnyA κ z st1 104 31), ∀ (hB2 : AnyA κ z st1 105 31), ∀ (hF : Fr (fun q : Nat => 91 ≤ q ∧ q < 106) st0 st1), WS zp zl ze (r0 6 131) zs zm zar zbe zme zc κ z 0 0 (QM zbe zar zs κ z (r0 6 131) P) st1 29 [some (.ref (ad κ 91)), some (.int (nI q)), some (.int (mv (sM S) 3 q)), some (.int (nI ((arg1 (fun r => lbd (muRight (sM S) q (nI r))) k).1))), some (.int ((arg1 (fun r => lbd (muRight (sM S) q (nI r))) k).2)), some (.int (nI k)), none] [] := by
      refine dnw ?_
      intro k hk ih29 g yy hg st1 hM hA hKp hH hS hSc hT hB1 hB2 hF
      refine ws_iload 29 C dX5_bestShare_29 rfl ?_
      refine ws_bipush 31 C dX5_bestShare_31 (nI 100) (by decide) ?_
      refine ws_nicmp_gt 33 C 99 dX5_bestShare_33 (by decide) (by omega) (by omega) (fun c33 => ?_) (fun c33 => ?_)
      · skip
        have hf : fBest S x = nI (arg1 (fun r => lbd (muRight (sM S) q (nI r))) k).1 := by rw [fBest_s hix, show k = 101 from by omega]
        refine ws_aload_n 99 C dX5_bestShare_99 rfl ?_
        refine ws_get 100 C dX5_bestShare_100 fX5_7 hM rfl rfl ?_
        refine ws_bipush 103 C dX5_bestShare_103 (nI 21) (by decide) ?_
        refine ws_iload_n 105 C dX5_bestShare_105 rfl ?_
        refine ws_iadd 106 C dX5_bestShare_106 (nI (21 + q)) (nI_add _ _) ?_
        refine ws_iload_n 107 C dX5_bestShare_107 rfl ?_
        refine ws_iast 108 C dX5_bestShare_108 hA 0 rfl (vp_in_nI (by omega) (by decide)) (21 + q) (nI_clamp (by omega)) (mv (sM S) 3 q) rfl (fun st2 est2 => ?_)
        have hM := hM.ne' (L := 1) est2 rfl (by omega)
        have hA : Ob z st2 92 (bA κ 293 (upd g (21 + q) (mv (sM S) 3 q))) := Ob.put' (j := 0) hA est2 rfl
        have hKp := hKp.fr (Fr.one est2) (fun q (g1 : 93 ≤ q) (g2 : q < 94) => (show ¬ (q = 92) from by omega))
        have hH := hH.fr (Fr.one est2) (fun q (g1 : 94 ≤ q) (g2 : q < 95) => (show ¬ (q = 92) from by omega))
        have hS := hS.fr (Fr.one est2) (fun q (g1 : 95 ≤ q) (g2 : q < 97) => (show ¬ (q = 92) from by omega))
        have hSc := hSc.fr (Fr.one est2) (fun q (g1 : 97 ≤ q) (g2 : q < 103) => (show ¬ (q = 92) from by omega))
        have hT := hT.fr (Fr.one est2) (fun q (g1 : 103 ≤ q) (g2 : q < 104) => (show ¬ (q = 92) from by omega))
        have hB1 := hB1.fr (Fr.one est2) (fun q (g1 : 104 ≤ q) (g2 : q < 105) => (show ¬ (q = 92) from by omega))
        have hB2 := hB2.fr (Fr.one est2) (fun q (g1 : 105 ≤ q) (g2 : q < 106) => (show ¬ (q = 92) from by omega))
        have hF := hF.put' est2 (show 91 ≤ (92) ∧ (92) < 106 from by omega)
        refine ws_iload_n 109 C dX5_bestShare_109 rfl ?_
        exact ws_iret 110 C dX5_bestShare_110 rfl (Nat.le_refl _) (Nat.le_refl _) (by rw [hP]; exact PM_ret (congrArg (fun t => (t, S)) hf) ⟨⟨_, _, hM⟩, ⟨_, hA, Rm_back hR (hR.rig hq).symm hg⟩, hKp, hH, hS, hSc, hT, hB1, hB2⟩ hF)
      · skip
        have hRk : Rm (muRight (sM S) q (nI k)) (upd g (21 + q) (nI k)) := Rm_rightg hR hq hg
        refine ws_aload_n 36 C dX5_bestShare_36 rfl ?_
        refine ws_get 37 C dX5_bestShare_37 fX5_7 hM rfl rfl ?_
        refine ws_bipush 40 C dX5_bestShare_40 (nI 21) (by decide) ?_
        refine ws_iload_n 42 C dX5_bestShare_42 rfl ?_
        refine ws_iadd 43 C dX5_bestShare_43 (nI (21 + q)) (nI_add _ _) ?_
        refine ws_iload 44 C dX5_bestShare_44 rfl ?_
        refine ws_iast 46 C dX5_bestShare_46 hA 0 rfl (vp_in_nI (by omega) (by decide)) (21 + q) (nI_clamp (by omega)) (nI k) rfl (fun st3 est3 => ?_)
        have hM := hM.ne' (L := 1) est3 rfl (by omega)
        have hA : Ob z st3 92 (bA κ 293 (upd g (21 + q) (nI k))) := Ob.put' (j := 0) hA est3 rfl
        have hKp := hKp.fr (Fr.one est3) (fun q (g1 : 93 ≤ q) (g2 : q < 94) => (show ¬ (q = 92) from by omega))
        have hH := hH.fr (Fr.one est3) (fun q (g1 : 94 ≤ q) (g2 : q < 95) => (show ¬ (q = 92) from by omega))
        have hS := hS.fr (Fr.one est3) (fun q (g1 : 95 ≤ q) (g2 : q < 97) => (show ¬ (q = 92) from by omega))
        have hSc := hSc.fr (Fr.one est3) (fun q (g1 : 97 ≤ q) (g2 : q < 103) => (show ¬ (q = 92) from by omega))
        have hT := hT.fr (Fr.one est3) (fun q (g1 : 103 ≤ q) (g2 : q < 104) => (show ¬ (q = 92) from by omega))
        have hB1 := hB1.fr (Fr.one est3) (fun q (g1 : 104 ≤ q) (g2 : q < 105) => (show ¬ (q = 92) from by omega))
        have hB2 := hB2.fr (Fr.one est3) (fun q (g1 : 105 ≤ q) (g2 : q < 106) => (show ¬ (q = 92) from by omega))
        have hF := hF.put' est3 (show 91 ≤ (92) ∧ (92) < 106 from by omega)
        refine ws_aload_n 47 C dX5_bestShare_47 rfl ?_
        refine ws_callV0 48 C dX5_bestShare_48 vX5_182 (c_X5_bestBadness hM hA hRk hSc) rfl hM rfl rfl ⟨by decide, by decide⟩ ⟨Nat.zero_le _, Nat.zero_le _⟩ rfl rfl rfl (kI' (fun r48 u48 h48 => ?_))
        obtain ⟨⟨hr, hM, hSc⟩, hfr⟩ := h48
        have hr : r48 = lbd (muRight (sM S) q (nI k)) := hr
        have hKp := hKp.fr hfr (fun q (g1 : 93 ≤ q) (g2 : q < 94) => (show ¬ (q = 91 ∨ (97 ≤ q ∧ q < 103)) from by omega))
        have hH := hH.fr hfr (fun q (g1 : 94 ≤ q) (g2 : q < 95) => (show ¬ (q = 91 ∨ (97 ≤ q ∧ q < 103)) from by omega))
        have hS := hS.fr hfr (fun q (g1 : 95 ≤ q) (g2 : q < 97) => (show ¬ (q = 91 ∨ (97 ≤ q ∧ q < 103)) from by omega))
        have hT := hT.fr hfr (fun q (g1 : 103 ≤ q) (g2 : q < 104) => (show ¬ (q = 91 ∨ (97 ≤ q ∧ q < 103)) from by omega))
        have hB1 := hB1.fr hfr (fun q (g1 : 104 ≤ q) (g2 : q < 105) => (show ¬ (q = 91 ∨ (97 ≤ q ∧ q < 103)) from by omega))
        have hB2 := hB2.fr hfr (fun q (g1 : 105 ≤ q) (g2 : q < 106) => (show ¬ (q = 91 ∨ (97 ≤ q ∧ q < 103)) from by omega))
        have hA := hfr.ob hA (fun q (g1 : 92 ≤ q) (g2 : q < 92 + 1) => (show ¬ (q = 91 ∨ (97 ≤ q ∧ q < 103)) from by omega))
        have hF := hF.then hfr (fun q (hq : q = 91 ∨ (97 ≤ q ∧ q < 103)) => (show 91 ≤ q ∧ q < 106 from by omega))
        refine ws_istore 51 C dX5_bestShare_51 rfl [some (.ref (ad κ 91)), some (.int (nI q)), some (.int (mv (sM S) 3 q)), some (.int (nI ((arg1 (fun r => lbd (muRight (sM S) q (nI r))) k).1))), some (.int ((arg1 (fun r => lbd (muRight (sM S) q (nI r))) k).2)), some (.int (nI k)), some (.int (r48))] rfl ?_
        refine ws_iload 53 C dX5_bestShare_53 rfl ?_
        refine ws_nif_eq 55 C 65 dX5_bestShare_55 (by decide) (by omega) (fun c55 => ?_) (fun c55 => ?_)
        · skip
          have hy := arg1_y (f := (fun r => lbd (muRight (sM S) q (nI r)))) (k := k) (Or.inl c55)
          refine ws_iload 65 C dX5_bestShare_65 rfl ?_
          refine ws_goto 67 C 71 dX5_bestShare_67 (by decide) ?_
          refine ws_istore_n 71 C dX5_bestShare_71 rfl [some (.ref (ad κ 91)), some (.int (nI q)), some (.int (mv (sM S) 3 q)), some (.int (nI k)), some (.int ((arg1 (fun r => lbd (muRight (sM S) q (nI r))) k).2)), some (.int (nI k)), some (.int (r48))] rfl ?_
          refine ws_wk (lv2 := [some (.ref (ad κ 91)), some (.int (nI q)), some (.int (mv (sM S) 3 q)), some (.int (nI ((arg1 (fun r => lbd (muRight (sM S) q (nI r))) (k + 1)).1))), some (.int ((arg1 (fun r => lbd (muRight (sM S) q (nI r))) k).2)), some (.int (nI k)), some (.int (r48))]) ⟨rfl, rfl, rfl, (congrArg (fun t : Nat × Int32 => Value.int (nI t.1)) hy), rfl, rfl, rfl, trivial⟩ ?_
          refine ws_iload 72 C dX5_bestShare_72 rfl ?_
          refine ws_nif_eq 74 C 84 dX5_bestShare_74 (by decide) (by omega) (fun c74 => ?_) (fun c74 => ?_)
          · skip
            refine ws_iload 84 C dX5_bestShare_84 rfl ?_
            refine ws_goto 86 C 91 dX5_bestShare_86 (by decide) ?_
            refine ws_istore 91 C dX5_bestShare_91 rfl [some (.ref (ad κ 91)), some (.int (nI q)), some (.int (mv (sM S) 3 q)), some (.int (nI ((arg1 (fun r => lbd (muRight (sM S) q (nI r))) (k + 1)).1))), some (.int (r48)), some (.int (nI k)), some (.int (r48))] rfl ?_
            refine ws_wk (lv2 := [some (.ref (ad κ 91)), some (.int (nI q)), some (.int (mv (sM S) 3 q)), some (.int (nI ((arg1 (fun r => lbd (muRight (sM S) q (nI r))) (k + 1)).1))), some (.int ((arg1 (fun r => lbd (muRight (sM S) q (nI r))) (k + 1)).2)), some (.int (nI k)), some (.int (r48))]) ⟨rfl, rfl, rfl, rfl, ((congrArg (fun t : Nat × Int32 => Value.int t.2) hy).trans (congrArg Value.int hr.symm)), rfl, rfl, trivial⟩ ?_
            refine ws_iinc 93 C dX5_bestShare_93 rfl (nI (k + 1)) (nI_1 _) rfl [some (.ref (ad κ 91)), some (.int (nI q)), some (.int (mv (sM S) 3 q)), some (.int (nI ((arg1 (fun r => lbd (muRight (sM S) q (nI r))) (k + 1)).1))), some (.int ((arg1 (fun r => lbd (muRight (sM S) q (nI r))) (k + 1)).2)), some (.int (nI (k + 1))), some (.int (r48))] rfl ?_
            refine ws_goto 96 C 29 dX5_bestShare_96 (by decide) ?_
            refine ws_wk (lv2 := [some (.ref (ad κ 91)), some (.int (nI q)), some (.int (mv (sM S) 3 q)), some (.int (nI ((arg1 (fun r => lbd (muRight (sM S) q (nI r))) (k + 1)).1))), some (.int ((arg1 (fun r => lbd (muRight (sM S) q (nI r))) (k + 1)).2)), some (.int (nI (k + 1))), none]) ⟨rfl, rfl, rfl, rfl, rfl, rfl, trivial⟩ ?_
            exact ih29 (by omega) (upd g (21 + q) (nI k)) (nI (lno (nb (bo (muRight (sM S) q (nI k))) (mv (muRight (sM S) q (nI k)) 0 0) (mn (muRight (sM S) q (nI k)))) (mn (muRight (sM S) q (nI k))))) (upd_oth hg) u48 hM hA hKp hH hS hSc hT hB1 hB2 hF
          · skip
            (exfalso; omega)
        · skip
          refine ws_iload 58 C dX5_bestShare_58 rfl ?_
          refine ws_iload 60 C dX5_bestShare_60 rfl ?_
          refine ws_icmp_ge 62 C 70 dX5_bestShare_62 (by decide)  (fun c62 => ?_) (fun c62 => ?_)
          · skip
            have hy := arg1_n (f := (fun r => lbd (muRight (sM S) q (nI r)))) (k := k) (fun z => by rcases z with z | z; exact c55 z; exact Int32.not_lt.mpr c62 (by rw [hr]; exact z))
            refine ws_iload_n 70 C dX5_bestShare_70 rfl ?_
            refine ws_istore_n 71 C dX5_bestShare_71 rfl [some (.ref (ad κ 91)), some (.int (nI q)), some (.int (mv (sM S) 3 q)), some (.int (nI ((arg1 (fun r => lbd (muRight (sM S) q (nI r))) k).1))), some (.int ((arg1 (fun r => lbd (muRight (sM S) q (nI r))) k).2)), some (.int (nI k)), some (.int (r48))] rfl ?_
            refine ws_wk (lv2 := [some (.ref (ad κ 91)), some (.int (nI q)), some (.int (mv (sM S) 3 q)), some (.int (nI ((arg1 (fun r => lbd (muRight (sM S) q (nI r))) (k + 1)).1))), some (.int ((arg1 (fun r => lbd (muRight (sM S) q (nI r))) k).2)), some (.int (nI k)), some (.int (r48))]) ⟨rfl, rfl, rfl, (congrArg (fun t : Nat × Int32 => Value.int (nI t.1)) hy), rfl, rfl, rfl, trivial⟩ ?_
            refine ws_iload 72 C dX5_bestShare_72 rfl ?_
            refine ws_nif_eq 74 C 84 dX5_bestShare_74 (by decide) (by omega) (fun c74 => ?_) (fun c74 => ?_)
            · skip
              (exfalso; omega)
            · skip
              refine ws_iload 77 C dX5_bestShare_77 rfl ?_
              refine ws_iload 79 C dX5_bestShare_79 rfl ?_
              refine ws_icmp_ge 81 C 89 dX5_bestShare_81 (by decide)  (fun c81 => ?_) (fun c81 => ?_)
              · skip
                refine ws_iload 89 C dX5_bestShare_89 rfl ?_
                refine ws_istore 91 C dX5_bestShare_91 rfl [some (.ref (ad κ 91)), some (.int (nI q)), some (.int (mv (sM S) 3 q)), some (.int (nI ((arg1 (fun r => lbd (muRight (sM S) q (nI r))) (k + 1)).1))), some (.int ((arg1 (fun r => lbd (muRight (sM S) q (nI r))) k).2)), some (.int (nI k)), some (.int (r48))] rfl ?_
                refine ws_wk (lv2 := [some (.ref (ad κ 91)), some (.int (nI q)), some (.int (mv (sM S) 3 q)), some (.int (nI ((arg1 (fun r => lbd (muRight (sM S) q (nI r))) (k + 1)).1))), some (.int ((arg1 (fun r => lbd (muRight (sM S) q (nI r))) (k + 1)).2)), some (.int (nI k)), some (.int (r48))]) ⟨rfl, rfl, rfl, rfl, (congrArg (fun t : Nat × Int32 => Value.int t.2) hy), rfl, rfl, trivial⟩ ?_
                refine ws_iinc 93 C dX5_bestShare_93 rfl (nI (k + 1)) (nI_1 _) rfl [some (.ref (ad κ 91)), some (.int (nI q)), some (.int (mv (sM S) 3 q)), some (.int (nI ((arg1 (fun r => lbd (muRight (sM S) q (nI r))) (k + 1)).1))), some (.int ((arg1 (fun r => lbd (muRight (sM S) q (nI r))) (k + 1)).2)), some (.int (nI (k + 1))), some (.int (r48))] rfl ?_
                refine ws_goto 96 C 29 dX5_bestShare_96 (by decide) ?_
                refine ws_wk (lv2 := [some (.ref (ad κ 91)), some (.int (nI q)), some (.int (mv (sM S) 3 q)), some (.int (nI ((arg1 (fun r => lbd (muRight (sM S) q (nI r))) (k + 1)).1))), some (.int ((arg1 (fun r => lbd (muRight (sM S) q (nI r))) (k + 1)).2)), some (.int (nI (k + 1))), none]) ⟨rfl, rfl, rfl, rfl, rfl, rfl, trivial⟩ ?_
                exact ih29 (by omega) (upd g (21 + q) (nI k)) (nI (lno (nb (bo (muRight (sM S) q (nI k))) (mv (muRight (sM S) q (nI k)) 0 0) (mn (muRight (sM S) q (nI k)))) (mn (muRight (sM S) q (nI k))))) (upd_oth hg) u48 hM hA hKp hH hS hSc hT hB1 hB2 hF
              · skip
                exact absurd c81 (fun q => q c62)
          · skip
            have hy := arg1_y (f := (fun r => lbd (muRight (sM S) q (nI r)))) (k := k) (Or.inr (by show lbd _ < _; rw [← hr]; exact Int32.not_le.mp c62))
            refine ws_iload 65 C dX5_bestShare_65 rfl ?_
            refine ws_goto 67 C 71 dX5_bestShare_67 (by decide) ?_
            refine ws_istore_n 71 C dX5_bestShare_71 rfl [some (.ref (ad κ 91)), some (.int (nI q)), some (.int (mv (sM S) 3 q)), some (.int (nI k)), some (.int ((arg1 (fun r => lbd (muRight (sM S) q (nI r))) k).2)), some (.int (nI k)), some (.int (r48))] rfl ?_
            refine ws_wk (lv2 := [some (.ref (ad κ 91)), some (.int (nI q)), some (.int (mv (sM S) 3 q)), some (.int (nI ((arg1 (fun r => lbd (muRight (sM S) q (nI r))) (k + 1)).1))), some (.int ((arg1 (fun r => lbd (muRight (sM S) q (nI r))) k).2)), some (.int (nI k)), some (.int (r48))]) ⟨rfl, rfl, rfl, (congrArg (fun t : Nat × Int32 => Value.int (nI t.1)) hy), rfl, rfl, rfl, trivial⟩ ?_
            refine ws_iload 72 C dX5_bestShare_72 rfl ?_
            refine ws_nif_eq 74 C 84 dX5_bestShare_74 (by decide) (by omega) (fun c74 => ?_) (fun c74 => ?_)
            · skip
              (exfalso; omega)
            · skip
              refine ws_iload 77 C dX5_bestShare_77 rfl ?_
              refine ws_iload 79 C dX5_bestShare_79 rfl ?_
              refine ws_icmp_ge 81 C 89 dX5_bestShare_81 (by decide)  (fun c81 => ?_) (fun c81 => ?_)
              · skip
                exact absurd c81 c62
              · skip
                refine ws_iload 84 C dX5_bestShare_84 rfl ?_
                refine ws_goto 86 C 91 dX5_bestShare_86 (by decide) ?_
                refine ws_istore 91 C dX5_bestShare_91 rfl [some (.ref (ad κ 91)), some (.int (nI q)), some (.int (mv (sM S) 3 q)), some (.int (nI ((arg1 (fun r => lbd (muRight (sM S) q (nI r))) (k + 1)).1))), some (.int (r48)), some (.int (nI k)), some (.int (r48))] rfl ?_
                refine ws_wk (lv2 := [some (.ref (ad κ 91)), some (.int (nI q)), some (.int (mv (sM S) 3 q)), some (.int (nI ((arg1 (fun r => lbd (muRight (sM S) q (nI r))) (k + 1)).1))), some (.int ((arg1 (fun r => lbd (muRight (sM S) q (nI r))) (k + 1)).2)), some (.int (nI k)), some (.int (r48))]) ⟨rfl, rfl, rfl, rfl, ((congrArg (fun t : Nat × Int32 => Value.int t.2) hy).trans (congrArg Value.int hr.symm)), rfl, rfl, trivial⟩ ?_
                refine ws_iinc 93 C dX5_bestShare_93 rfl (nI (k + 1)) (nI_1 _) rfl [some (.ref (ad κ 91)), some (.int (nI q)), some (.int (mv (sM S) 3 q)), some (.int (nI ((arg1 (fun r => lbd (muRight (sM S) q (nI r))) (k + 1)).1))), some (.int ((arg1 (fun r => lbd (muRight (sM S) q (nI r))) (k + 1)).2)), some (.int (nI (k + 1))), some (.int (r48))] rfl ?_
                refine ws_goto 96 C 29 dX5_bestShare_96 (by decide) ?_
                refine ws_wk (lv2 := [some (.ref (ad κ 91)), some (.int (nI q)), some (.int (mv (sM S) 3 q)), some (.int (nI ((arg1 (fun r => lbd (muRight (sM S) q (nI r))) (k + 1)).1))), some (.int ((arg1 (fun r => lbd (muRight (sM S) q (nI r))) (k + 1)).2)), some (.int (nI (k + 1))), none]) ⟨rfl, rfl, rfl, rfl, rfl, rfl, trivial⟩ ?_
                exact ih29 (by omega) (upd g (21 + q) (nI k)) (nI (lno (nb (bo (muRight (sM S) q (nI k))) (mv (muRight (sM S) q (nI k)) 0 0) (mn (muRight (sM S) q (nI k)))) (mn (muRight (sM S) q (nI k))))) (upd_oth hg) u48 hM hA hKp hH hS hSc hT hB1 hB2 hF
    exact L29 0 (Nat.zero_le _) a y1 (fun j hj => rfl) st0 hM hA hKp hH hS hSc hT hB1 hB2 hF
  · skip
    have hf := fBest_n (S := S) (bix_0 c4)
    refine ws_sipush 7 C dX5_bestShare_7 ((-1001)) (by decide) ?_
    exact ws_iret 10 C dX5_bestShare_10 rfl (Nat.le_refl _) (Nat.le_refl _) (by rw [hP]; exact PM_ret (congrArg (fun t => (t, S)) hf) ⟨⟨_, _, hM⟩, ⟨_, hA, hR⟩, hKp, hH, hS, hSc, hT, hB1, hB2⟩ hF)

set_option maxRecDepth 100000 in
set_option maxHeartbeats 4000000 in
theorem c_X5_worstWord {S : Sg} (hX : MI κ z st0 S) : CT zl κ yX5_worstWord cX5_worstWord 6 (some .int) (r0 6 131) z [.ref (ad κ 91)] st0 (PM κ z st0 (fWorst S, S)) := by
  obtain ⟨P, hP⟩ : ∃ P : Option Value → St → Prop, P = (PM κ z st0 (fWorst S, S)) := ⟨_, rfl⟩
  rw [← hP]
  refine CT.of (by decide +kernel) (Nat.le_of_ble_eq_true rfl) (fun zp ze zs zm zar zbe zme zc C _ => ?_)
  have C : Cx zp zs zm zar zme zc κ cX5_worstWord 6 RX5 (some .int) := C
  refine ws_lv (lv2 := [some (.ref (ad κ 91)), none, none, none, none, none]) rfl ?_
  obtain ⟨⟨y1, y3, hM⟩, ⟨a, hA, hR⟩, hKp, hH, hS, hSc, hT, hB1, hB2⟩ := hX
  have h24 := hR.le
  have hF : Fr (fun q : Nat => 91 ≤ q ∧ q < 106) st0 st0 := Fr.rf
  refine ws_sipush 0 C dX5_worstWord_0 ((-1006)) (by decide) ?_
  refine ws_istore_n 3 C dX5_worstWord_3 rfl [some (.ref (ad κ 91)), some (.int ((-1006))), none, none, none, none] rfl ?_
  refine ws_iconst 4 C dX5_worstWord_4 (nI 0) (by decide) ?_
  refine ws_istore_n 5 C dX5_worstWord_5 rfl [some (.ref (ad κ 91)), some (.int ((-1006))), some (.int (nI 0)), none, none, none] rfl ?_
  obtain ⟨f, hK⟩ := hKp
  refine ws_aload_n 6 C dX5_worstWord_6 rfl ?_
  refine ws_callV0 7 C dX5_worstWord_7 vX5_185 (c_X5_keeps hM hA hK) rfl hM rfl rfl ⟨by decide, by decide⟩ ⟨Nat.zero_le _, Nat.zero_le _⟩ rfl rfl rfl (kV (fun u7 h7 => ?_))
  obtain ⟨⟨f2, hK, hf2⟩, hfr⟩ := h7
  have hH := hH.fr hfr (fun q (g1 : 94 ≤ q) (g2 : q < 95) => (show ¬ (q = 93) from by omega))
  have hS := hS.fr hfr (fun q (g1 : 95 ≤ q) (g2 : q < 97) => (show ¬ (q = 93) from by omega))
  have hSc := hSc.fr hfr (fun q (g1 : 97 ≤ q) (g2 : q < 103) => (show ¬ (q = 93) from by omega))
  have hT := hT.fr hfr (fun q (g1 : 103 ≤ q) (g2 : q < 104) => (show ¬ (q = 93) from by omega))
  have hB1 := hB1.fr hfr (fun q (g1 : 104 ≤ q) (g2 : q < 105) => (show ¬ (q = 93) from by omega))
  have hB2 := hB2.fr hfr (fun q (g1 : 105 ≤ q) (g2 : q < 106) => (show ¬ (q = 93) from by omega))
  have hM := hfr.ob hM (fun q (g1 : 91 ≤ q) (g2 : q < 91 + 1) => (show ¬ (q = 93) from by omega))
  have hA := hfr.ob hA (fun q (g1 : 92 ≤ q) (g2 : q < 92 + 1) => (show ¬ (q = 93) from by omega))
  have hF := hF.then hfr (fun q (hq : q = 93) => (show 91 ≤ q ∧ q < 106 from by omega))
  refine ws_iconst 10 C dX5_worstWord_10 (nI 0) (by decide) ?_
  refine ws_istore_n 11 C dX5_worstWord_11 rfl [some (.ref (ad κ 91)), some (.int ((-1006))), some (.int (nI 0)), some (.int (nI 0)), none, none] rfl ?_
  have L12 : ∀ k : Nat, k ≤ mn (sM S) → ∀ (y : Int32), ∀ (g : Nat → Int32), ∀ (yy : Int32), ∀ (hy : y = if k = 0 then -1006 else nI (arg1 (fun w => lbd (muDrop (sM S) w)) k).1), ∀ (hRg : Rm (sM S) g), ∀ (st1 : St), ∀ (hM : Ob z st1 91 (bMo κ (nI (sHn S)) yy (nI (sPn S)) y3)), ∀ (hA : Ob z st1 92 (bA κ 293 g)), ∀ (hK : Ob z st1 93 (bA κ 293 f2)), ∀ (hH : HmP κ z st1 (sH S) (sHn S)), ∀ (hS : SmP κ z st1 (sSl S) (sFd S)), ∀ (hSc : ScP κ z st1), ∀ (hT : TmP κ z st1 (sPt S) (sPn S)), ∀ (hB1 : AnyA κ z st1 104 31), ∀ (hB2 : AnyA κ z st1 105 31), ∀ (hF : Fr (fun q : Nat => 91 ≤ q ∧ q < 106) st0 st1), WS zp zl ze (r0 6 131) zs zm zar zbe zme zc κ z 0 0 (QM zbe zar zs κ z (r0 6 131) P) st1 12 [some (.ref (ad κ 91)), some (.int (y)), some (.int ((arg1 (fun w => lbd (muDrop (sM S) w)) k).2)), some (.int (nI k)), none, none] [] := by
    refine dnw ?_
    intro k hk ih12 y g yy hy hRg st1 hM hA hK hH hS hSc hT hB1 hB2 hF
    refine ws_iload_n 12 C dX5_worstWord_12 rfl ?_
    refine ws_aload_n 13 C dX5_worstWord_13 rfl ?_
    refine ws_get 14 C dX5_worstWord_14 fX5_13 hM rfl rfl ?_
    refine ws_iconst 17 C dX5_worstWord_17 (nI 4) (by decide) ?_
    refine ws_iald 18 C dX5_worstWord_18 hK 0 rfl (vp_in_nI (by omega) (by decide)) (nI (mn (sM S))) ((congrArg f2 (nI_clamp (by omega))).trans ((hf2 4 (by omega)).trans hR.n)) ?_
    refine ws_nicmp_ge 19 C 86 dX5_worstWord_19 (by decide) (by omega) (by omega) (fun c19 => ?_) (fun c19 => ?_)
    · skip
      have hf : fWorst S = y := by rw [hy, show k = mn (sM S) from by omega]; rfl
      refine ws_iload_n 86 C dX5_worstWord_86 rfl ?_
      exact ws_iret 87 C dX5_worstWord_87 rfl (Nat.le_refl _) (Nat.le_refl _) (by rw [hP]; exact PM_ret (congrArg (fun t => (t, S)) hf) ⟨⟨_, _, hM⟩, ⟨_, hA, hRg⟩, ⟨_, hK⟩, hH, hS, hSc, hT, hB1, hB2⟩ hF)
    · skip
      refine ws_aload_n 22 C dX5_worstWord_22 rfl ?_
      refine ws_iload_n 23 C dX5_worstWord_23 rfl ?_
      refine ws_callV0 24 C dX5_worstWord_24 vX5_145 (c_X5_takesOut hM hA hRg c19) rfl hM rfl rfl ⟨by decide, by decide⟩ ⟨Nat.zero_le _, Nat.zero_le _⟩ rfl rfl rfl (kV (fun u24 h24 => ?_))
      obtain ⟨⟨g2, hA, hR2⟩, hfr⟩ := h24
      have hH := hH.fr hfr (fun q (g1 : 94 ≤ q) (g2 : q < 95) => (show ¬ (q = 92) from by omega))
      have hS := hS.fr hfr (fun q (g1 : 95 ≤ q) (g2 : q < 97) => (show ¬ (q = 92) from by omega))
      have hSc := hSc.fr hfr (fun q (g1 : 97 ≤ q) (g2 : q < 103) => (show ¬ (q = 92) from by omega))
      have hT := hT.fr hfr (fun q (g1 : 103 ≤ q) (g2 : q < 104) => (show ¬ (q = 92) from by omega))
      have hB1 := hB1.fr hfr (fun q (g1 : 104 ≤ q) (g2 : q < 105) => (show ¬ (q = 92) from by omega))
      have hB2 := hB2.fr hfr (fun q (g1 : 105 ≤ q) (g2 : q < 106) => (show ¬ (q = 92) from by omega))
      have hM := hfr.ob hM (fun q (g1 : 91 ≤ q) (g2 : q < 91 + 1) => (show ¬ (q = 92) from by omega))
      have hK := hfr.ob hK (fun q (g1 : 93 ≤ q) (g2 : q < 93 + 1) => (show ¬ (q = 92) from by omega))
      have hF := hF.then hfr (fun q (hq : q = 92) => (show 91 ≤ q ∧ q < 106 from by omega))
      refine ws_aload_n 27 C dX5_worstWord_27 rfl ?_
      refine ws_callV0 28 C dX5_worstWord_28 vX5_182 (c_X5_bestBadness hM hA hR2 hSc) rfl hM rfl rfl ⟨by decide, by decide⟩ ⟨Nat.zero_le _, Nat.zero_le _⟩ rfl rfl rfl (kI' (fun r28 u28 h28 => ?_))
      obtain ⟨⟨hr, hM, hSc⟩, hfr⟩ := h28
      have hr : r28 = lbd (muDrop (sM S) k) := hr
      have hH := hH.fr hfr (fun q (g1 : 94 ≤ q) (g2 : q < 95) => (show ¬ (q = 91 ∨ (97 ≤ q ∧ q < 103)) from by omega))
      have hS := hS.fr hfr (fun q (g1 : 95 ≤ q) (g2 : q < 97) => (show ¬ (q = 91 ∨ (97 ≤ q ∧ q < 103)) from by omega))
      have hT := hT.fr hfr (fun q (g1 : 103 ≤ q) (g2 : q < 104) => (show ¬ (q = 91 ∨ (97 ≤ q ∧ q < 103)) from by omega))
      have hB1 := hB1.fr hfr (fun q (g1 : 104 ≤ q) (g2 : q < 105) => (show ¬ (q = 91 ∨ (97 ≤ q ∧ q < 103)) from by omega))
      have hB2 := hB2.fr hfr (fun q (g1 : 105 ≤ q) (g2 : q < 106) => (show ¬ (q = 91 ∨ (97 ≤ q ∧ q < 103)) from by omega))
      have hA := hfr.ob hA (fun q (g1 : 92 ≤ q) (g2 : q < 92 + 1) => (show ¬ (q = 91 ∨ (97 ≤ q ∧ q < 103)) from by omega))
      have hK := hfr.ob hK (fun q (g1 : 93 ≤ q) (g2 : q < 93 + 1) => (show ¬ (q = 91 ∨ (97 ≤ q ∧ q < 103)) from by omega))
      have hF := hF.then hfr (fun q (hq : q = 91 ∨ (97 ≤ q ∧ q < 103)) => (show 91 ≤ q ∧ q < 106 from by omega))
      refine ws_istore 31 C dX5_worstWord_31 rfl [some (.ref (ad κ 91)), some (.int (y)), some (.int ((arg1 (fun w => lbd (muDrop (sM S) w)) k).2)), some (.int (nI k)), some (.int (r28)), none] rfl ?_
      refine ws_aload_n 33 C dX5_worstWord_33 rfl ?_
      refine ws_callV0 34 C dX5_worstWord_34 vX5_188 (c_X5_comesBack hM hA hK) rfl hM rfl rfl ⟨by decide, by decide⟩ ⟨Nat.zero_le _, Nat.zero_le _⟩ rfl rfl rfl (kV (fun u34 h34 => ?_))
      obtain ⟨⟨g3, hA, hg3⟩, hfr⟩ := h34
      have hR3 : Rm (sM S) g3 := hR.ext (fun j hj => (hg3 j hj).trans (hf2 j hj))
      have hH := hH.fr hfr (fun q (g1 : 94 ≤ q) (g2 : q < 95) => (show ¬ (q = 92) from by omega))
      have hS := hS.fr hfr (fun q (g1 : 95 ≤ q) (g2 : q < 97) => (show ¬ (q = 92) from by omega))
      have hSc := hSc.fr hfr (fun q (g1 : 97 ≤ q) (g2 : q < 103) => (show ¬ (q = 92) from by omega))
      have hT := hT.fr hfr (fun q (g1 : 103 ≤ q) (g2 : q < 104) => (show ¬ (q = 92) from by omega))
      have hB1 := hB1.fr hfr (fun q (g1 : 104 ≤ q) (g2 : q < 105) => (show ¬ (q = 92) from by omega))
      have hB2 := hB2.fr hfr (fun q (g1 : 105 ≤ q) (g2 : q < 106) => (show ¬ (q = 92) from by omega))
      have hM := hfr.ob hM (fun q (g1 : 91 ≤ q) (g2 : q < 91 + 1) => (show ¬ (q = 92) from by omega))
      have hK := hfr.ob hK (fun q (g1 : 93 ≤ q) (g2 : q < 93 + 1) => (show ¬ (q = 92) from by omega))
      have hF := hF.then hfr (fun q (hq : q = 92) => (show 91 ≤ q ∧ q < 106 from by omega))
      refine ws_iload_n 37 C dX5_worstWord_37 rfl ?_
      refine ws_sipush 38 C dX5_worstWord_38 ((-1006)) (by decide) ?_
      refine ws_icmp_eq 41 C 50 dX5_worstWord_41 (by decide)  (fun c41 => ?_) (fun c41 => ?_)
      · skip
        have hyy := arg1_y (f := (fun w => lbd (muDrop (sM S) w))) (k := k) (Or.inl (worst_0 hy h24 hk c41))
        have hyn : nI k = if k + 1 = 0 then -1006 else nI (arg1 (fun w => lbd (muDrop (sM S) w)) (k + 1)).1 := (congrArg (fun t : Nat × Int32 => nI t.1) hyy).symm.trans (if_neg (Nat.succ_ne_zero k)).symm
        refine ws_iconst 50 C dX5_worstWord_50 (nI 1) (by decide) ?_
        refine ws_goto 51 C 55 dX5_worstWord_51 (by decide) ?_
        refine ws_istore 55 C dX5_worstWord_55 rfl [some (.ref (ad κ 91)), some (.int (y)), some (.int ((arg1 (fun w => lbd (muDrop (sM S) w)) k).2)), some (.int (nI k)), some (.int (r28)), some (.int (nI 1))] rfl ?_
        refine ws_iload 57 C dX5_worstWord_57 rfl ?_
        refine ws_nif_eq 59 C 66 dX5_worstWord_59 (by decide) (by omega) (fun c59 => ?_) (fun c59 => ?_)
        · skip
          (exfalso; omega)
        · skip
          refine ws_iload_n 62 C dX5_worstWord_62 rfl ?_
          refine ws_goto 63 C 67 dX5_worstWord_63 (by decide) ?_
          refine ws_istore_n 67 C dX5_worstWord_67 rfl [some (.ref (ad κ 91)), some (.int (nI k)), some (.int ((arg1 (fun w => lbd (muDrop (sM S) w)) k).2)), some (.int (nI k)), some (.int (r28)), some (.int (nI 1))] rfl ?_
          refine ws_iload 68 C dX5_worstWord_68 rfl ?_
          refine ws_nif_eq 70 C 78 dX5_worstWord_70 (by decide) (by omega) (fun c70 => ?_) (fun c70 => ?_)
          · skip
            (exfalso; omega)
          · skip
            refine ws_iload 73 C dX5_worstWord_73 rfl ?_
            refine ws_goto 75 C 79 dX5_worstWord_75 (by decide) ?_
            refine ws_istore_n 79 C dX5_worstWord_79 rfl [some (.ref (ad κ 91)), some (.int (nI k)), some (.int (r28)), some (.int (nI k)), some (.int (r28)), some (.int (nI 1))] rfl ?_
            refine ws_wk (lv2 := [some (.ref (ad κ 91)), some (.int (nI k)), some (.int ((arg1 (fun w => lbd (muDrop (sM S) w)) (k + 1)).2)), some (.int (nI k)), some (.int (r28)), some (.int (nI 1))]) ⟨rfl, rfl, ((congrArg (fun t : Nat × Int32 => Value.int t.2) hyy).trans (congrArg Value.int hr.symm)), rfl, rfl, rfl, trivial⟩ ?_
            refine ws_iinc 80 C dX5_worstWord_80 rfl (nI (k + 1)) (nI_1 _) rfl [some (.ref (ad κ 91)), some (.int (nI k)), some (.int ((arg1 (fun w => lbd (muDrop (sM S) w)) (k + 1)).2)), some (.int (nI (k + 1))), some (.int (r28)), some (.int (nI 1))] rfl ?_
            refine ws_goto 83 C 12 dX5_worstWord_83 (by decide) ?_
            refine ws_wk (lv2 := [some (.ref (ad κ 91)), some (.int (nI k)), some (.int ((arg1 (fun w => lbd (muDrop (sM S) w)) (k + 1)).2)), some (.int (nI (k + 1))), none, none]) ⟨rfl, rfl, rfl, rfl, trivial⟩ ?_
            exact ih12 c19 _ g3 (nI (lno (nb (bo (muDrop (sM S) k)) (mv (muDrop (sM S) k) 0 0) (mn (muDrop (sM S) k))) (mn (muDrop (sM S) k)))) hyn hR3 u34 hM hA hK hH hS hSc hT hB1 hB2 hF
      · skip
        have hk0 := worst_n hy c41
        refine ws_iload 44 C dX5_worstWord_44 rfl ?_
        refine ws_iload_n 46 C dX5_worstWord_46 rfl ?_
        refine ws_icmp_ge 47 C 54 dX5_worstWord_47 (by decide)  (fun c47 => ?_) (fun c47 => ?_)
        · skip
          have hyy := arg1_n (f := (fun w => lbd (muDrop (sM S) w))) (k := k) (fun z => by rcases z with z | z; exact hk0 z; exact Int32.not_lt.mpr c47 (by rw [hr]; exact z))
          have hyn : y = if k + 1 = 0 then -1006 else nI (arg1 (fun w => lbd (muDrop (sM S) w)) (k + 1)).1 := hy.trans ((if_neg hk0).trans ((congrArg (fun t : Nat × Int32 => nI t.1) hyy).symm.trans (if_neg (Nat.succ_ne_zero k)).symm))
          refine ws_iconst 54 C dX5_worstWord_54 (nI 0) (by decide) ?_
          refine ws_istore 55 C dX5_worstWord_55 rfl [some (.ref (ad κ 91)), some (.int (y)), some (.int ((arg1 (fun w => lbd (muDrop (sM S) w)) k).2)), some (.int (nI k)), some (.int (r28)), some (.int (nI 0))] rfl ?_
          refine ws_iload 57 C dX5_worstWord_57 rfl ?_
          refine ws_nif_eq 59 C 66 dX5_worstWord_59 (by decide) (by omega) (fun c59 => ?_) (fun c59 => ?_)
          · skip
            refine ws_iload_n 66 C dX5_worstWord_66 rfl ?_
            refine ws_istore_n 67 C dX5_worstWord_67 rfl [some (.ref (ad κ 91)), some (.int (y)), some (.int ((arg1 (fun w => lbd (muDrop (sM S) w)) k).2)), some (.int (nI k)), some (.int (r28)), some (.int (nI 0))] rfl ?_
            refine ws_iload 68 C dX5_worstWord_68 rfl ?_
            refine ws_nif_eq 70 C 78 dX5_worstWord_70 (by decide) (by omega) (fun c70 => ?_) (fun c70 => ?_)
            · skip
              refine ws_iload_n 78 C dX5_worstWord_78 rfl ?_
              refine ws_istore_n 79 C dX5_worstWord_79 rfl [some (.ref (ad κ 91)), some (.int (y)), some (.int ((arg1 (fun w => lbd (muDrop (sM S) w)) k).2)), some (.int (nI k)), some (.int (r28)), some (.int (nI 0))] rfl ?_
              refine ws_wk (lv2 := [some (.ref (ad κ 91)), some (.int (y)), some (.int ((arg1 (fun w => lbd (muDrop (sM S) w)) (k + 1)).2)), some (.int (nI k)), some (.int (r28)), some (.int (nI 0))]) ⟨rfl, rfl, (congrArg (fun t : Nat × Int32 => Value.int t.2) hyy), rfl, rfl, rfl, trivial⟩ ?_
              refine ws_iinc 80 C dX5_worstWord_80 rfl (nI (k + 1)) (nI_1 _) rfl [some (.ref (ad κ 91)), some (.int (y)), some (.int ((arg1 (fun w => lbd (muDrop (sM S) w)) (k + 1)).2)), some (.int (nI (k + 1))), some (.int (r28)), some (.int (nI 0))] rfl ?_
              refine ws_goto 83 C 12 dX5_worstWord_83 (by decide) ?_
              refine ws_wk (lv2 := [some (.ref (ad κ 91)), some (.int (y)), some (.int ((arg1 (fun w => lbd (muDrop (sM S) w)) (k + 1)).2)), some (.int (nI (k + 1))), none, none]) ⟨rfl, rfl, rfl, rfl, trivial⟩ ?_
              exact ih12 c19 _ g3 (nI (lno (nb (bo (muDrop (sM S) k)) (mv (muDrop (sM S) k) 0 0) (mn (muDrop (sM S) k))) (mn (muDrop (sM S) k)))) hyn hR3 u34 hM hA hK hH hS hSc hT hB1 hB2 hF
            · skip
              (exfalso; omega)
          · skip
            (exfalso; omega)
        · skip
          have hyy := arg1_y (f := (fun w => lbd (muDrop (sM S) w))) (k := k) (Or.inr (by show lbd _ < _; rw [← hr]; exact Int32.not_le.mp c47))
          have hyn : nI k = if k + 1 = 0 then -1006 else nI (arg1 (fun w => lbd (muDrop (sM S) w)) (k + 1)).1 := (congrArg (fun t : Nat × Int32 => nI t.1) hyy).symm.trans (if_neg (Nat.succ_ne_zero k)).symm
          refine ws_iconst 50 C dX5_worstWord_50 (nI 1) (by decide) ?_
          refine ws_goto 51 C 55 dX5_worstWord_51 (by decide) ?_
          refine ws_istore 55 C dX5_worstWord_55 rfl [some (.ref (ad κ 91)), some (.int (y)), some (.int ((arg1 (fun w => lbd (muDrop (sM S) w)) k).2)), some (.int (nI k)), some (.int (r28)), some (.int (nI 1))] rfl ?_
          refine ws_iload 57 C dX5_worstWord_57 rfl ?_
          refine ws_nif_eq 59 C 66 dX5_worstWord_59 (by decide) (by omega) (fun c59 => ?_) (fun c59 => ?_)
          · skip
            (exfalso; omega)
          · skip
            refine ws_iload_n 62 C dX5_worstWord_62 rfl ?_
            refine ws_goto 63 C 67 dX5_worstWord_63 (by decide) ?_
            refine ws_istore_n 67 C dX5_worstWord_67 rfl [some (.ref (ad κ 91)), some (.int (nI k)), some (.int ((arg1 (fun w => lbd (muDrop (sM S) w)) k).2)), some (.int (nI k)), some (.int (r28)), some (.int (nI 1))] rfl ?_
            refine ws_iload 68 C dX5_worstWord_68 rfl ?_
            refine ws_nif_eq 70 C 78 dX5_worstWord_70 (by decide) (by omega) (fun c70 => ?_) (fun c70 => ?_)
            · skip
              (exfalso; omega)
            · skip
              refine ws_iload 73 C dX5_worstWord_73 rfl ?_
              refine ws_goto 75 C 79 dX5_worstWord_75 (by decide) ?_
              refine ws_istore_n 79 C dX5_worstWord_79 rfl [some (.ref (ad κ 91)), some (.int (nI k)), some (.int (r28)), some (.int (nI k)), some (.int (r28)), some (.int (nI 1))] rfl ?_
              refine ws_wk (lv2 := [some (.ref (ad κ 91)), some (.int (nI k)), some (.int ((arg1 (fun w => lbd (muDrop (sM S) w)) (k + 1)).2)), some (.int (nI k)), some (.int (r28)), some (.int (nI 1))]) ⟨rfl, rfl, ((congrArg (fun t : Nat × Int32 => Value.int t.2) hyy).trans (congrArg Value.int hr.symm)), rfl, rfl, rfl, trivial⟩ ?_
              refine ws_iinc 80 C dX5_worstWord_80 rfl (nI (k + 1)) (nI_1 _) rfl [some (.ref (ad κ 91)), some (.int (nI k)), some (.int ((arg1 (fun w => lbd (muDrop (sM S) w)) (k + 1)).2)), some (.int (nI (k + 1))), some (.int (r28)), some (.int (nI 1))] rfl ?_
              refine ws_goto 83 C 12 dX5_worstWord_83 (by decide) ?_
              refine ws_wk (lv2 := [some (.ref (ad κ 91)), some (.int (nI k)), some (.int ((arg1 (fun w => lbd (muDrop (sM S) w)) (k + 1)).2)), some (.int (nI (k + 1))), none, none]) ⟨rfl, rfl, rfl, rfl, trivial⟩ ?_
              exact ih12 c19 _ g3 (nI (lno (nb (bo (muDrop (sM S) k)) (mv (muDrop (sM S) k) 0 0) (mn (muDrop (sM S) k))) (mn (muDrop (sM S) k)))) hyn hR3 u34 hM hA hK hH hS hSc hT hB1 hB2 hF
  exact L12 0 (Nat.zero_le _) (-1006) a y1 rfl hR u7 hM hA hK hH hS hSc hT hB1 hB2 hF

set_option maxRecDepth 100000 in
set_option maxHeartbeats 4000000 in
theorem c_X5_charactersOf {V : Nat} (hV : V < 2 ^ 64) : CT zl κ yX5_charactersOf cX5_charactersOf 5 (some .int) (r0 1 25) z [.long (lN V)] st0 (PRi (nI (plen V)) st0) := by
  obtain ⟨P, hP⟩ : ∃ P : Option Value → St → Prop, P = (PRi (nI (plen V)) st0) := ⟨_, rfl⟩
  rw [← hP]
  refine CT.of (by decide +kernel) (Nat.le_of_ble_eq_true rfl) (fun zp ze zs zm zar zbe zme zc C _ => ?_)
  have C : Cx zp zs zm zar zme zc κ cX5_charactersOf 5 RX5 (some .int) := C
  refine ws_lv (lv2 := [some (.long (lN V)), none, none, none, none]) rfl ?_
  refine ws_lload_n 0 C dX5_charactersOf_0 rfl ?_
  refine ws_lstore_n 1 C dX5_charactersOf_1 rfl rfl [some (.long (lN V)), none, some (.long (lN V)), none, none] rfl ?_
  refine ws_wk (lv2 := [some (.long (lN V)), none, some (.long (lN (V / 2 ^ (8 * 0)))), none, none]) ⟨rfl, (congrArg (fun q => Value.long (lN q)) (pby_0 V)), trivial⟩ ?_
  refine ws_iconst 2 C dX5_charactersOf_2 (nI 0) (by decide) ?_
  refine ws_istore 3 C dX5_charactersOf_3 rfl [some (.long (lN V)), none, some (.long (lN (V / 2 ^ (8 * 0)))), none, some (.int (nI 0))] rfl ?_
  have L5 : ∀ k : Nat, k ≤ 8 → ∀ (he : plen V = lenc (8 - k) (V / 2 ^ (8 * k)) k), WS zp zl ze (r0 1 25) zs zm zar zbe zme zc κ z 0 0 (QM zbe zar zs κ z (r0 1 25) P) st0 5 [some (.long (lN V)), none, some (.long (lN (V / 2 ^ (8 * k)))), none, some (.int (nI k))] [] := by
    refine dnw ?_
    intro k hk ih5 he
    have hlt : V / 2 ^ (8 * k) < 2 ^ 64 := Nat.lt_of_le_of_lt (Nat.div_le_self _ _) hV
    have hb256 : V / 2 ^ (8 * k) % 256 < 256 := Nat.mod_lt _ (by decide)
    refine ws_iload 5 C dX5_charactersOf_5 rfl ?_
    refine ws_bipush 7 C dX5_charactersOf_7 (nI 8) (by decide) ?_
    refine ws_nicmp_ge 9 C 40 dX5_charactersOf_9 (by decide) (by omega) (by omega) (fun c9 => ?_) (fun c9 => ?_)
    · skip
      have hx : ¬ V / 2 ^ (8 * k) = 0 → plen V = 0 := fun q => absurd (pln_8 hV c9) q
      refine ws_lload_n 40 C dX5_charactersOf_40 rfl ?_
      refine ws_lconst 41 C dX5_charactersOf_41 0 (by decide) ?_
      refine ws_lcmp 42 C dX5_charactersOf_42 (lg_cmp (lN (V / 2 ^ (8 * k))) 0) rfl ?_
      refine ws_if_ne 43 C 51 dX5_charactersOf_43 (by decide)  (fun c43 => ?_) (fun c43 => ?_)
      · skip
        have hv : 0 = plen V := (hx (fun q => c43 ((lN_0 hlt).mpr q))).symm
        refine ws_iconst 51 C dX5_charactersOf_51 (nI 0) (by decide) ?_
        exact ws_iret 52 C  dX5_charactersOf_52 rfl (Nat.le_refl _) (Nat.le_refl _) (by rw [hP]; exact ⟨congrArg (fun z => some (Value.int z)) (congrArg nI hv), rfl⟩)
      · skip
        have hv : k = plen V := (he.trans (pln_0 hk ((lN_0 hlt).mp c43))).symm
        refine ws_iload 46 C dX5_charactersOf_46 rfl ?_
        refine ws_goto 48 C 52 dX5_charactersOf_48 (by decide) ?_
        exact ws_iret 52 C  dX5_charactersOf_52 rfl (Nat.le_refl _) (Nat.le_refl _) (by rw [hP]; exact ⟨congrArg (fun z => some (Value.int z)) (congrArg nI hv), rfl⟩)
    · skip
      refine ws_lload_n 12 C dX5_charactersOf_12 rfl ?_
      refine ws_ldc2 13 C dX5_charactersOf_13 (255) k606 ?_
      refine ws_land 16 C dX5_charactersOf_16 (lN (V / 2 ^ (8 * k) % 256)) (lN_and255 hlt) ?_
      refine ws_ldc2 17 C dX5_charactersOf_17 (33) k607 ?_
      refine ws_ldc2 20 C dX5_charactersOf_20 (126) k608 ?_
      refine ws_callS0 23 C dX5_charactersOf_23 vX5_58 (c_X5_in (inL_b hb256)) rfl ⟨by decide, by decide⟩ ⟨Nat.zero_le _, Nat.zero_le _⟩ rfl rfl rfl (kR ?_)
      refine ws_if_eq 26 C 40 dX5_charactersOf_26 (by decide)  (fun c26 => ?_) (fun c26 => ?_)
      · skip
        have hx : ¬ V / 2 ^ (8 * k) = 0 → plen V = 0 := fun q => he.trans (pln_x c9 (if01_n c26) q)
        refine ws_lload_n 40 C dX5_charactersOf_40 rfl ?_
        refine ws_lconst 41 C dX5_charactersOf_41 0 (by decide) ?_
        refine ws_lcmp 42 C dX5_charactersOf_42 (lg_cmp (lN (V / 2 ^ (8 * k))) 0) rfl ?_
        refine ws_if_ne 43 C 51 dX5_charactersOf_43 (by decide)  (fun c43 => ?_) (fun c43 => ?_)
        · skip
          have hv : 0 = plen V := (hx (fun q => c43 ((lN_0 hlt).mpr q))).symm
          refine ws_iconst 51 C dX5_charactersOf_51 (nI 0) (by decide) ?_
          exact ws_iret 52 C  dX5_charactersOf_52 rfl (Nat.le_refl _) (Nat.le_refl _) (by rw [hP]; exact ⟨congrArg (fun z => some (Value.int z)) (congrArg nI hv), rfl⟩)
        · skip
          have hv : k = plen V := (he.trans (pln_0 hk ((lN_0 hlt).mp c43))).symm
          refine ws_iload 46 C dX5_charactersOf_46 rfl ?_
          refine ws_goto 48 C 52 dX5_charactersOf_48 (by decide) ?_
          exact ws_iret 52 C  dX5_charactersOf_52 rfl (Nat.le_refl _) (Nat.le_refl _) (by rw [hP]; exact ⟨congrArg (fun z => some (Value.int z)) (congrArg nI hv), rfl⟩)
      · skip
        refine ws_lload_n 29 C dX5_charactersOf_29 rfl ?_
        refine ws_bipush 30 C dX5_charactersOf_30 (nI 8) (by decide) ?_
        refine ws_lushr 32 C dX5_charactersOf_32 (lN (V / 2 ^ (8 * k) / 256)) (lN_sh8 hlt) ?_
        refine ws_lstore_n 33 C dX5_charactersOf_33 rfl rfl [some (.long (lN V)), none, some (.long (lN (V / 2 ^ (8 * k) / 256))), none, some (.int (nI k))] rfl ?_
        refine ws_wk (lv2 := [some (.long (lN V)), none, some (.long (lN (V / 2 ^ (8 * (k + 1))))), none, some (.int (nI k))]) ⟨rfl, (congrArg (fun q => Value.long (lN q)) (pby_s V k).symm), rfl, trivial⟩ ?_
        refine ws_iinc 34 C dX5_charactersOf_34 rfl (nI (k + 1)) (nI_1 _) rfl [some (.long (lN V)), none, some (.long (lN (V / 2 ^ (8 * (k + 1))))), none, some (.int (nI (k + 1)))] rfl ?_
        refine ws_goto 37 C 5 dX5_charactersOf_37 (by decide) ?_
        exact ih5 c9 (he.trans (pln_go c9 (if01_y c26)))
  exact L5 0 (Nat.zero_le _) (by rw [pby_0]; rfl)

set_option maxRecDepth 100000 in
set_option maxHeartbeats 4000000 in
theorem c_X5_put {S : Sg} (hX : MI κ z st0 S) {V : Nat} (hV : V < 2 ^ 64) : CT zl κ yX5_put cX5_put 5 (some .int) (r0 2 49) z [.ref (ad κ 91), .long (lN V)] st0 (PM κ z st0 (fPut S V)) := by
  obtain ⟨P, hP⟩ : ∃ P : Option Value → St → Prop, P = (PM κ z st0 (fPut S V)) := ⟨_, rfl⟩
  rw [← hP]
  refine CT.of (by decide +kernel) (Nat.le_of_ble_eq_true rfl) (fun zp ze zs zm zar zbe zme zc C _ => ?_)
  have C : Cx zp zs zm zar zme zc κ cX5_put 5 RX5 (some .int) := C
  refine ws_lv (lv2 := [some (.ref (ad κ 91)), some (.long (lN V)), none, none, none]) rfl ?_
  obtain ⟨⟨y1, y3, hM⟩, ⟨a, hA, hR⟩, hKp, hH, hS, hSc, hT, hB1, hB2⟩ := hX
  have h24 := hR.le
  have hF : Fr (fun q : Nat => 91 ≤ q ∧ q < 106) st0 st0 := Fr.rf
  obtain ⟨t, hTx, h60, ht⟩ := hT
  have h8 := plen_le V
  refine ws_lload_n 0 C dX5_put_0 rfl ?_
  refine ws_callS0 1 C dX5_put_1 vX5_197 (c_X5_charactersOf hV) rfl ⟨by decide, by decide⟩ ⟨Nat.zero_le _, Nat.zero_le _⟩ rfl rfl rfl (kR ?_)
  refine ws_istore_n 4 C dX5_put_4 rfl [some (.ref (ad κ 91)), some (.long (lN V)), none, some (.int (nI (plen V))), none] rfl ?_
  refine ws_iload_n 5 C dX5_put_5 rfl ?_
  refine ws_nif_ne 6 C 13 dX5_put_6 (by decide) (by omega) (fun c6 => ?_) (fun c6 => ?_)
  · skip
    have hch := (plen_spec V).resolve_left c6
    refine ws_aload_n 13 C dX5_put_13 rfl ?_
    refine ws_get 14 C dX5_put_14 fX5_177 hM rfl rfl ?_
    refine ws_iload_n 17 C dX5_put_17 rfl ?_
    refine ws_iadd 18 C dX5_put_18 (nI (sPn S + plen V)) (nI_add _ _) ?_
    refine ws_bipush 19 C dX5_put_19 (nI 60) (by decide) ?_
    refine ws_nicmp_le 21 C 28 dX5_put_21 (by decide) (by omega) (by omega) (fun c21 => ?_) (fun c21 => ?_)
    · skip
      have hf := fPut_s (S := S) c6 c21
      refine ws_iconst 28 C dX5_put_28 (nI 0) (by decide) ?_
      refine ws_istore 29 C dX5_put_29 rfl [some (.ref (ad κ 91)), some (.long (lN V)), none, some (.int (nI (plen V))), some (.int (nI 0))] rfl ?_
      have L31 : ∀ k : Nat, k ≤ plen V → ∀ (t2 : Nat → Int32), ∀ (h1 : ∀ q, q < sPn S → t2 q = t q), ∀ (h2 : ∀ q, q < k → t2 (sPn S + q) = nI (pby V (plen V - 1 - q))), ∀ (st1 : St), ∀ (hM : Ob z st1 91 (bMo κ (nI (sHn S)) y1 (nI (sPn S)) y3)), ∀ (hA : Ob z st1 92 (bA κ 293 a)), ∀ (hTx : Ob z st1 103 (bA κ 60 t2)), ∀ (hKp : AnyA κ z st1 93 293), ∀ (hH : HmP κ z st1 (sH S) (sHn S)), ∀ (hS : SmP κ z st1 (sSl S) (sFd S)), ∀ (hSc : ScP κ z st1), ∀ (hB1 : AnyA κ z st1 104 31), ∀ (hB2 : AnyA κ z st1 105 31), ∀ (hF : Fr (fun q : Nat => 91 ≤ q ∧ q < 106) st0 st1), WS zp zl ze (r0 2 49) zs zm zar zbe zme zc κ z 0 0 (QM zbe zar zs κ z (r0 2 49) P) st1 31 [some (.ref (ad κ 91)), some (.long (lN V)), none, some (.int (nI (plen V))), some (.int (nI k))] [] := by
        refine dnw ?_
        intro k hk ih31 t2 h1 h2 st1 hM hA hTx hKp hH hS hSc hB1 hB2 hF
        refine ws_iload 31 C dX5_put_31 rfl ?_
        refine ws_iload_n 33 C dX5_put_33 rfl ?_
        refine ws_nicmp_ge 34 C 71 dX5_put_34 (by decide) (by omega) (by omega) (fun c34 => ?_) (fun c34 => ?_)
        · skip
          refine ws_aload_n 71 C dX5_put_71 rfl ?_
          refine ws_dup 72 C dX5_put_72 rfl ?_
          refine ws_get 73 C dX5_put_73 fX5_177 hM rfl rfl ?_
          refine ws_iload_n 76 C dX5_put_76 rfl ?_
          refine ws_iadd 77 C dX5_put_77 (nI (sPn S + plen V)) (nI_add _ _) ?_
          refine ws_put 78 C dX5_put_78 fX5_177 q5_14 hM rfl (Nat.le_of_ble_eq_true rfl) rfl rfl (fun st2 est2 => ?_)
          have hM : Ob z st2 91 (bMo κ (nI (sHn S)) y1 (nI (sPn S + plen V)) y3) := Ob.put' (j := 0) hM est2 rfl
          have hA := hA.ne' (L := 1) est2 rfl (by omega)
          have hTx := hTx.ne' (L := 1) est2 rfl (by omega)
          have hKp := hKp.fr (Fr.one est2) (fun q (g1 : 93 ≤ q) (g2 : q < 94) => (show ¬ (q = 91) from by omega))
          have hH := hH.fr (Fr.one est2) (fun q (g1 : 94 ≤ q) (g2 : q < 95) => (show ¬ (q = 91) from by omega))
          have hS := hS.fr (Fr.one est2) (fun q (g1 : 95 ≤ q) (g2 : q < 97) => (show ¬ (q = 91) from by omega))
          have hSc := hSc.fr (Fr.one est2) (fun q (g1 : 97 ≤ q) (g2 : q < 103) => (show ¬ (q = 91) from by omega))
          have hB1 := hB1.fr (Fr.one est2) (fun q (g1 : 104 ≤ q) (g2 : q < 105) => (show ¬ (q = 91) from by omega))
          have hB2 := hB2.fr (Fr.one est2) (fun q (g1 : 105 ≤ q) (g2 : q < 106) => (show ¬ (q = 91) from by omega))
          have hF := hF.put' est2 (show 91 ≤ (91) ∧ (91) < 106 from by omega)
          refine ws_aload_n 81 C dX5_put_81 rfl ?_
          refine ws_get 82 C dX5_put_82 fX5_177 hM rfl rfl ?_
          exact ws_iret 85 C dX5_put_85 rfl (Nat.le_refl _) (Nat.le_refl _) (by rw [hP]; exact PM_ret (hf) ⟨⟨_, _, hM⟩, ⟨_, hA, hR⟩, hKp, hH, hS, hSc, ⟨_, hTx, c21, tm_put ht hch.2 h1 (fun q hq => h2 q (by omega))⟩, hB1, hB2⟩ hF)
        · skip
          refine ws_aload_n 37 C dX5_put_37 rfl ?_
          refine ws_get 38 C dX5_put_38 fX5_43 hM rfl rfl ?_
          refine ws_aload_n 41 C dX5_put_41 rfl ?_
          refine ws_get 42 C dX5_put_42 fX5_177 hM rfl rfl ?_
          refine ws_iload 45 C dX5_put_45 rfl ?_
          refine ws_iadd 47 C dX5_put_47 (nI (sPn S + k)) (nI_add _ _) ?_
          refine ws_lload_n 48 C dX5_put_48 rfl ?_
          refine ws_bipush 49 C dX5_put_49 (nI 8) (by decide) ?_
          refine ws_iload_n 51 C dX5_put_51 rfl ?_
          refine ws_iconst 52 C dX5_put_52 (nI 1) (by decide) ?_
          refine ws_isub 53 C dX5_put_53 (nI (plen V - 1)) (pk_sub (by omega)) ?_
          refine ws_iload 54 C dX5_put_54 rfl ?_
          refine ws_isub 56 C dX5_put_56 (nI (plen V - 1 - k)) (pk_sub (by omega)) ?_
          refine ws_imul 57 C dX5_put_57 (nI (8 * (plen V - 1 - k))) (pk_mul _ _) ?_
          refine ws_lushr 58 C dX5_put_58 (lN (V / 2 ^ (8 * (plen V - 1 - k)))) (wb_shr hV (by omega)) ?_
          refine ws_ldc2 59 C dX5_put_59 (255) k606 ?_
          refine ws_land 62 C dX5_put_62 (lN (pby V (plen V - 1 - k))) (lN_and255 (Nat.lt_of_le_of_lt (Nat.div_le_self _ _) hV)) ?_
          refine ws_l2i 63 C dX5_put_63 (nI (pby V (plen V - 1 - k))) (lN_i _) ?_
          refine ws_iast 64 C dX5_put_64 hTx 0 rfl (vp_in_nI (by omega) (by decide)) (sPn S + k) (nI_clamp (by omega)) (nI (pby V (plen V - 1 - k))) rfl (fun st3 est3 => ?_)
          have hM := hM.ne' (L := 1) est3 rfl (by omega)
          have hA := hA.ne' (L := 1) est3 rfl (by omega)
          have hTx : Ob z st3 103 (bA κ 60 (upd t2 (sPn S + k) (nI (pby V (plen V - 1 - k))))) := Ob.put' (j := 0) hTx est3 rfl
          have hKp := hKp.fr (Fr.one est3) (fun q (g1 : 93 ≤ q) (g2 : q < 94) => (show ¬ (q = 103) from by omega))
          have hH := hH.fr (Fr.one est3) (fun q (g1 : 94 ≤ q) (g2 : q < 95) => (show ¬ (q = 103) from by omega))
          have hS := hS.fr (Fr.one est3) (fun q (g1 : 95 ≤ q) (g2 : q < 97) => (show ¬ (q = 103) from by omega))
          have hSc := hSc.fr (Fr.one est3) (fun q (g1 : 97 ≤ q) (g2 : q < 103) => (show ¬ (q = 103) from by omega))
          have hB1 := hB1.fr (Fr.one est3) (fun q (g1 : 104 ≤ q) (g2 : q < 105) => (show ¬ (q = 103) from by omega))
          have hB2 := hB2.fr (Fr.one est3) (fun q (g1 : 105 ≤ q) (g2 : q < 106) => (show ¬ (q = 103) from by omega))
          have hF := hF.put' est3 (show 91 ≤ (103) ∧ (103) < 106 from by omega)
          refine ws_iinc 65 C dX5_put_65 rfl (nI (k + 1)) (nI_1 _) rfl [some (.ref (ad κ 91)), some (.long (lN V)), none, some (.int (nI (plen V))), some (.int (nI (k + 1)))] rfl ?_
          refine ws_goto 68 C 31 dX5_put_68 (by decide) ?_
          exact ih31 c34 (upd t2 (sPn S + k) (nI (pby V (plen V - 1 - k)))) (pt_1 h1) (pt_2 (F := fun q => nI (pby V (plen V - 1 - q))) h2) st3 hM hA hTx hKp hH hS hSc hB1 hB2 hF
      exact L31 0 (Nat.zero_le _) t (fun q hq => rfl) (fun q hq => (by omega)) st0 hM hA hTx hKp hH hS hSc hB1 hB2 hF
    · skip
      have hf := fPut_t (S := S) c6 (by omega)
      refine ws_sipush 24 C dX5_put_24 ((-1004)) (by decide) ?_
      exact ws_iret 27 C dX5_put_27 rfl (Nat.le_refl _) (Nat.le_refl _) (by rw [hP]; exact PM_ret (hf) ⟨⟨_, _, hM⟩, ⟨_, hA, hR⟩, hKp, hH, hS, hSc, ⟨t, hTx, h60, ht⟩, hB1, hB2⟩ hF)
  · skip
    have hf := fPut_0 (S := S) c6
    refine ws_sipush 9 C dX5_put_9 ((-1002)) (by decide) ?_
    exact ws_iret 12 C dX5_put_12 rfl (Nat.le_refl _) (Nat.le_refl _) (by rw [hP]; exact PM_ret (hf) ⟨⟨_, _, hM⟩, ⟨_, hA, hR⟩, hKp, hH, hS, hSc, ⟨t, hTx, h60, ht⟩, hB1, hB2⟩ hF)

set_option maxRecDepth 100000 in
set_option maxHeartbeats 4000000 in
theorem c_X5_wipe {S : Sg} (hX : MI κ z st0 S) : CT zl κ yX5_wipe cX5_wipe 2 (some .int) (r0 0 0) z [.ref (ad κ 91)] st0 (PM κ z st0 (fWipe S)) := by
  obtain ⟨P, hP⟩ : ∃ P : Option Value → St → Prop, P = (PM κ z st0 (fWipe S)) := ⟨_, rfl⟩
  rw [← hP]
  refine CT.of (by decide +kernel) (Nat.le_of_ble_eq_true rfl) (fun zp ze zs zm zar zbe zme zc C _ => ?_)
  have C : Cx zp zs zm zar zme zc κ cX5_wipe 2 RX5 (some .int) := C
  refine ws_lv (lv2 := [some (.ref (ad κ 91)), none]) rfl ?_
  obtain ⟨⟨y1, y3, hM⟩, ⟨a, hA, hR⟩, hKp, hH, hS, hSc, hT, hB1, hB2⟩ := hX
  have h24 := hR.le
  have hF : Fr (fun q : Nat => 91 ≤ q ∧ q < 106) st0 st0 := Fr.rf
  refine ws_aload_n 0 C dX5_wipe_0 rfl ?_
  refine ws_get 1 C dX5_wipe_1 fX5_177 hM rfl rfl ?_
  refine ws_istore_n 4 C dX5_wipe_4 rfl [some (.ref (ad κ 91)), some (.int (nI (sPn S)))] rfl ?_
  refine ws_aload_n 5 C dX5_wipe_5 rfl ?_
  refine ws_iconst 6 C dX5_wipe_6 (nI 0) (by decide) ?_
  refine ws_put 7 C dX5_wipe_7 fX5_177 q5_14 hM rfl (Nat.le_of_ble_eq_true rfl) rfl rfl (fun st1 est1 => ?_)
  have hM : Ob z st1 91 (bMo κ (nI (sHn S)) y1 (nI 0) y3) := Ob.put' (j := 0) hM est1 rfl
  have hA := hA.ne' (L := 1) est1 rfl (by omega)
  have hKp := hKp.fr (Fr.one est1) (fun q (g1 : 93 ≤ q) (g2 : q < 94) => (show ¬ (q = 91) from by omega))
  have hH := hH.fr (Fr.one est1) (fun q (g1 : 94 ≤ q) (g2 : q < 95) => (show ¬ (q = 91) from by omega))
  have hS := hS.fr (Fr.one est1) (fun q (g1 : 95 ≤ q) (g2 : q < 97) => (show ¬ (q = 91) from by omega))
  have hSc := hSc.fr (Fr.one est1) (fun q (g1 : 97 ≤ q) (g2 : q < 103) => (show ¬ (q = 91) from by omega))
  have hT := hT.fr (Fr.one est1) (fun q (g1 : 103 ≤ q) (g2 : q < 104) => (show ¬ (q = 91) from by omega))
  have hB1 := hB1.fr (Fr.one est1) (fun q (g1 : 104 ≤ q) (g2 : q < 105) => (show ¬ (q = 91) from by omega))
  have hB2 := hB2.fr (Fr.one est1) (fun q (g1 : 105 ≤ q) (g2 : q < 106) => (show ¬ (q = 91) from by omega))
  have hF := hF.put' est1 (show 91 ≤ (91) ∧ (91) < 106 from by omega)
  refine ws_iload_n 10 C dX5_wipe_10 rfl ?_
  obtain ⟨t, hTx, h60, ht⟩ := hT
  exact ws_iret 11 C dX5_wipe_11 rfl (Nat.le_refl _) (Nat.le_refl _) (by rw [hP]; exact PM_ret (rfl) ⟨⟨_, _, hM⟩, ⟨_, hA, hR⟩, hKp, hH, hS, hSc, ⟨t, hTx, Nat.zero_le _, fun k hk => absurd hk (Nat.not_lt_zero k)⟩, hB1, hB2⟩ hF)

set_option maxRecDepth 100000 in
set_option maxHeartbeats 4000000 in
theorem c_X5_wordEnd {y0 y1 : Int32} {i : Nat} {pn : Nat} (hM : Ob z st0 91 (bMo κ y0 y1 (nI pn) (nI i))) {pt : Nat → Nat} {t : Nat → Int32} (hTx : Ob z st0 103 (bA κ 60 t)) (h60 : pn ≤ 60) (ht : ∀ k, k < pn → t k = nI (pt k) ∧ 33 ≤ pt k ∧ pt k ≤ 126) {f l : Nat → Int32} (hbg : Ob z st0 104 (bA κ 31 f)) (hln : Ob z st0 105 (bA κ 31 l)) {c : Nat} (hc : c ≤ pn) (hi : i < 31) : CT zl κ yX5_wordEnd cX5_wordEnd 3 (some .int) (r0 2 45) z [.ref (ad κ 91), .int (nI c)] st0 (PI (fun rr u => (∃ e, rr = nI e ∧ WeI pt pn c e ∧ Ob z u 104 (bA κ 31 (upd f i (nI c))) ∧ Ob z u 105 (bA κ 31 (upd l i (nI (e - c))))) ∧ Fr (fun q : Nat => q = 104 ∨ q = 105) st0 u)) := by
  obtain ⟨P, hP⟩ : ∃ P : Option Value → St → Prop, P = (PI (fun rr u => (∃ e, rr = nI e ∧ WeI pt pn c e ∧ Ob z u 104 (bA κ 31 (upd f i (nI c))) ∧ Ob z u 105 (bA κ 31 (upd l i (nI (e - c))))) ∧ Fr (fun q : Nat => q = 104 ∨ q = 105) st0 u)) := ⟨_, rfl⟩
  rw [← hP]
  refine CT.of (by decide +kernel) (Nat.le_of_ble_eq_true rfl) (fun zp ze zs zm zar zbe zme zc C _ => ?_)
  have C : Cx zp zs zm zar zme zc κ cX5_wordEnd 3 RX5 (some .int) := C
  refine ws_lv (lv2 := [some (.ref (ad κ 91)), some (.int (nI c)), none]) rfl ?_
  have hF : Fr (fun q : Nat => q = 104 ∨ q = 105) st0 st0 := Fr.rf
  refine ws_iload_n 0 C dX5_wordEnd_0 rfl ?_
  refine ws_istore_n 1 C dX5_wordEnd_1 rfl [some (.ref (ad κ 91)), some (.int (nI c)), some (.int (nI c))] rfl ?_
  have L2 : ∀ x : Nat, x ≤ pn - c → ∀ (h10 : x ≤ 10), ∀ (hg : ∀ j, c ≤ j → j < c + x → sc (nI (pt j)) < 8), WS zp zl ze (r0 2 45) zs zm zar zbe zme zc κ z 0 0 (QM zbe zar zs κ z (r0 2 45) P) st0 2 [some (.ref (ad κ 91)), some (.int (nI c)), some (.int (nI (c + x)))] [] := by
    refine dnw ?_
    intro x hx ih2 h10 hg
    refine ws_iload_n 2 C dX5_wordEnd_2 rfl ?_
    refine ws_aload_n 3 C dX5_wordEnd_3 rfl ?_
    refine ws_get 4 C dX5_wordEnd_4 fX5_177 hM rfl rfl ?_
    refine ws_nicmp_ge 7 C 39 dX5_wordEnd_7 (by decide) (by omega) (by omega) (fun c7 => ?_) (fun c7 => ?_)
    · skip
      have hw : WeI pt pn c (c + x) := ⟨by omega, by omega, by omega, hg, Or.inl (by omega)⟩
      refine ws_aload_n 39 C dX5_wordEnd_39 rfl ?_
      refine ws_get 40 C dX5_wordEnd_40 fX5_46 hM rfl rfl ?_
      refine ws_aload_n 43 C dX5_wordEnd_43 rfl ?_
      refine ws_get 44 C dX5_wordEnd_44 fX5_201 hM rfl rfl ?_
      refine ws_iload_n 47 C dX5_wordEnd_47 rfl ?_
      refine ws_iast 48 C dX5_wordEnd_48 hbg 0 rfl (vp_in_nI (by omega) (by decide)) i (nI_clamp (by omega)) (nI c) rfl (fun st1 est1 => ?_)
      have hM := hM.ne' (L := 1) est1 rfl (by omega)
      have hTx := hTx.ne' (L := 1) est1 rfl (by omega)
      have hbg : Ob z st1 104 (bA κ 31 (upd f i (nI c))) := Ob.put' (j := 0) hbg est1 rfl
      have hln := hln.ne' (L := 1) est1 rfl (by omega)
      have hF := hF.put' est1 (show (104) = 104 ∨ (104) = 105 from by omega)
      refine ws_aload_n 49 C dX5_wordEnd_49 rfl ?_
      refine ws_get 50 C dX5_wordEnd_50 fX5_49 hM rfl rfl ?_
      refine ws_aload_n 53 C dX5_wordEnd_53 rfl ?_
      refine ws_get 54 C dX5_wordEnd_54 fX5_201 hM rfl rfl ?_
      refine ws_iload_n 57 C dX5_wordEnd_57 rfl ?_
      refine ws_iload_n 58 C dX5_wordEnd_58 rfl ?_
      refine ws_isub 59 C dX5_wordEnd_59 (nI (c + x - c)) (pk_sub (by omega)) ?_
      refine ws_iast 60 C dX5_wordEnd_60 hln 0 rfl (vp_in_nI (by omega) (by decide)) i (nI_clamp (by omega)) (nI (c + x - c)) rfl (fun st2 est2 => ?_)
      have hM := hM.ne' (L := 1) est2 rfl (by omega)
      have hTx := hTx.ne' (L := 1) est2 rfl (by omega)
      have hbg := hbg.ne' (L := 1) est2 rfl (by omega)
      have hln : Ob z st2 105 (bA κ 31 (upd l i (nI (c + x - c)))) := Ob.put' (j := 0) hln est2 rfl
      have hF := hF.put' est2 (show (105) = 104 ∨ (105) = 105 from by omega)
      refine ws_iload_n 61 C dX5_wordEnd_61 rfl ?_
      exact ws_iret 62 C  dX5_wordEnd_62 rfl (Nat.le_refl _) (Nat.le_refl _) (by rw [hP]; exact ⟨nI (c + x), rfl, ⟨⟨c + x, rfl, hw, hbg, hln⟩, hF⟩⟩)
    · skip
      refine ws_iload_n 10 C dX5_wordEnd_10 rfl ?_
      refine ws_iload_n 11 C dX5_wordEnd_11 rfl ?_
      refine ws_isub 12 C dX5_wordEnd_12 (nI (c + x - c)) (pk_sub (by omega)) ?_
      refine ws_bipush 13 C dX5_wordEnd_13 (nI 10) (by decide) ?_
      refine ws_nicmp_ge 15 C 39 dX5_wordEnd_15 (by decide) (by omega) (by omega) (fun c15 => ?_) (fun c15 => ?_)
      · skip
        have hw : WeI pt pn c (c + x) := ⟨by omega, by omega, by omega, hg, Or.inr (Or.inl (by omega))⟩
        refine ws_aload_n 39 C dX5_wordEnd_39 rfl ?_
        refine ws_get 40 C dX5_wordEnd_40 fX5_46 hM rfl rfl ?_
        refine ws_aload_n 43 C dX5_wordEnd_43 rfl ?_
        refine ws_get 44 C dX5_wordEnd_44 fX5_201 hM rfl rfl ?_
        refine ws_iload_n 47 C dX5_wordEnd_47 rfl ?_
        refine ws_iast 48 C dX5_wordEnd_48 hbg 0 rfl (vp_in_nI (by omega) (by decide)) i (nI_clamp (by omega)) (nI c) rfl (fun st3 est3 => ?_)
        have hM := hM.ne' (L := 1) est3 rfl (by omega)
        have hTx := hTx.ne' (L := 1) est3 rfl (by omega)
        have hbg : Ob z st3 104 (bA κ 31 (upd f i (nI c))) := Ob.put' (j := 0) hbg est3 rfl
        have hln := hln.ne' (L := 1) est3 rfl (by omega)
        have hF := hF.put' est3 (show (104) = 104 ∨ (104) = 105 from by omega)
        refine ws_aload_n 49 C dX5_wordEnd_49 rfl ?_
        refine ws_get 50 C dX5_wordEnd_50 fX5_49 hM rfl rfl ?_
        refine ws_aload_n 53 C dX5_wordEnd_53 rfl ?_
        refine ws_get 54 C dX5_wordEnd_54 fX5_201 hM rfl rfl ?_
        refine ws_iload_n 57 C dX5_wordEnd_57 rfl ?_
        refine ws_iload_n 58 C dX5_wordEnd_58 rfl ?_
        refine ws_isub 59 C dX5_wordEnd_59 (nI (c + x - c)) (pk_sub (by omega)) ?_
        refine ws_iast 60 C dX5_wordEnd_60 hln 0 rfl (vp_in_nI (by omega) (by decide)) i (nI_clamp (by omega)) (nI (c + x - c)) rfl (fun st4 est4 => ?_)
        have hM := hM.ne' (L := 1) est4 rfl (by omega)
        have hTx := hTx.ne' (L := 1) est4 rfl (by omega)
        have hbg := hbg.ne' (L := 1) est4 rfl (by omega)
        have hln : Ob z st4 105 (bA κ 31 (upd l i (nI (c + x - c)))) := Ob.put' (j := 0) hln est4 rfl
        have hF := hF.put' est4 (show (105) = 104 ∨ (105) = 105 from by omega)
        refine ws_iload_n 61 C dX5_wordEnd_61 rfl ?_
        exact ws_iret 62 C  dX5_wordEnd_62 rfl (Nat.le_refl _) (Nat.le_refl _) (by rw [hP]; exact ⟨nI (c + x), rfl, ⟨⟨c + x, rfl, hw, hbg, hln⟩, hF⟩⟩)
      · skip
        refine ws_aload_n 18 C dX5_wordEnd_18 rfl ?_
        refine ws_get 19 C dX5_wordEnd_19 fX5_43 hM rfl rfl ?_
        refine ws_iload_n 22 C dX5_wordEnd_22 rfl ?_
        refine ws_iald 23 C dX5_wordEnd_23 hTx 0 rfl (vp_in_nI (by omega) (by decide)) (nI (pt (c + x))) ((congrArg t (nI_clamp (by omega))).trans ((ht _ c7).1)) ?_
        refine ws_callS0 24 C dX5_wordEnd_24 vX5_74 (c_X5_sortBy) rfl ⟨by decide, by decide⟩ ⟨Nat.zero_le _, Nat.zero_le _⟩ rfl rfl rfl (kR ?_)
        refine ws_sipush 27 C dX5_wordEnd_27 ((-1006)) (by decide) ?_
        refine ws_icmp_eq 30 C 39 dX5_wordEnd_30 (by decide)  (fun c30 => ?_) (fun c30 => ?_)
        · skip
          have hw : WeI pt pn c (c + x) := ⟨by omega, by omega, by omega, hg, Or.inr (Or.inr (scvn_t c30))⟩
          refine ws_aload_n 39 C dX5_wordEnd_39 rfl ?_
          refine ws_get 40 C dX5_wordEnd_40 fX5_46 hM rfl rfl ?_
          refine ws_aload_n 43 C dX5_wordEnd_43 rfl ?_
          refine ws_get 44 C dX5_wordEnd_44 fX5_201 hM rfl rfl ?_
          refine ws_iload_n 47 C dX5_wordEnd_47 rfl ?_
          refine ws_iast 48 C dX5_wordEnd_48 hbg 0 rfl (vp_in_nI (by omega) (by decide)) i (nI_clamp (by omega)) (nI c) rfl (fun st5 est5 => ?_)
          have hM := hM.ne' (L := 1) est5 rfl (by omega)
          have hTx := hTx.ne' (L := 1) est5 rfl (by omega)
          have hbg : Ob z st5 104 (bA κ 31 (upd f i (nI c))) := Ob.put' (j := 0) hbg est5 rfl
          have hln := hln.ne' (L := 1) est5 rfl (by omega)
          have hF := hF.put' est5 (show (104) = 104 ∨ (104) = 105 from by omega)
          refine ws_aload_n 49 C dX5_wordEnd_49 rfl ?_
          refine ws_get 50 C dX5_wordEnd_50 fX5_49 hM rfl rfl ?_
          refine ws_aload_n 53 C dX5_wordEnd_53 rfl ?_
          refine ws_get 54 C dX5_wordEnd_54 fX5_201 hM rfl rfl ?_
          refine ws_iload_n 57 C dX5_wordEnd_57 rfl ?_
          refine ws_iload_n 58 C dX5_wordEnd_58 rfl ?_
          refine ws_isub 59 C dX5_wordEnd_59 (nI (c + x - c)) (pk_sub (by omega)) ?_
          refine ws_iast 60 C dX5_wordEnd_60 hln 0 rfl (vp_in_nI (by omega) (by decide)) i (nI_clamp (by omega)) (nI (c + x - c)) rfl (fun st6 est6 => ?_)
          have hM := hM.ne' (L := 1) est6 rfl (by omega)
          have hTx := hTx.ne' (L := 1) est6 rfl (by omega)
          have hbg := hbg.ne' (L := 1) est6 rfl (by omega)
          have hln : Ob z st6 105 (bA κ 31 (upd l i (nI (c + x - c)))) := Ob.put' (j := 0) hln est6 rfl
          have hF := hF.put' est6 (show (105) = 104 ∨ (105) = 105 from by omega)
          refine ws_iload_n 61 C dX5_wordEnd_61 rfl ?_
          exact ws_iret 62 C  dX5_wordEnd_62 rfl (Nat.le_refl _) (Nat.le_refl _) (by rw [hP]; exact ⟨nI (c + x), rfl, ⟨⟨c + x, rfl, hw, hbg, hln⟩, hF⟩⟩)
        · skip
          refine ws_iinc 33 C dX5_wordEnd_33 rfl (nI (c + x + 1)) (nI_1 _) rfl [some (.ref (ad κ 91)), some (.int (nI c)), some (.int (nI (c + x + 1)))] rfl ?_
          refine ws_goto 36 C 2 dX5_wordEnd_36 (by decide) ?_
          exact ih2 (by omega) (by omega) (fun j h1 h2 => by rcases Nat.lt_or_ge j (c + x) with q | q; exact hg j h1 q; rw [show j = c + x from by omega]; exact scvn_f c30)
  exact L2 0 (Nat.zero_le _) (Nat.zero_le _) (fun j h1 h2 => (by omega))

set_option maxRecDepth 100000 in
set_option maxHeartbeats 4000000 in
theorem c_X5_faultI {y0 y1 y3 : Int32} {pn : Nat} (hM : Ob z st0 91 (bMo κ y0 y1 (nI pn) y3)) {pt : Nat → Nat} {t : Nat → Int32} (hTx : Ob z st0 103 (bA κ 60 t)) (h60 : pn ≤ 60) (ht : ∀ k, k < pn → t k = nI (pt k) ∧ 33 ≤ pt k ∧ pt k ≤ 126) {f l : Nat → Int32} (hbg : Ob z st0 104 (bA κ 31 f)) (hln : Ob z st0 105 (bA κ 31 l))  : CT zl κ yX5_fault cX5_fault 4 (some .int) (r0 3 67) z [.ref (ad κ 91)] st0 (PI (fun rr u => (rr = flt pt pn ∧ ∃ rd f l, Ob z u 91 (bMo κ y0 y1 (nI pn) (nI rd)) ∧ Ob z u 104 (bA κ 31 f) ∧ Ob z u 105 (bA κ 31 l) ∧ (flt pt pn = -1006 → rd = wno pt pn ∧ WsI pt pn rd f l)) ∧ Fr (fun q : Nat => q = 91 ∨ q = 104 ∨ q = 105) st0 u)) := by
  obtain ⟨P, hP⟩ : ∃ P : Option Value → St → Prop, P = (PI (fun rr u => (rr = flt pt pn ∧ ∃ rd f l, Ob z u 91 (bMo κ y0 y1 (nI pn) (nI rd)) ∧ Ob z u 104 (bA κ 31 f) ∧ Ob z u 105 (bA κ 31 l) ∧ (flt pt pn = -1006 → rd = wno pt pn ∧ WsI pt pn rd f l)) ∧ Fr (fun q : Nat => q = 91 ∨ q = 104 ∨ q = 105) st0 u)) := ⟨_, rfl⟩
  rw [← hP]
  refine CT.of (by decide +kernel) (Nat.le_of_ble_eq_true rfl) (fun zp ze zs zm zar zbe zme zc C _ => ?_)
  have C : Cx zp zs zm zar zme zc κ cX5_fault 4 RX5 (some .int) := C
  refine ws_lv (lv2 := [some (.ref (ad κ 91)), none, none, none]) rfl ?_
  have hF : Fr (fun q : Nat => q = 91 ∨ q = 104 ∨ q = 105) st0 st0 := Fr.rf
  refine ws_aload_n 0 C dX5_fault_0 rfl ?_
  refine ws_iconst 1 C dX5_fault_1 (nI 0) (by decide) ?_
  refine ws_put 2 C dX5_fault_2 fX5_201 q5_17 hM rfl (Nat.le_of_ble_eq_true rfl) rfl rfl (fun st1 est1 => ?_)
  have hM : Ob z st1 91 (bMo κ y0 y1 (nI pn) (nI 0)) := Ob.put' (j := 0) hM est1 rfl
  have hTx := hTx.ne' (L := 1) est1 rfl (by omega)
  have hbg := hbg.ne' (L := 1) est1 rfl (by omega)
  have hln := hln.ne' (L := 1) est1 rfl (by omega)
  have hF := hF.put' est1 (show (91) = 91 ∨ (91) = 104 ∨ (91) = 105 from by omega)
  refine ws_iconst 5 C dX5_fault_5 (nI 0) (by decide) ?_
  refine ws_istore_n 6 C dX5_fault_6 rfl [some (.ref (ad κ 91)), some (.int (nI 0)), none, none] rfl ?_
  refine ws_iconst 7 C dX5_fault_7 (nI 1) (by decide) ?_
  refine ws_istore_n 8 C dX5_fault_8 rfl [some (.ref (ad κ 91)), some (.int (nI 0)), some (.int (nI 1)), none] rfl ?_
  refine ws_iload_n 9 C dX5_fault_9 rfl ?_
  refine ws_nif_eq 10 C 76 dX5_fault_10 (by decide) (by omega) (fun c10 => ?_) (fun c10 => ?_)
  · skip
    (exfalso; omega)
  · skip
    refine ws_wk (lv2 := [some (.ref (ad κ 91)), some (.int (nI 0)), none, none]) ⟨rfl, rfl, trivial⟩ ?_
    have L13 : ∀ i : Nat, i ≤ wno pt pn → ∀ (f2 : Nat → Int32), ∀ (l2 : Nat → Int32), ∀ (hF0 : FoI pt pn i), ∀ (hws : WsI pt pn i f2 l2), ∀ (st2 : St), ∀ (hM : Ob z st2 91 (bMo κ y0 y1 (nI pn) (nI i))), ∀ (hTx : Ob z st2 103 (bA κ 60 t)), ∀ (hbg : Ob z st2 104 (bA κ 31 f2)), ∀ (hln : Ob z st2 105 (bA κ 31 l2)), ∀ (hF : Fr (fun q : Nat => q = 91 ∨ q = 104 ∨ q = 105) st0 st2), WS zp zl ze (r0 3 67) zs zm zar zbe zme zc κ z 0 0 (QM zbe zar zs κ z (r0 3 67) P) st2 13 [some (.ref (ad κ 91)), some (.int (nI (wst pt pn i))), none, none] [] := by
      refine dnw ?_
      intro i hi ih13 f2 l2 hF0 hws st2 hM hTx hbg hln hF
      have hwl := wst_le hF0.1
      have h2i := hF0.2.1
      refine ws_aload_n 13 C dX5_fault_13 rfl ?_
      refine ws_iload_n 14 C dX5_fault_14 rfl ?_
      refine ws_callV0 15 C dX5_fault_15 vX5_204 (c_X5_wordEnd hM hTx h60 ht hbg hln hwl (show i < 31 from by omega)) rfl hM rfl rfl ⟨by decide, by decide⟩ ⟨Nat.zero_le _, Nat.zero_le _⟩ rfl rfl rfl (kI' (fun r15 u15 h15 => ?_))
      obtain ⟨⟨e, hr, hwe, hbg, hln⟩, hfr⟩ := h15
      subst hr
      have he1 := hwe.1
      have he2 := hwe.2.1
      have hM := hfr.ob hM (fun q (g1 : 91 ≤ q) (g2 : q < 91 + 1) => (show ¬ (q = 104 ∨ q = 105) from by omega))
      have hTx := hfr.ob hTx (fun q (g1 : 103 ≤ q) (g2 : q < 103 + 1) => (show ¬ (q = 104 ∨ q = 105) from by omega))
      have hF := hF.then hfr (fun q (hq : q = 104 ∨ q = 105) => (show q = 91 ∨ q = 104 ∨ q = 105 from by omega))
      refine ws_istore_n 18 C dX5_fault_18 rfl [some (.ref (ad κ 91)), some (.int (nI (wst pt pn i))), none, some (.int (nI e))] rfl ?_
      refine ws_iload_n 19 C dX5_fault_19 rfl ?_
      refine ws_iload_n 20 C dX5_fault_20 rfl ?_
      refine ws_nicmp_ne 21 C 26 dX5_fault_21 (by decide) (by omega) (by omega) (fun c21 => ?_) (fun c21 => ?_)
      · skip
        refine ws_aload_n 26 C dX5_fault_26 rfl ?_
        refine ws_dup 27 C dX5_fault_27 rfl ?_
        refine ws_get 28 C dX5_fault_28 fX5_201 hM rfl rfl ?_
        refine ws_iconst 31 C dX5_fault_31 (nI 1) (by decide) ?_
        refine ws_iadd 32 C dX5_fault_32 (nI (i + 1)) (nI_add _ _) ?_
        refine ws_put 33 C dX5_fault_33 fX5_201 q5_17 hM rfl (Nat.le_of_ble_eq_true rfl) rfl rfl (fun st3 est3 => ?_)
        have hM : Ob z st3 91 (bMo κ y0 y1 (nI pn) (nI (i + 1))) := Ob.put' (j := 0) hM est3 rfl
        have hTx := hTx.ne' (L := 1) est3 rfl (by omega)
        have hbg := hbg.ne' (L := 1) est3 rfl (by omega)
        have hln := hln.ne' (L := 1) est3 rfl (by omega)
        have hF := hF.put' est3 (show (91) = 91 ∨ (91) = 104 ∨ (91) = 105 from by omega)
        refine ws_iload_n 36 C dX5_fault_36 rfl ?_
        refine ws_aload_n 37 C dX5_fault_37 rfl ?_
        refine ws_get 38 C dX5_fault_38 fX5_177 hM rfl rfl ?_
        refine ws_nicmp_ge 41 C 59 dX5_fault_41 (by decide) (by omega) (by omega) (fun c41 => ?_) (fun c41 => ?_)
        · skip
          have hep : e = pn := by omega
          have hno := fo_none hwe hF0 c21 hep
          have hex := (fo_ext hwe (Or.inl hep)).2
          refine ws_iconst 59 C dX5_fault_59 (nI 0) (by decide) ?_
          refine ws_istore_n 60 C dX5_fault_60 rfl [some (.ref (ad κ 91)), some (.int (nI (wst pt pn i))), some (.int (nI 0)), some (.int (nI e))] rfl ?_
          refine ws_iload_n 61 C dX5_fault_61 rfl ?_
          refine ws_nif_eq 62 C 71 dX5_fault_62 (by decide) (by omega) (fun c62 => ?_) (fun c62 => ?_)
          · skip
            refine ws_iload_n 71 C dX5_fault_71 rfl ?_
            refine ws_istore_n 72 C dX5_fault_72 rfl [some (.ref (ad κ 91)), some (.int (nI e)), some (.int (nI 0)), some (.int (nI e))] rfl ?_
            refine ws_wk (lv2 := [some (.ref (ad κ 91)), some (.int (nI e)), some (.int (nI 0)), some (.int (nI e))]) ⟨rfl, rfl, rfl, rfl, trivial⟩ ?_
            refine ws_goto 73 C 9 dX5_fault_73 (by decide) ?_
            refine ws_iload_n 9 C dX5_fault_9 rfl ?_
            refine ws_nif_eq 10 C 76 dX5_fault_10 (by decide) (by omega) (fun c10 => ?_) (fun c10 => ?_)
            · skip
              refine ws_iload_n 76 C dX5_fault_76 rfl ?_
              refine ws_aload_n 77 C dX5_fault_77 rfl ?_
              refine ws_get 78 C dX5_fault_78 fX5_177 hM rfl rfl ?_
              refine ws_nicmp_ne 81 C 90 dX5_fault_81 (by decide) (by omega) (by omega) (fun c81 => ?_) (fun c81 => ?_)
              · skip
                refine ws_iload_n 90 C dX5_fault_90 rfl ?_
                exact ws_iret 91 C  dX5_fault_91 rfl (Nat.le_refl _) (Nat.le_refl _) (by rw [hP]; exact ⟨nI e, rfl, ⟨⟨by first | exact hfl.symm | exact absurd hep c81, i + 1, _, _, hM, hbg, hln, fun q => by first | exact absurd (hfl.symm.trans q) (nI_no (by omega)) | exact absurd hep c81⟩, hF⟩⟩)
              · skip
                refine ws_sipush 84 C dX5_fault_84 ((-1006)) (by decide) ?_
                refine ws_goto 87 C 91 dX5_fault_87 (by decide) ?_
                exact ws_iret 91 C  dX5_fault_91 rfl (Nat.le_refl _) (Nat.le_refl _) (by rw [hP]; exact ⟨(-1006), rfl, ⟨⟨by first | exact hno.1.symm | exact absurd c81 (by omega), i + 1, _, _, hM, hbg, hln, fun q => by first | exact ⟨hno.2, ws_next hws hex⟩ | exact absurd c81 (by omega)⟩, hF⟩⟩)
            · skip
              (exfalso; omega)
          · skip
            (exfalso; omega)
        · skip
          refine ws_aload_n 44 C dX5_fault_44 rfl ?_
          refine ws_get 45 C dX5_fault_45 fX5_43 hM rfl rfl ?_
          refine ws_iload_n 48 C dX5_fault_48 rfl ?_
          refine ws_iald 49 C dX5_fault_49 hTx 0 rfl (vp_in_nI (by omega) (by decide)) (nI (pt e)) ((congrArg t (nI_clamp (by omega))).trans ((ht _ c41).1)) ?_
          refine ws_bipush 50 C dX5_fault_50 (nI 95) (by decide) ?_
          refine ws_nicmp_ne 52 C 59 dX5_fault_52 (by decide) (by have := (ht _ c41).2.2; omega) (by have := (ht _ c41).2.2; omega) (fun c52 => ?_) (fun c52 => ?_)
          · skip
            have hfl := fo_there hwe hF0 c41 c52
            refine ws_iconst 59 C dX5_fault_59 (nI 0) (by decide) ?_
            refine ws_istore_n 60 C dX5_fault_60 rfl [some (.ref (ad κ 91)), some (.int (nI (wst pt pn i))), some (.int (nI 0)), some (.int (nI e))] rfl ?_
            refine ws_iload_n 61 C dX5_fault_61 rfl ?_
            refine ws_nif_eq 62 C 71 dX5_fault_62 (by decide) (by omega) (fun c62 => ?_) (fun c62 => ?_)
            · skip
              refine ws_iload_n 71 C dX5_fault_71 rfl ?_
              refine ws_istore_n 72 C dX5_fault_72 rfl [some (.ref (ad κ 91)), some (.int (nI e)), some (.int (nI 0)), some (.int (nI e))] rfl ?_
              refine ws_wk (lv2 := [some (.ref (ad κ 91)), some (.int (nI e)), some (.int (nI 0)), some (.int (nI e))]) ⟨rfl, rfl, rfl, rfl, trivial⟩ ?_
              refine ws_goto 73 C 9 dX5_fault_73 (by decide) ?_
              refine ws_iload_n 9 C dX5_fault_9 rfl ?_
              refine ws_nif_eq 10 C 76 dX5_fault_10 (by decide) (by omega) (fun c10 => ?_) (fun c10 => ?_)
              · skip
                refine ws_iload_n 76 C dX5_fault_76 rfl ?_
                refine ws_aload_n 77 C dX5_fault_77 rfl ?_
                refine ws_get 78 C dX5_fault_78 fX5_177 hM rfl rfl ?_
                refine ws_nicmp_ne 81 C 90 dX5_fault_81 (by decide) (by omega) (by omega) (fun c81 => ?_) (fun c81 => ?_)
                · skip
                  refine ws_iload_n 90 C dX5_fault_90 rfl ?_
                  exact ws_iret 91 C  dX5_fault_91 rfl (Nat.le_refl _) (Nat.le_refl _) (by rw [hP]; exact ⟨nI e, rfl, ⟨⟨by first | exact hfl.symm | exact absurd hep c81, i + 1, _, _, hM, hbg, hln, fun q => by first | exact absurd (hfl.symm.trans q) (nI_no (by omega)) | exact absurd hep c81⟩, hF⟩⟩)
                · skip
                  refine ws_sipush 84 C dX5_fault_84 ((-1006)) (by decide) ?_
                  refine ws_goto 87 C 91 dX5_fault_87 (by decide) ?_
                  exact ws_iret 91 C  dX5_fault_91 rfl (Nat.le_refl _) (Nat.le_refl _) (by rw [hP]; exact ⟨(-1006), rfl, ⟨⟨by first | exact hno.1.symm | exact absurd c81 (by omega), i + 1, _, _, hM, hbg, hln, fun q => by first | exact ⟨hno.2, ws_next hws hex⟩ | exact absurd c81 (by omega)⟩, hF⟩⟩)
              · skip
                (exfalso; omega)
            · skip
              (exfalso; omega)
          · skip
            have hnx := fo_next hwe hF0 c21 c41 c52
            have hex := (fo_ext hwe (Or.inr c52)).2
            refine ws_iconst 55 C dX5_fault_55 (nI 1) (by decide) ?_
            refine ws_goto 56 C 60 dX5_fault_56 (by decide) ?_
            refine ws_istore_n 60 C dX5_fault_60 rfl [some (.ref (ad κ 91)), some (.int (nI (wst pt pn i))), some (.int (nI 1)), some (.int (nI e))] rfl ?_
            refine ws_iload_n 61 C dX5_fault_61 rfl ?_
            refine ws_nif_eq 62 C 71 dX5_fault_62 (by decide) (by omega) (fun c62 => ?_) (fun c62 => ?_)
            · skip
              (exfalso; omega)
            · skip
              refine ws_iload_n 65 C dX5_fault_65 rfl ?_
              refine ws_iconst 66 C dX5_fault_66 (nI 1) (by decide) ?_
              refine ws_iadd 67 C dX5_fault_67 (nI (e + 1)) (nI_add _ _) ?_
              refine ws_goto 68 C 72 dX5_fault_68 (by decide) ?_
              refine ws_istore_n 72 C dX5_fault_72 rfl [some (.ref (ad κ 91)), some (.int (nI (e + 1))), some (.int (nI 1)), some (.int (nI e))] rfl ?_
              refine ws_wk (lv2 := [some (.ref (ad κ 91)), some (.int (nI (wst pt pn (i + 1)))), some (.int (nI 1)), some (.int (nI e))]) ⟨rfl, (congrArg (fun q => Value.int (nI q)) hnx.2), rfl, rfl, trivial⟩ ?_
              refine ws_goto 73 C 9 dX5_fault_73 (by decide) ?_
              refine ws_iload_n 9 C dX5_fault_9 rfl ?_
              refine ws_nif_eq 10 C 76 dX5_fault_10 (by decide) (by omega) (fun c10 => ?_) (fun c10 => ?_)
              · skip
                (exfalso; omega)
              · skip
                refine ws_wk (lv2 := [some (.ref (ad κ 91)), some (.int (nI (wst pt pn (i + 1)))), none, some (.int (nI e))]) ⟨rfl, rfl, rfl, trivial⟩ ?_
                refine ws_wk (lv2 := [some (.ref (ad κ 91)), some (.int (nI (wst pt pn (i + 1)))), none, none]) ⟨rfl, rfl, trivial⟩ ?_
                exact ih13 hF0.1 (upd f2 i (nI (wst pt pn i))) (upd l2 i (nI (e - wst pt pn i))) hnx.1 (ws_next hws hex) st3 hM hTx hbg hln hF
      · skip
        have hfl := fo_here hwe hF0 c21
        refine ws_iload_n 24 C dX5_fault_24 rfl ?_
        exact ws_iret 25 C  dX5_fault_25 rfl (Nat.le_refl _) (Nat.le_refl _) (by rw [hP]; exact ⟨nI (wst pt pn i), rfl, ⟨⟨hfl.symm, i, _, _, hM, hbg, hln, fun q => absurd (hfl.symm.trans q) (nI_no (by omega))⟩, hF⟩⟩)
    exact L13 0 (Nat.zero_le _) f l fo_0 (fun q hq => absurd hq (Nat.not_lt_zero q)) st1 hM hTx hbg hln hF

theorem c_X5_fault {S : Sg} (hX : MI κ z st0 S) : CT zl κ yX5_fault cX5_fault 4 (some .int) (r0 3 67) z [.ref (ad κ 91)] st0 (PM κ z st0 (fFault S, S)) := by
  obtain ⟨⟨y1, y3, hM⟩, ⟨a, hA, hR⟩, hKp, hH, hS, hSc, hT, hB1, hB2⟩ := hX
  have h24 := hR.le
  obtain ⟨t, hTx, h60, ht⟩ := hT
  obtain ⟨f, hbg⟩ := hB1
  obtain ⟨l, hln⟩ := hB2
  refine (c_X5_faultI hM hTx h60 ht hbg hln).mono (fun v u h => ?_)
  obtain ⟨rr, e, ⟨hr, rd, f2, l2, hM, hbg, hln, -⟩, hfr⟩ := h
  have hF : Fr (fun q : Nat => 91 ≤ q ∧ q < 106) st0 u := hfr.weak (fun q (g : q = 91 ∨ q = 104 ∨ q = 105) => (show 91 ≤ q ∧ q < 106 from by omega))
  exact ⟨rr, e, hr, ⟨⟨_, _, hM⟩, ⟨_, obA hA hfr (show ¬ ((92 : Nat) = 91 ∨ 92 = 104 ∨ 92 = 105) from by omega), hR⟩, hKp.fr hfr (fun q g1 g2 => (show ¬ (q = 91 ∨ q = 104 ∨ q = 105) from by omega)), hH.fr hfr (fun q g1 g2 => (show ¬ (q = 91 ∨ q = 104 ∨ q = 105) from by omega)), hS.fr hfr (fun q g1 g2 => (show ¬ (q = 91 ∨ q = 104 ∨ q = 105) from by omega)), hSc.fr hfr (fun q g1 g2 => (show ¬ (q = 91 ∨ q = 104 ∨ q = 105) from by omega)), ⟨t, obA hTx hfr (show ¬ ((103 : Nat) = 91 ∨ 103 = 104 ∨ 103 = 105) from by omega), h60, ht⟩, ⟨_, hbg⟩, ⟨_, hln⟩⟩, hF⟩

set_option maxRecDepth 100000 in
set_option maxHeartbeats 4000000 in
theorem c_X5_read {S : Sg} (hX : MI κ z st0 S) : CT zl κ yX5_read cX5_read 4 (some .int) (r0 4 90) z [.ref (ad κ 91)] st0 (PM κ z st0 (fRead S)) := by
  obtain ⟨P, hP⟩ : ∃ P : Option Value → St → Prop, P = (PM κ z st0 (fRead S)) := ⟨_, rfl⟩
  rw [← hP]
  refine CT.of (by decide +kernel) (Nat.le_of_ble_eq_true rfl) (fun zp ze zs zm zar zbe zme zc C _ => ?_)
  have C : Cx zp zs zm zar zme zc κ cX5_read 4 RX5 (some .int) := C
  refine ws_lv (lv2 := [some (.ref (ad κ 91)), none, none, none]) rfl ?_
  obtain ⟨⟨y1, y3, hM⟩, ⟨a, hA, hR⟩, hKp, hH, hS, hSc, hT, hB1, hB2⟩ := hX
  have h24 := hR.le
  have hF : Fr (fun q : Nat => 91 ≤ q ∧ q < 106) st0 st0 := Fr.rf
  obtain ⟨t, hTx, h60, ht⟩ := hT
  obtain ⟨f, hbg⟩ := hB1
  obtain ⟨l, hln⟩ := hB2
  refine ws_aload_n 0 C dX5_read_0 rfl ?_
  refine ws_callV0 1 C dX5_read_1 vX5_207 (c_X5_faultI hM hTx h60 ht hbg hln) rfl hM rfl rfl ⟨by decide, by decide⟩ ⟨Nat.zero_le _, Nat.zero_le _⟩ rfl rfl rfl (kI' (fun r1 u1 h1 => ?_))
  obtain ⟨⟨hr, rd, f2, l2, hM, hbg, hln, hwn⟩, hfr⟩ := h1
  have hKp := hKp.fr hfr (fun q (g1 : 93 ≤ q) (g2 : q < 94) => (show ¬ (q = 91 ∨ q = 104 ∨ q = 105) from by omega))
  have hH := hH.fr hfr (fun q (g1 : 94 ≤ q) (g2 : q < 95) => (show ¬ (q = 91 ∨ q = 104 ∨ q = 105) from by omega))
  have hS := hS.fr hfr (fun q (g1 : 95 ≤ q) (g2 : q < 97) => (show ¬ (q = 91 ∨ q = 104 ∨ q = 105) from by omega))
  have hSc := hSc.fr hfr (fun q (g1 : 97 ≤ q) (g2 : q < 103) => (show ¬ (q = 91 ∨ q = 104 ∨ q = 105) from by omega))
  have hA := hfr.ob hA (fun q (g1 : 92 ≤ q) (g2 : q < 92 + 1) => (show ¬ (q = 91 ∨ q = 104 ∨ q = 105) from by omega))
  have hTx := hfr.ob hTx (fun q (g1 : 103 ≤ q) (g2 : q < 103 + 1) => (show ¬ (q = 91 ∨ q = 104 ∨ q = 105) from by omega))
  have hF := hF.then hfr (fun q (hq : q = 91 ∨ q = 104 ∨ q = 105) => (show 91 ≤ q ∧ q < 106 from by omega))
  refine ws_sipush 4 C dX5_read_4 ((-1006)) (by decide) ?_
  refine ws_icmp_eq 7 C 14 dX5_read_7 (by decide)  (fun c7 => ?_) (fun c7 => ?_)
  · skip
    have hfl := hr.symm.trans c7
    obtain ⟨hrd, hws⟩ := hwn hfl
    have hN := flt_no h60 hfl
    have hwle := wno_le (sPt S) (sPn S)
    refine ws_aload_n 14 C dX5_read_14 rfl ?_
    refine ws_get 15 C dX5_read_15 fX5_7 hM rfl rfl ?_
    refine ws_iconst 18 C dX5_read_18 (nI 4) (by decide) ?_
    refine ws_iald 19 C dX5_read_19 hA 0 rfl (vp_in_nI (by omega) (by decide)) (nI (mn (sM S))) ((congrArg a (nI_clamp (by omega))).trans (hR.n)) ?_
    refine ws_aload_n 20 C dX5_read_20 rfl ?_
    refine ws_get 21 C dX5_read_21 fX5_201 hM rfl rfl ?_
    refine ws_iadd 24 C dX5_read_24 (nI (mn (sM S) + rd)) (nI_add _ _) ?_
    refine ws_bipush 25 C dX5_read_25 (nI 24) (by decide) ?_
    refine ws_nicmp_le 27 C 34 dX5_read_27 (by decide) (by omega) (by omega) (fun c27 => ?_) (fun c27 => ?_)
    · skip
      have hf := fRead_s (S := S) hfl (by omega)
      have h10w : ∀ w q, w ≤ rd → q < w → wln (sPt S) (sPn S) q ≤ 10 := fun w q hw hq => (word_ok hN (show q < wno (sPt S) (sPn S) from by omega)).2.1
      refine ws_aload_n 34 C dX5_read_34 rfl ?_
      refine ws_callV0 35 C dX5_read_35 vX5_134 (c_X5_changes hM hA hR hH) rfl hM rfl rfl ⟨by decide, by decide⟩ ⟨Nat.zero_le _, Nat.zero_le _⟩ rfl rfl rfl (kV (fun u35 h35 => ?_))
      obtain ⟨⟨hM, hH⟩, hfr⟩ := h35
      have hKp := hKp.fr hfr (fun q (g1 : 93 ≤ q) (g2 : q < 94) => (show ¬ (q = 91 ∨ q = 94) from by omega))
      have hS := hS.fr hfr (fun q (g1 : 95 ≤ q) (g2 : q < 97) => (show ¬ (q = 91 ∨ q = 94) from by omega))
      have hSc := hSc.fr hfr (fun q (g1 : 97 ≤ q) (g2 : q < 103) => (show ¬ (q = 91 ∨ q = 94) from by omega))
      have hA := hfr.ob hA (fun q (g1 : 92 ≤ q) (g2 : q < 92 + 1) => (show ¬ (q = 91 ∨ q = 94) from by omega))
      have hTx := hfr.ob hTx (fun q (g1 : 103 ≤ q) (g2 : q < 103 + 1) => (show ¬ (q = 91 ∨ q = 94) from by omega))
      have hbg := hfr.ob hbg (fun q (g1 : 104 ≤ q) (g2 : q < 104 + 1) => (show ¬ (q = 91 ∨ q = 94) from by omega))
      have hln := hfr.ob hln (fun q (g1 : 105 ≤ q) (g2 : q < 105 + 1) => (show ¬ (q = 91 ∨ q = 94) from by omega))
      have hF := hF.then hfr (fun q (hq : q = 91 ∨ q = 94) => (show 91 ≤ q ∧ q < 106 from by omega))
      refine ws_iconst 38 C dX5_read_38 (nI 0) (by decide) ?_
      refine ws_istore_n 39 C dX5_read_39 rfl [some (.ref (ad κ 91)), some (.int (nI 0)), none, none] rfl ?_
      have L40 : ∀ w : Nat, w ≤ rd → ∀ (g : Nat → Int32), ∀ (hg : RdI (sM S) (sPt S) (sPn S) a g w), ∀ (st1 : St), ∀ (hM : Ob z st1 91 (bMo κ (nI (hcnt (sHn S))) y1 (nI (sPn S)) (nI rd))), ∀ (hA : Ob z st1 92 (bA κ 293 g)), ∀ (hTx : Ob z st1 103 (bA κ 60 t)), ∀ (hbg : Ob z st1 104 (bA κ 31 f2)), ∀ (hln : Ob z st1 105 (bA κ 31 l2)), ∀ (hKp : AnyA κ z st1 93 293), ∀ (hH : HmP κ z st1 (hpush (sH S) (sHn S) (sM S)) (hcnt (sHn S))), ∀ (hS : SmP κ z st1 (sSl S) (sFd S)), ∀ (hSc : ScP κ z st1), ∀ (hF : Fr (fun q : Nat => 91 ≤ q ∧ q < 106) st0 st1), WS zp zl ze (r0 4 90) zs zm zar zbe zme zc κ z 0 0 (QM zbe zar zs κ z (r0 4 90) P) st1 40 [some (.ref (ad κ 91)), some (.int (nI w)), none, none] [] := by
        refine dnw ?_
        intro w hw ih40 g hg st1 hM hA hTx hbg hln hKp hH hS hSc hF
        refine ws_iload_n 40 C dX5_read_40 rfl ?_
        refine ws_aload_n 41 C dX5_read_41 rfl ?_
        refine ws_get 42 C dX5_read_42 fX5_201 hM rfl rfl ?_
        refine ws_nicmp_ge 45 C 130 dX5_read_45 (by decide) (by omega) (by omega) (fun c45 => ?_) (fun c45 => ?_)
        · skip
          refine ws_aload_n 130 C dX5_read_130 rfl ?_
          refine ws_iconst 131 C dX5_read_131 (nI 0) (by decide) ?_
          refine ws_put 132 C dX5_read_132 fX5_177 q5_14 hM rfl (Nat.le_of_ble_eq_true rfl) rfl rfl (fun st2 est2 => ?_)
          have hM : Ob z st2 91 (bMo κ (nI (hcnt (sHn S))) y1 (nI 0) (nI rd)) := Ob.put' (j := 0) hM est2 rfl
          have hA := hA.ne' (L := 1) est2 rfl (by omega)
          have hTx := hTx.ne' (L := 1) est2 rfl (by omega)
          have hbg := hbg.ne' (L := 1) est2 rfl (by omega)
          have hln := hln.ne' (L := 1) est2 rfl (by omega)
          have hKp := hKp.fr (Fr.one est2) (fun q (g1 : 93 ≤ q) (g2 : q < 94) => (show ¬ (q = 91) from by omega))
          have hH := hH.fr (Fr.one est2) (fun q (g1 : 94 ≤ q) (g2 : q < 95) => (show ¬ (q = 91) from by omega))
          have hS := hS.fr (Fr.one est2) (fun q (g1 : 95 ≤ q) (g2 : q < 97) => (show ¬ (q = 91) from by omega))
          have hSc := hSc.fr (Fr.one est2) (fun q (g1 : 97 ≤ q) (g2 : q < 103) => (show ¬ (q = 91) from by omega))
          have hF := hF.put' est2 (show 91 ≤ (91) ∧ (91) < 106 from by omega)
          refine ws_aload_n 135 C dX5_read_135 rfl ?_
          refine ws_get 136 C dX5_read_136 fX5_7 hM rfl rfl ?_
          refine ws_iconst 139 C dX5_read_139 (nI 4) (by decide) ?_
          refine ws_iald 140 C dX5_read_140 hA 0 rfl (vp_in_nI (by omega) (by decide)) (nI (mn (sM S) + wno (sPt S) (sPn S))) ((congrArg g (nI_clamp (by omega))).trans ((hg.2.1.trans (by rw [show w = wno (sPt S) (sPn S) from by omega])))) ?_
          exact ws_iret 141 C dX5_read_141 rfl (Nat.le_refl _) (Nat.le_refl _) (by rw [hP]; exact PM_ret (hf) ⟨⟨_, _, hM⟩, ⟨_, hA, rd_end hR hg (show w = wno (sPt S) (sPn S) from by omega) hN (by omega)⟩, hKp, hH, hS, hSc, ⟨t, hTx, Nat.zero_le _, fun k hk => absurd hk (Nat.not_lt_zero k)⟩, ⟨_, hbg⟩, ⟨_, hln⟩⟩ hF)
        · skip
          have hwo := word_ok hN (show w < wno (sPt S) (sPn S) from by omega)
          have hwl1 := hwo.2.1
          have h10v := fun q => h10w w q (Nat.le_of_lt c45)
          refine ws_bipush 48 C dX5_read_48 (nI 29) (by decide) ?_
          refine ws_bipush 50 C dX5_read_50 (nI 11) (by decide) ?_
          refine ws_aload_n 52 C dX5_read_52 rfl ?_
          refine ws_get 53 C dX5_read_53 fX5_7 hM rfl rfl ?_
          refine ws_iconst 56 C dX5_read_56 (nI 4) (by decide) ?_
          refine ws_iald 57 C dX5_read_57 hA 0 rfl (vp_in_nI (by omega) (by decide)) (nI (mn (sM S) + w)) ((congrArg g (nI_clamp (by omega))).trans (hg.2.1)) ?_
          refine ws_imul 58 C dX5_read_58 (nI (11 * (mn (sM S) + w))) (pk_mul _ _) ?_
          refine ws_iadd 59 C dX5_read_59 (nI (29 + (11 * (mn (sM S) + w)))) (nI_add _ _) ?_
          refine ws_istore_n 60 C dX5_read_60 rfl [some (.ref (ad κ 91)), some (.int (nI w)), some (.int (nI (29 + (11 * (mn (sM S) + w))))), none] rfl ?_
          refine ws_aload_n 61 C dX5_read_61 rfl ?_
          refine ws_get 62 C dX5_read_62 fX5_7 hM rfl rfl ?_
          refine ws_iload_n 65 C dX5_read_65 rfl ?_
          refine ws_aload_n 66 C dX5_read_66 rfl ?_
          refine ws_get 67 C dX5_read_67 fX5_49 hM rfl rfl ?_
          refine ws_iload_n 70 C dX5_read_70 rfl ?_
          refine ws_iald 71 C dX5_read_71 hln 0 rfl (vp_in_nI (by omega) (by decide)) (nI (wln (sPt S) (sPn S) w)) ((congrArg l2 (nI_clamp (by omega))).trans ((hws w c45).2)) ?_
          refine ws_iast 72 C dX5_read_72 hA 0 rfl (vp_in_nI (by omega) (by decide)) (29 + (11 * (mn (sM S) + w))) (nI_clamp (by omega)) (nI (wln (sPt S) (sPn S) w)) rfl (fun st3 est3 => ?_)
          have hM := hM.ne' (L := 1) est3 rfl (by omega)
          have hA : Ob z st3 92 (bA κ 293 (upd g (29 + (11 * (mn (sM S) + w))) (nI (wln (sPt S) (sPn S) w)))) := Ob.put' (j := 0) hA est3 rfl
          have hTx := hTx.ne' (L := 1) est3 rfl (by omega)
          have hbg := hbg.ne' (L := 1) est3 rfl (by omega)
          have hln := hln.ne' (L := 1) est3 rfl (by omega)
          have hKp := hKp.fr (Fr.one est3) (fun q (g1 : 93 ≤ q) (g2 : q < 94) => (show ¬ (q = 92) from by omega))
          have hH := hH.fr (Fr.one est3) (fun q (g1 : 94 ≤ q) (g2 : q < 95) => (show ¬ (q = 92) from by omega))
          have hS := hS.fr (Fr.one est3) (fun q (g1 : 95 ≤ q) (g2 : q < 97) => (show ¬ (q = 92) from by omega))
          have hSc := hSc.fr (Fr.one est3) (fun q (g1 : 97 ≤ q) (g2 : q < 103) => (show ¬ (q = 92) from by omega))
          have hF := hF.put' est3 (show 91 ≤ (92) ∧ (92) < 106 from by omega)
          refine ws_iconst 73 C dX5_read_73 (nI 0) (by decide) ?_
          refine ws_istore_n 74 C dX5_read_74 rfl [some (.ref (ad κ 91)), some (.int (nI w)), some (.int (nI (29 + (11 * (mn (sM S) + w))))), some (.int (nI 0))] rfl ?_
          have L75 : ∀ k : Nat, k ≤ wln (sPt S) (sPn S) w → ∀ (g2 : Nat → Int32), ∀ (hg2 : RdJ (sM S) (sPt S) (sPn S) a g2 w k), ∀ (st4 : St), ∀ (hM : Ob z st4 91 (bMo κ (nI (hcnt (sHn S))) y1 (nI (sPn S)) (nI rd))), ∀ (hA : Ob z st4 92 (bA κ 293 g2)), ∀ (hTx : Ob z st4 103 (bA κ 60 t)), ∀ (hbg : Ob z st4 104 (bA κ 31 f2)), ∀ (hln : Ob z st4 105 (bA κ 31 l2)), ∀ (hKp : AnyA κ z st4 93 293), ∀ (hH : HmP κ z st4 (hpush (sH S) (sHn S) (sM S)) (hcnt (sHn S))), ∀ (hS : SmP κ z st4 (sSl S) (sFd S)), ∀ (hSc : ScP κ z st4), ∀ (hF : Fr (fun q : Nat => 91 ≤ q ∧ q < 106) st0 st4), WS zp zl ze (r0 4 90) zs zm zar zbe zme zc κ z 0 0 (QM zbe zar zs κ z (r0 4 90) P) st4 75 [some (.ref (ad κ 91)), some (.int (nI w)), some (.int (nI (29 + (11 * (mn (sM S) + w))))), some (.int (nI k))] [] := by
            refine dnw ?_
            intro k hk ih75 g2 hg2 st4 hM hA hTx hbg hln hKp hH hS hSc hF
            refine ws_iload_n 75 C dX5_read_75 rfl ?_
            refine ws_aload_n 76 C dX5_read_76 rfl ?_
            refine ws_get 77 C dX5_read_77 fX5_49 hM rfl rfl ?_
            refine ws_iload_n 80 C dX5_read_80 rfl ?_
            refine ws_iald 81 C dX5_read_81 hln 0 rfl (vp_in_nI (by omega) (by decide)) (nI (wln (sPt S) (sPn S) w)) ((congrArg l2 (nI_clamp (by omega))).trans ((hws w c45).2)) ?_
            refine ws_nicmp_ge 82 C 114 dX5_read_82 (by decide) (by omega) (by omega) (fun c82 => ?_) (fun c82 => ?_)
            · skip
              refine ws_aload_n 114 C dX5_read_114 rfl ?_
              refine ws_get 115 C dX5_read_115 fX5_7 hM rfl rfl ?_
              refine ws_iconst 118 C dX5_read_118 (nI 4) (by decide) ?_
              refine ws_dup2 119 C dX5_read_119 rfl rfl ?_
              refine ws_iald 120 C dX5_read_120 hA 0 rfl (vp_in_nI (by omega) (by decide)) (nI (mn (sM S) + w)) ((congrArg g2 (nI_clamp (by omega))).trans (hg2.1.2.1)) ?_
              refine ws_iconst 121 C dX5_read_121 (nI 1) (by decide) ?_
              refine ws_iadd 122 C dX5_read_122 (nI (mn (sM S) + w + 1)) (nI_add _ _) ?_
              refine ws_iast 123 C dX5_read_123 hA 0 rfl (vp_in_nI (by omega) (by decide)) 4 (nI_clamp (by omega)) (nI (mn (sM S) + w + 1)) rfl (fun st5 est5 => ?_)
              have hM := hM.ne' (L := 1) est5 rfl (by omega)
              have hA : Ob z st5 92 (bA κ 293 (upd g2 4 (nI (mn (sM S) + w + 1)))) := Ob.put' (j := 0) hA est5 rfl
              have hTx := hTx.ne' (L := 1) est5 rfl (by omega)
              have hbg := hbg.ne' (L := 1) est5 rfl (by omega)
              have hln := hln.ne' (L := 1) est5 rfl (by omega)
              have hKp := hKp.fr (Fr.one est5) (fun q (g1 : 93 ≤ q) (g2 : q < 94) => (show ¬ (q = 92) from by omega))
              have hH := hH.fr (Fr.one est5) (fun q (g1 : 94 ≤ q) (g2 : q < 95) => (show ¬ (q = 92) from by omega))
              have hS := hS.fr (Fr.one est5) (fun q (g1 : 95 ≤ q) (g2 : q < 97) => (show ¬ (q = 92) from by omega))
              have hSc := hSc.fr (Fr.one est5) (fun q (g1 : 97 ≤ q) (g2 : q < 103) => (show ¬ (q = 92) from by omega))
              have hF := hF.put' est5 (show 91 ≤ (92) ∧ (92) < 106 from by omega)
              refine ws_iinc 124 C dX5_read_124 rfl (nI (w + 1)) (nI_1 _) rfl [some (.ref (ad κ 91)), some (.int (nI (w + 1))), some (.int (nI (29 + (11 * (mn (sM S) + w))))), some (.int (nI k))] rfl ?_
              refine ws_goto 127 C 40 dX5_read_127 (by decide) ?_
              refine ws_wk (lv2 := [some (.ref (ad κ 91)), some (.int (nI (w + 1))), none, none]) ⟨rfl, rfl, trivial⟩ ?_
              exact ih40 c45 (upd g2 4 (nI (mn (sM S) + w + 1))) (rd_s hg2 c82) st5 hM hA hTx hbg hln hKp hH hS hSc hF
            · skip
              have hwp := (hwo.2.2.1 k c82).1
              refine ws_aload_n 85 C dX5_read_85 rfl ?_
              refine ws_get 86 C dX5_read_86 fX5_7 hM rfl rfl ?_
              refine ws_iload_n 89 C dX5_read_89 rfl ?_
              refine ws_iconst 90 C dX5_read_90 (nI 1) (by decide) ?_
              refine ws_iadd 91 C dX5_read_91 (nI (29 + (11 * (mn (sM S) + w)) + 1)) (nI_add _ _) ?_
              refine ws_iload_n 92 C dX5_read_92 rfl ?_
              refine ws_iadd 93 C dX5_read_93 (nI (29 + (11 * (mn (sM S) + w)) + 1 + k)) (nI_add _ _) ?_
              refine ws_aload_n 94 C dX5_read_94 rfl ?_
              refine ws_get 95 C dX5_read_95 fX5_43 hM rfl rfl ?_
              refine ws_aload_n 98 C dX5_read_98 rfl ?_
              refine ws_get 99 C dX5_read_99 fX5_46 hM rfl rfl ?_
              refine ws_iload_n 102 C dX5_read_102 rfl ?_
              refine ws_iald 103 C dX5_read_103 hbg 0 rfl (vp_in_nI (by omega) (by decide)) (nI (wst (sPt S) (sPn S) w)) ((congrArg f2 (nI_clamp (by omega))).trans ((hws w c45).1)) ?_
              refine ws_iload_n 104 C dX5_read_104 rfl ?_
              refine ws_iadd 105 C dX5_read_105 (nI (wst (sPt S) (sPn S) w + k)) (nI_add _ _) ?_
              refine ws_iald 106 C dX5_read_106 hTx 0 rfl (vp_in_nI (by omega) (by decide)) (nI (sPt S (wst (sPt S) (sPn S) w + k))) ((congrArg t (nI_clamp (by omega))).trans ((ht _ hwp).1)) ?_
              refine ws_iast 107 C dX5_read_107 hA 0 rfl (vp_in_nI (by omega) (by decide)) (29 + (11 * (mn (sM S) + w)) + 1 + k) (nI_clamp (by omega)) (nI (sPt S (wst (sPt S) (sPn S) w + k))) rfl (fun st6 est6 => ?_)
              have hM := hM.ne' (L := 1) est6 rfl (by omega)
              have hA : Ob z st6 92 (bA κ 293 (upd g2 (29 + (11 * (mn (sM S) + w)) + 1 + k) (nI (sPt S (wst (sPt S) (sPn S) w + k))))) := Ob.put' (j := 0) hA est6 rfl
              have hTx := hTx.ne' (L := 1) est6 rfl (by omega)
              have hbg := hbg.ne' (L := 1) est6 rfl (by omega)
              have hln := hln.ne' (L := 1) est6 rfl (by omega)
              have hKp := hKp.fr (Fr.one est6) (fun q (g1 : 93 ≤ q) (g2 : q < 94) => (show ¬ (q = 92) from by omega))
              have hH := hH.fr (Fr.one est6) (fun q (g1 : 94 ≤ q) (g2 : q < 95) => (show ¬ (q = 92) from by omega))
              have hS := hS.fr (Fr.one est6) (fun q (g1 : 95 ≤ q) (g2 : q < 97) => (show ¬ (q = 92) from by omega))
              have hSc := hSc.fr (Fr.one est6) (fun q (g1 : 97 ≤ q) (g2 : q < 103) => (show ¬ (q = 92) from by omega))
              have hF := hF.put' est6 (show 91 ≤ (92) ∧ (92) < 106 from by omega)
              refine ws_iinc 108 C dX5_read_108 rfl (nI (k + 1)) (nI_1 _) rfl [some (.ref (ad κ 91)), some (.int (nI w)), some (.int (nI (29 + (11 * (mn (sM S) + w))))), some (.int (nI (k + 1)))] rfl ?_
              refine ws_goto 111 C 75 dX5_read_111 (by decide) ?_
              exact ih75 c82 (upd g2 (29 + (11 * (mn (sM S) + w)) + 1 + k) (nI (sPt S (wst (sPt S) (sPn S) w + k)))) (rd_js hg2 h10v) st6 hM hA hTx hbg hln hKp hH hS hSc hF
          exact L75 0 (Nat.zero_le _) (upd g (29 + (11 * (mn (sM S) + w))) (nI (wln (sPt S) (sPn S) w))) (rd_j0 hg h10v) st3 hM hA hTx hbg hln hKp hH hS hSc hF
      exact L40 0 (Nat.zero_le _) a (rd_0 hR) u35 hM hA hTx hbg hln hKp hH hS hSc hF
    · skip
      have hf := fRead_t (S := S) hfl (by omega)
      refine ws_sipush 30 C dX5_read_30 ((-1004)) (by decide) ?_
      exact ws_iret 33 C dX5_read_33 rfl (Nat.le_refl _) (Nat.le_refl _) (by rw [hP]; exact PM_ret (hf) ⟨⟨_, _, hM⟩, ⟨_, hA, hR⟩, hKp, hH, hS, hSc, ⟨t, hTx, h60, ht⟩, ⟨_, hbg⟩, ⟨_, hln⟩⟩ hF)
  · skip
    have hf := fRead_b (S := S) (fun q => c7 (hr.trans q))
    refine ws_sipush 10 C dX5_read_10 ((-1003)) (by decide) ?_
    exact ws_iret 13 C dX5_read_13 rfl (Nat.le_refl _) (Nat.le_refl _) (by rw [hP]; exact PM_ret (hf) ⟨⟨_, _, hM⟩, ⟨_, hA, hR⟩, hKp, hH, hS, hSc, ⟨t, hTx, h60, ht⟩, ⟨_, hbg⟩, ⟨_, hln⟩⟩ hF)

set_option maxRecDepth 100000 in
set_option maxHeartbeats 4000000 in
theorem c_X5_undo {S : Sg} (hX : MI κ z st0 S) : CT zl κ yX5_undo cX5_undo 2 (some .int) (r0 0 0) z [.ref (ad κ 91)] st0 (PM κ z st0 (fUndo S)) := by
  obtain ⟨P, hP⟩ : ∃ P : Option Value → St → Prop, P = (PM κ z st0 (fUndo S)) := ⟨_, rfl⟩
  rw [← hP]
  refine CT.of (by decide +kernel) (Nat.le_of_ble_eq_true rfl) (fun zp ze zs zm zar zbe zme zc C _ => ?_)
  have C : Cx zp zs zm zar zme zc κ cX5_undo 2 RX5 (some .int) := C
  refine ws_lv (lv2 := [some (.ref (ad κ 91)), none]) rfl ?_
  obtain ⟨⟨y1, y3, hM⟩, ⟨a, hA, hR⟩, hKp, hH, hS, hSc, hT, hB1, hB2⟩ := hX
  have h24 := hR.le
  have hF : Fr (fun q : Nat => 91 ≤ q ∧ q < 106) st0 st0 := Fr.rf
  obtain ⟨h, hHb, hn6, hh⟩ := hH
  refine ws_aload_n 0 C dX5_undo_0 rfl ?_
  refine ws_get 1 C dX5_undo_1 fX5_52 hM rfl rfl ?_
  refine ws_nif_ne 4 C 11 dX5_undo_4 (by decide) (by omega) (fun c4 => ?_) (fun c4 => ?_)
  · skip
    have hf := fUndo_s (S := S) c4
    refine ws_aload_n 11 C dX5_undo_11 rfl ?_
    refine ws_dup 12 C dX5_undo_12 rfl ?_
    refine ws_get 13 C dX5_undo_13 fX5_52 hM rfl rfl ?_
    refine ws_iconst 16 C dX5_undo_16 (nI 1) (by decide) ?_
    refine ws_isub 17 C dX5_undo_17 (nI (sHn S - 1)) (pk_sub (by omega)) ?_
    refine ws_put 18 C dX5_undo_18 fX5_52 q5_3 hM rfl (Nat.le_of_ble_eq_true rfl) rfl rfl (fun st1 est1 => ?_)
    have hM : Ob z st1 91 (bMo κ (nI (sHn S - 1)) y1 (nI (sPn S)) y3) := Ob.put' (j := 0) hM est1 rfl
    have hA := hA.ne' (L := 1) est1 rfl (by omega)
    have hHb := hHb.ne' (L := 1) est1 rfl (by omega)
    have hKp := hKp.fr (Fr.one est1) (fun q (g1 : 93 ≤ q) (g2 : q < 94) => (show ¬ (q = 91) from by omega))
    have hS := hS.fr (Fr.one est1) (fun q (g1 : 95 ≤ q) (g2 : q < 97) => (show ¬ (q = 91) from by omega))
    have hSc := hSc.fr (Fr.one est1) (fun q (g1 : 97 ≤ q) (g2 : q < 103) => (show ¬ (q = 91) from by omega))
    have hT := hT.fr (Fr.one est1) (fun q (g1 : 103 ≤ q) (g2 : q < 104) => (show ¬ (q = 91) from by omega))
    have hB1 := hB1.fr (Fr.one est1) (fun q (g1 : 104 ≤ q) (g2 : q < 105) => (show ¬ (q = 91) from by omega))
    have hB2 := hB2.fr (Fr.one est1) (fun q (g1 : 105 ≤ q) (g2 : q < 106) => (show ¬ (q = 91) from by omega))
    have hF := hF.put' est1 (show 91 ≤ (91) ∧ (91) < 106 from by omega)
    refine ws_iconst 21 C dX5_undo_21 (nI 0) (by decide) ?_
    refine ws_istore_n 22 C dX5_undo_22 rfl [some (.ref (ad κ 91)), some (.int (nI 0))] rfl ?_
    have L23 : ∀ k : Nat, k ≤ 293 → ∀ (g : Nat → Int32), ∀ (hg : ∀ j, j < k → g j = h (293 * (sHn S - 1) + j)), ∀ (st2 : St), ∀ (hM : Ob z st2 91 (bMo κ (nI (sHn S - 1)) y1 (nI (sPn S)) y3)), ∀ (hA : Ob z st2 92 (bA κ 293 g)), ∀ (hHb : Ob z st2 94 (bA κ 1758 h)), ∀ (hKp : AnyA κ z st2 93 293), ∀ (hS : SmP κ z st2 (sSl S) (sFd S)), ∀ (hSc : ScP κ z st2), ∀ (hT : TmP κ z st2 (sPt S) (sPn S)), ∀ (hB1 : AnyA κ z st2 104 31), ∀ (hB2 : AnyA κ z st2 105 31), ∀ (hF : Fr (fun q : Nat => 91 ≤ q ∧ q < 106) st0 st2), WS zp zl ze (r0 0 0) zs zm zar zbe zme zc κ z 0 0 (QM zbe zar zs κ z (r0 0 0) P) st2 23 [some (.ref (ad κ 91)), some (.int (nI k))] [] := by
      refine dnw ?_
      intro k hk ih23 g hg st2 hM hA hHb hKp hS hSc hT hB1 hB2 hF
      refine ws_iload_n 23 C dX5_undo_23 rfl ?_
      refine ws_sipush 24 C dX5_undo_24 (nI 293) (by decide) ?_
      refine ws_nicmp_ge 27 C 57 dX5_undo_27 (by decide) (by omega) (by omega) (fun c27 => ?_) (fun c27 => ?_)
      · skip
        refine ws_aload_n 57 C dX5_undo_57 rfl ?_
        refine ws_get 58 C dX5_undo_58 fX5_52 hM rfl rfl ?_
        exact ws_iret 61 C dX5_undo_61 rfl (Nat.le_refl _) (Nat.le_refl _) (by rw [hP]; exact PM_ret (hf) ⟨⟨_, _, hM⟩, ⟨_, hA, (hh (sHn S - 1) (by omega)).ext (fun j hj => hg j (by omega))⟩, hKp, ⟨h, hHb, (show sHn S - 1 ≤ 6 from by omega), fun k hk => hh k (Nat.lt_of_lt_of_le hk (Nat.sub_le _ _))⟩, hS, hSc, hT, hB1, hB2⟩ hF)
      · skip
        refine ws_aload_n 30 C dX5_undo_30 rfl ?_
        refine ws_get 31 C dX5_undo_31 fX5_7 hM rfl rfl ?_
        refine ws_iload_n 34 C dX5_undo_34 rfl ?_
        refine ws_aload_n 35 C dX5_undo_35 rfl ?_
        refine ws_get 36 C dX5_undo_36 fX5_16 hM rfl rfl ?_
        refine ws_sipush 39 C dX5_undo_39 (nI 293) (by decide) ?_
        refine ws_aload_n 42 C dX5_undo_42 rfl ?_
        refine ws_get 43 C dX5_undo_43 fX5_52 hM rfl rfl ?_
        refine ws_imul 46 C dX5_undo_46 (nI (293 * (sHn S - 1))) (pk_mul _ _) ?_
        refine ws_iload_n 47 C dX5_undo_47 rfl ?_
        refine ws_iadd 48 C dX5_undo_48 (nI (293 * (sHn S - 1) + k)) (nI_add _ _) ?_
        refine ws_iald 49 C dX5_undo_49 hHb 0 rfl (vp_in_nI (by omega) (by decide)) (h (293 * (sHn S - 1) + k)) (congrArg h (nI_clamp (by omega))) ?_
        refine ws_iast 50 C dX5_undo_50 hA 0 rfl (vp_in_nI (by omega) (by decide)) k (nI_clamp (by omega)) (h (293 * (sHn S - 1) + k)) rfl (fun st3 est3 => ?_)
        have hM := hM.ne' (L := 1) est3 rfl (by omega)
        have hA : Ob z st3 92 (bA κ 293 (upd g k (h (293 * (sHn S - 1) + k)))) := Ob.put' (j := 0) hA est3 rfl
        have hHb := hHb.ne' (L := 1) est3 rfl (by omega)
        have hKp := hKp.fr (Fr.one est3) (fun q (g1 : 93 ≤ q) (g2 : q < 94) => (show ¬ (q = 92) from by omega))
        have hS := hS.fr (Fr.one est3) (fun q (g1 : 95 ≤ q) (g2 : q < 97) => (show ¬ (q = 92) from by omega))
        have hSc := hSc.fr (Fr.one est3) (fun q (g1 : 97 ≤ q) (g2 : q < 103) => (show ¬ (q = 92) from by omega))
        have hT := hT.fr (Fr.one est3) (fun q (g1 : 103 ≤ q) (g2 : q < 104) => (show ¬ (q = 92) from by omega))
        have hB1 := hB1.fr (Fr.one est3) (fun q (g1 : 104 ≤ q) (g2 : q < 105) => (show ¬ (q = 92) from by omega))
        have hB2 := hB2.fr (Fr.one est3) (fun q (g1 : 105 ≤ q) (g2 : q < 106) => (show ¬ (q = 92) from by omega))
        have hF := hF.put' est3 (show 91 ≤ (92) ∧ (92) < 106 from by omega)
        refine ws_iinc 51 C dX5_undo_51 rfl (nI (k + 1)) (nI_1 _) rfl [some (.ref (ad κ 91)), some (.int (nI (k + 1)))] rfl ?_
        refine ws_goto 54 C 23 dX5_undo_54 (by decide) ?_
        exact ih23 c27 (upd g k (h (293 * (sHn S - 1) + k))) (upd_lt hg rfl) st3 hM hA hHb hKp hS hSc hT hB1 hB2 hF
    exact L23 0 (Nat.zero_le _) a (fun j hj => (by omega)) st1 hM hA hHb hKp hS hSc hT hB1 hB2 hF
  · skip
    have hf := fUndo_0 (S := S) c4
    refine ws_sipush 7 C dX5_undo_7 ((-1005)) (by decide) ?_
    exact ws_iret 10 C dX5_undo_10 rfl (Nat.le_refl _) (Nat.le_refl _) (by rw [hP]; exact PM_ret (hf) ⟨⟨_, _, hM⟩, ⟨_, hA, hR⟩, hKp, ⟨h, hHb, hn6, hh⟩, hS, hSc, hT, hB1, hB2⟩ hF)

set_option maxRecDepth 100000 in
set_option maxHeartbeats 4000000 in
theorem c_X5_save {S : Sg} (hX : MI κ z st0 S) {x : Int32} : CT zl κ yX5_save cX5_save 3 (some .int) (r0 1 20) z [.ref (ad κ 91), .int (x)] st0 (PM κ z st0 (fSave S x)) := by
  obtain ⟨P, hP⟩ : ∃ P : Option Value → St → Prop, P = (PM κ z st0 (fSave S x)) := ⟨_, rfl⟩
  rw [← hP]
  refine CT.of (by decide +kernel) (Nat.le_of_ble_eq_true rfl) (fun zp ze zs zm zar zbe zme zc C _ => ?_)
  have C : Cx zp zs zm zar zme zc κ cX5_save 3 RX5 (some .int) := C
  refine ws_lv (lv2 := [some (.ref (ad κ 91)), some (.int (x)), none]) rfl ?_
  obtain ⟨⟨y1, y3, hM⟩, ⟨a, hA, hR⟩, hKp, hH, hS, hSc, hT, hB1, hB2⟩ := hX
  have h24 := hR.le
  have hF : Fr (fun q : Nat => 91 ≤ q ∧ q < 106) st0 st0 := Fr.rf
  obtain ⟨s, f, hSb, hIb, hsf⟩ := hS
  refine ws_iload_n 0 C dX5_save_0 rfl ?_
  refine ws_callS0 1 C dX5_save_1 vX5_210 (c_X5_isSlot) rfl ⟨by decide, by decide⟩ ⟨Nat.zero_le _, Nat.zero_le _⟩ rfl rfl rfl (kR ?_)
  refine ws_if_ne 4 C 11 dX5_save_4 (by decide)  (fun c4 => ?_) (fun c4 => ?_)
  · skip
    obtain ⟨i, hi, hxi, hix⟩ := bix_1 (n := 2) (by decide) c4
    refine ws_wk (lv2 := [some (.ref (ad κ 91)), some (.int (nI i)), none]) ⟨rfl, (congrArg Value.int hxi.symm), trivial⟩ ?_
    refine ws_iconst 11 C dX5_save_11 (nI 0) (by decide) ?_
    refine ws_istore_n 12 C dX5_save_12 rfl [some (.ref (ad κ 91)), some (.int (nI i)), some (.int (nI 0))] rfl ?_
    have L13 : ∀ k : Nat, k ≤ 293 → ∀ (s2 : Nat → Int32), ∀ (h1 : ∀ j, j < k → s2 (293 * i + j) = a j), ∀ (h2 : ∀ j, (j < 293 * i ∨ 293 * i + 293 ≤ j) → s2 j = s j), ∀ (st1 : St), ∀ (hM : Ob z st1 91 (bMo κ (nI (sHn S)) y1 (nI (sPn S)) y3)), ∀ (hA : Ob z st1 92 (bA κ 293 a)), ∀ (hSb : Ob z st1 95 (bA κ 586 s2)), ∀ (hIb : Ob z st1 96 (bA κ 2 f)), ∀ (hKp : AnyA κ z st1 93 293), ∀ (hH : HmP κ z st1 (sH S) (sHn S)), ∀ (hSc : ScP κ z st1), ∀ (hT : TmP κ z st1 (sPt S) (sPn S)), ∀ (hB1 : AnyA κ z st1 104 31), ∀ (hB2 : AnyA κ z st1 105 31), ∀ (hF : Fr (fun q : Nat => 91 ≤ q ∧ q < 106) st0 st1), WS zp zl ze (r0 1 20) zs zm zar zbe zme zc κ z 0 0 (QM zbe zar zs κ z (r0 1 20) P) st1 13 [some (.ref (ad κ 91)), some (.int (nI i)), some (.int (nI k))] [] := by
      refine dnw ?_
      intro k hk ih13 s2 h1 h2 st1 hM hA hSb hIb hKp hH hSc hT hB1 hB2 hF
      refine ws_iload_n 13 C dX5_save_13 rfl ?_
      refine ws_sipush 14 C dX5_save_14 (nI 293) (by decide) ?_
      refine ws_nicmp_ge 17 C 44 dX5_save_17 (by decide) (by omega) (by omega) (fun c17 => ?_) (fun c17 => ?_)
      · skip
        refine ws_aload_n 44 C dX5_save_44 rfl ?_
        refine ws_get 45 C dX5_save_45 fX5_22 hM rfl rfl ?_
        refine ws_iload_n 48 C dX5_save_48 rfl ?_
        refine ws_iconst 49 C dX5_save_49 (nI 1) (by decide) ?_
        refine ws_iast 50 C dX5_save_50 hIb 0 rfl (vp_in_nI (by omega) (by decide)) i (nI_clamp (by omega)) (nI 1) rfl (fun st2 est2 => ?_)
        have hM := hM.ne' (L := 1) est2 rfl (by omega)
        have hA := hA.ne' (L := 1) est2 rfl (by omega)
        have hSb := hSb.ne' (L := 1) est2 rfl (by omega)
        have hIb : Ob z st2 96 (bA κ 2 (upd f i (nI 1))) := Ob.put' (j := 0) hIb est2 rfl
        have hKp := hKp.fr (Fr.one est2) (fun q (g1 : 93 ≤ q) (g2 : q < 94) => (show ¬ (q = 96) from by omega))
        have hH := hH.fr (Fr.one est2) (fun q (g1 : 94 ≤ q) (g2 : q < 95) => (show ¬ (q = 96) from by omega))
        have hSc := hSc.fr (Fr.one est2) (fun q (g1 : 97 ≤ q) (g2 : q < 103) => (show ¬ (q = 96) from by omega))
        have hT := hT.fr (Fr.one est2) (fun q (g1 : 103 ≤ q) (g2 : q < 104) => (show ¬ (q = 96) from by omega))
        have hB1 := hB1.fr (Fr.one est2) (fun q (g1 : 104 ≤ q) (g2 : q < 105) => (show ¬ (q = 96) from by omega))
        have hB2 := hB2.fr (Fr.one est2) (fun q (g1 : 105 ≤ q) (g2 : q < 106) => (show ¬ (q = 96) from by omega))
        have hF := hF.put' est2 (show 91 ≤ (96) ∧ (96) < 106 from by omega)
        refine ws_aload_n 51 C dX5_save_51 rfl ?_
        refine ws_get 52 C dX5_save_52 fX5_7 hM rfl rfl ?_
        refine ws_iconst 55 C dX5_save_55 (nI 4) (by decide) ?_
        refine ws_iald 56 C dX5_save_56 hA 0 rfl (vp_in_nI (by omega) (by decide)) (nI (mn (sM S))) ((congrArg a (nI_clamp (by omega))).trans (hR.n)) ?_
        exact ws_iret 57 C dX5_save_57 rfl (Nat.le_refl _) (Nat.le_refl _) (by rw [hP]; exact PM_ret (fSave_s hix) ⟨⟨_, _, hM⟩, ⟨_, hA, hR⟩, hKp, hH, (sm_save hi hR hsf (fun j hj => h1 j (by omega)) h2 hSb hIb), hSc, hT, hB1, hB2⟩ hF)
      · skip
        refine ws_aload_n 20 C dX5_save_20 rfl ?_
        refine ws_get 21 C dX5_save_21 fX5_19 hM rfl rfl ?_
        refine ws_sipush 24 C dX5_save_24 (nI 293) (by decide) ?_
        refine ws_iload_n 27 C dX5_save_27 rfl ?_
        refine ws_imul 28 C dX5_save_28 (nI (293 * i)) (pk_mul _ _) ?_
        refine ws_iload_n 29 C dX5_save_29 rfl ?_
        refine ws_iadd 30 C dX5_save_30 (nI (293 * i + k)) (nI_add _ _) ?_
        refine ws_aload_n 31 C dX5_save_31 rfl ?_
        refine ws_get 32 C dX5_save_32 fX5_7 hM rfl rfl ?_
        refine ws_iload_n 35 C dX5_save_35 rfl ?_
        refine ws_iald 36 C dX5_save_36 hA 0 rfl (vp_in_nI (by omega) (by decide)) (a k) (congrArg a (nI_clamp (by omega))) ?_
        refine ws_iast 37 C dX5_save_37 hSb 0 rfl (vp_in_nI (by omega) (by decide)) (293 * i + k) (nI_clamp (by omega)) (a k) rfl (fun st3 est3 => ?_)
        have hM := hM.ne' (L := 1) est3 rfl (by omega)
        have hA := hA.ne' (L := 1) est3 rfl (by omega)
        have hSb : Ob z st3 95 (bA κ 586 (upd s2 (293 * i + k) (a k))) := Ob.put' (j := 0) hSb est3 rfl
        have hIb := hIb.ne' (L := 1) est3 rfl (by omega)
        have hKp := hKp.fr (Fr.one est3) (fun q (g1 : 93 ≤ q) (g2 : q < 94) => (show ¬ (q = 95) from by omega))
        have hH := hH.fr (Fr.one est3) (fun q (g1 : 94 ≤ q) (g2 : q < 95) => (show ¬ (q = 95) from by omega))
        have hSc := hSc.fr (Fr.one est3) (fun q (g1 : 97 ≤ q) (g2 : q < 103) => (show ¬ (q = 95) from by omega))
        have hT := hT.fr (Fr.one est3) (fun q (g1 : 103 ≤ q) (g2 : q < 104) => (show ¬ (q = 95) from by omega))
        have hB1 := hB1.fr (Fr.one est3) (fun q (g1 : 104 ≤ q) (g2 : q < 105) => (show ¬ (q = 95) from by omega))
        have hB2 := hB2.fr (Fr.one est3) (fun q (g1 : 105 ≤ q) (g2 : q < 106) => (show ¬ (q = 95) from by omega))
        have hF := hF.put' est3 (show 91 ≤ (95) ∧ (95) < 106 from by omega)
        refine ws_iinc 38 C dX5_save_38 rfl (nI (k + 1)) (nI_1 _) rfl [some (.ref (ad κ 91)), some (.int (nI i)), some (.int (nI (k + 1)))] rfl ?_
        refine ws_goto 41 C 13 dX5_save_41 (by decide) ?_
        exact ih13 c17 (upd s2 (293 * i + k) (a k)) (row_up h1) (sv_1 h2 c17) st3 hM hA hSb hIb hKp hH hSc hT hB1 hB2 hF
    exact L13 0 (Nat.zero_le _) s (fun j hj => (by omega)) (fun j hj => rfl) st0 hM hA hSb hIb hKp hH hSc hT hB1 hB2 hF
  · skip
    have hf := fSave_n (S := S) (bix_0 c4)
    refine ws_sipush 7 C dX5_save_7 ((-1002)) (by decide) ?_
    exact ws_iret 10 C dX5_save_10 rfl (Nat.le_refl _) (Nat.le_refl _) (by rw [hP]; exact PM_ret (hf) ⟨⟨_, _, hM⟩, ⟨_, hA, hR⟩, hKp, hH, ⟨s, f, hSb, hIb, hsf⟩, hSc, hT, hB1, hB2⟩ hF)

set_option maxRecDepth 100000 in
set_option maxHeartbeats 4000000 in
theorem c_X5_restore {S : Sg} (hX : MI κ z st0 S) {x : Int32} : CT zl κ yX5_restore cX5_restore 3 (some .int) (r0 1 21) z [.ref (ad κ 91), .int (x)] st0 (PM κ z st0 (fRestore S x)) := by
  obtain ⟨P, hP⟩ : ∃ P : Option Value → St → Prop, P = (PM κ z st0 (fRestore S x)) := ⟨_, rfl⟩
  rw [← hP]
  refine CT.of (by decide +kernel) (Nat.le_of_ble_eq_true rfl) (fun zp ze zs zm zar zbe zme zc C _ => ?_)
  have C : Cx zp zs zm zar zme zc κ cX5_restore 3 RX5 (some .int) := C
  refine ws_lv (lv2 := [some (.ref (ad κ 91)), some (.int (x)), none]) rfl ?_
  obtain ⟨⟨y1, y3, hM⟩, ⟨a, hA, hR⟩, hKp, hH, hS, hSc, hT, hB1, hB2⟩ := hX
  have h24 := hR.le
  have hF : Fr (fun q : Nat => 91 ≤ q ∧ q < 106) st0 st0 := Fr.rf
  obtain ⟨s, f, hSb, hIb, hsf⟩ := hS
  refine ws_iload_n 0 C dX5_restore_0 rfl ?_
  refine ws_callS0 1 C dX5_restore_1 vX5_210 (c_X5_isSlot) rfl ⟨by decide, by decide⟩ ⟨Nat.zero_le _, Nat.zero_le _⟩ rfl rfl rfl (kR ?_)
  refine ws_if_ne 4 C 11 dX5_restore_4 (by decide)  (fun c4 => ?_) (fun c4 => ?_)
  · skip
    obtain ⟨i, hi, hxi, hix⟩ := bix_1 (n := 2) (by decide) c4
    have hsi := hsf i hi
    have hs1 := hsi.2.1
    refine ws_wk (lv2 := [some (.ref (ad κ 91)), some (.int (nI i)), none]) ⟨rfl, (congrArg Value.int hxi.symm), trivial⟩ ?_
    refine ws_aload_n 11 C dX5_restore_11 rfl ?_
    refine ws_get 12 C dX5_restore_12 fX5_22 hM rfl rfl ?_
    refine ws_iload_n 15 C dX5_restore_15 rfl ?_
    refine ws_iald 16 C dX5_restore_16 hIb 0 rfl (vp_in_nI (by omega) (by decide)) (nI (sFd S i)) ((congrArg f (nI_clamp (by omega))).trans (hsi.1)) ?_
    refine ws_nif_ne 17 C 24 dX5_restore_17 (by decide) (by omega) (fun c17 => ?_) (fun c17 => ?_)
    · skip
      have hf := fRestore_s (S := S) hix c17
      have hRs := hsi.2.2 (by omega)
      refine ws_aload_n 24 C dX5_restore_24 rfl ?_
      refine ws_callV0 25 C dX5_restore_25 vX5_134 (c_X5_changes hM hA hR hH) rfl hM rfl rfl ⟨by decide, by decide⟩ ⟨Nat.zero_le _, Nat.zero_le _⟩ rfl rfl rfl (kV (fun u25 h25 => ?_))
      obtain ⟨⟨hM, hH⟩, hfr⟩ := h25
      have hKp := hKp.fr hfr (fun q (g1 : 93 ≤ q) (g2 : q < 94) => (show ¬ (q = 91 ∨ q = 94) from by omega))
      have hSc := hSc.fr hfr (fun q (g1 : 97 ≤ q) (g2 : q < 103) => (show ¬ (q = 91 ∨ q = 94) from by omega))
      have hT := hT.fr hfr (fun q (g1 : 103 ≤ q) (g2 : q < 104) => (show ¬ (q = 91 ∨ q = 94) from by omega))
      have hB1 := hB1.fr hfr (fun q (g1 : 104 ≤ q) (g2 : q < 105) => (show ¬ (q = 91 ∨ q = 94) from by omega))
      have hB2 := hB2.fr hfr (fun q (g1 : 105 ≤ q) (g2 : q < 106) => (show ¬ (q = 91 ∨ q = 94) from by omega))
      have hA := hfr.ob hA (fun q (g1 : 92 ≤ q) (g2 : q < 92 + 1) => (show ¬ (q = 91 ∨ q = 94) from by omega))
      have hSb := hfr.ob hSb (fun q (g1 : 95 ≤ q) (g2 : q < 95 + 1) => (show ¬ (q = 91 ∨ q = 94) from by omega))
      have hIb := hfr.ob hIb (fun q (g1 : 96 ≤ q) (g2 : q < 96 + 1) => (show ¬ (q = 91 ∨ q = 94) from by omega))
      have hF := hF.then hfr (fun q (hq : q = 91 ∨ q = 94) => (show 91 ≤ q ∧ q < 106 from by omega))
      refine ws_iconst 28 C dX5_restore_28 (nI 0) (by decide) ?_
      refine ws_istore_n 29 C dX5_restore_29 rfl [some (.ref (ad κ 91)), some (.int (nI i)), some (.int (nI 0))] rfl ?_
      have L30 : ∀ k : Nat, k ≤ 293 → ∀ (g : Nat → Int32), ∀ (hg : ∀ j, j < k → g j = s (293 * i + j)), ∀ (st1 : St), ∀ (hM : Ob z st1 91 (bMo κ (nI (hcnt (sHn S))) y1 (nI (sPn S)) y3)), ∀ (hA : Ob z st1 92 (bA κ 293 g)), ∀ (hSb : Ob z st1 95 (bA κ 586 s)), ∀ (hIb : Ob z st1 96 (bA κ 2 f)), ∀ (hKp : AnyA κ z st1 93 293), ∀ (hH : HmP κ z st1 (hpush (sH S) (sHn S) (sM S)) (hcnt (sHn S))), ∀ (hSc : ScP κ z st1), ∀ (hT : TmP κ z st1 (sPt S) (sPn S)), ∀ (hB1 : AnyA κ z st1 104 31), ∀ (hB2 : AnyA κ z st1 105 31), ∀ (hF : Fr (fun q : Nat => 91 ≤ q ∧ q < 106) st0 st1), WS zp zl ze (r0 1 21) zs zm zar zbe zme zc κ z 0 0 (QM zbe zar zs κ z (r0 1 21) P) st1 30 [some (.ref (ad κ 91)), some (.int (nI i)), some (.int (nI k))] [] := by
        refine dnw ?_
        intro k hk ih30 g hg st1 hM hA hSb hIb hKp hH hSc hT hB1 hB2 hF
        refine ws_iload_n 30 C dX5_restore_30 rfl ?_
        refine ws_sipush 31 C dX5_restore_31 (nI 293) (by decide) ?_
        refine ws_nicmp_ge 34 C 61 dX5_restore_34 (by decide) (by omega) (by omega) (fun c34 => ?_) (fun c34 => ?_)
        · skip
          have hR2 : Rm (sSl S i) g := hRs.ext (fun j hj => hg j (by omega))
          refine ws_aload_n 61 C dX5_restore_61 rfl ?_
          refine ws_get 62 C dX5_restore_62 fX5_7 hM rfl rfl ?_
          refine ws_iconst 65 C dX5_restore_65 (nI 4) (by decide) ?_
          refine ws_iald 66 C dX5_restore_66 hA 0 rfl (vp_in_nI (by omega) (by decide)) (nI (mn (sSl S i))) ((congrArg g (nI_clamp (by omega))).trans (hR2.n)) ?_
          exact ws_iret 67 C dX5_restore_67 rfl (Nat.le_refl _) (Nat.le_refl _) (by rw [hP]; exact PM_ret (hf) ⟨⟨_, _, hM⟩, ⟨_, hA, hR2⟩, hKp, hH, ⟨s, f, hSb, hIb, hsf⟩, hSc, hT, hB1, hB2⟩ hF)
        · skip
          refine ws_aload_n 37 C dX5_restore_37 rfl ?_
          refine ws_get 38 C dX5_restore_38 fX5_7 hM rfl rfl ?_
          refine ws_iload_n 41 C dX5_restore_41 rfl ?_
          refine ws_aload_n 42 C dX5_restore_42 rfl ?_
          refine ws_get 43 C dX5_restore_43 fX5_19 hM rfl rfl ?_
          refine ws_sipush 46 C dX5_restore_46 (nI 293) (by decide) ?_
          refine ws_iload_n 49 C dX5_restore_49 rfl ?_
          refine ws_imul 50 C dX5_restore_50 (nI (293 * i)) (pk_mul _ _) ?_
          refine ws_iload_n 51 C dX5_restore_51 rfl ?_
          refine ws_iadd 52 C dX5_restore_52 (nI (293 * i + k)) (nI_add _ _) ?_
          refine ws_iald 53 C dX5_restore_53 hSb 0 rfl (vp_in_nI (by omega) (by decide)) (s (293 * i + k)) (congrArg s (nI_clamp (by omega))) ?_
          refine ws_iast 54 C dX5_restore_54 hA 0 rfl (vp_in_nI (by omega) (by decide)) k (nI_clamp (by omega)) (s (293 * i + k)) rfl (fun st2 est2 => ?_)
          have hM := hM.ne' (L := 1) est2 rfl (by omega)
          have hA : Ob z st2 92 (bA κ 293 (upd g k (s (293 * i + k)))) := Ob.put' (j := 0) hA est2 rfl
          have hSb := hSb.ne' (L := 1) est2 rfl (by omega)
          have hIb := hIb.ne' (L := 1) est2 rfl (by omega)
          have hKp := hKp.fr (Fr.one est2) (fun q (g1 : 93 ≤ q) (g2 : q < 94) => (show ¬ (q = 92) from by omega))
          have hH := hH.fr (Fr.one est2) (fun q (g1 : 94 ≤ q) (g2 : q < 95) => (show ¬ (q = 92) from by omega))
          have hSc := hSc.fr (Fr.one est2) (fun q (g1 : 97 ≤ q) (g2 : q < 103) => (show ¬ (q = 92) from by omega))
          have hT := hT.fr (Fr.one est2) (fun q (g1 : 103 ≤ q) (g2 : q < 104) => (show ¬ (q = 92) from by omega))
          have hB1 := hB1.fr (Fr.one est2) (fun q (g1 : 104 ≤ q) (g2 : q < 105) => (show ¬ (q = 92) from by omega))
          have hB2 := hB2.fr (Fr.one est2) (fun q (g1 : 105 ≤ q) (g2 : q < 106) => (show ¬ (q = 92) from by omega))
          have hF := hF.put' est2 (show 91 ≤ (92) ∧ (92) < 106 from by omega)
          refine ws_iinc 55 C dX5_restore_55 rfl (nI (k + 1)) (nI_1 _) rfl [some (.ref (ad κ 91)), some (.int (nI i)), some (.int (nI (k + 1)))] rfl ?_
          refine ws_goto 58 C 30 dX5_restore_58 (by decide) ?_
          exact ih30 c34 (upd g k (s (293 * i + k))) (upd_lt hg rfl) st2 hM hA hSb hIb hKp hH hSc hT hB1 hB2 hF
      exact L30 0 (Nat.zero_le _) a (fun j hj => (by omega)) u25 hM hA hSb hIb hKp hH hSc hT hB1 hB2 hF
    · skip
      have hf := fRestore_0 (S := S) hix c17
      refine ws_sipush 20 C dX5_restore_20 ((-1005)) (by decide) ?_
      exact ws_iret 23 C dX5_restore_23 rfl (Nat.le_refl _) (Nat.le_refl _) (by rw [hP]; exact PM_ret (hf) ⟨⟨_, _, hM⟩, ⟨_, hA, hR⟩, hKp, hH, ⟨s, f, hSb, hIb, hsf⟩, hSc, hT, hB1, hB2⟩ hF)
  · skip
    have hf := fRestore_n (S := S) (bix_0 c4)
    refine ws_sipush 7 C dX5_restore_7 ((-1002)) (by decide) ?_
    exact ws_iret 10 C dX5_restore_10 rfl (Nat.le_refl _) (Nat.le_refl _) (by rw [hP]; exact PM_ret (hf) ⟨⟨_, _, hM⟩, ⟨_, hA, hR⟩, hKp, hH, ⟨s, f, hSb, hIb, hsf⟩, hSc, hT, hB1, hB2⟩ hF)
end
