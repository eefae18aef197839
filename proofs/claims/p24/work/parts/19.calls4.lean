section
variable {zl : Launch} {κ : Kt} {z : Nat} {st0 : St}
set_option maxRecDepth 100000 in
set_option maxHeartbeats 4000000 in
theorem c_X4_put {S : Sg} (hX : XI κ z st0 S) {V : Nat} (hV : V < 2 ^ 64) : CT zl κ yX4_put cX4_put 4 (some .int) (r0 1 26) z [.ref (ad κ 0), .long (lN V)] st0 (PX κ z st0 (fPut S V)) := by
  obtain ⟨P, hP⟩ : ∃ P : Option Value → St → Prop, P = (PX κ z st0 (fPut S V)) := ⟨_, rfl⟩
  rw [← hP]
  refine CT.of (by decide +kernel) (Nat.le_of_ble_eq_true rfl) (fun zp ze zs zm zar zbe zme zc C _ => ?_)
  have C : Cx zp zs zm zar zme zc κ cX4_put 4 RX4 (some .int) := C
  refine ws_lv (lv2 := [some (.ref (ad κ 0)), some (.long (lN V)), none, none]) rfl ?_
  obtain ⟨hO, hS1, hS8, hLg, hLb, hPd, hHs, hSl⟩ := hX
  have hF : Fr (fun q : Nat => q < 91) st0 st0 := Fr.rf
  refine ws_lload_n 0 C dX4_put_0 rfl ?_
  obtain ⟨t, hP2, hpd⟩ := id hPd
  have h60 := hpd.1
  have h8 := plen_le V
  refine ws_callS0 1 C dX4_put_1 vX4_187 (c_X2_lengthOf hV) rfl ⟨by decide, by decide⟩ ⟨Nat.zero_le _, Nat.zero_le _⟩ rfl rfl rfl (kR ?_)
  refine ws_istore_n 4 C dX4_put_4 rfl [some (.ref (ad κ 0)), some (.long (lN V)), none, some (.int (nI (plen V)))] rfl ?_
  refine ws_iload_n 5 C dX4_put_5 rfl ?_
  refine ws_nif_ne 6 C 13 dX4_put_6 (by decide) (by omega) (fun c6 => ?_) (fun c6 => ?_)
  · skip
    refine ws_aload_n 13 C dX4_put_13 rfl ?_
    refine ws_get 14 C dX4_put_14 fX4_32 hO rfl rfl ?_
    refine ws_get 17 C dX4_put_17 fX4_95 hP2 rfl rfl ?_
    refine ws_iload_n 20 C dX4_put_20 rfl ?_
    refine ws_iadd 21 C dX4_put_21 (nI (sPn S + plen V)) (nI_add _ _) ?_
    refine ws_bipush 22 C dX4_put_22 (nI 60) (by decide) ?_
    refine ws_nicmp_le 24 C 31 dX4_put_24 (by decide) (by omega) (by omega) (fun c24 => ?_) (fun c24 => ?_)
    · skip
      have hf := fPut_s (S := S) c6 c24
      have hch := (plen_spec V).resolve_left c6
      refine ws_aload_n 31 C dX4_put_31 rfl ?_
      refine ws_get 32 C dX4_put_32 fX4_32 hO rfl rfl ?_
      refine ws_lload_n 35 C dX4_put_35 rfl ?_
      refine ws_iload_n 36 C dX4_put_36 rfl ?_
      refine ws_callV0 37 C dX4_put_37 vX4_191 (c_X2_append hP2 hpd hV h8 c24 hch.2) rfl hP2 rfl rfl ⟨by decide, by decide⟩ ⟨Nat.zero_le _, Nat.zero_le _⟩ rfl rfl rfl (kV (fun u37 h37 => ?_))
      obtain ⟨⟨t, hP2, hpd⟩, hfr⟩ := h37
      have hPd : PdA κ z u37 (ptPut (sPt S) (sPn S) V (plen V)) (sPn S + plen V) := ⟨t, hP2, hpd⟩
      have hS1 := hS1.fr hfr (fun q (g1 : 1 ≤ q) (g2 : q < 8) => (show ¬ (29 ≤ q ∧ q < 29 + 2) from by omega))
      have hS8 := hS8.fr hfr (fun q (g1 : 8 ≤ q) (g2 : q < 15) => (show ¬ (29 ≤ q ∧ q < 29 + 2) from by omega))
      have hLg := hLg.fr hfr (fun q (g1 : 15 ≤ q) (g2 : q < 22) => (show ¬ (29 ≤ q ∧ q < 29 + 2) from by omega))
      have hLb := hLb.fr hfr (fun q (g1 : 22 ≤ q) (g2 : q < 29) => (show ¬ (29 ≤ q ∧ q < 29 + 2) from by omega))
      have hHs := hHs.fr hfr (fun q (g1 : 31 ≤ q) (g2 : q < 75) => (show ¬ (29 ≤ q ∧ q < 29 + 2) from by omega))
      have hSl := hSl.fr hfr (fun q (g1 : 75 ≤ q) (g2 : q < 91) => (show ¬ (29 ≤ q ∧ q < 29 + 2) from by omega))
      have hO := hfr.ob hO (fun q (g1 : 0 ≤ q) (g2 : q < 0 + 1) => (show ¬ (29 ≤ q ∧ q < 29 + 2) from by omega))
      have hF := hF.then hfr (fun q (hq : 29 ≤ q ∧ q < 29 + 2) => (show q < 91 from by omega))
      refine ws_aload_n 40 C dX4_put_40 rfl ?_
      refine ws_get 41 C dX4_put_41 fX4_32 hO rfl rfl ?_
      refine ws_get 44 C dX4_put_44 fX4_95 hP2 rfl rfl ?_
      exact ws_iret 47 C  dX4_put_47 rfl (Nat.le_refl _) (Nat.le_refl _) (by rw [hP]; exact PX_ret (hf) ⟨hO, hS1, hS8, hLg, hLb, hPd, hHs, hSl⟩ hF)
    · skip
      have hf := fPut_t (S := S) c6 (by omega)
      refine ws_sipush 27 C dX4_put_27 ((-1004)) (by decide) ?_
      exact ws_iret 30 C  dX4_put_30 rfl (Nat.le_refl _) (Nat.le_refl _) (by rw [hP]; exact PX_ret (hf) ⟨hO, hS1, hS8, hLg, hLb, hPd, hHs, hSl⟩ hF)
  · skip
    have hf := fPut_0 (S := S) c6
    refine ws_sipush 9 C dX4_put_9 ((-1002)) (by decide) ?_
    exact ws_iret 12 C  dX4_put_12 rfl (Nat.le_refl _) (Nat.le_refl _) (by rw [hP]; exact PX_ret (hf) ⟨hO, hS1, hS8, hLg, hLb, hPd, hHs, hSl⟩ hF)

set_option maxRecDepth 100000 in
set_option maxHeartbeats 4000000 in
theorem c_X4_wipe {S : Sg} (hX : XI κ z st0 S) : CT zl κ yX4_wipe cX4_wipe 2 (some .int) (r0 0 0) z [.ref (ad κ 0)] st0 (PX κ z st0 (fWipe S)) := by
  obtain ⟨P, hP⟩ : ∃ P : Option Value → St → Prop, P = (PX κ z st0 (fWipe S)) := ⟨_, rfl⟩
  rw [← hP]
  refine CT.of (by decide +kernel) (Nat.le_of_ble_eq_true rfl) (fun zp ze zs zm zar zbe zme zc C _ => ?_)
  have C : Cx zp zs zm zar zme zc κ cX4_wipe 2 RX4 (some .int) := C
  refine ws_lv (lv2 := [some (.ref (ad κ 0)), none]) rfl ?_
  obtain ⟨hO, hS1, hS8, hLg, hLb, hPd, hHs, hSl⟩ := hX
  have hF : Fr (fun q : Nat => q < 91) st0 st0 := Fr.rf
  refine ws_aload_n 0 C dX4_wipe_0 rfl ?_
  obtain ⟨t, hP2, hpd⟩ := id hPd
  refine ws_get 1 C dX4_wipe_1 fX4_32 hO rfl rfl ?_
  refine ws_get 4 C dX4_wipe_4 fX4_95 hP2 rfl rfl ?_
  refine ws_istore_n 7 C dX4_wipe_7 rfl [some (.ref (ad κ 0)), some (.int (nI (sPn S)))] rfl ?_
  refine ws_aload_n 8 C dX4_wipe_8 rfl ?_
  refine ws_get 9 C dX4_wipe_9 fX4_32 hO rfl rfl ?_
  refine ws_iconst 12 C dX4_wipe_12 (nI 0) (by decide) ?_
  refine ws_put 13 C dX4_wipe_13 fX4_95 q2_1 hP2 rfl (Nat.le_of_ble_eq_true rfl) rfl rfl (fun st1 est1 => ?_)
  have hO := hO.ne' (L := 1) est1 rfl (by omega)
  have hP2 : Ob z st1 29 (bPd κ 29 t (nI 0)) := Ob.put' (j := 0) hP2 est1 rfl
  have hS1 := hS1.fr (Fr.one est1) (fun q (g1 : 1 ≤ q) (g2 : q < 8) => (show ¬ (q = 29) from by omega))
  have hS8 := hS8.fr (Fr.one est1) (fun q (g1 : 8 ≤ q) (g2 : q < 15) => (show ¬ (q = 29) from by omega))
  have hLg := hLg.fr (Fr.one est1) (fun q (g1 : 15 ≤ q) (g2 : q < 22) => (show ¬ (q = 29) from by omega))
  have hLb := hLb.fr (Fr.one est1) (fun q (g1 : 22 ≤ q) (g2 : q < 29) => (show ¬ (q = 29) from by omega))
  have hHs := hHs.fr (Fr.one est1) (fun q (g1 : 31 ≤ q) (g2 : q < 75) => (show ¬ (q = 29) from by omega))
  have hSl := hSl.fr (Fr.one est1) (fun q (g1 : 75 ≤ q) (g2 : q < 91) => (show ¬ (q = 29) from by omega))
  have hF := hF.put' est1 (show (29) < 91 from by omega)
  refine ws_iload_n 16 C dX4_wipe_16 rfl ?_
  exact ws_iret 17 C  dX4_wipe_17 rfl (Nat.le_refl _) (Nat.le_refl _) (by rw [hP]; exact PX_ret (rfl) ⟨hO, hS1, hS8, hLg, hLb, ⟨t, hP2, Nat.zero_le _, hpd.2.1, fun k hk => absurd hk (Nat.not_lt_zero k)⟩, hHs, hSl⟩ hF)

set_option maxRecDepth 100000 in
set_option maxHeartbeats 4000000 in
theorem c_X4_save0 {S : Sg} (hX : XI κ z st0 S) : CT zl κ yX4_save cX4_save 2 (some .int) (r0 2 39) z [.ref (ad κ 0), .int (nI 0)] st0 (PX κ z st0 (fSave S (nI 0))) := by
  obtain ⟨P, hP⟩ : ∃ P : Option Value → St → Prop, P = (PX κ z st0 (fSave S (nI 0))) := ⟨_, rfl⟩
  rw [← hP]
  refine CT.of (by decide +kernel) (Nat.le_of_ble_eq_true rfl) (fun zp ze zs zm zar zbe zme zc C _ => ?_)
  have C : Cx zp zs zm zar zme zc κ cX4_save 2 RX4 (some .int) := C
  refine ws_lv (lv2 := [some (.ref (ad κ 0)), some (.int (nI 0))]) rfl ?_
  obtain ⟨hO, hS1, hS8, hLg, hLb, hPd, hHs, hSl⟩ := hX
  obtain ⟨gq, fz, hQ, hg, hZ, hfd, hs0, hs1⟩ := hSl.opn
  have hix : ixv (nI 0) 2 = some 0 := ixv_s (by decide) (by decide)
  have hF : Fr (fun q : Nat => q < 91) st0 st0 := Fr.rf
  refine ws_iload_n 0 C dX4_save_0 rfl ?_
  refine ws_nif_lt 1 C 9 dX4_save_1 (by decide) (by omega) ?_
  refine ws_iload_n 4 C dX4_save_4 rfl ?_
  refine ws_iconst 5 C dX4_save_5 (nI 2) (by decide) ?_
  refine ws_nicmp_lt 6 C 13 dX4_save_6 (by decide) (by omega) (by omega) (fun c6 => ?_) (fun c6 => ?_)
  · skip
    refine ws_aload_n 13 C dX4_save_13 rfl ?_
    refine ws_get 14 C dX4_save_14 fX4_43 hO rfl rfl ?_
    refine ws_iload_n 17 C dX4_save_17 rfl ?_
    refine ws_aald 18 C dX4_save_18 hQ 0 rfl (vp_in_nI (by omega) (by decide)) (ad κ 76) ((congrArg gq (nI_clamp (by omega))).trans (hg 0 (by decide))) ?_
    obtain ⟨f1, f2, f3, f4, f5, f6, hB, hR⟩ := id hS1
    have h24 := hR.le
    obtain ⟨⟨ν, t1, t2, t3, t4, t5, t6, hT, hRT⟩, -⟩ := id hs0
    refine ws_aload_n 19 C dX4_save_19 rfl ?_
    refine ws_get 20 C dX4_save_20 fX4_10 hO rfl rfl ?_
    refine ws_callV0 23 C dX4_save_23 vX4_180 (c_X3_copyFrom ⟨_, _, _, _, _, _, hT, hRT⟩ hB hR (by omega)) rfl hT rfl rfl ⟨by decide, by decide⟩ ⟨Nat.zero_le _, Nat.zero_le _⟩ rfl rfl rfl (kV (fun u23 h23 => ?_))
    obtain ⟨hT, hfr⟩ := h23
    have hs0 : SsP κ z u23 76 (va_up (sSl S) 0 (sM S) 0) (va_up (sFd S) 0 1 0) := (by rw [va_up_self]; exact ⟨⟨_, hT⟩, fun _ => hT⟩)
    have hS1 := hS1.fr hfr (fun q (g1 : 1 ≤ q) (g2 : q < 8) => (show ¬ (76 ≤ q ∧ q < 76 + 7) from by omega))
    have hS8 := hS8.fr hfr (fun q (g1 : 8 ≤ q) (g2 : q < 15) => (show ¬ (76 ≤ q ∧ q < 76 + 7) from by omega))
    have hLg := hLg.fr hfr (fun q (g1 : 15 ≤ q) (g2 : q < 22) => (show ¬ (76 ≤ q ∧ q < 76 + 7) from by omega))
    have hLb := hLb.fr hfr (fun q (g1 : 22 ≤ q) (g2 : q < 29) => (show ¬ (76 ≤ q ∧ q < 76 + 7) from by omega))
    have hPd := hPd.fr hfr (fun q (g1 : 29 ≤ q) (g2 : q < 31) => (show ¬ (76 ≤ q ∧ q < 76 + 7) from by omega))
    have hHs := hHs.fr hfr (fun q (g1 : 31 ≤ q) (g2 : q < 75) => (show ¬ (76 ≤ q ∧ q < 76 + 7) from by omega))
    have hs1 := hs1.fr hfr (fun q (g1 : 83 ≤ q) (g2 : q < 90) => (show ¬ (76 ≤ q ∧ q < 76 + 7) from by omega))
    have hO := hfr.ob hO (fun q (g1 : 0 ≤ q) (g2 : q < 0 + 1) => (show ¬ (76 ≤ q ∧ q < 76 + 7) from by omega))
    have hQ := hfr.ob hQ (fun q (g1 : 75 ≤ q) (g2 : q < 75 + 1) => (show ¬ (76 ≤ q ∧ q < 76 + 7) from by omega))
    have hZ := hfr.ob hZ (fun q (g1 : 90 ≤ q) (g2 : q < 90 + 1) => (show ¬ (76 ≤ q ∧ q < 76 + 7) from by omega))
    have hB := hfr.ob hB (fun q (g1 : 1 ≤ q) (g2 : q < 1 + 7) => (show ¬ (76 ≤ q ∧ q < 76 + 7) from by omega))
    have hF := hF.then hfr (fun q (hq : 76 ≤ q ∧ q < 76 + 7) => (show q < 91 from by omega))
    refine ws_aload_n 26 C dX4_save_26 rfl ?_
    refine ws_get 27 C dX4_save_27 fX4_47 hO rfl rfl ?_
    refine ws_iload_n 30 C dX4_save_30 rfl ?_
    refine ws_iconst 31 C dX4_save_31 (nI 1) (by decide) ?_
    refine ws_zast 32 C dX4_save_32 hZ 0 rfl (vp_in_nI (by omega) (by decide)) 0 (nI_clamp (by omega)) (nI 1) rfl (fun st1 est1 => ?_)
    have hO := hO.ne' (L := 1) est1 rfl (by omega)
    have hQ := hQ.ne' (L := 1) est1 rfl (by omega)
    have hZ : Ob z st1 90 (bZ κ 2 (upd fz 0 (nI 1))) := Ob.put' (j := 0) hZ est1 rfl
    have hB := hB.ne' (L := 7) est1 rfl (by omega)
    have hS1 := hS1.fr (Fr.one est1) (fun q (g1 : 1 ≤ q) (g2 : q < 8) => (show ¬ (q = 90) from by omega))
    have hS8 := hS8.fr (Fr.one est1) (fun q (g1 : 8 ≤ q) (g2 : q < 15) => (show ¬ (q = 90) from by omega))
    have hLg := hLg.fr (Fr.one est1) (fun q (g1 : 15 ≤ q) (g2 : q < 22) => (show ¬ (q = 90) from by omega))
    have hLb := hLb.fr (Fr.one est1) (fun q (g1 : 22 ≤ q) (g2 : q < 29) => (show ¬ (q = 90) from by omega))
    have hPd := hPd.fr (Fr.one est1) (fun q (g1 : 29 ≤ q) (g2 : q < 31) => (show ¬ (q = 90) from by omega))
    have hHs := hHs.fr (Fr.one est1) (fun q (g1 : 31 ≤ q) (g2 : q < 75) => (show ¬ (q = 90) from by omega))
    have hs0 := hs0.fr (Fr.one est1) (fun q (g1 : 76 ≤ q) (g2 : q < 83) => (show ¬ (q = 90) from by omega))
    have hs1 := hs1.fr (Fr.one est1) (fun q (g1 : 83 ≤ q) (g2 : q < 90) => (show ¬ (q = 90) from by omega))
    have hF := hF.put' est1 (show (90) < 91 from by omega)
    refine ws_aload_n 33 C dX4_save_33 rfl ?_
    refine ws_get 34 C dX4_save_34 fX4_10 hO rfl rfl ?_
    refine ws_get 37 C dX4_save_37 fX4_85 hB rfl rfl ?_
    exact ws_iret 40 C  dX4_save_40 rfl (Nat.le_refl _) (Nat.le_refl _) (by rw [hP]; exact PX_ret (fSave_s hix) ⟨hO, hS1, hS8, hLg, hLb, hPd, hHs, (SlP.mk (sl := va_up (sSl S) 0 (sM S)) (fd := va_up (sFd S) 0 1) hQ hg hZ (fil_up hfd) hs0 (by rw [va_up_ne _ _ (by decide), va_up_ne _ _ (by decide)]; exact hs1))⟩ hF)
  · skip
    (exfalso; omega)

set_option maxRecDepth 100000 in
set_option maxHeartbeats 4000000 in
theorem c_X4_restore0 {S : Sg} (hX : XI κ z st0 S) : CT zl κ yX4_restore cX4_restore 2 (some .int) (r0 3 60) z [.ref (ad κ 0), .int (nI 0)] st0 (PX κ z st0 (fRestore S (nI 0))) := by
  obtain ⟨P, hP⟩ : ∃ P : Option Value → St → Prop, P = (PX κ z st0 (fRestore S (nI 0))) := ⟨_, rfl⟩
  rw [← hP]
  refine CT.of (by decide +kernel) (Nat.le_of_ble_eq_true rfl) (fun zp ze zs zm zar zbe zme zc C _ => ?_)
  have C : Cx zp zs zm zar zme zc κ cX4_restore 2 RX4 (some .int) := C
  refine ws_lv (lv2 := [some (.ref (ad κ 0)), some (.int (nI 0))]) rfl ?_
  obtain ⟨hO, hS1, hS8, hLg, hLb, hPd, hHs, hSl⟩ := hX
  obtain ⟨gq, fz, hQ, hg, hZ, hfd, hs0, hs1⟩ := hSl.opn
  have hix : ixv (nI 0) 2 = some 0 := ixv_s (by decide) (by decide)
  have hF : Fr (fun q : Nat => q < 91) st0 st0 := Fr.rf
  refine ws_iload_n 0 C dX4_restore_0 rfl ?_
  refine ws_nif_lt 1 C 9 dX4_restore_1 (by decide) (by omega) ?_
  refine ws_iload_n 4 C dX4_restore_4 rfl ?_
  refine ws_iconst 5 C dX4_restore_5 (nI 2) (by decide) ?_
  refine ws_nicmp_lt 6 C 13 dX4_restore_6 (by decide) (by omega) (by omega) (fun c6 => ?_) (fun c6 => ?_)
  · skip
    refine ws_aload_n 13 C dX4_restore_13 rfl ?_
    refine ws_get 14 C dX4_restore_14 fX4_47 hO rfl rfl ?_
    refine ws_iload_n 17 C dX4_restore_17 rfl ?_
    refine ws_zald 18 C dX4_restore_18 hZ 0 rfl (vp_in_nI (by omega) (by decide)) (nI (sFd S 0)) ((congrArg fz (nI_clamp (by omega))).trans ((hfd 0 (by decide)).1)) ?_
    refine ws_nif_ne 19 C 26 dX4_restore_19 (by decide) (by have := (hfd 0 (by decide)).2; omega) (fun c19 => ?_) (fun c19 => ?_)
    · skip
      have hf := fRestore_s (S := S) hix c19
      have hone : sFd S 0 = 1 := by have := (hfd 0 (by decide)).2; omega
      refine ws_aload_n 26 C dX4_restore_26 rfl ?_
      obtain ⟨g, nx, hH, -⟩ := id hHs
      refine ws_get 27 C dX4_restore_27 fX4_39 hO rfl rfl ?_
      refine ws_aload_n 30 C dX4_restore_30 rfl ?_
      refine ws_get 31 C dX4_restore_31 fX4_10 hO rfl rfl ?_
      refine ws_callV0 34 C dX4_restore_34 vX4_58 (c_X0_record hHs hS1) rfl hH rfl rfl ⟨by decide, by decide⟩ ⟨Nat.zero_le _, Nat.zero_le _⟩ rfl rfl rfl (kV (fun u34 h34 => ?_))
      obtain ⟨hHs, hfr⟩ := h34
      have hS1 := hS1.fr hfr (fun q (g1 : 1 ≤ q) (g2 : q < 8) => (show ¬ (31 ≤ q ∧ q < 75) from by omega))
      have hS8 := hS8.fr hfr (fun q (g1 : 8 ≤ q) (g2 : q < 15) => (show ¬ (31 ≤ q ∧ q < 75) from by omega))
      have hLg := hLg.fr hfr (fun q (g1 : 15 ≤ q) (g2 : q < 22) => (show ¬ (31 ≤ q ∧ q < 75) from by omega))
      have hLb := hLb.fr hfr (fun q (g1 : 22 ≤ q) (g2 : q < 29) => (show ¬ (31 ≤ q ∧ q < 75) from by omega))
      have hPd := hPd.fr hfr (fun q (g1 : 29 ≤ q) (g2 : q < 31) => (show ¬ (31 ≤ q ∧ q < 75) from by omega))
      have hs0 := hs0.fr hfr (fun q (g1 : 76 ≤ q) (g2 : q < 83) => (show ¬ (31 ≤ q ∧ q < 75) from by omega))
      have hs1 := hs1.fr hfr (fun q (g1 : 83 ≤ q) (g2 : q < 90) => (show ¬ (31 ≤ q ∧ q < 75) from by omega))
      have hO := hfr.ob hO (fun q (g1 : 0 ≤ q) (g2 : q < 0 + 1) => (show ¬ (31 ≤ q ∧ q < 75) from by omega))
      have hQ := hfr.ob hQ (fun q (g1 : 75 ≤ q) (g2 : q < 75 + 1) => (show ¬ (31 ≤ q ∧ q < 75) from by omega))
      have hZ := hfr.ob hZ (fun q (g1 : 90 ≤ q) (g2 : q < 90 + 1) => (show ¬ (31 ≤ q ∧ q < 75) from by omega))
      have hF := hF.then hfr (fun q (hq : 31 ≤ q ∧ q < 75) => (show q < 91 from by omega))
      obtain ⟨f1, f2, f3, f4, f5, f6, hB, hR⟩ := id hS1
      have h24 := hR.le
      refine ws_aload_n 37 C dX4_restore_37 rfl ?_
      refine ws_get 38 C dX4_restore_38 fX4_10 hO rfl rfl ?_
      refine ws_aload_n 41 C dX4_restore_41 rfl ?_
      refine ws_get 42 C dX4_restore_42 fX4_43 hO rfl rfl ?_
      refine ws_iload_n 45 C dX4_restore_45 rfl ?_
      refine ws_aald 46 C dX4_restore_46 hQ 0 rfl (vp_in_nI (by omega) (by decide)) (ad κ 76) ((congrArg gq (nI_clamp (by omega))).trans (hg 0 (by decide))) ?_
      obtain ⟨t1, t2, t3, t4, t5, t6, hT, hRT⟩ := hs0.2 hone
      refine ws_callV0 47 C dX4_restore_47 vX4_180 (c_X3_copyFrom hS1 hT hRT (by omega)) rfl hB rfl rfl ⟨by decide, by decide⟩ ⟨Nat.zero_le _, Nat.zero_le _⟩ rfl rfl rfl (kV (fun u47 h47 => ?_))
      obtain ⟨hS1, hfr⟩ := h47
      obtain ⟨k1, k2, k3, k4, k5, k6, hB, hR2⟩ := id hS1
      have hS8 := hS8.fr hfr (fun q (g1 : 8 ≤ q) (g2 : q < 15) => (show ¬ (1 ≤ q ∧ q < 1 + 7) from by omega))
      have hLg := hLg.fr hfr (fun q (g1 : 15 ≤ q) (g2 : q < 22) => (show ¬ (1 ≤ q ∧ q < 1 + 7) from by omega))
      have hLb := hLb.fr hfr (fun q (g1 : 22 ≤ q) (g2 : q < 29) => (show ¬ (1 ≤ q ∧ q < 1 + 7) from by omega))
      have hPd := hPd.fr hfr (fun q (g1 : 29 ≤ q) (g2 : q < 31) => (show ¬ (1 ≤ q ∧ q < 1 + 7) from by omega))
      have hHs := hHs.fr hfr (fun q (g1 : 31 ≤ q) (g2 : q < 75) => (show ¬ (1 ≤ q ∧ q < 1 + 7) from by omega))
      have hs0 := hs0.fr hfr (fun q (g1 : 76 ≤ q) (g2 : q < 83) => (show ¬ (1 ≤ q ∧ q < 1 + 7) from by omega))
      have hs1 := hs1.fr hfr (fun q (g1 : 83 ≤ q) (g2 : q < 90) => (show ¬ (1 ≤ q ∧ q < 1 + 7) from by omega))
      have hO := hfr.ob hO (fun q (g1 : 0 ≤ q) (g2 : q < 0 + 1) => (show ¬ (1 ≤ q ∧ q < 1 + 7) from by omega))
      have hQ := hfr.ob hQ (fun q (g1 : 75 ≤ q) (g2 : q < 75 + 1) => (show ¬ (1 ≤ q ∧ q < 1 + 7) from by omega))
      have hZ := hfr.ob hZ (fun q (g1 : 90 ≤ q) (g2 : q < 90 + 1) => (show ¬ (1 ≤ q ∧ q < 1 + 7) from by omega))
      have hT := hfr.ob hT (fun q (g1 : 76 ≤ q) (g2 : q < 76 + 7) => (show ¬ (1 ≤ q ∧ q < 1 + 7) from by omega))
      have hF := hF.then hfr (fun q (hq : 1 ≤ q ∧ q < 1 + 7) => (show q < 91 from by omega))
      refine ws_aload_n 50 C dX4_restore_50 rfl ?_
      refine ws_get 51 C dX4_restore_51 fX4_10 hO rfl rfl ?_
      refine ws_get 54 C dX4_restore_54 fX4_85 hB rfl rfl ?_
      exact ws_iret 57 C  dX4_restore_57 rfl (Nat.le_refl _) (Nat.le_refl _) (by rw [hP]; exact PX_ret (hf) ⟨hO, hS1, hS8, hLg, hLb, hPd, hHs, (SlP.mk hQ hg hZ hfd hs0 hs1)⟩ hF)
    · skip
      have hf := fRestore_0 (S := S) hix c19
      refine ws_sipush 22 C dX4_restore_22 ((-1005)) (by decide) ?_
      exact ws_iret 25 C  dX4_restore_25 rfl (Nat.le_refl _) (Nat.le_refl _) (by rw [hP]; exact PX_ret (hf) ⟨hO, hS1, hS8, hLg, hLb, hPd, hHs, (SlP.mk hQ hg hZ hfd hs0 hs1)⟩ hF)
  · skip
    (exfalso; omega)

set_option maxRecDepth 100000 in
set_option maxHeartbeats 4000000 in
theorem c_X4_save1 {S : Sg} (hX : XI κ z st0 S) : CT zl κ yX4_save cX4_save 2 (some .int) (r0 2 39) z [.ref (ad κ 0), .int (nI 1)] st0 (PX κ z st0 (fSave S (nI 1))) := by
  obtain ⟨P, hP⟩ : ∃ P : Option Value → St → Prop, P = (PX κ z st0 (fSave S (nI 1))) := ⟨_, rfl⟩
  rw [← hP]
  refine CT.of (by decide +kernel) (Nat.le_of_ble_eq_true rfl) (fun zp ze zs zm zar zbe zme zc C _ => ?_)
  have C : Cx zp zs zm zar zme zc κ cX4_save 2 RX4 (some .int) := C
  refine ws_lv (lv2 := [some (.ref (ad κ 0)), some (.int (nI 1))]) rfl ?_
  obtain ⟨hO, hS1, hS8, hLg, hLb, hPd, hHs, hSl⟩ := hX
  obtain ⟨gq, fz, hQ, hg, hZ, hfd, hs0, hs1⟩ := hSl.opn
  have hix : ixv (nI 1) 2 = some 1 := ixv_s (by decide) (by decide)
  have hF : Fr (fun q : Nat => q < 91) st0 st0 := Fr.rf
  refine ws_iload_n 0 C dX4_save_0 rfl ?_
  refine ws_nif_lt 1 C 9 dX4_save_1 (by decide) (by omega) ?_
  refine ws_iload_n 4 C dX4_save_4 rfl ?_
  refine ws_iconst 5 C dX4_save_5 (nI 2) (by decide) ?_
  refine ws_nicmp_lt 6 C 13 dX4_save_6 (by decide) (by omega) (by omega) (fun c6 => ?_) (fun c6 => ?_)
  · skip
    refine ws_aload_n 13 C dX4_save_13 rfl ?_
    refine ws_get 14 C dX4_save_14 fX4_43 hO rfl rfl ?_
    refine ws_iload_n 17 C dX4_save_17 rfl ?_
    refine ws_aald 18 C dX4_save_18 hQ 0 rfl (vp_in_nI (by omega) (by decide)) (ad κ 83) ((congrArg gq (nI_clamp (by omega))).trans (hg 1 (by decide))) ?_
    obtain ⟨f1, f2, f3, f4, f5, f6, hB, hR⟩ := id hS1
    have h24 := hR.le
    obtain ⟨⟨ν, t1, t2, t3, t4, t5, t6, hT, hRT⟩, -⟩ := id hs1
    refine ws_aload_n 19 C dX4_save_19 rfl ?_
    refine ws_get 20 C dX4_save_20 fX4_10 hO rfl rfl ?_
    refine ws_callV0 23 C dX4_save_23 vX4_180 (c_X3_copyFrom ⟨_, _, _, _, _, _, hT, hRT⟩ hB hR (by omega)) rfl hT rfl rfl ⟨by decide, by decide⟩ ⟨Nat.zero_le _, Nat.zero_le _⟩ rfl rfl rfl (kV (fun u23 h23 => ?_))
    obtain ⟨hT, hfr⟩ := h23
    have hs1 : SsP κ z u23 83 (va_up (sSl S) 1 (sM S) 1) (va_up (sFd S) 1 1 1) := (by rw [va_up_self]; exact ⟨⟨_, hT⟩, fun _ => hT⟩)
    have hS1 := hS1.fr hfr (fun q (g1 : 1 ≤ q) (g2 : q < 8) => (show ¬ (83 ≤ q ∧ q < 83 + 7) from by omega))
    have hS8 := hS8.fr hfr (fun q (g1 : 8 ≤ q) (g2 : q < 15) => (show ¬ (83 ≤ q ∧ q < 83 + 7) from by omega))
    have hLg := hLg.fr hfr (fun q (g1 : 15 ≤ q) (g2 : q < 22) => (show ¬ (83 ≤ q ∧ q < 83 + 7) from by omega))
    have hLb := hLb.fr hfr (fun q (g1 : 22 ≤ q) (g2 : q < 29) => (show ¬ (83 ≤ q ∧ q < 83 + 7) from by omega))
    have hPd := hPd.fr hfr (fun q (g1 : 29 ≤ q) (g2 : q < 31) => (show ¬ (83 ≤ q ∧ q < 83 + 7) from by omega))
    have hHs := hHs.fr hfr (fun q (g1 : 31 ≤ q) (g2 : q < 75) => (show ¬ (83 ≤ q ∧ q < 83 + 7) from by omega))
    have hs0 := hs0.fr hfr (fun q (g1 : 76 ≤ q) (g2 : q < 83) => (show ¬ (83 ≤ q ∧ q < 83 + 7) from by omega))
    have hO := hfr.ob hO (fun q (g1 : 0 ≤ q) (g2 : q < 0 + 1) => (show ¬ (83 ≤ q ∧ q < 83 + 7) from by omega))
    have hQ := hfr.ob hQ (fun q (g1 : 75 ≤ q) (g2 : q < 75 + 1) => (show ¬ (83 ≤ q ∧ q < 83 + 7) from by omega))
    have hZ := hfr.ob hZ (fun q (g1 : 90 ≤ q) (g2 : q < 90 + 1) => (show ¬ (83 ≤ q ∧ q < 83 + 7) from by omega))
    have hB := hfr.ob hB (fun q (g1 : 1 ≤ q) (g2 : q < 1 + 7) => (show ¬ (83 ≤ q ∧ q < 83 + 7) from by omega))
    have hF := hF.then hfr (fun q (hq : 83 ≤ q ∧ q < 83 + 7) => (show q < 91 from by omega))
    refine ws_aload_n 26 C dX4_save_26 rfl ?_
    refine ws_get 27 C dX4_save_27 fX4_47 hO rfl rfl ?_
    refine ws_iload_n 30 C dX4_save_30 rfl ?_
    refine ws_iconst 31 C dX4_save_31 (nI 1) (by decide) ?_
    refine ws_zast 32 C dX4_save_32 hZ 0 rfl (vp_in_nI (by omega) (by decide)) 1 (nI_clamp (by omega)) (nI 1) rfl (fun st1 est1 => ?_)
    have hO := hO.ne' (L := 1) est1 rfl (by omega)
    have hQ := hQ.ne' (L := 1) est1 rfl (by omega)
    have hZ : Ob z st1 90 (bZ κ 2 (upd fz 1 (nI 1))) := Ob.put' (j := 0) hZ est1 rfl
    have hB := hB.ne' (L := 7) est1 rfl (by omega)
    have hS1 := hS1.fr (Fr.one est1) (fun q (g1 : 1 ≤ q) (g2 : q < 8) => (show ¬ (q = 90) from by omega))
    have hS8 := hS8.fr (Fr.one est1) (fun q (g1 : 8 ≤ q) (g2 : q < 15) => (show ¬ (q = 90) from by omega))
    have hLg := hLg.fr (Fr.one est1) (fun q (g1 : 15 ≤ q) (g2 : q < 22) => (show ¬ (q = 90) from by omega))
    have hLb := hLb.fr (Fr.one est1) (fun q (g1 : 22 ≤ q) (g2 : q < 29) => (show ¬ (q = 90) from by omega))
    have hPd := hPd.fr (Fr.one est1) (fun q (g1 : 29 ≤ q) (g2 : q < 31) => (show ¬ (q = 90) from by omega))
    have hHs := hHs.fr (Fr.one est1) (fun q (g1 : 31 ≤ q) (g2 : q < 75) => (show ¬ (q = 90) from by omega))
    have hs0 := hs0.fr (Fr.one est1) (fun q (g1 : 76 ≤ q) (g2 : q < 83) => (show ¬ (q = 90) from by omega))
    have hs1 := hs1.fr (Fr.one est1) (fun q (g1 : 83 ≤ q) (g2 : q < 90) => (show ¬ (q = 90) from by omega))
    have hF := hF.put' est1 (show (90) < 91 from by omega)
    refine ws_aload_n 33 C dX4_save_33 rfl ?_
    refine ws_get 34 C dX4_save_34 fX4_10 hO rfl rfl ?_
    refine ws_get 37 C dX4_save_37 fX4_85 hB rfl rfl ?_
    exact ws_iret 40 C  dX4_save_40 rfl (Nat.le_refl _) (Nat.le_refl _) (by rw [hP]; exact PX_ret (fSave_s hix) ⟨hO, hS1, hS8, hLg, hLb, hPd, hHs, (SlP.mk (sl := va_up (sSl S) 1 (sM S)) (fd := va_up (sFd S) 1 1) hQ hg hZ (fil_up hfd) (by rw [va_up_ne _ _ (by decide), va_up_ne _ _ (by decide)]; exact hs0) hs1)⟩ hF)
  · skip
    (exfalso; omega)

set_option maxRecDepth 100000 in
set_option maxHeartbeats 4000000 in
theorem c_X4_restore1 {S : Sg} (hX : XI κ z st0 S) : CT zl κ yX4_restore cX4_restore 2 (some .int) (r0 3 60) z [.ref (ad κ 0), .int (nI 1)] st0 (PX κ z st0 (fRestore S (nI 1))) := by
  obtain ⟨P, hP⟩ : ∃ P : Option Value → St → Prop, P = (PX κ z st0 (fRestore S (nI 1))) := ⟨_, rfl⟩
  rw [← hP]
  refine CT.of (by decide +kernel) (Nat.le_of_ble_eq_true rfl) (fun zp ze zs zm zar zbe zme zc C _ => ?_)
  have C : Cx zp zs zm zar zme zc κ cX4_restore 2 RX4 (some .int) := C
  refine ws_lv (lv2 := [some (.ref (ad κ 0)), some (.int (nI 1))]) rfl ?_
  obtain ⟨hO, hS1, hS8, hLg, hLb, hPd, hHs, hSl⟩ := hX
  obtain ⟨gq, fz, hQ, hg, hZ, hfd, hs0, hs1⟩ := hSl.opn
  have hix : ixv (nI 1) 2 = some 1 := ixv_s (by decide) (by decide)
  have hF : Fr (fun q : Nat => q < 91) st0 st0 := Fr.rf
  refine ws_iload_n 0 C dX4_restore_0 rfl ?_
  refine ws_nif_lt 1 C 9 dX4_restore_1 (by decide) (by omega) ?_
  refine ws_iload_n 4 C dX4_restore_4 rfl ?_
  refine ws_iconst 5 C dX4_restore_5 (nI 2) (by decide) ?_
  refine ws_nicmp_lt 6 C 13 dX4_restore_6 (by decide) (by omega) (by omega) (fun c6 => ?_) (fun c6 => ?_)
  · skip
    refine ws_aload_n 13 C dX4_restore_13 rfl ?_
    refine ws_get 14 C dX4_restore_14 fX4_47 hO rfl rfl ?_
    refine ws_iload_n 17 C dX4_restore_17 rfl ?_
    refine ws_zald 18 C dX4_restore_18 hZ 0 rfl (vp_in_nI (by omega) (by decide)) (nI (sFd S 1)) ((congrArg fz (nI_clamp (by omega))).trans ((hfd 1 (by decide)).1)) ?_
    refine ws_nif_ne 19 C 26 dX4_restore_19 (by decide) (by have := (hfd 1 (by decide)).2; omega) (fun c19 => ?_) (fun c19 => ?_)
    · skip
      have hf := fRestore_s (S := S) hix c19
      have hone : sFd S 1 = 1 := by have := (hfd 1 (by decide)).2; omega
      refine ws_aload_n 26 C dX4_restore_26 rfl ?_
      obtain ⟨g, nx, hH, -⟩ := id hHs
      refine ws_get 27 C dX4_restore_27 fX4_39 hO rfl rfl ?_
      refine ws_aload_n 30 C dX4_restore_30 rfl ?_
      refine ws_get 31 C dX4_restore_31 fX4_10 hO rfl rfl ?_
      refine ws_callV0 34 C dX4_restore_34 vX4_58 (c_X0_record hHs hS1) rfl hH rfl rfl ⟨by decide, by decide⟩ ⟨Nat.zero_le _, Nat.zero_le _⟩ rfl rfl rfl (kV (fun u34 h34 => ?_))
      obtain ⟨hHs, hfr⟩ := h34
      have hS1 := hS1.fr hfr (fun q (g1 : 1 ≤ q) (g2 : q < 8) => (show ¬ (31 ≤ q ∧ q < 75) from by omega))
      have hS8 := hS8.fr hfr (fun q (g1 : 8 ≤ q) (g2 : q < 15) => (show ¬ (31 ≤ q ∧ q < 75) from by omega))
      have hLg := hLg.fr hfr (fun q (g1 : 15 ≤ q) (g2 : q < 22) => (show ¬ (31 ≤ q ∧ q < 75) from by omega))
      have hLb := hLb.fr hfr (fun q (g1 : 22 ≤ q) (g2 : q < 29) => (show ¬ (31 ≤ q ∧ q < 75) from by omega))
      have hPd := hPd.fr hfr (fun q (g1 : 29 ≤ q) (g2 : q < 31) => (show ¬ (31 ≤ q ∧ q < 75) from by omega))
      have hs0 := hs0.fr hfr (fun q (g1 : 76 ≤ q) (g2 : q < 83) => (show ¬ (31 ≤ q ∧ q < 75) from by omega))
      have hs1 := hs1.fr hfr (fun q (g1 : 83 ≤ q) (g2 : q < 90) => (show ¬ (31 ≤ q ∧ q < 75) from by omega))
      have hO := hfr.ob hO (fun q (g1 : 0 ≤ q) (g2 : q < 0 + 1) => (show ¬ (31 ≤ q ∧ q < 75) from by omega))
      have hQ := hfr.ob hQ (fun q (g1 : 75 ≤ q) (g2 : q < 75 + 1) => (show ¬ (31 ≤ q ∧ q < 75) from by omega))
      have hZ := hfr.ob hZ (fun q (g1 : 90 ≤ q) (g2 : q < 90 + 1) => (show ¬ (31 ≤ q ∧ q < 75) from by omega))
      have hF := hF.then hfr (fun q (hq : 31 ≤ q ∧ q < 75) => (show q < 91 from by omega))
      obtain ⟨f1, f2, f3, f4, f5, f6, hB, hR⟩ := id hS1
      have h24 := hR.le
      refine ws_aload_n 37 C dX4_restore_37 rfl ?_
      refine ws_get 38 C dX4_restore_38 fX4_10 hO rfl rfl ?_
      refine ws_aload_n 41 C dX4_restore_41 rfl ?_
      refine ws_get 42 C dX4_restore_42 fX4_43 hO rfl rfl ?_
      refine ws_iload_n 45 C dX4_restore_45 rfl ?_
      refine ws_aald 46 C dX4_restore_46 hQ 0 rfl (vp_in_nI (by omega) (by decide)) (ad κ 83) ((congrArg gq (nI_clamp (by omega))).trans (hg 1 (by decide))) ?_
      obtain ⟨t1, t2, t3, t4, t5, t6, hT, hRT⟩ := hs1.2 hone
      refine ws_callV0 47 C dX4_restore_47 vX4_180 (c_X3_copyFrom hS1 hT hRT (by omega)) rfl hB rfl rfl ⟨by decide, by decide⟩ ⟨Nat.zero_le _, Nat.zero_le _⟩ rfl rfl rfl (kV (fun u47 h47 => ?_))
      obtain ⟨hS1, hfr⟩ := h47
      obtain ⟨k1, k2, k3, k4, k5, k6, hB, hR2⟩ := id hS1
      have hS8 := hS8.fr hfr (fun q (g1 : 8 ≤ q) (g2 : q < 15) => (show ¬ (1 ≤ q ∧ q < 1 + 7) from by omega))
      have hLg := hLg.fr hfr (fun q (g1 : 15 ≤ q) (g2 : q < 22) => (show ¬ (1 ≤ q ∧ q < 1 + 7) from by omega))
      have hLb := hLb.fr hfr (fun q (g1 : 22 ≤ q) (g2 : q < 29) => (show ¬ (1 ≤ q ∧ q < 1 + 7) from by omega))
      have hPd := hPd.fr hfr (fun q (g1 : 29 ≤ q) (g2 : q < 31) => (show ¬ (1 ≤ q ∧ q < 1 + 7) from by omega))
      have hHs := hHs.fr hfr (fun q (g1 : 31 ≤ q) (g2 : q < 75) => (show ¬ (1 ≤ q ∧ q < 1 + 7) from by omega))
      have hs0 := hs0.fr hfr (fun q (g1 : 76 ≤ q) (g2 : q < 83) => (show ¬ (1 ≤ q ∧ q < 1 + 7) from by omega))
      have hs1 := hs1.fr hfr (fun q (g1 : 83 ≤ q) (g2 : q < 90) => (show ¬ (1 ≤ q ∧ q < 1 + 7) from by omega))
      have hO := hfr.ob hO (fun q (g1 : 0 ≤ q) (g2 : q < 0 + 1) => (show ¬ (1 ≤ q ∧ q < 1 + 7) from by omega))
      have hQ := hfr.ob hQ (fun q (g1 : 75 ≤ q) (g2 : q < 75 + 1) => (show ¬ (1 ≤ q ∧ q < 1 + 7) from by omega))
      have hZ := hfr.ob hZ (fun q (g1 : 90 ≤ q) (g2 : q < 90 + 1) => (show ¬ (1 ≤ q ∧ q < 1 + 7) from by omega))
      have hT := hfr.ob hT (fun q (g1 : 83 ≤ q) (g2 : q < 83 + 7) => (show ¬ (1 ≤ q ∧ q < 1 + 7) from by omega))
      have hF := hF.then hfr (fun q (hq : 1 ≤ q ∧ q < 1 + 7) => (show q < 91 from by omega))
      refine ws_aload_n 50 C dX4_restore_50 rfl ?_
      refine ws_get 51 C dX4_restore_51 fX4_10 hO rfl rfl ?_
      refine ws_get 54 C dX4_restore_54 fX4_85 hB rfl rfl ?_
      exact ws_iret 57 C  dX4_restore_57 rfl (Nat.le_refl _) (Nat.le_refl _) (by rw [hP]; exact PX_ret (hf) ⟨hO, hS1, hS8, hLg, hLb, hPd, hHs, (SlP.mk hQ hg hZ hfd hs0 hs1)⟩ hF)
    · skip
      have hf := fRestore_0 (S := S) hix c19
      refine ws_sipush 22 C dX4_restore_22 ((-1005)) (by decide) ?_
      exact ws_iret 25 C  dX4_restore_25 rfl (Nat.le_refl _) (Nat.le_refl _) (by rw [hP]; exact PX_ret (hf) ⟨hO, hS1, hS8, hLg, hLb, hPd, hHs, (SlP.mk hQ hg hZ hfd hs0 hs1)⟩ hF)
  · skip
    (exfalso; omega)

set_option maxRecDepth 100000 in
set_option maxHeartbeats 4000000 in
theorem c_X4_saveN {S : Sg} (hX : XI κ z st0 S) {x : Int32} (hn : ixv x 2 = none) : CT zl κ yX4_save cX4_save 2 (some .int) (r0 2 39) z [.ref (ad κ 0), .int (x)] st0 (PX κ z st0 (fSave S x)) := by
  obtain ⟨P, hP⟩ : ∃ P : Option Value → St → Prop, P = (PX κ z st0 (fSave S x)) := ⟨_, rfl⟩
  rw [← hP]
  refine CT.of (by decide +kernel) (Nat.le_of_ble_eq_true rfl) (fun zp ze zs zm zar zbe zme zc C _ => ?_)
  have C : Cx zp zs zm zar zme zc κ cX4_save 2 RX4 (some .int) := C
  refine ws_lv (lv2 := [some (.ref (ad κ 0)), some (.int (x))]) rfl ?_
  obtain ⟨hO, hS1, hS8, hLg, hLb, hPd, hHs, hSl⟩ := hX
  have hF : Fr (fun q : Nat => q < 91) st0 st0 := Fr.rf
  refine ws_iload_n 0 C dX4_save_0 rfl ?_
  refine ws_if_lt 1 C 9 dX4_save_1 (by decide)  (fun c1 => ?_) (fun c1 => ?_)
  · skip
    refine ws_sipush 9 C dX4_save_9 ((-1002)) (by decide) ?_
    exact ws_iret 12 C  dX4_save_12 rfl (Nat.le_refl _) (Nat.le_refl _) (by rw [hP]; exact PX_ret (fSave_n hn) ⟨hO, hS1, hS8, hLg, hLb, hPd, hHs, hSl⟩ hF)
  · skip
    refine ws_iload_n 4 C dX4_save_4 rfl ?_
    refine ws_iconst 5 C dX4_save_5 (nI 2) (by decide) ?_
    refine ws_icmp_lt 6 C 13 dX4_save_6 (by decide)  (fun c6 => ?_) (fun c6 => ?_)
    · skip
      exact absurd c6 (fun q => by obtain ⟨k, hk, e, e2⟩ := ixv_of (n := 2) (by decide) c1 q; rw [hn] at e2; cases e2)
    · skip
      refine ws_sipush 9 C dX4_save_9 ((-1002)) (by decide) ?_
      exact ws_iret 12 C  dX4_save_12 rfl (Nat.le_refl _) (Nat.le_refl _) (by rw [hP]; exact PX_ret (fSave_n hn) ⟨hO, hS1, hS8, hLg, hLb, hPd, hHs, hSl⟩ hF)

theorem c_X4_save {S : Sg} (hX : XI κ z st0 S) {x : Int32} : CT zl κ yX4_save cX4_save 2 (some .int) (r0 2 39) z [.ref (ad κ 0), .int x] st0 (PX κ z st0 (fSave S x)) := by
  rcases sw_of (y := x) 2 (by decide) with ⟨j, hj, e⟩ | ⟨h1, -⟩
  · subst e
    rcases (show j = 0 ∨ j = 1 from by omega) with rfl | rfl
    · exact c_X4_save0 hX
    · exact c_X4_save1 hX
  · exact c_X4_saveN hX h1

set_option maxRecDepth 100000 in
set_option maxHeartbeats 4000000 in
theorem c_X4_restoreN {S : Sg} (hX : XI κ z st0 S) {x : Int32} (hn : ixv x 2 = none) : CT zl κ yX4_restore cX4_restore 2 (some .int) (r0 3 60) z [.ref (ad κ 0), .int (x)] st0 (PX κ z st0 (fRestore S x)) := by
  obtain ⟨P, hP⟩ : ∃ P : Option Value → St → Prop, P = (PX κ z st0 (fRestore S x)) := ⟨_, rfl⟩
  rw [← hP]
  refine CT.of (by decide +kernel) (Nat.le_of_ble_eq_true rfl) (fun zp ze zs zm zar zbe zme zc C _ => ?_)
  have C : Cx zp zs zm zar zme zc κ cX4_restore 2 RX4 (some .int) := C
  refine ws_lv (lv2 := [some (.ref (ad κ 0)), some (.int (x))]) rfl ?_
  obtain ⟨hO, hS1, hS8, hLg, hLb, hPd, hHs, hSl⟩ := hX
  have hF : Fr (fun q : Nat => q < 91) st0 st0 := Fr.rf
  refine ws_iload_n 0 C dX4_restore_0 rfl ?_
  refine ws_if_lt 1 C 9 dX4_restore_1 (by decide)  (fun c1 => ?_) (fun c1 => ?_)
  · skip
    refine ws_sipush 9 C dX4_restore_9 ((-1002)) (by decide) ?_
    exact ws_iret 12 C  dX4_restore_12 rfl (Nat.le_refl _) (Nat.le_refl _) (by rw [hP]; exact PX_ret (fRestore_n hn) ⟨hO, hS1, hS8, hLg, hLb, hPd, hHs, hSl⟩ hF)
  · skip
    refine ws_iload_n 4 C dX4_restore_4 rfl ?_
    refine ws_iconst 5 C dX4_restore_5 (nI 2) (by decide) ?_
    refine ws_icmp_lt 6 C 13 dX4_restore_6 (by decide)  (fun c6 => ?_) (fun c6 => ?_)
    · skip
      exact absurd c6 (fun q => by obtain ⟨k, hk, e, e2⟩ := ixv_of (n := 2) (by decide) c1 q; rw [hn] at e2; cases e2)
    · skip
      refine ws_sipush 9 C dX4_restore_9 ((-1002)) (by decide) ?_
      exact ws_iret 12 C  dX4_restore_12 rfl (Nat.le_refl _) (Nat.le_refl _) (by rw [hP]; exact PX_ret (fRestore_n hn) ⟨hO, hS1, hS8, hLg, hLb, hPd, hHs, hSl⟩ hF)

theorem c_X4_restore {S : Sg} (hX : XI κ z st0 S) {x : Int32} : CT zl κ yX4_restore cX4_restore 2 (some .int) (r0 3 60) z [.ref (ad κ 0), .int x] st0 (PX κ z st0 (fRestore S x)) := by
  rcases sw_of (y := x) 2 (by decide) with ⟨j, hj, e⟩ | ⟨h1, -⟩
  · subst e
    rcases (show j = 0 ∨ j = 1 from by omega) with rfl | rfl
    · exact c_X4_restore0 hX
    · exact c_X4_restore1 hX
  · exact c_X4_restoreN hX h1
end
