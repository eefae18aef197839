section
variable {zl : Launch} {κ : Kt} {z : Nat} {st0 : St}
set_option maxRecDepth 100000 in
set_option maxHeartbeats 4000000 in
theorem c_X1_weigh {b b2 : Nat} {p l r s lf nx f1 f2 f3 f4 f5 f6 : Nat → Int32} {wn m sp lo ln : Int32} {μ : Mu} (hL : Ob z st0 b (bLy κ b p l r wn m sp lo s ln lf nx)) (hB : Ob z st0 b2 (bSh κ b2 f1 f2 f3 f4 f5 f6 (nI (mn μ)))) (hR : Rp μ f1 f2 f3 f4 f5 f6) (hd : b + 7 ≤ b2 ∨ b2 + 7 ≤ b) : CT zl κ yX1_weigh cX1_weigh 3 none (r0 3 67) z [.ref (ad κ b), .ref (ad κ b2)] st0 (PV (fun u => (∃ p l r, Ob z u b (bLy κ b p l r (nI (mn μ)) (mv μ 0 0) (mv μ 0 1) (mv μ 0 2) s ln lf nx) ∧ LyW μ p l r) ∧ Fr (fun q : Nat => b ≤ q ∧ q < b + 7) st0 u)) := by
  obtain ⟨P, hP⟩ : ∃ P : Option Value → St → Prop, P = (PV (fun u => (∃ p l r, Ob z u b (bLy κ b p l r (nI (mn μ)) (mv μ 0 0) (mv μ 0 1) (mv μ 0 2) s ln lf nx) ∧ LyW μ p l r) ∧ Fr (fun q : Nat => b ≤ q ∧ q < b + 7) st0 u)) := ⟨_, rfl⟩
  rw [← hP]
  refine CT.of (by decide +kernel) (Nat.le_of_ble_eq_true rfl) (fun zp ze zs zm zar zbe zme zc C _ => ?_)
  have C : Cx zp zs zm zar zme zc κ cX1_weigh 3 RX1 none := C
  refine ws_lv (lv2 := [some (.ref (ad κ b)), some (.ref (ad κ b2)), none]) rfl ?_
  have h24 := hR.le
  have hF : Fr (fun q : Nat => b ≤ q ∧ q < b + 7) st0 st0 := Fr.rf
  refine ws_aload_n 0 C dX1_weigh_0 rfl ?_
  refine ws_aload_n 1 C dX1_weigh_1 rfl ?_
  refine ws_get 2 C dX1_weigh_2 fX1_46 hB rfl rfl ?_
  refine ws_put 5 C dX1_weigh_5 fX1_21 q1_3 hL rfl (Nat.le_of_ble_eq_true rfl) rfl rfl (fun st1 est1 => ?_)
  have hL : Ob z st1 b (bLy κ b p l r (nI (mn μ)) m sp lo s ln lf nx) := Ob.put' (j := 0) hL est1 rfl
  have hB := hB.ne' (L := 7) est1 rfl (by omega)
  have hF := hF.put' est1 (show b ≤ (b) ∧ (b) < b + 7 from by omega)
  refine ws_aload_n 8 C dX1_weigh_8 rfl ?_
  refine ws_aload_n 9 C dX1_weigh_9 rfl ?_
  refine ws_get 10 C dX1_weigh_10 fX1_49 hB rfl rfl ?_
  refine ws_iconst 13 C dX1_weigh_13 (nI 0) (by decide) ?_
  refine ws_iald 14 C dX1_weigh_14 hB 1 rfl (vp_in_nI (by omega) (by decide)) (mv μ 0 0) ((congrArg f1 (nI_clamp (by omega))).trans (hR.set (by omega))) ?_
  refine ws_put 15 C dX1_weigh_15 fX1_25 q1_4 hL rfl (Nat.le_of_ble_eq_true rfl) rfl rfl (fun st2 est2 => ?_)
  have hL : Ob z st2 b (bLy κ b p l r (nI (mn μ)) (mv μ 0 0) sp lo s ln lf nx) := Ob.put' (j := 0) hL est2 rfl
  have hB := hB.ne' (L := 7) est2 rfl (by omega)
  have hF := hF.put' est2 (show b ≤ (b) ∧ (b) < b + 7 from by omega)
  refine ws_aload_n 18 C dX1_weigh_18 rfl ?_
  refine ws_aload_n 19 C dX1_weigh_19 rfl ?_
  refine ws_get 20 C dX1_weigh_20 fX1_49 hB rfl rfl ?_
  refine ws_iconst 23 C dX1_weigh_23 (nI 1) (by decide) ?_
  refine ws_iald 24 C dX1_weigh_24 hB 1 rfl (vp_in_nI (by omega) (by decide)) (mv μ 0 1) ((congrArg f1 (nI_clamp (by omega))).trans (hR.set (by omega))) ?_
  refine ws_put 25 C dX1_weigh_25 fX1_28 q1_5 hL rfl (Nat.le_of_ble_eq_true rfl) rfl rfl (fun st3 est3 => ?_)
  have hL : Ob z st3 b (bLy κ b p l r (nI (mn μ)) (mv μ 0 0) (mv μ 0 1) lo s ln lf nx) := Ob.put' (j := 0) hL est3 rfl
  have hB := hB.ne' (L := 7) est3 rfl (by omega)
  have hF := hF.put' est3 (show b ≤ (b) ∧ (b) < b + 7 from by omega)
  refine ws_aload_n 28 C dX1_weigh_28 rfl ?_
  refine ws_aload_n 29 C dX1_weigh_29 rfl ?_
  refine ws_get 30 C dX1_weigh_30 fX1_49 hB rfl rfl ?_
  refine ws_iconst 33 C dX1_weigh_33 (nI 2) (by decide) ?_
  refine ws_iald 34 C dX1_weigh_34 hB 1 rfl (vp_in_nI (by omega) (by decide)) (mv μ 0 2) ((congrArg f1 (nI_clamp (by omega))).trans (hR.set (by omega))) ?_
  refine ws_put 35 C dX1_weigh_35 fX1_31 q1_6 hL rfl (Nat.le_of_ble_eq_true rfl) rfl rfl (fun st4 est4 => ?_)
  have hL : Ob z st4 b (bLy κ b p l r (nI (mn μ)) (mv μ 0 0) (mv μ 0 1) (mv μ 0 2) s ln lf nx) := Ob.put' (j := 0) hL est4 rfl
  have hB := hB.ne' (L := 7) est4 rfl (by omega)
  have hF := hF.put' est4 (show b ≤ (b) ∧ (b) < b + 7 from by omega)
  refine ws_aload_n 38 C dX1_weigh_38 rfl ?_
  refine ws_get 39 C dX1_weigh_39 fX1_9 hL rfl rfl ?_
  refine ws_iconst 42 C dX1_weigh_42 (nI 0) (by decide) ?_
  refine ws_iconst 43 C dX1_weigh_43 (nI 0) (by decide) ?_
  refine ws_iast 44 C dX1_weigh_44 hL 1 rfl (vp_in_nI (by omega) (by decide)) 0 (nI_clamp (by omega)) (nI 0) rfl (fun st5 est5 => ?_)
  have hL : Ob z st5 b (bLy κ b (upd p 0 (nI 0)) l r (nI (mn μ)) (mv μ 0 0) (mv μ 0 1) (mv μ 0 2) s ln lf nx) := Ob.put' (j := 1) hL est5 rfl
  have hB := hB.ne' (L := 7) est5 rfl (by omega)
  have hF := hF.put' est5 (show b ≤ (b + 1) ∧ (b + 1) < b + 7 from by omega)
  refine ws_iconst 45 C dX1_weigh_45 (nI 0) (by decide) ?_
  refine ws_istore_n 46 C dX1_weigh_46 rfl [some (.ref (ad κ b)), some (.ref (ad κ b2)), some (.int (nI 0))] rfl ?_
  have L47 : ∀ k : Nat, k ≤ mn μ → ∀ (p2 : Nat → Int32), ∀ (l2 : Nat → Int32), ∀ (r2 : Nat → Int32), ∀ (h1 : ∀ j, j ≤ k → p2 j = pl μ j), ∀ (h2 : ∀ j, j < k → l2 j = lh μ j), ∀ (h3 : ∀ j, j < k → r2 j = rh μ j), ∀ (st6 : St), ∀ (hL : Ob z st6 b (bLy κ b p2 l2 r2 (nI (mn μ)) (mv μ 0 0) (mv μ 0 1) (mv μ 0 2) s ln lf nx)), ∀ (hB : Ob z st6 b2 (bSh κ b2 f1 f2 f3 f4 f5 f6 (nI (mn μ)))), ∀ (hF : Fr (fun q : Nat => b ≤ q ∧ q < b + 7) st0 st6), WS zp zl ze (r0 3 67) zs zm zar zbe zme zc κ z 0 0 (QM zbe zar zs κ z (r0 3 67) P) st6 47 [some (.ref (ad κ b)), some (.ref (ad κ b2)), some (.int (nI k))] [] := by
    refine dnw ?_
    intro k hk ih47 p2 l2 r2 h1 h2 h3 st6 hL hB hF
    refine ws_iload_n 47 C dX1_weigh_47 rfl ?_
    refine ws_aload_n 48 C dX1_weigh_48 rfl ?_
    refine ws_get 49 C dX1_weigh_49 fX1_21 hL rfl rfl ?_
    refine ws_nicmp_ge 52 C 108 dX1_weigh_52 (by decide) (by omega) (by omega) (fun c52 => ?_) (fun c52 => ?_)
    · skip
      exact ws_vret 108 C dX1_weigh_108 rfl (Nat.le_refl _) (Nat.le_refl _) (by rw [hP]; exact ⟨rfl, ⟨⟨p2, l2, r2, hL, fun j hj => h1 j (by omega), fun j hj => h2 j (by omega), fun j hj => h3 j (by omega)⟩, hF⟩⟩)
    · skip
      refine ws_aload_n 55 C dX1_weigh_55 rfl ?_
      refine ws_get 56 C dX1_weigh_56 fX1_9 hL rfl rfl ?_
      refine ws_iload_n 59 C dX1_weigh_59 rfl ?_
      refine ws_iconst 60 C dX1_weigh_60 (nI 1) (by decide) ?_
      refine ws_iadd 61 C dX1_weigh_61 (nI (k + 1)) (nI_add _ _) ?_
      refine ws_aload_n 62 C dX1_weigh_62 rfl ?_
      refine ws_get 63 C dX1_weigh_63 fX1_9 hL rfl rfl ?_
      refine ws_iload_n 66 C dX1_weigh_66 rfl ?_
      refine ws_iald 67 C dX1_weigh_67 hL 1 rfl (vp_in_nI (by omega) (by decide)) (pl μ k) ((congrArg p2 (nI_clamp (by omega))).trans (h1 k (Nat.le_refl _))) ?_
      refine ws_aload_n 68 C dX1_weigh_68 rfl ?_
      refine ws_iload_n 69 C dX1_weigh_69 rfl ?_
      refine ws_callV0 70 C dX1_weigh_70 vX1_52 (c_X3_widthOf hB hR c52) rfl hB rfl rfl ⟨by decide, by decide⟩ ⟨Nat.zero_le _, Nat.zero_le _⟩ rfl rfl rfl (kR ?_)
      refine ws_iadd 73 C dX1_weigh_73 ((pl μ k) + (wd μ k)) rfl ?_
      refine ws_aload_n 74 C dX1_weigh_74 rfl ?_
      refine ws_get 75 C dX1_weigh_75 fX1_28 hL rfl rfl ?_
      refine ws_iadd 78 C dX1_weigh_78 (((pl μ k) + (wd μ k)) + (mv μ 0 1)) rfl ?_
      refine ws_iast 79 C dX1_weigh_79 hL 1 rfl (vp_in_nI (by omega) (by decide)) (k + 1) (nI_clamp (by omega)) (((pl μ k) + (wd μ k)) + (mv μ 0 1)) rfl (fun st7 est7 => ?_)
      have hL : Ob z st7 b (bLy κ b (upd p2 (k + 1) (((pl μ k) + (wd μ k)) + (mv μ 0 1))) l2 r2 (nI (mn μ)) (mv μ 0 0) (mv μ 0 1) (mv μ 0 2) s ln lf nx) := Ob.put' (j := 1) hL est7 rfl
      have hB := hB.ne' (L := 7) est7 rfl (by omega)
      have hF := hF.put' est7 (show b ≤ (b + 1) ∧ (b + 1) < b + 7 from by omega)
      refine ws_aload_n 80 C dX1_weigh_80 rfl ?_
      refine ws_get 81 C dX1_weigh_81 fX1_15 hL rfl rfl ?_
      refine ws_iload_n 84 C dX1_weigh_84 rfl ?_
      refine ws_aload_n 85 C dX1_weigh_85 rfl ?_
      refine ws_iload_n 86 C dX1_weigh_86 rfl ?_
      refine ws_callV0 87 C dX1_weigh_87 vX1_56 (c_X3_leftHangOf hB hR c52) rfl hB rfl rfl ⟨by decide, by decide⟩ ⟨Nat.zero_le _, Nat.zero_le _⟩ rfl rfl rfl (kR ?_)
      refine ws_iast 90 C dX1_weigh_90 hL 2 rfl (vp_in_nI (by omega) (by decide)) k (nI_clamp (by omega)) (lh μ k) rfl (fun st8 est8 => ?_)
      have hL : Ob z st8 b (bLy κ b (upd p2 (k + 1) (((pl μ k) + (wd μ k)) + (mv μ 0 1))) (upd l2 k (lh μ k)) r2 (nI (mn μ)) (mv μ 0 0) (mv μ 0 1) (mv μ 0 2) s ln lf nx) := Ob.put' (j := 2) hL est8 rfl
      have hB := hB.ne' (L := 7) est8 rfl (by omega)
      have hF := hF.put' est8 (show b ≤ (b + 2) ∧ (b + 2) < b + 7 from by omega)
      refine ws_aload_n 91 C dX1_weigh_91 rfl ?_
      refine ws_get 92 C dX1_weigh_92 fX1_18 hL rfl rfl ?_
      refine ws_iload_n 95 C dX1_weigh_95 rfl ?_
      refine ws_aload_n 96 C dX1_weigh_96 rfl ?_
      refine ws_iload_n 97 C dX1_weigh_97 rfl ?_
      refine ws_callV0 98 C dX1_weigh_98 vX1_59 (c_X3_rightHangOf hB hR c52) rfl hB rfl rfl ⟨by decide, by decide⟩ ⟨Nat.zero_le _, Nat.zero_le _⟩ rfl rfl rfl (kR ?_)
      refine ws_iast 101 C dX1_weigh_101 hL 3 rfl (vp_in_nI (by omega) (by decide)) k (nI_clamp (by omega)) (rh μ k) rfl (fun st9 est9 => ?_)
      have hL : Ob z st9 b (bLy κ b (upd p2 (k + 1) (((pl μ k) + (wd μ k)) + (mv μ 0 1))) (upd l2 k (lh μ k)) (upd r2 k (rh μ k)) (nI (mn μ)) (mv μ 0 0) (mv μ 0 1) (mv μ 0 2) s ln lf nx) := Ob.put' (j := 3) hL est9 rfl
      have hB := hB.ne' (L := 7) est9 rfl (by omega)
      have hF := hF.put' est9 (show b ≤ (b + 3) ∧ (b + 3) < b + 7 from by omega)
      refine ws_iinc 102 C dX1_weigh_102 rfl (nI (k + 1)) (nI_1 _) rfl [some (.ref (ad κ b)), some (.ref (ad κ b2)), some (.int (nI (k + 1)))] rfl ?_
      refine ws_goto 105 C 47 dX1_weigh_105 (by decide) ?_
      exact ih47 c52 (upd p2 (k + 1) (((pl μ k) + (wd μ k)) + (mv μ 0 1))) (upd l2 k (lh μ k)) (upd r2 k (rh μ k)) (upd_le h1 rfl) (upd_lt h2 rfl) (upd_lt h3 rfl) st9 hL hB hF
  exact L47 0 (Nat.zero_le _) (upd p 0 (nI 0)) l r (fun j hj => (by rw [show j = 0 from by omega]; exact pk_us)) (fun j hj => (by omega)) (fun j hj => (by omega)) st5 hL hB hF

set_option maxRecDepth 100000 in
set_option maxHeartbeats 4000000 in
theorem c_X1_widthFrom {b : Nat} {p l r s lf nx : Nat → Int32} {m lo ln : Int32} {μ : Mu} (hL : Ob z st0 b (bLy κ b p l r (nI (mn μ)) m (mv μ 0 1) lo s ln lf nx)) (hW : LyW μ p l r) (ho : Ok μ) {i j : Nat} (hij : i ≤ j) (hj : j < mn μ) : CT zl κ yX1_widthFrom cX1_widthFrom 3 (some .int) (r0 0 0) z [.ref (ad κ b), .int (nI i), .int (nI j)] st0 (PRi (wl μ i j) st0) := by
  obtain ⟨P, hP⟩ : ∃ P : Option Value → St → Prop, P = (PRi (wl μ i j) st0) := ⟨_, rfl⟩
  rw [← hP]
  refine CT.of (by decide +kernel) (Nat.le_of_ble_eq_true rfl) (fun zp ze zs zm zar zbe zme zc C _ => ?_)
  have C : Cx zp zs zm zar zme zc κ cX1_widthFrom 3 RX1 (some .int) := C
  refine ws_lv (lv2 := [some (.ref (ad κ b)), some (.int (nI i)), some (.int (nI j))]) rfl ?_
  have h24 := ho.1
  refine ws_aload_n 0 C dX1_widthFrom_0 rfl ?_
  refine ws_get 1 C dX1_widthFrom_1 fX1_9 hL rfl rfl ?_
  refine ws_iload_n 4 C dX1_widthFrom_4 rfl ?_
  refine ws_iconst 5 C dX1_widthFrom_5 (nI 1) (by decide) ?_
  refine ws_iadd 6 C dX1_widthFrom_6 (nI (j + 1)) (nI_add _ _) ?_
  refine ws_iald 7 C dX1_widthFrom_7 hL 1 rfl (vp_in_nI (by omega) (by decide)) (pl μ (j + 1)) ((congrArg p (nI_clamp (by omega))).trans (hW.1 _ (by omega))) ?_
  refine ws_aload_n 8 C dX1_widthFrom_8 rfl ?_
  refine ws_get 9 C dX1_widthFrom_9 fX1_9 hL rfl rfl ?_
  refine ws_iload_n 12 C dX1_widthFrom_12 rfl ?_
  refine ws_iald 13 C dX1_widthFrom_13 hL 1 rfl (vp_in_nI (by omega) (by decide)) (pl μ i) ((congrArg p (nI_clamp (by omega))).trans (hW.1 _ (by omega))) ?_
  refine ws_isub 14 C dX1_widthFrom_14 ((pl μ (j + 1)) - (pl μ i)) rfl ?_
  refine ws_aload_n 15 C dX1_widthFrom_15 rfl ?_
  refine ws_get 16 C dX1_widthFrom_16 fX1_28 hL rfl rfl ?_
  refine ws_isub 19 C dX1_widthFrom_19 (((pl μ (j + 1)) - (pl μ i)) - (mv μ 0 1)) rfl ?_
  exact ws_iret 20 C  dX1_widthFrom_20 rfl (Nat.le_refl _) (Nat.le_refl _) (by rw [hP]; exact ⟨rfl, rfl⟩)

set_option maxRecDepth 100000 in
set_option maxHeartbeats 4000000 in
theorem c_X1_bodyOf {b : Nat} {p l r s lf nx : Nat → Int32} {m lo ln : Int32} {μ : Mu} (hL : Ob z st0 b (bLy κ b p l r (nI (mn μ)) m (mv μ 0 1) lo s ln lf nx)) (hW : LyW μ p l r) (ho : Ok μ) {i j : Nat} (hij : i ≤ j) (hj : j < mn μ) : CT zl κ yX1_bodyOf cX1_bodyOf 3 (some .int) (r0 1 22) z [.ref (ad κ b), .int (nI i), .int (nI j)] st0 (PRi (bo μ i j) st0) := by
  obtain ⟨P, hP⟩ : ∃ P : Option Value → St → Prop, P = (PRi (bo μ i j) st0) := ⟨_, rfl⟩
  rw [← hP]
  refine CT.of (by decide +kernel) (Nat.le_of_ble_eq_true rfl) (fun zp ze zs zm zar zbe zme zc C _ => ?_)
  have C : Cx zp zs zm zar zme zc κ cX1_bodyOf 3 RX1 (some .int) := C
  refine ws_lv (lv2 := [some (.ref (ad κ b)), some (.int (nI i)), some (.int (nI j))]) rfl ?_
  have h24 := ho.1
  refine ws_aload_n 0 C dX1_bodyOf_0 rfl ?_
  refine ws_iload_n 1 C dX1_bodyOf_1 rfl ?_
  refine ws_iload_n 2 C dX1_bodyOf_2 rfl ?_
  refine ws_callV0 3 C dX1_bodyOf_3 vX1_62 (c_X1_widthFrom hL hW ho hij hj) rfl hL rfl rfl ⟨by decide, by decide⟩ ⟨Nat.zero_le _, Nat.zero_le _⟩ rfl rfl rfl (kR ?_)
  refine ws_aload_n 6 C dX1_bodyOf_6 rfl ?_
  refine ws_get 7 C dX1_bodyOf_7 fX1_15 hL rfl rfl ?_
  refine ws_iload_n 10 C dX1_bodyOf_10 rfl ?_
  refine ws_iald 11 C dX1_bodyOf_11 hL 2 rfl (vp_in_nI (by omega) (by decide)) (lh μ i) ((congrArg l (nI_clamp (by omega))).trans (hW.2.1 _ (by omega))) ?_
  refine ws_isub 12 C dX1_bodyOf_12 ((wl μ i j) - (lh μ i)) rfl ?_
  refine ws_aload_n 13 C dX1_bodyOf_13 rfl ?_
  refine ws_get 14 C dX1_bodyOf_14 fX1_18 hL rfl rfl ?_
  refine ws_iload_n 17 C dX1_bodyOf_17 rfl ?_
  refine ws_iald 18 C dX1_bodyOf_18 hL 3 rfl (vp_in_nI (by omega) (by decide)) (rh μ j) ((congrArg r (nI_clamp (by omega))).trans (hW.2.2 _ (by omega))) ?_
  refine ws_isub 19 C dX1_bodyOf_19 (((wl μ i j) - (lh μ i)) - (rh μ j)) rfl ?_
  exact ws_iret 20 C  dX1_bodyOf_20 rfl (Nat.le_refl _) (Nat.le_refl _) (by rw [hP]; exact ⟨rfl, rfl⟩)

set_option maxRecDepth 100000 in
set_option maxHeartbeats 4000000 in
theorem c_X1_badnessOf {b : Nat} {p l r s lf nx : Nat → Int32} {m lo ln : Int32} {μ : Mu} (hL : Ob z st0 b (bLy κ b p l r (nI (mn μ)) m (mv μ 0 1) lo s ln lf nx)) (hW : LyW μ p l r) (ho : Ok μ) {i j : Nat} (hij : i ≤ j) (hj : j < mn μ) : CT zl κ yX1_badnessOf cX1_badnessOf 4 (some .int) (r0 2 44) z [.ref (ad κ b), .int (nI i), .int (nI j)] st0 (PRi (bad (bo μ) m (mn μ) i j) st0) := by
  obtain ⟨P, hP⟩ : ∃ P : Option Value → St → Prop, P = (PRi (bad (bo μ) m (mn μ) i j) st0) := ⟨_, rfl⟩
  rw [← hP]
  refine CT.of (by decide +kernel) (Nat.le_of_ble_eq_true rfl) (fun zp ze zs zm zar zbe zme zc C _ => ?_)
  have C : Cx zp zs zm zar zme zc κ cX1_badnessOf 4 RX1 (some .int) := C
  refine ws_lv (lv2 := [some (.ref (ad κ b)), some (.int (nI i)), some (.int (nI j)), none]) rfl ?_
  have h24 := ho.1
  refine ws_aload_n 0 C dX1_badnessOf_0 rfl ?_
  refine ws_get 1 C dX1_badnessOf_1 fX1_25 hL rfl rfl ?_
  refine ws_aload_n 4 C dX1_badnessOf_4 rfl ?_
  refine ws_iload_n 5 C dX1_badnessOf_5 rfl ?_
  refine ws_iload_n 6 C dX1_badnessOf_6 rfl ?_
  refine ws_callV0 7 C dX1_badnessOf_7 vX1_66 (c_X1_bodyOf hL hW ho hij hj) rfl hL rfl rfl ⟨by decide, by decide⟩ ⟨Nat.zero_le _, Nat.zero_le _⟩ rfl rfl rfl (kR ?_)
  refine ws_isub 10 C dX1_badnessOf_10 (m - (bo μ i j)) rfl ?_
  refine ws_istore_n 11 C dX1_badnessOf_11 rfl [some (.ref (ad κ b)), some (.int (nI i)), some (.int (nI j)), some (.int (m - (bo μ i j)))] rfl ?_
  refine ws_iload_n 12 C dX1_badnessOf_12 rfl ?_
  refine ws_if_ge 13 C 20 dX1_badnessOf_13 (by decide)  (fun c13 => ?_) (fun c13 => ?_)
  · skip
    refine ws_iload_n 20 C dX1_badnessOf_20 rfl ?_
    refine ws_aload_n 21 C dX1_badnessOf_21 rfl ?_
    refine ws_get 22 C dX1_badnessOf_22 fX1_21 hL rfl rfl ?_
    refine ws_iconst 25 C dX1_badnessOf_25 (nI 1) (by decide) ?_
    refine ws_isub 26 C dX1_badnessOf_26 (nI (mn μ - 1)) (pk_sub (by omega)) ?_
    refine ws_nicmp_ne 27 C 34 dX1_badnessOf_27 (by decide) (by omega) (by omega) (fun c27 => ?_) (fun c27 => ?_)
    · skip
      have hv : (m - bo μ i j) * (m - bo μ i j) = bad (bo μ) m (mn μ) i j := ((if_neg (Int32.not_lt.mpr c13)).trans (if_neg c27)).symm
      refine ws_iload_n 34 C dX1_badnessOf_34 rfl ?_
      refine ws_iload_n 35 C dX1_badnessOf_35 rfl ?_
      refine ws_imul 36 C dX1_badnessOf_36 ((m - (bo μ i j)) * (m - (bo μ i j))) rfl ?_
      exact ws_iret 37 C  dX1_badnessOf_37 rfl (Nat.le_refl _) (Nat.le_refl _) (by rw [hP]; exact ⟨congrArg (fun z => some (Value.int z)) (hv), rfl⟩)
    · skip
      have hv : nI 0 = bad (bo μ) m (mn μ) i j := ((if_neg (Int32.not_lt.mpr c13)).trans (if_pos c27)).symm
      refine ws_iconst 30 C dX1_badnessOf_30 (nI 0) (by decide) ?_
      refine ws_goto 31 C 37 dX1_badnessOf_31 (by decide) ?_
      exact ws_iret 37 C  dX1_badnessOf_37 rfl (Nat.le_refl _) (Nat.le_refl _) (by rw [hP]; exact ⟨congrArg (fun z => some (Value.int z)) (hv), rfl⟩)
  · skip
    refine ws_sipush 16 C dX1_badnessOf_16 (nI 10000) (by decide) ?_
    exact ws_iret 19 C  dX1_badnessOf_19 rfl (Nat.le_refl _) (Nat.le_refl _) (by rw [hP]; exact ⟨congrArg (fun z => some (Value.int z)) ((if_pos (Int32.not_le.mp c13)).symm), rfl⟩)

set_option maxRecDepth 100000 in
set_option maxHeartbeats 4000000 in
theorem c_X1_fillGreedily {b : Nat} {p l r s lf nx : Nat → Int32} {m lo ln : Int32} {μ : Mu} (hL : Ob z st0 b (bLy κ b p l r (nI (mn μ)) m (mv μ 0 1) lo s ln lf nx)) (hW : LyW μ p l r) (ho : Ok μ) : CT zl κ yX1_fillGreedily cX1_fillGreedily 2 none (r0 2 44) z [.ref (ad κ b)] st0 (PV (fun u => (∃ s, Ob z u b (bLy κ b p l r (nI (mn μ)) m (mv μ 0 1) lo s (nI (lno (gx (bo μ) m (mn μ)) (mn μ))) lf nx) ∧ LyB (gx (bo μ) m (mn μ)) (mn μ) (lno (gx (bo μ) m (mn μ)) (mn μ)) s) ∧ Fr (fun q : Nat => b ≤ q ∧ q < b + 7) st0 u)) := by
  obtain ⟨P, hP⟩ : ∃ P : Option Value → St → Prop, P = (PV (fun u => (∃ s, Ob z u b (bLy κ b p l r (nI (mn μ)) m (mv μ 0 1) lo s (nI (lno (gx (bo μ) m (mn μ)) (mn μ))) lf nx) ∧ LyB (gx (bo μ) m (mn μ)) (mn μ) (lno (gx (bo μ) m (mn μ)) (mn μ)) s) ∧ Fr (fun q : Nat => b ≤ q ∧ q < b + 7) st0 u)) := ⟨_, rfl⟩
  rw [← hP]
  refine CT.of (by decide +kernel) (Nat.le_of_ble_eq_true rfl) (fun zp ze zs zm zar zbe zme zc C _ => ?_)
  have C : Cx zp zs zm zar zme zc κ cX1_fillGreedily 2 RX1 none := C
  refine ws_lv (lv2 := [some (.ref (ad κ b)), none]) rfl ?_
  have h24 := ho.1
  have ha := gx_adv (bo μ) m (mn μ)
  have hF : Fr (fun q : Nat => b ≤ q ∧ q < b + 7) st0 st0 := Fr.rf
  refine ws_aload_n 0 C dX1_fillGreedily_0 rfl ?_
  refine ws_iconst 1 C dX1_fillGreedily_1 (nI 0) (by decide) ?_
  refine ws_put 2 C dX1_fillGreedily_2 fX1_37 q1_8 hL rfl (Nat.le_of_ble_eq_true rfl) rfl rfl (fun st1 est1 => ?_)
  have hL : Ob z st1 b (bLy κ b p l r (nI (mn μ)) m (mv μ 0 1) lo s (nI 0) lf nx) := Ob.put' (j := 0) hL est1 rfl
  have hF := hF.put' est1 (show b ≤ (b) ∧ (b) < b + 7 from by omega)
  refine ws_iconst 5 C dX1_fillGreedily_5 (nI 0) (by decide) ?_
  refine ws_istore_n 6 C dX1_fillGreedily_6 rfl [some (.ref (ad κ b)), some (.int (nI 0))] rfl ?_
  have L7 : ∀ k : Nat, k ≤ mn μ → ∀ (i : Nat), ∀ (s2 : Nat → Int32), ∀ (hi : FillI (gx (bo μ) m (mn μ)) (mn μ) k i), ∀ (hs : ∀ q, q < i → s2 q = nI (stt (gx (bo μ) m (mn μ)) q)), ∀ (st2 : St), ∀ (hL : Ob z st2 b (bLy κ b p l r (nI (mn μ)) m (mv μ 0 1) lo s2 (nI i) lf nx)), ∀ (hF : Fr (fun q : Nat => b ≤ q ∧ q < b + 7) st0 st2), WS zp zl ze (r0 2 44) zs zm zar zbe zme zc κ z 0 0 (QM zbe zar zs κ z (r0 2 44) P) st2 7 [some (.ref (ad κ b)), some (.int (nI k))] [] := by
    refine dnw ?_
    intro k hk ih7 i s2 hi hs st2 hL hF
    have hik := hi.1
    refine ws_iload_n 7 C dX1_fillGreedily_7 rfl ?_
    refine ws_aload_n 8 C dX1_fillGreedily_8 rfl ?_
    refine ws_get 9 C dX1_fillGreedily_9 fX1_21 hL rfl rfl ?_
    refine ws_nicmp_ge 12 C 71 dX1_fillGreedily_12 (by decide) (by omega) (by omega) (fun c12 => ?_) (fun c12 => ?_)
    · skip
      have hk0 : k = mn μ := by omega
      have hbr := hi.end ha hk0
      have hlno := hbr.is ha
      refine ws_aload_n 71 C dX1_fillGreedily_71 rfl ?_
      refine ws_get 72 C dX1_fillGreedily_72 fX1_34 hL rfl rfl ?_
      refine ws_aload_n 75 C dX1_fillGreedily_75 rfl ?_
      refine ws_get 76 C dX1_fillGreedily_76 fX1_37 hL rfl rfl ?_
      refine ws_aload_n 79 C dX1_fillGreedily_79 rfl ?_
      refine ws_get 80 C dX1_fillGreedily_80 fX1_21 hL rfl rfl ?_
      refine ws_iast 83 C dX1_fillGreedily_83 hL 4 rfl (vp_in_nI (by omega) (by decide)) i (nI_clamp (by omega)) (nI (mn μ)) rfl (fun st3 est3 => ?_)
      have hL : Ob z st3 b (bLy κ b p l r (nI (mn μ)) m (mv μ 0 1) lo (upd s2 i (nI (mn μ))) (nI i) lf nx) := Ob.put' (j := 4) hL est3 rfl
      have hF := hF.put' est3 (show b ≤ (b + 4) ∧ (b + 4) < b + 7 from by omega)
      exact ws_vret 84 C dX1_fillGreedily_84 rfl (Nat.le_refl _) (Nat.le_refl _) (by rw [hP]; exact ⟨rfl, ⟨(by rw [← hlno]; exact ⟨_, hL, LyB.of ha hbr hs⟩), hF⟩⟩)
    · skip
      have J45 : ∀ (he : stt (gx (bo μ) m (mn μ)) i = k), WS zp zl ze (r0 2 44) zs zm zar zbe zme zc κ z 0 0 (QM zbe zar zs κ z (r0 2 44) P) st2 45 [some (.ref (ad κ b)), some (.int (nI k))] [] := by
        intro he
        refine ws_aload_n 45 C dX1_fillGreedily_45 rfl ?_
        refine ws_get 46 C dX1_fillGreedily_46 fX1_34 hL rfl rfl ?_
        refine ws_aload_n 49 C dX1_fillGreedily_49 rfl ?_
        refine ws_get 50 C dX1_fillGreedily_50 fX1_37 hL rfl rfl ?_
        refine ws_iload_n 53 C dX1_fillGreedily_53 rfl ?_
        refine ws_iast 54 C dX1_fillGreedily_54 hL 4 rfl (vp_in_nI (by omega) (by decide)) i (nI_clamp (by omega)) (nI k) rfl (fun st4 est4 => ?_)
        have hL : Ob z st4 b (bLy κ b p l r (nI (mn μ)) m (mv μ 0 1) lo (upd s2 i (nI k)) (nI i) lf nx) := Ob.put' (j := 4) hL est4 rfl
        have hF := hF.put' est4 (show b ≤ (b + 4) ∧ (b + 4) < b + 7 from by omega)
        refine ws_aload_n 55 C dX1_fillGreedily_55 rfl ?_
        refine ws_dup 56 C dX1_fillGreedily_56 rfl ?_
        refine ws_get 57 C dX1_fillGreedily_57 fX1_37 hL rfl rfl ?_
        refine ws_iconst 60 C dX1_fillGreedily_60 (nI 1) (by decide) ?_
        refine ws_iadd 61 C dX1_fillGreedily_61 (nI (i + 1)) (nI_add _ _) ?_
        refine ws_put 62 C dX1_fillGreedily_62 fX1_37 q1_8 hL rfl (Nat.le_of_ble_eq_true rfl) rfl rfl (fun st5 est5 => ?_)
        have hL : Ob z st5 b (bLy κ b p l r (nI (mn μ)) m (mv μ 0 1) lo (upd s2 i (nI k)) (nI (i + 1)) lf nx) := Ob.put' (j := 0) hL est5 rfl
        have hF := hF.put' est5 (show b ≤ (b) ∧ (b) < b + 7 from by omega)
        refine ws_iinc 65 C dX1_fillGreedily_65 rfl (nI (k + 1)) (nI_1 _) rfl [some (.ref (ad κ b)), some (.int (nI (k + 1)))] rfl ?_
        refine ws_goto 68 C 7 dX1_fillGreedily_68 (by decide) ?_
        exact ih7 c12 (i + 1) (upd s2 i (nI k)) (hi.new ha c12 he) (upd_lt hs (congrArg nI he.symm)) st5 hL hF
      refine ws_aload_n 15 C dX1_fillGreedily_15 rfl ?_
      refine ws_get 16 C dX1_fillGreedily_16 fX1_37 hL rfl rfl ?_
      refine ws_nif_eq 19 C 45 dX1_fillGreedily_19 (by decide) (by omega) (fun c19 => ?_) (fun c19 => ?_)
      · skip
        have he : stt (gx (bo μ) m (mn μ)) i = k := by rcases hi.2 with ⟨a, b⟩ | ⟨a, b⟩ <;> (subst c19; first | exact a.symm | omega)
        exact J45 he
      · skip
        obtain ⟨h0, h1, h2, h3⟩ : 0 < i ∧ stt (gx (bo μ) m (mn μ)) (i - 1) < k ∧ k ≤ (gx (bo μ) m (mn μ)) (stt (gx (bo μ) m (mn μ)) (i - 1)) ∧ ∀ q, q < i → stt (gx (bo μ) m (mn μ)) q < k := by rcases hi.2 with ⟨a, b⟩ | h; exact absurd b c19; exact h
        refine ws_aload_n 22 C dX1_fillGreedily_22 rfl ?_
        refine ws_aload_n 23 C dX1_fillGreedily_23 rfl ?_
        refine ws_get 24 C dX1_fillGreedily_24 fX1_34 hL rfl rfl ?_
        refine ws_aload_n 27 C dX1_fillGreedily_27 rfl ?_
        refine ws_get 28 C dX1_fillGreedily_28 fX1_37 hL rfl rfl ?_
        refine ws_iconst 31 C dX1_fillGreedily_31 (nI 1) (by decide) ?_
        refine ws_isub 32 C dX1_fillGreedily_32 (nI (i - 1)) (pk_sub (by omega)) ?_
        refine ws_iald 33 C dX1_fillGreedily_33 hL 4 rfl (vp_in_nI (by omega) (by decide)) (nI (stt (gx (bo μ) m (mn μ)) (i - 1))) ((congrArg s2 (nI_clamp (by omega))).trans (hs _ (by omega))) ?_
        refine ws_iload_n 34 C dX1_fillGreedily_34 rfl ?_
        refine ws_callV0 35 C dX1_fillGreedily_35 vX1_66 (c_X1_bodyOf hL hW ho (Nat.le_of_lt h1) c12) rfl hL rfl rfl ⟨by decide, by decide⟩ ⟨Nat.zero_le _, Nat.zero_le _⟩ rfl rfl rfl (kR ?_)
        refine ws_aload_n 38 C dX1_fillGreedily_38 rfl ?_
        refine ws_get 39 C dX1_fillGreedily_39 fX1_25 hL rfl rfl ?_
        refine ws_icmp_le 42 C 65 dX1_fillGreedily_42 (by decide)  (fun c42 => ?_) (fun c42 => ?_)
        · skip
          refine ws_iinc 65 C dX1_fillGreedily_65 rfl (nI (k + 1)) (nI_1 _) rfl [some (.ref (ad κ b)), some (.int (nI (k + 1)))] rfl ?_
          refine ws_goto 68 C 7 dX1_fillGreedily_68 (by decide) ?_
          exact ih7 c12 i s2 (hi.go h0 (fill_go c12 h0 h1 h2 c42)) hs st2 hL hF
        · skip
          have he := fill_new c12 h0 h1 h2 c42
          exact J45 he
  exact L7 0 (Nat.zero_le _) 0 s (⟨Nat.le_refl _, Or.inl ⟨rfl, rfl⟩⟩) (fun q hq => (by omega)) st1 hL hF

set_option maxRecDepth 100000 in
set_option maxHeartbeats 4000000 in
theorem c_X1_findFirstLine {b : Nat} {p l r s lf nx : Nat → Int32} {m lo ln : Int32} {μ : Mu} (hL : Ob z st0 b (bLy κ b p l r (nI (mn μ)) m (mv μ 0 1) lo s ln lf nx)) (hW : LyW μ p l r) (ho : Ok μ) {k : Nat} (hk : k < mn μ) (T : Nat → Int32) (hT : ∀ q, k < q → q ≤ mn μ → lf q = T q) : CT zl κ yX1_findFirstLine cX1_findFirstLine 4 none (r0 3 67) z [.ref (ad κ b), .int (nI k)] st0 (PV (fun u => (∃ lf2 nx2, Ob z u b (bLy κ b p l r (nI (mn μ)) m (mv μ 0 1) lo s ln lf2 nx2) ∧ lf2 k = (inn (bo μ) m (mn μ) T k (gx (bo μ) m (mn μ) k - k - 1)).1 ∧ nx2 k = nI (inn (bo μ) m (mn μ) T k (gx (bo μ) m (mn μ) k - k - 1)).2 ∧ ∀ q, q ≠ k → lf2 q = lf q ∧ nx2 q = nx q) ∧ Fr (fun q : Nat => b ≤ q ∧ q < b + 7) st0 u)) := by
  obtain ⟨P, hP⟩ : ∃ P : Option Value → St → Prop, P = (PV (fun u => (∃ lf2 nx2, Ob z u b (bLy κ b p l r (nI (mn μ)) m (mv μ 0 1) lo s ln lf2 nx2) ∧ lf2 k = (inn (bo μ) m (mn μ) T k (gx (bo μ) m (mn μ) k - k - 1)).1 ∧ nx2 k = nI (inn (bo μ) m (mn μ) T k (gx (bo μ) m (mn μ) k - k - 1)).2 ∧ ∀ q, q ≠ k → lf2 q = lf q ∧ nx2 q = nx q) ∧ Fr (fun q : Nat => b ≤ q ∧ q < b + 7) st0 u)) := ⟨_, rfl⟩
  rw [← hP]
  refine CT.of (by decide +kernel) (Nat.le_of_ble_eq_true rfl) (fun zp ze zs zm zar zbe zme zc C _ => ?_)
  have C : Cx zp zs zm zar zme zc κ cX1_findFirstLine 4 RX1 none := C
  refine ws_lv (lv2 := [some (.ref (ad κ b)), some (.int (nI k)), none, none]) rfl ?_
  have h24 := ho.1
  have hF : Fr (fun q : Nat => b ≤ q ∧ q < b + 7) st0 st0 := Fr.rf
  refine ws_aload_n 0 C dX1_findFirstLine_0 rfl ?_
  refine ws_get 1 C dX1_findFirstLine_1 fX1_40 hL rfl rfl ?_
  refine ws_iload_n 4 C dX1_findFirstLine_4 rfl ?_
  refine ws_aload_n 5 C dX1_findFirstLine_5 rfl ?_
  refine ws_iload_n 6 C dX1_findFirstLine_6 rfl ?_
  refine ws_iload_n 7 C dX1_findFirstLine_7 rfl ?_
  refine ws_callV0 8 C dX1_findFirstLine_8 vX1_77 (c_X1_badnessOf hL hW ho (Nat.le_refl k) hk) rfl hL rfl rfl ⟨by decide, by decide⟩ ⟨Nat.zero_le _, Nat.zero_le _⟩ rfl rfl rfl (kR ?_)
  refine ws_aload_n 11 C dX1_findFirstLine_11 rfl ?_
  refine ws_get 12 C dX1_findFirstLine_12 fX1_40 hL rfl rfl ?_
  refine ws_iload_n 15 C dX1_findFirstLine_15 rfl ?_
  refine ws_iconst 16 C dX1_findFirstLine_16 (nI 1) (by decide) ?_
  refine ws_iadd 17 C dX1_findFirstLine_17 (nI (k + 1)) (nI_add _ _) ?_
  refine ws_iald 18 C dX1_findFirstLine_18 hL 5 rfl (vp_in_nI (by omega) (by decide)) (T (k + 1)) ((congrArg lf (nI_clamp (by omega))).trans (hT _ (by omega) (by omega))) ?_
  refine ws_iadd 19 C dX1_findFirstLine_19 ((bad (bo μ) m (mn μ) k k) + (T (k + 1))) rfl ?_
  refine ws_iast 20 C dX1_findFirstLine_20 hL 5 rfl (vp_in_nI (by omega) (by decide)) k (nI_clamp (by omega)) ((bad (bo μ) m (mn μ) k k) + (T (k + 1))) rfl (fun st1 est1 => ?_)
  have hL : Ob z st1 b (bLy κ b p l r (nI (mn μ)) m (mv μ 0 1) lo s ln (upd lf k ((bad (bo μ) m (mn μ) k k) + (T (k + 1)))) nx) := Ob.put' (j := 5) hL est1 rfl
  have hF := hF.put' est1 (show b ≤ (b + 5) ∧ (b + 5) < b + 7 from by omega)
  refine ws_aload_n 21 C dX1_findFirstLine_21 rfl ?_
  refine ws_get 22 C dX1_findFirstLine_22 fX1_43 hL rfl rfl ?_
  refine ws_iload_n 25 C dX1_findFirstLine_25 rfl ?_
  refine ws_iload_n 26 C dX1_findFirstLine_26 rfl ?_
  refine ws_iconst 27 C dX1_findFirstLine_27 (nI 1) (by decide) ?_
  refine ws_iadd 28 C dX1_findFirstLine_28 (nI (k + 1)) (nI_add _ _) ?_
  refine ws_iast 29 C dX1_findFirstLine_29 hL 6 rfl (vp_in_nI (by omega) (by decide)) k (nI_clamp (by omega)) (nI (k + 1)) rfl (fun st2 est2 => ?_)
  have hL : Ob z st2 b (bLy κ b p l r (nI (mn μ)) m (mv μ 0 1) lo s ln (upd lf k ((bad (bo μ) m (mn μ) k k) + (T (k + 1)))) (upd nx k (nI (k + 1)))) := Ob.put' (j := 6) hL est2 rfl
  have hF := hF.put' est2 (show b ≤ (b + 6) ∧ (b + 6) < b + 7 from by omega)
  refine ws_iload_n 30 C dX1_findFirstLine_30 rfl ?_
  refine ws_iconst 31 C dX1_findFirstLine_31 (nI 1) (by decide) ?_
  refine ws_iadd 32 C dX1_findFirstLine_32 (nI (k + 1)) (nI_add _ _) ?_
  refine ws_istore_n 33 C dX1_findFirstLine_33 rfl [some (.ref (ad κ b)), some (.int (nI k)), some (.int (nI (k + 1))), none] rfl ?_
  have L34 : ∀ t : Nat, t ≤ mn μ - 1 - k → ∀ (lf2 : Nat → Int32), ∀ (nx2 : Nat → Int32), ∀ (h1 : lf2 k = (inn (bo μ) m (mn μ) T k t).1), ∀ (h2 : nx2 k = nI (inn (bo μ) m (mn μ) T k t).2), ∀ (h3 : ∀ q, q ≠ k → lf2 q = lf q ∧ nx2 q = nx q), ∀ (h4 : ∀ j, k < j → j ≤ k + t → bo μ k j ≤ m), ∀ (st3 : St), ∀ (hL : Ob z st3 b (bLy κ b p l r (nI (mn μ)) m (mv μ 0 1) lo s ln lf2 nx2)), ∀ (hF : Fr (fun q : Nat => b ≤ q ∧ q < b + 7) st0 st3), WS zp zl ze (r0 3 67) zs zm zar zbe zme zc κ z 0 0 (QM zbe zar zs κ z (r0 3 67) P) st3 34 [some (.ref (ad κ b)), some (.int (nI k)), some (.int (nI (k + t + 1))), none] [] := by
    refine dnw ?_
    intro t ht ih34 lf2 nx2 h1 h2 h3 h4 st3 hL hF
    refine ws_iload_n 34 C dX1_findFirstLine_34 rfl ?_
    refine ws_aload_n 35 C dX1_findFirstLine_35 rfl ?_
    refine ws_get 36 C dX1_findFirstLine_36 fX1_21 hL rfl rfl ?_
    refine ws_nicmp_ge 39 C 103 dX1_findFirstLine_39 (by decide) (by omega) (by omega) (fun c39 => ?_) (fun c39 => ?_)
    · skip
      have hg : gx (bo μ) m (mn μ) k = k + t + 1 := gx_is hk (by omega) (by omega) (fun j h5 h6 => h4 j h5 (by omega)) (Or.inl (by omega))
      exact ws_vret 103 C dX1_findFirstLine_103 rfl (Nat.le_refl _) (Nat.le_refl _) (by rw [hP]; exact ⟨rfl, ⟨⟨_, _, hL, (by rw [hg, show k + t + 1 - k - 1 = t from by omega]; exact h1), (by rw [hg, show k + t + 1 - k - 1 = t from by omega]; exact h2), h3⟩, hF⟩⟩)
    · skip
      refine ws_aload_n 42 C dX1_findFirstLine_42 rfl ?_
      refine ws_iload_n 43 C dX1_findFirstLine_43 rfl ?_
      refine ws_iload_n 44 C dX1_findFirstLine_44 rfl ?_
      refine ws_callV0 45 C dX1_findFirstLine_45 vX1_66 (c_X1_bodyOf hL hW ho (show k ≤ k + t + 1 from by omega) c39) rfl hL rfl rfl ⟨by decide, by decide⟩ ⟨Nat.zero_le _, Nat.zero_le _⟩ rfl rfl rfl (kR ?_)
      refine ws_aload_n 48 C dX1_findFirstLine_48 rfl ?_
      refine ws_get 49 C dX1_findFirstLine_49 fX1_25 hL rfl rfl ?_
      refine ws_icmp_gt 52 C 103 dX1_findFirstLine_52 (by decide)  (fun c52 => ?_) (fun c52 => ?_)
      · skip
        have hg : gx (bo μ) m (mn μ) k = k + t + 1 := gx_is hk (by omega) (by omega) (fun j h5 h6 => h4 j h5 (by omega)) (Or.inr (Int32.not_le.mpr c52))
        exact ws_vret 103 C dX1_findFirstLine_103 rfl (Nat.le_refl _) (Nat.le_refl _) (by rw [hP]; exact ⟨rfl, ⟨⟨_, _, hL, (by rw [hg, show k + t + 1 - k - 1 = t from by omega]; exact h1), (by rw [hg, show k + t + 1 - k - 1 = t from by omega]; exact h2), h3⟩, hF⟩⟩)
      · skip
        have h4b : ∀ j, k < j → j ≤ k + (t + 1) → bo μ k j ≤ m := fun j h5 h6 => (by rcases Nat.lt_or_ge j (k + t + 1) with g | g; exact h4 j h5 (by omega); rw [show j = k + t + 1 from by omega]; exact Int32.not_lt.mp c52)
        refine ws_aload_n 55 C dX1_findFirstLine_55 rfl ?_
        refine ws_iload_n 56 C dX1_findFirstLine_56 rfl ?_
        refine ws_iload_n 57 C dX1_findFirstLine_57 rfl ?_
        refine ws_callV0 58 C dX1_findFirstLine_58 vX1_77 (c_X1_badnessOf hL hW ho (show k ≤ k + t + 1 from by omega) c39) rfl hL rfl rfl ⟨by decide, by decide⟩ ⟨Nat.zero_le _, Nat.zero_le _⟩ rfl rfl rfl (kR ?_)
        refine ws_aload_n 61 C dX1_findFirstLine_61 rfl ?_
        refine ws_get 62 C dX1_findFirstLine_62 fX1_40 hL rfl rfl ?_
        refine ws_iload_n 65 C dX1_findFirstLine_65 rfl ?_
        refine ws_iconst 66 C dX1_findFirstLine_66 (nI 1) (by decide) ?_
        refine ws_iadd 67 C dX1_findFirstLine_67 (nI (k + t + 1 + 1)) (nI_add _ _) ?_
        refine ws_iald 68 C dX1_findFirstLine_68 hL 5 rfl (vp_in_nI (by omega) (by decide)) (T (k + t + 2)) ((congrArg lf2 (nI_clamp (by omega))).trans ((h3 _ (by omega)).1.trans (hT _ (by omega) (by omega)))) ?_
        refine ws_iadd 69 C dX1_findFirstLine_69 ((bad (bo μ) m (mn μ) k (k + t + 1)) + (T (k + t + 2))) rfl ?_
        refine ws_istore_n 70 C dX1_findFirstLine_70 rfl [some (.ref (ad κ b)), some (.int (nI k)), some (.int (nI (k + t + 1))), some (.int ((bad (bo μ) m (mn μ) k (k + t + 1)) + (T (k + t + 2))))] rfl ?_
        refine ws_iload_n 71 C dX1_findFirstLine_71 rfl ?_
        refine ws_aload_n 72 C dX1_findFirstLine_72 rfl ?_
        refine ws_get 73 C dX1_findFirstLine_73 fX1_40 hL rfl rfl ?_
        refine ws_iload_n 76 C dX1_findFirstLine_76 rfl ?_
        refine ws_iald 77 C dX1_findFirstLine_77 hL 5 rfl (vp_in_nI (by omega) (by decide)) ((inn (bo μ) m (mn μ) T k t).1) ((congrArg lf2 (nI_clamp (by omega))).trans (h1)) ?_
        refine ws_icmp_gt 78 C 97 dX1_findFirstLine_78 (by decide)  (fun c78 => ?_) (fun c78 => ?_)
        · skip
          refine ws_iinc 97 C dX1_findFirstLine_97 rfl (nI (k + t + 1 + 1)) (nI_1 _) rfl [some (.ref (ad κ b)), some (.int (nI k)), some (.int (nI (k + t + 1 + 1))), some (.int ((bad (bo μ) m (mn μ) k (k + t + 1)) + (T (k + t + 2))))] rfl ?_
          refine ws_goto 100 C 34 dX1_findFirstLine_100 (by decide) ?_
          refine ws_wk (lv2 := [some (.ref (ad κ b)), some (.int (nI k)), some (.int (nI (k + t + 1 + 1))), none]) ⟨rfl, rfl, rfl, trivial⟩ ?_
          exact ih34 (by omega) lf2 nx2 (by rw [inn_no (Int32.not_le.mpr c78)]; exact h1) (by rw [inn_no (Int32.not_le.mpr c78)]; exact h2) h3 h4b st3 hL hF
        · skip
          have hin := inn_yes (Int32.not_lt.mp c78)
          refine ws_aload_n 81 C dX1_findFirstLine_81 rfl ?_
          refine ws_get 82 C dX1_findFirstLine_82 fX1_40 hL rfl rfl ?_
          refine ws_iload_n 85 C dX1_findFirstLine_85 rfl ?_
          refine ws_iload_n 86 C dX1_findFirstLine_86 rfl ?_
          refine ws_iast 87 C dX1_findFirstLine_87 hL 5 rfl (vp_in_nI (by omega) (by decide)) k (nI_clamp (by omega)) ((bad (bo μ) m (mn μ) k (k + t + 1)) + (T (k + t + 2))) rfl (fun st4 est4 => ?_)
          have hL : Ob z st4 b (bLy κ b p l r (nI (mn μ)) m (mv μ 0 1) lo s ln (upd lf2 k ((bad (bo μ) m (mn μ) k (k + t + 1)) + (T (k + t + 2)))) nx2) := Ob.put' (j := 5) hL est4 rfl
          have hF := hF.put' est4 (show b ≤ (b + 5) ∧ (b + 5) < b + 7 from by omega)
          refine ws_aload_n 88 C dX1_findFirstLine_88 rfl ?_
          refine ws_get 89 C dX1_findFirstLine_89 fX1_43 hL rfl rfl ?_
          refine ws_iload_n 92 C dX1_findFirstLine_92 rfl ?_
          refine ws_iload_n 93 C dX1_findFirstLine_93 rfl ?_
          refine ws_iconst 94 C dX1_findFirstLine_94 (nI 1) (by decide) ?_
          refine ws_iadd 95 C dX1_findFirstLine_95 (nI (k + t + 1 + 1)) (nI_add _ _) ?_
          refine ws_iast 96 C dX1_findFirstLine_96 hL 6 rfl (vp_in_nI (by omega) (by decide)) k (nI_clamp (by omega)) (nI (k + t + 1 + 1)) rfl (fun st5 est5 => ?_)
          have hL : Ob z st5 b (bLy κ b p l r (nI (mn μ)) m (mv μ 0 1) lo s ln (upd lf2 k ((bad (bo μ) m (mn μ) k (k + t + 1)) + (T (k + t + 2)))) (upd nx2 k (nI (k + t + 1 + 1)))) := Ob.put' (j := 6) hL est5 rfl
          have hF := hF.put' est5 (show b ≤ (b + 6) ∧ (b + 6) < b + 7 from by omega)
          refine ws_iinc 97 C dX1_findFirstLine_97 rfl (nI (k + t + 1 + 1)) (nI_1 _) rfl [some (.ref (ad κ b)), some (.int (nI k)), some (.int (nI (k + t + 1 + 1))), some (.int ((bad (bo μ) m (mn μ) k (k + t + 1)) + (T (k + t + 2))))] rfl ?_
          refine ws_goto 100 C 34 dX1_findFirstLine_100 (by decide) ?_
          refine ws_wk (lv2 := [some (.ref (ad κ b)), some (.int (nI k)), some (.int (nI (k + t + 1 + 1))), none]) ⟨rfl, rfl, rfl, trivial⟩ ?_
          exact ih34 (by omega) (upd lf2 k ((bad (bo μ) m (mn μ) k (k + t + 1)) + (T (k + t + 2)))) (upd nx2 k (nI (k + t + 1 + 1))) (by rw [hin]; exact pk_us) (by rw [hin]; exact pk_us) (fun q hq => ⟨(pk_un hq).trans (h3 q hq).1, (pk_un hq).trans (h3 q hq).2⟩) h4b st5 hL hF
  exact L34 0 (Nat.zero_le _) (upd lf k ((bad (bo μ) m (mn μ) k k) + (T (k + 1)))) (upd nx k (nI (k + 1))) pk_us pk_us (fun q hq => ⟨pk_un hq, pk_un hq⟩) (fun j h5 h6 => (by omega)) st2 hL hF

set_option maxRecDepth 100000 in
set_option maxHeartbeats 4000000 in
theorem c_X1_leastBadness {b : Nat} {p l r s lf nx : Nat → Int32} {m lo ln : Int32} {μ : Mu} (hL : Ob z st0 b (bLy κ b p l r (nI (mn μ)) m (mv μ 0 1) lo s ln lf nx)) (hW : LyW μ p l r) (ho : Ok μ) : CT zl κ yX1_leastBadness cX1_leastBadness 2 (some .int) (r0 4 90) z [.ref (ad κ b)] st0 (PI (fun rr u => (rr = lfm (bo μ) m (mn μ) 0 ∧ ∃ lf nx, Ob z u b (bLy κ b p l r (nI (mn μ)) m (mv μ 0 1) lo s ln lf nx) ∧ ∀ k, k < mn μ → nx k = nI (nb (bo μ) m (mn μ) k)) ∧ Fr (fun q : Nat => b ≤ q ∧ q < b + 7) st0 u)) := by
  obtain ⟨P, hP⟩ : ∃ P : Option Value → St → Prop, P = (PI (fun rr u => (rr = lfm (bo μ) m (mn μ) 0 ∧ ∃ lf nx, Ob z u b (bLy κ b p l r (nI (mn μ)) m (mv μ 0 1) lo s ln lf nx) ∧ ∀ k, k < mn μ → nx k = nI (nb (bo μ) m (mn μ) k)) ∧ Fr (fun q : Nat => b ≤ q ∧ q < b + 7) st0 u)) := ⟨_, rfl⟩
  rw [← hP]
  refine CT.of (by decide +kernel) (Nat.le_of_ble_eq_true rfl) (fun zp ze zs zm zar zbe zme zc C _ => ?_)
  have C : Cx zp zs zm zar zme zc κ cX1_leastBadness 2 RX1 (some .int) := C
  refine ws_lv (lv2 := [some (.ref (ad κ b)), none]) rfl ?_
  have h24 := ho.1
  have hF : Fr (fun q : Nat => b ≤ q ∧ q < b + 7) st0 st0 := Fr.rf
  refine ws_aload_n 0 C dX1_leastBadness_0 rfl ?_
  refine ws_get 1 C dX1_leastBadness_1 fX1_40 hL rfl rfl ?_
  refine ws_aload_n 4 C dX1_leastBadness_4 rfl ?_
  refine ws_get 5 C dX1_leastBadness_5 fX1_21 hL rfl rfl ?_
  refine ws_iconst 8 C dX1_leastBadness_8 (nI 0) (by decide) ?_
  refine ws_iast 9 C dX1_leastBadness_9 hL 5 rfl (vp_in_nI (by omega) (by decide)) (mn μ) (nI_clamp (by omega)) (nI 0) rfl (fun st1 est1 => ?_)
  have hL : Ob z st1 b (bLy κ b p l r (nI (mn μ)) m (mv μ 0 1) lo s ln (upd lf (mn μ) (nI 0)) nx) := Ob.put' (j := 5) hL est1 rfl
  have hF := hF.put' est1 (show b ≤ (b + 5) ∧ (b + 5) < b + 7 from by omega)
  refine ws_aload_n 10 C dX1_leastBadness_10 rfl ?_
  refine ws_get 11 C dX1_leastBadness_11 fX1_21 hL rfl rfl ?_
  refine ws_iconst 14 C dX1_leastBadness_14 (nI 1) (by decide) ?_
  refine ws_isub 15 C dX1_leastBadness_15 (nI (mn μ - 0) - nI 1) rfl ?_
  refine ws_istore_n 16 C dX1_leastBadness_16 rfl [some (.ref (ad κ b)), some (.int (nI (mn μ - 0) - nI 1))] rfl ?_
  have L17 : ∀ d : Nat, d ≤ mn μ → ∀ (x : Int32), ∀ (lf2 : Nat → Int32), ∀ (nx2 : Nat → Int32), ∀ (hx : x = nI (mn μ - d) - nI 1), ∀ (h1 : ∀ q, mn μ - d ≤ q → q ≤ mn μ → lf2 q = (bv (bo μ) m (mn μ) d).1 q), ∀ (h2 : ∀ q, mn μ - d ≤ q → q < mn μ → nx2 q = nI ((bv (bo μ) m (mn μ) d).2 q)), ∀ (st2 : St), ∀ (hL : Ob z st2 b (bLy κ b p l r (nI (mn μ)) m (mv μ 0 1) lo s ln lf2 nx2)), ∀ (hF : Fr (fun q : Nat => b ≤ q ∧ q < b + 7) st0 st2), WS zp zl ze (r0 4 90) zs zm zar zbe zme zc κ z 0 0 (QM zbe zar zs κ z (r0 4 90) P) st2 17 [some (.ref (ad κ b)), some (.int (x))] [] := by
    refine dnw ?_
    intro d hd ih17 x lf2 nx2 hx h1 h2 st2 hL hF
    refine ws_iload_n 17 C dX1_leastBadness_17 rfl ?_
    refine ws_if_lt 18 C 32 dX1_leastBadness_18 (by decide)  (fun c18 => ?_) (fun c18 => ?_)
    · skip
      have hd0 : d = mn μ := down_lt hx h24 c18 hd
      refine ws_aload_n 32 C dX1_leastBadness_32 rfl ?_
      refine ws_get 33 C dX1_leastBadness_33 fX1_40 hL rfl rfl ?_
      refine ws_iconst 36 C dX1_leastBadness_36 (nI 0) (by decide) ?_
      refine ws_iald 37 C dX1_leastBadness_37 hL 5 rfl (vp_in_nI (by omega) (by decide)) (lfm (bo μ) m (mn μ) 0) ((congrArg lf2 (nI_clamp (by omega))).trans ((h1 0 (by omega) (Nat.zero_le _)).trans (by rw [hd0]; rfl))) ?_
      exact ws_iret 38 C  dX1_leastBadness_38 rfl (Nat.le_refl _) (Nat.le_refl _) (by rw [hP]; exact ⟨lfm (bo μ) m (mn μ) 0, rfl, ⟨⟨rfl, _, _, hL, fun q hq => (h2 q (by omega) hq).trans (by rw [hd0]; rfl)⟩, hF⟩⟩)
    · skip
      have hdn := down_ge hx h24 c18
      refine ws_wk (lv2 := [some (.ref (ad κ b)), some (.int (nI (mn μ - 1 - d)))]) ⟨rfl, (congrArg Value.int hdn.2), trivial⟩ ?_
      refine ws_aload_n 21 C dX1_leastBadness_21 rfl ?_
      refine ws_iload_n 22 C dX1_leastBadness_22 rfl ?_
      have hdl := hdn.1
      refine ws_callV0 23 C dX1_leastBadness_23 vX1_73 (c_X1_findFirstLine hL hW ho (k := mn μ - 1 - d) (by omega) (bv (bo μ) m (mn μ) d).1 (fun q hq hq2 => h1 q (by omega) hq2)) rfl hL rfl rfl ⟨by decide, by decide⟩ ⟨Nat.zero_le _, Nat.zero_le _⟩ rfl rfl rfl (kV (fun u23 h23 => ?_))
      obtain ⟨⟨lf3, nx3, hL, g1, g2, g3⟩, hfr⟩ := h23
      have hF := hF.then hfr (fun q (hq : b ≤ q ∧ q < b + 7) => (show b ≤ q ∧ q < b + 7 from by omega))
      refine ws_iinc 26 C dX1_leastBadness_26 rfl (nI (mn μ - 1 - d) - nI 1) (dec1 _) rfl [some (.ref (ad κ b)), some (.int (nI (mn μ - 1 - d) - nI 1))] rfl ?_
      refine ws_goto 29 C 17 dX1_leastBadness_29 (by decide) ?_
      exact ih17 hdn.1 (nI (mn μ - 1 - d) - nI 1) lf3 nx3 (by rw [show mn μ - 1 - d = mn μ - (d + 1) from by omega]) (best_1 hdn.1 h1 g1 (fun q hq => (g3 q hq).1)) (best_2 hdn.1 h2 g2 (fun q hq => (g3 q hq).2)) u23 hL hF
  exact L17 0 (Nat.zero_le _) (nI (mn μ - 0) - nI 1) (upd lf (mn μ) (nI 0)) nx rfl (fun q h1 h2 => (by rw [show q = mn μ from by omega]; exact pk_us)) (fun q h1 h2 => (by omega)) st1 hL hF

set_option maxRecDepth 100000 in
set_option maxHeartbeats 4000000 in
theorem c_X1_breakBest {b : Nat} {p l r s lf nx : Nat → Int32} {m lo ln : Int32} {μ : Mu} (hL : Ob z st0 b (bLy κ b p l r (nI (mn μ)) m (mv μ 0 1) lo s ln lf nx)) (hW : LyW μ p l r) (ho : Ok μ) : CT zl κ yX1_breakBest cX1_breakBest 3 none (r0 5 111) z [.ref (ad κ b)] st0 (PV (fun u => (∃ s lf nx, Ob z u b (bLy κ b p l r (nI (mn μ)) m (mv μ 0 1) lo s (nI (lno (nb (bo μ) m (mn μ)) (mn μ))) lf nx) ∧ LyB (nb (bo μ) m (mn μ)) (mn μ) (lno (nb (bo μ) m (mn μ)) (mn μ)) s) ∧ Fr (fun q : Nat => b ≤ q ∧ q < b + 7) st0 u)) := by
  obtain ⟨P, hP⟩ : ∃ P : Option Value → St → Prop, P = (PV (fun u => (∃ s lf nx, Ob z u b (bLy κ b p l r (nI (mn μ)) m (mv μ 0 1) lo s (nI (lno (nb (bo μ) m (mn μ)) (mn μ))) lf nx) ∧ LyB (nb (bo μ) m (mn μ)) (mn μ) (lno (nb (bo μ) m (mn μ)) (mn μ)) s) ∧ Fr (fun q : Nat => b ≤ q ∧ q < b + 7) st0 u)) := ⟨_, rfl⟩
  rw [← hP]
  refine CT.of (by decide +kernel) (Nat.le_of_ble_eq_true rfl) (fun zp ze zs zm zar zbe zme zc C _ => ?_)
  have C : Cx zp zs zm zar zme zc κ cX1_breakBest 3 RX1 none := C
  refine ws_lv (lv2 := [some (.ref (ad κ b)), none, none]) rfl ?_
  have h24 := ho.1
  have ha := nb_adv (bo μ) m (mn μ)
  have hF : Fr (fun q : Nat => b ≤ q ∧ q < b + 7) st0 st0 := Fr.rf
  refine ws_aload_n 0 C dX1_breakBest_0 rfl ?_
  refine ws_callV0 1 C dX1_breakBest_1 vX1_69 (c_X1_leastBadness hL hW ho) rfl hL rfl rfl ⟨by decide, by decide⟩ ⟨Nat.zero_le _, Nat.zero_le _⟩ rfl rfl rfl (kI' (fun r1 u1 h1 => ?_))
  obtain ⟨⟨hr, lf3, nx3, hL, hnx⟩, hfr⟩ := h1
  have hF := hF.then hfr (fun q (hq : b ≤ q ∧ q < b + 7) => (show b ≤ q ∧ q < b + 7 from by omega))
  refine ws_pop 4 C dX1_breakBest_4 rfl ?_
  refine ws_aload_n 5 C dX1_breakBest_5 rfl ?_
  refine ws_iconst 6 C dX1_breakBest_6 (nI 0) (by decide) ?_
  refine ws_put 7 C dX1_breakBest_7 fX1_37 q1_8 hL rfl (Nat.le_of_ble_eq_true rfl) rfl rfl (fun st1 est1 => ?_)
  have hL : Ob z st1 b (bLy κ b p l r (nI (mn μ)) m (mv μ 0 1) lo s (nI 0) lf3 nx3) := Ob.put' (j := 0) hL est1 rfl
  have hF := hF.put' est1 (show b ≤ (b) ∧ (b) < b + 7 from by omega)
  refine ws_iconst 10 C dX1_breakBest_10 (nI 0) (by decide) ?_
  refine ws_istore_n 11 C dX1_breakBest_11 rfl [some (.ref (ad κ b)), some (.int (nI 0)), none] rfl ?_
  refine ws_iconst 12 C dX1_breakBest_12 (nI 0) (by decide) ?_
  refine ws_istore_n 13 C dX1_breakBest_13 rfl [some (.ref (ad κ b)), some (.int (nI 0)), some (.int (nI 0))] rfl ?_
  have L14 : ∀ k : Nat, k ≤ mn μ → ∀ (i : Nat), ∀ (s2 : Nat → Int32), ∀ (h0 : i ≤ k), ∀ (h1 : k ≤ stt (nb (bo μ) m (mn μ)) i ∧ stt (nb (bo μ) m (mn μ)) i ≤ mn μ), ∀ (h2 : ∀ q, q < i → stt (nb (bo μ) m (mn μ)) q < k), ∀ (hs : ∀ q, q < i → s2 q = nI (stt (nb (bo μ) m (mn μ)) q)), ∀ (st2 : St), ∀ (hL : Ob z st2 b (bLy κ b p l r (nI (mn μ)) m (mv μ 0 1) lo s2 (nI i) lf3 nx3)), ∀ (hF : Fr (fun q : Nat => b ≤ q ∧ q < b + 7) st0 st2), WS zp zl ze (r0 5 111) zs zm zar zbe zme zc κ z 0 0 (QM zbe zar zs κ z (r0 5 111) P) st2 14 [some (.ref (ad κ b)), some (.int (nI (stt (nb (bo μ) m (mn μ)) i))), some (.int (nI k))] [] := by
    refine dnw ?_
    intro k hk ih14 i s2 h0 h1 h2 hs st2 hL hF
    refine ws_iload_n 14 C dX1_breakBest_14 rfl ?_
    refine ws_aload_n 15 C dX1_breakBest_15 rfl ?_
    refine ws_get 16 C dX1_breakBest_16 fX1_21 hL rfl rfl ?_
    refine ws_nicmp_ge 19 C 60 dX1_breakBest_19 (by decide) (by omega) (by omega) (fun c19 => ?_) (fun c19 => ?_)
    · skip
      have hbr : Br (nb (bo μ) m (mn μ)) (mn μ) i := ⟨by omega, fun q hq => (by have := h2 q hq; omega)⟩
      have hlno := hbr.is ha
      refine ws_aload_n 60 C dX1_breakBest_60 rfl ?_
      refine ws_get 61 C dX1_breakBest_61 fX1_34 hL rfl rfl ?_
      refine ws_aload_n 64 C dX1_breakBest_64 rfl ?_
      refine ws_get 65 C dX1_breakBest_65 fX1_37 hL rfl rfl ?_
      refine ws_aload_n 68 C dX1_breakBest_68 rfl ?_
      refine ws_get 69 C dX1_breakBest_69 fX1_21 hL rfl rfl ?_
      refine ws_iast 72 C dX1_breakBest_72 hL 4 rfl (vp_in_nI (by omega) (by decide)) i (nI_clamp (by omega)) (nI (mn μ)) rfl (fun st3 est3 => ?_)
      have hL : Ob z st3 b (bLy κ b p l r (nI (mn μ)) m (mv μ 0 1) lo (upd s2 i (nI (mn μ))) (nI i) lf3 nx3) := Ob.put' (j := 4) hL est3 rfl
      have hF := hF.put' est3 (show b ≤ (b + 4) ∧ (b + 4) < b + 7 from by omega)
      exact ws_vret 73 C dX1_breakBest_73 rfl (Nat.le_refl _) (Nat.le_refl _) (by rw [hP]; exact ⟨rfl, ⟨(by rw [← hlno]; exact ⟨_, _, _, hL, LyB.of ha hbr hs⟩), hF⟩⟩)
    · skip
      refine ws_iload_n 22 C dX1_breakBest_22 rfl ?_
      refine ws_iload_n 23 C dX1_breakBest_23 rfl ?_
      refine ws_nicmp_ne 24 C 54 dX1_breakBest_24 (by decide) (by omega) (by omega) (fun c24 => ?_) (fun c24 => ?_)
      · skip
        refine ws_iinc 54 C dX1_breakBest_54 rfl (nI (k + 1)) (nI_1 _) rfl [some (.ref (ad κ b)), some (.int (nI (stt (nb (bo μ) m (mn μ)) i))), some (.int (nI (k + 1)))] rfl ?_
        refine ws_goto 57 C 14 dX1_breakBest_57 (by decide) ?_
        exact ih14 c19 i s2 (by omega) (⟨(by omega), h1.2⟩) (fun q hq => (by have := h2 q hq; omega)) hs st2 hL hF
      · skip
        refine ws_aload_n 27 C dX1_breakBest_27 rfl ?_
        refine ws_get 28 C dX1_breakBest_28 fX1_34 hL rfl rfl ?_
        refine ws_aload_n 31 C dX1_breakBest_31 rfl ?_
        refine ws_get 32 C dX1_breakBest_32 fX1_37 hL rfl rfl ?_
        refine ws_iload_n 35 C dX1_breakBest_35 rfl ?_
        refine ws_iast 36 C dX1_breakBest_36 hL 4 rfl (vp_in_nI (by omega) (by decide)) i (nI_clamp (by omega)) (nI k) rfl (fun st4 est4 => ?_)
        have hL : Ob z st4 b (bLy κ b p l r (nI (mn μ)) m (mv μ 0 1) lo (upd s2 i (nI k)) (nI i) lf3 nx3) := Ob.put' (j := 4) hL est4 rfl
        have hF := hF.put' est4 (show b ≤ (b + 4) ∧ (b + 4) < b + 7 from by omega)
        refine ws_aload_n 37 C dX1_breakBest_37 rfl ?_
        refine ws_dup 38 C dX1_breakBest_38 rfl ?_
        refine ws_get 39 C dX1_breakBest_39 fX1_37 hL rfl rfl ?_
        refine ws_iconst 42 C dX1_breakBest_42 (nI 1) (by decide) ?_
        refine ws_iadd 43 C dX1_breakBest_43 (nI (i + 1)) (nI_add _ _) ?_
        refine ws_put 44 C dX1_breakBest_44 fX1_37 q1_8 hL rfl (Nat.le_of_ble_eq_true rfl) rfl rfl (fun st5 est5 => ?_)
        have hL : Ob z st5 b (bLy κ b p l r (nI (mn μ)) m (mv μ 0 1) lo (upd s2 i (nI k)) (nI (i + 1)) lf3 nx3) := Ob.put' (j := 0) hL est5 rfl
        have hF := hF.put' est5 (show b ≤ (b) ∧ (b) < b + 7 from by omega)
        refine ws_aload_n 47 C dX1_breakBest_47 rfl ?_
        refine ws_get 48 C dX1_breakBest_48 fX1_43 hL rfl rfl ?_
        refine ws_iload_n 51 C dX1_breakBest_51 rfl ?_
        refine ws_iald 52 C dX1_breakBest_52 hL 6 rfl (vp_in_nI (by omega) (by decide)) (nI (stt (nb (bo μ) m (mn μ)) (i + 1))) ((congrArg nx3 (nI_clamp (by omega))).trans ((hnx k c19).trans (congrArg nI (by show (nb (bo μ) m (mn μ)) k = (nb (bo μ) m (mn μ)) (stt (nb (bo μ) m (mn μ)) i); rw [← c24])))) ?_
        refine ws_istore_n 53 C dX1_breakBest_53 rfl [some (.ref (ad κ b)), some (.int (nI (stt (nb (bo μ) m (mn μ)) (i + 1)))), some (.int (nI k))] rfl ?_
        refine ws_iinc 54 C dX1_breakBest_54 rfl (nI (k + 1)) (nI_1 _) rfl [some (.ref (ad κ b)), some (.int (nI (stt (nb (bo μ) m (mn μ)) (i + 1)))), some (.int (nI (k + 1)))] rfl ?_
        refine ws_goto 57 C 14 dX1_breakBest_57 (by decide) ?_
        exact ih14 c19 (i + 1) (upd s2 i (nI k)) (by omega) (⟨(by have := (ha _ c19).1; show k + 1 ≤ (nb (bo μ) m (mn μ)) (stt (nb (bo μ) m (mn μ)) i); rw [← c24]; omega), (by show (nb (bo μ) m (mn μ)) (stt (nb (bo μ) m (mn μ)) i) ≤ mn μ; rw [← c24]; exact (ha _ c19).2)⟩) (fun q hq => (by rcases Nat.lt_or_ge q i with g | g; exact Nat.lt_succ_of_lt (h2 q g); rw [show q = i from by omega]; omega)) (upd_lt hs (congrArg nI c24)) st5 hL hF
  exact L14 0 (Nat.zero_le _) 0 s (Nat.le_refl _) (⟨Nat.le_refl _, Nat.zero_le _⟩) (fun q hq => (by omega)) (fun q hq => (by omega)) st1 hL hF

set_option maxRecDepth 100000 in
set_option maxHeartbeats 4000000 in
theorem c_X1_lastWord {b : Nat} {p l r s lf nx : Nat → Int32} {m lo : Int32} {μ : Mu} {nxt : Nat → Nat} {L : Nat} (hL : Ob z st0 b (bLy κ b p l r (nI (mn μ)) m (mv μ 0 1) lo s (nI L) lf nx)) (hW : LyW μ p l r) (ho : Ok μ) (hb : LyB nxt (mn μ) L s) {i : Nat} (hi : i < L) : CT zl κ yX1_lastWord cX1_lastWord 2 (some .int) (r0 0 0) z [.ref (ad κ b), .int (nI i)] st0 (PRi (nI (stt nxt (i + 1) - 1)) st0) := by
  obtain ⟨P, hP⟩ : ∃ P : Option Value → St → Prop, P = (PRi (nI (stt nxt (i + 1) - 1)) st0) := ⟨_, rfl⟩
  rw [← hP]
  refine CT.of (by decide +kernel) (Nat.le_of_ble_eq_true rfl) (fun zp ze zs zm zar zbe zme zc C _ => ?_)
  have C : Cx zp zs zm zar zme zc κ cX1_lastWord 2 RX1 (some .int) := C
  refine ws_lv (lv2 := [some (.ref (ad κ b)), some (.int (nI i))]) rfl ?_
  have h24 := ho.1
  have hLn := hb.L_le
  have hnx := hb.next hi
  refine ws_aload_n 0 C dX1_lastWord_0 rfl ?_
  refine ws_get 1 C dX1_lastWord_1 fX1_34 hL rfl rfl ?_
  refine ws_iload_n 4 C dX1_lastWord_4 rfl ?_
  refine ws_iconst 5 C dX1_lastWord_5 (nI 1) (by decide) ?_
  refine ws_iadd 6 C dX1_lastWord_6 (nI (i + 1)) (nI_add _ _) ?_
  refine ws_iald 7 C dX1_lastWord_7 hL 4 rfl (vp_in_nI (by omega) (by decide)) (nI (stt nxt (i + 1))) ((congrArg s (nI_clamp (by omega))).trans (hb.at hi)) ?_
  refine ws_iconst 8 C dX1_lastWord_8 (nI 1) (by decide) ?_
  refine ws_isub 9 C dX1_lastWord_9 (nI (stt nxt (i + 1) - 1)) (pk_sub (by omega)) ?_
  exact ws_iret 10 C  dX1_lastWord_10 rfl (Nat.le_refl _) (Nat.le_refl _) (by rw [hP]; exact ⟨rfl, rfl⟩)

set_option maxRecDepth 100000 in
set_option maxHeartbeats 4000000 in
theorem c_X1_bodyOfLine {b : Nat} {p l r s lf nx : Nat → Int32} {m lo : Int32} {μ : Mu} {nxt : Nat → Nat} {L : Nat} (hL : Ob z st0 b (bLy κ b p l r (nI (mn μ)) m (mv μ 0 1) lo s (nI L) lf nx)) (hW : LyW μ p l r) (ho : Ok μ) (hb : LyB nxt (mn μ) L s) {i : Nat} (hi : i < L) : CT zl κ yX1_bodyOfLine cX1_bodyOfLine 2 (some .int) (r0 2 44) z [.ref (ad κ b), .int (nI i)] st0 (PRi (bol μ nxt i) st0) := by
  obtain ⟨P, hP⟩ : ∃ P : Option Value → St → Prop, P = (PRi (bol μ nxt i) st0) := ⟨_, rfl⟩
  rw [← hP]
  refine CT.of (by decide +kernel) (Nat.le_of_ble_eq_true rfl) (fun zp ze zs zm zar zbe zme zc C _ => ?_)
  have C : Cx zp zs zm zar zme zc κ cX1_bodyOfLine 2 RX1 (some .int) := C
  refine ws_lv (lv2 := [some (.ref (ad κ b)), some (.int (nI i))]) rfl ?_
  have h24 := ho.1
  have hLn := hb.L_le
  have hnx := hb.next hi
  refine ws_aload_n 0 C dX1_bodyOfLine_0 rfl ?_
  refine ws_aload_n 1 C dX1_bodyOfLine_1 rfl ?_
  refine ws_get 2 C dX1_bodyOfLine_2 fX1_34 hL rfl rfl ?_
  refine ws_iload_n 5 C dX1_bodyOfLine_5 rfl ?_
  refine ws_iald 6 C dX1_bodyOfLine_6 hL 4 rfl (vp_in_nI (by omega) (by decide)) (nI (stt nxt i)) ((congrArg s (nI_clamp (by omega))).trans (hb.at (Nat.le_of_lt hi))) ?_
  refine ws_aload_n 7 C dX1_bodyOfLine_7 rfl ?_
  refine ws_iload_n 8 C dX1_bodyOfLine_8 rfl ?_
  refine ws_callV0 9 C dX1_bodyOfLine_9 vX1_80 (c_X1_lastWord hL hW ho hb hi) rfl hL rfl rfl ⟨by decide, by decide⟩ ⟨Nat.zero_le _, Nat.zero_le _⟩ rfl rfl rfl (kR ?_)
  refine ws_callV0 12 C dX1_bodyOfLine_12 vX1_66 (c_X1_bodyOf hL hW ho (show stt nxt i ≤ stt nxt (i + 1) - 1 from by omega) (by omega)) rfl hL rfl rfl ⟨by decide, by decide⟩ ⟨Nat.zero_le _, Nat.zero_le _⟩ rfl rfl rfl (kR ?_)
  exact ws_iret 15 C  dX1_bodyOfLine_15 rfl (Nat.le_refl _) (Nat.le_refl _) (by rw [hP]; exact ⟨rfl, rfl⟩)

set_option maxRecDepth 100000 in
set_option maxHeartbeats 4000000 in
theorem c_X1_fits {b : Nat} {p l r s lf nx : Nat → Int32} {m lo : Int32} {μ : Mu} {nxt : Nat → Nat} {L : Nat} (hL : Ob z st0 b (bLy κ b p l r (nI (mn μ)) m (mv μ 0 1) lo s (nI L) lf nx)) (hW : LyW μ p l r) (ho : Ok μ) (hb : LyB nxt (mn μ) L s) {i : Nat} (hi : i < L) : CT zl κ yX1_fits cX1_fits 2 (some .boolean) (r0 3 65) z [.ref (ad κ b), .int (nI i)] st0 (PRi (fitI μ nxt m i) st0) := by
  obtain ⟨P, hP⟩ : ∃ P : Option Value → St → Prop, P = (PRi (fitI μ nxt m i) st0) := ⟨_, rfl⟩
  rw [← hP]
  refine CT.of (by decide +kernel) (Nat.le_of_ble_eq_true rfl) (fun zp ze zs zm zar zbe zme zc C _ => ?_)
  have C : Cx zp zs zm zar zme zc κ cX1_fits 2 RX1 (some .boolean) := C
  refine ws_lv (lv2 := [some (.ref (ad κ b)), some (.int (nI i))]) rfl ?_
  have h24 := ho.1
  have hLn := hb.L_le
  refine ws_aload_n 0 C dX1_fits_0 rfl ?_
  refine ws_iload_n 1 C dX1_fits_1 rfl ?_
  refine ws_callV0 2 C dX1_fits_2 vX1_83 (c_X1_bodyOfLine hL hW ho hb hi) rfl hL rfl rfl ⟨by decide, by decide⟩ ⟨Nat.zero_le _, Nat.zero_le _⟩ rfl rfl rfl (kR ?_)
  refine ws_aload_n 5 C dX1_fits_5 rfl ?_
  refine ws_get 6 C dX1_fits_6 fX1_25 hL rfl rfl ?_
  refine ws_icmp_gt 9 C 16 dX1_fits_9 (by decide)  (fun c9 => ?_) (fun c9 => ?_)
  · skip
    have hv : nI 0 = fitI μ nxt m i := (if_neg (Int32.not_le.mpr c9)).symm
    refine ws_iconst 16 C dX1_fits_16 (nI 0) (by decide) ?_
    exact ws_zret 17 C rfl dX1_fits_17 rfl (Nat.le_refl _) (Nat.le_refl _) (by rw [hP]; exact ⟨congrArg (fun z => some (Value.int z)) (hv), rfl⟩)
  · skip
    have hv : nI 1 = fitI μ nxt m i := (if_pos (Int32.not_lt.mp c9)).symm
    refine ws_iconst 12 C dX1_fits_12 (nI 1) (by decide) ?_
    refine ws_goto 13 C 17 dX1_fits_13 (by decide) ?_
    exact ws_zret 17 C rfl dX1_fits_17 rfl (Nat.le_refl _) (Nat.le_refl _) (by rw [hP]; exact ⟨congrArg (fun z => some (Value.int z)) (hv), rfl⟩)

set_option maxRecDepth 100000 in
set_option maxHeartbeats 4000000 in
theorem c_X1_looksIndented {b : Nat} {p l r s lf nx : Nat → Int32} {m lo : Int32} {μ : Mu} {nxt : Nat → Nat} {L : Nat} (hL : Ob z st0 b (bLy κ b p l r (nI (mn μ)) m (mv μ 0 1) lo s (nI L) lf nx)) (hW : LyW μ p l r) (ho : Ok μ) (hb : LyB nxt (mn μ) L s) {i : Nat} (hi : i < L) : CT zl κ yX1_looksIndented cX1_looksIndented 2 (some .boolean) (r0 4 86) z [.ref (ad κ b), .int (nI i)] st0 (PRi (nI (indN μ nxt m lo L i)) st0) := by
  obtain ⟨P, hP⟩ : ∃ P : Option Value → St → Prop, P = (PRi (nI (indN μ nxt m lo L i)) st0) := ⟨_, rfl⟩
  rw [← hP]
  refine CT.of (by decide +kernel) (Nat.le_of_ble_eq_true rfl) (fun zp ze zs zm zar zbe zme zc C _ => ?_)
  have C : Cx zp zs zm zar zme zc κ cX1_looksIndented 2 RX1 (some .boolean) := C
  refine ws_lv (lv2 := [some (.ref (ad κ b)), some (.int (nI i))]) rfl ?_
  have h24 := ho.1
  have hLn := hb.L_le
  refine ws_aload_n 0 C dX1_looksIndented_0 rfl ?_
  refine ws_iload_n 1 C dX1_looksIndented_1 rfl ?_
  refine ws_callV0 2 C dX1_looksIndented_2 vX1_86 (c_X1_fits hL hW ho hb hi) rfl hL rfl rfl ⟨by decide, by decide⟩ ⟨Nat.zero_le _, Nat.zero_le _⟩ rfl rfl rfl (kR ?_)
  refine ws_if_eq 5 C 39 dX1_looksIndented_5 (by decide)  (fun c5 => ?_) (fun c5 => ?_)
  · skip
    have hv : nI 0 = nI (indN μ nxt m lo L i) := congrArg nI (if_neg (fitI_n c5)).symm
    refine ws_iconst 39 C dX1_looksIndented_39 (nI 0) (by decide) ?_
    exact ws_zret 40 C rfl dX1_looksIndented_40 rfl (Nat.le_refl _) (Nat.le_refl _) (by rw [hP]; exact ⟨congrArg (fun z => some (Value.int z)) (hv), rfl⟩)
  · skip
    have h1 := fitI_y c5
    refine ws_iload_n 8 C dX1_looksIndented_8 rfl ?_
    refine ws_aload_n 9 C dX1_looksIndented_9 rfl ?_
    refine ws_get 10 C dX1_looksIndented_10 fX1_37 hL rfl rfl ?_
    refine ws_iconst 13 C dX1_looksIndented_13 (nI 1) (by decide) ?_
    refine ws_isub 14 C dX1_looksIndented_14 (nI (L - 1)) (pk_sub (by omega)) ?_
    refine ws_nicmp_ge 15 C 39 dX1_looksIndented_15 (by decide) (by omega) (by omega) (fun c15 => ?_) (fun c15 => ?_)
    · skip
      have hv : nI 0 = nI (indN μ nxt m lo L i) := congrArg nI ((if_pos h1).trans (if_neg (by omega))).symm
      refine ws_iconst 39 C dX1_looksIndented_39 (nI 0) (by decide) ?_
      exact ws_zret 40 C rfl dX1_looksIndented_40 rfl (Nat.le_refl _) (Nat.le_refl _) (by rw [hP]; exact ⟨congrArg (fun z => some (Value.int z)) (hv), rfl⟩)
    · skip
      refine ws_aload_n 18 C dX1_looksIndented_18 rfl ?_
      refine ws_get 19 C dX1_looksIndented_19 fX1_25 hL rfl rfl ?_
      refine ws_aload_n 22 C dX1_looksIndented_22 rfl ?_
      refine ws_iload_n 23 C dX1_looksIndented_23 rfl ?_
      refine ws_callV0 24 C dX1_looksIndented_24 vX1_83 (c_X1_bodyOfLine hL hW ho hb hi) rfl hL rfl rfl ⟨by decide, by decide⟩ ⟨Nat.zero_le _, Nat.zero_le _⟩ rfl rfl rfl (kR ?_)
      refine ws_isub 27 C dX1_looksIndented_27 (m - (bol μ nxt i)) rfl ?_
      refine ws_aload_n 28 C dX1_looksIndented_28 rfl ?_
      refine ws_get 29 C dX1_looksIndented_29 fX1_31 hL rfl rfl ?_
      refine ws_icmp_le 32 C 39 dX1_looksIndented_32 (by decide)  (fun c32 => ?_) (fun c32 => ?_)
      · skip
        have hv : nI 0 = nI (indN μ nxt m lo L i) := congrArg nI ((if_pos h1).trans ((if_pos c15).trans (if_neg (Int32.not_lt.mpr c32)))).symm
        refine ws_iconst 39 C dX1_looksIndented_39 (nI 0) (by decide) ?_
        exact ws_zret 40 C rfl dX1_looksIndented_40 rfl (Nat.le_refl _) (Nat.le_refl _) (by rw [hP]; exact ⟨congrArg (fun z => some (Value.int z)) (hv), rfl⟩)
      · skip
        have hv : nI 1 = nI (indN μ nxt m lo L i) := congrArg nI ((if_pos h1).trans ((if_pos c15).trans (if_pos (Int32.not_le.mp c32)))).symm
        refine ws_iconst 35 C dX1_looksIndented_35 (nI 1) (by decide) ?_
        refine ws_goto 36 C 40 dX1_looksIndented_36 (by decide) ?_
        exact ws_zret 40 C rfl dX1_looksIndented_40 rfl (Nat.le_refl _) (Nat.le_refl _) (by rw [hP]; exact ⟨congrArg (fun z => some (Value.int z)) (hv), rfl⟩)

set_option maxRecDepth 100000 in
set_option maxHeartbeats 4000000 in
theorem c_X1_tellLine {b : Nat} {p l r s lf nx : Nat → Int32} {m lo : Int32} {μ : Mu} {nxt : Nat → Nat} {L : Nat} (hL : Ob z st0 b (bLy κ b p l r (nI (mn μ)) m (mv μ 0 1) lo s (nI L) lf nx)) (hW : LyW μ p l r) (ho : Ok μ) (hb : LyB nxt (mn μ) L s) {i : Nat} (hi : i < L) {w : Nat} (hw : w ≤ 8) : CT zl κ yX1_tellLine cX1_tellLine 3 (some .int) (r0 5 107) z [.ref (ad κ b), .int (nI i), .int (nI w)] st0 (PRi (tell μ nxt m lo L i w) st0) := by
  obtain ⟨P, hP⟩ : ∃ P : Option Value → St → Prop, P = (PRi (tell μ nxt m lo L i w) st0) := ⟨_, rfl⟩
  rw [← hP]
  refine CT.of (by decide +kernel) (Nat.le_of_ble_eq_true rfl) (fun zp ze zs zm zar zbe zme zc C _ => ?_)
  have C : Cx zp zs zm zar zme zc κ cX1_tellLine 3 RX1 (some .int) := C
  refine ws_lv (lv2 := [some (.ref (ad κ b)), some (.int (nI i)), some (.int (nI w))]) rfl ?_
  have h24 := ho.1
  have hLn := hb.L_le
  have hnx := hb.next hi
  refine ws_iload_n 0 C dX1_tellLine_0 rfl ?_
  rcases (show w = 0 ∨ w = 1 ∨ w = 2 ∨ w = 3 ∨ w = 4 ∨ w = 5 ∨ w = 6 ∨ w = 7 ∨ w = 8 from by omega) with rfl | rfl | rfl | rfl | rfl | rfl | rfl | rfl | rfl
  · skip
    refine ws_tin 1 C dX1_tellLine_1 (0) (47) 48 (by rfl) (by decide) (by decide) (by rfl) (by decide) ?_
    refine ws_aload_n 48 C dX1_tellLine_48 rfl ?_
    refine ws_get 49 C dX1_tellLine_49 fX1_34 hL rfl rfl ?_
    refine ws_iload_n 52 C dX1_tellLine_52 rfl ?_
    refine ws_iald 53 C dX1_tellLine_53 hL 4 rfl (vp_in_nI (by omega) (by decide)) (nI (stt nxt i)) ((congrArg s (nI_clamp (by omega))).trans (hb.at (Nat.le_of_lt hi))) ?_
    exact ws_iret 54 C  dX1_tellLine_54 rfl (Nat.le_refl _) (Nat.le_refl _) (by rw [hP]; exact ⟨rfl, rfl⟩)
  · skip
    refine ws_tin 1 C dX1_tellLine_1 (1) (54) 55 (by rfl) (by decide) (by decide) (by rfl) (by decide) ?_
    refine ws_aload_n 55 C dX1_tellLine_55 rfl ?_
    refine ws_get 56 C dX1_tellLine_56 fX1_34 hL rfl rfl ?_
    refine ws_iload_n 59 C dX1_tellLine_59 rfl ?_
    refine ws_iconst 60 C dX1_tellLine_60 (nI 1) (by decide) ?_
    refine ws_iadd 61 C dX1_tellLine_61 (nI (i + 1)) (nI_add _ _) ?_
    refine ws_iald 62 C dX1_tellLine_62 hL 4 rfl (vp_in_nI (by omega) (by decide)) (nI (stt nxt (i + 1))) ((congrArg s (nI_clamp (by omega))).trans (hb.at hi)) ?_
    refine ws_aload_n 63 C dX1_tellLine_63 rfl ?_
    refine ws_get 64 C dX1_tellLine_64 fX1_34 hL rfl rfl ?_
    refine ws_iload_n 67 C dX1_tellLine_67 rfl ?_
    refine ws_iald 68 C dX1_tellLine_68 hL 4 rfl (vp_in_nI (by omega) (by decide)) (nI (stt nxt i)) ((congrArg s (nI_clamp (by omega))).trans (hb.at (Nat.le_of_lt hi))) ?_
    refine ws_isub 69 C dX1_tellLine_69 (nI (stt nxt (i + 1) - stt nxt i)) (pk_sub (by omega)) ?_
    exact ws_iret 70 C  dX1_tellLine_70 rfl (Nat.le_refl _) (Nat.le_refl _) (by rw [hP]; exact ⟨rfl, rfl⟩)
  · skip
    refine ws_tin 1 C dX1_tellLine_1 (2) (70) 71 (by rfl) (by decide) (by decide) (by rfl) (by decide) ?_
    refine ws_aload_n 71 C dX1_tellLine_71 rfl ?_
    refine ws_aload_n 72 C dX1_tellLine_72 rfl ?_
    refine ws_get 73 C dX1_tellLine_73 fX1_34 hL rfl rfl ?_
    refine ws_iload_n 76 C dX1_tellLine_76 rfl ?_
    refine ws_iald 77 C dX1_tellLine_77 hL 4 rfl (vp_in_nI (by omega) (by decide)) (nI (stt nxt i)) ((congrArg s (nI_clamp (by omega))).trans (hb.at (Nat.le_of_lt hi))) ?_
    refine ws_aload_n 78 C dX1_tellLine_78 rfl ?_
    refine ws_iload_n 79 C dX1_tellLine_79 rfl ?_
    refine ws_callV0 80 C dX1_tellLine_80 vX1_80 (c_X1_lastWord hL hW ho hb hi) rfl hL rfl rfl ⟨by decide, by decide⟩ ⟨Nat.zero_le _, Nat.zero_le _⟩ rfl rfl rfl (kR ?_)
    refine ws_callV0 83 C dX1_tellLine_83 vX1_62 (c_X1_widthFrom hL hW ho (show stt nxt i ≤ stt nxt (i + 1) - 1 from by omega) (by omega)) rfl hL rfl rfl ⟨by decide, by decide⟩ ⟨Nat.zero_le _, Nat.zero_le _⟩ rfl rfl rfl (kR ?_)
    exact ws_iret 86 C  dX1_tellLine_86 rfl (Nat.le_refl _) (Nat.le_refl _) (by rw [hP]; exact ⟨rfl, rfl⟩)
  · skip
    refine ws_tin 1 C dX1_tellLine_1 (3) (86) 87 (by rfl) (by decide) (by decide) (by rfl) (by decide) ?_
    refine ws_aload_n 87 C dX1_tellLine_87 rfl ?_
    refine ws_get 88 C dX1_tellLine_88 fX1_15 hL rfl rfl ?_
    refine ws_aload_n 91 C dX1_tellLine_91 rfl ?_
    refine ws_get 92 C dX1_tellLine_92 fX1_34 hL rfl rfl ?_
    refine ws_iload_n 95 C dX1_tellLine_95 rfl ?_
    refine ws_iald 96 C dX1_tellLine_96 hL 4 rfl (vp_in_nI (by omega) (by decide)) (nI (stt nxt i)) ((congrArg s (nI_clamp (by omega))).trans (hb.at (Nat.le_of_lt hi))) ?_
    refine ws_iald 97 C dX1_tellLine_97 hL 2 rfl (vp_in_nI (by omega) (by decide)) (lh μ (stt nxt i)) ((congrArg l (nI_clamp (by omega))).trans (hW.2.1 _ (by omega))) ?_
    exact ws_iret 98 C  dX1_tellLine_98 rfl (Nat.le_refl _) (Nat.le_refl _) (by rw [hP]; exact ⟨rfl, rfl⟩)
  · skip
    refine ws_tin 1 C dX1_tellLine_1 (4) (98) 99 (by rfl) (by decide) (by decide) (by rfl) (by decide) ?_
    refine ws_aload_n 99 C dX1_tellLine_99 rfl ?_
    refine ws_get 100 C dX1_tellLine_100 fX1_18 hL rfl rfl ?_
    refine ws_aload_n 103 C dX1_tellLine_103 rfl ?_
    refine ws_iload_n 104 C dX1_tellLine_104 rfl ?_
    refine ws_callV0 105 C dX1_tellLine_105 vX1_80 (c_X1_lastWord hL hW ho hb hi) rfl hL rfl rfl ⟨by decide, by decide⟩ ⟨Nat.zero_le _, Nat.zero_le _⟩ rfl rfl rfl (kR ?_)
    refine ws_iald 108 C dX1_tellLine_108 hL 3 rfl (vp_in_nI (by omega) (by decide)) (rh μ (stt nxt (i + 1) - 1)) ((congrArg r (nI_clamp (by omega))).trans (hW.2.2 _ (by omega))) ?_
    exact ws_iret 109 C  dX1_tellLine_109 rfl (Nat.le_refl _) (Nat.le_refl _) (by rw [hP]; exact ⟨rfl, rfl⟩)
  · skip
    refine ws_tin 1 C dX1_tellLine_1 (5) (109) 110 (by rfl) (by decide) (by decide) (by rfl) (by decide) ?_
    refine ws_aload_n 110 C dX1_tellLine_110 rfl ?_
    refine ws_iload_n 111 C dX1_tellLine_111 rfl ?_
    refine ws_callV0 112 C dX1_tellLine_112 vX1_83 (c_X1_bodyOfLine hL hW ho hb hi) rfl hL rfl rfl ⟨by decide, by decide⟩ ⟨Nat.zero_le _, Nat.zero_le _⟩ rfl rfl rfl (kR ?_)
    exact ws_iret 115 C  dX1_tellLine_115 rfl (Nat.le_refl _) (Nat.le_refl _) (by rw [hP]; exact ⟨rfl, rfl⟩)
  · skip
    refine ws_tin 1 C dX1_tellLine_1 (6) (115) 116 (by rfl) (by decide) (by decide) (by rfl) (by decide) ?_
    refine ws_aload_n 116 C dX1_tellLine_116 rfl ?_
    refine ws_iload_n 117 C dX1_tellLine_117 rfl ?_
    refine ws_callV0 118 C dX1_tellLine_118 vX1_86 (c_X1_fits hL hW ho hb hi) rfl hL rfl rfl ⟨by decide, by decide⟩ ⟨Nat.zero_le _, Nat.zero_le _⟩ rfl rfl rfl (kR ?_)
    refine ws_if_eq 121 C 137 dX1_tellLine_121 (by decide)  (fun c121 => ?_) (fun c121 => ?_)
    · skip
      have hv : -1006 = tell μ nxt m lo L i 6 := (if_neg (fitI_n c121)).symm
      refine ws_sipush 137 C dX1_tellLine_137 ((-1006)) (by decide) ?_
      exact ws_iret 140 C  dX1_tellLine_140 rfl (Nat.le_refl _) (Nat.le_refl _) (by rw [hP]; exact ⟨congrArg (fun z => some (Value.int z)) (hv), rfl⟩)
    · skip
      have hv : m - bol μ nxt i = tell μ nxt m lo L i 6 := (if_pos (fitI_y c121)).symm
      refine ws_aload_n 124 C dX1_tellLine_124 rfl ?_
      refine ws_get 125 C dX1_tellLine_125 fX1_25 hL rfl rfl ?_
      refine ws_aload_n 128 C dX1_tellLine_128 rfl ?_
      refine ws_iload_n 129 C dX1_tellLine_129 rfl ?_
      refine ws_callV0 130 C dX1_tellLine_130 vX1_83 (c_X1_bodyOfLine hL hW ho hb hi) rfl hL rfl rfl ⟨by decide, by decide⟩ ⟨Nat.zero_le _, Nat.zero_le _⟩ rfl rfl rfl (kR ?_)
      refine ws_isub 133 C dX1_tellLine_133 (m - (bol μ nxt i)) rfl ?_
      refine ws_goto 134 C 140 dX1_tellLine_134 (by decide) ?_
      exact ws_iret 140 C  dX1_tellLine_140 rfl (Nat.le_refl _) (Nat.le_refl _) (by rw [hP]; exact ⟨congrArg (fun z => some (Value.int z)) (hv), rfl⟩)
  · skip
    refine ws_tin 1 C dX1_tellLine_1 (7) (140) 141 (by rfl) (by decide) (by decide) (by rfl) (by decide) ?_
    refine ws_aload_n 141 C dX1_tellLine_141 rfl ?_
    refine ws_iload_n 142 C dX1_tellLine_142 rfl ?_
    refine ws_callV0 143 C dX1_tellLine_143 vX1_86 (c_X1_fits hL hW ho hb hi) rfl hL rfl rfl ⟨by decide, by decide⟩ ⟨Nat.zero_le _, Nat.zero_le _⟩ rfl rfl rfl (kR ?_)
    refine ws_if_eq 146 C 153 dX1_tellLine_146 (by decide)  (fun c146 => ?_) (fun c146 => ?_)
    · skip
      have hv : nI 0 = tell μ nxt m lo L i 7 := (if_neg (fitI_n c146)).symm
      refine ws_iconst 153 C dX1_tellLine_153 (nI 0) (by decide) ?_
      exact ws_iret 154 C  dX1_tellLine_154 rfl (Nat.le_refl _) (Nat.le_refl _) (by rw [hP]; exact ⟨congrArg (fun z => some (Value.int z)) (hv), rfl⟩)
    · skip
      have hv : nI 1 = tell μ nxt m lo L i 7 := (if_pos (fitI_y c146)).symm
      refine ws_iconst 149 C dX1_tellLine_149 (nI 1) (by decide) ?_
      refine ws_goto 150 C 154 dX1_tellLine_150 (by decide) ?_
      exact ws_iret 154 C  dX1_tellLine_154 rfl (Nat.le_refl _) (Nat.le_refl _) (by rw [hP]; exact ⟨congrArg (fun z => some (Value.int z)) (hv), rfl⟩)
  · skip
    refine ws_tout 1 C dX1_tellLine_1 155 (Or.inr (by decide)) (by decide) ?_
    refine ws_aload_n 155 C dX1_tellLine_155 rfl ?_
    refine ws_iload_n 156 C dX1_tellLine_156 rfl ?_
    refine ws_callV0 157 C dX1_tellLine_157 vX1_90 (c_X1_looksIndented hL hW ho hb hi) rfl hL rfl rfl ⟨by decide, by decide⟩ ⟨Nat.zero_le _, Nat.zero_le _⟩ rfl rfl rfl (kR ?_)
    refine ws_nif_eq 160 C 167 dX1_tellLine_160 (by decide) (by have := indN_le μ nxt m lo L i; omega) (fun c160 => ?_) (fun c160 => ?_)
    · skip
      have hv : nI 0 = tell μ nxt m lo L i 8 := congrArg nI c160.symm
      refine ws_iconst 167 C dX1_tellLine_167 (nI 0) (by decide) ?_
      exact ws_iret 168 C  dX1_tellLine_168 rfl (Nat.le_refl _) (Nat.le_refl _) (by rw [hP]; exact ⟨congrArg (fun z => some (Value.int z)) (hv), rfl⟩)
    · skip
      have hv : nI 1 = tell μ nxt m lo L i 8 := congrArg nI (by have := indN_le μ nxt m lo L i; omega)
      refine ws_iconst 163 C dX1_tellLine_163 (nI 1) (by decide) ?_
      refine ws_goto 164 C 168 dX1_tellLine_164 (by decide) ?_
      exact ws_iret 168 C  dX1_tellLine_168 rfl (Nat.le_refl _) (Nat.le_refl _) (by rw [hP]; exact ⟨congrArg (fun z => some (Value.int z)) (hv), rfl⟩)

set_option maxRecDepth 100000 in
set_option maxHeartbeats 4000000 in
theorem c_X1_lineWith {b : Nat} {p l r s lf nx : Nat → Int32} {m lo : Int32} {μ : Mu} {nxt : Nat → Nat} {L : Nat} (hL : Ob z st0 b (bLy κ b p l r (nI (mn μ)) m (mv μ 0 1) lo s (nI L) lf nx)) (hW : LyW μ p l r) (ho : Ok μ) (hb : LyB nxt (mn μ) L s) {w : Nat} (hw : w < mn μ) : CT zl κ yX1_lineWith cX1_lineWith 4 (some .int) (r0 0 0) z [.ref (ad κ b), .int (nI w)] st0 (PRi (nI (lof nxt w L)) st0) := by
  obtain ⟨P, hP⟩ : ∃ P : Option Value → St → Prop, P = (PRi (nI (lof nxt w L)) st0) := ⟨_, rfl⟩
  rw [← hP]
  refine CT.of (by decide +kernel) (Nat.le_of_ble_eq_true rfl) (fun zp ze zs zm zar zbe zme zc C _ => ?_)
  have C : Cx zp zs zm zar zme zc κ cX1_lineWith 4 RX1 (some .int) := C
  refine ws_lv (lv2 := [some (.ref (ad κ b)), some (.int (nI w)), none, none]) rfl ?_
  have h24 := ho.1
  have hLn := hb.L_le
  refine ws_iconst 0 C dX1_lineWith_0 (nI 0) (by decide) ?_
  refine ws_istore_n 1 C dX1_lineWith_1 rfl [some (.ref (ad κ b)), some (.int (nI w)), some (.int (nI 0)), none] rfl ?_
  refine ws_iconst 2 C dX1_lineWith_2 (nI 0) (by decide) ?_
  refine ws_istore_n 3 C dX1_lineWith_3 rfl [some (.ref (ad κ b)), some (.int (nI w)), some (.int (nI 0)), some (.int (nI 0))] rfl ?_
  have L4 : ∀ k : Nat, k ≤ L → WS zp zl ze (r0 0 0) zs zm zar zbe zme zc κ z 0 0 (QM zbe zar zs κ z (r0 0 0) P) st0 4 [some (.ref (ad κ b)), some (.int (nI w)), some (.int (nI (lof nxt w k))), some (.int (nI k))] [] := by
    refine dnw ?_
    intro k hk ih4 
    refine ws_iload_n 4 C dX1_lineWith_4 rfl ?_
    refine ws_aload_n 5 C dX1_lineWith_5 rfl ?_
    refine ws_get 6 C dX1_lineWith_6 fX1_37 hL rfl rfl ?_
    refine ws_nicmp_ge 9 C 30 dX1_lineWith_9 (by decide) (by omega) (by omega) (fun c9 => ?_) (fun c9 => ?_)
    · skip
      refine ws_iload_n 30 C dX1_lineWith_30 rfl ?_
      exact ws_iret 31 C  dX1_lineWith_31 rfl (Nat.le_refl _) (Nat.le_refl _) (by rw [hP]; exact ⟨congrArg (fun z => some (Value.int z)) ((by rw [show k = L from by omega])), rfl⟩)
    · skip
      refine ws_aload_n 12 C dX1_lineWith_12 rfl ?_
      refine ws_get 13 C dX1_lineWith_13 fX1_34 hL rfl rfl ?_
      refine ws_iload_n 16 C dX1_lineWith_16 rfl ?_
      refine ws_iald 17 C dX1_lineWith_17 hL 4 rfl (vp_in_nI (by omega) (by decide)) (nI (stt nxt k)) ((congrArg s (nI_clamp (by omega))).trans (hb.at hk)) ?_
      refine ws_iload_n 18 C dX1_lineWith_18 rfl ?_
      refine ws_nicmp_gt 19 C 24 dX1_lineWith_19 (by decide) (by first | omega | (have := hb.le hk; omega)) (by first | omega | (have := hb.le hk; omega)) (fun c19 => ?_) (fun c19 => ?_)
      · skip
        refine ws_wk (lv2 := [some (.ref (ad κ b)), some (.int (nI w)), some (.int (nI (lof nxt w (k + 1)))), some (.int (nI k))]) ⟨rfl, rfl, (congrArg (fun x => Value.int (nI x)) (if_neg (by omega))), rfl, trivial⟩ ?_
        refine ws_iinc 24 C dX1_lineWith_24 rfl (nI (k + 1)) (nI_1 _) rfl [some (.ref (ad κ b)), some (.int (nI w)), some (.int (nI (lof nxt w (k + 1)))), some (.int (nI (k + 1)))] rfl ?_
        refine ws_goto 27 C 4 dX1_lineWith_27 (by decide) ?_
        exact ih4 c9
      · skip
        refine ws_iload_n 22 C dX1_lineWith_22 rfl ?_
        refine ws_istore_n 23 C dX1_lineWith_23 rfl [some (.ref (ad κ b)), some (.int (nI w)), some (.int (nI k)), some (.int (nI k))] rfl ?_
        refine ws_wk (lv2 := [some (.ref (ad κ b)), some (.int (nI w)), some (.int (nI (lof nxt w (k + 1)))), some (.int (nI k))]) ⟨rfl, rfl, (congrArg (fun x => Value.int (nI x)) (if_pos (by omega))), rfl, trivial⟩ ?_
        refine ws_iinc 24 C dX1_lineWith_24 rfl (nI (k + 1)) (nI_1 _) rfl [some (.ref (ad κ b)), some (.int (nI w)), some (.int (nI (lof nxt w (k + 1)))), some (.int (nI (k + 1)))] rfl ?_
        refine ws_goto 27 C 4 dX1_lineWith_27 (by decide) ?_
        exact ih4 c9
  exact L4 0 (Nat.zero_le _)

set_option maxRecDepth 100000 in
set_option maxHeartbeats 4000000 in
theorem c_X1_badness {b : Nat} {p l r s lf nx : Nat → Int32} {m lo : Int32} {μ : Mu} {nxt : Nat → Nat} {L : Nat} (hL : Ob z st0 b (bLy κ b p l r (nI (mn μ)) m (mv μ 0 1) lo s (nI L) lf nx)) (hW : LyW μ p l r) (ho : Ok μ) (hb : LyB nxt (mn μ) L s) : CT zl κ yX1_badness cX1_badness 3 (some .int) (r0 3 67) z [.ref (ad κ b)] st0 (PRi (sumB μ nxt m L) st0) := by
  obtain ⟨P, hP⟩ : ∃ P : Option Value → St → Prop, P = (PRi (sumB μ nxt m L) st0) := ⟨_, rfl⟩
  rw [← hP]
  refine CT.of (by decide +kernel) (Nat.le_of_ble_eq_true rfl) (fun zp ze zs zm zar zbe zme zc C _ => ?_)
  have C : Cx zp zs zm zar zme zc κ cX1_badness 3 RX1 (some .int) := C
  refine ws_lv (lv2 := [some (.ref (ad κ b)), none, none]) rfl ?_
  have h24 := ho.1
  have hLn := hb.L_le
  refine ws_iconst 0 C dX1_badness_0 (nI 0) (by decide) ?_
  refine ws_istore_n 1 C dX1_badness_1 rfl [some (.ref (ad κ b)), some (.int (nI 0)), none] rfl ?_
  refine ws_iconst 2 C dX1_badness_2 (nI 0) (by decide) ?_
  refine ws_istore_n 3 C dX1_badness_3 rfl [some (.ref (ad κ b)), some (.int (nI 0)), some (.int (nI 0))] rfl ?_
  have L4 : ∀ i : Nat, i ≤ L → WS zp zl ze (r0 3 67) zs zm zar zbe zme zc κ z 0 0 (QM zbe zar zs κ z (r0 3 67) P) st0 4 [some (.ref (ad κ b)), some (.int (sumB μ nxt m i)), some (.int (nI i))] [] := by
    refine dnw ?_
    intro i hi ih4 
    refine ws_iload_n 4 C dX1_badness_4 rfl ?_
    refine ws_aload_n 5 C dX1_badness_5 rfl ?_
    refine ws_get 6 C dX1_badness_6 fX1_37 hL rfl rfl ?_
    refine ws_nicmp_ge 9 C 36 dX1_badness_9 (by decide) (by omega) (by omega) (fun c9 => ?_) (fun c9 => ?_)
    · skip
      refine ws_iload_n 36 C dX1_badness_36 rfl ?_
      exact ws_iret 37 C  dX1_badness_37 rfl (Nat.le_refl _) (Nat.le_refl _) (by rw [hP]; exact ⟨congrArg (fun z => some (Value.int z)) ((by rw [show i = L from by omega])), rfl⟩)
    · skip
      have hnx := hb.next c9
      refine ws_iload_n 12 C dX1_badness_12 rfl ?_
      refine ws_aload_n 13 C dX1_badness_13 rfl ?_
      refine ws_aload_n 14 C dX1_badness_14 rfl ?_
      refine ws_get 15 C dX1_badness_15 fX1_34 hL rfl rfl ?_
      refine ws_iload_n 18 C dX1_badness_18 rfl ?_
      refine ws_iald 19 C dX1_badness_19 hL 4 rfl (vp_in_nI (by omega) (by decide)) (nI (stt nxt i)) ((congrArg s (nI_clamp (by omega))).trans (hb.at hi)) ?_
      refine ws_aload_n 20 C dX1_badness_20 rfl ?_
      refine ws_iload_n 21 C dX1_badness_21 rfl ?_
      refine ws_callV0 22 C dX1_badness_22 vX1_80 (c_X1_lastWord hL hW ho hb c9) rfl hL rfl rfl ⟨by decide, by decide⟩ ⟨Nat.zero_le _, Nat.zero_le _⟩ rfl rfl rfl (kR ?_)
      refine ws_callV0 25 C dX1_badness_25 vX1_77 (c_X1_badnessOf hL hW ho (show stt nxt i ≤ stt nxt (i + 1) - 1 from by omega) (by omega)) rfl hL rfl rfl ⟨by decide, by decide⟩ ⟨Nat.zero_le _, Nat.zero_le _⟩ rfl rfl rfl (kR ?_)
      refine ws_iadd 28 C dX1_badness_28 (sumB μ nxt m (i + 1)) rfl ?_
      refine ws_istore_n 29 C dX1_badness_29 rfl [some (.ref (ad κ b)), some (.int (sumB μ nxt m (i + 1))), some (.int (nI i))] rfl ?_
      refine ws_iinc 30 C dX1_badness_30 rfl (nI (i + 1)) (nI_1 _) rfl [some (.ref (ad κ b)), some (.int (sumB μ nxt m (i + 1))), some (.int (nI (i + 1)))] rfl ?_
      refine ws_goto 33 C 4 dX1_badness_33 (by decide) ?_
      exact ih4 c9
  exact L4 0 (Nat.zero_le _)

set_option maxRecDepth 100000 in
set_option maxHeartbeats 4000000 in
theorem c_X1_countIndented {b : Nat} {p l r s lf nx : Nat → Int32} {m lo : Int32} {μ : Mu} {nxt : Nat → Nat} {L : Nat} (hL : Ob z st0 b (bLy κ b p l r (nI (mn μ)) m (mv μ 0 1) lo s (nI L) lf nx)) (hW : LyW μ p l r) (ho : Ok μ) (hb : LyB nxt (mn μ) L s) : CT zl κ yX1_countIndented cX1_countIndented 3 (some .int) (r0 5 107) z [.ref (ad κ b)] st0 (PRi (nI (smN (indN μ nxt m lo L) L)) st0) := by
  obtain ⟨P, hP⟩ : ∃ P : Option Value → St → Prop, P = (PRi (nI (smN (indN μ nxt m lo L) L)) st0) := ⟨_, rfl⟩
  rw [← hP]
  refine CT.of (by decide +kernel) (Nat.le_of_ble_eq_true rfl) (fun zp ze zs zm zar zbe zme zc C _ => ?_)
  have C : Cx zp zs zm zar zme zc κ cX1_countIndented 3 RX1 (some .int) := C
  refine ws_lv (lv2 := [some (.ref (ad κ b)), none, none]) rfl ?_
  have h24 := ho.1
  have hLn := hb.L_le
  refine ws_iconst 0 C dX1_countIndented_0 (nI 0) (by decide) ?_
  refine ws_istore_n 1 C dX1_countIndented_1 rfl [some (.ref (ad κ b)), some (.int (nI 0)), none] rfl ?_
  refine ws_iconst 2 C dX1_countIndented_2 (nI 0) (by decide) ?_
  refine ws_istore_n 3 C dX1_countIndented_3 rfl [some (.ref (ad κ b)), some (.int (nI 0)), some (.int (nI 0))] rfl ?_
  have L4 : ∀ i : Nat, i ≤ L → WS zp zl ze (r0 5 107) zs zm zar zbe zme zc κ z 0 0 (QM zbe zar zs κ z (r0 5 107) P) st0 4 [some (.ref (ad κ b)), some (.int (nI (smN (indN μ nxt m lo L) i))), some (.int (nI i))] [] := by
    refine dnw ?_
    intro i hi ih4 
    refine ws_iload_n 4 C dX1_countIndented_4 rfl ?_
    refine ws_aload_n 5 C dX1_countIndented_5 rfl ?_
    refine ws_get 6 C dX1_countIndented_6 fX1_37 hL rfl rfl ?_
    refine ws_nicmp_ge 9 C 29 dX1_countIndented_9 (by decide) (by omega) (by omega) (fun c9 => ?_) (fun c9 => ?_)
    · skip
      refine ws_iload_n 29 C dX1_countIndented_29 rfl ?_
      exact ws_iret 30 C  dX1_countIndented_30 rfl (Nat.le_refl _) (Nat.le_refl _) (by rw [hP]; exact ⟨congrArg (fun z => some (Value.int z)) ((by rw [show i = L from by omega])), rfl⟩)
    · skip
      refine ws_aload_n 12 C dX1_countIndented_12 rfl ?_
      refine ws_iload_n 13 C dX1_countIndented_13 rfl ?_
      refine ws_callV0 14 C dX1_countIndented_14 vX1_90 (c_X1_looksIndented hL hW ho hb c9) rfl hL rfl rfl ⟨by decide, by decide⟩ ⟨Nat.zero_le _, Nat.zero_le _⟩ rfl rfl rfl (kR ?_)
      refine ws_nif_eq 17 C 23 dX1_countIndented_17 (by decide) (by have := indN_le μ nxt m lo L i; omega) (fun c17 => ?_) (fun c17 => ?_)
      · skip
        refine ws_wk (lv2 := [some (.ref (ad κ b)), some (.int (nI (smN (indN μ nxt m lo L) (i + 1)))), some (.int (nI i))]) ⟨rfl, (congrArg (fun x => Value.int (nI x)) (sm_0 c17)), rfl, trivial⟩ ?_
        refine ws_iinc 23 C dX1_countIndented_23 rfl (nI (i + 1)) (nI_1 _) rfl [some (.ref (ad κ b)), some (.int (nI (smN (indN μ nxt m lo L) (i + 1)))), some (.int (nI (i + 1)))] rfl ?_
        refine ws_goto 26 C 4 dX1_countIndented_26 (by decide) ?_
        exact ih4 c9
      · skip
        have h1 : indN μ nxt m lo L i = 1 := by have := indN_le μ nxt m lo L i; omega
        refine ws_iinc 20 C dX1_countIndented_20 rfl (nI (smN (indN μ nxt m lo L) (i + 1))) ((nI_1 _).trans (congrArg nI (sm_1 h1).symm)) rfl [some (.ref (ad κ b)), some (.int (nI (smN (indN μ nxt m lo L) (i + 1)))), some (.int (nI i))] rfl ?_
        refine ws_iinc 23 C dX1_countIndented_23 rfl (nI (i + 1)) (nI_1 _) rfl [some (.ref (ad κ b)), some (.int (nI (smN (indN μ nxt m lo L) (i + 1)))), some (.int (nI (i + 1)))] rfl ?_
        refine ws_goto 26 C 4 dX1_countIndented_26 (by decide) ?_
        exact ih4 c9
  exact L4 0 (Nat.zero_le _)

set_option maxRecDepth 100000 in
set_option maxHeartbeats 4000000 in
theorem c_X1_countUnfit {b : Nat} {p l r s lf nx : Nat → Int32} {m lo : Int32} {μ : Mu} {nxt : Nat → Nat} {L : Nat} (hL : Ob z st0 b (bLy κ b p l r (nI (mn μ)) m (mv μ 0 1) lo s (nI L) lf nx)) (hW : LyW μ p l r) (ho : Ok μ) (hb : LyB nxt (mn μ) L s) : CT zl κ yX1_countUnfit cX1_countUnfit 3 (some .int) (r0 4 86) z [.ref (ad κ b)] st0 (PRi (nI (smN (unfN μ nxt m) L)) st0) := by
  obtain ⟨P, hP⟩ : ∃ P : Option Value → St → Prop, P = (PRi (nI (smN (unfN μ nxt m) L)) st0) := ⟨_, rfl⟩
  rw [← hP]
  refine CT.of (by decide +kernel) (Nat.le_of_ble_eq_true rfl) (fun zp ze zs zm zar zbe zme zc C _ => ?_)
  have C : Cx zp zs zm zar zme zc κ cX1_countUnfit 3 RX1 (some .int) := C
  refine ws_lv (lv2 := [some (.ref (ad κ b)), none, none]) rfl ?_
  have h24 := ho.1
  have hLn := hb.L_le
  refine ws_iconst 0 C dX1_countUnfit_0 (nI 0) (by decide) ?_
  refine ws_istore_n 1 C dX1_countUnfit_1 rfl [some (.ref (ad κ b)), some (.int (nI 0)), none] rfl ?_
  refine ws_iconst 2 C dX1_countUnfit_2 (nI 0) (by decide) ?_
  refine ws_istore_n 3 C dX1_countUnfit_3 rfl [some (.ref (ad κ b)), some (.int (nI 0)), some (.int (nI 0))] rfl ?_
  have L4 : ∀ i : Nat, i ≤ L → WS zp zl ze (r0 4 86) zs zm zar zbe zme zc κ z 0 0 (QM zbe zar zs κ z (r0 4 86) P) st0 4 [some (.ref (ad κ b)), some (.int (nI (smN (unfN μ nxt m) i))), some (.int (nI i))] [] := by
    refine dnw ?_
    intro i hi ih4 
    refine ws_iload_n 4 C dX1_countUnfit_4 rfl ?_
    refine ws_aload_n 5 C dX1_countUnfit_5 rfl ?_
    refine ws_get 6 C dX1_countUnfit_6 fX1_37 hL rfl rfl ?_
    refine ws_nicmp_ge 9 C 29 dX1_countUnfit_9 (by decide) (by omega) (by omega) (fun c9 => ?_) (fun c9 => ?_)
    · skip
      refine ws_iload_n 29 C dX1_countUnfit_29 rfl ?_
      exact ws_iret 30 C  dX1_countUnfit_30 rfl (Nat.le_refl _) (Nat.le_refl _) (by rw [hP]; exact ⟨congrArg (fun z => some (Value.int z)) ((by rw [show i = L from by omega])), rfl⟩)
    · skip
      refine ws_aload_n 12 C dX1_countUnfit_12 rfl ?_
      refine ws_iload_n 13 C dX1_countUnfit_13 rfl ?_
      refine ws_callV0 14 C dX1_countUnfit_14 vX1_86 (c_X1_fits hL hW ho hb c9) rfl hL rfl rfl ⟨by decide, by decide⟩ ⟨Nat.zero_le _, Nat.zero_le _⟩ rfl rfl rfl (kR ?_)
      refine ws_if_ne 17 C 23 dX1_countUnfit_17 (by decide)  (fun c17 => ?_) (fun c17 => ?_)
      · skip
        refine ws_wk (lv2 := [some (.ref (ad κ b)), some (.int (nI (smN (unfN μ nxt m) (i + 1)))), some (.int (nI i))]) ⟨rfl, (congrArg (fun x => Value.int (nI x)) (sm_0 (unfN_y (fitI_y c17)))), rfl, trivial⟩ ?_
        refine ws_iinc 23 C dX1_countUnfit_23 rfl (nI (i + 1)) (nI_1 _) rfl [some (.ref (ad κ b)), some (.int (nI (smN (unfN μ nxt m) (i + 1)))), some (.int (nI (i + 1)))] rfl ?_
        refine ws_goto 26 C 4 dX1_countUnfit_26 (by decide) ?_
        exact ih4 c9
      · skip
        have h1 := unfN_n (fitI_n c17)
        refine ws_iinc 20 C dX1_countUnfit_20 rfl (nI (smN (unfN μ nxt m) (i + 1))) ((nI_1 _).trans (congrArg nI (sm_1 h1).symm)) rfl [some (.ref (ad κ b)), some (.int (nI (smN (unfN μ nxt m) (i + 1)))), some (.int (nI i))] rfl ?_
        refine ws_iinc 23 C dX1_countUnfit_23 rfl (nI (i + 1)) (nI_1 _) rfl [some (.ref (ad κ b)), some (.int (nI (smN (unfN μ nxt m) (i + 1)))), some (.int (nI (i + 1)))] rfl ?_
        refine ws_goto 26 C 4 dX1_countUnfit_26 (by decide) ?_
        exact ih4 c9
  exact L4 0 (Nat.zero_le _)

set_option maxRecDepth 100000 in
set_option maxHeartbeats 4000000 in
theorem c_X1_greatestBody {b : Nat} {p l r s lf nx : Nat → Int32} {m lo : Int32} {μ : Mu} {nxt : Nat → Nat} {L : Nat} (hL : Ob z st0 b (bLy κ b p l r (nI (mn μ)) m (mv μ 0 1) lo s (nI L) lf nx)) (hW : LyW μ p l r) (ho : Ok μ) (hb : LyB nxt (mn μ) L s) : CT zl κ yX1_greatestBody cX1_greatestBody 3 (some .int) (r0 3 65) z [.ref (ad κ b)] st0 (PRi (greB μ nxt L) st0) := by
  obtain ⟨P, hP⟩ : ∃ P : Option Value → St → Prop, P = (PRi (greB μ nxt L) st0) := ⟨_, rfl⟩
  rw [← hP]
  refine CT.of (by decide +kernel) (Nat.le_of_ble_eq_true rfl) (fun zp ze zs zm zar zbe zme zc C _ => ?_)
  have C : Cx zp zs zm zar zme zc κ cX1_greatestBody 3 RX1 (some .int) := C
  refine ws_lv (lv2 := [some (.ref (ad κ b)), none, none]) rfl ?_
  have h24 := ho.1
  have hLn := hb.L_le
  refine ws_aload_n 0 C dX1_greatestBody_0 rfl ?_
  refine ws_get 1 C dX1_greatestBody_1 fX1_37 hL rfl rfl ?_
  refine ws_nif_ne 4 C 11 dX1_greatestBody_4 (by decide) (by omega) (fun c4 => ?_) (fun c4 => ?_)
  · skip
    refine ws_aload_n 11 C dX1_greatestBody_11 rfl ?_
    refine ws_iconst 12 C dX1_greatestBody_12 (nI 0) (by decide) ?_
    refine ws_callV0 13 C dX1_greatestBody_13 vX1_83 (c_X1_bodyOfLine (i := 0) hL hW ho hb (by omega)) rfl hL rfl rfl ⟨by decide, by decide⟩ ⟨Nat.zero_le _, Nat.zero_le _⟩ rfl rfl rfl (kR ?_)
    refine ws_istore_n 16 C dX1_greatestBody_16 rfl [some (.ref (ad κ b)), some (.int (mxI (bol μ nxt) 0)), none] rfl ?_
    refine ws_iconst 17 C dX1_greatestBody_17 (nI 1) (by decide) ?_
    refine ws_istore_n 18 C dX1_greatestBody_18 rfl [some (.ref (ad κ b)), some (.int (mxI (bol μ nxt) 0)), some (.int (nI 1))] rfl ?_
    have L19 : ∀ k : Nat, k ≤ L - 1 → WS zp zl ze (r0 3 65) zs zm zar zbe zme zc κ z 0 0 (QM zbe zar zs κ z (r0 3 65) P) st0 19 [some (.ref (ad κ b)), some (.int (mxI (bol μ nxt) k)), some (.int (nI (1 + k)))] [] := by
      refine dnw ?_
      intro k hk ih19 
      refine ws_iload_n 19 C dX1_greatestBody_19 rfl ?_
      refine ws_aload_n 20 C dX1_greatestBody_20 rfl ?_
      refine ws_get 21 C dX1_greatestBody_21 fX1_37 hL rfl rfl ?_
      refine ws_nicmp_ge 24 C 43 dX1_greatestBody_24 (by decide) (by omega) (by omega) (fun c24 => ?_) (fun c24 => ?_)
      · skip
        refine ws_iload_n 43 C dX1_greatestBody_43 rfl ?_
        exact ws_iret 44 C  dX1_greatestBody_44 rfl (Nat.le_refl _) (Nat.le_refl _) (by rw [hP]; exact ⟨congrArg (fun z => some (Value.int z)) ((by rw [show k = L - 1 from by omega]; exact (if_neg (by omega)).symm)), rfl⟩)
      · skip
        refine ws_iload_n 27 C dX1_greatestBody_27 rfl ?_
        refine ws_aload_n 28 C dX1_greatestBody_28 rfl ?_
        refine ws_iload_n 29 C dX1_greatestBody_29 rfl ?_
        refine ws_callV0 30 C dX1_greatestBody_30 vX1_83 (c_X1_bodyOfLine (i := 1 + k) hL hW ho hb c24) rfl hL rfl rfl ⟨by decide, by decide⟩ ⟨Nat.zero_le _, Nat.zero_le _⟩ rfl rfl rfl (kR ?_)
        refine ws_mmax 33 C dX1_greatestBody_33 k294 k151 k11 k152 rfl (by decide) (Nat.le_of_ble_eq_true rfl) (Nat.zero_le _) (Nat.zero_le _) (mxI (bol μ nxt) (k + 1)) ((by rw [Nat.add_comm 1 k]; rfl)) ?_
        refine ws_istore_n 36 C dX1_greatestBody_36 rfl [some (.ref (ad κ b)), some (.int (mxI (bol μ nxt) (k + 1))), some (.int (nI (1 + k)))] rfl ?_
        refine ws_iinc 37 C dX1_greatestBody_37 rfl (nI (1 + k + 1)) (nI_1 _) rfl [some (.ref (ad κ b)), some (.int (mxI (bol μ nxt) (k + 1))), some (.int (nI (1 + k + 1)))] rfl ?_
        refine ws_goto 40 C 19 dX1_greatestBody_40 (by decide) ?_
        exact ih19 (by omega)
    exact L19 0 (Nat.zero_le _)
  · skip
    have hv : -1006 = greB μ nxt L := (if_pos c4).symm
    refine ws_sipush 7 C dX1_greatestBody_7 ((-1006)) (by decide) ?_
    exact ws_iret 10 C  dX1_greatestBody_10 rfl (Nat.le_refl _) (Nat.le_refl _) (by rw [hP]; exact ⟨congrArg (fun z => some (Value.int z)) (hv), rfl⟩)

set_option maxRecDepth 100000 in
set_option maxHeartbeats 4000000 in
theorem c_X1_breaksLike {b b2 : Nat} {p l r s lf nx p2 l2 r2 s2 lf2 nx2 : Nat → Int32} {m lo m2 lo2 sp sp2 wn wn2 : Int32} {n L L2 : Nat} {nxt nxt2 : Nat → Nat} (h24 : n ≤ 24) (hL : Ob z st0 b (bLy κ b p l r wn m sp lo s (nI L) lf nx)) (hL2 : Ob z st0 b2 (bLy κ b2 p2 l2 r2 wn2 m2 sp2 lo2 s2 (nI L2) lf2 nx2)) (hb : LyB nxt n L s) (hb2 : LyB nxt2 n L2 s2) : CT zl κ yX1_breaksLike cX1_breaksLike 3 (some .boolean) (r0 0 0) z [.ref (ad κ b), .ref (ad κ b2)] st0 (PI (fun rr u => ((rr = nI 1 ∧ L = L2 ∧ ∀ i, i < L → stt nxt i = stt nxt2 i) ∨ (rr = nI 0 ∧ ¬ (L = L2 ∧ ∀ i, i < L → stt nxt i = stt nxt2 i))) ∧ u = st0)) := by
  obtain ⟨P, hP⟩ : ∃ P : Option Value → St → Prop, P = (PI (fun rr u => ((rr = nI 1 ∧ L = L2 ∧ ∀ i, i < L → stt nxt i = stt nxt2 i) ∨ (rr = nI 0 ∧ ¬ (L = L2 ∧ ∀ i, i < L → stt nxt i = stt nxt2 i))) ∧ u = st0)) := ⟨_, rfl⟩
  rw [← hP]
  refine CT.of (by decide +kernel) (Nat.le_of_ble_eq_true rfl) (fun zp ze zs zm zar zbe zme zc C _ => ?_)
  have C : Cx zp zs zm zar zme zc κ cX1_breaksLike 3 RX1 (some .boolean) := C
  refine ws_lv (lv2 := [some (.ref (ad κ b)), some (.ref (ad κ b2)), none]) rfl ?_
  have hLn := hb.L_le
  have hLn2 := hb2.L_le
  refine ws_aload_n 0 C dX1_breaksLike_0 rfl ?_
  refine ws_get 1 C dX1_breaksLike_1 fX1_37 hL rfl rfl ?_
  refine ws_aload_n 4 C dX1_breaksLike_4 rfl ?_
  refine ws_get 5 C dX1_breaksLike_5 fX1_37 hL2 rfl rfl ?_
  refine ws_nicmp_eq 8 C 13 dX1_breaksLike_8 (by decide) (by omega) (by omega) (fun c8 => ?_) (fun c8 => ?_)
  · skip
    refine ws_iconst 13 C dX1_breaksLike_13 (nI 0) (by decide) ?_
    refine ws_istore_n 14 C dX1_breaksLike_14 rfl [some (.ref (ad κ b)), some (.ref (ad κ b2)), some (.int (nI 0))] rfl ?_
    have L15 : ∀ k : Nat, k ≤ L → ∀ (hs : ∀ i, i < k → stt nxt i = stt nxt2 i), WS zp zl ze (r0 0 0) zs zm zar zbe zme zc κ z 0 0 (QM zbe zar zs κ z (r0 0 0) P) st0 15 [some (.ref (ad κ b)), some (.ref (ad κ b2)), some (.int (nI k))] [] := by
      refine dnw ?_
      intro k hk ih15 hs
      refine ws_iload_n 15 C dX1_breaksLike_15 rfl ?_
      refine ws_aload_n 16 C dX1_breaksLike_16 rfl ?_
      refine ws_get 17 C dX1_breaksLike_17 fX1_37 hL rfl rfl ?_
      refine ws_nicmp_ge 20 C 46 dX1_breaksLike_20 (by decide) (by omega) (by omega) (fun c20 => ?_) (fun c20 => ?_)
      · skip
        refine ws_iconst 46 C dX1_breaksLike_46 (nI 1) (by decide) ?_
        exact ws_zret 47 C rfl dX1_breaksLike_47 rfl (Nat.le_refl _) (Nat.le_refl _) (by rw [hP]; exact ⟨nI 1, rfl, ⟨Or.inl ⟨rfl, c8, fun i hi => hs i (by omega)⟩, rfl⟩⟩)
      · skip
        refine ws_aload_n 23 C dX1_breaksLike_23 rfl ?_
        refine ws_get 24 C dX1_breaksLike_24 fX1_34 hL rfl rfl ?_
        refine ws_iload_n 27 C dX1_breaksLike_27 rfl ?_
        refine ws_iald 28 C dX1_breaksLike_28 hL 4 rfl (vp_in_nI (by omega) (by decide)) (nI (stt nxt k)) ((congrArg s (nI_clamp (by omega))).trans (hb.at hk)) ?_
        refine ws_aload_n 29 C dX1_breaksLike_29 rfl ?_
        refine ws_get 30 C dX1_breaksLike_30 fX1_34 hL2 rfl rfl ?_
        refine ws_iload_n 33 C dX1_breaksLike_33 rfl ?_
        refine ws_iald 34 C dX1_breaksLike_34 hL2 4 rfl (vp_in_nI (by omega) (by decide)) (nI (stt nxt2 k)) ((congrArg s2 (nI_clamp (by omega))).trans (hb2.at (by omega))) ?_
        refine ws_nicmp_eq 35 C 40 dX1_breaksLike_35 (by decide) (by have := hb.le hk; have := hb2.le (show k ≤ L2 from by omega); omega) (by have := hb.le hk; have := hb2.le (show k ≤ L2 from by omega); omega) (fun c35 => ?_) (fun c35 => ?_)
        · skip
          refine ws_iinc 40 C dX1_breaksLike_40 rfl (nI (k + 1)) (nI_1 _) rfl [some (.ref (ad κ b)), some (.ref (ad κ b2)), some (.int (nI (k + 1)))] rfl ?_
          refine ws_goto 43 C 15 dX1_breaksLike_43 (by decide) ?_
          exact ih15 c20 (fun i hi => (by rcases Nat.lt_or_ge i k with g | g; exact hs i g; rw [show i = k from by omega]; exact c35))
        · skip
          refine ws_iconst 38 C dX1_breaksLike_38 (nI 0) (by decide) ?_
          exact ws_zret 39 C rfl dX1_breaksLike_39 rfl (Nat.le_refl _) (Nat.le_refl _) (by rw [hP]; exact ⟨nI 0, rfl, ⟨Or.inr ⟨rfl, fun q => c35 (q.2 k c20)⟩, rfl⟩⟩)
    exact L15 0 (Nat.zero_le _) (fun i hi => (by omega))
  · skip
    refine ws_iconst 11 C dX1_breaksLike_11 (nI 0) (by decide) ?_
    exact ws_zret 12 C rfl dX1_breaksLike_12 rfl (Nat.le_refl _) (Nat.le_refl _) (by rw [hP]; exact ⟨nI 0, rfl, ⟨Or.inr ⟨rfl, fun q => c8 q.1⟩, rfl⟩⟩)
end
