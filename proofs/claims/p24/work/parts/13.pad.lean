section
variable {zl : Launch} {κ : Kt} {z : Nat} {st0 : St}
set_option maxRecDepth 100000 in
set_option maxHeartbeats 4000000 in
theorem c_X2_lengthOf {V : Nat} (hV : V < 2 ^ 64) : CT zl κ yX2_lengthOf cX2_lengthOf 7 (some .int) (r0 0 0) z [.long (lN V)] st0 (PRi (nI (plen V)) st0) := by
  obtain ⟨P, hP⟩ : ∃ P : Option Value → St → Prop, P = (PRi (nI (plen V)) st0) := ⟨_, rfl⟩
  rw [← hP]
  refine CT.of (by decide +kernel) (Nat.le_of_ble_eq_true rfl) (fun zp ze zs zm zar zbe zme zc C _ => ?_)
  have C : Cx zp zs zm zar zme zc κ cX2_lengthOf 7 RX2 (some .int) := C
  refine ws_lv (lv2 := [some (.long (lN V)), none, none, none, none, none, none]) rfl ?_
  refine ws_iconst 0 C dX2_lengthOf_0 (nI 0) (by decide) ?_
  refine ws_istore_n 1 C dX2_lengthOf_1 rfl [some (.long (lN V)), none, some (.int (nI 0)), none, none, none, none] rfl ?_
  refine ws_lload_n 2 C dX2_lengthOf_2 rfl ?_
  refine ws_lstore_n 3 C dX2_lengthOf_3 rfl rfl [some (.long (lN V)), none, some (.int (nI 0)), some (.long (lN V)), none, none, none] rfl ?_
  refine ws_iconst 4 C dX2_lengthOf_4 (nI 0) (by decide) ?_
  refine ws_istore 5 C dX2_lengthOf_5 rfl [some (.long (lN V)), none, some (.int (nI 0)), some (.long (lN V)), none, some (.int (nI 0)), none] rfl ?_
  have L7 : ∀ i : Nat, i ≤ 8 → ∀ (v : Nat), ∀ (hv : v < 2 ^ 64), ∀ (he : plen V = lenc (8 - i) v i), WS zp zl ze (r0 0 0) zs zm zar zbe zme zc κ z 0 0 (QM zbe zar zs κ z (r0 0 0) P) st0 7 [some (.long (lN V)), none, some (.int (nI i)), some (.long (lN v)), none, some (.int (nI i)), none] [] := by
    refine dnw ?_
    intro i hi ih7 v hv he
    refine ws_iload 7 C dX2_lengthOf_7 rfl ?_
    refine ws_bipush 9 C dX2_lengthOf_9 (nI 8) (by decide) ?_
    refine ws_nicmp_ge 11 C 58 dX2_lengthOf_11 (by decide) (by omega) (by omega) (fun c11 => ?_) (fun c11 => ?_)
    · skip
      have hr : plen V = i := by rw [he, show 8 - i = 0 from by omega]; rfl
      refine ws_iload_n 58 C dX2_lengthOf_58 rfl ?_
      exact ws_iret 59 C  dX2_lengthOf_59 rfl (Nat.le_refl _) (Nat.le_refl _) (by rw [hP]; exact ⟨congrArg (fun z => some (Value.int z)) ((congrArg nI hr.symm)), rfl⟩)
    · skip
      refine ws_lload_n 14 C dX2_lengthOf_14 rfl ?_
      refine ws_lconst 15 C dX2_lengthOf_15 0 (by decide) ?_
      refine ws_lcmp 16 C dX2_lengthOf_16 (lg_cmp (lN v) 0) rfl ?_
      refine ws_if_eq 17 C 58 dX2_lengthOf_17 (by decide)  (fun c17 => ?_) (fun c17 => ?_)
      · skip
        have hz := (lN_0 hv).mp c17
        have hr : plen V = i := by rw [he, hz]; rcases (show 8 - i = 0 ∨ ∃ q, 8 - i = q + 1 from by rcases Nat.eq_zero_or_pos (8 - i) with h | h; exact Or.inl h; exact Or.inr ⟨8 - i - 1, by omega⟩) with h | ⟨q, h⟩ <;> rw [h] <;> rfl
        refine ws_iload_n 58 C dX2_lengthOf_58 rfl ?_
        exact ws_iret 59 C  dX2_lengthOf_59 rfl (Nat.le_refl _) (Nat.le_refl _) (by rw [hP]; exact ⟨congrArg (fun z => some (Value.int z)) ((congrArg nI hr.symm)), rfl⟩)
      · skip
        have hnz : ¬ v = 0 := fun q => c17 ((lN_0 hv).mpr q)
        have hst : lenc (8 - i) v i = if v % 256 < 33 ∨ 126 < v % 256 then 0 else lenc (8 - (i + 1)) (v / 256) (i + 1) := by rw [show 8 - i = (8 - (i + 1)) + 1 from by omega]; exact if_neg hnz
        refine ws_lload_n 20 C dX2_lengthOf_20 rfl ?_
        refine ws_ldc2 21 C dX2_lengthOf_21 (255) k323 ?_
        refine ws_land 24 C dX2_lengthOf_24 (lN (v % 256)) (lN_and255 hv) ?_
        refine ws_l2i 25 C dX2_lengthOf_25 (nI (v % 256)) (lN_i _) ?_
        refine ws_istore 26 C dX2_lengthOf_26 rfl [some (.long (lN V)), none, some (.int (nI i)), some (.long (lN v)), none, some (.int (nI i)), some (.int (nI (v % 256)))] rfl ?_
        refine ws_iload 28 C dX2_lengthOf_28 rfl ?_
        refine ws_bipush 30 C dX2_lengthOf_30 (nI 33) (by decide) ?_
        refine ws_nicmp_lt 32 C 42 dX2_lengthOf_32 (by decide) (by omega) (by omega) (fun c32 => ?_) (fun c32 => ?_)
        · skip
          have hr : plen V = 0 := by rw [he, hst]; exact if_pos (Or.inl c32)
          refine ws_iconst 42 C dX2_lengthOf_42 (nI 0) (by decide) ?_
          exact ws_iret 43 C  dX2_lengthOf_43 rfl (Nat.le_refl _) (Nat.le_refl _) (by rw [hP]; exact ⟨congrArg (fun z => some (Value.int z)) ((congrArg nI hr.symm)), rfl⟩)
        · skip
          refine ws_iload 35 C dX2_lengthOf_35 rfl ?_
          refine ws_bipush 37 C dX2_lengthOf_37 (nI 126) (by decide) ?_
          refine ws_nicmp_le 39 C 44 dX2_lengthOf_39 (by decide) (by omega) (by omega) (fun c39 => ?_) (fun c39 => ?_)
          · skip
            have he2 : plen V = lenc (8 - (i + 1)) (v / 256) (i + 1) := by rw [he, hst]; exact if_neg (by omega)
            refine ws_iinc 44 C dX2_lengthOf_44 rfl (nI (i + 1)) (nI_1 _) rfl [some (.long (lN V)), none, some (.int (nI (i + 1))), some (.long (lN v)), none, some (.int (nI i)), some (.int (nI (v % 256)))] rfl ?_
            refine ws_lload_n 47 C dX2_lengthOf_47 rfl ?_
            refine ws_bipush 48 C dX2_lengthOf_48 (nI 8) (by decide) ?_
            refine ws_lushr 50 C dX2_lengthOf_50 (lN (v / 256)) (lN_sh8 hv) ?_
            refine ws_lstore_n 51 C dX2_lengthOf_51 rfl rfl [some (.long (lN V)), none, some (.int (nI (i + 1))), some (.long (lN (v / 256))), none, some (.int (nI i)), some (.int (nI (v % 256)))] rfl ?_
            refine ws_iinc 52 C dX2_lengthOf_52 rfl (nI (i + 1)) (nI_1 _) rfl [some (.long (lN V)), none, some (.int (nI (i + 1))), some (.long (lN (v / 256))), none, some (.int (nI (i + 1))), some (.int (nI (v % 256)))] rfl ?_
            refine ws_goto 55 C 7 dX2_lengthOf_55 (by decide) ?_
            refine ws_wk (lv2 := [some (.long (lN V)), none, some (.int (nI (i + 1))), some (.long (lN (v / 256))), none, some (.int (nI (i + 1))), none]) ⟨rfl, rfl, rfl, rfl, trivial⟩ ?_
            exact ih7 c11 (v / 256) (by omega) he2
          · skip
            have hr : plen V = 0 := by rw [he, hst]; exact if_pos (Or.inr c39)
            refine ws_iconst 42 C dX2_lengthOf_42 (nI 0) (by decide) ?_
            exact ws_iret 43 C  dX2_lengthOf_43 rfl (Nat.le_refl _) (Nat.le_refl _) (by rw [hP]; exact ⟨congrArg (fun z => some (Value.int z)) ((congrArg nI hr.symm)), rfl⟩)
  exact L7 0 (Nat.zero_le _) V hV rfl

set_option maxRecDepth 100000 in
set_option maxHeartbeats 4000000 in
theorem c_X2_append {b pn : Nat} {t : Nat → Int32} {pt : Nat → Nat} (hP2 : Ob z st0 b (bPd κ b t (nI pn))) (hp : PdP pt pn t) {V n : Nat} (hV : V < 2 ^ 64) (hn : n ≤ 8) (hpn : pn + n ≤ 60) (hc : ∀ j, j < n → 33 ≤ pby V j ∧ pby V j ≤ 126) : CT zl κ yX2_append cX2_append 5 none (r0 0 0) z [.ref (ad κ b), .long (lN V), .int (nI n)] st0 (PV (fun u => (∃ t, Ob z u b (bPd κ b t (nI (pn + n))) ∧ PdP (ptPut pt pn V n) (pn + n) t) ∧ Fr (fun q : Nat => b ≤ q ∧ q < b + 2) st0 u)) := by
  obtain ⟨P, hP⟩ : ∃ P : Option Value → St → Prop, P = (PV (fun u => (∃ t, Ob z u b (bPd κ b t (nI (pn + n))) ∧ PdP (ptPut pt pn V n) (pn + n) t) ∧ Fr (fun q : Nat => b ≤ q ∧ q < b + 2) st0 u)) := ⟨_, rfl⟩
  rw [← hP]
  refine CT.of (by decide +kernel) (Nat.le_of_ble_eq_true rfl) (fun zp ze zs zm zar zbe zme zc C _ => ?_)
  have C : Cx zp zs zm zar zme zc κ cX2_append 5 RX2 none := C
  refine ws_lv (lv2 := [some (.ref (ad κ b)), some (.long (lN V)), none, some (.int (nI n)), none]) rfl ?_
  have h60 := hp.1
  have hF : Fr (fun q : Nat => b ≤ q ∧ q < b + 2) st0 st0 := Fr.rf
  refine ws_iload_n 0 C dX2_append_0 rfl ?_
  refine ws_nif_lt 1 C 15 dX2_append_1 (by decide) (by omega) ?_
  refine ws_aload_n 4 C dX2_append_4 rfl ?_
  refine ws_get 5 C dX2_append_5 fX2_15 hP2 rfl rfl ?_
  refine ws_iload_n 8 C dX2_append_8 rfl ?_
  refine ws_iadd 9 C dX2_append_9 (nI (pn + n)) (nI_add _ _) ?_
  refine ws_bipush 10 C dX2_append_10 (nI 60) (by decide) ?_
  refine ws_nicmp_le 12 C 16 dX2_append_12 (by decide) (by omega) (by omega) (fun c12 => ?_) (fun c12 => ?_)
  · skip
    refine ws_iconst 16 C dX2_append_16 (nI 0) (by decide) ?_
    refine ws_istore 17 C dX2_append_17 rfl [some (.ref (ad κ b)), some (.long (lN V)), none, some (.int (nI n)), some (.int (nI 0))] rfl ?_
    have L19 : ∀ k : Nat, k ≤ n → ∀ (t2 : Nat → Int32), ∀ (h1 : ∀ q, q < pn → t2 q = nI (pt q)), ∀ (h2 : ∀ q, n - k ≤ q → q < n → t2 (pn + q) = nI (pby V (n - 1 - q))), ∀ (h3 : ∀ q, fits .char (.int (t2 q)) = true), ∀ (st1 : St), ∀ (hP2 : Ob z st1 b (bPd κ b t2 (nI pn))), ∀ (hF : Fr (fun q : Nat => b ≤ q ∧ q < b + 2) st0 st1), WS zp zl ze (r0 0 0) zs zm zar zbe zme zc κ z 0 0 (QM zbe zar zs κ z (r0 0 0) P) st1 19 [some (.ref (ad κ b)), some (.long (lN V)), none, some (.int (nI n)), some (.int (nI k))] [] := by
      refine dnw ?_
      intro k hk ih19 t2 h1 h2 h3 st1 hP2 hF
      refine ws_iload 19 C dX2_append_19 rfl ?_
      refine ws_iload_n 21 C dX2_append_21 rfl ?_
      refine ws_nicmp_ge 22 C 60 dX2_append_22 (by decide) (by omega) (by omega) (fun c22 => ?_) (fun c22 => ?_)
      · skip
        refine ws_aload_n 60 C dX2_append_60 rfl ?_
        refine ws_dup 61 C dX2_append_61 rfl ?_
        refine ws_get 62 C dX2_append_62 fX2_15 hP2 rfl rfl ?_
        refine ws_iload_n 65 C dX2_append_65 rfl ?_
        refine ws_iadd 66 C dX2_append_66 (nI (pn + n)) (nI_add _ _) ?_
        refine ws_put 67 C dX2_append_67 fX2_15 q2_1 hP2 rfl (Nat.le_of_ble_eq_true rfl) rfl rfl (fun st2 est2 => ?_)
        have hP2 : Ob z st2 b (bPd κ b t2 (nI (pn + n))) := Ob.put' (j := 0) hP2 est2 rfl
        have hF := hF.put' est2 (show b ≤ (b) ∧ (b) < b + 2 from by omega)
        exact ws_vret 70 C dX2_append_70 rfl (Nat.le_refl _) (Nat.le_refl _) (by rw [hP]; exact ⟨rfl, ⟨⟨t2, hP2, app_end hp hpn hc h1 (fun q hq => h2 q (by omega) hq) h3⟩, hF⟩⟩)
      · skip
        refine ws_aload_n 25 C dX2_append_25 rfl ?_
        refine ws_get 26 C dX2_append_26 fX2_9 hP2 rfl rfl ?_
        refine ws_aload_n 29 C dX2_append_29 rfl ?_
        refine ws_get 30 C dX2_append_30 fX2_15 hP2 rfl rfl ?_
        refine ws_iload_n 33 C dX2_append_33 rfl ?_
        refine ws_iadd 34 C dX2_append_34 (nI (pn + n)) (nI_add _ _) ?_
        refine ws_iconst 35 C dX2_append_35 (nI 1) (by decide) ?_
        refine ws_isub 36 C dX2_append_36 (nI (pn + n - 1)) (pk_sub (by omega)) ?_
        refine ws_iload 37 C dX2_append_37 rfl ?_
        refine ws_isub 39 C dX2_append_39 (nI (pn + n - 1 - k)) (pk_sub (by omega)) ?_
        refine ws_lload_n 40 C dX2_append_40 rfl ?_
        refine ws_bipush 41 C dX2_append_41 (nI 8) (by decide) ?_
        refine ws_iload 43 C dX2_append_43 rfl ?_
        refine ws_imul 45 C dX2_append_45 (nI (8 * k)) (pk_mul _ _) ?_
        refine ws_lushr 46 C dX2_append_46 (lN (V / 2 ^ (8 * k))) (wb_shr hV (by omega)) ?_
        refine ws_ldc2 47 C dX2_append_47 (255) k323 ?_
        refine ws_land 50 C dX2_append_50 (lN (pby V k)) (lN_and255 (Nat.lt_of_le_of_lt (Nat.div_le_self _ _) hV)) ?_
        have hck := hc k c22
        have hfv : fits .char (.int (nI (pby V k))) = true := fit_of (by omega)
        refine ws_l2i 51 C dX2_append_51 (nI (pby V k)) (lN_i _) ?_
        refine ws_i2c 52 C dX2_append_52 (nI (pby V k)) (chr16 (by omega)) ?_
        refine ws_cast 53 C dX2_append_53 hP2 1 rfl (vp_in_nI (by omega) (by decide)) (pn + n - 1 - k) (nI_clamp (by omega)) (nI (pby V k)) (fit_nar hfv) (fun st3 est3 => ?_)
        have hP2 : Ob z st3 b (bPd κ b (upd t2 (pn + n - 1 - k) (nI (pby V k))) (nI pn)) := Ob.put' (j := 1) hP2 est3 rfl
        have hF := hF.put' est3 (show b ≤ (b + 1) ∧ (b + 1) < b + 2 from by omega)
        refine ws_iinc 54 C dX2_append_54 rfl (nI (k + 1)) (nI_1 _) rfl [some (.ref (ad κ b)), some (.long (lN V)), none, some (.int (nI n)), some (.int (nI (k + 1)))] rfl ?_
        refine ws_goto 57 C 19 dX2_append_57 (by decide) ?_
        exact ih19 c22 (upd t2 (pn + n - 1 - k) (nI (pby V k))) (app_1 h1 (by omega)) (app_2 c22 h2) (upd_fit h3 hfv) st3 hP2 hF
    exact L19 0 (Nat.zero_le _) t (fun q hq => hp.at hq) (fun q h5 h6 => (by omega)) hp.2.1 st0 hP2 hF
  · skip
    (exfalso; omega)

set_option maxRecDepth 100000 in
set_option maxHeartbeats 4000000 in
theorem c_X2_firstFault {b pn : Nat} {t : Nat → Int32} {pt : Nat → Nat} (hP2 : Ob z st0 b (bPd κ b t (nI pn))) (hp : PdP pt pn t) : CT zl κ yX2_firstFault cX2_firstFault 3 (some .int) (r0 1 20) z [.ref (ad κ b)] st0 (PRi (flt pt pn) st0) := by
  obtain ⟨P, hP⟩ : ∃ P : Option Value → St → Prop, P = (PRi (flt pt pn) st0) := ⟨_, rfl⟩
  rw [← hP]
  refine CT.of (by decide +kernel) (Nat.le_of_ble_eq_true rfl) (fun zp ze zs zm zar zbe zme zc C _ => ?_)
  have C : Cx zp zs zm zar zme zc κ cX2_firstFault 3 RX2 (some .int) := C
  refine ws_lv (lv2 := [some (.ref (ad κ b)), none, none]) rfl ?_
  have h60 := hp.1
  refine ws_iconst 0 C dX2_firstFault_0 (nI 0) (by decide) ?_
  refine ws_istore_n 1 C dX2_firstFault_1 rfl [some (.ref (ad κ b)), some (.int (nI 0)), none] rfl ?_
  refine ws_iconst 2 C dX2_firstFault_2 (nI 0) (by decide) ?_
  refine ws_istore_n 3 C dX2_firstFault_3 rfl [some (.ref (ad κ b)), some (.int (nI 0)), some (.int (nI 0))] rfl ?_
  have L4 : ∀ k : Nat, k ≤ pn → ∀ (he : flt pt pn = ftf pt (pn - k) k), WS zp zl ze (r0 1 20) zs zm zar zbe zme zc κ z 0 0 (QM zbe zar zs κ z (r0 1 20) P) st0 4 [some (.ref (ad κ b)), some (.int (nI (sgk pt k))), some (.int (nI k))] [] := by
    refine dnw ?_
    intro k hk ih4 he
    have hsk := sgk_le pt k
    refine ws_iload_n 4 C dX2_firstFault_4 rfl ?_
    refine ws_aload_n 5 C dX2_firstFault_5 rfl ?_
    refine ws_get 6 C dX2_firstFault_6 fX2_15 hP2 rfl rfl ?_
    refine ws_nicmp_ge 9 C 63 dX2_firstFault_9 (by decide) (by omega) (by omega) (fun c9 => ?_) (fun c9 => ?_)
    · skip
      have hz := ftf_e (pt := pt) (show k = pn from by omega)
      have hkp : k = pn := by omega
      refine ws_iload_n 63 C dX2_firstFault_63 rfl ?_
      refine ws_nif_ne 64 C 74 dX2_firstFault_64 (by decide) (by omega) (fun c64 => ?_) (fun c64 => ?_)
      · skip
        have hv : -1006 = flt pt pn := by rw [he, hz, if_neg (by rw [← hkp]; exact c64)]
        refine ws_sipush 74 C dX2_firstFault_74 ((-1006)) (by decide) ?_
        exact ws_iret 77 C  dX2_firstFault_77 rfl (Nat.le_refl _) (Nat.le_refl _) (by rw [hP]; exact ⟨congrArg (fun z => some (Value.int z)) (hv), rfl⟩)
      · skip
        have hv : nI pn = flt pt pn := by rw [he, hz, if_pos (by rw [← hkp]; exact c64)]
        refine ws_aload_n 67 C dX2_firstFault_67 rfl ?_
        refine ws_get 68 C dX2_firstFault_68 fX2_15 hP2 rfl rfl ?_
        refine ws_goto 71 C 77 dX2_firstFault_71 (by decide) ?_
        exact ws_iret 77 C  dX2_firstFault_77 rfl (Nat.le_refl _) (Nat.le_refl _) (by rw [hP]; exact ⟨congrArg (fun z => some (Value.int z)) (hv), rfl⟩)
    · skip
      have hs := ftf_s (pt := pt) c9
      refine ws_aload_n 12 C dX2_firstFault_12 rfl ?_
      refine ws_get 13 C dX2_firstFault_13 fX2_9 hP2 rfl rfl ?_
      refine ws_iload_n 16 C dX2_firstFault_16 rfl ?_
      refine ws_cald 17 C dX2_firstFault_17 hP2 1 rfl (vp_in_nI (by omega) (by decide)) (nI (pt k)) ((congrArg t (nI_clamp (by omega))).trans (hp.at c9)) ?_
      refine ws_bipush 18 C dX2_firstFault_18 (nI 95) (by decide) ?_
      refine ws_nicmp_ne 20 C 34 dX2_firstFault_20 (by decide) (by first | omega | (have := hp.lt c9; omega)) (by first | omega | (have := hp.lt c9; omega)) (fun c20 => ?_) (fun c20 => ?_)
      · skip
        refine ws_aload_n 34 C dX2_firstFault_34 rfl ?_
        refine ws_get 35 C dX2_firstFault_35 fX2_9 hP2 rfl rfl ?_
        refine ws_iload_n 38 C dX2_firstFault_38 rfl ?_
        refine ws_cald 39 C dX2_firstFault_39 hP2 1 rfl (vp_in_nI (by omega) (by decide)) (nI (pt k)) ((congrArg t (nI_clamp (by omega))).trans (hp.at c9)) ?_
        refine ws_callSN0 40 C dX2_firstFault_40 vX2_21 (c_X4_sortWith) rfl ⟨by decide, by decide⟩ ⟨Nat.zero_le _, Nat.zero_le _⟩ rfl rfl rfl (kR ?_)
        refine ws_if_lt 43 C 52 dX2_firstFault_43 (by decide)  (fun c43 => ?_) (fun c43 => ?_)
        · skip
          have hr : flt pt pn = nI k := by rw [he, hs, if_neg c20, if_neg (scv_neg c43)]
          refine ws_iload_n 52 C dX2_firstFault_52 rfl ?_
          exact ws_iret 53 C  dX2_firstFault_53 rfl (Nat.le_refl _) (Nat.le_refl _) (by rw [hP]; exact ⟨congrArg (fun z => some (Value.int z)) (hr.symm), rfl⟩)
        · skip
          have h8 := scv_nn c43
          refine ws_iload_n 46 C dX2_firstFault_46 rfl ?_
          refine ws_bipush 47 C dX2_firstFault_47 (nI 10) (by decide) ?_
          refine ws_nicmp_ne 49 C 54 dX2_firstFault_49 (by decide) (by omega) (by omega) (fun c49 => ?_) (fun c49 => ?_)
          · skip
            refine ws_iinc 54 C dX2_firstFault_54 rfl (nI (sgk pt (k + 1))) ((nI_1 _).trans (congrArg nI (if_neg c20).symm)) rfl [some (.ref (ad κ b)), some (.int (nI (sgk pt (k + 1)))), some (.int (nI k))] rfl ?_
            refine ws_iinc 57 C dX2_firstFault_57 rfl (nI (k + 1)) (nI_1 _) rfl [some (.ref (ad κ b)), some (.int (nI (sgk pt (k + 1)))), some (.int (nI (k + 1)))] rfl ?_
            refine ws_goto 60 C 4 dX2_firstFault_60 (by decide) ?_
            exact ih4 c9 (by rw [he, hs, if_neg c20, if_pos h8, if_neg c49])
          · skip
            have hr : flt pt pn = nI k := by rw [he, hs, if_neg c20, if_pos h8, if_pos c49]
            refine ws_iload_n 52 C dX2_firstFault_52 rfl ?_
            exact ws_iret 53 C  dX2_firstFault_53 rfl (Nat.le_refl _) (Nat.le_refl _) (by rw [hP]; exact ⟨congrArg (fun z => some (Value.int z)) (hr.symm), rfl⟩)
      · skip
        refine ws_iload_n 23 C dX2_firstFault_23 rfl ?_
        refine ws_nif_ne 24 C 29 dX2_firstFault_24 (by decide) (by omega) (fun c24 => ?_) (fun c24 => ?_)
        · skip
          refine ws_iconst 29 C dX2_firstFault_29 (nI 0) (by decide) ?_
          refine ws_istore_n 30 C dX2_firstFault_30 rfl [some (.ref (ad κ b)), some (.int (nI 0)), some (.int (nI k))] rfl ?_
          refine ws_wk (lv2 := [some (.ref (ad κ b)), some (.int (nI (sgk pt (k + 1)))), some (.int (nI k))]) ⟨rfl, (congrArg (fun x => Value.int (nI x)) (if_pos c20)), rfl, trivial⟩ ?_
          refine ws_goto 31 C 57 dX2_firstFault_31 (by decide) ?_
          refine ws_iinc 57 C dX2_firstFault_57 rfl (nI (k + 1)) (nI_1 _) rfl [some (.ref (ad κ b)), some (.int (nI (sgk pt (k + 1)))), some (.int (nI (k + 1)))] rfl ?_
          refine ws_goto 60 C 4 dX2_firstFault_60 (by decide) ?_
          exact ih4 c9 (by rw [he, hs, if_pos c20, if_neg c24])
        · skip
          have hr : flt pt pn = nI k := by rw [he, hs, if_pos c20, if_pos c24]
          refine ws_iload_n 27 C dX2_firstFault_27 rfl ?_
          exact ws_iret 28 C  dX2_firstFault_28 rfl (Nat.le_refl _) (Nat.le_refl _) (by rw [hP]; exact ⟨congrArg (fun z => some (Value.int z)) (hr.symm), rfl⟩)
  exact L4 0 (Nat.zero_le _) rfl

set_option maxRecDepth 100000 in
set_option maxHeartbeats 4000000 in
theorem c_X2_countWords {b pn : Nat} {t : Nat → Int32} {pt : Nat → Nat} (hP2 : Ob z st0 b (bPd κ b t (nI pn))) (hp : PdP pt pn t) : CT zl κ yX2_countWords cX2_countWords 3 (some .int) (r0 0 0) z [.ref (ad κ b)] st0 (PRi (nI (wno pt pn)) st0) := by
  obtain ⟨P, hP⟩ : ∃ P : Option Value → St → Prop, P = (PRi (nI (wno pt pn)) st0) := ⟨_, rfl⟩
  rw [← hP]
  refine CT.of (by decide +kernel) (Nat.le_of_ble_eq_true rfl) (fun zp ze zs zm zar zbe zme zc C _ => ?_)
  have C : Cx zp zs zm zar zme zc κ cX2_countWords 3 RX2 (some .int) := C
  refine ws_lv (lv2 := [some (.ref (ad κ b)), none, none]) rfl ?_
  have h60 := hp.1
  refine ws_iconst 0 C dX2_countWords_0 (nI 1) (by decide) ?_
  refine ws_istore_n 1 C dX2_countWords_1 rfl [some (.ref (ad κ b)), some (.int (nI 1)), none] rfl ?_
  refine ws_iconst 2 C dX2_countWords_2 (nI 0) (by decide) ?_
  refine ws_istore_n 3 C dX2_countWords_3 rfl [some (.ref (ad κ b)), some (.int (nI 1)), some (.int (nI 0))] rfl ?_
  have L4 : ∀ k : Nat, k ≤ pn → ∀ (i : Nat), ∀ (hi : WrdI pt pn k i), WS zp zl ze (r0 0 0) zs zm zar zbe zme zc κ z 0 0 (QM zbe zar zs κ z (r0 0 0) P) st0 4 [some (.ref (ad κ b)), some (.int (nI (1 + i))), some (.int (nI k))] [] := by
    refine dnw ?_
    intro k hk ih4 i hi
    have hik := hi.1
    refine ws_iload_n 4 C dX2_countWords_4 rfl ?_
    refine ws_aload_n 5 C dX2_countWords_5 rfl ?_
    refine ws_get 6 C dX2_countWords_6 fX2_15 hP2 rfl rfl ?_
    refine ws_nicmp_ge 9 C 32 dX2_countWords_9 (by decide) (by omega) (by omega) (fun c9 => ?_) (fun c9 => ?_)
    · skip
      refine ws_iload_n 32 C dX2_countWords_32 rfl ?_
      exact ws_iret 33 C  dX2_countWords_33 rfl (Nat.le_refl _) (Nat.le_refl _) (by rw [hP]; exact ⟨congrArg (fun z => some (Value.int z)) ((congrArg nI (hi.end (show k = pn from by omega)))), rfl⟩)
    · skip
      refine ws_aload_n 12 C dX2_countWords_12 rfl ?_
      refine ws_get 13 C dX2_countWords_13 fX2_9 hP2 rfl rfl ?_
      refine ws_iload_n 16 C dX2_countWords_16 rfl ?_
      refine ws_cald 17 C dX2_countWords_17 hP2 1 rfl (vp_in_nI (by omega) (by decide)) (nI (pt k)) ((congrArg t (nI_clamp (by omega))).trans (hp.at c9)) ?_
      refine ws_bipush 18 C dX2_countWords_18 (nI 95) (by decide) ?_
      refine ws_nicmp_ne 20 C 26 dX2_countWords_20 (by decide) (by first | omega | (have := hp.lt c9; omega)) (by first | omega | (have := hp.lt c9; omega)) (fun c20 => ?_) (fun c20 => ?_)
      · skip
        refine ws_iinc 26 C dX2_countWords_26 rfl (nI (k + 1)) (nI_1 _) rfl [some (.ref (ad κ b)), some (.int (nI (1 + i))), some (.int (nI (k + 1)))] rfl ?_
        refine ws_goto 29 C 4 dX2_countWords_29 (by decide) ?_
        exact ih4 c9 i (hi.go c9 c20)
      · skip
        refine ws_iinc 23 C dX2_countWords_23 rfl (nI (1 + (i + 1))) (nI_1 _) rfl [some (.ref (ad κ b)), some (.int (nI (1 + (i + 1)))), some (.int (nI k))] rfl ?_
        refine ws_iinc 26 C dX2_countWords_26 rfl (nI (k + 1)) (nI_1 _) rfl [some (.ref (ad κ b)), some (.int (nI (1 + (i + 1)))), some (.int (nI (k + 1)))] rfl ?_
        refine ws_goto 29 C 4 dX2_countWords_29 (by decide) ?_
        exact ih4 c9 (i + 1) (hi.new c9 c20)
  exact L4 0 (Nat.zero_le _) 0 WrdI.start

set_option maxRecDepth 100000 in
set_option maxHeartbeats 4000000 in
theorem c_X2_addWordsTo {b b2 pn : Nat} {t : Nat → Int32} {pt : Nat → Nat} {f1 f2 f3 f4 f5 f6 : Nat → Int32} {μ : Mu} (hP2 : Ob z st0 b (bPd κ b t (nI pn))) (hp : PdP pt pn t) (hB : Ob z st0 b2 (bSh κ b2 f1 f2 f3 f4 f5 f6 (nI (mn μ)))) (hR : Rp μ f1 f2 f3 f4 f5 f6) (hd : b + 2 ≤ b2 ∨ b2 + 7 ≤ b) (hN : NoF pt pn) (hw : mn μ + wno pt pn ≤ 24) : CT zl κ yX2_addWordsTo cX2_addWordsTo 3 none (r0 1 22) z [.ref (ad κ b), .ref (ad κ b2)] st0 (PV (fun u => ShP κ z u b2 (muRead μ pt pn) ∧ Fr (fun q : Nat => b2 ≤ q ∧ q < b2 + 7) st0 u)) := by
  obtain ⟨P, hP⟩ : ∃ P : Option Value → St → Prop, P = (PV (fun u => ShP κ z u b2 (muRead μ pt pn) ∧ Fr (fun q : Nat => b2 ≤ q ∧ q < b2 + 7) st0 u)) := ⟨_, rfl⟩
  rw [← hP]
  refine CT.of (by decide +kernel) (Nat.le_of_ble_eq_true rfl) (fun zp ze zs zm zar zbe zme zc C _ => ?_)
  have C : Cx zp zs zm zar zme zc κ cX2_addWordsTo 3 RX2 none := C
  refine ws_lv (lv2 := [some (.ref (ad κ b)), some (.ref (ad κ b2)), none]) rfl ?_
  have h60 := hp.1
  have hwp := wno_pos pt pn
  have hF : Fr (fun q : Nat => b2 ≤ q ∧ q < b2 + 7) st0 st0 := Fr.rf
  refine ws_aload_n 0 C dX2_addWordsTo_0 rfl ?_
  refine ws_callV0 1 C dX2_addWordsTo_1 vX2_25 (c_X3_beginWord hB (by omega)) rfl hB rfl rfl ⟨by decide, by decide⟩ ⟨Nat.zero_le _, Nat.zero_le _⟩ rfl rfl rfl (kV (fun u1 h1 => ?_))
  obtain ⟨hB, hfr⟩ := h1
  have hP2 := hfr.ob hP2 (fun q (g1 : b ≤ q) (g2 : q < b + 2) => (show ¬ (b2 ≤ q ∧ q < b2 + 7) from by omega))
  have hF := hF.then hfr (fun q (hq : b2 ≤ q ∧ q < b2 + 7) => (show b2 ≤ q ∧ q < b2 + 7 from by omega))
  refine ws_iconst 4 C dX2_addWordsTo_4 (nI 0) (by decide) ?_
  refine ws_istore_n 5 C dX2_addWordsTo_5 rfl [some (.ref (ad κ b)), some (.ref (ad κ b2)), some (.int (nI 0))] rfl ?_
  have L6 : ∀ k : Nat, k ≤ pn → ∀ (i : Nat), ∀ (g5 : Nat → Int32), ∀ (g6 : Nat → Int32), ∀ (hi : WrdI pt pn k i), ∀ (ha : AddI μ pt pn k i f5 f6 g5 g6), ∀ (st1 : St), ∀ (hP2 : Ob z st1 b (bPd κ b t (nI pn))), ∀ (hB : Ob z st1 b2 (bSh κ b2 f1 f2 f3 f4 g5 g6 (nI (mn μ + i + 1)))), ∀ (hF : Fr (fun q : Nat => b2 ≤ q ∧ q < b2 + 7) st0 st1), WS zp zl ze (r0 1 22) zs zm zar zbe zme zc κ z 0 0 (QM zbe zar zs κ z (r0 1 22) P) st1 6 [some (.ref (ad κ b)), some (.ref (ad κ b2)), some (.int (nI k))] [] := by
    refine dnw ?_
    intro k hk ih6 i g5 g6 hi ha st1 hP2 hB hF
    refine ws_iload_n 6 C dX2_addWordsTo_6 rfl ?_
    refine ws_aload_n 7 C dX2_addWordsTo_7 rfl ?_
    refine ws_get 8 C dX2_addWordsTo_8 fX2_15 hP2 rfl rfl ?_
    refine ws_nicmp_ge 11 C 48 dX2_addWordsTo_11 (by decide) (by omega) (by omega) (fun c11 => ?_) (fun c11 => ?_)
    · skip
      exact ws_vret 48 C dX2_addWordsTo_48 rfl (Nat.le_refl _) (Nat.le_refl _) (by rw [hP]; exact ⟨rfl, ⟨(by have hz := hi.end (show k = pn from by omega); exact ⟨f1, f2, f3, f4, g5, g6, (show Ob z _ b2 (bSh κ b2 f1 f2 f3 f4 g5 g6 (nI (mn μ + wno pt pn))) from by rw [← hz, show mn μ + (1 + i) = mn μ + i + 1 from by omega]; exact hB), ha.end hR hN hw hi (show k = pn from by omega)⟩), hF⟩⟩)
    · skip
      have hiw := hi.lt
      refine ws_aload_n 14 C dX2_addWordsTo_14 rfl ?_
      refine ws_get 15 C dX2_addWordsTo_15 fX2_9 hP2 rfl rfl ?_
      refine ws_iload_n 18 C dX2_addWordsTo_18 rfl ?_
      refine ws_cald 19 C dX2_addWordsTo_19 hP2 1 rfl (vp_in_nI (by omega) (by decide)) (nI (pt k)) ((congrArg t (nI_clamp (by omega))).trans (hp.at c11)) ?_
      refine ws_bipush 20 C dX2_addWordsTo_20 (nI 95) (by decide) ?_
      refine ws_nicmp_ne 22 C 32 dX2_addWordsTo_22 (by decide) (by first | omega | (have := hp.lt c11; omega)) (by first | omega | (have := hp.lt c11; omega)) (fun c22 => ?_) (fun c22 => ?_)
      · skip
        have hi2 := hi.go c11 c22
        have hwk := hi.word hN c11 c22
        refine ws_aload_n 32 C dX2_addWordsTo_32 rfl ?_
        refine ws_aload_n 33 C dX2_addWordsTo_33 rfl ?_
        refine ws_get 34 C dX2_addWordsTo_34 fX2_9 hP2 rfl rfl ?_
        refine ws_iload_n 37 C dX2_addWordsTo_37 rfl ?_
        refine ws_cald 38 C dX2_addWordsTo_38 hP2 1 rfl (vp_in_nI (by omega) (by decide)) (nI (pt k)) ((congrArg t (nI_clamp (by omega))).trans (hp.at c11)) ?_
        refine ws_callV0 39 C dX2_addWordsTo_39 vX2_30 (c_X3_addSign hB (by omega) (by omega) (L := k - wst pt pn i) ((congrArg g6 (by omega)).trans ha.cur) (by omega) (fit_of (by have := hp.lt c11; omega))) rfl hB rfl rfl ⟨by decide, by decide⟩ ⟨Nat.zero_le _, Nat.zero_le _⟩ rfl rfl rfl (kV (fun u39 h39 => ?_))
        obtain ⟨hB, hfr⟩ := h39
        have hP2 := hfr.ob hP2 (fun q (g1 : b ≤ q) (g2 : q < b + 2) => (show ¬ (b2 ≤ q ∧ q < b2 + 7) from by omega))
        have hF := hF.then hfr (fun q (hq : b2 ≤ q ∧ q < b2 + 7) => (show b2 ≤ q ∧ q < b2 + 7 from by omega))
        refine ws_iinc 42 C dX2_addWordsTo_42 rfl (nI (k + 1)) (nI_1 _) rfl [some (.ref (ad κ b)), some (.ref (ad κ b2)), some (.int (nI (k + 1)))] rfl ?_
        refine ws_goto 45 C 6 dX2_addWordsTo_45 (by decide) ?_
        exact ih6 c11 i (upd g5 ((mn μ + i + 1 - 1) * 10 + (k - wst pt pn i)) (nI (pt k))) (upd g6 (mn μ + i + 1 - 1) (nI (k - wst pt pn i + 1))) hi2 (ha.add hN hi c11 c22 (by have := hp.lt c11; omega)) u39 hP2 hB hF
      · skip
        have hi2 := hi.new c11 c22
        have hiw2 := hi2.lt
        refine ws_aload_n 25 C dX2_addWordsTo_25 rfl ?_
        refine ws_callV0 26 C dX2_addWordsTo_26 vX2_25 (c_X3_beginWord hB (by omega)) rfl hB rfl rfl ⟨by decide, by decide⟩ ⟨Nat.zero_le _, Nat.zero_le _⟩ rfl rfl rfl (kV (fun u26 h26 => ?_))
        obtain ⟨hB, hfr⟩ := h26
        have hP2 := hfr.ob hP2 (fun q (g1 : b ≤ q) (g2 : q < b + 2) => (show ¬ (b2 ≤ q ∧ q < b2 + 7) from by omega))
        have hF := hF.then hfr (fun q (hq : b2 ≤ q ∧ q < b2 + 7) => (show b2 ≤ q ∧ q < b2 + 7 from by omega))
        refine ws_goto 29 C 42 dX2_addWordsTo_29 (by decide) ?_
        refine ws_iinc 42 C dX2_addWordsTo_42 rfl (nI (k + 1)) (nI_1 _) rfl [some (.ref (ad κ b)), some (.ref (ad κ b2)), some (.int (nI (k + 1)))] rfl ?_
        refine ws_goto 45 C 6 dX2_addWordsTo_45 (by decide) ?_
        exact ih6 c11 (i + 1) g5 (upd g6 (mn μ + i + 1) (nI 0)) hi2 (ha.new hi c11 c22) u26 hP2 hB hF
  exact L6 0 (Nat.zero_le _) 0 f5 (upd f6 (mn μ) (nI 0)) WrdI.start (AddI.start hR) u1 hP2 hB hF
end
