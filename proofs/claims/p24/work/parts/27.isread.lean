section
variable {zl : Launch} {κ : Kt} {z : Nat} {st0 : St}
set_option maxRecDepth 100000 in
set_option maxHeartbeats 4000000 in
theorem c_L_isRead {S T : Sg} (hW : WI κ st0 S T) (hJ : JJ S T) {x y : Int32} : CT zl κ yL_isRead cL_isRead 12 (some .boolean) (r0 8 176) 182 [.ref (ad κ 0), .ref (ad κ 91), .int (x), .int (y)] st0 (PI (fun r u => r = nI 1 ∧ ∃ S' T', JJ S' T' ∧ WI κ u S' T')) := by
  obtain ⟨P, hP⟩ : ∃ P : Option Value → St → Prop, P = (PI (fun r u => r = nI 1 ∧ ∃ S' T', JJ S' T' ∧ WI κ u S' T')) := ⟨_, rfl⟩
  rw [← hP]
  refine CT.of (by decide +kernel) (Nat.le_of_ble_eq_true rfl) (fun zp ze zs zm zar zbe zme zc C _ => ?_)
  have C : Cx zp zs zm zar zme zc κ cL_isRead 12 RL (some .boolean) := C
  refine ws_lv (lv2 := [some (.ref (ad κ 0)), some (.ref (ad κ 91)), some (.int (x)), some (.int (y)), none, none, none, none, none, none, none, none]) rfl ?_
  have hO := hW.o
  have hQ := hW.p
  have hp1 := hW.1.pn
  have hp2 := hW.2.pn
  have h24 := hW.1.ok.1
  have hRd := RdI.wipe hJ
  refine ws_aload_n 0 C dL_isRead_0 rfl ?_
  refine ws_callV0 1 C dL_isRead_1 vL_18 (o_wipe hW) rfl hO rfl rfl ⟨by decide, by decide⟩ ⟨Nat.zero_le _, Nat.zero_le _⟩ rfl rfl rfl (kI' (fun r1 u1 h1 => ?_))
  obtain ⟨hr, hW⟩ := h1
  have hr := hr.trans ((rfl : (fWipe S).1 = nI (sPn S)))
  subst hr
  have hO := hW.o
  have hQ := hW.p
  refine ws_nif_lt 4 C 18 dL_isRead_4 (by decide) (by omega) ?_
  refine ws_aload_n 7 C dL_isRead_7 rfl ?_
  refine ws_callV0 8 C dL_isRead_8 vL_18 (p_wipe hW) rfl hQ rfl rfl ⟨by decide, by decide⟩ ⟨Nat.zero_le _, Nat.zero_le _⟩ rfl rfl rfl (kI' (fun r8 u8 h8 => ?_))
  obtain ⟨hr, hW⟩ := h8
  have hr := hr.trans ((rfl : (fWipe T).1 = nI (sPn T)))
  subst hr
  have hO := hW.o
  have hQ := hW.p
  refine ws_nif_lt 11 C 18 dL_isRead_11 (by decide) (by omega) ?_
  refine ws_iconst 14 C dL_isRead_14 (nI 1) (by decide) ?_
  refine ws_goto 15 C 19 dL_isRead_15 (by decide) ?_
  refine ws_istore 19 C dL_isRead_19 rfl [some (.ref (ad κ 0)), some (.ref (ad κ 91)), some (.int (x)), some (.int (y)), some (.int (nI 1)), none, none, none, none, none, none, none] rfl ?_
  refine ws_iconst 21 C dL_isRead_21 (nI 1) (by decide) ?_
  refine ws_iload_n 22 C dL_isRead_22 rfl ?_
  refine ws_iconst 23 C dL_isRead_23 (nI 5) (by decide) ?_
  refine ws_callS0 24 C dL_isRead_24 vL_24 (c_L_up (v := x) (n := 5) (by omega) (by omega)) rfl ⟨by decide, by decide⟩ ⟨Nat.zero_le _, Nat.zero_le _⟩ rfl rfl rfl (kR ?_)
  have hlt24 := upn_lt x (n := 5) (by omega)
  refine ws_iadd 27 C dL_isRead_27 (nI (1 + upn x 5)) (nI_add _ _) ?_
  refine ws_istore 28 C dL_isRead_28 rfl [some (.ref (ad κ 0)), some (.ref (ad κ 91)), some (.int (x)), some (.int (y)), some (.int (nI 1)), some (.int (nI (1 + upn x 5))), none, none, none, none, none, none] rfl ?_
  refine ws_aload_n 30 C dL_isRead_30 rfl ?_
  refine ws_iconst 31 C dL_isRead_31 (nI 4) (by decide) ?_
  refine ws_callV0 32 C dL_isRead_32 vL_28 (o_count hW (by decide) (by decide)) rfl hO rfl rfl ⟨by decide, by decide⟩ ⟨Nat.zero_le _, Nat.zero_le _⟩ rfl rfl rfl (kI' (fun r32 u32 h32 => ?_))
  obtain ⟨hr, hW⟩ := h32
  have hr := hr.trans ((fCount_4 (S := (fWipe S).2) rfl : fCount (fWipe S).2 (nI 4) = nI (mn (sM S))))
  subst hr
  have hO := hW.o
  have hQ := hW.p
  refine ws_istore 35 C dL_isRead_35 rfl [some (.ref (ad κ 0)), some (.ref (ad κ 91)), some (.int (x)), some (.int (y)), some (.int (nI 1)), some (.int (nI (1 + upn x 5))), some (.int (nI (mn (sM S)))), none, none, none, none, none] rfl ?_
  refine ws_iconst 37 C dL_isRead_37 (nI 0) (by decide) ?_
  refine ws_istore 38 C dL_isRead_38 rfl [some (.ref (ad κ 0)), some (.ref (ad κ 91)), some (.int (x)), some (.int (y)), some (.int (nI 1)), some (.int (nI (1 + upn x 5))), some (.int (nI (mn (sM S)))), some (.int (nI 0)), none, none, none, none] rfl ?_
  have L40 : ∀ k : Nat, k ≤ 1 + upn x 5 → ∀ (S1 : Sg), ∀ (T1 : Sg), ∀ (g : Nat), ∀ (hRd : RdI S S1 T1 (k - 1) g (11 * k)), ∀ (h1 : k = 0 → g = 0), ∀ (h2 : 0 < k → 1 ≤ g), ∀ (h3 : g ≤ 10), ∀ (st1 : St), ∀ (hO : Ob 182 st1 0 (bXo κ)), ∀ (hQ : Ob 182 st1 91 (bYo κ)), ∀ (hW : WI κ st1 S1 T1), WS zp zl ze (r0 8 176) zs zm zar zbe zme zc κ 182 0 0 (QM zbe zar zs κ 182 (r0 8 176) P) st1 40 [some (.ref (ad κ 0)), some (.ref (ad κ 91)), some (.int (x)), some (.int (y)), some (.int (nI 1)), some (.int (nI (1 + upn x 5))), some (.int (nI (mn (sM S)))), some (.int (nI k)), none, none, none, none] [] := by
    refine dnw ?_
    intro k hk ih40 S1 T1 g hRd h1 h2 h3 st1 hO hQ hW
    have hb := hRd.2.2.2
    refine ws_iload 40 C dL_isRead_40 rfl ?_
    refine ws_iload 42 C dL_isRead_42 rfl ?_
    refine ws_nicmp_ge 44 C 252 dL_isRead_44 (by decide) (by omega) (by omega) (fun c44 => ?_) (fun c44 => ?_)
    · skip
      obtain ⟨hJr, hr2, hr1⟩ := hRd.read (show g ≠ 0 from by have := h2 (by omega); omega)
      refine ws_aload_n 252 C dL_isRead_252 rfl ?_
      refine ws_callV0 253 C dL_isRead_253 vL_40 (o_read hW) rfl hO rfl rfl ⟨by decide, by decide⟩ ⟨Nat.zero_le _, Nat.zero_le _⟩ rfl rfl rfl (kI' (fun r253 u253 h253 => ?_))
      obtain ⟨rfl, hW⟩ := h253
      have hO := hW.o
      have hQ := hW.p
      refine ws_istore 256 C dL_isRead_256 rfl [some (.ref (ad κ 0)), some (.ref (ad κ 91)), some (.int (x)), some (.int (y)), some (.int (nI 1)), some (.int (nI (1 + upn x 5))), some (.int (nI (mn (sM S)))), some (.int ((fRead S1).1)), none, none, none, none] rfl ?_
      refine ws_iload 258 C dL_isRead_258 rfl ?_
      refine ws_nif_eq 260 C 302 dL_isRead_260 (by decide) (by omega) (fun c260 => ?_) (fun c260 => ?_)
      · skip
        (exfalso; omega)
      · skip
        refine ws_iload 263 C dL_isRead_263 rfl ?_
        refine ws_aload_n 265 C dL_isRead_265 rfl ?_
        refine ws_callV0 266 C dL_isRead_266 vL_40 (p_read hW) rfl hQ rfl rfl ⟨by decide, by decide⟩ ⟨Nat.zero_le _, Nat.zero_le _⟩ rfl rfl rfl (kI' (fun r266 u266 h266 => ?_))
        obtain ⟨hr, hW⟩ := h266
        have hr := hr.trans (hr2)
        subst hr
        have hO := hW.o
        have hQ := hW.p
        refine ws_icmp_ne 269 C 302 dL_isRead_269 (by decide)  (fun c269 => ?_) (fun c269 => ?_)
        · skip
          exact absurd c269 (fun q => q rfl)
        · skip
          refine ws_iload 272 C dL_isRead_272 rfl ?_
          refine ws_iload 274 C dL_isRead_274 rfl ?_
          refine ws_iload 276 C dL_isRead_276 rfl ?_
          refine ws_iadd 278 C dL_isRead_278 (nI (mn (sM S) + (1 + upn x 5))) (nI_add _ _) ?_
          refine ws_bipush 279 C dL_isRead_279 (nI 24) (by decide) ?_
          refine ws_nicmp_le 281 C 290 dL_isRead_281 (by decide) (by omega) (by omega) (fun c281 => ?_) (fun c281 => ?_)
          · skip
            have ev : (fRead S1).1 = nI (mn (sM S) + (1 + upn x 5)) := by rw [hr1, show k - 1 + 1 = 1 + upn x 5 from by omega]; exact if_pos (by omega)
            refine ws_iload 290 C dL_isRead_290 rfl ?_
            refine ws_iload 292 C dL_isRead_292 rfl ?_
            refine ws_iadd 294 C dL_isRead_294 (nI (mn (sM S) + (1 + upn x 5))) (nI_add _ _) ?_
            refine ws_icmp_ne 295 C 302 dL_isRead_295 (by decide)  (fun c295 => ?_) (fun c295 => ?_)
            · skip
              exact absurd c295 (fun q => q ev)
            · skip
              refine ws_iconst 298 C dL_isRead_298 (nI 1) (by decide) ?_
              refine ws_goto 299 C 303 dL_isRead_299 (by decide) ?_
              exact ws_zret 303 C rfl dL_isRead_303 rfl (Nat.le_refl _) (Nat.le_refl _) (by rw [hP]; exact ⟨nI 1, rfl, ⟨rfl, _, _, hJr, hW⟩⟩)
          · skip
            have ev : (fRead S1).1 = -1004 := by rw [hr1, show k - 1 + 1 = 1 + upn x 5 from by omega]; exact if_neg (by omega)
            refine ws_sipush 284 C dL_isRead_284 ((-1004)) (by decide) ?_
            refine ws_goto 287 C 295 dL_isRead_287 (by decide) ?_
            refine ws_icmp_ne 295 C 302 dL_isRead_295 (by decide)  (fun c295 => ?_) (fun c295 => ?_)
            · skip
              exact absurd c295 (fun q => q ev)
            · skip
              refine ws_iconst 298 C dL_isRead_298 (nI 1) (by decide) ?_
              refine ws_goto 299 C 303 dL_isRead_299 (by decide) ?_
              exact ws_zret 303 C rfl dL_isRead_303 rfl (Nat.le_refl _) (Nat.le_refl _) (by rw [hP]; exact ⟨nI 1, rfl, ⟨rfl, _, _, hJr, hW⟩⟩)
    · skip
      refine ws_iload_n 47 C dL_isRead_47 rfl ?_
      refine ws_iconst 48 C dL_isRead_48 (nI 2) (by decide) ?_
      refine ws_iload 49 C dL_isRead_49 rfl ?_
      refine ws_imul 51 C dL_isRead_51 (nI (2 * k)) (pk_mul _ _) ?_
      refine ws_ishr 52 C dL_isRead_52 (x >>> ((nI (2 * k)) &&& 31)) rfl ?_
      refine ws_iload_n 53 C dL_isRead_53 rfl ?_
      refine ws_iconst 54 C dL_isRead_54 (nI 3) (by decide) ?_
      refine ws_iload 55 C dL_isRead_55 rfl ?_
      refine ws_imul 57 C dL_isRead_57 (nI (3 * k)) (pk_mul _ _) ?_
      refine ws_ishr 58 C dL_isRead_58 (y >>> ((nI (3 * k)) &&& 31)) rfl ?_
      refine ws_ixor 59 C dL_isRead_59 (rsz x y k) rfl ?_
      refine ws_istore 60 C dL_isRead_60 rfl [some (.ref (ad κ 0)), some (.ref (ad κ 91)), some (.int (x)), some (.int (y)), some (.int (nI 1)), some (.int (nI (1 + upn x 5))), some (.int (nI (mn (sM S)))), some (.int (nI k)), some (.int (rsz x y k)), none, none, none] rfl ?_
      have J83 : ∀ (q : Nat), ∀ (hq : 0 < q ∧ q ≤ 10), WS zp zl ze (r0 8 176) zs zm zar zbe zme zc κ 182 0 0 (QM zbe zar zs κ 182 (r0 8 176) P) st1 83 [some (.ref (ad κ 0)), some (.ref (ad κ 91)), some (.int (x)), some (.int (y)), some (.int (nI 1)), some (.int (nI (1 + upn x 5))), some (.int (nI (mn (sM S)))), some (.int (nI k)), some (.int (rsz x y k)), none, none, none] [.int (nI q), .int (rsz x y k), .int (nI 1)] := by
        intro q hq
        refine ws_callS0 83 C dL_isRead_83 vL_24 (c_L_up (v := rsz x y k) (n := q) (by omega) (by omega)) rfl ⟨by decide, by decide⟩ ⟨Nat.zero_le _, Nat.zero_le _⟩ rfl rfl rfl (kR ?_)
        have hlt83 := upn_lt (rsz x y k) (n := q) (by omega)
        refine ws_iadd 86 C dL_isRead_86 (nI (1 + upn (rsz x y k) q)) (nI_add _ _) ?_
        refine ws_istore 87 C dL_isRead_87 rfl [some (.ref (ad κ 0)), some (.ref (ad κ 91)), some (.int (x)), some (.int (y)), some (.int (nI 1)), some (.int (nI (1 + upn x 5))), some (.int (nI (mn (sM S)))), some (.int (nI k)), some (.int (rsz x y k)), some (.int (nI (1 + upn (rsz x y k) q))), none, none] rfl ?_
        obtain ⟨mm, hm⟩ : ∃ mm, mm = 1 + upn (rsz x y k) q := ⟨_, rfl⟩
        have hm1 : 1 ≤ mm ∧ mm ≤ 10 := by omega
        refine ws_wk (lv2 := [some (.ref (ad κ 0)), some (.ref (ad κ 91)), some (.int (x)), some (.int (y)), some (.int (nI 1)), some (.int (nI (1 + upn x 5))), some (.int (nI (mn (sM S)))), some (.int (nI k)), some (.int (rsz x y k)), some (.int (nI mm)), none, none]) ⟨rfl, rfl, rfl, rfl, rfl, rfl, rfl, rfl, rfl, (congrArg (fun t => Value.int (nI t)) hm), trivial⟩ ?_
        refine ws_iload 89 C dL_isRead_89 rfl ?_
        have J126 : ∀ (S2 : Sg), ∀ (T2 : Sg), ∀ (hR2 : RdI S S2 T2 k 0 (11 * k + 1)), ∀ (st2 : St), ∀ (hO : Ob 182 st2 0 (bXo κ)), ∀ (hQ : Ob 182 st2 91 (bYo κ)), ∀ (hW : WI κ st2 S2 T2), WS zp zl ze (r0 8 176) zs zm zar zbe zme zc κ 182 0 0 (QM zbe zar zs κ 182 (r0 8 176) P) st2 126 [some (.ref (ad κ 0)), some (.ref (ad κ 91)), some (.int (x)), some (.int (y)), some (.int (nI 1)), some (.int (nI (1 + upn x 5))), some (.int (nI (mn (sM S)))), some (.int (nI k)), some (.int (rsz x y k)), some (.int (nI mm)), none, none] [] := by
          intro S2 T2 hR2 st2 hO hQ hW
          refine ws_iconst 126 C dL_isRead_126 (nI 0) (by decide) ?_
          refine ws_istore 127 C dL_isRead_127 rfl [some (.ref (ad κ 0)), some (.ref (ad κ 91)), some (.int (x)), some (.int (y)), some (.int (nI 1)), some (.int (nI (1 + upn x 5))), some (.int (nI (mn (sM S)))), some (.int (nI k)), some (.int (rsz x y k)), some (.int (nI mm)), some (.int (nI 0)), none] rfl ?_
          have L129 : ∀ j : Nat, j ≤ mm → ∀ (S3 : Sg), ∀ (T3 : Sg), ∀ (hR3 : RdI S S3 T3 k j (11 * k + 1 + j)), ∀ (st3 : St), ∀ (hO : Ob 182 st3 0 (bXo κ)), ∀ (hQ : Ob 182 st3 91 (bYo κ)), ∀ (hW : WI κ st3 S3 T3), WS zp zl ze (r0 8 176) zs zm zar zbe zme zc κ 182 0 0 (QM zbe zar zs κ 182 (r0 8 176) P) st3 129 [some (.ref (ad κ 0)), some (.ref (ad κ 91)), some (.int (x)), some (.int (y)), some (.int (nI 1)), some (.int (nI (1 + upn x 5))), some (.int (nI (mn (sM S)))), some (.int (nI k)), some (.int (rsz x y k)), some (.int (nI mm)), some (.int (nI j)), none] [] := by
            refine dnw ?_
            intro j hj ih129 S3 T3 hR3 st3 hO hQ hW
            have hb3 := hR3.2.2.2
            refine ws_iload 129 C dL_isRead_129 rfl ?_
            refine ws_iload 131 C dL_isRead_131 rfl ?_
            refine ws_nicmp_ge 133 C 246 dL_isRead_133 (by decide) (by omega) (by omega) (fun c133 => ?_) (fun c133 => ?_)
            · skip
              have hR5 : RdI S S3 T3 (k + 1 - 1) mm (11 * (k + 1)) := by have ej : j = mm := (by omega); subst ej; exact hR3.up (by omega)
              refine ws_iinc 246 C dL_isRead_246 rfl (nI (k + 1)) (nI_1 _) rfl [some (.ref (ad κ 0)), some (.ref (ad κ 91)), some (.int (x)), some (.int (y)), some (.int (nI 1)), some (.int (nI (1 + upn x 5))), some (.int (nI (mn (sM S)))), some (.int (nI (k + 1))), some (.int (rsz x y k)), some (.int (nI mm)), some (.int (nI j)), none] rfl ?_
              refine ws_goto 249 C 40 dL_isRead_249 (by decide) ?_
              refine ws_wk (lv2 := [some (.ref (ad κ 0)), some (.ref (ad κ 91)), some (.int (x)), some (.int (y)), some (.int (nI 1)), some (.int (nI (1 + upn x 5))), some (.int (nI (mn (sM S)))), some (.int (nI (k + 1))), none, none, none, none]) ⟨rfl, rfl, rfl, rfl, rfl, rfl, rfl, rfl, trivial⟩ ?_
              exact ih40 (by omega) S3 T3 mm hR5 (fun q => absurd q (Nat.succ_ne_zero k)) (fun _ => by omega) (by omega) st3 hO hQ hW
            · skip
              have J197 : ∀ (sg : Nat), ∀ (hs : 0 < sg ∧ sg < 34), WS zp zl ze (r0 8 176) zs zm zar zbe zme zc κ 182 0 0 (QM zbe zar zs κ 182 (r0 8 176) P) st3 197 [some (.ref (ad κ 0)), some (.ref (ad κ 91)), some (.int (x)), some (.int (y)), some (.int (nI 1)), some (.int (nI (1 + upn x 5))), some (.int (nI (mn (sM S)))), some (.int (nI k)), some (.int (rsz x y k)), some (.int (nI mm)), some (.int (nI j)), none] [.int (nI sg)] := by
                intro sg hs
                refine ws_istore 197 C dL_isRead_197 rfl [some (.ref (ad κ 0)), some (.ref (ad κ 91)), some (.int (x)), some (.int (y)), some (.int (nI 1)), some (.int (nI (1 + upn x 5))), some (.int (nI (mn (sM S)))), some (.int (nI k)), some (.int (rsz x y k)), some (.int (nI mm)), some (.int (nI j)), some (.int (nI sg))] rfl ?_
                obtain ⟨q1, q2, -, -, q5, q6, q7⟩ := cdN_r sg (by omega) (by omega)
                have q8 := (cdN_r (ohN sg) q7 q6).2.1
                obtain ⟨hR4, hpc, hpd⟩ := hR3.sign (k := sg) (by omega) (by omega) (by omega) (by omega)
                refine ws_iload 199 C dL_isRead_199 rfl ?_
                refine ws_nif_eq 201 C 237 dL_isRead_201 (by decide) (by omega) (fun c201 => ?_) (fun c201 => ?_)
                · skip
                  (exfalso; omega)
                · skip
                  refine ws_aload_n 204 C dL_isRead_204 rfl ?_
                  refine ws_iload 205 C dL_isRead_205 rfl ?_
                  refine ws_callS0 207 C dL_isRead_207 vL_15 (c_L_code (k := sg) (by omega) (by omega)) rfl ⟨by decide, by decide⟩ ⟨Nat.zero_le _, Nat.zero_le _⟩ rfl rfl rfl (kR ?_)
                  refine ws_i2l 210 C dL_isRead_210 (lN (cdN sg)) (nI_l (by omega)) ?_
                  refine ws_callV0 211 C dL_isRead_211 vL_33 (o_put hW (V := (cdN sg)) (by omega)) rfl hO rfl rfl ⟨by decide, by decide⟩ ⟨Nat.zero_le _, Nat.zero_le _⟩ rfl rfl rfl (kI' (fun r211 u211 h211 => ?_))
                  obtain ⟨hr, hW⟩ := h211
                  have hr := hr.trans (hpc)
                  subst hr
                  have hO := hW.o
                  have hQ := hW.p
                  refine ws_nif_le 214 C 237 dL_isRead_214 (by decide) (by omega) (fun c214 => ?_) (fun c214 => ?_)
                  · skip
                    (exfalso; omega)
                  · skip
                    refine ws_aload_n 217 C dL_isRead_217 rfl ?_
                    refine ws_iload 218 C dL_isRead_218 rfl ?_
                    refine ws_callS0 220 C dL_isRead_220 vL_37 (c_L_other (k := sg) (by omega) (by omega)) rfl ⟨by decide, by decide⟩ ⟨Nat.zero_le _, Nat.zero_le _⟩ rfl rfl rfl (kR ?_)
                    refine ws_callS0 223 C dL_isRead_223 vL_15 (c_L_code (k := ohN sg) (by omega) (by omega)) rfl ⟨by decide, by decide⟩ ⟨Nat.zero_le _, Nat.zero_le _⟩ rfl rfl rfl (kR ?_)
                    refine ws_i2l 226 C dL_isRead_226 (lN (cdN (ohN sg))) (nI_l (by omega)) ?_
                    refine ws_callV0 227 C dL_isRead_227 vL_33 (p_put hW (V := (cdN (ohN sg))) (by omega)) rfl hQ rfl rfl ⟨by decide, by decide⟩ ⟨Nat.zero_le _, Nat.zero_le _⟩ rfl rfl rfl (kI' (fun r227 u227 h227 => ?_))
                    obtain ⟨hr, hW⟩ := h227
                    have hr := hr.trans (hpd)
                    subst hr
                    have hO := hW.o
                    have hQ := hW.p
                    refine ws_nif_le 230 C 237 dL_isRead_230 (by decide) (by omega) (fun c230 => ?_) (fun c230 => ?_)
                    · skip
                      (exfalso; omega)
                    · skip
                      refine ws_iconst 233 C dL_isRead_233 (nI 1) (by decide) ?_
                      refine ws_goto 234 C 238 dL_isRead_234 (by decide) ?_
                      refine ws_istore 238 C dL_isRead_238 rfl [some (.ref (ad κ 0)), some (.ref (ad κ 91)), some (.int (x)), some (.int (y)), some (.int (nI 1)), some (.int (nI (1 + upn x 5))), some (.int (nI (mn (sM S)))), some (.int (nI k)), some (.int (rsz x y k)), some (.int (nI mm)), some (.int (nI j)), some (.int (nI sg))] rfl ?_
                      refine ws_iinc 240 C dL_isRead_240 rfl (nI (j + 1)) (nI_1 _) rfl [some (.ref (ad κ 0)), some (.ref (ad κ 91)), some (.int (x)), some (.int (y)), some (.int (nI 1)), some (.int (nI (1 + upn x 5))), some (.int (nI (mn (sM S)))), some (.int (nI k)), some (.int (rsz x y k)), some (.int (nI mm)), some (.int (nI (j + 1))), some (.int (nI sg))] rfl ?_
                      refine ws_goto 243 C 129 dL_isRead_243 (by decide) ?_
                      refine ws_wk (lv2 := [some (.ref (ad κ 0)), some (.ref (ad κ 91)), some (.int (x)), some (.int (y)), some (.int (nI 1)), some (.int (nI (1 + upn x 5))), some (.int (nI (mn (sM S)))), some (.int (nI k)), some (.int (rsz x y k)), some (.int (nI mm)), some (.int (nI (j + 1))), none]) ⟨rfl, rfl, rfl, rfl, rfl, rfl, rfl, rfl, rfl, rfl, rfl, trivial⟩ ?_
                      exact ih129 (by omega) ((fPut S3 (cdN sg)).2) ((fPut T3 (cdN (ohN sg))).2) hR4 u227 hO hQ hW
              have J161 : ∀ (q2 : Nat), ∀ (hq2 : 0 < q2 ∧ q2 < 2 ^ 31), WS zp zl ze (r0 8 176) zs zm zar zbe zme zc κ 182 0 0 (QM zbe zar zs κ 182 (r0 8 176) P) st3 161 [some (.ref (ad κ 0)), some (.ref (ad κ 91)), some (.int (x)), some (.int (y)), some (.int (nI 1)), some (.int (nI (1 + upn x 5))), some (.int (nI (mn (sM S)))), some (.int (nI k)), some (.int (rsz x y k)), some (.int (nI mm)), some (.int (nI j)), none] [.int (nI q2), .int (rsz x y k >>> (nI j &&& 31))] := by
                intro q2 hq2
                refine ws_callS0 161 C dL_isRead_161 vL_24 (c_L_up (v := rsz x y k >>> (nI j &&& 31)) (n := q2) (by omega) (by omega)) rfl ⟨by decide, by decide⟩ ⟨Nat.zero_le _, Nat.zero_le _⟩ rfl rfl rfl (kR ?_)
                have hlt161 := upn_lt (rsz x y k >>> (nI j &&& 31)) (n := q2) (by omega)
                refine ws_nif_ne 164 C 185 dL_isRead_164 (by decide) (by omega) (fun c164 => ?_) (fun c164 => ?_)
                · skip
                  refine ws_iconst 185 C dL_isRead_185 (nI 1) (by decide) ?_
                  refine ws_iload 186 C dL_isRead_186 rfl ?_
                  refine ws_iload 188 C dL_isRead_188 rfl ?_
                  refine ws_ishr 190 C dL_isRead_190 ((rsz x y k) >>> ((nI j) &&& 31)) rfl ?_
                  refine ws_bipush 191 C dL_isRead_191 (nI 26) (by decide) ?_
                  refine ws_callS0 193 C dL_isRead_193 vL_24 (c_L_up (v := (rsz x y k) >>> ((nI j) &&& 31)) (n := 26) (by omega) (by omega)) rfl ⟨by decide, by decide⟩ ⟨Nat.zero_le _, Nat.zero_le _⟩ rfl rfl rfl (kR ?_)
                  have hlt193 := upn_lt ((rsz x y k) >>> ((nI j) &&& 31)) (n := 26) (by omega)
                  refine ws_iadd 196 C dL_isRead_196 (nI (1 + upn ((rsz x y k) >>> ((nI j) &&& 31)) 26)) (nI_add _ _) ?_
                  exact J197 (1 + upn ((rsz x y k) >>> ((nI j) &&& 31)) 26) (by omega)
                · skip
                  refine ws_bipush 167 C dL_isRead_167 (nI 27) (by decide) ?_
                  refine ws_iload 169 C dL_isRead_169 rfl ?_
                  refine ws_iload 171 C dL_isRead_171 rfl ?_
                  refine ws_iconst 173 C dL_isRead_173 (nI 2) (by decide) ?_
                  refine ws_iadd 174 C dL_isRead_174 (nI (j + 2)) (nI_add _ _) ?_
                  refine ws_ishr 175 C dL_isRead_175 ((rsz x y k) >>> ((nI (j + 2)) &&& 31)) rfl ?_
                  refine ws_bipush 176 C dL_isRead_176 (nI 7) (by decide) ?_
                  refine ws_callS0 178 C dL_isRead_178 vL_24 (c_L_up (v := (rsz x y k) >>> ((nI (j + 2)) &&& 31)) (n := 7) (by omega) (by omega)) rfl ⟨by decide, by decide⟩ ⟨Nat.zero_le _, Nat.zero_le _⟩ rfl rfl rfl (kR ?_)
                  have hlt178 := upn_lt ((rsz x y k) >>> ((nI (j + 2)) &&& 31)) (n := 7) (by omega)
                  refine ws_iadd 181 C dL_isRead_181 (nI (27 + (upn ((rsz x y k) >>> ((nI (j + 2)) &&& 31)) 7))) (nI_add _ _) ?_
                  refine ws_goto 182 C 197 dL_isRead_182 (by decide) ?_
                  exact J197 (27 + (upn ((rsz x y k) >>> ((nI (j + 2)) &&& 31)) 7)) (by omega)
              refine ws_iload 136 C dL_isRead_136 rfl ?_
              refine ws_iload 138 C dL_isRead_138 rfl ?_
              refine ws_ishr 140 C dL_isRead_140 ((rsz x y k) >>> ((nI j) &&& 31)) rfl ?_
              refine ws_iload 141 C dL_isRead_141 rfl ?_
              refine ws_nif_eq 143 C 155 dL_isRead_143 (by decide) (by omega) (fun c143 => ?_) (fun c143 => ?_)
              · skip
                refine ws_iconst 155 C dL_isRead_155 (nI 2) (by decide) ?_
                refine ws_goto 156 C 161 dL_isRead_156 (by decide) ?_
                exact J161 2 (by omega)
              · skip
                refine ws_iload 146 C dL_isRead_146 rfl ?_
                refine ws_iload 148 C dL_isRead_148 rfl ?_
                refine ws_iconst 150 C dL_isRead_150 (nI 1) (by decide) ?_
                refine ws_isub 151 C dL_isRead_151 (nI (mm - 1)) (pk_sub (by omega)) ?_
                refine ws_nicmp_ne 152 C 159 dL_isRead_152 (by decide) (by omega) (by omega) (fun c152 => ?_) (fun c152 => ?_)
                · skip
                  refine ws_bipush 159 C dL_isRead_159 (nI 7) (by decide) ?_
                  exact J161 7 (by omega)
                · skip
                  refine ws_iconst 155 C dL_isRead_155 (nI 2) (by decide) ?_
                  refine ws_goto 156 C 161 dL_isRead_156 (by decide) ?_
                  exact J161 2 (by omega)
          exact L129 0 (Nat.zero_le _) S2 T2 hR2 st2 hO hQ hW
        refine ws_nif_eq 91 C 123 dL_isRead_91 (by decide) (by omega) (fun c91 => ?_) (fun c91 => ?_)
        · skip
          (exfalso; omega)
        · skip
          refine ws_iload 94 C dL_isRead_94 rfl ?_
          refine ws_nif_eq 96 C 119 dL_isRead_96 (by decide) (by omega) (fun c96 => ?_) (fun c96 => ?_)
          · skip
            have hR2 : RdI S S1 T1 k 0 (11 * k + 1) := by have hg0 := h1 c96; subst hg0; subst c96; exact hRd.up (by omega)
            refine ws_iconst 119 C dL_isRead_119 (nI 1) (by decide) ?_
            refine ws_goto 120 C 124 dL_isRead_120 (by decide) ?_
            refine ws_istore 124 C dL_isRead_124 rfl [some (.ref (ad κ 0)), some (.ref (ad κ 91)), some (.int (x)), some (.int (y)), some (.int (nI 1)), some (.int (nI (1 + upn x 5))), some (.int (nI (mn (sM S)))), some (.int (nI k)), some (.int (rsz x y k)), some (.int (nI mm)), none, none] rfl ?_
            exact J126 S1 T1 hR2 st1 hO hQ hW
          · skip
            obtain ⟨hR2, hpa, hpb⟩ := hRd.gap (show g ≠ 0 from by have := h2 (by omega); omega) (by omega)
            rw [show k - 1 + 1 = k from by omega] at hR2
            refine ws_aload_n 99 C dL_isRead_99 rfl ?_
            refine ws_ldc2 100 C dL_isRead_100 (lN 95) k315 ?_
            refine ws_callV0 103 C dL_isRead_103 vL_33 (o_put hW (V := 95) (by omega)) rfl hO rfl rfl ⟨by decide, by decide⟩ ⟨Nat.zero_le _, Nat.zero_le _⟩ rfl rfl rfl (kI' (fun r103 u103 h103 => ?_))
            obtain ⟨hr, hW⟩ := h103
            have hr := hr.trans (hpa)
            subst hr
            have hO := hW.o
            have hQ := hW.p
            refine ws_nif_le 106 C 123 dL_isRead_106 (by decide) (by omega) (fun c106 => ?_) (fun c106 => ?_)
            · skip
              (exfalso; omega)
            · skip
              refine ws_aload_n 109 C dL_isRead_109 rfl ?_
              refine ws_ldc2 110 C dL_isRead_110 (lN 95) k315 ?_
              refine ws_callV0 113 C dL_isRead_113 vL_33 (p_put hW (V := 95) (by omega)) rfl hQ rfl rfl ⟨by decide, by decide⟩ ⟨Nat.zero_le _, Nat.zero_le _⟩ rfl rfl rfl (kI' (fun r113 u113 h113 => ?_))
              obtain ⟨hr, hW⟩ := h113
              have hr := hr.trans (hpb)
              subst hr
              have hO := hW.o
              have hQ := hW.p
              refine ws_nif_le 116 C 123 dL_isRead_116 (by decide) (by omega) (fun c116 => ?_) (fun c116 => ?_)
              · skip
                (exfalso; omega)
              · skip
                refine ws_iconst 119 C dL_isRead_119 (nI 1) (by decide) ?_
                refine ws_goto 120 C 124 dL_isRead_120 (by decide) ?_
                refine ws_istore 124 C dL_isRead_124 rfl [some (.ref (ad κ 0)), some (.ref (ad κ 91)), some (.int (x)), some (.int (y)), some (.int (nI 1)), some (.int (nI (1 + upn x 5))), some (.int (nI (mn (sM S)))), some (.int (nI k)), some (.int (rsz x y k)), some (.int (nI mm)), none, none] rfl ?_
                exact J126 ((fPut S1 95).2) ((fPut T1 95).2) hR2 u113 hO hQ hW
      refine ws_iconst 62 C dL_isRead_62 (nI 1) (by decide) ?_
      refine ws_iload 63 C dL_isRead_63 rfl ?_
      refine ws_iload 65 C dL_isRead_65 rfl ?_
      refine ws_bipush 67 C dL_isRead_67 (nI 7) (by decide) ?_
      refine ws_ishr 69 C dL_isRead_69 ((rsz x y k) >>> ((nI 7) &&& 31)) rfl ?_
      refine ws_iconst 70 C dL_isRead_70 (nI 4) (by decide) ?_
      refine ws_callS0 71 C dL_isRead_71 vL_24 (c_L_up (v := (rsz x y k) >>> ((nI 7) &&& 31)) (n := 4) (by omega) (by omega)) rfl ⟨by decide, by decide⟩ ⟨Nat.zero_le _, Nat.zero_le _⟩ rfl rfl rfl (kR ?_)
      have hlt71 := upn_lt ((rsz x y k) >>> ((nI 7) &&& 31)) (n := 4) (by omega)
      refine ws_nif_ne 74 C 82 dL_isRead_74 (by decide) (by omega) (fun c74 => ?_) (fun c74 => ?_)
      · skip
        refine ws_iconst 82 C dL_isRead_82 (nI 5) (by decide) ?_
        exact J83 5 (by omega)
      · skip
        refine ws_bipush 77 C dL_isRead_77 (nI 10) (by decide) ?_
        refine ws_goto 79 C 83 dL_isRead_79 (by decide) ?_
        exact J83 10 (by omega)
  exact L40 0 (Nat.zero_le _) ((fWipe S).2) ((fWipe T).2) 0 hRd (fun _ => rfl) (fun q => absurd q (Nat.lt_irrefl 0)) (Nat.zero_le _) u32 hO hQ hW
end
