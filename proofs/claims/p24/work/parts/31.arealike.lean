section
variable {zl : Launch} {κ : Kt} {z : Nat} {st0 : St}
set_option maxRecDepth 100000 in
set_option maxHeartbeats 4000000 in
theorem c_L_areAlike {S T : Sg} (hW : WI κ st0 S T) (hJ : JJ S T) {x : Int32} : CT zl κ yL_areAlike cL_areAlike 7 (some .boolean) (r0 8 179) 182 [.ref (ad κ 0), .ref (ad κ 91), .int (x)] st0 (PI (fun r u => r = nI 1 ∧ WI κ u S T)) := by
  obtain ⟨P, hP⟩ : ∃ P : Option Value → St → Prop, P = (PI (fun r u => r = nI 1 ∧ WI κ u S T)) := ⟨_, rfl⟩
  rw [← hP]
  refine CT.of (by decide +kernel) (Nat.le_of_ble_eq_true rfl) (fun zp ze zs zm zar zbe zme zc C _ => ?_)
  have C : Cx zp zs zm zar zme zc κ cL_areAlike 7 RL (some .boolean) := C
  refine ws_lv (lv2 := [some (.ref (ad κ 0)), some (.ref (ad κ 91)), some (.int (x)), none, none, none, none]) rfl ?_
  have hO := hW.o
  have hQ := hW.p
  have hok := hW.1.ok
  have h24 := hok.1
  have hlw : ∀ way, lnw (sM S) way ≤ 24 := fun way => Nat.le_trans (lnw_le _ _) h24
  refine ws_aload_n 0 C dL_areAlike_0 rfl ?_
  refine ws_callV0 1 C dL_areAlike_1 vL_78 (o_worstWord hW) rfl hO rfl rfl ⟨by decide, by decide⟩ ⟨Nat.zero_le _, Nat.zero_le _⟩ rfl rfl rfl (kI' (fun r1 u1 h1 => ?_))
  obtain ⟨rfl, hW⟩ := h1
  have hO := hW.o
  have hQ := hW.p
  refine ws_aload_n 4 C dL_areAlike_4 rfl ?_
  refine ws_callV0 5 C dL_areAlike_5 vL_78 (p_worstWord hW) rfl hQ rfl rfl ⟨by decide, by decide⟩ ⟨Nat.zero_le _, Nat.zero_le _⟩ rfl rfl rfl (kI' (fun r5 u5 h5 => ?_))
  obtain ⟨hr, hW⟩ := h5
  have hr := hr.trans (alike_worst hJ)
  subst hr
  have hO := hW.o
  have hQ := hW.p
  refine ws_icmp_ne 8 C 68 dL_areAlike_8 (by decide)  (fun c8 => ?_) (fun c8 => ?_)
  · skip
    exact absurd c8 (fun q => q rfl)
  · skip
    refine ws_aload_n 11 C dL_areAlike_11 rfl ?_
    refine ws_iconst 12 C dL_areAlike_12 (nI 1) (by decide) ?_
    refine ws_iload_n 13 C dL_areAlike_13 rfl ?_
    refine ws_bipush 14 C dL_areAlike_14 (nI 24) (by decide) ?_
    refine ws_callS0 16 C dL_areAlike_16 vL_24 (c_L_up (v := x) (n := 24) (by omega) (by omega)) rfl ⟨by decide, by decide⟩ ⟨Nat.zero_le _, Nat.zero_le _⟩ rfl rfl rfl (kR ?_)
    have hlt16 := upn_lt x (n := 24) (by omega)
    refine ws_iadd 19 C dL_areAlike_19 (nI (1 + upn x 24)) (nI_add _ _) ?_
    refine ws_callV0 20 C dL_areAlike_20 vL_81 (o_leastMeasure hW) rfl hO rfl rfl ⟨by decide, by decide⟩ ⟨Nat.zero_le _, Nat.zero_le _⟩ rfl rfl rfl (kI' (fun r20 u20 h20 => ?_))
    obtain ⟨rfl, hW⟩ := h20
    have hO := hW.o
    have hQ := hW.p
    refine ws_aload_n 23 C dL_areAlike_23 rfl ?_
    refine ws_iconst 24 C dL_areAlike_24 (nI 1) (by decide) ?_
    refine ws_iload_n 25 C dL_areAlike_25 rfl ?_
    refine ws_bipush 26 C dL_areAlike_26 (nI 24) (by decide) ?_
    refine ws_callS0 28 C dL_areAlike_28 vL_24 (c_L_up (v := x) (n := 24) (by omega) (by omega)) rfl ⟨by decide, by decide⟩ ⟨Nat.zero_le _, Nat.zero_le _⟩ rfl rfl rfl (kR ?_)
    have hlt28 := upn_lt x (n := 24) (by omega)
    refine ws_iadd 31 C dL_areAlike_31 (nI (1 + upn x 24)) (nI_add _ _) ?_
    refine ws_callV0 32 C dL_areAlike_32 vL_81 (p_leastMeasure hW) rfl hQ rfl rfl ⟨by decide, by decide⟩ ⟨Nat.zero_le _, Nat.zero_le _⟩ rfl rfl rfl (kI' (fun r32 u32 h32 => ?_))
    obtain ⟨hr, hW⟩ := h32
    have hr := hr.trans (alike_least hJ _)
    subst hr
    have hO := hW.o
    have hQ := hW.p
    refine ws_icmp_ne 35 C 68 dL_areAlike_35 (by decide)  (fun c35 => ?_) (fun c35 => ?_)
    · skip
      exact absurd c35 (fun q => q rfl)
    · skip
      refine ws_aload_n 38 C dL_areAlike_38 rfl ?_
      refine ws_iload_n 39 C dL_areAlike_39 rfl ?_
      refine ws_bipush 40 C dL_areAlike_40 (nI 8) (by decide) ?_
      refine ws_callS0 42 C dL_areAlike_42 vL_24 (c_L_up (v := x) (n := 8) (by omega) (by omega)) rfl ⟨by decide, by decide⟩ ⟨Nat.zero_le _, Nat.zero_le _⟩ rfl rfl rfl (kR ?_)
      have hlt42 := upn_lt x (n := 8) (by omega)
      refine ws_callV0 45 C dL_areAlike_45 vL_84 (o_bestShare hW) rfl hO rfl rfl ⟨by decide, by decide⟩ ⟨Nat.zero_le _, Nat.zero_le _⟩ rfl rfl rfl (kI' (fun r45 u45 h45 => ?_))
      obtain ⟨rfl, hW⟩ := h45
      have hO := hW.o
      have hQ := hW.p
      refine ws_aload_n 48 C dL_areAlike_48 rfl ?_
      refine ws_iload_n 49 C dL_areAlike_49 rfl ?_
      refine ws_bipush 50 C dL_areAlike_50 (nI 8) (by decide) ?_
      refine ws_callS0 52 C dL_areAlike_52 vL_24 (c_L_up (v := x) (n := 8) (by omega) (by omega)) rfl ⟨by decide, by decide⟩ ⟨Nat.zero_le _, Nat.zero_le _⟩ rfl rfl rfl (kR ?_)
      have hlt52 := upn_lt x (n := 8) (by omega)
      refine ws_callS0 55 C dL_areAlike_55 vL_9 (c_L_there (k := upn x 8) (by omega)) rfl ⟨by decide, by decide⟩ ⟨Nat.zero_le _, Nat.zero_le _⟩ rfl rfl rfl (kR ?_)
      refine ws_callV0 58 C dL_areAlike_58 vL_84 (p_bestShare hW) rfl hQ rfl rfl ⟨by decide, by decide⟩ ⟨Nat.zero_le _, Nat.zero_le _⟩ rfl rfl rfl (kI' (fun r58 u58 h58 => ?_))
      obtain ⟨hr, hW⟩ := h58
      have hr := hr.trans (alike_best hJ (by omega))
      subst hr
      have hO := hW.o
      have hQ := hW.p
      refine ws_icmp_ne 61 C 68 dL_areAlike_61 (by decide)  (fun c61 => ?_) (fun c61 => ?_)
      · skip
        exact absurd c61 (fun q => q rfl)
      · skip
        refine ws_iconst 64 C dL_areAlike_64 (nI 1) (by decide) ?_
        refine ws_goto 65 C 69 dL_areAlike_65 (by decide) ?_
        refine ws_istore_n 69 C dL_areAlike_69 rfl [some (.ref (ad κ 0)), some (.ref (ad κ 91)), some (.int (x)), some (.int (nI 1)), none, none, none] rfl ?_
        refine ws_iconst 70 C dL_areAlike_70 (nI 0) (by decide) ?_
        refine ws_istore 71 C dL_areAlike_71 rfl [some (.ref (ad κ 0)), some (.ref (ad κ 91)), some (.int (x)), some (.int (nI 1)), some (.int (nI 0)), none, none] rfl ?_
        have L73 : ∀ k : Nat, k ≤ 8 → ∀ (st1 : St), ∀ (hO : Ob 182 st1 0 (bXo κ)), ∀ (hQ : Ob 182 st1 91 (bYo κ)), ∀ (hW : WI κ st1 S T), WS zp zl ze (r0 8 179) zs zm zar zbe zme zc κ 182 0 0 (QM zbe zar zs κ 182 (r0 8 179) P) st1 73 [some (.ref (ad κ 0)), some (.ref (ad κ 91)), some (.int (x)), some (.int (nI 1)), some (.int (nI k)), none, none] [] := by
          refine dnw ?_
          intro k hk ih73 st1 hO hQ hW
          refine ws_iload 73 C dL_areAlike_73 rfl ?_
          refine ws_bipush 75 C dL_areAlike_75 (nI 8) (by decide) ?_
          refine ws_nicmp_ge 77 C 111 dL_areAlike_77 (by decide) (by omega) (by omega) (fun c77 => ?_) (fun c77 => ?_)
          · skip
            refine ws_iconst 111 C dL_areAlike_111 (nI 0) (by decide) ?_
            refine ws_istore 112 C dL_areAlike_112 rfl [some (.ref (ad κ 0)), some (.ref (ad κ 91)), some (.int (x)), some (.int (nI 1)), some (.int (nI 0)), none, none] rfl ?_
            have L114 : ∀ k : Nat, k ≤ 10 → ∀ (st2 : St), ∀ (hO : Ob 182 st2 0 (bXo κ)), ∀ (hQ : Ob 182 st2 91 (bYo κ)), ∀ (hW : WI κ st2 S T), WS zp zl ze (r0 8 179) zs zm zar zbe zme zc κ 182 0 0 (QM zbe zar zs κ 182 (r0 8 179) P) st2 114 [some (.ref (ad κ 0)), some (.ref (ad κ 91)), some (.int (x)), some (.int (nI 1)), some (.int (nI k)), none, none] [] := by
              refine dnw ?_
              intro k hk ih114 st2 hO hQ hW
              refine ws_iload 114 C dL_areAlike_114 rfl ?_
              refine ws_bipush 116 C dL_areAlike_116 (nI 10) (by decide) ?_
              refine ws_nicmp_ge 118 C 164 dL_areAlike_118 (by decide) (by omega) (by omega) (fun c118 => ?_) (fun c118 => ?_)
              · skip
                refine ws_iconst 164 C dL_areAlike_164 (nI 0) (by decide) ?_
                refine ws_istore 165 C dL_areAlike_165 rfl [some (.ref (ad κ 0)), some (.ref (ad κ 91)), some (.int (x)), some (.int (nI 1)), some (.int (nI 0)), none, none] rfl ?_
                have L167 : ∀ w : Nat, w ≤ 2 → ∀ (st3 : St), ∀ (hO : Ob 182 st3 0 (bXo κ)), ∀ (hQ : Ob 182 st3 91 (bYo κ)), ∀ (hW : WI κ st3 S T), WS zp zl ze (r0 8 179) zs zm zar zbe zme zc κ 182 0 0 (QM zbe zar zs κ 182 (r0 8 179) P) st3 167 [some (.ref (ad κ 0)), some (.ref (ad κ 91)), some (.int (x)), some (.int (nI 1)), some (.int (nI w)), none, none] [] := by
                  refine dnw ?_
                  intro w hw ih167 st3 hO hQ hW
                  refine ws_iload 167 C dL_areAlike_167 rfl ?_
                  refine ws_iconst 169 C dL_areAlike_169 (nI 2) (by decide) ?_
                  refine ws_nicmp_ge 170 C 249 dL_areAlike_170 (by decide) (by omega) (by omega) (fun c170 => ?_) (fun c170 => ?_)
                  · skip
                    refine ws_iconst 249 C dL_areAlike_249 (nI 0) (by decide) ?_
                    refine ws_istore 250 C dL_areAlike_250 rfl [some (.ref (ad κ 0)), some (.ref (ad κ 91)), some (.int (x)), some (.int (nI 1)), some (.int (nI 0)), none, none] rfl ?_
                    have L252 : ∀ w : Nat, w ≤ mn (sM S) → ∀ (st4 : St), ∀ (hO : Ob 182 st4 0 (bXo κ)), ∀ (hQ : Ob 182 st4 91 (bYo κ)), ∀ (hW : WI κ st4 S T), WS zp zl ze (r0 8 179) zs zm zar zbe zme zc κ 182 0 0 (QM zbe zar zs κ 182 (r0 8 179) P) st4 252 [some (.ref (ad κ 0)), some (.ref (ad κ 91)), some (.int (x)), some (.int (nI 1)), some (.int (nI w)), none, none] [] := by
                      refine dnw ?_
                      intro w hw ih252 st4 hO hQ hW
                      refine ws_iload 252 C dL_areAlike_252 rfl ?_
                      refine ws_aload_n 254 C dL_areAlike_254 rfl ?_
                      refine ws_iconst 255 C dL_areAlike_255 (nI 4) (by decide) ?_
                      refine ws_callV0 256 C dL_areAlike_256 vL_28 (o_count hW (by decide) (by decide)) rfl hO rfl rfl ⟨by decide, by decide⟩ ⟨Nat.zero_le _, Nat.zero_le _⟩ rfl rfl rfl (kI' (fun r256 u256 h256 => ?_))
                      obtain ⟨hr, hW⟩ := h256
                      have hr := hr.trans ((fCount_4 (S := S) rfl))
                      subst hr
                      have hO := hW.o
                      have hQ := hW.p
                      refine ws_nicmp_ge 259 C 373 dL_areAlike_259 (by decide) (by omega) (by omega) (fun c259 => ?_) (fun c259 => ?_)
                      · skip
                        refine ws_iconst 373 C dL_areAlike_373 (nI 0) (by decide) ?_
                        refine ws_istore 374 C dL_areAlike_374 rfl [some (.ref (ad κ 0)), some (.ref (ad κ 91)), some (.int (x)), some (.int (nI 1)), some (.int (nI 0)), none, none] rfl ?_
                        have L376 : ∀ k : Nat, k ≤ 48 → ∀ (st5 : St), ∀ (hO : Ob 182 st5 0 (bXo κ)), ∀ (hQ : Ob 182 st5 91 (bYo κ)), ∀ (hW : WI κ st5 S T), WS zp zl ze (r0 8 179) zs zm zar zbe zme zc κ 182 0 0 (QM zbe zar zs κ 182 (r0 8 179) P) st5 376 [some (.ref (ad κ 0)), some (.ref (ad κ 91)), some (.int (x)), some (.int (nI 1)), some (.int (nI k)), none, none] [] := by
                          refine dnw ?_
                          intro k hk ih376 st5 hO hQ hW
                          refine ws_iload 376 C dL_areAlike_376 rfl ?_
                          refine ws_bipush 378 C dL_areAlike_378 (nI 48) (by decide) ?_
                          refine ws_nicmp_ge 380 C 433 dL_areAlike_380 (by decide) (by omega) (by omega) (fun c380 => ?_) (fun c380 => ?_)
                          · skip
                            refine ws_iload_n 433 C dL_areAlike_433 rfl ?_
                            exact ws_zret 434 C rfl dL_areAlike_434 rfl (Nat.le_refl _) (Nat.le_refl _) (by rw [hP]; exact ⟨nI 1, rfl, ⟨rfl, hW⟩⟩)
                          · skip
                            refine ws_iload_n 383 C dL_areAlike_383 rfl ?_
                            refine ws_nif_eq 384 C 425 dL_areAlike_384 (by decide) (by omega) (fun c384 => ?_) (fun c384 => ?_)
                            · skip
                              (exfalso; omega)
                            · skip
                              refine ws_aload_n 387 C dL_areAlike_387 rfl ?_
                              refine ws_iload 388 C dL_areAlike_388 rfl ?_
                              refine ws_bipush 390 C dL_areAlike_390 (nI 6) (by decide) ?_
                              refine ws_idiv 392 C dL_areAlike_392 (by decide) (nI (k / 6)) (pk_div (by omega) (by decide) (by decide)) ?_
                              refine ws_iload 393 C dL_areAlike_393 rfl ?_
                              refine ws_bipush 395 C dL_areAlike_395 (nI 6) (by decide) ?_
                              refine ws_irem 397 C dL_areAlike_397 (by decide) (nI (k % 6)) (pk_rem (by omega) (by decide) (by decide)) ?_
                              refine ws_callV0 398 C dL_areAlike_398 vL_46 (o_sortOf hW) rfl hO rfl rfl ⟨by decide, by decide⟩ ⟨Nat.zero_le _, Nat.zero_le _⟩ rfl rfl rfl (kI' (fun r398 u398 h398 => ?_))
                              obtain ⟨rfl, hW⟩ := h398
                              have hO := hW.o
                              have hQ := hW.p
                              refine ws_aload_n 401 C dL_areAlike_401 rfl ?_
                              refine ws_iload 402 C dL_areAlike_402 rfl ?_
                              refine ws_bipush 404 C dL_areAlike_404 (nI 6) (by decide) ?_
                              refine ws_idiv 406 C dL_areAlike_406 (by decide) (nI (k / 6)) (pk_div (by omega) (by decide) (by decide)) ?_
                              refine ws_callS0 407 C dL_areAlike_407 vL_9 (c_L_there (k := k / 6) (by omega)) rfl ⟨by decide, by decide⟩ ⟨Nat.zero_le _, Nat.zero_le _⟩ rfl rfl rfl (kR ?_)
                              refine ws_iload 410 C dL_areAlike_410 rfl ?_
                              refine ws_bipush 412 C dL_areAlike_412 (nI 6) (by decide) ?_
                              refine ws_irem 414 C dL_areAlike_414 (by decide) (nI (k % 6)) (pk_rem (by omega) (by decide) (by decide)) ?_
                              refine ws_callV0 415 C dL_areAlike_415 vL_46 (p_sortOf hW) rfl hQ rfl rfl ⟨by decide, by decide⟩ ⟨Nat.zero_le _, Nat.zero_le _⟩ rfl rfl rfl (kI' (fun r415 u415 h415 => ?_))
                              obtain ⟨hr, hW⟩ := h415
                              have hr := hr.trans (alike_sortOf hJ (by omega) (by omega))
                              subst hr
                              have hO := hW.o
                              have hQ := hW.p
                              refine ws_icmp_ne 418 C 425 dL_areAlike_418 (by decide)  (fun c418 => ?_) (fun c418 => ?_)
                              · skip
                                exact absurd c418 (fun q => q rfl)
                              · skip
                                refine ws_iconst 421 C dL_areAlike_421 (nI 1) (by decide) ?_
                                refine ws_goto 422 C 426 dL_areAlike_422 (by decide) ?_
                                refine ws_istore_n 426 C dL_areAlike_426 rfl [some (.ref (ad κ 0)), some (.ref (ad κ 91)), some (.int (x)), some (.int (nI 1)), some (.int (nI k)), none, none] rfl ?_
                                refine ws_iinc 427 C dL_areAlike_427 rfl (nI (k + 1)) (nI_1 _) rfl [some (.ref (ad κ 0)), some (.ref (ad κ 91)), some (.int (x)), some (.int (nI 1)), some (.int (nI (k + 1))), none, none] rfl ?_
                                refine ws_goto 430 C 376 dL_areAlike_430 (by decide) ?_
                                exact ih376 (by omega) u415 hO hQ hW
                        exact L376 0 (Nat.zero_le _) u256 hO hQ hW
                      · skip
                        have hln := (hok.len (show w < mn (sM S) from c259)).2
                        refine ws_iconst 262 C dL_areAlike_262 (nI 0) (by decide) ?_
                        refine ws_istore 263 C dL_areAlike_263 rfl [some (.ref (ad κ 0)), some (.ref (ad κ 91)), some (.int (x)), some (.int (nI 1)), some (.int (nI w)), some (.int (nI 0)), none] rfl ?_
                        have L265 : ∀ j : Nat, j ≤ 4 → ∀ (st6 : St), ∀ (hO : Ob 182 st6 0 (bXo κ)), ∀ (hQ : Ob 182 st6 91 (bYo κ)), ∀ (hW : WI κ st6 S T), WS zp zl ze (r0 8 179) zs zm zar zbe zme zc κ 182 0 0 (QM zbe zar zs κ 182 (r0 8 179) P) st6 265 [some (.ref (ad κ 0)), some (.ref (ad κ 91)), some (.int (x)), some (.int (nI 1)), some (.int (nI w)), some (.int (nI j)), none] [] := by
                          refine dnw ?_
                          intro j hj ih265 st6 hO hQ hW
                          refine ws_iload 265 C dL_areAlike_265 rfl ?_
                          refine ws_iconst 267 C dL_areAlike_267 (nI 4) (by decide) ?_
                          refine ws_nicmp_ge 268 C 306 dL_areAlike_268 (by decide) (by omega) (by omega) (fun c268 => ?_) (fun c268 => ?_)
                          · skip
                            refine ws_iconst 306 C dL_areAlike_306 (nI 4) (by decide) ?_
                            refine ws_istore 307 C dL_areAlike_307 rfl [some (.ref (ad κ 0)), some (.ref (ad κ 91)), some (.int (x)), some (.int (nI 1)), some (.int (nI w)), some (.int (nI 4)), none] rfl ?_
                            have L309 : ∀ j : Nat, j ≤ ml (sM S) w → ∀ (st7 : St), ∀ (hO : Ob 182 st7 0 (bXo κ)), ∀ (hQ : Ob 182 st7 91 (bYo κ)), ∀ (hW : WI κ st7 S T), WS zp zl ze (r0 8 179) zs zm zar zbe zme zc κ 182 0 0 (QM zbe zar zs κ 182 (r0 8 179) P) st7 309 [some (.ref (ad κ 0)), some (.ref (ad κ 91)), some (.int (x)), some (.int (nI 1)), some (.int (nI w)), some (.int (nI (4 + j))), none] [] := by
                              refine dnw ?_
                              intro j hj ih309 st7 hO hQ hW
                              refine ws_iload 309 C dL_areAlike_309 rfl ?_
                              refine ws_iconst 311 C dL_areAlike_311 (nI 4) (by decide) ?_
                              refine ws_aload_n 312 C dL_areAlike_312 rfl ?_
                              refine ws_iload 313 C dL_areAlike_313 rfl ?_
                              refine ws_iconst 315 C dL_areAlike_315 (nI 0) (by decide) ?_
                              refine ws_callV0 316 C dL_areAlike_316 vL_53 (o_word hW) rfl hO rfl rfl ⟨by decide, by decide⟩ ⟨Nat.zero_le _, Nat.zero_le _⟩ rfl rfl rfl (kI' (fun r316 u316 h316 => ?_))
                              obtain ⟨hr, hW⟩ := h316
                              have hr := hr.trans ((fWord_0 (ixv_s c259 (by omega)) rfl : fWord S (nI w) (nI 0) = nI (ml (sM S) w)))
                              subst hr
                              have hO := hW.o
                              have hQ := hW.p
                              refine ws_iadd 319 C dL_areAlike_319 (nI (4 + ml (sM S) w)) (nI_add _ _) ?_
                              refine ws_nicmp_ge 320 C 367 dL_areAlike_320 (by decide) (by omega) (by omega) (fun c320 => ?_) (fun c320 => ?_)
                              · skip
                                refine ws_iinc 367 C dL_areAlike_367 rfl (nI (w + 1)) (nI_1 _) rfl [some (.ref (ad κ 0)), some (.ref (ad κ 91)), some (.int (x)), some (.int (nI 1)), some (.int (nI (w + 1))), some (.int (nI (4 + j))), none] rfl ?_
                                refine ws_goto 370 C 252 dL_areAlike_370 (by decide) ?_
                                refine ws_wk (lv2 := [some (.ref (ad κ 0)), some (.ref (ad κ 91)), some (.int (x)), some (.int (nI 1)), some (.int (nI (w + 1))), none, none]) ⟨rfl, rfl, rfl, rfl, rfl, trivial⟩ ?_
                                exact ih252 (by omega) u316 hO hQ hW
                              · skip
                                have hj2 : j < ml (sM S) w := by omega
                                obtain ⟨g1, g2, g3, g4, g5⟩ := sgd_c (show sc (mg (sM S) w j) < 8 from hok.so c259 hj2)
                                refine ws_iload_n 323 C dL_areAlike_323 rfl ?_
                                refine ws_nif_eq 324 C 359 dL_areAlike_324 (by decide) (by omega) (fun c324 => ?_) (fun c324 => ?_)
                                · skip
                                  (exfalso; omega)
                                · skip
                                  refine ws_aload_n 327 C dL_areAlike_327 rfl ?_
                                  refine ws_iload 328 C dL_areAlike_328 rfl ?_
                                  refine ws_iload 330 C dL_areAlike_330 rfl ?_
                                  refine ws_callV0 332 C dL_areAlike_332 vL_53 (p_word hW) rfl hQ rfl rfl ⟨by decide, by decide⟩ ⟨Nat.zero_le _, Nat.zero_le _⟩ rfl rfl rfl (kI' (fun r332 u332 h332 => ?_))
                                  obtain ⟨hr, hW⟩ := h332
                                  have hr := hr.trans (alike_sign hJ hok c259 hj2)
                                  subst hr
                                  have hO := hW.o
                                  have hQ := hW.p
                                  refine ws_aload_n 335 C dL_areAlike_335 rfl ?_
                                  refine ws_iload 336 C dL_areAlike_336 rfl ?_
                                  refine ws_iload 338 C dL_areAlike_338 rfl ?_
                                  refine ws_callV0 340 C dL_areAlike_340 vL_53 (o_word hW) rfl hO rfl rfl ⟨by decide, by decide⟩ ⟨Nat.zero_le _, Nat.zero_le _⟩ rfl rfl rfl (kI' (fun r340 u340 h340 => ?_))
                                  obtain ⟨hr, hW⟩ := h340
                                  have hr := hr.trans (word_sign hok c259 hj2)
                                  subst hr
                                  have hO := hW.o
                                  have hQ := hW.p
                                  refine ws_callS0 343 C dL_areAlike_343 vL_91 (c_L_signOf (x := mg (sM S) w j)) rfl ⟨by decide, by decide⟩ ⟨Nat.zero_le _, Nat.zero_le _⟩ rfl rfl rfl (kR ?_)
                                  refine ws_callS0 346 C dL_areAlike_346 vL_37 (c_L_other (k := sgd (mg (sM S) w j) 33) (by omega) (by omega)) rfl ⟨by decide, by decide⟩ ⟨Nat.zero_le _, Nat.zero_le _⟩ rfl rfl rfl (kR ?_)
                                  refine ws_callS0 349 C dL_areAlike_349 vL_15 (c_L_code (k := ohN (sgd (mg (sM S) w j) 33)) (by omega) (by omega)) rfl ⟨by decide, by decide⟩ ⟨Nat.zero_le _, Nat.zero_le _⟩ rfl rfl rfl (kR ?_)
                                  refine ws_icmp_ne 352 C 359 dL_areAlike_352 (by decide)  (fun c352 => ?_) (fun c352 => ?_)
                                  · skip
                                    exact absurd c352 (fun q => q g5.symm)
                                  · skip
                                    refine ws_iconst 355 C dL_areAlike_355 (nI 1) (by decide) ?_
                                    refine ws_goto 356 C 360 dL_areAlike_356 (by decide) ?_
                                    refine ws_istore_n 360 C dL_areAlike_360 rfl [some (.ref (ad κ 0)), some (.ref (ad κ 91)), some (.int (x)), some (.int (nI 1)), some (.int (nI w)), some (.int (nI (4 + j))), none] rfl ?_
                                    refine ws_iinc 361 C dL_areAlike_361 rfl (nI (4 + j + 1)) (nI_1 _) rfl [some (.ref (ad κ 0)), some (.ref (ad κ 91)), some (.int (x)), some (.int (nI 1)), some (.int (nI w)), some (.int (nI (4 + j + 1))), none] rfl ?_
                                    refine ws_goto 364 C 309 dL_areAlike_364 (by decide) ?_
                                    exact ih309 (by omega) u340 hO hQ hW
                            exact L309 0 (Nat.zero_le _) st6 hO hQ hW
                          · skip
                            refine ws_iload_n 271 C dL_areAlike_271 rfl ?_
                            refine ws_nif_eq 272 C 298 dL_areAlike_272 (by decide) (by omega) (fun c272 => ?_) (fun c272 => ?_)
                            · skip
                              (exfalso; omega)
                            · skip
                              refine ws_aload_n 275 C dL_areAlike_275 rfl ?_
                              refine ws_iload 276 C dL_areAlike_276 rfl ?_
                              refine ws_iload 278 C dL_areAlike_278 rfl ?_
                              refine ws_callV0 280 C dL_areAlike_280 vL_53 (o_word hW) rfl hO rfl rfl ⟨by decide, by decide⟩ ⟨Nat.zero_le _, Nat.zero_le _⟩ rfl rfl rfl (kI' (fun r280 u280 h280 => ?_))
                              obtain ⟨rfl, hW⟩ := h280
                              have hO := hW.o
                              have hQ := hW.p
                              refine ws_aload_n 283 C dL_areAlike_283 rfl ?_
                              refine ws_iload 284 C dL_areAlike_284 rfl ?_
                              refine ws_iload 286 C dL_areAlike_286 rfl ?_
                              refine ws_callV0 288 C dL_areAlike_288 vL_53 (p_word hW) rfl hQ rfl rfl ⟨by decide, by decide⟩ ⟨Nat.zero_le _, Nat.zero_le _⟩ rfl rfl rfl (kI' (fun r288 u288 h288 => ?_))
                              obtain ⟨hr, hW⟩ := h288
                              have hr := hr.trans (alike_word hJ h24 c259 (by omega))
                              subst hr
                              have hO := hW.o
                              have hQ := hW.p
                              refine ws_icmp_ne 291 C 298 dL_areAlike_291 (by decide)  (fun c291 => ?_) (fun c291 => ?_)
                              · skip
                                exact absurd c291 (fun q => q rfl)
                              · skip
                                refine ws_iconst 294 C dL_areAlike_294 (nI 1) (by decide) ?_
                                refine ws_goto 295 C 299 dL_areAlike_295 (by decide) ?_
                                refine ws_istore_n 299 C dL_areAlike_299 rfl [some (.ref (ad κ 0)), some (.ref (ad κ 91)), some (.int (x)), some (.int (nI 1)), some (.int (nI w)), some (.int (nI j)), none] rfl ?_
                                refine ws_iinc 300 C dL_areAlike_300 rfl (nI (j + 1)) (nI_1 _) rfl [some (.ref (ad κ 0)), some (.ref (ad κ 91)), some (.int (x)), some (.int (nI 1)), some (.int (nI w)), some (.int (nI (j + 1))), none] rfl ?_
                                refine ws_goto 303 C 265 dL_areAlike_303 (by decide) ?_
                                exact ih265 (by omega) u288 hO hQ hW
                        exact L265 0 (Nat.zero_le _) u256 hO hQ hW
                    exact L252 0 (Nat.zero_le _) st3 hO hQ hW
                  · skip
                    refine ws_iconst 173 C dL_areAlike_173 (nI 0) (by decide) ?_
                    refine ws_istore 174 C dL_areAlike_174 rfl [some (.ref (ad κ 0)), some (.ref (ad κ 91)), some (.int (x)), some (.int (nI 1)), some (.int (nI w)), some (.int (nI 0)), none] rfl ?_
                    have L176 : ∀ i : Nat, i ≤ lnw (sM S) w → ∀ (st8 : St), ∀ (hO : Ob 182 st8 0 (bXo κ)), ∀ (hQ : Ob 182 st8 91 (bYo κ)), ∀ (hW : WI κ st8 S T), WS zp zl ze (r0 8 179) zs zm zar zbe zme zc κ 182 0 0 (QM zbe zar zs κ 182 (r0 8 179) P) st8 176 [some (.ref (ad κ 0)), some (.ref (ad κ 91)), some (.int (x)), some (.int (nI 1)), some (.int (nI w)), some (.int (nI i)), none] [] := by
                      refine dnw ?_
                      intro i hi ih176 st8 hO hQ hW
                      refine ws_iload 176 C dL_areAlike_176 rfl ?_
                      refine ws_aload_n 178 C dL_areAlike_178 rfl ?_
                      refine ws_iload 179 C dL_areAlike_179 rfl ?_
                      refine ws_iconst 181 C dL_areAlike_181 (nI 0) (by decide) ?_
                      refine ws_callV0 182 C dL_areAlike_182 vL_62 (o_lines hW) rfl hO rfl rfl ⟨by decide, by decide⟩ ⟨Nat.zero_le _, Nat.zero_le _⟩ rfl rfl rfl (kI' (fun r182 u182 h182 => ?_))
                      obtain ⟨hr, hW⟩ := h182
                      have hr := hr.trans ((fLines_s (way := w) (what := 0) (ixv_s (by omega) (by decide)) rfl (by decide) : fLines S (nI w) (nI 0) = nI (lnw (sM S) w)))
                      subst hr
                      have hO := hW.o
                      have hQ := hW.p
                      refine ws_nicmp_ge 185 C 243 dL_areAlike_185 (by decide) (by have := hlw w; omega) (by have := hlw w; omega) (fun c185 => ?_) (fun c185 => ?_)
                      · skip
                        refine ws_iinc 243 C dL_areAlike_243 rfl (nI (w + 1)) (nI_1 _) rfl [some (.ref (ad κ 0)), some (.ref (ad κ 91)), some (.int (x)), some (.int (nI 1)), some (.int (nI (w + 1))), some (.int (nI i)), none] rfl ?_
                        refine ws_goto 246 C 167 dL_areAlike_246 (by decide) ?_
                        refine ws_wk (lv2 := [some (.ref (ad κ 0)), some (.ref (ad κ 91)), some (.int (x)), some (.int (nI 1)), some (.int (nI (w + 1))), none, none]) ⟨rfl, rfl, rfl, rfl, rfl, trivial⟩ ?_
                        exact ih167 (by omega) u182 hO hQ hW
                      · skip
                        refine ws_iconst 188 C dL_areAlike_188 (nI 0) (by decide) ?_
                        refine ws_istore 189 C dL_areAlike_189 rfl [some (.ref (ad κ 0)), some (.ref (ad κ 91)), some (.int (x)), some (.int (nI 1)), some (.int (nI w)), some (.int (nI i)), some (.int (nI 0))] rfl ?_
                        have L191 : ∀ j : Nat, j ≤ 9 → ∀ (st9 : St), ∀ (hO : Ob 182 st9 0 (bXo κ)), ∀ (hQ : Ob 182 st9 91 (bYo κ)), ∀ (hW : WI κ st9 S T), WS zp zl ze (r0 8 179) zs zm zar zbe zme zc κ 182 0 0 (QM zbe zar zs κ 182 (r0 8 179) P) st9 191 [some (.ref (ad κ 0)), some (.ref (ad κ 91)), some (.int (x)), some (.int (nI 1)), some (.int (nI w)), some (.int (nI i)), some (.int (nI j))] [] := by
                          refine dnw ?_
                          intro j hj ih191 st9 hO hQ hW
                          refine ws_iload 191 C dL_areAlike_191 rfl ?_
                          refine ws_bipush 193 C dL_areAlike_193 (nI 9) (by decide) ?_
                          refine ws_nicmp_ge 195 C 237 dL_areAlike_195 (by decide) (by omega) (by omega) (fun c195 => ?_) (fun c195 => ?_)
                          · skip
                            refine ws_iinc 237 C dL_areAlike_237 rfl (nI (i + 1)) (nI_1 _) rfl [some (.ref (ad κ 0)), some (.ref (ad κ 91)), some (.int (x)), some (.int (nI 1)), some (.int (nI w)), some (.int (nI (i + 1))), some (.int (nI j))] rfl ?_
                            refine ws_goto 240 C 176 dL_areAlike_240 (by decide) ?_
                            refine ws_wk (lv2 := [some (.ref (ad κ 0)), some (.ref (ad κ 91)), some (.int (x)), some (.int (nI 1)), some (.int (nI w)), some (.int (nI (i + 1))), none]) ⟨rfl, rfl, rfl, rfl, rfl, rfl, trivial⟩ ?_
                            exact ih176 (by omega) st9 hO hQ hW
                          · skip
                            refine ws_iload_n 198 C dL_areAlike_198 rfl ?_
                            refine ws_nif_eq 199 C 229 dL_areAlike_199 (by decide) (by omega) (fun c199 => ?_) (fun c199 => ?_)
                            · skip
                              (exfalso; omega)
                            · skip
                              refine ws_aload_n 202 C dL_areAlike_202 rfl ?_
                              refine ws_iload 203 C dL_areAlike_203 rfl ?_
                              refine ws_iload 205 C dL_areAlike_205 rfl ?_
                              refine ws_iload 207 C dL_areAlike_207 rfl ?_
                              refine ws_callV0 209 C dL_areAlike_209 vL_87 (o_line hW) rfl hO rfl rfl ⟨by decide, by decide⟩ ⟨Nat.zero_le _, Nat.zero_le _⟩ rfl rfl rfl (kI' (fun r209 u209 h209 => ?_))
                              obtain ⟨rfl, hW⟩ := h209
                              have hO := hW.o
                              have hQ := hW.p
                              refine ws_aload_n 212 C dL_areAlike_212 rfl ?_
                              refine ws_iload 213 C dL_areAlike_213 rfl ?_
                              refine ws_iload 215 C dL_areAlike_215 rfl ?_
                              refine ws_iload 217 C dL_areAlike_217 rfl ?_
                              refine ws_callV0 219 C dL_areAlike_219 vL_87 (p_line hW) rfl hQ rfl rfl ⟨by decide, by decide⟩ ⟨Nat.zero_le _, Nat.zero_le _⟩ rfl rfl rfl (kI' (fun r219 u219 h219 => ?_))
                              obtain ⟨hr, hW⟩ := h219
                              have hr := hr.trans (alike_line hJ _ _ _)
                              subst hr
                              have hO := hW.o
                              have hQ := hW.p
                              refine ws_icmp_ne 222 C 229 dL_areAlike_222 (by decide)  (fun c222 => ?_) (fun c222 => ?_)
                              · skip
                                exact absurd c222 (fun q => q rfl)
                              · skip
                                refine ws_iconst 225 C dL_areAlike_225 (nI 1) (by decide) ?_
                                refine ws_goto 226 C 230 dL_areAlike_226 (by decide) ?_
                                refine ws_istore_n 230 C dL_areAlike_230 rfl [some (.ref (ad κ 0)), some (.ref (ad κ 91)), some (.int (x)), some (.int (nI 1)), some (.int (nI w)), some (.int (nI i)), some (.int (nI j))] rfl ?_
                                refine ws_iinc 231 C dL_areAlike_231 rfl (nI (j + 1)) (nI_1 _) rfl [some (.ref (ad κ 0)), some (.ref (ad κ 91)), some (.int (x)), some (.int (nI 1)), some (.int (nI w)), some (.int (nI i)), some (.int (nI (j + 1)))] rfl ?_
                                refine ws_goto 234 C 191 dL_areAlike_234 (by decide) ?_
                                exact ih191 (by omega) u219 hO hQ hW
                        exact L191 0 (Nat.zero_le _) u182 hO hQ hW
                    exact L176 0 (Nat.zero_le _) st3 hO hQ hW
                exact L167 0 (Nat.zero_le _) st2 hO hQ hW
              · skip
                refine ws_iload_n 121 C dL_areAlike_121 rfl ?_
                refine ws_nif_eq 122 C 156 dL_areAlike_122 (by decide) (by omega) (fun c122 => ?_) (fun c122 => ?_)
                · skip
                  (exfalso; omega)
                · skip
                  refine ws_aload_n 125 C dL_areAlike_125 rfl ?_
                  refine ws_iload 126 C dL_areAlike_126 rfl ?_
                  refine ws_iconst 128 C dL_areAlike_128 (nI 2) (by decide) ?_
                  refine ws_irem 129 C dL_areAlike_129 (by decide) (nI (k % 2)) (pk_rem (by omega) (by decide) (by decide)) ?_
                  refine ws_iload 130 C dL_areAlike_130 rfl ?_
                  refine ws_iconst 132 C dL_areAlike_132 (nI 2) (by decide) ?_
                  refine ws_idiv 133 C dL_areAlike_133 (by decide) (nI (k / 2)) (pk_div (by omega) (by decide) (by decide)) ?_
                  refine ws_callV0 134 C dL_areAlike_134 vL_62 (o_lines hW) rfl hO rfl rfl ⟨by decide, by decide⟩ ⟨Nat.zero_le _, Nat.zero_le _⟩ rfl rfl rfl (kI' (fun r134 u134 h134 => ?_))
                  obtain ⟨rfl, hW⟩ := h134
                  have hO := hW.o
                  have hQ := hW.p
                  refine ws_aload_n 137 C dL_areAlike_137 rfl ?_
                  refine ws_iload 138 C dL_areAlike_138 rfl ?_
                  refine ws_iconst 140 C dL_areAlike_140 (nI 2) (by decide) ?_
                  refine ws_irem 141 C dL_areAlike_141 (by decide) (nI (k % 2)) (pk_rem (by omega) (by decide) (by decide)) ?_
                  refine ws_iload 142 C dL_areAlike_142 rfl ?_
                  refine ws_iconst 144 C dL_areAlike_144 (nI 2) (by decide) ?_
                  refine ws_idiv 145 C dL_areAlike_145 (by decide) (nI (k / 2)) (pk_div (by omega) (by decide) (by decide)) ?_
                  refine ws_callV0 146 C dL_areAlike_146 vL_62 (p_lines hW) rfl hQ rfl rfl ⟨by decide, by decide⟩ ⟨Nat.zero_le _, Nat.zero_le _⟩ rfl rfl rfl (kI' (fun r146 u146 h146 => ?_))
                  obtain ⟨hr, hW⟩ := h146
                  have hr := hr.trans (alike_lines hJ _ _)
                  subst hr
                  have hO := hW.o
                  have hQ := hW.p
                  refine ws_icmp_ne 149 C 156 dL_areAlike_149 (by decide)  (fun c149 => ?_) (fun c149 => ?_)
                  · skip
                    exact absurd c149 (fun q => q rfl)
                  · skip
                    refine ws_iconst 152 C dL_areAlike_152 (nI 1) (by decide) ?_
                    refine ws_goto 153 C 157 dL_areAlike_153 (by decide) ?_
                    refine ws_istore_n 157 C dL_areAlike_157 rfl [some (.ref (ad κ 0)), some (.ref (ad κ 91)), some (.int (x)), some (.int (nI 1)), some (.int (nI k)), none, none] rfl ?_
                    refine ws_iinc 158 C dL_areAlike_158 rfl (nI (k + 1)) (nI_1 _) rfl [some (.ref (ad κ 0)), some (.ref (ad κ 91)), some (.int (x)), some (.int (nI 1)), some (.int (nI (k + 1))), none, none] rfl ?_
                    refine ws_goto 161 C 114 dL_areAlike_161 (by decide) ?_
                    exact ih114 (by omega) u146 hO hQ hW
            exact L114 0 (Nat.zero_le _) st1 hO hQ hW
          · skip
            refine ws_iload_n 80 C dL_areAlike_80 rfl ?_
            refine ws_nif_eq 81 C 103 dL_areAlike_81 (by decide) (by omega) (fun c81 => ?_) (fun c81 => ?_)
            · skip
              (exfalso; omega)
            · skip
              refine ws_aload_n 84 C dL_areAlike_84 rfl ?_
              refine ws_iload 85 C dL_areAlike_85 rfl ?_
              refine ws_callV0 87 C dL_areAlike_87 vL_28 (o_countR hW) rfl hO rfl rfl ⟨by decide, by decide⟩ ⟨Nat.zero_le _, Nat.zero_le _⟩ rfl rfl rfl (kI' (fun r87 u87 h87 => ?_))
              obtain ⟨hra, hW⟩ := h87
              have hO := hW.o
              have hQ := hW.p
              refine ws_aload_n 90 C dL_areAlike_90 rfl ?_
              refine ws_iload 91 C dL_areAlike_91 rfl ?_
              refine ws_callV0 93 C dL_areAlike_93 vL_28 (p_countR hW) rfl hQ rfl rfl ⟨by decide, by decide⟩ ⟨Nat.zero_le _, Nat.zero_le _⟩ rfl rfl rfl (kI' (fun r93 u93 h93 => ?_))
              obtain ⟨hrb, hW⟩ := h93
              have hO := hW.o
              have hQ := hW.p
              refine ws_icmp_ne 96 C 103 dL_areAlike_96 (by decide)  (fun c96 => ?_) (fun c96 => ?_)
              · skip
                exact absurd c96 (fun q => q (alike_count hJ (k := k) (by omega) hra hrb))
              · skip
                refine ws_iconst 99 C dL_areAlike_99 (nI 1) (by decide) ?_
                refine ws_goto 100 C 104 dL_areAlike_100 (by decide) ?_
                refine ws_istore_n 104 C dL_areAlike_104 rfl [some (.ref (ad κ 0)), some (.ref (ad κ 91)), some (.int (x)), some (.int (nI 1)), some (.int (nI k)), none, none] rfl ?_
                refine ws_iinc 105 C dL_areAlike_105 rfl (nI (k + 1)) (nI_1 _) rfl [some (.ref (ad κ 0)), some (.ref (ad κ 91)), some (.int (x)), some (.int (nI 1)), some (.int (nI (k + 1))), none, none] rfl ?_
                refine ws_goto 108 C 73 dL_areAlike_108 (by decide) ?_
                exact ih73 (by omega) u93 hO hQ hW
        exact L73 0 (Nat.zero_le _) u58 hO hQ hW
end
