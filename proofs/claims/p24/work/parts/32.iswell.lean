section
variable {zl : Launch} {κ : Kt} {z : Nat} {st0 : St}
set_option maxRecDepth 100000 in
set_option maxHeartbeats 4000000 in
theorem c_L_isWell {S T : Sg} (hW : WI κ st0 S T) (hG : Rg (sM S)) : CT zl κ yL_isWell cL_isWell 9 (some .boolean) (r0 8 179) 182 [.ref (ad κ 0)] st0 (PI (fun r u => r = nI 1 ∧ WI κ u S T)) := by
  obtain ⟨P, hP⟩ : ∃ P : Option Value → St → Prop, P = (PI (fun r u => r = nI 1 ∧ WI κ u S T)) := ⟨_, rfl⟩
  rw [← hP]
  refine CT.of (by decide +kernel) (Nat.le_of_ble_eq_true rfl) (fun zp ze zs zm zar zbe zme zc C _ => ?_)
  have C : Cx zp zs zm zar zme zc κ cL_isWell 9 RL (some .boolean) := C
  refine ws_lv (lv2 := [some (.ref (ad κ 0)), none, none, none, none, none, none, none, none]) rfl ?_
  have hO := hW.o
  have hQ := hW.p
  have hok := hW.1.ok
  have h24 := hok.1
  have hl0 : lnw (sM S) 0 ≤ 24 := Nat.le_trans (lnw_le _ _) h24
  have hl1 : lnw (sM S) 1 ≤ 24 := Nat.le_trans (lnw_le _ _) h24
  have hdl : lnw (sM S) 0 ≤ lnw (sM S) 1 := (dom_nxw hok hG).len
  have hfw : ∀ way w, lfw (sM S) way w ≤ 24 := lfw_le hok
  have hsg := sgn_le hok _ (Nat.le_refl _)
  have hcn := cnT_le_s (sM S) 0 (mn (sM S))
  refine ws_iconst 0 C dL_isWell_0 (nI 0) (by decide) ?_
  refine ws_istore_n 1 C dL_isWell_1 rfl [some (.ref (ad κ 0)), some (.int (nI 0)), none, none, none, none, none, none, none] rfl ?_
  refine ws_iconst 2 C dL_isWell_2 (nI 0) (by decide) ?_
  refine ws_istore_n 3 C dL_isWell_3 rfl [some (.ref (ad κ 0)), some (.int (nI 0)), some (.int (nI 0)), none, none, none, none, none, none] rfl ?_
  refine ws_iconst 4 C dL_isWell_4 (nI 0) (by decide) ?_
  refine ws_istore_n 5 C dL_isWell_5 rfl [some (.ref (ad κ 0)), some (.int (nI 0)), some (.int (nI 0)), some (.int (nI 0)), none, none, none, none, none] rfl ?_
  refine ws_iconst 6 C dL_isWell_6 (nI 0) (by decide) ?_
  refine ws_istore 7 C dL_isWell_7 rfl [some (.ref (ad κ 0)), some (.int (nI 0)), some (.int (nI 0)), some (.int (nI 0)), some (.int (nI 0)), none, none, none, none] rfl ?_
  refine ws_aload_n 9 C dL_isWell_9 rfl ?_
  refine ws_iconst 10 C dL_isWell_10 (nI 4) (by decide) ?_
  refine ws_callV0 11 C dL_isWell_11 vL_28 (o_count hW (by decide) (by decide)) rfl hO rfl rfl ⟨by decide, by decide⟩ ⟨Nat.zero_le _, Nat.zero_le _⟩ rfl rfl rfl (kI' (fun r11 u11 h11 => ?_))
  obtain ⟨hr, hW⟩ := h11
  have hr := hr.trans ((fCount_4 (S := S) rfl))
  subst hr
  have hO := hW.o
  have hQ := hW.p
  refine ws_istore 14 C dL_isWell_14 rfl [some (.ref (ad κ 0)), some (.int (nI 0)), some (.int (nI 0)), some (.int (nI 0)), some (.int (nI 0)), some (.int (nI (mn (sM S)))), none, none, none] rfl ?_
  refine ws_aload_n 16 C dL_isWell_16 rfl ?_
  refine ws_iconst 17 C dL_isWell_17 (nI 1) (by decide) ?_
  refine ws_iconst 18 C dL_isWell_18 (nI 1) (by decide) ?_
  refine ws_callV0 19 C dL_isWell_19 vL_62 (o_lines hW) rfl hO rfl rfl ⟨by decide, by decide⟩ ⟨Nat.zero_le _, Nat.zero_le _⟩ rfl rfl rfl (kI' (fun r19 u19 h19 => ?_))
  obtain ⟨hr, hW⟩ := h19
  have hr := hr.trans ((fLines_s (way := 1) (what := 1) (ixv_s (by decide) (by decide)) rfl (by decide) : fLines S (nI 1) (nI 1) = sumB (sM S) (nxw (sM S) 1) (mv (sM S) 0 0) (lnw (sM S) 1)))
  subst hr
  have hO := hW.o
  have hQ := hW.p
  refine ws_aload_n 22 C dL_isWell_22 rfl ?_
  refine ws_iconst 23 C dL_isWell_23 (nI 0) (by decide) ?_
  refine ws_iconst 24 C dL_isWell_24 (nI 1) (by decide) ?_
  refine ws_callV0 25 C dL_isWell_25 vL_62 (o_lines hW) rfl hO rfl rfl ⟨by decide, by decide⟩ ⟨Nat.zero_le _, Nat.zero_le _⟩ rfl rfl rfl (kI' (fun r25 u25 h25 => ?_))
  obtain ⟨hr, hW⟩ := h25
  have hr := hr.trans ((fLines_s (way := 0) (what := 1) (ixv_s (by decide) (by decide)) rfl (by decide) : fLines S (nI 0) (nI 1) = sumB (sM S) (nxw (sM S) 0) (mv (sM S) 0 0) (lnw (sM S) 0)))
  subst hr
  have hO := hW.o
  have hQ := hW.p
  refine ws_icmp_gt 28 C 74 dL_isWell_28 (by decide)  (fun c28 => ?_) (fun c28 => ?_)
  · skip
    exact absurd c28 (Int32.not_lt.mpr (best_le hok hG))
  · skip
    refine ws_aload_n 31 C dL_isWell_31 rfl ?_
    refine ws_iconst 32 C dL_isWell_32 (nI 0) (by decide) ?_
    refine ws_iconst 33 C dL_isWell_33 (nI 0) (by decide) ?_
    refine ws_callV0 34 C dL_isWell_34 vL_62 (o_lines hW) rfl hO rfl rfl ⟨by decide, by decide⟩ ⟨Nat.zero_le _, Nat.zero_le _⟩ rfl rfl rfl (kI' (fun r34 u34 h34 => ?_))
    obtain ⟨hr, hW⟩ := h34
    have hr := hr.trans ((fLines_s (way := 0) (what := 0) (ixv_s (by decide) (by decide)) rfl (by decide) : fLines S (nI 0) (nI 0) = nI (lnw (sM S) 0)))
    subst hr
    have hO := hW.o
    have hQ := hW.p
    refine ws_aload_n 37 C dL_isWell_37 rfl ?_
    refine ws_iconst 38 C dL_isWell_38 (nI 1) (by decide) ?_
    refine ws_iconst 39 C dL_isWell_39 (nI 0) (by decide) ?_
    refine ws_callV0 40 C dL_isWell_40 vL_62 (o_lines hW) rfl hO rfl rfl ⟨by decide, by decide⟩ ⟨Nat.zero_le _, Nat.zero_le _⟩ rfl rfl rfl (kI' (fun r40 u40 h40 => ?_))
    obtain ⟨hr, hW⟩ := h40
    have hr := hr.trans ((fLines_s (way := 1) (what := 0) (ixv_s (by decide) (by decide)) rfl (by decide) : fLines S (nI 1) (nI 0) = nI (lnw (sM S) 1)))
    subst hr
    have hO := hW.o
    have hQ := hW.p
    refine ws_nicmp_gt 43 C 74 dL_isWell_43 (by decide) (by omega) (by omega) (fun c43 => ?_) (fun c43 => ?_)
    · skip
      (exfalso; omega)
    · skip
      refine ws_aload_n 46 C dL_isWell_46 rfl ?_
      refine ws_bipush 47 C dL_isWell_47 (nI 7) (by decide) ?_
      refine ws_callV0 49 C dL_isWell_49 vL_28 (o_count7 hW) rfl hO rfl rfl ⟨by decide, by decide⟩ ⟨Nat.zero_le _, Nat.zero_le _⟩ rfl rfl rfl (kI' (fun r49 u49 h49 => ?_))
      obtain ⟨hr7, hW⟩ := h49
      have hO := hW.o
      have hQ := hW.p
      have J77 : ∀ (st1 : St), ∀ (hO : Ob 182 st1 0 (bXo κ)), ∀ (hQ : Ob 182 st1 91 (bYo κ)), ∀ (hW : WI κ st1 S T), WS zp zl ze (r0 8 179) zs zm zar zbe zme zc κ 182 0 0 (QM zbe zar zs κ 182 (r0 8 179) P) st1 77 [some (.ref (ad κ 0)), some (.int (nI 0)), some (.int (nI 0)), some (.int (nI 0)), some (.int (nI 0)), some (.int (nI (mn (sM S)))), some (.int (nI 1)), none, none] [] := by
        intro st1 hO hQ hW
        refine ws_iconst 77 C dL_isWell_77 (nI 0) (by decide) ?_
        refine ws_istore 78 C dL_isWell_78 rfl [some (.ref (ad κ 0)), some (.int (nI 0)), some (.int (nI 0)), some (.int (nI 0)), some (.int (nI 0)), some (.int (nI (mn (sM S)))), some (.int (nI 1)), some (.int (nI 0)), none] rfl ?_
        have L80 : ∀ k : Nat, k ≤ mn (sM S) → ∀ (st2 : St), ∀ (hO : Ob 182 st2 0 (bXo κ)), ∀ (hQ : Ob 182 st2 91 (bYo κ)), ∀ (hW : WI κ st2 S T), WS zp zl ze (r0 8 179) zs zm zar zbe zme zc κ 182 0 0 (QM zbe zar zs κ 182 (r0 8 179) P) st2 80 [some (.ref (ad κ 0)), some (.int (nI (smN (ml (sM S)) k))), some (.int (ah (sM S) k)), some (.int (nI 0)), some (.int (nI 0)), some (.int (nI (mn (sM S)))), some (.int (nI 1)), some (.int (nI k)), none] [] := by
          refine dnw ?_
          intro k hk ih80 st2 hO hQ hW
          refine ws_iload 80 C dL_isWell_80 rfl ?_
          refine ws_iload 82 C dL_isWell_82 rfl ?_
          refine ws_nicmp_ge 84 C 241 dL_isWell_84 (by decide) (by omega) (by omega) (fun c84 => ?_) (fun c84 => ?_)
          · skip
            have ek : k = mn (sM S) := by omega
            refine ws_wk (lv2 := [some (.ref (ad κ 0)), some (.int (nI (smN (ml (sM S)) (mn (sM S))))), some (.int (ah (sM S) (mn (sM S)))), some (.int (nI 0)), some (.int (nI 0)), some (.int (nI (mn (sM S)))), some (.int (nI 1)), some (.int (nI k)), none]) ⟨rfl, (by rw [ek]), (by rw [ek]), rfl, rfl, rfl, rfl, rfl, trivial⟩ ?_
            refine ws_iconst 241 C dL_isWell_241 (nI 0) (by decide) ?_
            refine ws_istore 242 C dL_isWell_242 rfl [some (.ref (ad κ 0)), some (.int (nI (smN (ml (sM S)) (mn (sM S))))), some (.int (ah (sM S) (mn (sM S)))), some (.int (nI 0)), some (.int (nI 0)), some (.int (nI (mn (sM S)))), some (.int (nI 1)), some (.int (nI 0)), none] rfl ?_
            have L244 : ∀ s : Nat, s ≤ 8 → ∀ (st3 : St), ∀ (hO : Ob 182 st3 0 (bXo κ)), ∀ (hQ : Ob 182 st3 91 (bYo κ)), ∀ (hW : WI κ st3 S T), WS zp zl ze (r0 8 179) zs zm zar zbe zme zc κ 182 0 0 (QM zbe zar zs κ 182 (r0 8 179) P) st3 244 [some (.ref (ad κ 0)), some (.int (nI (smN (ml (sM S)) (mn (sM S))))), some (.int (ah (sM S) (mn (sM S)))), some (.int (nI (csum (sM S) s))), some (.int (wsum (sM S) s)), some (.int (nI (mn (sM S)))), some (.int (nI 1)), some (.int (nI s)), none] [] := by
              refine dnw ?_
              intro s hs ih244 st3 hO hQ hW
              refine ws_iload 244 C dL_isWell_244 rfl ?_
              refine ws_bipush 246 C dL_isWell_246 (nI 8) (by decide) ?_
              refine ws_nicmp_ge 248 C 359 dL_isWell_248 (by decide) (by omega) (by omega) (fun c248 => ?_) (fun c248 => ?_)
              · skip
                have es : s = 8 := by omega
                refine ws_wk (lv2 := [some (.ref (ad κ 0)), some (.int (nI (smN (ml (sM S)) (mn (sM S))))), some (.int (ah (sM S) (mn (sM S)))), some (.int (nI (smN (ml (sM S)) (mn (sM S))))), some (.int (ah (sM S) (mn (sM S)))), some (.int (nI (mn (sM S)))), some (.int (nI 1)), some (.int (nI s)), none]) ⟨rfl, rfl, rfl, (by rw [es]; exact congrArg (fun t => Value.int (nI t)) (cnT_all hok _ (Nat.le_refl _)).symm), (by rw [es]; exact congrArg Value.int (wd_all hok _ (Nat.le_refl _)).symm), rfl, rfl, rfl, trivial⟩ ?_
                refine ws_iconst 359 C dL_isWell_359 (nI 0) (by decide) ?_
                refine ws_istore 360 C dL_isWell_360 rfl [some (.ref (ad κ 0)), some (.int (nI (smN (ml (sM S)) (mn (sM S))))), some (.int (ah (sM S) (mn (sM S)))), some (.int (nI (smN (ml (sM S)) (mn (sM S))))), some (.int (ah (sM S) (mn (sM S)))), some (.int (nI (mn (sM S)))), some (.int (nI 1)), some (.int (nI 0)), none] rfl ?_
                refine ws_iconst 362 C dL_isWell_362 (nI 0) (by decide) ?_
                refine ws_istore 363 C dL_isWell_363 rfl [some (.ref (ad κ 0)), some (.int (nI (smN (ml (sM S)) (mn (sM S))))), some (.int (ah (sM S) (mn (sM S)))), some (.int (nI (smN (ml (sM S)) (mn (sM S))))), some (.int (ah (sM S) (mn (sM S)))), some (.int (nI (mn (sM S)))), some (.int (nI 1)), some (.int (nI 0)), some (.int (nI 0))] rfl ?_
                have L365 : ∀ i : Nat, i ≤ lnw (sM S) 1 → ∀ (st4 : St), ∀ (hO : Ob 182 st4 0 (bXo κ)), ∀ (hQ : Ob 182 st4 91 (bYo κ)), ∀ (hW : WI κ st4 S T), WS zp zl ze (r0 8 179) zs zm zar zbe zme zc κ 182 0 0 (QM zbe zar zs κ 182 (r0 8 179) P) st4 365 [some (.ref (ad κ 0)), some (.int (nI (smN (ml (sM S)) (mn (sM S))))), some (.int (ah (sM S) (mn (sM S)))), some (.int (nI (smN (ml (sM S)) (mn (sM S))))), some (.int (ah (sM S) (mn (sM S)))), some (.int (nI (mn (sM S)))), some (.int (nI 1)), some (.int (ah (sM S) (stt (nxw (sM S) 1) (i)))), some (.int (nI i))] [] := by
                  refine dnw ?_
                  intro i hi ih365 st4 hO hQ hW
                  refine ws_iload 365 C dL_isWell_365 rfl ?_
                  refine ws_aload_n 367 C dL_isWell_367 rfl ?_
                  refine ws_iconst 368 C dL_isWell_368 (nI 1) (by decide) ?_
                  refine ws_iconst 369 C dL_isWell_369 (nI 0) (by decide) ?_
                  refine ws_callV0 370 C dL_isWell_370 vL_62 (o_lines hW) rfl hO rfl rfl ⟨by decide, by decide⟩ ⟨Nat.zero_le _, Nat.zero_le _⟩ rfl rfl rfl (kI' (fun r370 u370 h370 => ?_))
                  obtain ⟨hr, hW⟩ := h370
                  have hr := hr.trans ((fLines_s (way := 1) (what := 0) (ixv_s (by decide) (by decide)) rfl (by decide) : fLines S (nI 1) (nI 0) = nI (lnw (sM S) 1)))
                  subst hr
                  have hO := hW.o
                  have hQ := hW.p
                  refine ws_nicmp_ge 373 C 412 dL_isWell_373 (by decide) (by omega) (by omega) (fun c373 => ?_) (fun c373 => ?_)
                  · skip
                    have ei : stt (nxw (sM S) 1) (i) = mn (sM S) := by rw [show i = lnw (sM S) 1 from by omega]; exact well_e
                    refine ws_wk (lv2 := [some (.ref (ad κ 0)), some (.int (nI (smN (ml (sM S)) (mn (sM S))))), some (.int (ah (sM S) (mn (sM S)))), some (.int (nI (smN (ml (sM S)) (mn (sM S))))), some (.int (ah (sM S) (mn (sM S)))), some (.int (nI (mn (sM S)))), some (.int (nI 1)), some (.int (ah (sM S) (mn (sM S)))), some (.int (nI i))]) ⟨rfl, rfl, rfl, rfl, rfl, rfl, rfl, (by rw [ei]), rfl, trivial⟩ ?_
                    refine ws_iload 412 C dL_isWell_412 rfl ?_
                    refine ws_nif_eq 414 C 509 dL_isWell_414 (by decide) (by omega) (fun c414 => ?_) (fun c414 => ?_)
                    · skip
                      (exfalso; omega)
                    · skip
                      refine ws_iload_n 417 C dL_isWell_417 rfl ?_
                      refine ws_aload_n 418 C dL_isWell_418 rfl ?_
                      refine ws_iconst 419 C dL_isWell_419 (nI 5) (by decide) ?_
                      refine ws_callV0 420 C dL_isWell_420 vL_28 (o_count hW (by decide) (by decide)) rfl hO rfl rfl ⟨by decide, by decide⟩ ⟨Nat.zero_le _, Nat.zero_le _⟩ rfl rfl rfl (kI' (fun r420 u420 h420 => ?_))
                      obtain ⟨hr, hW⟩ := h420
                      have hr := hr.trans ((fCount_5 (S := S) rfl))
                      subst hr
                      have hO := hW.o
                      have hQ := hW.p
                      refine ws_nicmp_ne 423 C 509 dL_isWell_423 (by decide) (by omega) (by omega) (fun c423 => ?_) (fun c423 => ?_)
                      · skip
                        (exfalso; omega)
                      · skip
                        refine ws_iload_n 426 C dL_isWell_426 rfl ?_
                        refine ws_iload_n 427 C dL_isWell_427 rfl ?_
                        refine ws_nicmp_ne 428 C 509 dL_isWell_428 (by decide) (by omega) (by omega) (fun c428 => ?_) (fun c428 => ?_)
                        · skip
                          (exfalso; omega)
                        · skip
                          refine ws_iload 431 C dL_isWell_431 rfl ?_
                          refine ws_iload_n 433 C dL_isWell_433 rfl ?_
                          refine ws_icmp_ne 434 C 509 dL_isWell_434 (by decide)  (fun c434 => ?_) (fun c434 => ?_)
                          · skip
                            exact absurd c434 (fun q => q rfl)
                          · skip
                            refine ws_iload 437 C dL_isWell_437 rfl ?_
                            refine ws_iload_n 439 C dL_isWell_439 rfl ?_
                            refine ws_icmp_ne 440 C 509 dL_isWell_440 (by decide)  (fun c440 => ?_) (fun c440 => ?_)
                            · skip
                              exact absurd c440 (fun q => q rfl)
                            · skip
                              refine ws_iload_n 443 C dL_isWell_443 rfl ?_
                              refine ws_aload_n 444 C dL_isWell_444 rfl ?_
                              refine ws_iconst 445 C dL_isWell_445 (nI 0) (by decide) ?_
                              refine ws_iconst 446 C dL_isWell_446 (nI 5) (by decide) ?_
                              refine ws_callV0 447 C dL_isWell_447 vL_46 (o_sortOf hW) rfl hO rfl rfl ⟨by decide, by decide⟩ ⟨Nat.zero_le _, Nat.zero_le _⟩ rfl rfl rfl (kI' (fun r447 u447 h447 => ?_))
                              obtain ⟨hr, hW⟩ := h447
                              have hr := hr.trans ((fSortOf_5 (ixv_s (by omega) (by decide)) rfl : fSortOf S (nI (0)) (nI 5) = nI (cnT (sM S) (0) (mn (sM S)))))
                              subst hr
                              have hO := hW.o
                              have hQ := hW.p
                              refine ws_isub 450 C dL_isWell_450 (nI (smN (ml (sM S)) (mn (sM S)) - cnT (sM S) 0 (mn (sM S)))) (pk_sub hcn) ?_
                              refine ws_aload_n 451 C dL_isWell_451 rfl ?_
                              refine ws_bipush 452 C dL_isWell_452 (nI 6) (by decide) ?_
                              refine ws_callV0 454 C dL_isWell_454 vL_28 (o_count hW (by decide) (by decide)) rfl hO rfl rfl ⟨by decide, by decide⟩ ⟨Nat.zero_le _, Nat.zero_le _⟩ rfl rfl rfl (kI' (fun r454 u454 h454 => ?_))
                              obtain ⟨hr, hW⟩ := h454
                              have hr := hr.trans ((fCount_6 (S := S) rfl))
                              subst hr
                              have hO := hW.o
                              have hQ := hW.p
                              refine ws_nicmp_ne 457 C 509 dL_isWell_457 (by decide) (by omega) (by omega) (fun c457 => ?_) (fun c457 => ?_)
                              · skip
                                (exfalso; omega)
                              · skip
                                refine ws_iload 460 C dL_isWell_460 rfl ?_
                                refine ws_nif_eq 462 C 505 dL_isWell_462 (by decide) (by omega) (fun c462 => ?_) (fun c462 => ?_)
                                · skip
                                  refine ws_iconst 505 C dL_isWell_505 (nI 1) (by decide) ?_
                                  refine ws_goto 506 C 510 dL_isWell_506 (by decide) ?_
                                  exact ws_zret 510 C rfl dL_isWell_510 rfl (Nat.le_refl _) (Nat.le_refl _) (by rw [hP]; exact ⟨nI 1, rfl, ⟨rfl, hW⟩⟩)
                                · skip
                                  have hm0 : 0 < mn (sM S) := by omega
                                  obtain ⟨hz0, hz1⟩ := well_8 (μ := sM S) 0 hm0
                                  obtain ⟨hz2, hz3⟩ := well_8 (μ := sM S) 1 hm0
                                  refine ws_aload_n 465 C dL_isWell_465 rfl ?_
                                  refine ws_iload 466 C dL_isWell_466 rfl ?_
                                  refine ws_iconst 468 C dL_isWell_468 (nI 1) (by decide) ?_
                                  refine ws_isub 469 C dL_isWell_469 (nI (mn (sM S) - 1)) (pk_sub (by omega)) ?_
                                  refine ws_iconst 470 C dL_isWell_470 (nI 2) (by decide) ?_
                                  refine ws_callV0 471 C dL_isWell_471 vL_53 (o_word hW) rfl hO rfl rfl ⟨by decide, by decide⟩ ⟨Nat.zero_le _, Nat.zero_le _⟩ rfl rfl rfl (kI' (fun r471 u471 h471 => ?_))
                                  obtain ⟨hr, hW⟩ := h471
                                  have hr := hr.trans ((show fWord S (nI (mn (sM S) - 1)) (nI 2) = nI (lfw (sM S) 0 (mn (sM S) - 1)) from fWord_2 (ixv_s (by omega) (by omega)) rfl))
                                  subst hr
                                  have hO := hW.o
                                  have hQ := hW.p
                                  refine ws_aload_n 474 C dL_isWell_474 rfl ?_
                                  refine ws_iconst 475 C dL_isWell_475 (nI 0) (by decide) ?_
                                  refine ws_iconst 476 C dL_isWell_476 (nI 0) (by decide) ?_
                                  refine ws_callV0 477 C dL_isWell_477 vL_62 (o_lines hW) rfl hO rfl rfl ⟨by decide, by decide⟩ ⟨Nat.zero_le _, Nat.zero_le _⟩ rfl rfl rfl (kI' (fun r477 u477 h477 => ?_))
                                  obtain ⟨hr, hW⟩ := h477
                                  have hr := hr.trans ((fLines_s (way := 0) (what := 0) (ixv_s (by decide) (by decide)) rfl (by decide) : fLines S (nI 0) (nI 0) = nI (lnw (sM S) 0)))
                                  subst hr
                                  have hO := hW.o
                                  have hQ := hW.p
                                  refine ws_iconst 480 C dL_isWell_480 (nI 1) (by decide) ?_
                                  refine ws_isub 481 C dL_isWell_481 (nI (lnw (sM S) 0 - 1)) (pk_sub (by omega)) ?_
                                  refine ws_nicmp_ne 482 C 509 dL_isWell_482 (by decide) (by omega) (by omega) (fun c482 => ?_) (fun c482 => ?_)
                                  · skip
                                    (exfalso; omega)
                                  · skip
                                    refine ws_aload_n 485 C dL_isWell_485 rfl ?_
                                    refine ws_iload 486 C dL_isWell_486 rfl ?_
                                    refine ws_iconst 488 C dL_isWell_488 (nI 1) (by decide) ?_
                                    refine ws_isub 489 C dL_isWell_489 (nI (mn (sM S) - 1)) (pk_sub (by omega)) ?_
                                    refine ws_iconst 490 C dL_isWell_490 (nI 3) (by decide) ?_
                                    refine ws_callV0 491 C dL_isWell_491 vL_53 (o_word hW) rfl hO rfl rfl ⟨by decide, by decide⟩ ⟨Nat.zero_le _, Nat.zero_le _⟩ rfl rfl rfl (kI' (fun r491 u491 h491 => ?_))
                                    obtain ⟨hr, hW⟩ := h491
                                    have hr := hr.trans ((show fWord S (nI (mn (sM S) - 1)) (nI 3) = nI (lfw (sM S) 1 (mn (sM S) - 1)) from fWord_3 (ixv_s (by omega) (by omega)) rfl))
                                    subst hr
                                    have hO := hW.o
                                    have hQ := hW.p
                                    refine ws_aload_n 494 C dL_isWell_494 rfl ?_
                                    refine ws_iconst 495 C dL_isWell_495 (nI 1) (by decide) ?_
                                    refine ws_iconst 496 C dL_isWell_496 (nI 0) (by decide) ?_
                                    refine ws_callV0 497 C dL_isWell_497 vL_62 (o_lines hW) rfl hO rfl rfl ⟨by decide, by decide⟩ ⟨Nat.zero_le _, Nat.zero_le _⟩ rfl rfl rfl (kI' (fun r497 u497 h497 => ?_))
                                    obtain ⟨hr, hW⟩ := h497
                                    have hr := hr.trans ((fLines_s (way := 1) (what := 0) (ixv_s (by decide) (by decide)) rfl (by decide) : fLines S (nI 1) (nI 0) = nI (lnw (sM S) 1)))
                                    subst hr
                                    have hO := hW.o
                                    have hQ := hW.p
                                    refine ws_iconst 500 C dL_isWell_500 (nI 1) (by decide) ?_
                                    refine ws_isub 501 C dL_isWell_501 (nI (lnw (sM S) 1 - 1)) (pk_sub (by omega)) ?_
                                    refine ws_nicmp_ne 502 C 509 dL_isWell_502 (by decide) (by omega) (by omega) (fun c502 => ?_) (fun c502 => ?_)
                                    · skip
                                      (exfalso; omega)
                                    · skip
                                      refine ws_iconst 505 C dL_isWell_505 (nI 1) (by decide) ?_
                                      refine ws_goto 506 C 510 dL_isWell_506 (by decide) ?_
                                      exact ws_zret 510 C rfl dL_isWell_510 rfl (Nat.le_refl _) (Nat.le_refl _) (by rw [hP]; exact ⟨nI 1, rfl, ⟨rfl, hW⟩⟩)
                  · skip
                    have hi1 : i < lnw (sM S) 1 := by omega
                    have hst := well_9 hi1
                    refine ws_iload 376 C dL_isWell_376 rfl ?_
                    refine ws_aload_n 378 C dL_isWell_378 rfl ?_
                    refine ws_iconst 379 C dL_isWell_379 (nI 1) (by decide) ?_
                    refine ws_iload 380 C dL_isWell_380 rfl ?_
                    refine ws_iconst 382 C dL_isWell_382 (nI 2) (by decide) ?_
                    refine ws_callV0 383 C dL_isWell_383 vL_87 (o_line hW) rfl hO rfl rfl ⟨by decide, by decide⟩ ⟨Nat.zero_le _, Nat.zero_le _⟩ rfl rfl rfl (kI' (fun r383 u383 h383 => ?_))
                    obtain ⟨hr, hW⟩ := h383
                    have hr := hr.trans ((fLine_4 (way := 1) (what := 2) (i := i) (ixv_s (by decide) (by decide)) (ixv_s (by decide) (by decide)) (ixv_s hi1 (by omega)) : fLine S (nI 1) (nI i) (nI 2) = wl (sM S) (stt (nxw (sM S) 1) (i)) (stt (nxw (sM S) 1) (i + 1) - 1)))
                    subst hr
                    have hO := hW.o
                    have hQ := hW.p
                    refine ws_aload_n 386 C dL_isWell_386 rfl ?_
                    refine ws_iconst 387 C dL_isWell_387 (nI 1) (by decide) ?_
                    refine ws_iload 388 C dL_isWell_388 rfl ?_
                    refine ws_iconst 390 C dL_isWell_390 (nI 1) (by decide) ?_
                    refine ws_callV0 391 C dL_isWell_391 vL_87 (o_line hW) rfl hO rfl rfl ⟨by decide, by decide⟩ ⟨Nat.zero_le _, Nat.zero_le _⟩ rfl rfl rfl (kI' (fun r391 u391 h391 => ?_))
                    obtain ⟨hr, hW⟩ := h391
                    have hr := hr.trans ((fLine_4 (way := 1) (what := 1) (i := i) (ixv_s (by decide) (by decide)) (ixv_s (by decide) (by decide)) (ixv_s hi1 (by omega)) : fLine S (nI 1) (nI i) (nI 1) = nI (stt (nxw (sM S) 1) (i + 1) - stt (nxw (sM S) 1) (i))))
                    subst hr
                    have hO := hW.o
                    have hQ := hW.p
                    refine ws_iconst 394 C dL_isWell_394 (nI 1) (by decide) ?_
                    refine ws_isub 395 C dL_isWell_395 ((nI (stt (nxw (sM S) 1) (i + 1) - stt (nxw (sM S) 1) (i))) - (nI 1)) rfl ?_
                    refine ws_aload_n 396 C dL_isWell_396 rfl ?_
                    refine ws_iconst 397 C dL_isWell_397 (nI 1) (by decide) ?_
                    refine ws_callV0 398 C dL_isWell_398 vL_28 (o_count hW (by decide) (by decide)) rfl hO rfl rfl ⟨by decide, by decide⟩ ⟨Nat.zero_le _, Nat.zero_le _⟩ rfl rfl rfl (kI' (fun r398 u398 h398 => ?_))
                    obtain ⟨hr, hW⟩ := h398
                    have hr := hr.trans ((fCount_k (S := S) (k := 1) rfl (by decide)))
                    subst hr
                    have hO := hW.o
                    have hQ := hW.p
                    refine ws_imul 401 C dL_isWell_401 (((nI (stt (nxw (sM S) 1) (i + 1) - stt (nxw (sM S) 1) (i))) - (nI 1)) * (mv (sM S) 0 1)) rfl ?_
                    refine ws_isub 402 C dL_isWell_402 ((wl (sM S) (stt (nxw (sM S) 1) (i)) (stt (nxw (sM S) 1) (i + 1) - 1)) - (((nI (stt (nxw (sM S) 1) (i + 1) - stt (nxw (sM S) 1) (i))) - (nI 1)) * (mv (sM S) 0 1))) rfl ?_
                    refine ws_iadd 403 C dL_isWell_403 (ah (sM S) (stt (nxw (sM S) 1) (i + 1))) (line_ah hst) ?_
                    refine ws_istore 404 C dL_isWell_404 rfl [some (.ref (ad κ 0)), some (.int (nI (smN (ml (sM S)) (mn (sM S))))), some (.int (ah (sM S) (mn (sM S)))), some (.int (nI (smN (ml (sM S)) (mn (sM S))))), some (.int (ah (sM S) (mn (sM S)))), some (.int (nI (mn (sM S)))), some (.int (nI 1)), some (.int (ah (sM S) (stt (nxw (sM S) 1) (i + 1)))), some (.int (nI i))] rfl ?_
                    refine ws_iinc 406 C dL_isWell_406 rfl (nI (i + 1)) (nI_1 _) rfl [some (.ref (ad κ 0)), some (.int (nI (smN (ml (sM S)) (mn (sM S))))), some (.int (ah (sM S) (mn (sM S)))), some (.int (nI (smN (ml (sM S)) (mn (sM S))))), some (.int (ah (sM S) (mn (sM S)))), some (.int (nI (mn (sM S)))), some (.int (nI 1)), some (.int (ah (sM S) (stt (nxw (sM S) 1) (i + 1)))), some (.int (nI (i + 1)))] rfl ?_
                    refine ws_goto 409 C 365 dL_isWell_409 (by decide) ?_
                    exact ih365 (by omega) u398 hO hQ hW
                exact L365 0 (Nat.zero_le _) st3 hO hQ hW
              · skip
                refine ws_aload_n 251 C dL_isWell_251 rfl ?_
                refine ws_iload 252 C dL_isWell_252 rfl ?_
                refine ws_iconst 254 C dL_isWell_254 (nI 5) (by decide) ?_
                refine ws_callV0 255 C dL_isWell_255 vL_46 (o_sortOf hW) rfl hO rfl rfl ⟨by decide, by decide⟩ ⟨Nat.zero_le _, Nat.zero_le _⟩ rfl rfl rfl (kI' (fun r255 u255 h255 => ?_))
                obtain ⟨hr, hW⟩ := h255
                have hr := hr.trans ((fSortOf_5 (ixv_s (by omega) (by decide)) rfl : fSortOf S (nI (s)) (nI 5) = nI (cnT (sM S) (s) (mn (sM S)))))
                subst hr
                have hO := hW.o
                have hQ := hW.p
                refine ws_istore 258 C dL_isWell_258 rfl [some (.ref (ad κ 0)), some (.int (nI (smN (ml (sM S)) (mn (sM S))))), some (.int (ah (sM S) (mn (sM S)))), some (.int (nI (csum (sM S) s))), some (.int (wsum (sM S) s)), some (.int (nI (mn (sM S)))), some (.int (nI 1)), some (.int (nI s)), some (.int (nI (cnT (sM S) (s) (mn (sM S)))))] rfl ?_
                refine ws_iload_n 260 C dL_isWell_260 rfl ?_
                refine ws_iload 261 C dL_isWell_261 rfl ?_
                refine ws_iadd 263 C dL_isWell_263 (nI (csum (sM S) (s + 1))) (nI_add _ _) ?_
                refine ws_istore_n 264 C dL_isWell_264 rfl [some (.ref (ad κ 0)), some (.int (nI (smN (ml (sM S)) (mn (sM S))))), some (.int (ah (sM S) (mn (sM S)))), some (.int (nI (csum (sM S) (s + 1)))), some (.int (wsum (sM S) s)), some (.int (nI (mn (sM S)))), some (.int (nI 1)), some (.int (nI s)), some (.int (nI (cnT (sM S) (s) (mn (sM S)))))] rfl ?_
                refine ws_iload 265 C dL_isWell_265 rfl ?_
                refine ws_iload 267 C dL_isWell_267 rfl ?_
                refine ws_aload_n 269 C dL_isWell_269 rfl ?_
                refine ws_iload 270 C dL_isWell_270 rfl ?_
                refine ws_iconst 272 C dL_isWell_272 (nI 0) (by decide) ?_
                refine ws_callV0 273 C dL_isWell_273 vL_46 (o_sortOf hW) rfl hO rfl rfl ⟨by decide, by decide⟩ ⟨Nat.zero_le _, Nat.zero_le _⟩ rfl rfl rfl (kI' (fun r273 u273 h273 => ?_))
                obtain ⟨hr, hW⟩ := h273
                have hr := hr.trans ((fSortOf_0 (ixv_s (by omega) (by decide)) rfl : fSortOf S (nI (s)) (nI 0) = mv (sM S) 1 (s)))
                subst hr
                have hO := hW.o
                have hQ := hW.p
                refine ws_imul 276 C dL_isWell_276 (nI (cnT (sM S) s (mn (sM S))) * mv (sM S) 1 s) rfl ?_
                refine ws_iadd 277 C dL_isWell_277 (wsum (sM S) (s + 1)) rfl ?_
                refine ws_istore 278 C dL_isWell_278 rfl [some (.ref (ad κ 0)), some (.int (nI (smN (ml (sM S)) (mn (sM S))))), some (.int (ah (sM S) (mn (sM S)))), some (.int (nI (csum (sM S) (s + 1)))), some (.int (wsum (sM S) (s + 1))), some (.int (nI (mn (sM S)))), some (.int (nI 1)), some (.int (nI s)), some (.int (nI (cnT (sM S) (s) (mn (sM S)))))] rfl ?_
                refine ws_iload 280 C dL_isWell_280 rfl ?_
                refine ws_nif_eq 282 C 350 dL_isWell_282 (by decide) (by omega) (fun c282 => ?_) (fun c282 => ?_)
                · skip
                  (exfalso; omega)
                · skip
                  refine ws_aload_n 285 C dL_isWell_285 rfl ?_
                  refine ws_iload 286 C dL_isWell_286 rfl ?_
                  refine ws_iconst 288 C dL_isWell_288 (nI 3) (by decide) ?_
                  refine ws_callV0 289 C dL_isWell_289 vL_46 (o_sortOf hW) rfl hO rfl rfl ⟨by decide, by decide⟩ ⟨Nat.zero_le _, Nat.zero_le _⟩ rfl rfl rfl (kI' (fun r289 u289 h289 => ?_))
                  obtain ⟨hr, hW⟩ := h289
                  have hr := hr.trans ((fSortOf_3 (ixv_s (by omega) (by decide)) rfl : fSortOf S (nI (s)) (nI 3) = hg (sM S) 2 (s)))
                  subst hr
                  have hO := hW.o
                  have hQ := hW.p
                  refine ws_aload_n 292 C dL_isWell_292 rfl ?_
                  refine ws_iload 293 C dL_isWell_293 rfl ?_
                  refine ws_iconst 295 C dL_isWell_295 (nI 0) (by decide) ?_
                  refine ws_callV0 296 C dL_isWell_296 vL_46 (o_sortOf hW) rfl hO rfl rfl ⟨by decide, by decide⟩ ⟨Nat.zero_le _, Nat.zero_le _⟩ rfl rfl rfl (kI' (fun r296 u296 h296 => ?_))
                  obtain ⟨hr, hW⟩ := h296
                  have hr := hr.trans ((fSortOf_0 (ixv_s (by omega) (by decide)) rfl : fSortOf S (nI (s)) (nI 0) = mv (sM S) 1 (s)))
                  subst hr
                  have hO := hW.o
                  have hQ := hW.p
                  refine ws_icmp_gt 299 C 350 dL_isWell_299 (by decide)  (fun c299 => ?_) (fun c299 => ?_)
                  · skip
                    exact absurd c299 (well_6 hG (by omega) (Or.inl rfl))
                  · skip
                    refine ws_aload_n 302 C dL_isWell_302 rfl ?_
                    refine ws_iload 303 C dL_isWell_303 rfl ?_
                    refine ws_iconst 305 C dL_isWell_305 (nI 4) (by decide) ?_
                    refine ws_callV0 306 C dL_isWell_306 vL_46 (o_sortOf hW) rfl hO rfl rfl ⟨by decide, by decide⟩ ⟨Nat.zero_le _, Nat.zero_le _⟩ rfl rfl rfl (kI' (fun r306 u306 h306 => ?_))
                    obtain ⟨hr, hW⟩ := h306
                    have hr := hr.trans ((fSortOf_4 (ixv_s (by omega) (by decide)) rfl : fSortOf S (nI (s)) (nI 4) = hg (sM S) 3 (s)))
                    subst hr
                    have hO := hW.o
                    have hQ := hW.p
                    refine ws_aload_n 309 C dL_isWell_309 rfl ?_
                    refine ws_iload 310 C dL_isWell_310 rfl ?_
                    refine ws_iconst 312 C dL_isWell_312 (nI 0) (by decide) ?_
                    refine ws_callV0 313 C dL_isWell_313 vL_46 (o_sortOf hW) rfl hO rfl rfl ⟨by decide, by decide⟩ ⟨Nat.zero_le _, Nat.zero_le _⟩ rfl rfl rfl (kI' (fun r313 u313 h313 => ?_))
                    obtain ⟨hr, hW⟩ := h313
                    have hr := hr.trans ((fSortOf_0 (ixv_s (by omega) (by decide)) rfl : fSortOf S (nI (s)) (nI 0) = mv (sM S) 1 (s)))
                    subst hr
                    have hO := hW.o
                    have hQ := hW.p
                    refine ws_icmp_gt 316 C 350 dL_isWell_316 (by decide)  (fun c316 => ?_) (fun c316 => ?_)
                    · skip
                      exact absurd c316 (well_6 hG (by omega) (Or.inr rfl))
                    · skip
                      refine ws_aload_n 319 C dL_isWell_319 rfl ?_
                      refine ws_iconst 320 C dL_isWell_320 (nI 3) (by decide) ?_
                      refine ws_callV0 321 C dL_isWell_321 vL_28 (o_count hW (by decide) (by decide)) rfl hO rfl rfl ⟨by decide, by decide⟩ ⟨Nat.zero_le _, Nat.zero_le _⟩ rfl rfl rfl (kI' (fun r321 u321 h321 => ?_))
                      obtain ⟨hr, hW⟩ := h321
                      have hr := hr.trans ((fCount_k (S := S) (k := 3) rfl (by decide)))
                      subst hr
                      have hO := hW.o
                      have hQ := hW.p
                      refine ws_iconst 324 C dL_isWell_324 (nI 1) (by decide) ?_
                      refine ws_icmp_eq 325 C 346 dL_isWell_325 (by decide)  (fun c325 => ?_) (fun c325 => ?_)
                      · skip
                        refine ws_iconst 346 C dL_isWell_346 (nI 1) (by decide) ?_
                        refine ws_goto 347 C 351 dL_isWell_347 (by decide) ?_
                        refine ws_istore 351 C dL_isWell_351 rfl [some (.ref (ad κ 0)), some (.int (nI (smN (ml (sM S)) (mn (sM S))))), some (.int (ah (sM S) (mn (sM S)))), some (.int (nI (csum (sM S) (s + 1)))), some (.int (wsum (sM S) (s + 1))), some (.int (nI (mn (sM S)))), some (.int (nI 1)), some (.int (nI s)), some (.int (nI (cnT (sM S) (s) (mn (sM S)))))] rfl ?_
                        refine ws_iinc 353 C dL_isWell_353 rfl (nI (s + 1)) (nI_1 _) rfl [some (.ref (ad κ 0)), some (.int (nI (smN (ml (sM S)) (mn (sM S))))), some (.int (ah (sM S) (mn (sM S)))), some (.int (nI (csum (sM S) (s + 1)))), some (.int (wsum (sM S) (s + 1))), some (.int (nI (mn (sM S)))), some (.int (nI 1)), some (.int (nI (s + 1))), some (.int (nI (cnT (sM S) (s) (mn (sM S)))))] rfl ?_
                        refine ws_goto 356 C 244 dL_isWell_356 (by decide) ?_
                        refine ws_wk (lv2 := [some (.ref (ad κ 0)), some (.int (nI (smN (ml (sM S)) (mn (sM S))))), some (.int (ah (sM S) (mn (sM S)))), some (.int (nI (csum (sM S) (s + 1)))), some (.int (wsum (sM S) (s + 1))), some (.int (nI (mn (sM S)))), some (.int (nI 1)), some (.int (nI (s + 1))), none]) ⟨rfl, rfl, rfl, rfl, rfl, rfl, rfl, rfl, trivial⟩ ?_
                        exact ih244 (by omega) u321 hO hQ hW
                      · skip
                        refine ws_aload_n 328 C dL_isWell_328 rfl ?_
                        refine ws_iload 329 C dL_isWell_329 rfl ?_
                        refine ws_iconst 331 C dL_isWell_331 (nI 3) (by decide) ?_
                        refine ws_callV0 332 C dL_isWell_332 vL_46 (o_sortOf hW) rfl hO rfl rfl ⟨by decide, by decide⟩ ⟨Nat.zero_le _, Nat.zero_le _⟩ rfl rfl rfl (kI' (fun r332 u332 h332 => ?_))
                        obtain ⟨hr, hW⟩ := h332
                        have hr := hr.trans ((fSortOf_3 (ixv_s (by omega) (by decide)) rfl : fSortOf S (nI (s)) (nI 3) = hg (sM S) 2 (s)))
                        subst hr
                        have hO := hW.o
                        have hQ := hW.p
                        refine ws_aload_n 335 C dL_isWell_335 rfl ?_
                        refine ws_iload 336 C dL_isWell_336 rfl ?_
                        refine ws_iconst 338 C dL_isWell_338 (nI 4) (by decide) ?_
                        refine ws_callV0 339 C dL_isWell_339 vL_46 (o_sortOf hW) rfl hO rfl rfl ⟨by decide, by decide⟩ ⟨Nat.zero_le _, Nat.zero_le _⟩ rfl rfl rfl (kI' (fun r339 u339 h339 => ?_))
                        obtain ⟨hr, hW⟩ := h339
                        have hr := hr.trans ((fSortOf_4 (ixv_s (by omega) (by decide)) rfl : fSortOf S (nI (s)) (nI 4) = hg (sM S) 3 (s)))
                        subst hr
                        have hO := hW.o
                        have hQ := hW.p
                        refine ws_iadd 342 C dL_isWell_342 ((hg (sM S) 2 (s)) + (hg (sM S) 3 (s))) rfl ?_
                        refine ws_if_ne 343 C 350 dL_isWell_343 (by decide)  (fun c343 => ?_) (fun c343 => ?_)
                        · skip
                          exact absurd c343 (fun q => q (well_7 hG c325 _))
                        · skip
                          refine ws_iconst 346 C dL_isWell_346 (nI 1) (by decide) ?_
                          refine ws_goto 347 C 351 dL_isWell_347 (by decide) ?_
                          refine ws_istore 351 C dL_isWell_351 rfl [some (.ref (ad κ 0)), some (.int (nI (smN (ml (sM S)) (mn (sM S))))), some (.int (ah (sM S) (mn (sM S)))), some (.int (nI (csum (sM S) (s + 1)))), some (.int (wsum (sM S) (s + 1))), some (.int (nI (mn (sM S)))), some (.int (nI 1)), some (.int (nI s)), some (.int (nI (cnT (sM S) (s) (mn (sM S)))))] rfl ?_
                          refine ws_iinc 353 C dL_isWell_353 rfl (nI (s + 1)) (nI_1 _) rfl [some (.ref (ad κ 0)), some (.int (nI (smN (ml (sM S)) (mn (sM S))))), some (.int (ah (sM S) (mn (sM S)))), some (.int (nI (csum (sM S) (s + 1)))), some (.int (wsum (sM S) (s + 1))), some (.int (nI (mn (sM S)))), some (.int (nI 1)), some (.int (nI (s + 1))), some (.int (nI (cnT (sM S) (s) (mn (sM S)))))] rfl ?_
                          refine ws_goto 356 C 244 dL_isWell_356 (by decide) ?_
                          refine ws_wk (lv2 := [some (.ref (ad κ 0)), some (.int (nI (smN (ml (sM S)) (mn (sM S))))), some (.int (ah (sM S) (mn (sM S)))), some (.int (nI (csum (sM S) (s + 1)))), some (.int (wsum (sM S) (s + 1))), some (.int (nI (mn (sM S)))), some (.int (nI 1)), some (.int (nI (s + 1))), none]) ⟨rfl, rfl, rfl, rfl, rfl, rfl, rfl, rfl, trivial⟩ ?_
                          exact ih244 (by omega) u339 hO hQ hW
            exact L244 0 (Nat.zero_le _) st2 hO hQ hW
          · skip
            have hk1 : k < mn (sM S) := by omega
            have hln := (hok.len hk1).2
            have hsk := sgn_le hok k (by omega)
            have hw1 := well_1 hok hG hk1
            have hw2 := well_2 (μ := sM S) hk1
            have hfa := hfw 0 k
            have hfb := hfw 1 k
            have hfc := hfw 0 (k - 1)
            have hfd := hfw 1 (k - 1)
            refine ws_iload_n 87 C dL_isWell_87 rfl ?_
            refine ws_aload_n 88 C dL_isWell_88 rfl ?_
            refine ws_iload 89 C dL_isWell_89 rfl ?_
            refine ws_iconst 91 C dL_isWell_91 (nI 0) (by decide) ?_
            refine ws_callV0 92 C dL_isWell_92 vL_53 (o_word hW) rfl hO rfl rfl ⟨by decide, by decide⟩ ⟨Nat.zero_le _, Nat.zero_le _⟩ rfl rfl rfl (kI' (fun r92 u92 h92 => ?_))
            obtain ⟨hr, hW⟩ := h92
            have hr := hr.trans ((show fWord S (nI (k)) (nI 0) = nI (ml (sM S) (k)) from fWord_0 (ixv_s (by omega) (by omega)) rfl))
            subst hr
            have hO := hW.o
            have hQ := hW.p
            refine ws_iadd 95 C dL_isWell_95 (nI (smN (ml (sM S)) k + (ml (sM S) (k)))) (nI_add _ _) ?_
            refine ws_istore_n 96 C dL_isWell_96 rfl [some (.ref (ad κ 0)), some (.int (nI (smN (ml (sM S)) k + (ml (sM S) (k))))), some (.int (ah (sM S) k)), some (.int (nI 0)), some (.int (nI 0)), some (.int (nI (mn (sM S)))), some (.int (nI 1)), some (.int (nI k)), none] rfl ?_
            refine ws_wk (lv2 := [some (.ref (ad κ 0)), some (.int (nI (smN (ml (sM S)) (k + 1)))), some (.int (ah (sM S) k)), some (.int (nI 0)), some (.int (nI 0)), some (.int (nI (mn (sM S)))), some (.int (nI 1)), some (.int (nI k)), none]) ⟨rfl, rfl, rfl, rfl, rfl, rfl, rfl, rfl, trivial⟩ ?_
            refine ws_iload_n 97 C dL_isWell_97 rfl ?_
            refine ws_aload_n 98 C dL_isWell_98 rfl ?_
            refine ws_iload 99 C dL_isWell_99 rfl ?_
            refine ws_iconst 101 C dL_isWell_101 (nI 1) (by decide) ?_
            refine ws_callV0 102 C dL_isWell_102 vL_53 (o_word hW) rfl hO rfl rfl ⟨by decide, by decide⟩ ⟨Nat.zero_le _, Nat.zero_le _⟩ rfl rfl rfl (kI' (fun r102 u102 h102 => ?_))
            obtain ⟨hr, hW⟩ := h102
            have hr := hr.trans ((show fWord S (nI (k)) (nI 1) = wd (sM S) (k) from fWord_1 (ixv_s (by omega) (by omega)) rfl))
            subst hr
            have hO := hW.o
            have hQ := hW.p
            refine ws_iadd 105 C dL_isWell_105 ((ah (sM S) k) + (wd (sM S) (k))) rfl ?_
            refine ws_istore_n 106 C dL_isWell_106 rfl [some (.ref (ad κ 0)), some (.int (nI (smN (ml (sM S)) (k + 1)))), some (.int ((ah (sM S) k) + (wd (sM S) (k)))), some (.int (nI 0)), some (.int (nI 0)), some (.int (nI (mn (sM S)))), some (.int (nI 1)), some (.int (nI k)), none] rfl ?_
            refine ws_wk (lv2 := [some (.ref (ad κ 0)), some (.int (nI (smN (ml (sM S)) (k + 1)))), some (.int (ah (sM S) (k + 1))), some (.int (nI 0)), some (.int (nI 0)), some (.int (nI (mn (sM S)))), some (.int (nI 1)), some (.int (nI k)), none]) ⟨rfl, rfl, rfl, rfl, rfl, rfl, rfl, rfl, trivial⟩ ?_
            refine ws_iload 107 C dL_isWell_107 rfl ?_
            refine ws_nif_eq 109 C 232 dL_isWell_109 (by decide) (by omega) (fun c109 => ?_) (fun c109 => ?_)
            · skip
              (exfalso; omega)
            · skip
              refine ws_aload_n 112 C dL_isWell_112 rfl ?_
              refine ws_iload 113 C dL_isWell_113 rfl ?_
              refine ws_iconst 115 C dL_isWell_115 (nI 2) (by decide) ?_
              refine ws_callV0 116 C dL_isWell_116 vL_53 (o_word hW) rfl hO rfl rfl ⟨by decide, by decide⟩ ⟨Nat.zero_le _, Nat.zero_le _⟩ rfl rfl rfl (kI' (fun r116 u116 h116 => ?_))
              obtain ⟨hr, hW⟩ := h116
              have hr := hr.trans ((show fWord S (nI (k)) (nI 2) = nI (lfw (sM S) 0 (k)) from fWord_2 (ixv_s (by omega) (by omega)) rfl))
              subst hr
              have hO := hW.o
              have hQ := hW.p
              refine ws_aload_n 119 C dL_isWell_119 rfl ?_
              refine ws_iload 120 C dL_isWell_120 rfl ?_
              refine ws_iconst 122 C dL_isWell_122 (nI 3) (by decide) ?_
              refine ws_callV0 123 C dL_isWell_123 vL_53 (o_word hW) rfl hO rfl rfl ⟨by decide, by decide⟩ ⟨Nat.zero_le _, Nat.zero_le _⟩ rfl rfl rfl (kI' (fun r123 u123 h123 => ?_))
              obtain ⟨hr, hW⟩ := h123
              have hr := hr.trans ((show fWord S (nI (k)) (nI 3) = nI (lfw (sM S) 1 (k)) from fWord_3 (ixv_s (by omega) (by omega)) rfl))
              subst hr
              have hO := hW.o
              have hQ := hW.p
              refine ws_nicmp_gt 126 C 232 dL_isWell_126 (by decide) (by omega) (by omega) (fun c126 => ?_) (fun c126 => ?_)
              · skip
                (exfalso; omega)
              · skip
                refine ws_iload 129 C dL_isWell_129 rfl ?_
                have J174 : ∀ (st5 : St), ∀ (hO : Ob 182 st5 0 (bXo κ)), ∀ (hQ : Ob 182 st5 91 (bYo κ)), ∀ (hW : WI κ st5 S T), WS zp zl ze (r0 8 179) zs zm zar zbe zme zc κ 182 0 0 (QM zbe zar zs κ 182 (r0 8 179) P) st5 174 [some (.ref (ad κ 0)), some (.int (nI (smN (ml (sM S)) (k + 1)))), some (.int (ah (sM S) (k + 1))), some (.int (nI 0)), some (.int (nI 0)), some (.int (nI (mn (sM S)))), some (.int (nI 1)), some (.int (nI k)), none] [] := by
                  intro st5 hO hQ hW
                  refine ws_aload_n 174 C dL_isWell_174 rfl ?_
                  refine ws_iload 175 C dL_isWell_175 rfl ?_
                  refine ws_iload 177 C dL_isWell_177 rfl ?_
                  refine ws_callV0 179 C dL_isWell_179 vL_94 (o_body hW) rfl hO rfl rfl ⟨by decide, by decide⟩ ⟨Nat.zero_le _, Nat.zero_le _⟩ rfl rfl rfl (kI' (fun r179 u179 h179 => ?_))
                  obtain ⟨hr, hW⟩ := h179
                  have hr := hr.trans ((fBody_4 (ixv_s (by omega) (by omega)) (ixv_s (by omega) (by omega)) (by omega) : fBody S (nI (k)) (nI (k)) = bo (sM S) (k) (k)))
                  subst hr
                  have hO := hW.o
                  have hQ := hW.p
                  refine ws_aload_n 182 C dL_isWell_182 rfl ?_
                  refine ws_iload 183 C dL_isWell_183 rfl ?_
                  refine ws_iconst 185 C dL_isWell_185 (nI 1) (by decide) ?_
                  refine ws_callV0 186 C dL_isWell_186 vL_53 (o_word hW) rfl hO rfl rfl ⟨by decide, by decide⟩ ⟨Nat.zero_le _, Nat.zero_le _⟩ rfl rfl rfl (kI' (fun r186 u186 h186 => ?_))
                  obtain ⟨hr, hW⟩ := h186
                  have hr := hr.trans ((show fWord S (nI (k)) (nI 1) = wd (sM S) (k) from fWord_1 (ixv_s (by omega) (by omega)) rfl))
                  subst hr
                  have hO := hW.o
                  have hQ := hW.p
                  refine ws_icmp_gt 189 C 232 dL_isWell_189 (by decide)  (fun c189 => ?_) (fun c189 => ?_)
                  · skip
                    exact absurd c189 (well_4 hok hG hk1)
                  · skip
                    refine ws_iload 192 C dL_isWell_192 rfl ?_
                    refine ws_nif_eq 194 C 228 dL_isWell_194 (by decide) (by omega) (fun c194 => ?_) (fun c194 => ?_)
                    · skip
                      refine ws_iconst 228 C dL_isWell_228 (nI 1) (by decide) ?_
                      refine ws_goto 229 C 233 dL_isWell_229 (by decide) ?_
                      refine ws_istore 233 C dL_isWell_233 rfl [some (.ref (ad κ 0)), some (.int (nI (smN (ml (sM S)) (k + 1)))), some (.int (ah (sM S) (k + 1))), some (.int (nI 0)), some (.int (nI 0)), some (.int (nI (mn (sM S)))), some (.int (nI 1)), some (.int (nI k)), none] rfl ?_
                      refine ws_iinc 235 C dL_isWell_235 rfl (nI (k + 1)) (nI_1 _) rfl [some (.ref (ad κ 0)), some (.int (nI (smN (ml (sM S)) (k + 1)))), some (.int (ah (sM S) (k + 1))), some (.int (nI 0)), some (.int (nI 0)), some (.int (nI (mn (sM S)))), some (.int (nI 1)), some (.int (nI (k + 1))), none] rfl ?_
                      refine ws_goto 238 C 80 dL_isWell_238 (by decide) ?_
                      exact ih80 (by omega) u186 hO hQ hW
                    · skip
                      refine ws_aload_n 197 C dL_isWell_197 rfl ?_
                      refine ws_iload 198 C dL_isWell_198 rfl ?_
                      refine ws_iconst 200 C dL_isWell_200 (nI 1) (by decide) ?_
                      refine ws_isub 201 C dL_isWell_201 (nI (k - 1)) (pk_sub (by omega)) ?_
                      refine ws_iload 202 C dL_isWell_202 rfl ?_
                      refine ws_callV0 204 C dL_isWell_204 vL_94 (o_body hW) rfl hO rfl rfl ⟨by decide, by decide⟩ ⟨Nat.zero_le _, Nat.zero_le _⟩ rfl rfl rfl (kI' (fun r204 u204 h204 => ?_))
                      obtain ⟨hr, hW⟩ := h204
                      have hr := hr.trans ((fBody_4 (ixv_s (by omega) (by omega)) (ixv_s (by omega) (by omega)) (by omega) : fBody S (nI (k - 1)) (nI (k)) = bo (sM S) (k - 1) (k)))
                      subst hr
                      have hO := hW.o
                      have hQ := hW.p
                      refine ws_aload_n 207 C dL_isWell_207 rfl ?_
                      refine ws_iload 208 C dL_isWell_208 rfl ?_
                      refine ws_iconst 210 C dL_isWell_210 (nI 1) (by decide) ?_
                      refine ws_isub 211 C dL_isWell_211 (nI (k - 1)) (pk_sub (by omega)) ?_
                      refine ws_iload 212 C dL_isWell_212 rfl ?_
                      refine ws_iconst 214 C dL_isWell_214 (nI 1) (by decide) ?_
                      refine ws_isub 215 C dL_isWell_215 (nI (k - 1)) (pk_sub (by omega)) ?_
                      refine ws_callV0 216 C dL_isWell_216 vL_94 (o_body hW) rfl hO rfl rfl ⟨by decide, by decide⟩ ⟨Nat.zero_le _, Nat.zero_le _⟩ rfl rfl rfl (kI' (fun r216 u216 h216 => ?_))
                      obtain ⟨hr, hW⟩ := h216
                      have hr := hr.trans ((fBody_4 (ixv_s (by omega) (by omega)) (ixv_s (by omega) (by omega)) (by omega) : fBody S (nI (k - 1)) (nI (k - 1)) = bo (sM S) (k - 1) (k - 1)))
                      subst hr
                      have hO := hW.o
                      have hQ := hW.p
                      refine ws_aload_n 219 C dL_isWell_219 rfl ?_
                      refine ws_iconst 220 C dL_isWell_220 (nI 1) (by decide) ?_
                      refine ws_callV0 221 C dL_isWell_221 vL_28 (o_count hW (by decide) (by decide)) rfl hO rfl rfl ⟨by decide, by decide⟩ ⟨Nat.zero_le _, Nat.zero_le _⟩ rfl rfl rfl (kI' (fun r221 u221 h221 => ?_))
                      obtain ⟨hr, hW⟩ := h221
                      have hr := hr.trans ((fCount_k (S := S) (k := 1) rfl (by decide)))
                      subst hr
                      have hO := hW.o
                      have hQ := hW.p
                      refine ws_iadd 224 C dL_isWell_224 ((bo (sM S) (k - 1) (k - 1)) + (mv (sM S) 0 1)) rfl ?_
                      refine ws_icmp_lt 225 C 232 dL_isWell_225 (by decide)  (fun c225 => ?_) (fun c225 => ?_)
                      · skip
                        exact absurd c225 (well_5 hok hG hk1 (by omega))
                      · skip
                        refine ws_iconst 228 C dL_isWell_228 (nI 1) (by decide) ?_
                        refine ws_goto 229 C 233 dL_isWell_229 (by decide) ?_
                        refine ws_istore 233 C dL_isWell_233 rfl [some (.ref (ad κ 0)), some (.int (nI (smN (ml (sM S)) (k + 1)))), some (.int (ah (sM S) (k + 1))), some (.int (nI 0)), some (.int (nI 0)), some (.int (nI (mn (sM S)))), some (.int (nI 1)), some (.int (nI k)), none] rfl ?_
                        refine ws_iinc 235 C dL_isWell_235 rfl (nI (k + 1)) (nI_1 _) rfl [some (.ref (ad κ 0)), some (.int (nI (smN (ml (sM S)) (k + 1)))), some (.int (ah (sM S) (k + 1))), some (.int (nI 0)), some (.int (nI 0)), some (.int (nI (mn (sM S)))), some (.int (nI 1)), some (.int (nI (k + 1))), none] rfl ?_
                        refine ws_goto 238 C 80 dL_isWell_238 (by decide) ?_
                        exact ih80 (by omega) u221 hO hQ hW
                refine ws_nif_eq 131 C 174 dL_isWell_131 (by decide) (by omega) (fun c131 => ?_) (fun c131 => ?_)
                · skip
                  exact J174 u123 hO hQ hW
                · skip
                  have hw3 := well_3 (μ := sM S) hk1 (by omega)
                  refine ws_aload_n 134 C dL_isWell_134 rfl ?_
                  refine ws_iload 135 C dL_isWell_135 rfl ?_
                  refine ws_iconst 137 C dL_isWell_137 (nI 2) (by decide) ?_
                  refine ws_callV0 138 C dL_isWell_138 vL_53 (o_word hW) rfl hO rfl rfl ⟨by decide, by decide⟩ ⟨Nat.zero_le _, Nat.zero_le _⟩ rfl rfl rfl (kI' (fun r138 u138 h138 => ?_))
                  obtain ⟨hr, hW⟩ := h138
                  have hr := hr.trans ((show fWord S (nI (k)) (nI 2) = nI (lfw (sM S) 0 (k)) from fWord_2 (ixv_s (by omega) (by omega)) rfl))
                  subst hr
                  have hO := hW.o
                  have hQ := hW.p
                  refine ws_aload_n 141 C dL_isWell_141 rfl ?_
                  refine ws_iload 142 C dL_isWell_142 rfl ?_
                  refine ws_iconst 144 C dL_isWell_144 (nI 1) (by decide) ?_
                  refine ws_isub 145 C dL_isWell_145 (nI (k - 1)) (pk_sub (by omega)) ?_
                  refine ws_iconst 146 C dL_isWell_146 (nI 2) (by decide) ?_
                  refine ws_callV0 147 C dL_isWell_147 vL_53 (o_word hW) rfl hO rfl rfl ⟨by decide, by decide⟩ ⟨Nat.zero_le _, Nat.zero_le _⟩ rfl rfl rfl (kI' (fun r147 u147 h147 => ?_))
                  obtain ⟨hr, hW⟩ := h147
                  have hr := hr.trans ((show fWord S (nI (k - 1)) (nI 2) = nI (lfw (sM S) 0 (k - 1)) from fWord_2 (ixv_s (by omega) (by omega)) rfl))
                  subst hr
                  have hO := hW.o
                  have hQ := hW.p
                  refine ws_nicmp_lt 150 C 232 dL_isWell_150 (by decide) (by omega) (by omega) (fun c150 => ?_) (fun c150 => ?_)
                  · skip
                    (exfalso; omega)
                  · skip
                    refine ws_aload_n 153 C dL_isWell_153 rfl ?_
                    refine ws_iload 154 C dL_isWell_154 rfl ?_
                    refine ws_iconst 156 C dL_isWell_156 (nI 3) (by decide) ?_
                    refine ws_callV0 157 C dL_isWell_157 vL_53 (o_word hW) rfl hO rfl rfl ⟨by decide, by decide⟩ ⟨Nat.zero_le _, Nat.zero_le _⟩ rfl rfl rfl (kI' (fun r157 u157 h157 => ?_))
                    obtain ⟨hr, hW⟩ := h157
                    have hr := hr.trans ((show fWord S (nI (k)) (nI 3) = nI (lfw (sM S) 1 (k)) from fWord_3 (ixv_s (by omega) (by omega)) rfl))
                    subst hr
                    have hO := hW.o
                    have hQ := hW.p
                    refine ws_aload_n 160 C dL_isWell_160 rfl ?_
                    refine ws_iload 161 C dL_isWell_161 rfl ?_
                    refine ws_iconst 163 C dL_isWell_163 (nI 1) (by decide) ?_
                    refine ws_isub 164 C dL_isWell_164 (nI (k - 1)) (pk_sub (by omega)) ?_
                    refine ws_iconst 165 C dL_isWell_165 (nI 3) (by decide) ?_
                    refine ws_callV0 166 C dL_isWell_166 vL_53 (o_word hW) rfl hO rfl rfl ⟨by decide, by decide⟩ ⟨Nat.zero_le _, Nat.zero_le _⟩ rfl rfl rfl (kI' (fun r166 u166 h166 => ?_))
                    obtain ⟨hr, hW⟩ := h166
                    have hr := hr.trans ((show fWord S (nI (k - 1)) (nI 3) = nI (lfw (sM S) 1 (k - 1)) from fWord_3 (ixv_s (by omega) (by omega)) rfl))
                    subst hr
                    have hO := hW.o
                    have hQ := hW.p
                    refine ws_iconst 169 C dL_isWell_169 (nI 1) (by decide) ?_
                    refine ws_iadd 170 C dL_isWell_170 (nI ((lfw (sM S) 1 (k - 1)) + 1)) (nI_add _ _) ?_
                    refine ws_nicmp_gt 171 C 232 dL_isWell_171 (by decide) (by omega) (by omega) (fun c171 => ?_) (fun c171 => ?_)
                    · skip
                      (exfalso; omega)
                    · skip
                      exact J174 u166 hO hQ hW
        exact L80 0 (Nat.zero_le _) st1 hO hQ hW
      refine ws_if_eq 52 C 70 dL_isWell_52 (by decide)  (fun c52 => ?_) (fun c52 => ?_)
      · skip
        refine ws_iconst 70 C dL_isWell_70 (nI 1) (by decide) ?_
        refine ws_goto 71 C 75 dL_isWell_71 (by decide) ?_
        refine ws_istore 75 C dL_isWell_75 rfl [some (.ref (ad κ 0)), some (.int (nI 0)), some (.int (nI 0)), some (.int (nI 0)), some (.int (nI 0)), some (.int (nI (mn (sM S)))), some (.int (nI 1)), none, none] rfl ?_
        exact J77 u49 hO hQ hW
      · skip
        have hsm : Same (sM S) := by rcases hr7 with ⟨a, b⟩ | ⟨a, b⟩; exact b; exact absurd a c52
        refine ws_aload_n 55 C dL_isWell_55 rfl ?_
        refine ws_iconst 56 C dL_isWell_56 (nI 0) (by decide) ?_
        refine ws_iconst 57 C dL_isWell_57 (nI 1) (by decide) ?_
        refine ws_callV0 58 C dL_isWell_58 vL_62 (o_lines hW) rfl hO rfl rfl ⟨by decide, by decide⟩ ⟨Nat.zero_le _, Nat.zero_le _⟩ rfl rfl rfl (kI' (fun r58 u58 h58 => ?_))
        obtain ⟨hr, hW⟩ := h58
        have hr := hr.trans ((fLines_s (way := 0) (what := 1) (ixv_s (by decide) (by decide)) rfl (by decide) : fLines S (nI 0) (nI 1) = sumB (sM S) (nxw (sM S) 0) (mv (sM S) 0 0) (lnw (sM S) 0)))
        subst hr
        have hO := hW.o
        have hQ := hW.p
        refine ws_aload_n 61 C dL_isWell_61 rfl ?_
        refine ws_iconst 62 C dL_isWell_62 (nI 1) (by decide) ?_
        refine ws_iconst 63 C dL_isWell_63 (nI 1) (by decide) ?_
        refine ws_callV0 64 C dL_isWell_64 vL_62 (o_lines hW) rfl hO rfl rfl ⟨by decide, by decide⟩ ⟨Nat.zero_le _, Nat.zero_le _⟩ rfl rfl rfl (kI' (fun r64 u64 h64 => ?_))
        obtain ⟨hr, hW⟩ := h64
        have hr := hr.trans ((fLines_s (way := 1) (what := 1) (ixv_s (by decide) (by decide)) rfl (by decide) : fLines S (nI 1) (nI 1) = sumB (sM S) (nxw (sM S) 1) (mv (sM S) 0 0) (lnw (sM S) 1)))
        subst hr
        have hO := hW.o
        have hQ := hW.p
        refine ws_icmp_ne 67 C 74 dL_isWell_67 (by decide)  (fun c67 => ?_) (fun c67 => ?_)
        · skip
          exact absurd c67 (fun q => q (same_sum hsm))
        · skip
          refine ws_iconst 70 C dL_isWell_70 (nI 1) (by decide) ?_
          refine ws_goto 71 C 75 dL_isWell_71 (by decide) ?_
          refine ws_istore 75 C dL_isWell_75 rfl [some (.ref (ad κ 0)), some (.int (nI 0)), some (.int (nI 0)), some (.int (nI 0)), some (.int (nI 0)), some (.int (nI (mn (sM S)))), some (.int (nI 1)), none, none] rfl ?_
          exact J77 u64 hO hQ hW
end
