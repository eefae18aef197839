theorem ws_lawend {p : Program} {l : Launch} {e : Env} {s : State} {m : MethodId} {below : List Frame} {meth : Method} {c : Code} {κ : Kt} {n k sl : Nat} {st : St} {lv : List (Option Value)} {own : String} (pc : Nat) (C : Cx p s m #[Value.ref (kB κ)] meth c κ code 5 own ret) (hk : kH κ = s.heap) (d : decode code pc = .ok (.ireturn, 1)) (h1 : k ≤ 600000) (h2 : sl ≤ 7302250) : WS p l e room_1 s m #[Value.ref (kB κ)] below meth c κ n k sl (lw_Z below #[Value.ref (kB κ)] s) st pc lv [.int (nI 1)] := fun hz H locs ls hW hS hl =>
  va_forget (fun q hq => by rw [← hk]; exact hS.2.2 q hq) (W.widen h1 h2 (lw_ret C.1.1 C.1.2.1 C.2.2.1 C.2.2.2.1 d))
set_option maxRecDepth 100000 in
set_option maxHeartbeats 8000000 in
theorem law_main {p : Program} {l : Launch} {e : Env} {s : State} {m : MethodId} {below : List Frame} {meth : Method} {c : Code} {κ : Kt} (C : Cx p s m #[Value.ref (kB κ)] meth c κ code 5 RL ret) (hkH : kH κ = s.heap) (hL : kXL κ ≤ 260) {st0 : St} (hW : WI κ st0 S0 S0) : WS p l e room_1 s m #[Value.ref (kB κ)] below meth c κ 182 182 6778 (lw_Z below #[Value.ref (kB κ)] s) st0 16 [some (.ref (kB κ)), some (.ref (ad κ 0)), some (.ref (ad κ 91)), none, none] [] := by
  have hO := hW.o
  have hQ := hW.p
  refine ws_iconst 16 C dL_law_16 (nI 1) (by decide) ?_
  refine ws_istore_n 17 C dL_law_17 rfl [some (.ref (kB κ)), some (.ref (ad κ 0)), some (.ref (ad κ 91)), some (.int (nI 1)), none] rfl ?_
  refine ws_iconst 18 C dL_law_18 (nI 1) (by decide) ?_
  refine ws_istore 19 C dL_law_19 rfl [some (.ref (kB κ)), some (.ref (ad κ 0)), some (.ref (ad κ 91)), some (.int (nI 1)), some (.int (nI 1))] rfl ?_
  have L21 : ∀ d : Nat, d ≤ 6 → ∀ (S1 : Sg), ∀ (T1 : Sg), ∀ (hB : Bg (1 + d) S1 T1), ∀ (st1 : St), ∀ (hO : Ob 182 st1 0 (bXo κ)), ∀ (hQ : Ob 182 st1 91 (bYo κ)), ∀ (hW : WI κ st1 S1 T1), WS p l e room_1 s m #[Value.ref (kB κ)] below meth c κ 182 182 6778 (lw_Z below #[Value.ref (kB κ)] s) st1 21 [some (.ref (kB κ)), some (.ref (ad κ 0)), some (.ref (ad κ 91)), some (.int (nI 1)), some (.int (nI (1 + d)))] [] := by
    refine dnw ?_
    intro d hd ih21 S1 T1 hB st1 hO hQ hW
    refine ws_iload 21 C dL_law_21 rfl ?_
    refine ws_bipush 23 C dL_law_23 (nI 7) (by decide) ?_
    refine ws_nicmp_ge 25 C 93 dL_law_25 (by decide) (by omega) (by omega) (fun c25 => ?_) (fun c25 => ?_)
    · skip
      have hJ0 := hB.end (show 1 + d = 7 from by omega)
      refine ws_iconst 93 C dL_law_93 (nI 0) (by decide) ?_
      refine ws_istore 94 C dL_law_94 rfl [some (.ref (kB κ)), some (.ref (ad κ 0)), some (.ref (ad κ 91)), some (.int (nI 1)), some (.int (nI 0))] rfl ?_
      have L96 : ∀ k : Nat, k ≤ 44 → ∀ (S1 : Sg), ∀ (T1 : Sg), ∀ (hJ : JJ S1 T1), ∀ (st2 : St), ∀ (hO : Ob 182 st2 0 (bXo κ)), ∀ (hQ : Ob 182 st2 91 (bYo κ)), ∀ (hW : WI κ st2 S1 T1), WS p l e room_1 s m #[Value.ref (kB κ)] below meth c κ 182 182 6778 (lw_Z below #[Value.ref (kB κ)] s) st2 96 [some (.ref (kB κ)), some (.ref (ad κ 0)), some (.ref (ad κ 91)), some (.int (nI 1)), some (.int (nI k))] [] := by
        refine dnw ?_
        intro k hk ih96 S1 T1 hJ st2 hO hQ hW
        refine ws_iload 96 C dL_law_96 rfl ?_
        refine ws_bipush 98 C dL_law_98 (nI 44) (by decide) ?_
        refine ws_nicmp_ge 100 C 157 dL_law_100 (by decide) (by omega) (by omega) (fun c100 => ?_) (fun c100 => ?_)
        · skip
          refine ws_iload_n 157 C dL_law_157 rfl ?_
          refine ws_nif_eq 158 C 186 dL_law_158 (by decide) (by omega) (fun c158 => ?_) (fun c158 => ?_)
          · skip
            (exfalso; omega)
          · skip
            refine ws_aload_n 161 C dL_law_161 rfl ?_
            refine ws_callS0 162 C dL_law_162 vL_105 (c_L_isWell hW hJ.2.1) rfl ⟨(Nat.le_of_ble_eq_true rfl), (Nat.le_of_ble_eq_true rfl)⟩ ⟨(Nat.le_of_ble_eq_true rfl), (Nat.le_of_ble_eq_true rfl)⟩ rfl rfl rfl (kI' (fun r162 u162 h162 => ?_))
            obtain ⟨hr, hW⟩ := h162
            subst hr
            have hO := hW.o
            have hQ := hW.p
            refine ws_nif_eq 165 C 186 dL_law_165 (by decide) (by omega) (fun c165 => ?_) (fun c165 => ?_)
            · skip
              (exfalso; omega)
            · skip
              refine ws_aload_n 168 C dL_law_168 rfl ?_
              refine ws_aload_n 169 C dL_law_169 rfl ?_
              refine ws_aload_n 170 C dL_law_170 rfl ?_
              refine ws_bipush 171 C dL_law_171 (nI 44) (by decide) ?_
              refine ws_callS0 173 C dL_law_173 vL_98 (c_L_cell (k := 44) (by decide) hL) rfl ⟨(Nat.le_of_ble_eq_true rfl), (Nat.le_of_ble_eq_true rfl)⟩ ⟨(Nat.le_of_ble_eq_true rfl), (Nat.le_of_ble_eq_true rfl)⟩ rfl rfl rfl (kR ?_)
              refine ws_callS0 176 C dL_law_176 vL_109 (c_L_areAlike hW hJ) rfl ⟨(Nat.le_of_ble_eq_true rfl), (Nat.le_of_ble_eq_true rfl)⟩ ⟨(Nat.le_of_ble_eq_true rfl), (Nat.le_of_ble_eq_true rfl)⟩ rfl rfl rfl (kI' (fun r176 u176 h176 => ?_))
              obtain ⟨hr, hW⟩ := h176
              subst hr
              have hO := hW.o
              have hQ := hW.p
              refine ws_nif_eq 179 C 186 dL_law_179 (by decide) (by omega) (fun c179 => ?_) (fun c179 => ?_)
              · skip
                (exfalso; omega)
              · skip
                refine ws_iconst 182 C dL_law_182 (nI 1) (by decide) ?_
                refine ws_goto 183 C 187 dL_law_183 (by decide) ?_
                exact ws_lawend 187 C hkH dL_law_187 (Nat.le_of_ble_eq_true rfl) (Nat.le_of_ble_eq_true rfl)
        · skip
          refine ws_iload_n 103 C dL_law_103 rfl ?_
          refine ws_nif_eq 104 C 157 dL_law_104 (by decide) (by omega) (fun c104 => ?_) (fun c104 => ?_)
          · skip
            (exfalso; omega)
          · skip
            refine ws_aload_n 107 C dL_law_107 rfl ?_
            refine ws_aload_n 108 C dL_law_108 rfl ?_
            refine ws_aload_n 109 C dL_law_109 rfl ?_
            refine ws_iload 110 C dL_law_110 rfl ?_
            refine ws_callS0 112 C dL_law_112 vL_98 (c_L_cell (k := k) (by omega) hL) rfl ⟨(Nat.le_of_ble_eq_true rfl), (Nat.le_of_ble_eq_true rfl)⟩ ⟨(Nat.le_of_ble_eq_true rfl), (Nat.le_of_ble_eq_true rfl)⟩ rfl rfl rfl (kR ?_)
            refine ws_aload_n 115 C dL_law_115 rfl ?_
            refine ws_iload 116 C dL_law_116 rfl ?_
            refine ws_iconst 118 C dL_law_118 (nI 1) (by decide) ?_
            refine ws_iadd 119 C dL_law_119 (nI (k + 1)) (nI_add _ _) ?_
            refine ws_callS0 120 C dL_law_120 vL_98 (c_L_cell (k := k + 1) (by omega) hL) rfl ⟨(Nat.le_of_ble_eq_true rfl), (Nat.le_of_ble_eq_true rfl)⟩ ⟨(Nat.le_of_ble_eq_true rfl), (Nat.le_of_ble_eq_true rfl)⟩ rfl rfl rfl (kR ?_)
            refine ws_iconst 123 C dL_law_123 (nI 2) (by decide) ?_
            refine ws_ishr 124 C dL_law_124 ((cel (kXs κ) (kXL κ) (k + 1)) >>> ((nI 2) &&& 31)) rfl ?_
            refine ws_callS0 125 C dL_law_125 vL_102 (c_L_isStep hW hJ) rfl ⟨(Nat.le_of_ble_eq_true rfl), (Nat.le_of_ble_eq_true rfl)⟩ ⟨(Nat.le_of_ble_eq_true rfl), (Nat.le_of_ble_eq_true rfl)⟩ rfl rfl rfl (kI' (fun r125 u125 h125 => ?_))
            obtain ⟨hr, S9, T9, hJ, hW⟩ := h125
            subst hr
            have hO := hW.o
            have hQ := hW.p
            refine ws_nif_eq 128 C 149 dL_law_128 (by decide) (by omega) (fun c128 => ?_) (fun c128 => ?_)
            · skip
              (exfalso; omega)
            · skip
              refine ws_iload 131 C dL_law_131 rfl ?_
              refine ws_iconst 133 C dL_law_133 (nI 3) (by decide) ?_
              refine ws_irem 134 C dL_law_134 (by decide) (nI (k % 3)) (pk_rem (by omega) (by decide) (by decide)) ?_
              refine ws_nif_gt 135 C 145 dL_law_135 (by decide) (by omega) (fun c135 => ?_) (fun c135 => ?_)
              · skip
                refine ws_iconst 145 C dL_law_145 (nI 1) (by decide) ?_
                refine ws_goto 146 C 150 dL_law_146 (by decide) ?_
                refine ws_istore_n 150 C dL_law_150 rfl [some (.ref (kB κ)), some (.ref (ad κ 0)), some (.ref (ad κ 91)), some (.int (nI 1)), some (.int (nI k))] rfl ?_
                refine ws_iinc 151 C dL_law_151 rfl (nI (k + 1)) (nI_1 _) rfl [some (.ref (kB κ)), some (.ref (ad κ 0)), some (.ref (ad κ 91)), some (.int (nI 1)), some (.int (nI (k + 1)))] rfl ?_
                refine ws_goto 154 C 96 dL_law_154 (by decide) ?_
                exact ih96 (by omega) S9 T9 hJ u125 hO hQ hW
              · skip
                refine ws_aload_n 138 C dL_law_138 rfl ?_
                refine ws_callS0 139 C dL_law_139 vL_105 (c_L_isWell hW hJ.2.1) rfl ⟨(Nat.le_of_ble_eq_true rfl), (Nat.le_of_ble_eq_true rfl)⟩ ⟨(Nat.le_of_ble_eq_true rfl), (Nat.le_of_ble_eq_true rfl)⟩ rfl rfl rfl (kI' (fun r139 u139 h139 => ?_))
                obtain ⟨hr, hW⟩ := h139
                subst hr
                have hO := hW.o
                have hQ := hW.p
                refine ws_nif_eq 142 C 149 dL_law_142 (by decide) (by omega) (fun c142 => ?_) (fun c142 => ?_)
                · skip
                  (exfalso; omega)
                · skip
                  refine ws_iconst 145 C dL_law_145 (nI 1) (by decide) ?_
                  refine ws_goto 146 C 150 dL_law_146 (by decide) ?_
                  refine ws_istore_n 150 C dL_law_150 rfl [some (.ref (kB κ)), some (.ref (ad κ 0)), some (.ref (ad κ 91)), some (.int (nI 1)), some (.int (nI k))] rfl ?_
                  refine ws_iinc 151 C dL_law_151 rfl (nI (k + 1)) (nI_1 _) rfl [some (.ref (kB κ)), some (.ref (ad κ 0)), some (.ref (ad κ 91)), some (.int (nI 1)), some (.int (nI (k + 1)))] rfl ?_
                  refine ws_goto 154 C 96 dL_law_154 (by decide) ?_
                  exact ih96 (by omega) S9 T9 hJ u139 hO hQ hW
      exact L96 0 (Nat.zero_le _) S1 T1 hJ0 st1 hO hQ hW
    · skip
      obtain ⟨b1, b2, b3, b4, b5, b6, hB2⟩ := hB.step (show 1 + d < 7 from c25)
      refine ws_iload_n 28 C dL_law_28 rfl ?_
      refine ws_nif_eq 29 C 85 dL_law_29 (by decide) (by omega) (fun c29 => ?_) (fun c29 => ?_)
      · skip
        (exfalso; omega)
      · skip
        refine ws_aload_n 32 C dL_law_32 rfl ?_
        refine ws_iload 33 C dL_law_33 rfl ?_
        refine ws_aload_n 35 C dL_law_35 rfl ?_
        refine ws_iload 36 C dL_law_36 rfl ?_
        refine ws_callS0 38 C dL_law_38 vL_9 (c_L_there (k := 1 + d) (by omega)) rfl ⟨(Nat.le_of_ble_eq_true rfl), (Nat.le_of_ble_eq_true rfl)⟩ ⟨(Nat.le_of_ble_eq_true rfl), (Nat.le_of_ble_eq_true rfl)⟩ rfl rfl rfl (kR ?_)
        refine ws_iconst 41 C dL_law_41 (nI 0) (by decide) ?_
        refine ws_callV0 42 C dL_law_42 vL_46 (o_sortOf hW) rfl hO rfl rfl ⟨(Nat.le_of_ble_eq_true rfl), (Nat.le_of_ble_eq_true rfl)⟩ ⟨(Nat.le_of_ble_eq_true rfl), (Nat.le_of_ble_eq_true rfl)⟩ rfl rfl rfl (kI' (fun r42 u42 h42 => ?_))
        obtain ⟨hr, hW⟩ := h42
        have hr := hr.trans (b1)
        subst hr
        have hO := hW.o
        have hQ := hW.p
        refine ws_aload_n 45 C dL_law_45 rfl ?_
        refine ws_iload 46 C dL_law_46 rfl ?_
        refine ws_callS0 48 C dL_law_48 vL_9 (c_L_there (k := 1 + d) (by omega)) rfl ⟨(Nat.le_of_ble_eq_true rfl), (Nat.le_of_ble_eq_true rfl)⟩ ⟨(Nat.le_of_ble_eq_true rfl), (Nat.le_of_ble_eq_true rfl)⟩ rfl rfl rfl (kR ?_)
        refine ws_iconst 51 C dL_law_51 (nI 1) (by decide) ?_
        refine ws_callV0 52 C dL_law_52 vL_46 (o_sortOf hW) rfl hO rfl rfl ⟨(Nat.le_of_ble_eq_true rfl), (Nat.le_of_ble_eq_true rfl)⟩ ⟨(Nat.le_of_ble_eq_true rfl), (Nat.le_of_ble_eq_true rfl)⟩ rfl rfl rfl (kI' (fun r52 u52 h52 => ?_))
        obtain ⟨hr, hW⟩ := h52
        have hr := hr.trans (b2)
        subst hr
        have hO := hW.o
        have hQ := hW.p
        refine ws_aload_n 55 C dL_law_55 rfl ?_
        refine ws_iload 56 C dL_law_56 rfl ?_
        refine ws_callS0 58 C dL_law_58 vL_9 (c_L_there (k := 1 + d) (by omega)) rfl ⟨(Nat.le_of_ble_eq_true rfl), (Nat.le_of_ble_eq_true rfl)⟩ ⟨(Nat.le_of_ble_eq_true rfl), (Nat.le_of_ble_eq_true rfl)⟩ rfl rfl rfl (kR ?_)
        refine ws_iconst 61 C dL_law_61 (nI 2) (by decide) ?_
        refine ws_callV0 62 C dL_law_62 vL_46 (o_sortOf hW) rfl hO rfl rfl ⟨(Nat.le_of_ble_eq_true rfl), (Nat.le_of_ble_eq_true rfl)⟩ ⟨(Nat.le_of_ble_eq_true rfl), (Nat.le_of_ble_eq_true rfl)⟩ rfl rfl rfl (kI' (fun r62 u62 h62 => ?_))
        obtain ⟨hr, hW⟩ := h62
        have hr := hr.trans (b3)
        subst hr
        have hO := hW.o
        have hQ := hW.p
        refine ws_callV0 65 C dL_law_65 vL_49 (p_sort hW) rfl hQ rfl rfl ⟨(Nat.le_of_ble_eq_true rfl), (Nat.le_of_ble_eq_true rfl)⟩ ⟨(Nat.le_of_ble_eq_true rfl), (Nat.le_of_ble_eq_true rfl)⟩ rfl rfl rfl (kI' (fun r65 u65 h65 => ?_))
        obtain ⟨hr, hW⟩ := h65
        have hr := hr.trans (b4)
        subst hr
        have hO := hW.o
        have hQ := hW.p
        refine ws_if_le 68 C 85 dL_law_68 (by decide)  (fun c68 => ?_) (fun c68 => ?_)
        · skip
          exact absurd c68 b5
        · skip
          refine ws_aload_n 71 C dL_law_71 rfl ?_
          refine ws_iconst 72 C dL_law_72 (nI 3) (by decide) ?_
          refine ws_iconst 73 C dL_law_73 (nI 1) (by decide) ?_
          refine ws_callV0 74 C dL_law_74 vL_43 (o_set hW) rfl hO rfl rfl ⟨(Nat.le_of_ble_eq_true rfl), (Nat.le_of_ble_eq_true rfl)⟩ ⟨(Nat.le_of_ble_eq_true rfl), (Nat.le_of_ble_eq_true rfl)⟩ rfl rfl rfl (kI' (fun r74 u74 h74 => ?_))
          obtain ⟨hr, hW⟩ := h74
          have hr := hr.trans (b6)
          subst hr
          have hO := hW.o
          have hQ := hW.p
          refine ws_iconst 77 C dL_law_77 (nI 1) (by decide) ?_
          refine ws_nicmp_ne 78 C 85 dL_law_78 (by decide) (by omega) (by omega) (fun c78 => ?_) (fun c78 => ?_)
          · skip
            (exfalso; omega)
          · skip
            refine ws_iconst 81 C dL_law_81 (nI 1) (by decide) ?_
            refine ws_goto 82 C 86 dL_law_82 (by decide) ?_
            refine ws_istore_n 86 C dL_law_86 rfl [some (.ref (kB κ)), some (.ref (ad κ 0)), some (.ref (ad κ 91)), some (.int (nI 1)), some (.int (nI (1 + d)))] rfl ?_
            refine ws_iinc 87 C dL_law_87 rfl (nI (1 + d + 1)) (nI_1 _) rfl [some (.ref (kB κ)), some (.ref (ad κ 0)), some (.ref (ad κ 91)), some (.int (nI 1)), some (.int (nI (1 + d + 1)))] rfl ?_
            refine ws_goto 90 C 21 dL_law_90 (by decide) ?_
            exact ih21 (by omega) ((fSet S1 (nI 3) (nI 1)).2) ((fSort T1 (nI (1 + d)) (mv mu0 1 (tn (1 + d))) (mv mu0 2 (tn (1 + d))) (mv mu0 3 (tn (1 + d)))).2) hB2 u74 hO hQ hW
  exact L21 0 (Nat.zero_le _) S0 S0 Bg.start st0 hO hQ hW
set_option maxRecDepth 100000 in
set_option maxHeartbeats 8000000 in
theorem law_all {p : Program} {l : Launch} {e : Env} {s : State} {m : MethodId} {below : List Frame} {meth : Method} {c : Code} {κ : Kt} (C : Cx p s m #[Value.ref (kB κ)] meth c κ code 5 RL ret) (hkH : kH κ = s.heap) (hL : kXL κ ≤ 260) (st : St) : WS p l e room_1 s m #[Value.ref (kB κ)] below meth c κ 0 0 0 (lw_Z below #[Value.ref (kB κ)] s) st 0 [some (.ref (kB κ)), none, none, none, none] [] := by
  refine ws_new (ci := 4) (Cn := RX4) (T := TX4) (N := 8) 0 C dL_law_0 rfl iX4 tyX4 tyX4_ok k13 k14 k6 dX4 dX4_ok (Nat.le_of_ble_eq_true rfl) (Nat.le_of_ble_eq_true rfl) (wsE (fun sa esa => ?_))
  have hN : Ob 1 sa 0 [.inr (4, dX4)] := Ob.one' esa
  refine ws_dup 3 C dL_law_3 rfl ?_
  refine ws_callI 4 C (c_X4_init hN) dL_law_4 vL_97 rfl ⟨(Nat.le_of_ble_eq_true rfl), (Nat.le_of_ble_eq_true rfl)⟩ ⟨(Nat.le_of_ble_eq_true rfl), (Nat.le_of_ble_eq_true rfl)⟩ rfl (Nat.le_of_ble_eq_true rfl) rfl (kV (fun u1 h1 => ?_))
  obtain ⟨hXI, -⟩ := h1
  refine ws_astore_n 7 C dL_law_7 rfl [some (.ref (kB κ)), some (.ref (ad κ 0)), none, none, none] rfl ?_
  refine ws_new (ci := 4) (Cn := RX4) (T := TX4) (N := 8) 8 C dL_law_8 rfl iX4 tyX4 tyX4_ok k13 k14 k6 dX4 dX4_ok (Nat.le_of_ble_eq_true rfl) (Nat.le_of_ble_eq_true rfl) (wsE (fun sb esb => ?_))
  have hXI : XI κ 92 sb S0 := (hXI.fr (Fr.one esb) (fun q g => (show ¬ (q = 91) from by omega))).up (by omega)
  have hN : Ob 92 sb 91 [.inr (4, dX4)] := Ob.one' esb
  refine ws_dup 11 C dL_law_11 rfl ?_
  refine ws_callI 12 C (p_init (by omega) hXI hN) dL_law_12 vL_97 rfl ⟨(Nat.le_of_ble_eq_true rfl), (Nat.le_of_ble_eq_true rfl)⟩ ⟨(Nat.le_of_ble_eq_true rfl), (Nat.le_of_ble_eq_true rfl)⟩ rfl (Nat.le_of_ble_eq_true rfl) rfl (kV (fun u2 h2 => ?_))
  refine ws_astore_n 15 C dL_law_15 rfl [some (.ref (kB κ)), some (.ref (ad κ 0)), some (.ref (ad κ 91)), none, none] rfl ?_
  exact law_main C hkH hL h2
