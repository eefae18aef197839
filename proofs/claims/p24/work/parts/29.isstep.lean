section
variable {zl : Launch} {κ : Kt} {z : Nat} {st0 : St}
set_option maxRecDepth 100000 in
set_option maxHeartbeats 4000000 in
theorem c_L_isStep {S T : Sg} (hW : WI κ st0 S T) (hJ : JJ S T) {x y : Int32} : CT zl κ yL_isStep cL_isStep 11 (some .boolean) (r0 9 207) 182 [.ref (ad κ 0), .ref (ad κ 91), .int (x), .int (y)] st0 (PI (fun r u => r = nI 1 ∧ ∃ S' T', JJ S' T' ∧ WI κ u S' T')) := by
  obtain ⟨P, hP⟩ : ∃ P : Option Value → St → Prop, P = (PI (fun r u => r = nI 1 ∧ ∃ S' T', JJ S' T' ∧ WI κ u S' T')) := ⟨_, rfl⟩
  rw [← hP]
  refine CT.of (by decide +kernel) (Nat.le_of_ble_eq_true rfl) (fun zp ze zs zm zar zbe zme zc C _ => ?_)
  have C : Cx zp zs zm zar zme zc κ cL_isStep 11 RL (some .boolean) := C
  refine ws_lv (lv2 := [some (.ref (ad κ 0)), some (.ref (ad κ 91)), some (.int (x)), some (.int (y)), none, none, none, none, none, none, none]) rfl ?_
  have hO := hW.o
  have hQ := hW.p
  have h24 := hW.1.ok.1
  refine ws_iload_n 0 C dL_isStep_0 rfl ?_
  refine ws_iconst 1 C dL_isStep_1 (nI 4) (by decide) ?_
  refine ws_ishr 2 C dL_isStep_2 (x >>> ((nI 4) &&& 31)) rfl ?_
  refine ws_istore 3 C dL_isStep_3 rfl [some (.ref (ad κ 0)), some (.ref (ad κ 91)), some (.int (x)), some (.int (y)), some (.int (x >>> ((nI 4) &&& 31))), none, none, none, none, none, none] rfl ?_
  obtain ⟨zz, hzz⟩ : ∃ zz, zz = x >>> (nI 4 &&& 31) := ⟨_, rfl⟩
  refine ws_wk (lv2 := [some (.ref (ad κ 0)), some (.ref (ad κ 91)), some (.int (x)), some (.int (y)), some (.int (zz)), none, none, none, none, none, none]) ⟨rfl, rfl, rfl, rfl, (congrArg Value.int hzz), trivial⟩ ?_
  refine ws_aload_n 5 C dL_isStep_5 rfl ?_
  refine ws_iconst 6 C dL_isStep_6 (nI 4) (by decide) ?_
  refine ws_callV0 7 C dL_isStep_7 vL_28 (o_count hW (by decide) (by decide)) rfl hO rfl rfl ⟨by decide, by decide⟩ ⟨Nat.zero_le _, Nat.zero_le _⟩ rfl rfl rfl (kI' (fun r7 u7 h7 => ?_))
  obtain ⟨hr, hW⟩ := h7
  have hr := hr.trans ((fCount_4 (S := S) rfl))
  subst hr
  have hO := hW.o
  have hQ := hW.p
  refine ws_istore 10 C dL_isStep_10 rfl [some (.ref (ad κ 0)), some (.ref (ad κ 91)), some (.int (x)), some (.int (y)), some (.int (zz)), some (.int (nI (mn (sM S)))), none, none, none, none, none] rfl ?_
  refine ws_iload_n 12 C dL_isStep_12 rfl ?_
  refine ws_bipush 13 C dL_isStep_13 (nI 14) (by decide) ?_
  refine ws_callS0 15 C dL_isStep_15 vL_24 (c_L_up (v := x) (n := 14) (by omega) (by omega)) rfl ⟨by decide, by decide⟩ ⟨Nat.zero_le _, Nat.zero_le _⟩ rfl rfl rfl (kR ?_)
  have hlt15 := upn_lt x (n := 14) (by omega)
  have J68 : WS zp zl ze (r0 9 207) zs zm zar zbe zme zc κ 182 0 0 (QM zbe zar zs κ 182 (r0 9 207) P) u7 68 [some (.ref (ad κ 0)), some (.ref (ad κ 91)), some (.int (x)), some (.int (y)), some (.int (zz)), some (.int (nI (mn (sM S)))), none, none, none, none, none] [] := by
    refine ws_iload 68 C dL_isStep_68 rfl ?_
    refine ws_iconst 70 C dL_isStep_70 (nI 4) (by decide) ?_
    refine ws_callS0 71 C dL_isStep_71 vL_24 (c_L_up (v := zz) (n := 4) (by omega) (by omega)) rfl ⟨by decide, by decide⟩ ⟨Nat.zero_le _, Nat.zero_le _⟩ rfl rfl rfl (kR ?_)
    have hlt71 := upn_lt zz (n := 4) (by omega)
    refine ws_istore 74 C dL_isStep_74 rfl [some (.ref (ad κ 0)), some (.ref (ad κ 91)), some (.int (x)), some (.int (y)), some (.int (zz)), some (.int (nI (mn (sM S)))), some (.int (nI (upn zz 4))), none, none, none, none] rfl ?_
    have J145 : ∀ (v : Nat), ∀ (hv : lsv (upn zz 4) ≤ nI v ∧ nI v ≤ gsv (upn zz 4)), ∀ (hv2 : v < 2 ^ 31), WS zp zl ze (r0 9 207) zs zm zar zbe zme zc κ 182 0 0 (QM zbe zar zs κ 182 (r0 9 207) P) u7 145 [some (.ref (ad κ 0)), some (.ref (ad κ 91)), some (.int (x)), some (.int (y)), some (.int (zz)), some (.int (nI (mn (sM S)))), some (.int (nI (upn zz 4))), none, none, none, none] [.int (nI v)] := by
      intro v hv hv2
      refine ws_istore 145 C dL_isStep_145 rfl [some (.ref (ad κ 0)), some (.ref (ad κ 91)), some (.int (x)), some (.int (y)), some (.int (zz)), some (.int (nI (mn (sM S)))), some (.int (nI (upn zz 4))), some (.int (nI v)), none, none, none] rfl ?_
      obtain ⟨e1, e2, e3, hJ1⟩ := step_set hJ (k := upn zz 4) (v := v) (by omega) hv
      refine ws_aload_n 147 C dL_isStep_147 rfl ?_
      refine ws_iload 148 C dL_isStep_148 rfl ?_
      refine ws_callV0 150 C dL_isStep_150 vL_28 (o_count hW (k := upn zz 4) (by omega) (by omega)) rfl hO rfl rfl ⟨by decide, by decide⟩ ⟨Nat.zero_le _, Nat.zero_le _⟩ rfl rfl rfl (kI' (fun r150 u150 h150 => ?_))
      obtain ⟨hr, hW⟩ := h150
      have hr := hr.trans ((fCount_k rfl (by omega) : fCount S (nI (upn zz 4)) = mv (sM S) 0 (upn zz 4)))
      subst hr
      have hO := hW.o
      have hQ := hW.p
      refine ws_istore 153 C dL_isStep_153 rfl [some (.ref (ad κ 0)), some (.ref (ad κ 91)), some (.int (x)), some (.int (y)), some (.int (zz)), some (.int (nI (mn (sM S)))), some (.int (nI (upn zz 4))), some (.int (nI v)), some (.int (mv (sM S) 0 (upn zz 4))), none, none] rfl ?_
      refine ws_aload_n 155 C dL_isStep_155 rfl ?_
      refine ws_iload 156 C dL_isStep_156 rfl ?_
      refine ws_iload 158 C dL_isStep_158 rfl ?_
      refine ws_callV0 160 C dL_isStep_160 vL_43 (o_set hW) rfl hO rfl rfl ⟨by decide, by decide⟩ ⟨Nat.zero_le _, Nat.zero_le _⟩ rfl rfl rfl (kI' (fun r160 u160 h160 => ?_))
      obtain ⟨hr, hW⟩ := h160
      have hr := hr.trans (e1)
      subst hr
      have hO := hW.o
      have hQ := hW.p
      refine ws_iload 163 C dL_isStep_163 rfl ?_
      refine ws_icmp_ne 165 C 196 dL_isStep_165 (by decide)  (fun c165 => ?_) (fun c165 => ?_)
      · skip
        exact absurd c165 (fun q => q rfl)
      · skip
        refine ws_aload_n 168 C dL_isStep_168 rfl ?_
        refine ws_iload 169 C dL_isStep_169 rfl ?_
        refine ws_iload 171 C dL_isStep_171 rfl ?_
        refine ws_callV0 173 C dL_isStep_173 vL_43 (p_set hW) rfl hQ rfl rfl ⟨by decide, by decide⟩ ⟨Nat.zero_le _, Nat.zero_le _⟩ rfl rfl rfl (kI' (fun r173 u173 h173 => ?_))
        obtain ⟨hr, hW⟩ := h173
        have hr := hr.trans (e2)
        subst hr
        have hO := hW.o
        have hQ := hW.p
        refine ws_iload 176 C dL_isStep_176 rfl ?_
        refine ws_icmp_ne 178 C 196 dL_isStep_178 (by decide)  (fun c178 => ?_) (fun c178 => ?_)
        · skip
          exact absurd c178 (fun q => q rfl)
        · skip
          refine ws_aload_n 181 C dL_isStep_181 rfl ?_
          refine ws_iload 182 C dL_isStep_182 rfl ?_
          refine ws_callV0 184 C dL_isStep_184 vL_28 (o_count hW (k := upn zz 4) (by omega) (by omega)) rfl hO rfl rfl ⟨by decide, by decide⟩ ⟨Nat.zero_le _, Nat.zero_le _⟩ rfl rfl rfl (kI' (fun r184 u184 h184 => ?_))
          obtain ⟨hr, hW⟩ := h184
          have hr := hr.trans (e3)
          subst hr
          have hO := hW.o
          have hQ := hW.p
          refine ws_iload 187 C dL_isStep_187 rfl ?_
          refine ws_nicmp_ne 189 C 196 dL_isStep_189 (by decide) (by omega) (by omega) (fun c189 => ?_) (fun c189 => ?_)
          · skip
            (exfalso; omega)
          · skip
            refine ws_iconst 192 C dL_isStep_192 (nI 1) (by decide) ?_
            refine ws_goto 193 C 197 dL_isStep_193 (by decide) ?_
            exact ws_zret 197 C rfl dL_isStep_197 rfl (Nat.le_refl _) (Nat.le_refl _) (by rw [hP]; exact ⟨nI 1, rfl, ⟨rfl, _, _, hJ1, hW⟩⟩)
    refine ws_iload 76 C dL_isStep_76 rfl ?_
    refine ws_nif_ne 78 C 108 dL_isStep_78 (by decide) (by omega) (fun c78 => ?_) (fun c78 => ?_)
    · skip
      refine ws_iload 108 C dL_isStep_108 rfl ?_
      refine ws_iconst 110 C dL_isStep_110 (nI 1) (by decide) ?_
      refine ws_nicmp_ne 111 C 125 dL_isStep_111 (by decide) (by omega) (by omega) (fun c111 => ?_) (fun c111 => ?_)
      · skip
        refine ws_iload 125 C dL_isStep_125 rfl ?_
        refine ws_iconst 127 C dL_isStep_127 (nI 2) (by decide) ?_
        refine ws_nicmp_ne 128 C 140 dL_isStep_128 (by decide) (by omega) (by omega) (fun c128 => ?_) (fun c128 => ?_)
        · skip
          refine ws_iload_n 140 C dL_isStep_140 rfl ?_
          refine ws_iconst 141 C dL_isStep_141 (nI 2) (by decide) ?_
          refine ws_callS0 142 C dL_isStep_142 vL_24 (c_L_up (v := y) (n := 2) (by omega) (by omega)) rfl ⟨by decide, by decide⟩ ⟨Nat.zero_le _, Nat.zero_le _⟩ rfl rfl rfl (kR ?_)
          have hlt142 := upn_lt y (n := 2) (by omega)
          exact J145 (upn y 2) (rg3 (by omega) (by omega)) (by omega)
        · skip
          refine ws_iload_n 131 C dL_isStep_131 rfl ?_
          refine ws_bipush 132 C dL_isStep_132 (nI 41) (by decide) ?_
          refine ws_callS0 134 C dL_isStep_134 vL_24 (c_L_up (v := y) (n := 41) (by omega) (by omega)) rfl ⟨by decide, by decide⟩ ⟨Nat.zero_le _, Nat.zero_le _⟩ rfl rfl rfl (kR ?_)
          have hlt134 := upn_lt y (n := 41) (by omega)
          refine ws_goto 137 C 145 dL_isStep_137 (by decide) ?_
          exact J145 (upn y 41) (rg2 c128 (by omega)) (by omega)
      · skip
        refine ws_iconst 114 C dL_isStep_114 (nI 1) (by decide) ?_
        refine ws_iload_n 115 C dL_isStep_115 rfl ?_
        refine ws_bipush 116 C dL_isStep_116 (nI 20) (by decide) ?_
        refine ws_callS0 118 C dL_isStep_118 vL_24 (c_L_up (v := y) (n := 20) (by omega) (by omega)) rfl ⟨by decide, by decide⟩ ⟨Nat.zero_le _, Nat.zero_le _⟩ rfl rfl rfl (kR ?_)
        have hlt118 := upn_lt y (n := 20) (by omega)
        refine ws_iadd 121 C dL_isStep_121 (nI (1 + upn y 20)) (nI_add _ _) ?_
        refine ws_goto 122 C 145 dL_isStep_122 (by decide) ?_
        exact J145 (1 + upn y 20) (rg1 c111 (by omega)) (by omega)
    · skip
      have J101 : ∀ (q : Nat), ∀ (hq : 0 < q ∧ q ≤ 181), WS zp zl ze (r0 9 207) zs zm zar zbe zme zc κ 182 0 0 (QM zbe zar zs κ 182 (r0 9 207) P) u7 101 [some (.ref (ad κ 0)), some (.ref (ad κ 91)), some (.int (x)), some (.int (y)), some (.int (zz)), some (.int (nI (mn (sM S)))), some (.int (nI (upn zz 4))), none, none, none, none] [.int (nI q), .int (y), .int (nI 20)] := by
        intro q hq
        refine ws_callS0 101 C dL_isStep_101 vL_24 (c_L_up (v := y) (n := q) (by omega) (by omega)) rfl ⟨by decide, by decide⟩ ⟨Nat.zero_le _, Nat.zero_le _⟩ rfl rfl rfl (kR ?_)
        have hlt101 := upn_lt y (n := q) (by omega)
        refine ws_iadd 104 C dL_isStep_104 (nI (20 + upn y q)) (nI_add _ _) ?_
        refine ws_goto 105 C 145 dL_isStep_105 (by decide) ?_
        exact J145 (20 + upn y q) (rg0 c78 (by omega)) (by omega)
      refine ws_bipush 81 C dL_isStep_81 (nI 20) (by decide) ?_
      refine ws_iload_n 83 C dL_isStep_83 rfl ?_
      refine ws_iload 84 C dL_isStep_84 rfl ?_
      refine ws_iconst 86 C dL_isStep_86 (nI 3) (by decide) ?_
      refine ws_callS0 87 C dL_isStep_87 vL_24 (c_L_up (v := zz) (n := 3) (by omega) (by omega)) rfl ⟨by decide, by decide⟩ ⟨Nat.zero_le _, Nat.zero_le _⟩ rfl rfl rfl (kR ?_)
      have hlt87 := upn_lt zz (n := 3) (by omega)
      refine ws_nif_ne 90 C 99 dL_isStep_90 (by decide) (by omega) (fun c90 => ?_) (fun c90 => ?_)
      · skip
        refine ws_bipush 99 C dL_isStep_99 (nI 60) (by decide) ?_
        exact J101 60 (by omega)
      · skip
        refine ws_sipush 93 C dL_isStep_93 (nI 181) (by decide) ?_
        refine ws_goto 96 C 101 dL_isStep_96 (by decide) ?_
        exact J101 181 (by omega)
  have J198 : WS zp zl ze (r0 9 207) zs zm zar zbe zme zc κ 182 0 0 (QM zbe zar zs κ 182 (r0 9 207) P) u7 198 [some (.ref (ad κ 0)), some (.ref (ad κ 91)), some (.int (x)), some (.int (y)), some (.int (zz)), some (.int (nI (mn (sM S)))), none, none, none, none, none] [] := by
    refine ws_iload 198 C dL_isStep_198 rfl ?_
    refine ws_bipush 200 C dL_isStep_200 (nI 8) (by decide) ?_
    refine ws_callS0 202 C dL_isStep_202 vL_24 (c_L_up (v := zz) (n := 8) (by omega) (by omega)) rfl ⟨by decide, by decide⟩ ⟨Nat.zero_le _, Nat.zero_le _⟩ rfl rfl rfl (kR ?_)
    have hlt202 := upn_lt zz (n := 8) (by omega)
    refine ws_istore 205 C dL_isStep_205 rfl [some (.ref (ad κ 0)), some (.ref (ad κ 91)), some (.int (x)), some (.int (y)), some (.int (zz)), some (.int (nI (mn (sM S)))), some (.int (nI (upn zz 8))), none, none, none, none] rfl ?_
    refine ws_aload_n 207 C dL_isStep_207 rfl ?_
    refine ws_iload 208 C dL_isStep_208 rfl ?_
    refine ws_iconst 210 C dL_isStep_210 (nI 0) (by decide) ?_
    refine ws_callV0 211 C dL_isStep_211 vL_46 (o_sortOf hW) rfl hO rfl rfl ⟨by decide, by decide⟩ ⟨Nat.zero_le _, Nat.zero_le _⟩ rfl rfl rfl (kI' (fun r211 u211 h211 => ?_))
    obtain ⟨hr, hW⟩ := h211
    have hr := hr.trans ((fSortOf_0 (ixv_s (by omega) (by decide)) rfl : fSortOf S (nI (upn zz 8)) (nI 0) = mv (sM S) 1 (upn zz 8)))
    subst hr
    have hO := hW.o
    have hQ := hW.p
    refine ws_istore 214 C dL_isStep_214 rfl [some (.ref (ad κ 0)), some (.ref (ad κ 91)), some (.int (x)), some (.int (y)), some (.int (zz)), some (.int (nI (mn (sM S)))), some (.int (nI (upn zz 8))), some (.int (mv (sM S) 1 (upn zz 8))), none, none, none] rfl ?_
    refine ws_iconst 216 C dL_isStep_216 (nI 1) (by decide) ?_
    refine ws_iload_n 217 C dL_isStep_217 rfl ?_
    refine ws_bipush 218 C dL_isStep_218 (nI 20) (by decide) ?_
    refine ws_callS0 220 C dL_isStep_220 vL_24 (c_L_up (v := y) (n := 20) (by omega) (by omega)) rfl ⟨by decide, by decide⟩ ⟨Nat.zero_le _, Nat.zero_le _⟩ rfl rfl rfl (kR ?_)
    have hlt220 := upn_lt y (n := 20) (by omega)
    refine ws_iadd 223 C dL_isStep_223 (nI (1 + upn y 20)) (nI_add _ _) ?_
    refine ws_istore 224 C dL_isStep_224 rfl [some (.ref (ad κ 0)), some (.ref (ad κ 91)), some (.int (x)), some (.int (y)), some (.int (zz)), some (.int (nI (mn (sM S)))), some (.int (nI (upn zz 8))), some (.int (mv (sM S) 1 (upn zz 8))), some (.int (nI (1 + upn y 20))), none, none] rfl ?_
    refine ws_iload_n 226 C dL_isStep_226 rfl ?_
    refine ws_iconst 227 C dL_isStep_227 (nI 3) (by decide) ?_
    refine ws_ishr 228 C dL_isStep_228 (y >>> ((nI 3) &&& 31)) rfl ?_
    refine ws_bipush 229 C dL_isStep_229 (nI 101) (by decide) ?_
    refine ws_callS0 231 C dL_isStep_231 vL_24 (c_L_up (v := y >>> ((nI 3) &&& 31)) (n := 101) (by omega) (by omega)) rfl ⟨by decide, by decide⟩ ⟨Nat.zero_le _, Nat.zero_le _⟩ rfl rfl rfl (kR ?_)
    have hlt231 := upn_lt (y >>> ((nI 3) &&& 31)) (n := 101) (by omega)
    refine ws_istore 234 C dL_isStep_234 rfl [some (.ref (ad κ 0)), some (.ref (ad κ 91)), some (.int (x)), some (.int (y)), some (.int (zz)), some (.int (nI (mn (sM S)))), some (.int (nI (upn zz 8))), some (.int (mv (sM S) 1 (upn zz 8))), some (.int (nI (1 + upn y 20))), some (.int (nI (upn (y >>> ((nI 3) &&& 31)) 101))), none] rfl ?_
    refine ws_iload_n 236 C dL_isStep_236 rfl ?_
    refine ws_bipush 237 C dL_isStep_237 (nI 6) (by decide) ?_
    refine ws_ishr 239 C dL_isStep_239 (y >>> ((nI 6) &&& 31)) rfl ?_
    refine ws_bipush 240 C dL_isStep_240 (nI 101) (by decide) ?_
    refine ws_callS0 242 C dL_isStep_242 vL_24 (c_L_up (v := y >>> ((nI 6) &&& 31)) (n := 101) (by omega) (by omega)) rfl ⟨by decide, by decide⟩ ⟨Nat.zero_le _, Nat.zero_le _⟩ rfl rfl rfl (kR ?_)
    have hlt242 := upn_lt (y >>> ((nI 6) &&& 31)) (n := 101) (by omega)
    refine ws_istore 245 C dL_isStep_245 rfl [some (.ref (ad κ 0)), some (.ref (ad κ 91)), some (.int (x)), some (.int (y)), some (.int (zz)), some (.int (nI (mn (sM S)))), some (.int (nI (upn zz 8))), some (.int (mv (sM S) 1 (upn zz 8))), some (.int (nI (1 + upn y 20))), some (.int (nI (upn (y >>> ((nI 3) &&& 31)) 101))), some (.int (nI (upn (y >>> ((nI 6) &&& 31)) 101)))] rfl ?_
    obtain ⟨e1, e2, e3, e4, e5, hJ1⟩ := step_sort hJ (k := upn zz 8) (w := 1 + upn y 20) (l := upn (y >>> (nI 3 &&& 31)) 101) (r := upn (y >>> (nI 6 &&& 31)) 101) (by omega) (by omega) (by omega) (by omega)
    refine ws_aload_n 247 C dL_isStep_247 rfl ?_
    refine ws_iload 248 C dL_isStep_248 rfl ?_
    refine ws_iload 250 C dL_isStep_250 rfl ?_
    refine ws_iload 252 C dL_isStep_252 rfl ?_
    refine ws_iload 254 C dL_isStep_254 rfl ?_
    refine ws_callV0 256 C dL_isStep_256 vL_49 (o_sort hW) rfl hO rfl rfl ⟨by decide, by decide⟩ ⟨Nat.zero_le _, Nat.zero_le _⟩ rfl rfl rfl (kI' (fun r256 u256 h256 => ?_))
    obtain ⟨hr, hW⟩ := h256
    have hr := hr.trans (e1)
    subst hr
    have hO := hW.o
    have hQ := hW.p
    refine ws_iload 259 C dL_isStep_259 rfl ?_
    refine ws_icmp_ne 261 C 324 dL_isStep_261 (by decide)  (fun c261 => ?_) (fun c261 => ?_)
    · skip
      exact absurd c261 (fun q => q rfl)
    · skip
      refine ws_aload_n 264 C dL_isStep_264 rfl ?_
      refine ws_iload 265 C dL_isStep_265 rfl ?_
      refine ws_callS0 267 C dL_isStep_267 vL_9 (c_L_there (k := upn zz 8) (by omega)) rfl ⟨by decide, by decide⟩ ⟨Nat.zero_le _, Nat.zero_le _⟩ rfl rfl rfl (kR ?_)
      refine ws_iload 270 C dL_isStep_270 rfl ?_
      refine ws_iload 272 C dL_isStep_272 rfl ?_
      refine ws_iload 274 C dL_isStep_274 rfl ?_
      refine ws_callV0 276 C dL_isStep_276 vL_49 (p_sort hW) rfl hQ rfl rfl ⟨by decide, by decide⟩ ⟨Nat.zero_le _, Nat.zero_le _⟩ rfl rfl rfl (kI' (fun r276 u276 h276 => ?_))
      obtain ⟨hr, hW⟩ := h276
      have hr := hr.trans (e2)
      subst hr
      have hO := hW.o
      have hQ := hW.p
      refine ws_iload 279 C dL_isStep_279 rfl ?_
      refine ws_icmp_ne 281 C 324 dL_isStep_281 (by decide)  (fun c281 => ?_) (fun c281 => ?_)
      · skip
        exact absurd c281 (fun q => q rfl)
      · skip
        refine ws_aload_n 284 C dL_isStep_284 rfl ?_
        refine ws_iload 285 C dL_isStep_285 rfl ?_
        refine ws_iconst 287 C dL_isStep_287 (nI 0) (by decide) ?_
        refine ws_callV0 288 C dL_isStep_288 vL_46 (o_sortOf hW) rfl hO rfl rfl ⟨by decide, by decide⟩ ⟨Nat.zero_le _, Nat.zero_le _⟩ rfl rfl rfl (kI' (fun r288 u288 h288 => ?_))
        obtain ⟨hr, hW⟩ := h288
        have hr := hr.trans (e3)
        subst hr
        have hO := hW.o
        have hQ := hW.p
        refine ws_iload 291 C dL_isStep_291 rfl ?_
        refine ws_nicmp_ne 293 C 324 dL_isStep_293 (by decide) (by omega) (by omega) (fun c293 => ?_) (fun c293 => ?_)
        · skip
          (exfalso; omega)
        · skip
          refine ws_aload_n 296 C dL_isStep_296 rfl ?_
          refine ws_iload 297 C dL_isStep_297 rfl ?_
          refine ws_iconst 299 C dL_isStep_299 (nI 1) (by decide) ?_
          refine ws_callV0 300 C dL_isStep_300 vL_46 (o_sortOf hW) rfl hO rfl rfl ⟨by decide, by decide⟩ ⟨Nat.zero_le _, Nat.zero_le _⟩ rfl rfl rfl (kI' (fun r300 u300 h300 => ?_))
          obtain ⟨hr, hW⟩ := h300
          have hr := hr.trans (e4)
          subst hr
          have hO := hW.o
          have hQ := hW.p
          refine ws_iload 303 C dL_isStep_303 rfl ?_
          refine ws_nicmp_ne 305 C 324 dL_isStep_305 (by decide) (by omega) (by omega) (fun c305 => ?_) (fun c305 => ?_)
          · skip
            (exfalso; omega)
          · skip
            refine ws_aload_n 308 C dL_isStep_308 rfl ?_
            refine ws_iload 309 C dL_isStep_309 rfl ?_
            refine ws_iconst 311 C dL_isStep_311 (nI 2) (by decide) ?_
            refine ws_callV0 312 C dL_isStep_312 vL_46 (o_sortOf hW) rfl hO rfl rfl ⟨by decide, by decide⟩ ⟨Nat.zero_le _, Nat.zero_le _⟩ rfl rfl rfl (kI' (fun r312 u312 h312 => ?_))
            obtain ⟨hr, hW⟩ := h312
            have hr := hr.trans (e5)
            subst hr
            have hO := hW.o
            have hQ := hW.p
            refine ws_iload 315 C dL_isStep_315 rfl ?_
            refine ws_nicmp_ne 317 C 324 dL_isStep_317 (by decide) (by omega) (by omega) (fun c317 => ?_) (fun c317 => ?_)
            · skip
              (exfalso; omega)
            · skip
              refine ws_iconst 320 C dL_isStep_320 (nI 1) (by decide) ?_
              refine ws_goto 321 C 325 dL_isStep_321 (by decide) ?_
              exact ws_zret 325 C rfl dL_isStep_325 rfl (Nat.le_refl _) (Nat.le_refl _) (by rw [hP]; exact ⟨nI 1, rfl, ⟨rfl, _, _, hJ1, hW⟩⟩)
  have J410 : WS zp zl ze (r0 9 207) zs zm zar zbe zme zc κ 182 0 0 (QM zbe zar zs κ 182 (r0 9 207) P) u7 410 [some (.ref (ad κ 0)), some (.ref (ad κ 91)), some (.int (x)), some (.int (y)), some (.int (zz)), some (.int (nI (mn (sM S)))), none, none, none, none, none] [] := by
    refine ws_iload 410 C dL_isStep_410 rfl ?_
    refine ws_iload 412 C dL_isStep_412 rfl ?_
    refine ws_iconst 414 C dL_isStep_414 (nI 1) (by decide) ?_
    refine ws_iadd 415 C dL_isStep_415 (nI (mn (sM S) + 1)) (nI_add _ _) ?_
    refine ws_callS0 416 C dL_isStep_416 vL_24 (c_L_up (v := zz) (n := mn (sM S) + 1) (by omega) (by omega)) rfl ⟨by decide, by decide⟩ ⟨Nat.zero_le _, Nat.zero_le _⟩ rfl rfl rfl (kR ?_)
    have hlt416 := upn_lt zz (n := mn (sM S) + 1) (by omega)
    refine ws_istore 419 C dL_isStep_419 rfl [some (.ref (ad κ 0)), some (.ref (ad κ 91)), some (.int (x)), some (.int (y)), some (.int (zz)), some (.int (nI (mn (sM S)))), some (.int (nI (upn zz (mn (sM S) + 1)))), none, none, none, none] rfl ?_
    refine ws_iload_n 421 C dL_isStep_421 rfl ?_
    refine ws_iload 422 C dL_isStep_422 rfl ?_
    refine ws_iconst 424 C dL_isStep_424 (nI 1) (by decide) ?_
    refine ws_iadd 425 C dL_isStep_425 (nI (mn (sM S) + 1)) (nI_add _ _) ?_
    refine ws_callS0 426 C dL_isStep_426 vL_24 (c_L_up (v := y) (n := mn (sM S) + 1) (by omega) (by omega)) rfl ⟨by decide, by decide⟩ ⟨Nat.zero_le _, Nat.zero_le _⟩ rfl rfl rfl (kR ?_)
    have hlt426 := upn_lt y (n := mn (sM S) + 1) (by omega)
    refine ws_istore 429 C dL_isStep_429 rfl [some (.ref (ad κ 0)), some (.ref (ad κ 91)), some (.int (x)), some (.int (y)), some (.int (zz)), some (.int (nI (mn (sM S)))), some (.int (nI (upn zz (mn (sM S) + 1)))), some (.int (nI (upn y (mn (sM S) + 1)))), none, none, none] rfl ?_
    refine ws_aload_n 431 C dL_isStep_431 rfl ?_
    refine ws_iload 432 C dL_isStep_432 rfl ?_
    refine ws_iconst 434 C dL_isStep_434 (nI 1) (by decide) ?_
    refine ws_callV0 435 C dL_isStep_435 vL_53 (o_word hW) rfl hO rfl rfl ⟨by decide, by decide⟩ ⟨Nat.zero_le _, Nat.zero_le _⟩ rfl rfl rfl (kI' (fun r435 u435 h435 => ?_))
    obtain ⟨rfl, hW⟩ := h435
    have hO := hW.o
    have hQ := hW.p
    refine ws_istore 438 C dL_isStep_438 rfl [some (.ref (ad κ 0)), some (.ref (ad κ 91)), some (.int (x)), some (.int (y)), some (.int (zz)), some (.int (nI (mn (sM S)))), some (.int (nI (upn zz (mn (sM S) + 1)))), some (.int (nI (upn y (mn (sM S) + 1)))), some (.int (fWord S (nI (upn zz (mn (sM S) + 1))) (nI 1))), none, none] rfl ?_
    refine ws_aload_n 440 C dL_isStep_440 rfl ?_
    refine ws_iload 441 C dL_isStep_441 rfl ?_
    refine ws_iconst 443 C dL_isStep_443 (nI 1) (by decide) ?_
    refine ws_callV0 444 C dL_isStep_444 vL_53 (o_word hW) rfl hO rfl rfl ⟨by decide, by decide⟩ ⟨Nat.zero_le _, Nat.zero_le _⟩ rfl rfl rfl (kI' (fun r444 u444 h444 => ?_))
    obtain ⟨rfl, hW⟩ := h444
    have hO := hW.o
    have hQ := hW.p
    refine ws_istore 447 C dL_isStep_447 rfl [some (.ref (ad κ 0)), some (.ref (ad κ 91)), some (.int (x)), some (.int (y)), some (.int (zz)), some (.int (nI (mn (sM S)))), some (.int (nI (upn zz (mn (sM S) + 1)))), some (.int (nI (upn y (mn (sM S) + 1)))), some (.int (fWord S (nI (upn zz (mn (sM S) + 1))) (nI 1))), some (.int (fWord S (nI (upn y (mn (sM S) + 1))) (nI 1))), none] rfl ?_
    refine ws_aload_n 449 C dL_isStep_449 rfl ?_
    refine ws_iload 450 C dL_isStep_450 rfl ?_
    refine ws_iload 452 C dL_isStep_452 rfl ?_
    refine ws_callV0 454 C dL_isStep_454 vL_59 (o_swap hW) rfl hO rfl rfl ⟨by decide, by decide⟩ ⟨Nat.zero_le _, Nat.zero_le _⟩ rfl rfl rfl (kI' (fun r454 u454 h454 => ?_))
    obtain ⟨rfl, hW⟩ := h454
    have hO := hW.o
    have hQ := hW.p
    refine ws_istore 457 C dL_isStep_457 rfl [some (.ref (ad κ 0)), some (.ref (ad κ 91)), some (.int (x)), some (.int (y)), some (.int (zz)), some (.int (nI (mn (sM S)))), some (.int (nI (upn zz (mn (sM S) + 1)))), some (.int (nI (upn y (mn (sM S) + 1)))), some (.int (fWord S (nI (upn zz (mn (sM S) + 1))) (nI 1))), some (.int (fWord S (nI (upn y (mn (sM S) + 1))) (nI 1))), some (.int ((fSwap S (nI (upn zz (mn (sM S) + 1))) (nI (upn y (mn (sM S) + 1)))).1))] rfl ?_
    refine ws_iload 459 C dL_isStep_459 rfl ?_
    refine ws_aload_n 461 C dL_isStep_461 rfl ?_
    refine ws_iload 462 C dL_isStep_462 rfl ?_
    refine ws_iload 464 C dL_isStep_464 rfl ?_
    refine ws_callV0 466 C dL_isStep_466 vL_59 (p_swap hW) rfl hQ rfl rfl ⟨by decide, by decide⟩ ⟨Nat.zero_le _, Nat.zero_le _⟩ rfl rfl rfl (kI' (fun r466 u466 h466 => ?_))
    obtain ⟨hr, hW⟩ := h466
    have hr := hr.trans ((hJ.swap _ _).2)
    subst hr
    have hO := hW.o
    have hQ := hW.p
    refine ws_icmp_ne 469 C 554 dL_isStep_469 (by decide)  (fun c469 => ?_) (fun c469 => ?_)
    · skip
      exact absurd c469 (fun q => q rfl)
    · skip
      refine ws_iload 472 C dL_isStep_472 rfl ?_
      refine ws_iload 474 C dL_isStep_474 rfl ?_
      refine ws_nicmp_eq 476 C 486 dL_isStep_476 (by decide) (by omega) (by omega) (fun c476 => ?_) (fun c476 => ?_)
      · skip
        have ev : (fSwap S (nI (upn zz (mn (sM S) + 1))) (nI (upn y (mn (sM S) + 1)))).1 = -1001 := step_swapN h24 (by omega) (by omega) (by omega)
        refine ws_iload 486 C dL_isStep_486 rfl ?_
        refine ws_sipush 488 C dL_isStep_488 ((-1001)) (by decide) ?_
        refine ws_icmp_ne 491 C 554 dL_isStep_491 (by decide)  (fun c491 => ?_) (fun c491 => ?_)
        · skip
          exact absurd c491 (fun q => q ev)
        · skip
          refine ws_goto 494 C 550 dL_isStep_494 (by decide) ?_
          refine ws_iconst 550 C dL_isStep_550 (nI 1) (by decide) ?_
          refine ws_goto 551 C 555 dL_isStep_551 (by decide) ?_
          exact ws_zret 555 C rfl dL_isStep_555 rfl (Nat.le_refl _) (Nat.le_refl _) (by rw [hP]; exact ⟨nI 1, rfl, ⟨rfl, _, _, (hJ.swap _ _).1, hW⟩⟩)
      · skip
        refine ws_iload 479 C dL_isStep_479 rfl ?_
        refine ws_iload 481 C dL_isStep_481 rfl ?_
        refine ws_nicmp_ne 483 C 497 dL_isStep_483 (by decide) (by omega) (by omega) (fun c483 => ?_) (fun c483 => ?_)
        · skip
          refine ws_iload 497 C dL_isStep_497 rfl ?_
          refine ws_iload 499 C dL_isStep_499 rfl ?_
          refine ws_nicmp_ne 501 C 515 dL_isStep_501 (by decide) (by omega) (by omega) (fun c501 => ?_) (fun c501 => ?_)
          · skip
            obtain ⟨e1, e2, e3⟩ := step_swap (S := S) h24 (a := upn zz (mn (sM S) + 1)) (b := upn y (mn (sM S) + 1)) (by omega) (by omega) c501
            refine ws_iload 515 C dL_isStep_515 rfl ?_
            refine ws_aload_n 517 C dL_isStep_517 rfl ?_
            refine ws_iconst 518 C dL_isStep_518 (nI 0) (by decide) ?_
            refine ws_iconst 519 C dL_isStep_519 (nI 0) (by decide) ?_
            refine ws_callV0 520 C dL_isStep_520 vL_62 (o_lines hW) rfl hO rfl rfl ⟨by decide, by decide⟩ ⟨Nat.zero_le _, Nat.zero_le _⟩ rfl rfl rfl (kI' (fun r520 u520 h520 => ?_))
            obtain ⟨hr, hW⟩ := h520
            have hr := hr.trans (e1)
            subst hr
            have hO := hW.o
            have hQ := hW.p
            refine ws_icmp_ne 523 C 554 dL_isStep_523 (by decide)  (fun c523 => ?_) (fun c523 => ?_)
            · skip
              exact absurd c523 (fun q => q rfl)
            · skip
              refine ws_aload_n 526 C dL_isStep_526 rfl ?_
              refine ws_iload 527 C dL_isStep_527 rfl ?_
              refine ws_iconst 529 C dL_isStep_529 (nI 1) (by decide) ?_
              refine ws_callV0 530 C dL_isStep_530 vL_53 (o_word hW) rfl hO rfl rfl ⟨by decide, by decide⟩ ⟨Nat.zero_le _, Nat.zero_le _⟩ rfl rfl rfl (kI' (fun r530 u530 h530 => ?_))
              obtain ⟨hr, hW⟩ := h530
              have hr := hr.trans (e2)
              subst hr
              have hO := hW.o
              have hQ := hW.p
              refine ws_iload 533 C dL_isStep_533 rfl ?_
              refine ws_icmp_ne 535 C 554 dL_isStep_535 (by decide)  (fun c535 => ?_) (fun c535 => ?_)
              · skip
                exact absurd c535 (fun q => q rfl)
              · skip
                refine ws_aload_n 538 C dL_isStep_538 rfl ?_
                refine ws_iload 539 C dL_isStep_539 rfl ?_
                refine ws_iconst 541 C dL_isStep_541 (nI 1) (by decide) ?_
                refine ws_callV0 542 C dL_isStep_542 vL_53 (o_word hW) rfl hO rfl rfl ⟨by decide, by decide⟩ ⟨Nat.zero_le _, Nat.zero_le _⟩ rfl rfl rfl (kI' (fun r542 u542 h542 => ?_))
                obtain ⟨hr, hW⟩ := h542
                have hr := hr.trans (e3)
                subst hr
                have hO := hW.o
                have hQ := hW.p
                refine ws_iload 545 C dL_isStep_545 rfl ?_
                refine ws_icmp_ne 547 C 554 dL_isStep_547 (by decide)  (fun c547 => ?_) (fun c547 => ?_)
                · skip
                  exact absurd c547 (fun q => q rfl)
                · skip
                  refine ws_iconst 550 C dL_isStep_550 (nI 1) (by decide) ?_
                  refine ws_goto 551 C 555 dL_isStep_551 (by decide) ?_
                  exact ws_zret 555 C rfl dL_isStep_555 rfl (Nat.le_refl _) (Nat.le_refl _) (by rw [hP]; exact ⟨nI 1, rfl, ⟨rfl, _, _, (hJ.swap _ _).1, hW⟩⟩)
          · skip
            have ev : (fSwap S (nI (upn zz (mn (sM S) + 1))) (nI (upn y (mn (sM S) + 1)))).1 = -1002 := step_swapE h24 (by omega) c501
            refine ws_iload 504 C dL_isStep_504 rfl ?_
            refine ws_sipush 506 C dL_isStep_506 ((-1002)) (by decide) ?_
            refine ws_icmp_ne 509 C 554 dL_isStep_509 (by decide)  (fun c509 => ?_) (fun c509 => ?_)
            · skip
              exact absurd c509 (fun q => q ev)
            · skip
              refine ws_goto 512 C 550 dL_isStep_512 (by decide) ?_
              refine ws_iconst 550 C dL_isStep_550 (nI 1) (by decide) ?_
              refine ws_goto 551 C 555 dL_isStep_551 (by decide) ?_
              exact ws_zret 555 C rfl dL_isStep_555 rfl (Nat.le_refl _) (Nat.le_refl _) (by rw [hP]; exact ⟨nI 1, rfl, ⟨rfl, _, _, (hJ.swap _ _).1, hW⟩⟩)
        · skip
          have ev : (fSwap S (nI (upn zz (mn (sM S) + 1))) (nI (upn y (mn (sM S) + 1)))).1 = -1001 := step_swapN h24 (by omega) (by omega) (by omega)
          refine ws_iload 486 C dL_isStep_486 rfl ?_
          refine ws_sipush 488 C dL_isStep_488 ((-1001)) (by decide) ?_
          refine ws_icmp_ne 491 C 554 dL_isStep_491 (by decide)  (fun c491 => ?_) (fun c491 => ?_)
          · skip
            exact absurd c491 (fun q => q ev)
          · skip
            refine ws_goto 494 C 550 dL_isStep_494 (by decide) ?_
            refine ws_iconst 550 C dL_isStep_550 (nI 1) (by decide) ?_
            refine ws_goto 551 C 555 dL_isStep_551 (by decide) ?_
            exact ws_zret 555 C rfl dL_isStep_555 rfl (Nat.le_refl _) (Nat.le_refl _) (by rw [hP]; exact ⟨nI 1, rfl, ⟨rfl, _, _, (hJ.swap _ _).1, hW⟩⟩)
  rcases (show upn x 14 = 0 ∨ upn x 14 = 1 ∨ upn x 14 = 2 ∨ upn x 14 = 3 ∨ upn x 14 = 4 ∨ upn x 14 = 5 ∨ upn x 14 = 6 ∨ upn x 14 = 7 ∨ upn x 14 = 8 ∨ 8 < upn x 14 from by omega) with hc | hc | hc | hc | hc | hc | hc | hc | hc | hc
  · skip
    refine ws_tin 18 C dL_isStep_18 (0) (50) 68 (by rw [hc]; rfl) (by decide) (by decide) (by rfl) (by decide) ?_
    exact J68
  · skip
    refine ws_tin 18 C dL_isStep_18 (1) (50) 68 (by rw [hc]; rfl) (by decide) (by decide) (by rfl) (by decide) ?_
    exact J68
  · skip
    refine ws_tin 18 C dL_isStep_18 (2) (180) 198 (by rw [hc]; rfl) (by decide) (by decide) (by rfl) (by decide) ?_
    exact J198
  · skip
    refine ws_tin 18 C dL_isStep_18 (3) (180) 198 (by rw [hc]; rfl) (by decide) (by decide) (by rfl) (by decide) ?_
    exact J198
  · skip
    refine ws_tin 18 C dL_isStep_18 (4) (308) 326 (by rw [hc]; rfl) (by decide) (by decide) (by rfl) (by decide) ?_
    refine ws_iload 326 C dL_isStep_326 rfl ?_
    refine ws_iload 328 C dL_isStep_328 rfl ?_
    refine ws_iconst 330 C dL_isStep_330 (nI 1) (by decide) ?_
    refine ws_iadd 331 C dL_isStep_331 (nI (mn (sM S) + 1)) (nI_add _ _) ?_
    refine ws_callS0 332 C dL_isStep_332 vL_24 (c_L_up (v := zz) (n := mn (sM S) + 1) (by omega) (by omega)) rfl ⟨by decide, by decide⟩ ⟨Nat.zero_le _, Nat.zero_le _⟩ rfl rfl rfl (kR ?_)
    have hlt332 := upn_lt zz (n := mn (sM S) + 1) (by omega)
    refine ws_istore 335 C dL_isStep_335 rfl [some (.ref (ad κ 0)), some (.ref (ad κ 91)), some (.int (x)), some (.int (y)), some (.int (zz)), some (.int (nI (mn (sM S)))), some (.int (nI (upn zz (mn (sM S) + 1)))), none, none, none, none] rfl ?_
    refine ws_aload_n 337 C dL_isStep_337 rfl ?_
    refine ws_iload 338 C dL_isStep_338 rfl ?_
    refine ws_iconst 340 C dL_isStep_340 (nI 1) (by decide) ?_
    refine ws_callV0 341 C dL_isStep_341 vL_53 (o_word hW) rfl hO rfl rfl ⟨by decide, by decide⟩ ⟨Nat.zero_le _, Nat.zero_le _⟩ rfl rfl rfl (kI' (fun r341 u341 h341 => ?_))
    obtain ⟨rfl, hW⟩ := h341
    have hO := hW.o
    have hQ := hW.p
    refine ws_istore 344 C dL_isStep_344 rfl [some (.ref (ad κ 0)), some (.ref (ad κ 91)), some (.int (x)), some (.int (y)), some (.int (zz)), some (.int (nI (mn (sM S)))), some (.int (nI (upn zz (mn (sM S) + 1)))), some (.int (fWord S (nI (upn zz (mn (sM S) + 1))) (nI 1))), none, none, none] rfl ?_
    refine ws_aload_n 346 C dL_isStep_346 rfl ?_
    refine ws_iload 347 C dL_isStep_347 rfl ?_
    refine ws_iconst 349 C dL_isStep_349 (nI 1) (by decide) ?_
    refine ws_iadd 350 C dL_isStep_350 (nI (upn zz (mn (sM S) + 1) + 1)) (nI_add _ _) ?_
    refine ws_iconst 351 C dL_isStep_351 (nI 1) (by decide) ?_
    refine ws_callV0 352 C dL_isStep_352 vL_53 (o_word hW) rfl hO rfl rfl ⟨by decide, by decide⟩ ⟨Nat.zero_le _, Nat.zero_le _⟩ rfl rfl rfl (kI' (fun r352 u352 h352 => ?_))
    obtain ⟨rfl, hW⟩ := h352
    have hO := hW.o
    have hQ := hW.p
    refine ws_istore 355 C dL_isStep_355 rfl [some (.ref (ad κ 0)), some (.ref (ad κ 91)), some (.int (x)), some (.int (y)), some (.int (zz)), some (.int (nI (mn (sM S)))), some (.int (nI (upn zz (mn (sM S) + 1)))), some (.int (fWord S (nI (upn zz (mn (sM S) + 1))) (nI 1))), some (.int (fWord S (nI (upn zz (mn (sM S) + 1) + 1)) (nI 1))), none, none] rfl ?_
    refine ws_aload_n 357 C dL_isStep_357 rfl ?_
    refine ws_iload 358 C dL_isStep_358 rfl ?_
    refine ws_callV0 360 C dL_isStep_360 vL_56 (o_drop hW) rfl hO rfl rfl ⟨by decide, by decide⟩ ⟨Nat.zero_le _, Nat.zero_le _⟩ rfl rfl rfl (kI' (fun r360 u360 h360 => ?_))
    obtain ⟨rfl, hW⟩ := h360
    have hO := hW.o
    have hQ := hW.p
    refine ws_istore 363 C dL_isStep_363 rfl [some (.ref (ad κ 0)), some (.ref (ad κ 91)), some (.int (x)), some (.int (y)), some (.int (zz)), some (.int (nI (mn (sM S)))), some (.int (nI (upn zz (mn (sM S) + 1)))), some (.int (fWord S (nI (upn zz (mn (sM S) + 1))) (nI 1))), some (.int (fWord S (nI (upn zz (mn (sM S) + 1) + 1)) (nI 1))), some (.int ((fDrop S (nI (upn zz (mn (sM S) + 1)))).1)), none] rfl ?_
    refine ws_iload 365 C dL_isStep_365 rfl ?_
    refine ws_aload_n 367 C dL_isStep_367 rfl ?_
    refine ws_iload 368 C dL_isStep_368 rfl ?_
    refine ws_callV0 370 C dL_isStep_370 vL_56 (p_drop hW) rfl hQ rfl rfl ⟨by decide, by decide⟩ ⟨Nat.zero_le _, Nat.zero_le _⟩ rfl rfl rfl (kI' (fun r370 u370 h370 => ?_))
    obtain ⟨hr, hW⟩ := h370
    have hr := hr.trans ((hJ.drop _).2)
    subst hr
    have hO := hW.o
    have hQ := hW.p
    refine ws_icmp_ne 373 C 408 dL_isStep_373 (by decide)  (fun c373 => ?_) (fun c373 => ?_)
    · skip
      exact absurd c373 (fun q => q rfl)
    · skip
      refine ws_iload 376 C dL_isStep_376 rfl ?_
      refine ws_iload 378 C dL_isStep_378 rfl ?_
      refine ws_icmp_ne 380 C 408 dL_isStep_380 (by decide)  (fun c380 => ?_) (fun c380 => ?_)
      · skip
        exact absurd c380 (fun q => q (step_drop1 h24 (by omega)))
      · skip
        refine ws_iload 383 C dL_isStep_383 rfl ?_
        refine ws_iload 385 C dL_isStep_385 rfl ?_
        refine ws_iconst 387 C dL_isStep_387 (nI 1) (by decide) ?_
        refine ws_isub 388 C dL_isStep_388 ((nI (mn (sM S))) - (nI 1)) rfl ?_
        refine ws_icmp_ge 389 C 404 dL_isStep_389 (by decide)  (fun c389 => ?_) (fun c389 => ?_)
        · skip
          refine ws_iconst 404 C dL_isStep_404 (nI 1) (by decide) ?_
          refine ws_goto 405 C 409 dL_isStep_405 (by decide) ?_
          exact ws_zret 409 C rfl dL_isStep_409 rfl (Nat.le_refl _) (Nat.le_refl _) (by rw [hP]; exact ⟨nI 1, rfl, ⟨rfl, _, _, (hJ.drop _).1, hW⟩⟩)
        · skip
          refine ws_aload_n 392 C dL_isStep_392 rfl ?_
          refine ws_iload 393 C dL_isStep_393 rfl ?_
          refine ws_iconst 395 C dL_isStep_395 (nI 1) (by decide) ?_
          refine ws_callV0 396 C dL_isStep_396 vL_53 (o_word hW) rfl hO rfl rfl ⟨by decide, by decide⟩ ⟨Nat.zero_le _, Nat.zero_le _⟩ rfl rfl rfl (kI' (fun r396 u396 h396 => ?_))
          obtain ⟨hr, hW⟩ := h396
          have hr := hr.trans (step_drop2 h24 (by omega) c389)
          subst hr
          have hO := hW.o
          have hQ := hW.p
          refine ws_iload 399 C dL_isStep_399 rfl ?_
          refine ws_icmp_ne 401 C 408 dL_isStep_401 (by decide)  (fun c401 => ?_) (fun c401 => ?_)
          · skip
            exact absurd c401 (fun q => q rfl)
          · skip
            refine ws_iconst 404 C dL_isStep_404 (nI 1) (by decide) ?_
            refine ws_goto 405 C 409 dL_isStep_405 (by decide) ?_
            exact ws_zret 409 C rfl dL_isStep_409 rfl (Nat.le_refl _) (Nat.le_refl _) (by rw [hP]; exact ⟨nI 1, rfl, ⟨rfl, _, _, (hJ.drop _).1, hW⟩⟩)
  · skip
    refine ws_tin 18 C dL_isStep_18 (5) (392) 410 (by rw [hc]; rfl) (by decide) (by decide) (by rfl) (by decide) ?_
    exact J410
  · skip
    refine ws_tin 18 C dL_isStep_18 (6) (392) 410 (by rw [hc]; rfl) (by decide) (by decide) (by rfl) (by decide) ?_
    exact J410
  · skip
    refine ws_tin 18 C dL_isStep_18 (7) (538) 556 (by rw [hc]; rfl) (by decide) (by decide) (by rfl) (by decide) ?_
    refine ws_iload_n 556 C dL_isStep_556 rfl ?_
    refine ws_iconst 557 C dL_isStep_557 (nI 4) (by decide) ?_
    refine ws_callS0 558 C dL_isStep_558 vL_24 (c_L_up (v := y) (n := 4) (by omega) (by omega)) rfl ⟨by decide, by decide⟩ ⟨Nat.zero_le _, Nat.zero_le _⟩ rfl rfl rfl (kR ?_)
    have hlt558 := upn_lt y (n := 4) (by omega)
    refine ws_nif_gt 561 C 590 dL_isStep_561 (by decide) (by omega) (fun c561 => ?_) (fun c561 => ?_)
    · skip
      have hJ1 := hJ
      refine ws_iconst 590 C dL_isStep_590 (nI 1) (by decide) ?_
      refine ws_goto 591 C 595 dL_isStep_591 (by decide) ?_
      exact ws_zret 595 C rfl dL_isStep_595 rfl (Nat.le_refl _) (Nat.le_refl _) (by rw [hP]; exact ⟨nI 1, rfl, ⟨rfl, _, _, hJ1, hW⟩⟩)
    · skip
      obtain ⟨e1, e2, e3, hJ1⟩ := step_clear hJ
      refine ws_aload_n 564 C dL_isStep_564 rfl ?_
      refine ws_callV0 565 C dL_isStep_565 vL_65 (o_clear hW) rfl hO rfl rfl ⟨by decide, by decide⟩ ⟨Nat.zero_le _, Nat.zero_le _⟩ rfl rfl rfl (kI' (fun r565 u565 h565 => ?_))
      obtain ⟨hr, hW⟩ := h565
      have hr := hr.trans (e1)
      subst hr
      have hO := hW.o
      have hQ := hW.p
      refine ws_iload 568 C dL_isStep_568 rfl ?_
      refine ws_nicmp_ne 570 C 594 dL_isStep_570 (by decide) (by omega) (by omega) (fun c570 => ?_) (fun c570 => ?_)
      · skip
        (exfalso; omega)
      · skip
        refine ws_aload_n 573 C dL_isStep_573 rfl ?_
        refine ws_callV0 574 C dL_isStep_574 vL_65 (p_clear hW) rfl hQ rfl rfl ⟨by decide, by decide⟩ ⟨Nat.zero_le _, Nat.zero_le _⟩ rfl rfl rfl (kI' (fun r574 u574 h574 => ?_))
        obtain ⟨hr, hW⟩ := h574
        have hr := hr.trans (e2)
        subst hr
        have hO := hW.o
        have hQ := hW.p
        refine ws_iload 577 C dL_isStep_577 rfl ?_
        refine ws_nicmp_ne 579 C 594 dL_isStep_579 (by decide) (by omega) (by omega) (fun c579 => ?_) (fun c579 => ?_)
        · skip
          (exfalso; omega)
        · skip
          refine ws_aload_n 582 C dL_isStep_582 rfl ?_
          refine ws_iconst 583 C dL_isStep_583 (nI 4) (by decide) ?_
          refine ws_callV0 584 C dL_isStep_584 vL_28 (o_count hW (by decide) (by decide)) rfl hO rfl rfl ⟨by decide, by decide⟩ ⟨Nat.zero_le _, Nat.zero_le _⟩ rfl rfl rfl (kI' (fun r584 u584 h584 => ?_))
          obtain ⟨hr, hW⟩ := h584
          have hr := hr.trans (e3)
          subst hr
          have hO := hW.o
          have hQ := hW.p
          refine ws_nif_ne 587 C 594 dL_isStep_587 (by decide) (by omega) (fun c587 => ?_) (fun c587 => ?_)
          · skip
            (exfalso; omega)
          · skip
            refine ws_iconst 590 C dL_isStep_590 (nI 1) (by decide) ?_
            refine ws_goto 591 C 595 dL_isStep_591 (by decide) ?_
            exact ws_zret 595 C rfl dL_isStep_595 rfl (Nat.le_refl _) (Nat.le_refl _) (by rw [hP]; exact ⟨nI 1, rfl, ⟨rfl, _, _, hJ1, hW⟩⟩)
  · skip
    refine ws_tin 18 C dL_isStep_18 (8) (578) 596 (by rw [hc]; rfl) (by decide) (by decide) (by rfl) (by decide) ?_
    refine ws_iload_n 596 C dL_isStep_596 rfl ?_
    refine ws_iconst 597 C dL_isStep_597 (nI 2) (by decide) ?_
    refine ws_callS0 598 C dL_isStep_598 vL_24 (c_L_up (v := y) (n := 2) (by omega) (by omega)) rfl ⟨by decide, by decide⟩ ⟨Nat.zero_le _, Nat.zero_le _⟩ rfl rfl rfl (kR ?_)
    have hlt598 := upn_lt y (n := 2) (by omega)
    refine ws_nif_ne 601 C 635 dL_isStep_601 (by decide) (by omega) (fun c601 => ?_) (fun c601 => ?_)
    · skip
      have hJ1 := (hJ.restore (nI (upn zz 2))).1
      refine ws_aload_n 635 C dL_isStep_635 rfl ?_
      refine ws_iload 636 C dL_isStep_636 rfl ?_
      refine ws_iconst 638 C dL_isStep_638 (nI 2) (by decide) ?_
      refine ws_callS0 639 C dL_isStep_639 vL_24 (c_L_up (v := zz) (n := 2) (by omega) (by omega)) rfl ⟨by decide, by decide⟩ ⟨Nat.zero_le _, Nat.zero_le _⟩ rfl rfl rfl (kR ?_)
      have hlt639 := upn_lt zz (n := 2) (by omega)
      refine ws_callV0 642 C dL_isStep_642 vL_71 (o_restore hW) rfl hO rfl rfl ⟨by decide, by decide⟩ ⟨Nat.zero_le _, Nat.zero_le _⟩ rfl rfl rfl (kI' (fun r642 u642 h642 => ?_))
      obtain ⟨rfl, hW⟩ := h642
      have hO := hW.o
      have hQ := hW.p
      refine ws_aload_n 645 C dL_isStep_645 rfl ?_
      refine ws_iload 646 C dL_isStep_646 rfl ?_
      refine ws_iconst 648 C dL_isStep_648 (nI 2) (by decide) ?_
      refine ws_callS0 649 C dL_isStep_649 vL_24 (c_L_up (v := zz) (n := 2) (by omega) (by omega)) rfl ⟨by decide, by decide⟩ ⟨Nat.zero_le _, Nat.zero_le _⟩ rfl rfl rfl (kR ?_)
      have hlt649 := upn_lt zz (n := 2) (by omega)
      refine ws_callV0 652 C dL_isStep_652 vL_71 (p_restore hW) rfl hQ rfl rfl ⟨by decide, by decide⟩ ⟨Nat.zero_le _, Nat.zero_le _⟩ rfl rfl rfl (kI' (fun r652 u652 h652 => ?_))
      obtain ⟨hr, hW⟩ := h652
      have hr := hr.trans ((hJ.restore _).2)
      subst hr
      have hO := hW.o
      have hQ := hW.p
      refine ws_icmp_ne 655 C 662 dL_isStep_655 (by decide)  (fun c655 => ?_) (fun c655 => ?_)
      · skip
        exact absurd c655 (fun q => q rfl)
      · skip
        refine ws_iconst 658 C dL_isStep_658 (nI 1) (by decide) ?_
        refine ws_goto 659 C 663 dL_isStep_659 (by decide) ?_
        exact ws_zret 663 C rfl dL_isStep_663 rfl (Nat.le_refl _) (Nat.le_refl _) (by rw [hP]; exact ⟨nI 1, rfl, ⟨rfl, _, _, hJ1, hW⟩⟩)
    · skip
      have hJ1 := (hJ.save (nI (upn zz 2))).1
      refine ws_aload_n 604 C dL_isStep_604 rfl ?_
      refine ws_iload 605 C dL_isStep_605 rfl ?_
      refine ws_iconst 607 C dL_isStep_607 (nI 2) (by decide) ?_
      refine ws_callS0 608 C dL_isStep_608 vL_24 (c_L_up (v := zz) (n := 2) (by omega) (by omega)) rfl ⟨by decide, by decide⟩ ⟨Nat.zero_le _, Nat.zero_le _⟩ rfl rfl rfl (kR ?_)
      have hlt608 := upn_lt zz (n := 2) (by omega)
      refine ws_callV0 611 C dL_isStep_611 vL_68 (o_save hW) rfl hO rfl rfl ⟨by decide, by decide⟩ ⟨Nat.zero_le _, Nat.zero_le _⟩ rfl rfl rfl (kI' (fun r611 u611 h611 => ?_))
      obtain ⟨rfl, hW⟩ := h611
      have hO := hW.o
      have hQ := hW.p
      refine ws_aload_n 614 C dL_isStep_614 rfl ?_
      refine ws_iload 615 C dL_isStep_615 rfl ?_
      refine ws_iconst 617 C dL_isStep_617 (nI 2) (by decide) ?_
      refine ws_callS0 618 C dL_isStep_618 vL_24 (c_L_up (v := zz) (n := 2) (by omega) (by omega)) rfl ⟨by decide, by decide⟩ ⟨Nat.zero_le _, Nat.zero_le _⟩ rfl rfl rfl (kR ?_)
      have hlt618 := upn_lt zz (n := 2) (by omega)
      refine ws_callV0 621 C dL_isStep_621 vL_68 (p_save hW) rfl hQ rfl rfl ⟨by decide, by decide⟩ ⟨Nat.zero_le _, Nat.zero_le _⟩ rfl rfl rfl (kI' (fun r621 u621 h621 => ?_))
      obtain ⟨hr, hW⟩ := h621
      have hr := hr.trans ((hJ.save _).2)
      subst hr
      have hO := hW.o
      have hQ := hW.p
      refine ws_icmp_ne 624 C 631 dL_isStep_624 (by decide)  (fun c624 => ?_) (fun c624 => ?_)
      · skip
        exact absurd c624 (fun q => q rfl)
      · skip
        refine ws_iconst 627 C dL_isStep_627 (nI 1) (by decide) ?_
        refine ws_goto 628 C 663 dL_isStep_628 (by decide) ?_
        exact ws_zret 663 C rfl dL_isStep_663 rfl (Nat.le_refl _) (Nat.le_refl _) (by rw [hP]; exact ⟨nI 1, rfl, ⟨rfl, _, _, hJ1, hW⟩⟩)
  · skip
    refine ws_tout 18 C dL_isStep_18 664 (Or.inr (by rw [nI_toInt (by omega)]; omega)) (by decide) ?_
    refine ws_aload_n 664 C dL_isStep_664 rfl ?_
    refine ws_aload_n 665 C dL_isStep_665 rfl ?_
    refine ws_iload_n 666 C dL_isStep_666 rfl ?_
    refine ws_iload 667 C dL_isStep_667 rfl ?_
    refine ws_callS0 669 C dL_isStep_669 vL_74 (c_L_isRead hW hJ (x := y) (y := zz)) rfl ⟨by decide, by decide⟩ ⟨Nat.zero_le _, Nat.zero_le _⟩ rfl rfl rfl (kI' (fun r669 u669 h669 => ?_))
    obtain ⟨hr, S9, T9, hJ1, hW⟩ := h669
    subst hr
    have hO := hW.o
    have hQ := hW.p
    exact ws_zret 672 C rfl dL_isStep_672 rfl (Nat.le_refl _) (Nat.le_refl _) (by rw [hP]; exact ⟨nI 1, rfl, ⟨rfl, _, _, hJ1, hW⟩⟩)
end
