theorem ws_lawend {p : Program} {l : Launch} {e : Env} {s : State} {m : MethodId} {below : List Frame} {meth : Method} {c : Code} {κ : Kt} {n k sl b : Nat} {st : St} {lv : List (Option Value)} {own : String} (pc : Nat) (C : Cx p s m #[Value.ref b] meth c κ code 4 own ret) (hk : kH κ = s.heap) (d : decode code pc = .ok (.ireturn, 1)) (h1 : k ≤ 600000) (h2 : sl ≤ 7302250) : WS p l e room_1 s m #[Value.ref b] below meth c κ n k sl (lw_Z below #[Value.ref b] s) st pc lv [.int (nI 1)] := fun hz H locs ls hW hS hl =>
  va_forget (fun q hq => by rw [← hk]; exact hS.2.2 q hq) (W.widen h1 h2 (lw_ret C.1.1 C.1.2.1 C.2.2.1 C.2.2.2.1 d))
theorem law_lim {L j : Nat} (hL : L ≤ 2560) (h : ¬ nI L - nI 5 < nI (5 * j)) (hj : 5 * j ≤ L) : 5 * j + 5 ≤ L := by
  rw [fa_lt, Int32.toInt_sub, nI_toInt (by omega), nI_toInt (by omega), nI_toInt (by omega), Int.bmod_eq_of_le (by omega) (by omega)] at h
  omega
theorem sw21 (y : Int32) : (∃ j, j < 21 ∧ y = nI j) ∨ (y.toInt < 0 ∨ 20 < y.toInt) := by
  rcases sw_of (y := y) 21 (by decide) with h | ⟨-, h⟩
  · exact Or.inl h
  · exact Or.inr (h.imp id (fun q => by omega))
theorem five (j : Nat) : nI (5 * j) + Int32.ofInt 5 = nI (5 * (j + 1)) := nI_add (5 * j) 5
set_option maxRecDepth 100000 in
set_option maxHeartbeats 8000000 in
theorem law_loop {p : Program} {l : Launch} {e : Env} {s : State} {m : MethodId} {below : List Frame} {meth : Method} {c : Code} {κ : Kt} {b L : Nat} {xs : Nat → Int32} (C : Cx p s m #[Value.ref b] meth c κ code 4 RL ret) (hk : kH κ = s.heap) (hL : L ≤ 2560) (hX : va_X b L xs s s.heap) (hbl : b < s.heap.size) (hbA : ¬ fr κ b) : ∀ j, j ≤ 512 → 5 * j ≤ L → ∀ (S : Sg) (st : St), XI κ 106 st S → MI κ 106 st S → WS p l e room_1 s m #[Value.ref b] below meth c κ 106 106 6609 (lw_Z below #[Value.ref b] s) st 18 [some (.ref b), some (.ref (ad κ 0)), some (.ref (ad κ 91)), some (.int (nI (5 * j)))] [] := by
  refine dnw ?_
  intro j hj ih hjL S st hXI hMI
  refine ws_iload_n 18 C dL_law_18 rfl ?_
  refine ws_aload_n 19 C dL_law_19 rfl ?_
  refine ws_slen 20 C dL_law_20 hX hbl hbA ?_
  refine ws_iconst 21 C dL_law_21 (nI 5) (by decide) ?_
  refine ws_isub 22 C dL_law_22 (nI L - nI 5) rfl ?_
  refine ws_icmp_gt 23 C 701 dL_law_23 (by decide) (fun c23 => ?_) (fun c23 => ?_)
  · refine ws_iconst 701 C dL_law_701 (nI 1) (by decide) ?_
    exact ws_lawend 702 C hk dL_law_702 (Nat.le_of_ble_eq_true rfl) (Nat.le_of_ble_eq_true rfl)
  have h5 := law_lim hL c23 hjL
  refine ws_aload_n 26 C dL_law_26 rfl ?_
  refine ws_iload_n 27 C dL_law_27 rfl ?_
  refine ws_sld 28 C dL_law_28 hX hbl hbA (vp_in_nI (by omega) (by omega)) (xs (5 * j)) (congrArg xs (nI_clamp (by omega))) ?_
  refine ws_bipush 29 C dL_law_29 (nI 31) (by decide) ?_
  refine ws_iand 31 C dL_law_31 (xs (5 * j) &&& nI 31) rfl ?_
  rcases sw21 (xs (5 * j) &&& nI 31) with ⟨q, hq, ey⟩ | hy
  · rcases (show q = 0 ∨ q = 1 ∨ q = 2 ∨ q = 3 ∨ q = 4 ∨ q = 5 ∨ q = 6 ∨ q = 7 ∨ q = 8 ∨ q = 9 ∨ q = 10 ∨ q = 11 ∨ q = 12 ∨ q = 13 ∨ q = 14 ∨ q = 15 ∨ q = 16 ∨ q = 17 ∨ q = 18 ∨ q = 19 ∨ q = 20 from by omega) with rfl | rfl | rfl | rfl | rfl | rfl | rfl | rfl | rfl | rfl | rfl | rfl | rfl | rfl | rfl | rfl | rfl | rfl | rfl | rfl | rfl
    · refine ws_tin 32 C dL_law_32 (0) (100) 132 (by rw [ey]; rfl) (by decide) (by decide) (by rfl) (by decide) ?_
      have hXO := hXI.1
      refine ws_aload_n 132 C dL_law_132 rfl ?_
      refine ws_aload_n 133 C dL_law_133 rfl ?_
      refine ws_iload_n 134 C dL_law_134 rfl ?_
      refine ws_iconst 135 C dL_law_135 (nI 1) (by decide) ?_
      refine ws_iadd 136 C dL_law_136 (nI (5 * j + 1)) (nI_add _ _) ?_
      refine ws_sld 137 C dL_law_137 hX hbl hbA (vp_in_nI (by omega) (by omega)) (xs (5 * j + 1)) (congrArg xs (nI_clamp (by omega))) ?_
      refine ws_aload_n 138 C dL_law_138 rfl ?_
      refine ws_iload_n 139 C dL_law_139 rfl ?_
      refine ws_iconst 140 C dL_law_140 (nI 2) (by decide) ?_
      refine ws_iadd 141 C dL_law_141 (nI (5 * j + 2)) (nI_add _ _) ?_
      refine ws_sld 142 C dL_law_142 hX hbl hbA (vp_in_nI (by omega) (by omega)) (xs (5 * j + 2)) (congrArg xs (nI_clamp (by omega))) ?_
      refine ws_callV0 143 C dL_law_143 vL_13 (c_X4_set hXI) rfl hXO rfl rfl ⟨(Nat.le_of_ble_eq_true rfl), (Nat.le_of_ble_eq_true rfl)⟩ ⟨(Nat.le_of_ble_eq_true rfl), (Nat.le_of_ble_eq_true rfl)⟩ rfl rfl rfl (kI' (fun r1 u1 h1 => ?_))
      obtain ⟨hr1, hXI, hf1⟩ := h1
      have hMI := hMI.fr hf1 (fun q g1 g2 => (show ¬ (q < 91) from by omega))
      obtain ⟨⟨ln, rd, hMO⟩, -⟩ := id hMI
      refine ws_aload_n 146 C dL_law_146 rfl ?_
      refine ws_aload_n 147 C dL_law_147 rfl ?_
      refine ws_iload_n 148 C dL_law_148 rfl ?_
      refine ws_iconst 149 C dL_law_149 (nI 1) (by decide) ?_
      refine ws_iadd 150 C dL_law_150 (nI (5 * j + 1)) (nI_add _ _) ?_
      refine ws_sld 151 C dL_law_151 hX hbl hbA (vp_in_nI (by omega) (by omega)) (xs (5 * j + 1)) (congrArg xs (nI_clamp (by omega))) ?_
      refine ws_aload_n 152 C dL_law_152 rfl ?_
      refine ws_iload_n 153 C dL_law_153 rfl ?_
      refine ws_iconst 154 C dL_law_154 (nI 2) (by decide) ?_
      refine ws_iadd 155 C dL_law_155 (nI (5 * j + 2)) (nI_add _ _) ?_
      refine ws_sld 156 C dL_law_156 hX hbl hbA (vp_in_nI (by omega) (by omega)) (xs (5 * j + 2)) (congrArg xs (nI_clamp (by omega))) ?_
      refine ws_callV0 157 C dL_law_157 vL_17 (c_X5_set hMI) rfl hMO rfl rfl ⟨(Nat.le_of_ble_eq_true rfl), (Nat.le_of_ble_eq_true rfl)⟩ ⟨(Nat.le_of_ble_eq_true rfl), (Nat.le_of_ble_eq_true rfl)⟩ rfl rfl rfl (kI' (fun r2 u2 h2 => ?_))
      obtain ⟨hr2, hMI, hf2⟩ := h2
      have hXI := hXI.fr hf2 (fun q g1 => (show ¬ (91 ≤ q ∧ q < 106) from by omega))
      refine ws_icmp_eq 160 C 695 dL_law_160 (by decide) (fun c => ?_) (fun c => absurd (hr1.trans hr2.symm) c)
      refine ws_iinc 695 C dL_law_695 rfl (nI (5 * (j + 1))) (five j) rfl [some (.ref b), some (.ref (ad κ 0)), some (.ref (ad κ 91)), some (.int (nI (5 * (j + 1))))] rfl ?_
      refine ws_goto 698 C 18 dL_law_698 (by decide) ?_
      exact ih (by omega) (by omega) _ _ hXI hMI
    · refine ws_tin 32 C dL_law_32 (1) (133) 165 (by rw [ey]; rfl) (by decide) (by decide) (by rfl) (by decide) ?_
      have hXO := hXI.1
      refine ws_aload_n 165 C dL_law_165 rfl ?_
      refine ws_aload_n 166 C dL_law_166 rfl ?_
      refine ws_iload_n 167 C dL_law_167 rfl ?_
      refine ws_iconst 168 C dL_law_168 (nI 1) (by decide) ?_
      refine ws_iadd 169 C dL_law_169 (nI (5 * j + 1)) (nI_add _ _) ?_
      refine ws_sld 170 C dL_law_170 hX hbl hbA (vp_in_nI (by omega) (by omega)) (xs (5 * j + 1)) (congrArg xs (nI_clamp (by omega))) ?_
      refine ws_aload_n 171 C dL_law_171 rfl ?_
      refine ws_iload_n 172 C dL_law_172 rfl ?_
      refine ws_iconst 173 C dL_law_173 (nI 2) (by decide) ?_
      refine ws_iadd 174 C dL_law_174 (nI (5 * j + 2)) (nI_add _ _) ?_
      refine ws_sld 175 C dL_law_175 hX hbl hbA (vp_in_nI (by omega) (by omega)) (xs (5 * j + 2)) (congrArg xs (nI_clamp (by omega))) ?_
      refine ws_aload_n 176 C dL_law_176 rfl ?_
      refine ws_iload_n 177 C dL_law_177 rfl ?_
      refine ws_iconst 178 C dL_law_178 (nI 3) (by decide) ?_
      refine ws_iadd 179 C dL_law_179 (nI (5 * j + 3)) (nI_add _ _) ?_
      refine ws_sld 180 C dL_law_180 hX hbl hbA (vp_in_nI (by omega) (by omega)) (xs (5 * j + 3)) (congrArg xs (nI_clamp (by omega))) ?_
      refine ws_aload_n 181 C dL_law_181 rfl ?_
      refine ws_iload_n 182 C dL_law_182 rfl ?_
      refine ws_iconst 183 C dL_law_183 (nI 4) (by decide) ?_
      refine ws_iadd 184 C dL_law_184 (nI (5 * j + 4)) (nI_add _ _) ?_
      refine ws_sld 185 C dL_law_185 hX hbl hbA (vp_in_nI (by omega) (by omega)) (xs (5 * j + 4)) (congrArg xs (nI_clamp (by omega))) ?_
      refine ws_callV0 186 C dL_law_186 vL_18 (c_X4_sort hXI) rfl hXO rfl rfl ⟨(Nat.le_of_ble_eq_true rfl), (Nat.le_of_ble_eq_true rfl)⟩ ⟨(Nat.le_of_ble_eq_true rfl), (Nat.le_of_ble_eq_true rfl)⟩ rfl rfl rfl (kI' (fun r1 u1 h1 => ?_))
      obtain ⟨hr1, hXI, hf1⟩ := h1
      have hMI := hMI.fr hf1 (fun q g1 g2 => (show ¬ (q < 91) from by omega))
      obtain ⟨⟨ln, rd, hMO⟩, -⟩ := id hMI
      refine ws_aload_n 189 C dL_law_189 rfl ?_
      refine ws_aload_n 190 C dL_law_190 rfl ?_
      refine ws_iload_n 191 C dL_law_191 rfl ?_
      refine ws_iconst 192 C dL_law_192 (nI 1) (by decide) ?_
      refine ws_iadd 193 C dL_law_193 (nI (5 * j + 1)) (nI_add _ _) ?_
      refine ws_sld 194 C dL_law_194 hX hbl hbA (vp_in_nI (by omega) (by omega)) (xs (5 * j + 1)) (congrArg xs (nI_clamp (by omega))) ?_
      refine ws_aload_n 195 C dL_law_195 rfl ?_
      refine ws_iload_n 196 C dL_law_196 rfl ?_
      refine ws_iconst 197 C dL_law_197 (nI 2) (by decide) ?_
      refine ws_iadd 198 C dL_law_198 (nI (5 * j + 2)) (nI_add _ _) ?_
      refine ws_sld 199 C dL_law_199 hX hbl hbA (vp_in_nI (by omega) (by omega)) (xs (5 * j + 2)) (congrArg xs (nI_clamp (by omega))) ?_
      refine ws_aload_n 200 C dL_law_200 rfl ?_
      refine ws_iload_n 201 C dL_law_201 rfl ?_
      refine ws_iconst 202 C dL_law_202 (nI 3) (by decide) ?_
      refine ws_iadd 203 C dL_law_203 (nI (5 * j + 3)) (nI_add _ _) ?_
      refine ws_sld 204 C dL_law_204 hX hbl hbA (vp_in_nI (by omega) (by omega)) (xs (5 * j + 3)) (congrArg xs (nI_clamp (by omega))) ?_
      refine ws_aload_n 205 C dL_law_205 rfl ?_
      refine ws_iload_n 206 C dL_law_206 rfl ?_
      refine ws_iconst 207 C dL_law_207 (nI 4) (by decide) ?_
      refine ws_iadd 208 C dL_law_208 (nI (5 * j + 4)) (nI_add _ _) ?_
      refine ws_sld 209 C dL_law_209 hX hbl hbA (vp_in_nI (by omega) (by omega)) (xs (5 * j + 4)) (congrArg xs (nI_clamp (by omega))) ?_
      refine ws_callV0 210 C dL_law_210 vL_22 (c_X5_sort hMI) rfl hMO rfl rfl ⟨(Nat.le_of_ble_eq_true rfl), (Nat.le_of_ble_eq_true rfl)⟩ ⟨(Nat.le_of_ble_eq_true rfl), (Nat.le_of_ble_eq_true rfl)⟩ rfl rfl rfl (kI' (fun r2 u2 h2 => ?_))
      obtain ⟨hr2, hMI, hf2⟩ := h2
      have hXI := hXI.fr hf2 (fun q g1 => (show ¬ (91 ≤ q ∧ q < 106) from by omega))
      refine ws_icmp_eq 213 C 695 dL_law_213 (by decide) (fun c => ?_) (fun c => absurd (hr1.trans hr2.symm) c)
      refine ws_iinc 695 C dL_law_695 rfl (nI (5 * (j + 1))) (five j) rfl [some (.ref b), some (.ref (ad κ 0)), some (.ref (ad κ 91)), some (.int (nI (5 * (j + 1))))] rfl ?_
      refine ws_goto 698 C 18 dL_law_698 (by decide) ?_
      exact ih (by omega) (by omega) _ _ hXI hMI
    · refine ws_tin 32 C dL_law_32 (2) (186) 218 (by rw [ey]; rfl) (by decide) (by decide) (by rfl) (by decide) ?_
      have hXO := hXI.1
      refine ws_aload_n 218 C dL_law_218 rfl ?_
      refine ws_callV0 219 C dL_law_219 vL_23 (c_X4_read hXI) rfl hXO rfl rfl ⟨(Nat.le_of_ble_eq_true rfl), (Nat.le_of_ble_eq_true rfl)⟩ ⟨(Nat.le_of_ble_eq_true rfl), (Nat.le_of_ble_eq_true rfl)⟩ rfl rfl rfl (kI' (fun r1 u1 h1 => ?_))
      obtain ⟨hr1, hXI, hf1⟩ := h1
      have hMI := hMI.fr hf1 (fun q g1 g2 => (show ¬ (q < 91) from by omega))
      obtain ⟨⟨ln, rd, hMO⟩, -⟩ := id hMI
      refine ws_aload_n 222 C dL_law_222 rfl ?_
      refine ws_callV0 223 C dL_law_223 vL_27 (c_X5_read hMI) rfl hMO rfl rfl ⟨(Nat.le_of_ble_eq_true rfl), (Nat.le_of_ble_eq_true rfl)⟩ ⟨(Nat.le_of_ble_eq_true rfl), (Nat.le_of_ble_eq_true rfl)⟩ rfl rfl rfl (kI' (fun r2 u2 h2 => ?_))
      obtain ⟨hr2, hMI, hf2⟩ := h2
      have hXI := hXI.fr hf2 (fun q g1 => (show ¬ (91 ≤ q ∧ q < 106) from by omega))
      refine ws_icmp_eq 226 C 695 dL_law_226 (by decide) (fun c => ?_) (fun c => absurd (hr1.trans hr2.symm) c)
      refine ws_iinc 695 C dL_law_695 rfl (nI (5 * (j + 1))) (five j) rfl [some (.ref b), some (.ref (ad κ 0)), some (.ref (ad κ 91)), some (.int (nI (5 * (j + 1))))] rfl ?_
      refine ws_goto 698 C 18 dL_law_698 (by decide) ?_
      exact ih (by omega) (by omega) _ _ hXI hMI
    · refine ws_tin 32 C dL_law_32 (3) (199) 231 (by rw [ey]; rfl) (by decide) (by decide) (by rfl) (by decide) ?_
      have hXO := hXI.1
      refine ws_aload_n 231 C dL_law_231 rfl ?_
      refine ws_aload_n 232 C dL_law_232 rfl ?_
      refine ws_iload_n 233 C dL_law_233 rfl ?_
      refine ws_iconst 234 C dL_law_234 (nI 1) (by decide) ?_
      refine ws_iadd 235 C dL_law_235 (nI (5 * j + 1)) (nI_add _ _) ?_
      refine ws_sld 236 C dL_law_236 hX hbl hbA (vp_in_nI (by omega) (by omega)) (xs (5 * j + 1)) (congrArg xs (nI_clamp (by omega))) ?_
      refine ws_callV0 237 C dL_law_237 vL_28 (c_X4_drop hXI) rfl hXO rfl rfl ⟨(Nat.le_of_ble_eq_true rfl), (Nat.le_of_ble_eq_true rfl)⟩ ⟨(Nat.le_of_ble_eq_true rfl), (Nat.le_of_ble_eq_true rfl)⟩ rfl rfl rfl (kI' (fun r1 u1 h1 => ?_))
      obtain ⟨hr1, hXI, hf1⟩ := h1
      have hMI := hMI.fr hf1 (fun q g1 g2 => (show ¬ (q < 91) from by omega))
      obtain ⟨⟨ln, rd, hMO⟩, -⟩ := id hMI
      refine ws_aload_n 240 C dL_law_240 rfl ?_
      refine ws_aload_n 241 C dL_law_241 rfl ?_
      refine ws_iload_n 242 C dL_law_242 rfl ?_
      refine ws_iconst 243 C dL_law_243 (nI 1) (by decide) ?_
      refine ws_iadd 244 C dL_law_244 (nI (5 * j + 1)) (nI_add _ _) ?_
      refine ws_sld 245 C dL_law_245 hX hbl hbA (vp_in_nI (by omega) (by omega)) (xs (5 * j + 1)) (congrArg xs (nI_clamp (by omega))) ?_
      refine ws_callV0 246 C dL_law_246 vL_32 (c_X5_drop hMI) rfl hMO rfl rfl ⟨(Nat.le_of_ble_eq_true rfl), (Nat.le_of_ble_eq_true rfl)⟩ ⟨(Nat.le_of_ble_eq_true rfl), (Nat.le_of_ble_eq_true rfl)⟩ rfl rfl rfl (kI' (fun r2 u2 h2 => ?_))
      obtain ⟨hr2, hMI, hf2⟩ := h2
      have hXI := hXI.fr hf2 (fun q g1 => (show ¬ (91 ≤ q ∧ q < 106) from by omega))
      refine ws_icmp_eq 249 C 695 dL_law_249 (by decide) (fun c => ?_) (fun c => absurd (hr1.trans hr2.symm) c)
      refine ws_iinc 695 C dL_law_695 rfl (nI (5 * (j + 1))) (five j) rfl [some (.ref b), some (.ref (ad κ 0)), some (.ref (ad κ 91)), some (.int (nI (5 * (j + 1))))] rfl ?_
      refine ws_goto 698 C 18 dL_law_698 (by decide) ?_
      exact ih (by omega) (by omega) _ _ hXI hMI
    · refine ws_tin 32 C dL_law_32 (4) (222) 254 (by rw [ey]; rfl) (by decide) (by decide) (by rfl) (by decide) ?_
      have hXO := hXI.1
      refine ws_aload_n 254 C dL_law_254 rfl ?_
      refine ws_aload_n 255 C dL_law_255 rfl ?_
      refine ws_iload_n 256 C dL_law_256 rfl ?_
      refine ws_iconst 257 C dL_law_257 (nI 1) (by decide) ?_
      refine ws_iadd 258 C dL_law_258 (nI (5 * j + 1)) (nI_add _ _) ?_
      refine ws_sld 259 C dL_law_259 hX hbl hbA (vp_in_nI (by omega) (by omega)) (xs (5 * j + 1)) (congrArg xs (nI_clamp (by omega))) ?_
      refine ws_aload_n 260 C dL_law_260 rfl ?_
      refine ws_iload_n 261 C dL_law_261 rfl ?_
      refine ws_iconst 262 C dL_law_262 (nI 2) (by decide) ?_
      refine ws_iadd 263 C dL_law_263 (nI (5 * j + 2)) (nI_add _ _) ?_
      refine ws_sld 264 C dL_law_264 hX hbl hbA (vp_in_nI (by omega) (by omega)) (xs (5 * j + 2)) (congrArg xs (nI_clamp (by omega))) ?_
      refine ws_callV0 265 C dL_law_265 vL_33 (c_X4_swap hXI) rfl hXO rfl rfl ⟨(Nat.le_of_ble_eq_true rfl), (Nat.le_of_ble_eq_true rfl)⟩ ⟨(Nat.le_of_ble_eq_true rfl), (Nat.le_of_ble_eq_true rfl)⟩ rfl rfl rfl (kI' (fun r1 u1 h1 => ?_))
      obtain ⟨hr1, hXI, hf1⟩ := h1
      have hMI := hMI.fr hf1 (fun q g1 g2 => (show ¬ (q < 91) from by omega))
      obtain ⟨⟨ln, rd, hMO⟩, -⟩ := id hMI
      refine ws_aload_n 268 C dL_law_268 rfl ?_
      refine ws_aload_n 269 C dL_law_269 rfl ?_
      refine ws_iload_n 270 C dL_law_270 rfl ?_
      refine ws_iconst 271 C dL_law_271 (nI 1) (by decide) ?_
      refine ws_iadd 272 C dL_law_272 (nI (5 * j + 1)) (nI_add _ _) ?_
      refine ws_sld 273 C dL_law_273 hX hbl hbA (vp_in_nI (by omega) (by omega)) (xs (5 * j + 1)) (congrArg xs (nI_clamp (by omega))) ?_
      refine ws_aload_n 274 C dL_law_274 rfl ?_
      refine ws_iload_n 275 C dL_law_275 rfl ?_
      refine ws_iconst 276 C dL_law_276 (nI 2) (by decide) ?_
      refine ws_iadd 277 C dL_law_277 (nI (5 * j + 2)) (nI_add _ _) ?_
      refine ws_sld 278 C dL_law_278 hX hbl hbA (vp_in_nI (by omega) (by omega)) (xs (5 * j + 2)) (congrArg xs (nI_clamp (by omega))) ?_
      refine ws_callV0 279 C dL_law_279 vL_36 (c_X5_swap hMI) rfl hMO rfl rfl ⟨(Nat.le_of_ble_eq_true rfl), (Nat.le_of_ble_eq_true rfl)⟩ ⟨(Nat.le_of_ble_eq_true rfl), (Nat.le_of_ble_eq_true rfl)⟩ rfl rfl rfl (kI' (fun r2 u2 h2 => ?_))
      obtain ⟨hr2, hMI, hf2⟩ := h2
      have hXI := hXI.fr hf2 (fun q g1 => (show ¬ (91 ≤ q ∧ q < 106) from by omega))
      refine ws_icmp_eq 282 C 695 dL_law_282 (by decide) (fun c => ?_) (fun c => absurd (hr1.trans hr2.symm) c)
      refine ws_iinc 695 C dL_law_695 rfl (nI (5 * (j + 1))) (five j) rfl [some (.ref b), some (.ref (ad κ 0)), some (.ref (ad κ 91)), some (.int (nI (5 * (j + 1))))] rfl ?_
      refine ws_goto 698 C 18 dL_law_698 (by decide) ?_
      exact ih (by omega) (by omega) _ _ hXI hMI
    · refine ws_tin 32 C dL_law_32 (5) (255) 287 (by rw [ey]; rfl) (by decide) (by decide) (by rfl) (by decide) ?_
      have hXO := hXI.1
      refine ws_aload_n 287 C dL_law_287 rfl ?_
      refine ws_callV0 288 C dL_law_288 vL_37 (c_X4_clear hXI) rfl hXO rfl rfl ⟨(Nat.le_of_ble_eq_true rfl), (Nat.le_of_ble_eq_true rfl)⟩ ⟨(Nat.le_of_ble_eq_true rfl), (Nat.le_of_ble_eq_true rfl)⟩ rfl rfl rfl (kI' (fun r1 u1 h1 => ?_))
      obtain ⟨hr1, hXI, hf1⟩ := h1
      have hMI := hMI.fr hf1 (fun q g1 g2 => (show ¬ (q < 91) from by omega))
      obtain ⟨⟨ln, rd, hMO⟩, -⟩ := id hMI
      refine ws_aload_n 291 C dL_law_291 rfl ?_
      refine ws_callV0 292 C dL_law_292 vL_40 (c_X5_clear hMI) rfl hMO rfl rfl ⟨(Nat.le_of_ble_eq_true rfl), (Nat.le_of_ble_eq_true rfl)⟩ ⟨(Nat.le_of_ble_eq_true rfl), (Nat.le_of_ble_eq_true rfl)⟩ rfl rfl rfl (kI' (fun r2 u2 h2 => ?_))
      obtain ⟨hr2, hMI, hf2⟩ := h2
      have hXI := hXI.fr hf2 (fun q g1 => (show ¬ (91 ≤ q ∧ q < 106) from by omega))
      refine ws_icmp_eq 295 C 695 dL_law_295 (by decide) (fun c => ?_) (fun c => absurd (hr1.trans hr2.symm) c)
      refine ws_iinc 695 C dL_law_695 rfl (nI (5 * (j + 1))) (five j) rfl [some (.ref b), some (.ref (ad κ 0)), some (.ref (ad κ 91)), some (.int (nI (5 * (j + 1))))] rfl ?_
      refine ws_goto 698 C 18 dL_law_698 (by decide) ?_
      exact ih (by omega) (by omega) _ _ hXI hMI
    · refine ws_tin 32 C dL_law_32 (6) (268) 300 (by rw [ey]; rfl) (by decide) (by decide) (by rfl) (by decide) ?_
      have hXO := hXI.1
      refine ws_aload_n 300 C dL_law_300 rfl ?_
      refine ws_aload_n 301 C dL_law_301 rfl ?_
      refine ws_iload_n 302 C dL_law_302 rfl ?_
      refine ws_iconst 303 C dL_law_303 (nI 1) (by decide) ?_
      refine ws_iadd 304 C dL_law_304 (nI (5 * j + 1)) (nI_add _ _) ?_
      refine ws_sld 305 C dL_law_305 hX hbl hbA (vp_in_nI (by omega) (by omega)) (xs (5 * j + 1)) (congrArg xs (nI_clamp (by omega))) ?_
      refine ws_aload_n 306 C dL_law_306 rfl ?_
      refine ws_iload_n 307 C dL_law_307 rfl ?_
      refine ws_iconst 308 C dL_law_308 (nI 2) (by decide) ?_
      refine ws_iadd 309 C dL_law_309 (nI (5 * j + 2)) (nI_add _ _) ?_
      refine ws_sld 310 C dL_law_310 hX hbl hbA (vp_in_nI (by omega) (by omega)) (xs (5 * j + 2)) (congrArg xs (nI_clamp (by omega))) ?_
      refine ws_callV0 311 C dL_law_311 vL_41 (c_X4_sortOf hXI) rfl hXO rfl rfl ⟨(Nat.le_of_ble_eq_true rfl), (Nat.le_of_ble_eq_true rfl)⟩ ⟨(Nat.le_of_ble_eq_true rfl), (Nat.le_of_ble_eq_true rfl)⟩ rfl rfl rfl (kI' (fun r1 u1 h1 => ?_))
      obtain ⟨hr1, hXI, hf1⟩ := h1
      have hMI := hMI.fr hf1 (fun q g1 g2 => (show ¬ (q < 91) from by omega))
      obtain ⟨⟨ln, rd, hMO⟩, -⟩ := id hMI
      refine ws_aload_n 314 C dL_law_314 rfl ?_
      refine ws_aload_n 315 C dL_law_315 rfl ?_
      refine ws_iload_n 316 C dL_law_316 rfl ?_
      refine ws_iconst 317 C dL_law_317 (nI 1) (by decide) ?_
      refine ws_iadd 318 C dL_law_318 (nI (5 * j + 1)) (nI_add _ _) ?_
      refine ws_sld 319 C dL_law_319 hX hbl hbA (vp_in_nI (by omega) (by omega)) (xs (5 * j + 1)) (congrArg xs (nI_clamp (by omega))) ?_
      refine ws_aload_n 320 C dL_law_320 rfl ?_
      refine ws_iload_n 321 C dL_law_321 rfl ?_
      refine ws_iconst 322 C dL_law_322 (nI 2) (by decide) ?_
      refine ws_iadd 323 C dL_law_323 (nI (5 * j + 2)) (nI_add _ _) ?_
      refine ws_sld 324 C dL_law_324 hX hbl hbA (vp_in_nI (by omega) (by omega)) (xs (5 * j + 2)) (congrArg xs (nI_clamp (by omega))) ?_
      refine ws_callV0 325 C dL_law_325 vL_44 (c_X5_sortOf hMI) rfl hMO rfl rfl ⟨(Nat.le_of_ble_eq_true rfl), (Nat.le_of_ble_eq_true rfl)⟩ ⟨(Nat.le_of_ble_eq_true rfl), (Nat.le_of_ble_eq_true rfl)⟩ rfl rfl rfl (kI' (fun r2 u2 h2 => ?_))
      obtain ⟨hr2, hMI, hf2⟩ := h2
      have hXI := hXI.fr hf2 (fun q g1 => (show ¬ (91 ≤ q ∧ q < 106) from by omega))
      refine ws_icmp_eq 328 C 695 dL_law_328 (by decide) (fun c => ?_) (fun c => absurd (hr1.trans hr2.symm) c)
      refine ws_iinc 695 C dL_law_695 rfl (nI (5 * (j + 1))) (five j) rfl [some (.ref b), some (.ref (ad κ 0)), some (.ref (ad κ 91)), some (.int (nI (5 * (j + 1))))] rfl ?_
      refine ws_goto 698 C 18 dL_law_698 (by decide) ?_
      exact ih (by omega) (by omega) _ _ hXI hMI
    · refine ws_tin 32 C dL_law_32 (7) (301) 333 (by rw [ey]; rfl) (by decide) (by decide) (by rfl) (by decide) ?_
      have hXO := hXI.1
      refine ws_aload_n 333 C dL_law_333 rfl ?_
      refine ws_aload_n 334 C dL_law_334 rfl ?_
      refine ws_iload_n 335 C dL_law_335 rfl ?_
      refine ws_iconst 336 C dL_law_336 (nI 1) (by decide) ?_
      refine ws_iadd 337 C dL_law_337 (nI (5 * j + 1)) (nI_add _ _) ?_
      refine ws_sld 338 C dL_law_338 hX hbl hbA (vp_in_nI (by omega) (by omega)) (xs (5 * j + 1)) (congrArg xs (nI_clamp (by omega))) ?_
      refine ws_aload_n 339 C dL_law_339 rfl ?_
      refine ws_iload_n 340 C dL_law_340 rfl ?_
      refine ws_iconst 341 C dL_law_341 (nI 2) (by decide) ?_
      refine ws_iadd 342 C dL_law_342 (nI (5 * j + 2)) (nI_add _ _) ?_
      refine ws_sld 343 C dL_law_343 hX hbl hbA (vp_in_nI (by omega) (by omega)) (xs (5 * j + 2)) (congrArg xs (nI_clamp (by omega))) ?_
      refine ws_callV0 344 C dL_law_344 vL_45 (c_X4_word hXI) rfl hXO rfl rfl ⟨(Nat.le_of_ble_eq_true rfl), (Nat.le_of_ble_eq_true rfl)⟩ ⟨(Nat.le_of_ble_eq_true rfl), (Nat.le_of_ble_eq_true rfl)⟩ rfl rfl rfl (kI' (fun r1 u1 h1 => ?_))
      obtain ⟨hr1, hXI, hf1⟩ := h1
      have hMI := hMI.fr hf1 (fun q g1 g2 => (show ¬ (q < 91) from by omega))
      obtain ⟨⟨ln, rd, hMO⟩, -⟩ := id hMI
      refine ws_aload_n 347 C dL_law_347 rfl ?_
      refine ws_aload_n 348 C dL_law_348 rfl ?_
      refine ws_iload_n 349 C dL_law_349 rfl ?_
      refine ws_iconst 350 C dL_law_350 (nI 1) (by decide) ?_
      refine ws_iadd 351 C dL_law_351 (nI (5 * j + 1)) (nI_add _ _) ?_
      refine ws_sld 352 C dL_law_352 hX hbl hbA (vp_in_nI (by omega) (by omega)) (xs (5 * j + 1)) (congrArg xs (nI_clamp (by omega))) ?_
      refine ws_aload_n 353 C dL_law_353 rfl ?_
      refine ws_iload_n 354 C dL_law_354 rfl ?_
      refine ws_iconst 355 C dL_law_355 (nI 2) (by decide) ?_
      refine ws_iadd 356 C dL_law_356 (nI (5 * j + 2)) (nI_add _ _) ?_
      refine ws_sld 357 C dL_law_357 hX hbl hbA (vp_in_nI (by omega) (by omega)) (xs (5 * j + 2)) (congrArg xs (nI_clamp (by omega))) ?_
      refine ws_callV0 358 C dL_law_358 vL_48 (c_X5_word hMI) rfl hMO rfl rfl ⟨(Nat.le_of_ble_eq_true rfl), (Nat.le_of_ble_eq_true rfl)⟩ ⟨(Nat.le_of_ble_eq_true rfl), (Nat.le_of_ble_eq_true rfl)⟩ rfl rfl rfl (kI' (fun r2 u2 h2 => ?_))
      obtain ⟨hr2, hMI, hf2⟩ := h2
      have hXI := hXI.fr hf2 (fun q g1 => (show ¬ (91 ≤ q ∧ q < 106) from by omega))
      refine ws_icmp_eq 361 C 695 dL_law_361 (by decide) (fun c => ?_) (fun c => absurd (hr1.trans hr2.symm) c)
      refine ws_iinc 695 C dL_law_695 rfl (nI (5 * (j + 1))) (five j) rfl [some (.ref b), some (.ref (ad κ 0)), some (.ref (ad κ 91)), some (.int (nI (5 * (j + 1))))] rfl ?_
      refine ws_goto 698 C 18 dL_law_698 (by decide) ?_
      exact ih (by omega) (by omega) _ _ hXI hMI
    · refine ws_tin 32 C dL_law_32 (8) (334) 366 (by rw [ey]; rfl) (by decide) (by decide) (by rfl) (by decide) ?_
      have hXO := hXI.1
      refine ws_aload_n 366 C dL_law_366 rfl ?_
      refine ws_aload_n 367 C dL_law_367 rfl ?_
      refine ws_iload_n 368 C dL_law_368 rfl ?_
      refine ws_iconst 369 C dL_law_369 (nI 1) (by decide) ?_
      refine ws_iadd 370 C dL_law_370 (nI (5 * j + 1)) (nI_add _ _) ?_
      refine ws_sld 371 C dL_law_371 hX hbl hbA (vp_in_nI (by omega) (by omega)) (xs (5 * j + 1)) (congrArg xs (nI_clamp (by omega))) ?_
      refine ws_aload_n 372 C dL_law_372 rfl ?_
      refine ws_iload_n 373 C dL_law_373 rfl ?_
      refine ws_iconst 374 C dL_law_374 (nI 2) (by decide) ?_
      refine ws_iadd 375 C dL_law_375 (nI (5 * j + 2)) (nI_add _ _) ?_
      refine ws_sld 376 C dL_law_376 hX hbl hbA (vp_in_nI (by omega) (by omega)) (xs (5 * j + 2)) (congrArg xs (nI_clamp (by omega))) ?_
      refine ws_aload_n 377 C dL_law_377 rfl ?_
      refine ws_iload_n 378 C dL_law_378 rfl ?_
      refine ws_iconst 379 C dL_law_379 (nI 3) (by decide) ?_
      refine ws_iadd 380 C dL_law_380 (nI (5 * j + 3)) (nI_add _ _) ?_
      refine ws_sld 381 C dL_law_381 hX hbl hbA (vp_in_nI (by omega) (by omega)) (xs (5 * j + 3)) (congrArg xs (nI_clamp (by omega))) ?_
      refine ws_callV0 382 C dL_law_382 vL_49 (c_X4_line hXI) rfl hXO rfl rfl ⟨(Nat.le_of_ble_eq_true rfl), (Nat.le_of_ble_eq_true rfl)⟩ ⟨(Nat.le_of_ble_eq_true rfl), (Nat.le_of_ble_eq_true rfl)⟩ rfl rfl rfl (kI' (fun r1 u1 h1 => ?_))
      obtain ⟨hr1, hXI, hf1⟩ := h1
      have hMI := hMI.fr hf1 (fun q g1 g2 => (show ¬ (q < 91) from by omega))
      obtain ⟨⟨ln, rd, hMO⟩, -⟩ := id hMI
      refine ws_aload_n 385 C dL_law_385 rfl ?_
      refine ws_aload_n 386 C dL_law_386 rfl ?_
      refine ws_iload_n 387 C dL_law_387 rfl ?_
      refine ws_iconst 388 C dL_law_388 (nI 1) (by decide) ?_
      refine ws_iadd 389 C dL_law_389 (nI (5 * j + 1)) (nI_add _ _) ?_
      refine ws_sld 390 C dL_law_390 hX hbl hbA (vp_in_nI (by omega) (by omega)) (xs (5 * j + 1)) (congrArg xs (nI_clamp (by omega))) ?_
      refine ws_aload_n 391 C dL_law_391 rfl ?_
      refine ws_iload_n 392 C dL_law_392 rfl ?_
      refine ws_iconst 393 C dL_law_393 (nI 2) (by decide) ?_
      refine ws_iadd 394 C dL_law_394 (nI (5 * j + 2)) (nI_add _ _) ?_
      refine ws_sld 395 C dL_law_395 hX hbl hbA (vp_in_nI (by omega) (by omega)) (xs (5 * j + 2)) (congrArg xs (nI_clamp (by omega))) ?_
      refine ws_aload_n 396 C dL_law_396 rfl ?_
      refine ws_iload_n 397 C dL_law_397 rfl ?_
      refine ws_iconst 398 C dL_law_398 (nI 3) (by decide) ?_
      refine ws_iadd 399 C dL_law_399 (nI (5 * j + 3)) (nI_add _ _) ?_
      refine ws_sld 400 C dL_law_400 hX hbl hbA (vp_in_nI (by omega) (by omega)) (xs (5 * j + 3)) (congrArg xs (nI_clamp (by omega))) ?_
      refine ws_callV0 401 C dL_law_401 vL_53 (c_X5_line hMI) rfl hMO rfl rfl ⟨(Nat.le_of_ble_eq_true rfl), (Nat.le_of_ble_eq_true rfl)⟩ ⟨(Nat.le_of_ble_eq_true rfl), (Nat.le_of_ble_eq_true rfl)⟩ rfl rfl rfl (kI' (fun r2 u2 h2 => ?_))
      obtain ⟨hr2, hMI, hf2⟩ := h2
      have hXI := hXI.fr hf2 (fun q g1 => (show ¬ (91 ≤ q ∧ q < 106) from by omega))
      refine ws_icmp_eq 404 C 695 dL_law_404 (by decide) (fun c => ?_) (fun c => absurd (hr1.trans hr2.symm) c)
      refine ws_iinc 695 C dL_law_695 rfl (nI (5 * (j + 1))) (five j) rfl [some (.ref b), some (.ref (ad κ 0)), some (.ref (ad κ 91)), some (.int (nI (5 * (j + 1))))] rfl ?_
      refine ws_goto 698 C 18 dL_law_698 (by decide) ?_
      exact ih (by omega) (by omega) _ _ hXI hMI
    · refine ws_tin 32 C dL_law_32 (9) (377) 409 (by rw [ey]; rfl) (by decide) (by decide) (by rfl) (by decide) ?_
      have hXO := hXI.1
      refine ws_aload_n 409 C dL_law_409 rfl ?_
      refine ws_aload_n 410 C dL_law_410 rfl ?_
      refine ws_iload_n 411 C dL_law_411 rfl ?_
      refine ws_iconst 412 C dL_law_412 (nI 1) (by decide) ?_
      refine ws_iadd 413 C dL_law_413 (nI (5 * j + 1)) (nI_add _ _) ?_
      refine ws_sld 414 C dL_law_414 hX hbl hbA (vp_in_nI (by omega) (by omega)) (xs (5 * j + 1)) (congrArg xs (nI_clamp (by omega))) ?_
      refine ws_aload_n 415 C dL_law_415 rfl ?_
      refine ws_iload_n 416 C dL_law_416 rfl ?_
      refine ws_iconst 417 C dL_law_417 (nI 2) (by decide) ?_
      refine ws_iadd 418 C dL_law_418 (nI (5 * j + 2)) (nI_add _ _) ?_
      refine ws_sld 419 C dL_law_419 hX hbl hbA (vp_in_nI (by omega) (by omega)) (xs (5 * j + 2)) (congrArg xs (nI_clamp (by omega))) ?_
      refine ws_callV0 420 C dL_law_420 vL_54 (c_X4_lines hXI) rfl hXO rfl rfl ⟨(Nat.le_of_ble_eq_true rfl), (Nat.le_of_ble_eq_true rfl)⟩ ⟨(Nat.le_of_ble_eq_true rfl), (Nat.le_of_ble_eq_true rfl)⟩ rfl rfl rfl (kI' (fun r1 u1 h1 => ?_))
      obtain ⟨hr1, hXI, hf1⟩ := h1
      have hMI := hMI.fr hf1 (fun q g1 g2 => (show ¬ (q < 91) from by omega))
      obtain ⟨⟨ln, rd, hMO⟩, -⟩ := id hMI
      refine ws_aload_n 423 C dL_law_423 rfl ?_
      refine ws_aload_n 424 C dL_law_424 rfl ?_
      refine ws_iload_n 425 C dL_law_425 rfl ?_
      refine ws_iconst 426 C dL_law_426 (nI 1) (by decide) ?_
      refine ws_iadd 427 C dL_law_427 (nI (5 * j + 1)) (nI_add _ _) ?_
      refine ws_sld 428 C dL_law_428 hX hbl hbA (vp_in_nI (by omega) (by omega)) (xs (5 * j + 1)) (congrArg xs (nI_clamp (by omega))) ?_
      refine ws_aload_n 429 C dL_law_429 rfl ?_
      refine ws_iload_n 430 C dL_law_430 rfl ?_
      refine ws_iconst 431 C dL_law_431 (nI 2) (by decide) ?_
      refine ws_iadd 432 C dL_law_432 (nI (5 * j + 2)) (nI_add _ _) ?_
      refine ws_sld 433 C dL_law_433 hX hbl hbA (vp_in_nI (by omega) (by omega)) (xs (5 * j + 2)) (congrArg xs (nI_clamp (by omega))) ?_
      refine ws_callV0 434 C dL_law_434 vL_57 (c_X5_lines hMI) rfl hMO rfl rfl ⟨(Nat.le_of_ble_eq_true rfl), (Nat.le_of_ble_eq_true rfl)⟩ ⟨(Nat.le_of_ble_eq_true rfl), (Nat.le_of_ble_eq_true rfl)⟩ rfl rfl rfl (kI' (fun r2 u2 h2 => ?_))
      obtain ⟨hr2, hMI, hf2⟩ := h2
      have hXI := hXI.fr hf2 (fun q g1 => (show ¬ (91 ≤ q ∧ q < 106) from by omega))
      refine ws_icmp_eq 437 C 695 dL_law_437 (by decide) (fun c => ?_) (fun c => absurd (hr1.trans hr2.symm) c)
      refine ws_iinc 695 C dL_law_695 rfl (nI (5 * (j + 1))) (five j) rfl [some (.ref b), some (.ref (ad κ 0)), some (.ref (ad κ 91)), some (.int (nI (5 * (j + 1))))] rfl ?_
      refine ws_goto 698 C 18 dL_law_698 (by decide) ?_
      exact ih (by omega) (by omega) _ _ hXI hMI
    · refine ws_tin 32 C dL_law_32 (10) (410) 442 (by rw [ey]; rfl) (by decide) (by decide) (by rfl) (by decide) ?_
      have hXO := hXI.1
      refine ws_aload_n 442 C dL_law_442 rfl ?_
      refine ws_aload_n 443 C dL_law_443 rfl ?_
      refine ws_iload_n 444 C dL_law_444 rfl ?_
      refine ws_iconst 445 C dL_law_445 (nI 1) (by decide) ?_
      refine ws_iadd 446 C dL_law_446 (nI (5 * j + 1)) (nI_add _ _) ?_
      refine ws_sld 447 C dL_law_447 hX hbl hbA (vp_in_nI (by omega) (by omega)) (xs (5 * j + 1)) (congrArg xs (nI_clamp (by omega))) ?_
      refine ws_callV0 448 C dL_law_448 vL_58 (c_X4_count hXI) rfl hXO rfl rfl ⟨(Nat.le_of_ble_eq_true rfl), (Nat.le_of_ble_eq_true rfl)⟩ ⟨(Nat.le_of_ble_eq_true rfl), (Nat.le_of_ble_eq_true rfl)⟩ rfl rfl rfl (kI' (fun r1 u1 h1 => ?_))
      obtain ⟨hr1, hXI, hf1⟩ := h1
      have hMI := hMI.fr hf1 (fun q g1 g2 => (show ¬ (q < 91) from by omega))
      obtain ⟨⟨ln, rd, hMO⟩, -⟩ := id hMI
      refine ws_aload_n 451 C dL_law_451 rfl ?_
      refine ws_aload_n 452 C dL_law_452 rfl ?_
      refine ws_iload_n 453 C dL_law_453 rfl ?_
      refine ws_iconst 454 C dL_law_454 (nI 1) (by decide) ?_
      refine ws_iadd 455 C dL_law_455 (nI (5 * j + 1)) (nI_add _ _) ?_
      refine ws_sld 456 C dL_law_456 hX hbl hbA (vp_in_nI (by omega) (by omega)) (xs (5 * j + 1)) (congrArg xs (nI_clamp (by omega))) ?_
      refine ws_callV0 457 C dL_law_457 vL_61 (c_X5_count hMI) rfl hMO rfl rfl ⟨(Nat.le_of_ble_eq_true rfl), (Nat.le_of_ble_eq_true rfl)⟩ ⟨(Nat.le_of_ble_eq_true rfl), (Nat.le_of_ble_eq_true rfl)⟩ rfl rfl rfl (kI' (fun r2 u2 h2 => ?_))
      obtain ⟨hr2, hMI, hf2⟩ := h2
      have hXI := hXI.fr hf2 (fun q g1 => (show ¬ (91 ≤ q ∧ q < 106) from by omega))
      refine ws_icmp_eq 460 C 695 dL_law_460 (by decide) (fun c => ?_) (fun c => absurd (pCount_one hr1 hr2) c)
      refine ws_iinc 695 C dL_law_695 rfl (nI (5 * (j + 1))) (five j) rfl [some (.ref b), some (.ref (ad κ 0)), some (.ref (ad κ 91)), some (.int (nI (5 * (j + 1))))] rfl ?_
      refine ws_goto 698 C 18 dL_law_698 (by decide) ?_
      exact ih (by omega) (by omega) S _ hXI hMI
    · refine ws_tin 32 C dL_law_32 (11) (433) 465 (by rw [ey]; rfl) (by decide) (by decide) (by rfl) (by decide) ?_
      have hXO := hXI.1
      refine ws_aload_n 465 C dL_law_465 rfl ?_
      refine ws_aload_n 466 C dL_law_466 rfl ?_
      refine ws_iload_n 467 C dL_law_467 rfl ?_
      refine ws_iconst 468 C dL_law_468 (nI 1) (by decide) ?_
      refine ws_iadd 469 C dL_law_469 (nI (5 * j + 1)) (nI_add _ _) ?_
      refine ws_sld 470 C dL_law_470 hX hbl hbA (vp_in_nI (by omega) (by omega)) (xs (5 * j + 1)) (congrArg xs (nI_clamp (by omega))) ?_
      refine ws_aload_n 471 C dL_law_471 rfl ?_
      refine ws_iload_n 472 C dL_law_472 rfl ?_
      refine ws_iconst 473 C dL_law_473 (nI 2) (by decide) ?_
      refine ws_iadd 474 C dL_law_474 (nI (5 * j + 2)) (nI_add _ _) ?_
      refine ws_sld 475 C dL_law_475 hX hbl hbA (vp_in_nI (by omega) (by omega)) (xs (5 * j + 2)) (congrArg xs (nI_clamp (by omega))) ?_
      refine ws_callV0 476 C dL_law_476 vL_62 (c_X4_body hXI) rfl hXO rfl rfl ⟨(Nat.le_of_ble_eq_true rfl), (Nat.le_of_ble_eq_true rfl)⟩ ⟨(Nat.le_of_ble_eq_true rfl), (Nat.le_of_ble_eq_true rfl)⟩ rfl rfl rfl (kI' (fun r1 u1 h1 => ?_))
      obtain ⟨hr1, hXI, hf1⟩ := h1
      have hMI := hMI.fr hf1 (fun q g1 g2 => (show ¬ (q < 91) from by omega))
      obtain ⟨⟨ln, rd, hMO⟩, -⟩ := id hMI
      refine ws_aload_n 479 C dL_law_479 rfl ?_
      refine ws_aload_n 480 C dL_law_480 rfl ?_
      refine ws_iload_n 481 C dL_law_481 rfl ?_
      refine ws_iconst 482 C dL_law_482 (nI 1) (by decide) ?_
      refine ws_iadd 483 C dL_law_483 (nI (5 * j + 1)) (nI_add _ _) ?_
      refine ws_sld 484 C dL_law_484 hX hbl hbA (vp_in_nI (by omega) (by omega)) (xs (5 * j + 1)) (congrArg xs (nI_clamp (by omega))) ?_
      refine ws_aload_n 485 C dL_law_485 rfl ?_
      refine ws_iload_n 486 C dL_law_486 rfl ?_
      refine ws_iconst 487 C dL_law_487 (nI 2) (by decide) ?_
      refine ws_iadd 488 C dL_law_488 (nI (5 * j + 2)) (nI_add _ _) ?_
      refine ws_sld 489 C dL_law_489 hX hbl hbA (vp_in_nI (by omega) (by omega)) (xs (5 * j + 2)) (congrArg xs (nI_clamp (by omega))) ?_
      refine ws_callV0 490 C dL_law_490 vL_65 (c_X5_body hMI) rfl hMO rfl rfl ⟨(Nat.le_of_ble_eq_true rfl), (Nat.le_of_ble_eq_true rfl)⟩ ⟨(Nat.le_of_ble_eq_true rfl), (Nat.le_of_ble_eq_true rfl)⟩ rfl rfl rfl (kI' (fun r2 u2 h2 => ?_))
      obtain ⟨hr2, hMI, hf2⟩ := h2
      have hXI := hXI.fr hf2 (fun q g1 => (show ¬ (91 ≤ q ∧ q < 106) from by omega))
      refine ws_icmp_eq 493 C 695 dL_law_493 (by decide) (fun c => ?_) (fun c => absurd (hr1.trans hr2.symm) c)
      refine ws_iinc 695 C dL_law_695 rfl (nI (5 * (j + 1))) (five j) rfl [some (.ref b), some (.ref (ad κ 0)), some (.ref (ad κ 91)), some (.int (nI (5 * (j + 1))))] rfl ?_
      refine ws_goto 698 C 18 dL_law_698 (by decide) ?_
      exact ih (by omega) (by omega) _ _ hXI hMI
    · refine ws_tin 32 C dL_law_32 (12) (466) 498 (by rw [ey]; rfl) (by decide) (by decide) (by rfl) (by decide) ?_
      have hXO := hXI.1
      refine ws_aload_n 498 C dL_law_498 rfl ?_
      refine ws_aload_n 499 C dL_law_499 rfl ?_
      refine ws_iload_n 500 C dL_law_500 rfl ?_
      refine ws_iconst 501 C dL_law_501 (nI 1) (by decide) ?_
      refine ws_iadd 502 C dL_law_502 (nI (5 * j + 1)) (nI_add _ _) ?_
      refine ws_sld 503 C dL_law_503 hX hbl hbA (vp_in_nI (by omega) (by omega)) (xs (5 * j + 1)) (congrArg xs (nI_clamp (by omega))) ?_
      refine ws_callV0 504 C dL_law_504 vL_66 (c_X4_leastMeasure hXI) rfl hXO rfl rfl ⟨(Nat.le_of_ble_eq_true rfl), (Nat.le_of_ble_eq_true rfl)⟩ ⟨(Nat.le_of_ble_eq_true rfl), (Nat.le_of_ble_eq_true rfl)⟩ rfl rfl rfl (kI' (fun r1 u1 h1 => ?_))
      obtain ⟨hr1, hXI, hf1⟩ := h1
      have hMI := hMI.fr hf1 (fun q g1 g2 => (show ¬ (q < 91) from by omega))
      obtain ⟨⟨ln, rd, hMO⟩, -⟩ := id hMI
      refine ws_aload_n 507 C dL_law_507 rfl ?_
      refine ws_aload_n 508 C dL_law_508 rfl ?_
      refine ws_iload_n 509 C dL_law_509 rfl ?_
      refine ws_iconst 510 C dL_law_510 (nI 1) (by decide) ?_
      refine ws_iadd 511 C dL_law_511 (nI (5 * j + 1)) (nI_add _ _) ?_
      refine ws_sld 512 C dL_law_512 hX hbl hbA (vp_in_nI (by omega) (by omega)) (xs (5 * j + 1)) (congrArg xs (nI_clamp (by omega))) ?_
      refine ws_callV0 513 C dL_law_513 vL_69 (c_X5_leastMeasure hMI) rfl hMO rfl rfl ⟨(Nat.le_of_ble_eq_true rfl), (Nat.le_of_ble_eq_true rfl)⟩ ⟨(Nat.le_of_ble_eq_true rfl), (Nat.le_of_ble_eq_true rfl)⟩ rfl rfl rfl (kI' (fun r2 u2 h2 => ?_))
      obtain ⟨hr2, hMI, hf2⟩ := h2
      have hXI := hXI.fr hf2 (fun q g1 => (show ¬ (91 ≤ q ∧ q < 106) from by omega))
      refine ws_icmp_eq 516 C 695 dL_law_516 (by decide) (fun c => ?_) (fun c => absurd (hr1.trans hr2.symm) c)
      refine ws_iinc 695 C dL_law_695 rfl (nI (5 * (j + 1))) (five j) rfl [some (.ref b), some (.ref (ad κ 0)), some (.ref (ad κ 91)), some (.int (nI (5 * (j + 1))))] rfl ?_
      refine ws_goto 698 C 18 dL_law_698 (by decide) ?_
      exact ih (by omega) (by omega) _ _ hXI hMI
    · refine ws_tin 32 C dL_law_32 (13) (489) 521 (by rw [ey]; rfl) (by decide) (by decide) (by rfl) (by decide) ?_
      have hXO := hXI.1
      refine ws_aload_n 521 C dL_law_521 rfl ?_
      refine ws_aload_n 522 C dL_law_522 rfl ?_
      refine ws_iload_n 523 C dL_law_523 rfl ?_
      refine ws_iconst 524 C dL_law_524 (nI 1) (by decide) ?_
      refine ws_iadd 525 C dL_law_525 (nI (5 * j + 1)) (nI_add _ _) ?_
      refine ws_sld 526 C dL_law_526 hX hbl hbA (vp_in_nI (by omega) (by omega)) (xs (5 * j + 1)) (congrArg xs (nI_clamp (by omega))) ?_
      refine ws_callV0 527 C dL_law_527 vL_70 (c_X4_bestShare hXI) rfl hXO rfl rfl ⟨(Nat.le_of_ble_eq_true rfl), (Nat.le_of_ble_eq_true rfl)⟩ ⟨(Nat.le_of_ble_eq_true rfl), (Nat.le_of_ble_eq_true rfl)⟩ rfl rfl rfl (kI' (fun r1 u1 h1 => ?_))
      obtain ⟨hr1, hXI, hf1⟩ := h1
      have hMI := hMI.fr hf1 (fun q g1 g2 => (show ¬ (q < 91) from by omega))
      obtain ⟨⟨ln, rd, hMO⟩, -⟩ := id hMI
      refine ws_aload_n 530 C dL_law_530 rfl ?_
      refine ws_aload_n 531 C dL_law_531 rfl ?_
      refine ws_iload_n 532 C dL_law_532 rfl ?_
      refine ws_iconst 533 C dL_law_533 (nI 1) (by decide) ?_
      refine ws_iadd 534 C dL_law_534 (nI (5 * j + 1)) (nI_add _ _) ?_
      refine ws_sld 535 C dL_law_535 hX hbl hbA (vp_in_nI (by omega) (by omega)) (xs (5 * j + 1)) (congrArg xs (nI_clamp (by omega))) ?_
      refine ws_callV0 536 C dL_law_536 vL_73 (c_X5_bestShare hMI) rfl hMO rfl rfl ⟨(Nat.le_of_ble_eq_true rfl), (Nat.le_of_ble_eq_true rfl)⟩ ⟨(Nat.le_of_ble_eq_true rfl), (Nat.le_of_ble_eq_true rfl)⟩ rfl rfl rfl (kI' (fun r2 u2 h2 => ?_))
      obtain ⟨hr2, hMI, hf2⟩ := h2
      have hXI := hXI.fr hf2 (fun q g1 => (show ¬ (91 ≤ q ∧ q < 106) from by omega))
      refine ws_icmp_eq 539 C 695 dL_law_539 (by decide) (fun c => ?_) (fun c => absurd (hr1.trans hr2.symm) c)
      refine ws_iinc 695 C dL_law_695 rfl (nI (5 * (j + 1))) (five j) rfl [some (.ref b), some (.ref (ad κ 0)), some (.ref (ad κ 91)), some (.int (nI (5 * (j + 1))))] rfl ?_
      refine ws_goto 698 C 18 dL_law_698 (by decide) ?_
      exact ih (by omega) (by omega) _ _ hXI hMI
    · refine ws_tin 32 C dL_law_32 (14) (512) 544 (by rw [ey]; rfl) (by decide) (by decide) (by rfl) (by decide) ?_
      have hXO := hXI.1
      refine ws_aload_n 544 C dL_law_544 rfl ?_
      refine ws_callV0 545 C dL_law_545 vL_74 (c_X4_worstWord hXI) rfl hXO rfl rfl ⟨(Nat.le_of_ble_eq_true rfl), (Nat.le_of_ble_eq_true rfl)⟩ ⟨(Nat.le_of_ble_eq_true rfl), (Nat.le_of_ble_eq_true rfl)⟩ rfl rfl rfl (kI' (fun r1 u1 h1 => ?_))
      obtain ⟨hr1, hXI, hf1⟩ := h1
      have hMI := hMI.fr hf1 (fun q g1 g2 => (show ¬ (q < 91) from by omega))
      obtain ⟨⟨ln, rd, hMO⟩, -⟩ := id hMI
      refine ws_aload_n 548 C dL_law_548 rfl ?_
      refine ws_callV0 549 C dL_law_549 vL_77 (c_X5_worstWord hMI) rfl hMO rfl rfl ⟨(Nat.le_of_ble_eq_true rfl), (Nat.le_of_ble_eq_true rfl)⟩ ⟨(Nat.le_of_ble_eq_true rfl), (Nat.le_of_ble_eq_true rfl)⟩ rfl rfl rfl (kI' (fun r2 u2 h2 => ?_))
      obtain ⟨hr2, hMI, hf2⟩ := h2
      have hXI := hXI.fr hf2 (fun q g1 => (show ¬ (91 ≤ q ∧ q < 106) from by omega))
      refine ws_icmp_eq 552 C 695 dL_law_552 (by decide) (fun c => ?_) (fun c => absurd (hr1.trans hr2.symm) c)
      refine ws_iinc 695 C dL_law_695 rfl (nI (5 * (j + 1))) (five j) rfl [some (.ref b), some (.ref (ad κ 0)), some (.ref (ad κ 91)), some (.int (nI (5 * (j + 1))))] rfl ?_
      refine ws_goto 698 C 18 dL_law_698 (by decide) ?_
      exact ih (by omega) (by omega) _ _ hXI hMI
    · refine ws_tin 32 C dL_law_32 (15) (525) 557 (by rw [ey]; rfl) (by decide) (by decide) (by rfl) (by decide) ?_
      obtain ⟨V, hV, eV⟩ := wb_of (((xs (5 * j + 1)).toInt64 <<< ((nI 32).toInt64 &&& 63)) ||| ((xs (5 * j + 2)).toInt64 &&& 4294967295))
      have hXO := hXI.1
      refine ws_aload_n 557 C dL_law_557 rfl ?_
      refine ws_aload_n 558 C dL_law_558 rfl ?_
      refine ws_iload_n 559 C dL_law_559 rfl ?_
      refine ws_iconst 560 C dL_law_560 (nI 1) (by decide) ?_
      refine ws_iadd 561 C dL_law_561 (nI (5 * j + 1)) (nI_add _ _) ?_
      refine ws_sld 562 C dL_law_562 hX hbl hbA (vp_in_nI (by omega) (by omega)) (xs (5 * j + 1)) (congrArg xs (nI_clamp (by omega))) ?_
      refine ws_i2l 563 C dL_law_563 ((xs (5 * j + 1)).toInt64) rfl ?_
      refine ws_bipush 564 C dL_law_564 (nI 32) (by decide) ?_
      refine ws_lshl 566 C dL_law_566 (((xs (5 * j + 1)).toInt64 <<< ((nI 32).toInt64 &&& 63))) rfl ?_
      refine ws_aload_n 567 C dL_law_567 rfl ?_
      refine ws_iload_n 568 C dL_law_568 rfl ?_
      refine ws_iconst 569 C dL_law_569 (nI 2) (by decide) ?_
      refine ws_iadd 570 C dL_law_570 (nI (5 * j + 2)) (nI_add _ _) ?_
      refine ws_sld 571 C dL_law_571 hX hbl hbA (vp_in_nI (by omega) (by omega)) (xs (5 * j + 2)) (congrArg xs (nI_clamp (by omega))) ?_
      refine ws_i2l 572 C dL_law_572 ((xs (5 * j + 2)).toInt64) rfl ?_
      refine ws_ldc2 573 C dL_law_573 (4294967295) k640 ?_
      refine ws_land 576 C dL_law_576 (((xs (5 * j + 2)).toInt64 &&& 4294967295)) rfl ?_
      refine ws_lor 577 C dL_law_577 (lN V) eV ?_
      refine ws_callV0 578 C dL_law_578 vL_80 (c_X4_put hXI hV) rfl hXO rfl rfl ⟨(Nat.le_of_ble_eq_true rfl), (Nat.le_of_ble_eq_true rfl)⟩ ⟨(Nat.le_of_ble_eq_true rfl), (Nat.le_of_ble_eq_true rfl)⟩ rfl rfl rfl (kI' (fun r1 u1 h1 => ?_))
      obtain ⟨hr1, hXI, hf1⟩ := h1
      have hMI := hMI.fr hf1 (fun q g1 g2 => (show ¬ (q < 91) from by omega))
      obtain ⟨⟨ln, rd, hMO⟩, -⟩ := id hMI
      refine ws_aload_n 581 C dL_law_581 rfl ?_
      refine ws_aload_n 582 C dL_law_582 rfl ?_
      refine ws_iload_n 583 C dL_law_583 rfl ?_
      refine ws_iconst 584 C dL_law_584 (nI 1) (by decide) ?_
      refine ws_iadd 585 C dL_law_585 (nI (5 * j + 1)) (nI_add _ _) ?_
      refine ws_sld 586 C dL_law_586 hX hbl hbA (vp_in_nI (by omega) (by omega)) (xs (5 * j + 1)) (congrArg xs (nI_clamp (by omega))) ?_
      refine ws_i2l 587 C dL_law_587 ((xs (5 * j + 1)).toInt64) rfl ?_
      refine ws_bipush 588 C dL_law_588 (nI 32) (by decide) ?_
      refine ws_lshl 590 C dL_law_590 (((xs (5 * j + 1)).toInt64 <<< ((nI 32).toInt64 &&& 63))) rfl ?_
      refine ws_aload_n 591 C dL_law_591 rfl ?_
      refine ws_iload_n 592 C dL_law_592 rfl ?_
      refine ws_iconst 593 C dL_law_593 (nI 2) (by decide) ?_
      refine ws_iadd 594 C dL_law_594 (nI (5 * j + 2)) (nI_add _ _) ?_
      refine ws_sld 595 C dL_law_595 hX hbl hbA (vp_in_nI (by omega) (by omega)) (xs (5 * j + 2)) (congrArg xs (nI_clamp (by omega))) ?_
      refine ws_i2l 596 C dL_law_596 ((xs (5 * j + 2)).toInt64) rfl ?_
      refine ws_ldc2 597 C dL_law_597 (4294967295) k640 ?_
      refine ws_land 600 C dL_law_600 (((xs (5 * j + 2)).toInt64 &&& 4294967295)) rfl ?_
      refine ws_lor 601 C dL_law_601 (lN V) eV ?_
      refine ws_callV0 602 C dL_law_602 vL_84 (c_X5_put hMI hV) rfl hMO rfl rfl ⟨(Nat.le_of_ble_eq_true rfl), (Nat.le_of_ble_eq_true rfl)⟩ ⟨(Nat.le_of_ble_eq_true rfl), (Nat.le_of_ble_eq_true rfl)⟩ rfl rfl rfl (kI' (fun r2 u2 h2 => ?_))
      obtain ⟨hr2, hMI, hf2⟩ := h2
      have hXI := hXI.fr hf2 (fun q g1 => (show ¬ (91 ≤ q ∧ q < 106) from by omega))
      refine ws_icmp_eq 605 C 695 dL_law_605 (by decide) (fun c => ?_) (fun c => absurd (hr1.trans hr2.symm) c)
      refine ws_iinc 695 C dL_law_695 rfl (nI (5 * (j + 1))) (five j) rfl [some (.ref b), some (.ref (ad κ 0)), some (.ref (ad κ 91)), some (.int (nI (5 * (j + 1))))] rfl ?_
      refine ws_goto 698 C 18 dL_law_698 (by decide) ?_
      exact ih (by omega) (by omega) _ _ hXI hMI
    · refine ws_tin 32 C dL_law_32 (16) (578) 610 (by rw [ey]; rfl) (by decide) (by decide) (by rfl) (by decide) ?_
      have hXO := hXI.1
      refine ws_aload_n 610 C dL_law_610 rfl ?_
      refine ws_callV0 611 C dL_law_611 vL_85 (c_X4_wipe hXI) rfl hXO rfl rfl ⟨(Nat.le_of_ble_eq_true rfl), (Nat.le_of_ble_eq_true rfl)⟩ ⟨(Nat.le_of_ble_eq_true rfl), (Nat.le_of_ble_eq_true rfl)⟩ rfl rfl rfl (kI' (fun r1 u1 h1 => ?_))
      obtain ⟨hr1, hXI, hf1⟩ := h1
      have hMI := hMI.fr hf1 (fun q g1 g2 => (show ¬ (q < 91) from by omega))
      obtain ⟨⟨ln, rd, hMO⟩, -⟩ := id hMI
      refine ws_aload_n 614 C dL_law_614 rfl ?_
      refine ws_callV0 615 C dL_law_615 vL_88 (c_X5_wipe hMI) rfl hMO rfl rfl ⟨(Nat.le_of_ble_eq_true rfl), (Nat.le_of_ble_eq_true rfl)⟩ ⟨(Nat.le_of_ble_eq_true rfl), (Nat.le_of_ble_eq_true rfl)⟩ rfl rfl rfl (kI' (fun r2 u2 h2 => ?_))
      obtain ⟨hr2, hMI, hf2⟩ := h2
      have hXI := hXI.fr hf2 (fun q g1 => (show ¬ (91 ≤ q ∧ q < 106) from by omega))
      refine ws_icmp_eq 618 C 695 dL_law_618 (by decide) (fun c => ?_) (fun c => absurd (hr1.trans hr2.symm) c)
      refine ws_iinc 695 C dL_law_695 rfl (nI (5 * (j + 1))) (five j) rfl [some (.ref b), some (.ref (ad κ 0)), some (.ref (ad κ 91)), some (.int (nI (5 * (j + 1))))] rfl ?_
      refine ws_goto 698 C 18 dL_law_698 (by decide) ?_
      exact ih (by omega) (by omega) _ _ hXI hMI
    · refine ws_tin 32 C dL_law_32 (17) (591) 623 (by rw [ey]; rfl) (by decide) (by decide) (by rfl) (by decide) ?_
      have hXO := hXI.1
      refine ws_aload_n 623 C dL_law_623 rfl ?_
      refine ws_callV0 624 C dL_law_624 vL_89 (c_X4_fault hXI) rfl hXO rfl rfl ⟨(Nat.le_of_ble_eq_true rfl), (Nat.le_of_ble_eq_true rfl)⟩ ⟨(Nat.le_of_ble_eq_true rfl), (Nat.le_of_ble_eq_true rfl)⟩ rfl rfl rfl (kI' (fun r1 u1 h1 => ?_))
      obtain ⟨hr1, hXI, hf1⟩ := h1
      have hMI := hMI.fr hf1 (fun q g1 g2 => (show ¬ (q < 91) from by omega))
      obtain ⟨⟨ln, rd, hMO⟩, -⟩ := id hMI
      refine ws_aload_n 627 C dL_law_627 rfl ?_
      refine ws_callV0 628 C dL_law_628 vL_92 (c_X5_fault hMI) rfl hMO rfl rfl ⟨(Nat.le_of_ble_eq_true rfl), (Nat.le_of_ble_eq_true rfl)⟩ ⟨(Nat.le_of_ble_eq_true rfl), (Nat.le_of_ble_eq_true rfl)⟩ rfl rfl rfl (kI' (fun r2 u2 h2 => ?_))
      obtain ⟨hr2, hMI, hf2⟩ := h2
      have hXI := hXI.fr hf2 (fun q g1 => (show ¬ (91 ≤ q ∧ q < 106) from by omega))
      refine ws_icmp_eq 631 C 695 dL_law_631 (by decide) (fun c => ?_) (fun c => absurd (hr1.trans hr2.symm) c)
      refine ws_iinc 695 C dL_law_695 rfl (nI (5 * (j + 1))) (five j) rfl [some (.ref b), some (.ref (ad κ 0)), some (.ref (ad κ 91)), some (.int (nI (5 * (j + 1))))] rfl ?_
      refine ws_goto 698 C 18 dL_law_698 (by decide) ?_
      exact ih (by omega) (by omega) _ _ hXI hMI
    · refine ws_tin 32 C dL_law_32 (18) (604) 636 (by rw [ey]; rfl) (by decide) (by decide) (by rfl) (by decide) ?_
      have hXO := hXI.1
      refine ws_aload_n 636 C dL_law_636 rfl ?_
      refine ws_callV0 637 C dL_law_637 vL_93 (c_X4_undo hXI) rfl hXO rfl rfl ⟨(Nat.le_of_ble_eq_true rfl), (Nat.le_of_ble_eq_true rfl)⟩ ⟨(Nat.le_of_ble_eq_true rfl), (Nat.le_of_ble_eq_true rfl)⟩ rfl rfl rfl (kI' (fun r1 u1 h1 => ?_))
      obtain ⟨hr1, hXI, hf1⟩ := h1
      have hMI := hMI.fr hf1 (fun q g1 g2 => (show ¬ (q < 91) from by omega))
      obtain ⟨⟨ln, rd, hMO⟩, -⟩ := id hMI
      refine ws_aload_n 640 C dL_law_640 rfl ?_
      refine ws_callV0 641 C dL_law_641 vL_96 (c_X5_undo hMI) rfl hMO rfl rfl ⟨(Nat.le_of_ble_eq_true rfl), (Nat.le_of_ble_eq_true rfl)⟩ ⟨(Nat.le_of_ble_eq_true rfl), (Nat.le_of_ble_eq_true rfl)⟩ rfl rfl rfl (kI' (fun r2 u2 h2 => ?_))
      obtain ⟨hr2, hMI, hf2⟩ := h2
      have hXI := hXI.fr hf2 (fun q g1 => (show ¬ (91 ≤ q ∧ q < 106) from by omega))
      refine ws_icmp_eq 644 C 695 dL_law_644 (by decide) (fun c => ?_) (fun c => absurd (hr1.trans hr2.symm) c)
      refine ws_iinc 695 C dL_law_695 rfl (nI (5 * (j + 1))) (five j) rfl [some (.ref b), some (.ref (ad κ 0)), some (.ref (ad κ 91)), some (.int (nI (5 * (j + 1))))] rfl ?_
      refine ws_goto 698 C 18 dL_law_698 (by decide) ?_
      exact ih (by omega) (by omega) _ _ hXI hMI
    · refine ws_tin 32 C dL_law_32 (19) (617) 649 (by rw [ey]; rfl) (by decide) (by decide) (by rfl) (by decide) ?_
      have hXO := hXI.1
      refine ws_aload_n 649 C dL_law_649 rfl ?_
      refine ws_aload_n 650 C dL_law_650 rfl ?_
      refine ws_iload_n 651 C dL_law_651 rfl ?_
      refine ws_iconst 652 C dL_law_652 (nI 1) (by decide) ?_
      refine ws_iadd 653 C dL_law_653 (nI (5 * j + 1)) (nI_add _ _) ?_
      refine ws_sld 654 C dL_law_654 hX hbl hbA (vp_in_nI (by omega) (by omega)) (xs (5 * j + 1)) (congrArg xs (nI_clamp (by omega))) ?_
      refine ws_callV0 655 C dL_law_655 vL_97 (c_X4_save hXI) rfl hXO rfl rfl ⟨(Nat.le_of_ble_eq_true rfl), (Nat.le_of_ble_eq_true rfl)⟩ ⟨(Nat.le_of_ble_eq_true rfl), (Nat.le_of_ble_eq_true rfl)⟩ rfl rfl rfl (kI' (fun r1 u1 h1 => ?_))
      obtain ⟨hr1, hXI, hf1⟩ := h1
      have hMI := hMI.fr hf1 (fun q g1 g2 => (show ¬ (q < 91) from by omega))
      obtain ⟨⟨ln, rd, hMO⟩, -⟩ := id hMI
      refine ws_aload_n 658 C dL_law_658 rfl ?_
      refine ws_aload_n 659 C dL_law_659 rfl ?_
      refine ws_iload_n 660 C dL_law_660 rfl ?_
      refine ws_iconst 661 C dL_law_661 (nI 1) (by decide) ?_
      refine ws_iadd 662 C dL_law_662 (nI (5 * j + 1)) (nI_add _ _) ?_
      refine ws_sld 663 C dL_law_663 hX hbl hbA (vp_in_nI (by omega) (by omega)) (xs (5 * j + 1)) (congrArg xs (nI_clamp (by omega))) ?_
      refine ws_callV0 664 C dL_law_664 vL_100 (c_X5_save hMI) rfl hMO rfl rfl ⟨(Nat.le_of_ble_eq_true rfl), (Nat.le_of_ble_eq_true rfl)⟩ ⟨(Nat.le_of_ble_eq_true rfl), (Nat.le_of_ble_eq_true rfl)⟩ rfl rfl rfl (kI' (fun r2 u2 h2 => ?_))
      obtain ⟨hr2, hMI, hf2⟩ := h2
      have hXI := hXI.fr hf2 (fun q g1 => (show ¬ (91 ≤ q ∧ q < 106) from by omega))
      refine ws_icmp_eq 667 C 695 dL_law_667 (by decide) (fun c => ?_) (fun c => absurd (hr1.trans hr2.symm) c)
      refine ws_iinc 695 C dL_law_695 rfl (nI (5 * (j + 1))) (five j) rfl [some (.ref b), some (.ref (ad κ 0)), some (.ref (ad κ 91)), some (.int (nI (5 * (j + 1))))] rfl ?_
      refine ws_goto 698 C 18 dL_law_698 (by decide) ?_
      exact ih (by omega) (by omega) _ _ hXI hMI
    · refine ws_tin 32 C dL_law_32 (20) (640) 672 (by rw [ey]; rfl) (by decide) (by decide) (by rfl) (by decide) ?_
      have hXO := hXI.1
      refine ws_aload_n 672 C dL_law_672 rfl ?_
      refine ws_aload_n 673 C dL_law_673 rfl ?_
      refine ws_iload_n 674 C dL_law_674 rfl ?_
      refine ws_iconst 675 C dL_law_675 (nI 1) (by decide) ?_
      refine ws_iadd 676 C dL_law_676 (nI (5 * j + 1)) (nI_add _ _) ?_
      refine ws_sld 677 C dL_law_677 hX hbl hbA (vp_in_nI (by omega) (by omega)) (xs (5 * j + 1)) (congrArg xs (nI_clamp (by omega))) ?_
      refine ws_callV0 678 C dL_law_678 vL_101 (c_X4_restore hXI) rfl hXO rfl rfl ⟨(Nat.le_of_ble_eq_true rfl), (Nat.le_of_ble_eq_true rfl)⟩ ⟨(Nat.le_of_ble_eq_true rfl), (Nat.le_of_ble_eq_true rfl)⟩ rfl rfl rfl (kI' (fun r1 u1 h1 => ?_))
      obtain ⟨hr1, hXI, hf1⟩ := h1
      have hMI := hMI.fr hf1 (fun q g1 g2 => (show ¬ (q < 91) from by omega))
      obtain ⟨⟨ln, rd, hMO⟩, -⟩ := id hMI
      refine ws_aload_n 681 C dL_law_681 rfl ?_
      refine ws_aload_n 682 C dL_law_682 rfl ?_
      refine ws_iload_n 683 C dL_law_683 rfl ?_
      refine ws_iconst 684 C dL_law_684 (nI 1) (by decide) ?_
      refine ws_iadd 685 C dL_law_685 (nI (5 * j + 1)) (nI_add _ _) ?_
      refine ws_sld 686 C dL_law_686 hX hbl hbA (vp_in_nI (by omega) (by omega)) (xs (5 * j + 1)) (congrArg xs (nI_clamp (by omega))) ?_
      refine ws_callV0 687 C dL_law_687 vL_104 (c_X5_restore hMI) rfl hMO rfl rfl ⟨(Nat.le_of_ble_eq_true rfl), (Nat.le_of_ble_eq_true rfl)⟩ ⟨(Nat.le_of_ble_eq_true rfl), (Nat.le_of_ble_eq_true rfl)⟩ rfl rfl rfl (kI' (fun r2 u2 h2 => ?_))
      obtain ⟨hr2, hMI, hf2⟩ := h2
      have hXI := hXI.fr hf2 (fun q g1 => (show ¬ (91 ≤ q ∧ q < 106) from by omega))
      refine ws_icmp_eq 690 C 695 dL_law_690 (by decide) (fun c => ?_) (fun c => absurd (hr1.trans hr2.symm) c)
      refine ws_iinc 695 C dL_law_695 rfl (nI (5 * (j + 1))) (five j) rfl [some (.ref b), some (.ref (ad κ 0)), some (.ref (ad κ 91)), some (.int (nI (5 * (j + 1))))] rfl ?_
      refine ws_goto 698 C 18 dL_law_698 (by decide) ?_
      exact ih (by omega) (by omega) _ _ hXI hMI
  · refine ws_tout 32 C dL_law_32 695 hy (by decide) ?_
    refine ws_iinc 695 C dL_law_695 rfl (nI (5 * (j + 1))) (five j) rfl [some (.ref b), some (.ref (ad κ 0)), some (.ref (ad κ 91)), some (.int (nI (5 * (j + 1))))] rfl ?_
    refine ws_goto 698 C 18 dL_law_698 (by decide) ?_
    exact ih (by omega) (by omega) S _ hXI hMI
set_option maxRecDepth 100000 in
set_option maxHeartbeats 8000000 in
theorem law_all {p : Program} {l : Launch} {e : Env} {s : State} {m : MethodId} {below : List Frame} {meth : Method} {c : Code} {κ : Kt} {b L : Nat} {xs : Nat → Int32} (C : Cx p s m #[Value.ref b] meth c κ code 4 RL ret) (hk : kH κ = s.heap) (hL : L ≤ 2560) (hX : va_X b L xs s s.heap) (hbl : b < s.heap.size) (hbA : ¬ fr κ b) (st : St) : WS p l e room_1 s m #[Value.ref b] below meth c κ 0 0 0 (lw_Z below #[Value.ref b] s) st 0 [some (.ref b), none, none, none] [] := by
  refine ws_new (ci := 4) (Cn := RX4) (T := TX4) (N := 8) 0 C dL_law_0 rfl iX4 tyX4 tyX4_ok k44 k45 k36 dX4 dX4_ok (Nat.le_of_ble_eq_true rfl) (Nat.le_of_ble_eq_true rfl) (wsE (fun sa esa => ?_))
  have hN : Ob 1 sa 0 [.inr (4, dX4)] := Ob.one' esa
  refine ws_dup 3 C dL_law_3 rfl ?_
  refine ws_callI 4 C (c_X4_init hN) dL_law_4 vL_9 rfl ⟨(Nat.le_of_ble_eq_true rfl), (Nat.le_of_ble_eq_true rfl)⟩ ⟨(Nat.le_of_ble_eq_true rfl), (Nat.le_of_ble_eq_true rfl)⟩ rfl (Nat.le_of_ble_eq_true rfl) rfl (kV (fun u1 h1 => ?_))
  obtain ⟨hXI, -⟩ := h1
  refine ws_astore_n 7 C dL_law_7 rfl [some (.ref b), some (.ref (ad κ 0)), none, none] rfl ?_
  refine ws_new (ci := 5) (Cn := RX5) (T := TX5) (N := 18) 8 C dL_law_8 rfl iX5 tyX5 tyX5_ok k407 k408 k41 dX5 dX5_ok (Nat.le_of_ble_eq_true rfl) (Nat.le_of_ble_eq_true rfl) (wsE (fun sb esb => ?_))
  have hXI : XI κ 92 sb S0 := (hXI.fr (Fr.one esb) (fun q g => (show ¬ (q = 91) from by omega))).up (by omega)
  have hN : Ob 92 sb 91 [.inr (5, dX5)] := Ob.one' esb
  refine ws_dup 11 C dL_law_11 rfl ?_
  refine ws_callI 12 C (c_X5_init hN) dL_law_12 vL_12 rfl ⟨(Nat.le_of_ble_eq_true rfl), (Nat.le_of_ble_eq_true rfl)⟩ ⟨(Nat.le_of_ble_eq_true rfl), (Nat.le_of_ble_eq_true rfl)⟩ rfl (Nat.le_of_ble_eq_true rfl) rfl (kV (fun u2 h2 => ?_))
  obtain ⟨hMI, hf⟩ := h2
  have hXI : XI κ 106 u2 S0 := (hXI.fr hf (fun q g => (show ¬ (91 ≤ q) from by omega))).up (by omega)
  refine ws_astore_n 15 C dL_law_15 rfl [some (.ref b), some (.ref (ad κ 0)), some (.ref (ad κ 91)), none] rfl ?_
  refine ws_iconst 16 C dL_law_16 (nI 0) (by decide) ?_
  refine ws_istore_n 17 C dL_law_17 rfl [some (.ref b), some (.ref (ad κ 0)), some (.ref (ad κ 91)), some (.int (nI (5 * 0)))] rfl ?_
  exact law_loop C hk hL hX hbl hbA 0 (by omega) (by omega) S0 u2 hXI hMI
