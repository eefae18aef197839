section
variable {zl : Launch} {κ : Kt} {z : Nat} {st0 : St}
set_option maxRecDepth 100000 in
set_option maxHeartbeats 4000000 in
theorem c_X5_init (hO : Ob (92) st0 91 [.inr (5, dX5)]) : CT zl κ yX5_init cX5_init 2 none { frames := 1, cells := 14, slots := 3202, locals := 12 } (92) [.ref (ad κ 91)] st0 (PV fun u => MI κ 106 u S0 ∧ Fr (fun q : Nat => 91 ≤ q) st0 u) := by
  obtain ⟨P, hP⟩ : ∃ P : Option Value → St → Prop, P = (PV fun u => MI κ 106 u S0 ∧ Fr (fun q : Nat => 91 ≤ q) st0 u) := ⟨_, rfl⟩
  rw [← hP]
  refine CT.of (by decide +kernel) (Nat.le_of_ble_eq_true rfl) (fun zp ze zs zm zar zbe zme zc C hN => ?_)
  have hin := hN rfl
  have C : Cx zp zs zm zar zme zc κ cX5_init 2 RX5 none := C
  refine ws_lv (lv2 := [some (.ref (ad κ 91)), none]) rfl ?_
  have hF : Fr (fun q : Nat => 91 ≤ q) st0 st0 := Fr.rf
  refine ws_aload_n 0 C dX5_init_0 rfl ?_
  refine ws_objI 1 C dX5_init_1 k412 k50 k51 rfl (Nat.le_of_ble_eq_true rfl) (Nat.le_of_ble_eq_true rfl) ?_
  refine ws_aload_n 4 C dX5_init_4 rfl ?_
  refine ws_sipush 5 C dX5_init_5 (nI 293) (by decide) ?_
  refine ws_newaI 8 C dX5_init_8 293 (by decide) (nI_clamp (by decide)) (by decide) k73 (Nat.le_of_ble_eq_true rfl) (Nat.le_of_ble_eq_true rfl) (wsE (fun st1 est1 => ?_))
  have hO := Ob.grow' hO est1
  have hF := hF.put' est1 (show 91 ≤ 92 from by omega)
  have hA92 : Ob (93) st1 92 [.inl (kI κ, 293, .inl (fun _ => 0))] := Ob.one' est1
  refine ws_putF 10 C dX5_init_10 fX5_7 q5_0 hin rfl hO rfl (Nat.le_of_ble_eq_true rfl) rfl rfl (fun st2 est2 => ?_)
  have hA92 := hA92.ne' (L := 1) est2 rfl (by omega)
  have hF := hF.put' est2 (show 91 ≤ 91 from by omega)
  have hO : Ob _ _ _ [.inr (5, [.ref (ad κ 92), .null, .null, .int (nI 0), .null, .null, .null, .null, .null, .null, .int (nI 0), .null, .null, .null, .int (nI 0), .null, .null, .int (nI 0)])] := Ob.put' (j := 0) hO est2 rfl
  refine ws_aload_n 13 C dX5_init_13 rfl ?_
  refine ws_sipush 14 C dX5_init_14 (nI 293) (by decide) ?_
  refine ws_newaI 17 C dX5_init_17 293 (by decide) (nI_clamp (by decide)) (by decide) k73 (Nat.le_of_ble_eq_true rfl) (Nat.le_of_ble_eq_true rfl) (wsE (fun st3 est3 => ?_))
  have hO := Ob.grow' hO est3
  have hA92 := Ob.grow' hA92 est3
  have hF := hF.put' est3 (show 91 ≤ 93 from by omega)
  have hA93 : Ob (94) st3 93 [.inl (kI κ, 293, .inl (fun _ => 0))] := Ob.one' est3
  refine ws_putF 19 C dX5_init_19 fX5_13 q5_1 hin rfl hO rfl (Nat.le_of_ble_eq_true rfl) rfl rfl (fun st4 est4 => ?_)
  have hA92 := hA92.ne' (L := 1) est4 rfl (by omega)
  have hA93 := hA93.ne' (L := 1) est4 rfl (by omega)
  have hF := hF.put' est4 (show 91 ≤ 91 from by omega)
  have hO : Ob _ _ _ [.inr (5, [.ref (ad κ 92), .ref (ad κ 93), .null, .int (nI 0), .null, .null, .null, .null, .null, .null, .int (nI 0), .null, .null, .null, .int (nI 0), .null, .null, .int (nI 0)])] := Ob.put' (j := 0) hO est4 rfl
  refine ws_aload_n 22 C dX5_init_22 rfl ?_
  refine ws_sipush 23 C dX5_init_23 (nI 1758) (by decide) ?_
  refine ws_newaI 26 C dX5_init_26 1758 (by decide) (nI_clamp (by decide)) (by decide) k73 (Nat.le_of_ble_eq_true rfl) (Nat.le_of_ble_eq_true rfl) (wsE (fun st5 est5 => ?_))
  have hO := Ob.grow' hO est5
  have hA92 := Ob.grow' hA92 est5
  have hA93 := Ob.grow' hA93 est5
  have hF := hF.put' est5 (show 91 ≤ 94 from by omega)
  have hA94 : Ob (95) st5 94 [.inl (kI κ, 1758, .inl (fun _ => 0))] := Ob.one' est5
  refine ws_putF 28 C dX5_init_28 fX5_16 q5_2 hin rfl hO rfl (Nat.le_of_ble_eq_true rfl) rfl rfl (fun st6 est6 => ?_)
  have hA92 := hA92.ne' (L := 1) est6 rfl (by omega)
  have hA93 := hA93.ne' (L := 1) est6 rfl (by omega)
  have hA94 := hA94.ne' (L := 1) est6 rfl (by omega)
  have hF := hF.put' est6 (show 91 ≤ 91 from by omega)
  have hO : Ob _ _ _ [.inr (5, [.ref (ad κ 92), .ref (ad κ 93), .ref (ad κ 94), .int (nI 0), .null, .null, .null, .null, .null, .null, .int (nI 0), .null, .null, .null, .int (nI 0), .null, .null, .int (nI 0)])] := Ob.put' (j := 0) hO est6 rfl
  refine ws_aload_n 31 C dX5_init_31 rfl ?_
  refine ws_sipush 32 C dX5_init_32 (nI 586) (by decide) ?_
  refine ws_newaI 35 C dX5_init_35 586 (by decide) (nI_clamp (by decide)) (by decide) k73 (Nat.le_of_ble_eq_true rfl) (Nat.le_of_ble_eq_true rfl) (wsE (fun st7 est7 => ?_))
  have hO := Ob.grow' hO est7
  have hA92 := Ob.grow' hA92 est7
  have hA93 := Ob.grow' hA93 est7
  have hA94 := Ob.grow' hA94 est7
  have hF := hF.put' est7 (show 91 ≤ 95 from by omega)
  have hA95 : Ob (96) st7 95 [.inl (kI κ, 586, .inl (fun _ => 0))] := Ob.one' est7
  refine ws_putF 37 C dX5_init_37 fX5_19 q5_4 hin rfl hO rfl (Nat.le_of_ble_eq_true rfl) rfl rfl (fun st8 est8 => ?_)
  have hA92 := hA92.ne' (L := 1) est8 rfl (by omega)
  have hA93 := hA93.ne' (L := 1) est8 rfl (by omega)
  have hA94 := hA94.ne' (L := 1) est8 rfl (by omega)
  have hA95 := hA95.ne' (L := 1) est8 rfl (by omega)
  have hF := hF.put' est8 (show 91 ≤ 91 from by omega)
  have hO : Ob _ _ _ [.inr (5, [.ref (ad κ 92), .ref (ad κ 93), .ref (ad κ 94), .int (nI 0), .ref (ad κ 95), .null, .null, .null, .null, .null, .int (nI 0), .null, .null, .null, .int (nI 0), .null, .null, .int (nI 0)])] := Ob.put' (j := 0) hO est8 rfl
  refine ws_aload_n 40 C dX5_init_40 rfl ?_
  refine ws_iconst 41 C dX5_init_41 (nI 2) (by decide) ?_
  refine ws_newaI 42 C dX5_init_42 2 (by decide) (nI_clamp (by decide)) (by decide) k73 (Nat.le_of_ble_eq_true rfl) (Nat.le_of_ble_eq_true rfl) (wsE (fun st9 est9 => ?_))
  have hO := Ob.grow' hO est9
  have hA92 := Ob.grow' hA92 est9
  have hA93 := Ob.grow' hA93 est9
  have hA94 := Ob.grow' hA94 est9
  have hA95 := Ob.grow' hA95 est9
  have hF := hF.put' est9 (show 91 ≤ 96 from by omega)
  have hA96 : Ob (97) st9 96 [.inl (kI κ, 2, .inl (fun _ => 0))] := Ob.one' est9
  refine ws_putF 44 C dX5_init_44 fX5_22 q5_5 hin rfl hO rfl (Nat.le_of_ble_eq_true rfl) rfl rfl (fun st10 est10 => ?_)
  have hA92 := hA92.ne' (L := 1) est10 rfl (by omega)
  have hA93 := hA93.ne' (L := 1) est10 rfl (by omega)
  have hA94 := hA94.ne' (L := 1) est10 rfl (by omega)
  have hA95 := hA95.ne' (L := 1) est10 rfl (by omega)
  have hA96 := hA96.ne' (L := 1) est10 rfl (by omega)
  have hF := hF.put' est10 (show 91 ≤ 91 from by omega)
  have hO : Ob _ _ _ [.inr (5, [.ref (ad κ 92), .ref (ad κ 93), .ref (ad κ 94), .int (nI 0), .ref (ad κ 95), .ref (ad κ 96), .null, .null, .null, .null, .int (nI 0), .null, .null, .null, .int (nI 0), .null, .null, .int (nI 0)])] := Ob.put' (j := 0) hO est10 rfl
  refine ws_aload_n 47 C dX5_init_47 rfl ?_
  refine ws_bipush 48 C dX5_init_48 (nI 25) (by decide) ?_
  refine ws_newaI 50 C dX5_init_50 25 (by decide) (nI_clamp (by decide)) (by decide) k73 (Nat.le_of_ble_eq_true rfl) (Nat.le_of_ble_eq_true rfl) (wsE (fun st11 est11 => ?_))
  have hO := Ob.grow' hO est11
  have hA92 := Ob.grow' hA92 est11
  have hA93 := Ob.grow' hA93 est11
  have hA94 := Ob.grow' hA94 est11
  have hA95 := Ob.grow' hA95 est11
  have hA96 := Ob.grow' hA96 est11
  have hF := hF.put' est11 (show 91 ≤ 97 from by omega)
  have hA97 : Ob (98) st11 97 [.inl (kI κ, 25, .inl (fun _ => 0))] := Ob.one' est11
  refine ws_putF 52 C dX5_init_52 fX5_25 q5_6 hin rfl hO rfl (Nat.le_of_ble_eq_true rfl) rfl rfl (fun st12 est12 => ?_)
  have hA92 := hA92.ne' (L := 1) est12 rfl (by omega)
  have hA93 := hA93.ne' (L := 1) est12 rfl (by omega)
  have hA94 := hA94.ne' (L := 1) est12 rfl (by omega)
  have hA95 := hA95.ne' (L := 1) est12 rfl (by omega)
  have hA96 := hA96.ne' (L := 1) est12 rfl (by omega)
  have hA97 := hA97.ne' (L := 1) est12 rfl (by omega)
  have hF := hF.put' est12 (show 91 ≤ 91 from by omega)
  have hO : Ob _ _ _ [.inr (5, [.ref (ad κ 92), .ref (ad κ 93), .ref (ad κ 94), .int (nI 0), .ref (ad κ 95), .ref (ad κ 96), .ref (ad κ 97), .null, .null, .null, .int (nI 0), .null, .null, .null, .int (nI 0), .null, .null, .int (nI 0)])] := Ob.put' (j := 0) hO est12 rfl
  refine ws_aload_n 55 C dX5_init_55 rfl ?_
  refine ws_bipush 56 C dX5_init_56 (nI 24) (by decide) ?_
  refine ws_newaI 58 C dX5_init_58 24 (by decide) (nI_clamp (by decide)) (by decide) k73 (Nat.le_of_ble_eq_true rfl) (Nat.le_of_ble_eq_true rfl) (wsE (fun st13 est13 => ?_))
  have hO := Ob.grow' hO est13
  have hA92 := Ob.grow' hA92 est13
  have hA93 := Ob.grow' hA93 est13
  have hA94 := Ob.grow' hA94 est13
  have hA95 := Ob.grow' hA95 est13
  have hA96 := Ob.grow' hA96 est13
  have hA97 := Ob.grow' hA97 est13
  have hF := hF.put' est13 (show 91 ≤ 98 from by omega)
  have hA98 : Ob (99) st13 98 [.inl (kI κ, 24, .inl (fun _ => 0))] := Ob.one' est13
  refine ws_putF 60 C dX5_init_60 fX5_28 q5_7 hin rfl hO rfl (Nat.le_of_ble_eq_true rfl) rfl rfl (fun st14 est14 => ?_)
  have hA92 := hA92.ne' (L := 1) est14 rfl (by omega)
  have hA93 := hA93.ne' (L := 1) est14 rfl (by omega)
  have hA94 := hA94.ne' (L := 1) est14 rfl (by omega)
  have hA95 := hA95.ne' (L := 1) est14 rfl (by omega)
  have hA96 := hA96.ne' (L := 1) est14 rfl (by omega)
  have hA97 := hA97.ne' (L := 1) est14 rfl (by omega)
  have hA98 := hA98.ne' (L := 1) est14 rfl (by omega)
  have hF := hF.put' est14 (show 91 ≤ 91 from by omega)
  have hO : Ob _ _ _ [.inr (5, [.ref (ad κ 92), .ref (ad κ 93), .ref (ad κ 94), .int (nI 0), .ref (ad κ 95), .ref (ad κ 96), .ref (ad κ 97), .ref (ad κ 98), .null, .null, .int (nI 0), .null, .null, .null, .int (nI 0), .null, .null, .int (nI 0)])] := Ob.put' (j := 0) hO est14 rfl
  refine ws_aload_n 63 C dX5_init_63 rfl ?_
  refine ws_bipush 64 C dX5_init_64 (nI 24) (by decide) ?_
  refine ws_newaI 66 C dX5_init_66 24 (by decide) (nI_clamp (by decide)) (by decide) k73 (Nat.le_of_ble_eq_true rfl) (Nat.le_of_ble_eq_true rfl) (wsE (fun st15 est15 => ?_))
  have hO := Ob.grow' hO est15
  have hA92 := Ob.grow' hA92 est15
  have hA93 := Ob.grow' hA93 est15
  have hA94 := Ob.grow' hA94 est15
  have hA95 := Ob.grow' hA95 est15
  have hA96 := Ob.grow' hA96 est15
  have hA97 := Ob.grow' hA97 est15
  have hA98 := Ob.grow' hA98 est15
  have hF := hF.put' est15 (show 91 ≤ 99 from by omega)
  have hA99 : Ob (100) st15 99 [.inl (kI κ, 24, .inl (fun _ => 0))] := Ob.one' est15
  refine ws_putF 68 C dX5_init_68 fX5_31 q5_8 hin rfl hO rfl (Nat.le_of_ble_eq_true rfl) rfl rfl (fun st16 est16 => ?_)
  have hA92 := hA92.ne' (L := 1) est16 rfl (by omega)
  have hA93 := hA93.ne' (L := 1) est16 rfl (by omega)
  have hA94 := hA94.ne' (L := 1) est16 rfl (by omega)
  have hA95 := hA95.ne' (L := 1) est16 rfl (by omega)
  have hA96 := hA96.ne' (L := 1) est16 rfl (by omega)
  have hA97 := hA97.ne' (L := 1) est16 rfl (by omega)
  have hA98 := hA98.ne' (L := 1) est16 rfl (by omega)
  have hA99 := hA99.ne' (L := 1) est16 rfl (by omega)
  have hF := hF.put' est16 (show 91 ≤ 91 from by omega)
  have hO : Ob _ _ _ [.inr (5, [.ref (ad κ 92), .ref (ad κ 93), .ref (ad κ 94), .int (nI 0), .ref (ad κ 95), .ref (ad κ 96), .ref (ad κ 97), .ref (ad κ 98), .ref (ad κ 99), .null, .int (nI 0), .null, .null, .null, .int (nI 0), .null, .null, .int (nI 0)])] := Ob.put' (j := 0) hO est16 rfl
  refine ws_aload_n 71 C dX5_init_71 rfl ?_
  refine ws_bipush 72 C dX5_init_72 (nI 25) (by decide) ?_
  refine ws_newaI 74 C dX5_init_74 25 (by decide) (nI_clamp (by decide)) (by decide) k73 (Nat.le_of_ble_eq_true rfl) (Nat.le_of_ble_eq_true rfl) (wsE (fun st17 est17 => ?_))
  have hO := Ob.grow' hO est17
  have hA92 := Ob.grow' hA92 est17
  have hA93 := Ob.grow' hA93 est17
  have hA94 := Ob.grow' hA94 est17
  have hA95 := Ob.grow' hA95 est17
  have hA96 := Ob.grow' hA96 est17
  have hA97 := Ob.grow' hA97 est17
  have hA98 := Ob.grow' hA98 est17
  have hA99 := Ob.grow' hA99 est17
  have hF := hF.put' est17 (show 91 ≤ 100 from by omega)
  have hA100 : Ob (101) st17 100 [.inl (kI κ, 25, .inl (fun _ => 0))] := Ob.one' est17
  refine ws_putF 76 C dX5_init_76 fX5_34 q5_9 hin rfl hO rfl (Nat.le_of_ble_eq_true rfl) rfl rfl (fun st18 est18 => ?_)
  have hA92 := hA92.ne' (L := 1) est18 rfl (by omega)
  have hA93 := hA93.ne' (L := 1) est18 rfl (by omega)
  have hA94 := hA94.ne' (L := 1) est18 rfl (by omega)
  have hA95 := hA95.ne' (L := 1) est18 rfl (by omega)
  have hA96 := hA96.ne' (L := 1) est18 rfl (by omega)
  have hA97 := hA97.ne' (L := 1) est18 rfl (by omega)
  have hA98 := hA98.ne' (L := 1) est18 rfl (by omega)
  have hA99 := hA99.ne' (L := 1) est18 rfl (by omega)
  have hA100 := hA100.ne' (L := 1) est18 rfl (by omega)
  have hF := hF.put' est18 (show 91 ≤ 91 from by omega)
  have hO : Ob _ _ _ [.inr (5, [.ref (ad κ 92), .ref (ad κ 93), .ref (ad κ 94), .int (nI 0), .ref (ad κ 95), .ref (ad κ 96), .ref (ad κ 97), .ref (ad κ 98), .ref (ad κ 99), .ref (ad κ 100), .int (nI 0), .null, .null, .null, .int (nI 0), .null, .null, .int (nI 0)])] := Ob.put' (j := 0) hO est18 rfl
  refine ws_aload_n 79 C dX5_init_79 rfl ?_
  refine ws_bipush 80 C dX5_init_80 (nI 25) (by decide) ?_
  refine ws_newaI 82 C dX5_init_82 25 (by decide) (nI_clamp (by decide)) (by decide) k73 (Nat.le_of_ble_eq_true rfl) (Nat.le_of_ble_eq_true rfl) (wsE (fun st19 est19 => ?_))
  have hO := Ob.grow' hO est19
  have hA92 := Ob.grow' hA92 est19
  have hA93 := Ob.grow' hA93 est19
  have hA94 := Ob.grow' hA94 est19
  have hA95 := Ob.grow' hA95 est19
  have hA96 := Ob.grow' hA96 est19
  have hA97 := Ob.grow' hA97 est19
  have hA98 := Ob.grow' hA98 est19
  have hA99 := Ob.grow' hA99 est19
  have hA100 := Ob.grow' hA100 est19
  have hF := hF.put' est19 (show 91 ≤ 101 from by omega)
  have hA101 : Ob (102) st19 101 [.inl (kI κ, 25, .inl (fun _ => 0))] := Ob.one' est19
  refine ws_putF 84 C dX5_init_84 fX5_37 q5_11 hin rfl hO rfl (Nat.le_of_ble_eq_true rfl) rfl rfl (fun st20 est20 => ?_)
  have hA92 := hA92.ne' (L := 1) est20 rfl (by omega)
  have hA93 := hA93.ne' (L := 1) est20 rfl (by omega)
  have hA94 := hA94.ne' (L := 1) est20 rfl (by omega)
  have hA95 := hA95.ne' (L := 1) est20 rfl (by omega)
  have hA96 := hA96.ne' (L := 1) est20 rfl (by omega)
  have hA97 := hA97.ne' (L := 1) est20 rfl (by omega)
  have hA98 := hA98.ne' (L := 1) est20 rfl (by omega)
  have hA99 := hA99.ne' (L := 1) est20 rfl (by omega)
  have hA100 := hA100.ne' (L := 1) est20 rfl (by omega)
  have hA101 := hA101.ne' (L := 1) est20 rfl (by omega)
  have hF := hF.put' est20 (show 91 ≤ 91 from by omega)
  have hO : Ob _ _ _ [.inr (5, [.ref (ad κ 92), .ref (ad κ 93), .ref (ad κ 94), .int (nI 0), .ref (ad κ 95), .ref (ad κ 96), .ref (ad κ 97), .ref (ad κ 98), .ref (ad κ 99), .ref (ad κ 100), .int (nI 0), .ref (ad κ 101), .null, .null, .int (nI 0), .null, .null, .int (nI 0)])] := Ob.put' (j := 0) hO est20 rfl
  refine ws_aload_n 87 C dX5_init_87 rfl ?_
  refine ws_bipush 88 C dX5_init_88 (nI 25) (by decide) ?_
  refine ws_newaI 90 C dX5_init_90 25 (by decide) (nI_clamp (by decide)) (by decide) k73 (Nat.le_of_ble_eq_true rfl) (Nat.le_of_ble_eq_true rfl) (wsE (fun st21 est21 => ?_))
  have hO := Ob.grow' hO est21
  have hA92 := Ob.grow' hA92 est21
  have hA93 := Ob.grow' hA93 est21
  have hA94 := Ob.grow' hA94 est21
  have hA95 := Ob.grow' hA95 est21
  have hA96 := Ob.grow' hA96 est21
  have hA97 := Ob.grow' hA97 est21
  have hA98 := Ob.grow' hA98 est21
  have hA99 := Ob.grow' hA99 est21
  have hA100 := Ob.grow' hA100 est21
  have hA101 := Ob.grow' hA101 est21
  have hF := hF.put' est21 (show 91 ≤ 102 from by omega)
  have hA102 : Ob (103) st21 102 [.inl (kI κ, 25, .inl (fun _ => 0))] := Ob.one' est21
  refine ws_putF 92 C dX5_init_92 fX5_40 q5_12 hin rfl hO rfl (Nat.le_of_ble_eq_true rfl) rfl rfl (fun st22 est22 => ?_)
  have hA92 := hA92.ne' (L := 1) est22 rfl (by omega)
  have hA93 := hA93.ne' (L := 1) est22 rfl (by omega)
  have hA94 := hA94.ne' (L := 1) est22 rfl (by omega)
  have hA95 := hA95.ne' (L := 1) est22 rfl (by omega)
  have hA96 := hA96.ne' (L := 1) est22 rfl (by omega)
  have hA97 := hA97.ne' (L := 1) est22 rfl (by omega)
  have hA98 := hA98.ne' (L := 1) est22 rfl (by omega)
  have hA99 := hA99.ne' (L := 1) est22 rfl (by omega)
  have hA100 := hA100.ne' (L := 1) est22 rfl (by omega)
  have hA101 := hA101.ne' (L := 1) est22 rfl (by omega)
  have hA102 := hA102.ne' (L := 1) est22 rfl (by omega)
  have hF := hF.put' est22 (show 91 ≤ 91 from by omega)
  have hO : Ob _ _ _ [.inr (5, [.ref (ad κ 92), .ref (ad κ 93), .ref (ad κ 94), .int (nI 0), .ref (ad κ 95), .ref (ad κ 96), .ref (ad κ 97), .ref (ad κ 98), .ref (ad κ 99), .ref (ad κ 100), .int (nI 0), .ref (ad κ 101), .ref (ad κ 102), .null, .int (nI 0), .null, .null, .int (nI 0)])] := Ob.put' (j := 0) hO est22 rfl
  refine ws_aload_n 95 C dX5_init_95 rfl ?_
  refine ws_bipush 96 C dX5_init_96 (nI 60) (by decide) ?_
  refine ws_newaI 98 C dX5_init_98 60 (by decide) (nI_clamp (by decide)) (by decide) k73 (Nat.le_of_ble_eq_true rfl) (Nat.le_of_ble_eq_true rfl) (wsE (fun st23 est23 => ?_))
  have hO := Ob.grow' hO est23
  have hA92 := Ob.grow' hA92 est23
  have hA93 := Ob.grow' hA93 est23
  have hA94 := Ob.grow' hA94 est23
  have hA95 := Ob.grow' hA95 est23
  have hA96 := Ob.grow' hA96 est23
  have hA97 := Ob.grow' hA97 est23
  have hA98 := Ob.grow' hA98 est23
  have hA99 := Ob.grow' hA99 est23
  have hA100 := Ob.grow' hA100 est23
  have hA101 := Ob.grow' hA101 est23
  have hA102 := Ob.grow' hA102 est23
  have hF := hF.put' est23 (show 91 ≤ 103 from by omega)
  have hA103 : Ob (104) st23 103 [.inl (kI κ, 60, .inl (fun _ => 0))] := Ob.one' est23
  refine ws_putF 100 C dX5_init_100 fX5_43 q5_13 hin rfl hO rfl (Nat.le_of_ble_eq_true rfl) rfl rfl (fun st24 est24 => ?_)
  have hA92 := hA92.ne' (L := 1) est24 rfl (by omega)
  have hA93 := hA93.ne' (L := 1) est24 rfl (by omega)
  have hA94 := hA94.ne' (L := 1) est24 rfl (by omega)
  have hA95 := hA95.ne' (L := 1) est24 rfl (by omega)
  have hA96 := hA96.ne' (L := 1) est24 rfl (by omega)
  have hA97 := hA97.ne' (L := 1) est24 rfl (by omega)
  have hA98 := hA98.ne' (L := 1) est24 rfl (by omega)
  have hA99 := hA99.ne' (L := 1) est24 rfl (by omega)
  have hA100 := hA100.ne' (L := 1) est24 rfl (by omega)
  have hA101 := hA101.ne' (L := 1) est24 rfl (by omega)
  have hA102 := hA102.ne' (L := 1) est24 rfl (by omega)
  have hA103 := hA103.ne' (L := 1) est24 rfl (by omega)
  have hF := hF.put' est24 (show 91 ≤ 91 from by omega)
  have hO : Ob _ _ _ [.inr (5, [.ref (ad κ 92), .ref (ad κ 93), .ref (ad κ 94), .int (nI 0), .ref (ad κ 95), .ref (ad κ 96), .ref (ad κ 97), .ref (ad κ 98), .ref (ad κ 99), .ref (ad κ 100), .int (nI 0), .ref (ad κ 101), .ref (ad κ 102), .ref (ad κ 103), .int (nI 0), .null, .null, .int (nI 0)])] := Ob.put' (j := 0) hO est24 rfl
  refine ws_aload_n 103 C dX5_init_103 rfl ?_
  refine ws_bipush 104 C dX5_init_104 (nI 31) (by decide) ?_
  refine ws_newaI 106 C dX5_init_106 31 (by decide) (nI_clamp (by decide)) (by decide) k73 (Nat.le_of_ble_eq_true rfl) (Nat.le_of_ble_eq_true rfl) (wsE (fun st25 est25 => ?_))
  have hO := Ob.grow' hO est25
  have hA92 := Ob.grow' hA92 est25
  have hA93 := Ob.grow' hA93 est25
  have hA94 := Ob.grow' hA94 est25
  have hA95 := Ob.grow' hA95 est25
  have hA96 := Ob.grow' hA96 est25
  have hA97 := Ob.grow' hA97 est25
  have hA98 := Ob.grow' hA98 est25
  have hA99 := Ob.grow' hA99 est25
  have hA100 := Ob.grow' hA100 est25
  have hA101 := Ob.grow' hA101 est25
  have hA102 := Ob.grow' hA102 est25
  have hA103 := Ob.grow' hA103 est25
  have hF := hF.put' est25 (show 91 ≤ 104 from by omega)
  have hA104 : Ob (105) st25 104 [.inl (kI κ, 31, .inl (fun _ => 0))] := Ob.one' est25
  refine ws_putF 108 C dX5_init_108 fX5_46 q5_15 hin rfl hO rfl (Nat.le_of_ble_eq_true rfl) rfl rfl (fun st26 est26 => ?_)
  have hA92 := hA92.ne' (L := 1) est26 rfl (by omega)
  have hA93 := hA93.ne' (L := 1) est26 rfl (by omega)
  have hA94 := hA94.ne' (L := 1) est26 rfl (by omega)
  have hA95 := hA95.ne' (L := 1) est26 rfl (by omega)
  have hA96 := hA96.ne' (L := 1) est26 rfl (by omega)
  have hA97 := hA97.ne' (L := 1) est26 rfl (by omega)
  have hA98 := hA98.ne' (L := 1) est26 rfl (by omega)
  have hA99 := hA99.ne' (L := 1) est26 rfl (by omega)
  have hA100 := hA100.ne' (L := 1) est26 rfl (by omega)
  have hA101 := hA101.ne' (L := 1) est26 rfl (by omega)
  have hA102 := hA102.ne' (L := 1) est26 rfl (by omega)
  have hA103 := hA103.ne' (L := 1) est26 rfl (by omega)
  have hA104 := hA104.ne' (L := 1) est26 rfl (by omega)
  have hF := hF.put' est26 (show 91 ≤ 91 from by omega)
  have hO : Ob _ _ _ [.inr (5, [.ref (ad κ 92), .ref (ad κ 93), .ref (ad κ 94), .int (nI 0), .ref (ad κ 95), .ref (ad κ 96), .ref (ad κ 97), .ref (ad κ 98), .ref (ad κ 99), .ref (ad κ 100), .int (nI 0), .ref (ad κ 101), .ref (ad κ 102), .ref (ad κ 103), .int (nI 0), .ref (ad κ 104), .null, .int (nI 0)])] := Ob.put' (j := 0) hO est26 rfl
  refine ws_aload_n 111 C dX5_init_111 rfl ?_
  refine ws_bipush 112 C dX5_init_112 (nI 31) (by decide) ?_
  refine ws_newaI 114 C dX5_init_114 31 (by decide) (nI_clamp (by decide)) (by decide) k73 (Nat.le_of_ble_eq_true rfl) (Nat.le_of_ble_eq_true rfl) (wsE (fun st27 est27 => ?_))
  have hO := Ob.grow' hO est27
  have hA92 := Ob.grow' hA92 est27
  have hA93 := Ob.grow' hA93 est27
  have hA94 := Ob.grow' hA94 est27
  have hA95 := Ob.grow' hA95 est27
  have hA96 := Ob.grow' hA96 est27
  have hA97 := Ob.grow' hA97 est27
  have hA98 := Ob.grow' hA98 est27
  have hA99 := Ob.grow' hA99 est27
  have hA100 := Ob.grow' hA100 est27
  have hA101 := Ob.grow' hA101 est27
  have hA102 := Ob.grow' hA102 est27
  have hA103 := Ob.grow' hA103 est27
  have hA104 := Ob.grow' hA104 est27
  have hF := hF.put' est27 (show 91 ≤ 105 from by omega)
  have hA105 : Ob (106) st27 105 [.inl (kI κ, 31, .inl (fun _ => 0))] := Ob.one' est27
  refine ws_putF 116 C dX5_init_116 fX5_49 q5_16 hin rfl hO rfl (Nat.le_of_ble_eq_true rfl) rfl rfl (fun st28 est28 => ?_)
  have hA92 := hA92.ne' (L := 1) est28 rfl (by omega)
  have hA93 := hA93.ne' (L := 1) est28 rfl (by omega)
  have hA94 := hA94.ne' (L := 1) est28 rfl (by omega)
  have hA95 := hA95.ne' (L := 1) est28 rfl (by omega)
  have hA96 := hA96.ne' (L := 1) est28 rfl (by omega)
  have hA97 := hA97.ne' (L := 1) est28 rfl (by omega)
  have hA98 := hA98.ne' (L := 1) est28 rfl (by omega)
  have hA99 := hA99.ne' (L := 1) est28 rfl (by omega)
  have hA100 := hA100.ne' (L := 1) est28 rfl (by omega)
  have hA101 := hA101.ne' (L := 1) est28 rfl (by omega)
  have hA102 := hA102.ne' (L := 1) est28 rfl (by omega)
  have hA103 := hA103.ne' (L := 1) est28 rfl (by omega)
  have hA104 := hA104.ne' (L := 1) est28 rfl (by omega)
  have hA105 := hA105.ne' (L := 1) est28 rfl (by omega)
  have hF := hF.put' est28 (show 91 ≤ 91 from by omega)
  have hO : Ob _ _ _ [.inr (5, [.ref (ad κ 92), .ref (ad κ 93), .ref (ad κ 94), .int (nI 0), .ref (ad κ 95), .ref (ad κ 96), .ref (ad κ 97), .ref (ad κ 98), .ref (ad κ 99), .ref (ad κ 100), .int (nI 0), .ref (ad κ 101), .ref (ad κ 102), .ref (ad κ 103), .int (nI 0), .ref (ad κ 104), .ref (ad κ 105), .int (nI 0)])] := Ob.put' (j := 0) hO est28 rfl
  refine ws_aload_n 119 C dX5_init_119 rfl ?_
  refine ws_get 120 C dX5_init_120 fX5_7 hO rfl rfl ?_
  refine ws_iconst 123 C dX5_init_123 (nI 0) (by decide) ?_
  refine ws_bipush 124 C dX5_init_124 (nI 80) (by decide) ?_
  refine ws_iast 126 C dX5_init_126 hA92 0 rfl (vp_in_nI (by decide) (by decide)) 0 (nI_clamp (by decide)) (nI 80) rfl (fun st29 est29 => ?_)
  have hO := hO.ne' (L := 1) est29 rfl (by omega)
  have hA93 := hA93.ne' (L := 1) est29 rfl (by omega)
  have hA94 := hA94.ne' (L := 1) est29 rfl (by omega)
  have hA95 := hA95.ne' (L := 1) est29 rfl (by omega)
  have hA96 := hA96.ne' (L := 1) est29 rfl (by omega)
  have hA97 := hA97.ne' (L := 1) est29 rfl (by omega)
  have hA98 := hA98.ne' (L := 1) est29 rfl (by omega)
  have hA99 := hA99.ne' (L := 1) est29 rfl (by omega)
  have hA100 := hA100.ne' (L := 1) est29 rfl (by omega)
  have hA101 := hA101.ne' (L := 1) est29 rfl (by omega)
  have hA102 := hA102.ne' (L := 1) est29 rfl (by omega)
  have hA103 := hA103.ne' (L := 1) est29 rfl (by omega)
  have hA104 := hA104.ne' (L := 1) est29 rfl (by omega)
  have hA105 := hA105.ne' (L := 1) est29 rfl (by omega)
  have hF := hF.put' est29 (show 91 ≤ 92 from by omega)
  have hA92 : Ob _ _ _ [.inl (kI κ, 293, .inl (upd (fun _ => 0) 0 (nI 80)))] := Ob.put' (j := 0) hA92 est29 rfl
  refine ws_aload_n 127 C dX5_init_127 rfl ?_
  refine ws_get 128 C dX5_init_128 fX5_7 hO rfl rfl ?_
  refine ws_iconst 131 C dX5_init_131 (nI 1) (by decide) ?_
  refine ws_bipush 132 C dX5_init_132 (nI 6) (by decide) ?_
  refine ws_iast 134 C dX5_init_134 hA92 0 rfl (vp_in_nI (by decide) (by decide)) 1 (nI_clamp (by decide)) (nI 6) rfl (fun st30 est30 => ?_)
  have hO := hO.ne' (L := 1) est30 rfl (by omega)
  have hA93 := hA93.ne' (L := 1) est30 rfl (by omega)
  have hA94 := hA94.ne' (L := 1) est30 rfl (by omega)
  have hA95 := hA95.ne' (L := 1) est30 rfl (by omega)
  have hA96 := hA96.ne' (L := 1) est30 rfl (by omega)
  have hA97 := hA97.ne' (L := 1) est30 rfl (by omega)
  have hA98 := hA98.ne' (L := 1) est30 rfl (by omega)
  have hA99 := hA99.ne' (L := 1) est30 rfl (by omega)
  have hA100 := hA100.ne' (L := 1) est30 rfl (by omega)
  have hA101 := hA101.ne' (L := 1) est30 rfl (by omega)
  have hA102 := hA102.ne' (L := 1) est30 rfl (by omega)
  have hA103 := hA103.ne' (L := 1) est30 rfl (by omega)
  have hA104 := hA104.ne' (L := 1) est30 rfl (by omega)
  have hA105 := hA105.ne' (L := 1) est30 rfl (by omega)
  have hF := hF.put' est30 (show 91 ≤ 92 from by omega)
  have hA92 : Ob _ _ _ [.inl (kI κ, 293, .inl (upd (upd (fun _ => 0) 0 (nI 80)) 1 (nI 6)))] := Ob.put' (j := 0) hA92 est30 rfl
  refine ws_aload_n 135 C dX5_init_135 rfl ?_
  refine ws_get 136 C dX5_init_136 fX5_7 hO rfl rfl ?_
  refine ws_iconst 139 C dX5_init_139 (nI 2) (by decide) ?_
  refine ws_bipush 140 C dX5_init_140 (nI 12) (by decide) ?_
  refine ws_iast 142 C dX5_init_142 hA92 0 rfl (vp_in_nI (by decide) (by decide)) 2 (nI_clamp (by decide)) (nI 12) rfl (fun st31 est31 => ?_)
  have hO := hO.ne' (L := 1) est31 rfl (by omega)
  have hA93 := hA93.ne' (L := 1) est31 rfl (by omega)
  have hA94 := hA94.ne' (L := 1) est31 rfl (by omega)
  have hA95 := hA95.ne' (L := 1) est31 rfl (by omega)
  have hA96 := hA96.ne' (L := 1) est31 rfl (by omega)
  have hA97 := hA97.ne' (L := 1) est31 rfl (by omega)
  have hA98 := hA98.ne' (L := 1) est31 rfl (by omega)
  have hA99 := hA99.ne' (L := 1) est31 rfl (by omega)
  have hA100 := hA100.ne' (L := 1) est31 rfl (by omega)
  have hA101 := hA101.ne' (L := 1) est31 rfl (by omega)
  have hA102 := hA102.ne' (L := 1) est31 rfl (by omega)
  have hA103 := hA103.ne' (L := 1) est31 rfl (by omega)
  have hA104 := hA104.ne' (L := 1) est31 rfl (by omega)
  have hA105 := hA105.ne' (L := 1) est31 rfl (by omega)
  have hF := hF.put' est31 (show 91 ≤ 92 from by omega)
  have hA92 : Ob _ _ _ [.inl (kI κ, 293, .inl (upd (upd (upd (fun _ => 0) 0 (nI 80)) 1 (nI 6)) 2 (nI 12)))] := Ob.put' (j := 0) hA92 est31 rfl
  refine ws_aload_n 143 C dX5_init_143 rfl ?_
  refine ws_get 144 C dX5_init_144 fX5_7 hO rfl rfl ?_
  refine ws_iconst 147 C dX5_init_147 (nI 3) (by decide) ?_
  refine ws_iconst 148 C dX5_init_148 (nI 1) (by decide) ?_
  refine ws_iast 149 C dX5_init_149 hA92 0 rfl (vp_in_nI (by decide) (by decide)) 3 (nI_clamp (by decide)) (nI 1) rfl (fun st32 est32 => ?_)
  have hO := hO.ne' (L := 1) est32 rfl (by omega)
  have hA93 := hA93.ne' (L := 1) est32 rfl (by omega)
  have hA94 := hA94.ne' (L := 1) est32 rfl (by omega)
  have hA95 := hA95.ne' (L := 1) est32 rfl (by omega)
  have hA96 := hA96.ne' (L := 1) est32 rfl (by omega)
  have hA97 := hA97.ne' (L := 1) est32 rfl (by omega)
  have hA98 := hA98.ne' (L := 1) est32 rfl (by omega)
  have hA99 := hA99.ne' (L := 1) est32 rfl (by omega)
  have hA100 := hA100.ne' (L := 1) est32 rfl (by omega)
  have hA101 := hA101.ne' (L := 1) est32 rfl (by omega)
  have hA102 := hA102.ne' (L := 1) est32 rfl (by omega)
  have hA103 := hA103.ne' (L := 1) est32 rfl (by omega)
  have hA104 := hA104.ne' (L := 1) est32 rfl (by omega)
  have hA105 := hA105.ne' (L := 1) est32 rfl (by omega)
  have hF := hF.put' est32 (show 91 ≤ 92 from by omega)
  have hA92 : Ob _ _ _ [.inl (kI κ, 293, .inl (upd (upd (upd (upd (fun _ => 0) 0 (nI 80)) 1 (nI 6)) 2 (nI 12)) 3 (nI 1)))] := Ob.put' (j := 0) hA92 est32 rfl
  refine ws_iconst 150 C dX5_init_150 (nI 0) (by decide) ?_
  refine ws_istore_n 151 C dX5_init_151 rfl [some (.ref (ad κ 91)), some (.int (nI 0))] rfl ?_
  refine ws_iload_n 152 C dX5_init_152 rfl ?_
  refine ws_bipush 153 C dX5_init_153 (nI 8) (by decide) ?_
  refine ws_nicmp_ge 155 C 273 dX5_init_155 (by decide) (by decide) (by decide) (fun c => ?_) (fun c => ?_)
  case refine_1 => exact absurd c (by decide)
  refine ws_aload_n 158 C dX5_init_158 rfl ?_
  refine ws_get 159 C dX5_init_159 fX5_7 hO rfl rfl ?_
  refine ws_iconst 162 C dX5_init_162 (nI 5) (by decide) ?_
  refine ws_iload_n 163 C dX5_init_163 rfl ?_
  refine ws_iadd 164 C dX5_init_164 (nI 5) (by decide) ?_
  refine ws_iload_n 165 C dX5_init_165 rfl ?_
  refine ws_nif_ne 166 C 174 dX5_init_166 (by decide) (by decide) (fun c => ?_) (fun c => ?_)
  case refine_1 => exact absurd c (by decide)
  refine ws_bipush 169 C dX5_init_169 (nI 8) (by decide) ?_
  refine ws_goto 171 C 184 dX5_init_171 (by decide) ?_
  refine ws_iast 184 C dX5_init_184 hA92 0 rfl (vp_in_nI (by decide) (by decide)) 5 (nI_clamp (by decide)) (nI 8) rfl (fun st33 est33 => ?_)
  have hO := hO.ne' (L := 1) est33 rfl (by omega)
  have hA93 := hA93.ne' (L := 1) est33 rfl (by omega)
  have hA94 := hA94.ne' (L := 1) est33 rfl (by omega)
  have hA95 := hA95.ne' (L := 1) est33 rfl (by omega)
  have hA96 := hA96.ne' (L := 1) est33 rfl (by omega)
  have hA97 := hA97.ne' (L := 1) est33 rfl (by omega)
  have hA98 := hA98.ne' (L := 1) est33 rfl (by omega)
  have hA99 := hA99.ne' (L := 1) est33 rfl (by omega)
  have hA100 := hA100.ne' (L := 1) est33 rfl (by omega)
  have hA101 := hA101.ne' (L := 1) est33 rfl (by omega)
  have hA102 := hA102.ne' (L := 1) est33 rfl (by omega)
  have hA103 := hA103.ne' (L := 1) est33 rfl (by omega)
  have hA104 := hA104.ne' (L := 1) est33 rfl (by omega)
  have hA105 := hA105.ne' (L := 1) est33 rfl (by omega)
  have hF := hF.put' est33 (show 91 ≤ 92 from by omega)
  have hA92 : Ob _ _ _ [.inl (kI κ, 293, .inl (upd (upd (upd (upd (upd (fun _ => 0) 0 (nI 80)) 1 (nI 6)) 2 (nI 12)) 3 (nI 1)) 5 (nI 8)))] := Ob.put' (j := 0) hA92 est33 rfl
  refine ws_aload_n 185 C dX5_init_185 rfl ?_
  refine ws_get 186 C dX5_init_186 fX5_7 hO rfl rfl ?_
  refine ws_bipush 189 C dX5_init_189 (nI 13) (by decide) ?_
  refine ws_iload_n 191 C dX5_init_191 rfl ?_
  refine ws_iadd 192 C dX5_init_192 (nI 13) (by decide) ?_
  refine ws_iload_n 193 C dX5_init_193 rfl ?_
  refine ws_bipush 194 C dX5_init_194 (nI 6) (by decide) ?_
  refine ws_nicmp_ne 196 C 204 dX5_init_196 (by decide) (by decide) (by decide) (fun c => ?_) (fun c => ?_)
  case refine_2 => exact absurd c (by decide)
  refine ws_iconst 204 C dX5_init_204 (nI 0) (by decide) ?_
  refine ws_iast 205 C dX5_init_205 hA92 0 rfl (vp_in_nI (by decide) (by decide)) 13 (nI_clamp (by decide)) (nI 0) rfl (fun st34 est34 => ?_)
  have hO := hO.ne' (L := 1) est34 rfl (by omega)
  have hA93 := hA93.ne' (L := 1) est34 rfl (by omega)
  have hA94 := hA94.ne' (L := 1) est34 rfl (by omega)
  have hA95 := hA95.ne' (L := 1) est34 rfl (by omega)
  have hA96 := hA96.ne' (L := 1) est34 rfl (by omega)
  have hA97 := hA97.ne' (L := 1) est34 rfl (by omega)
  have hA98 := hA98.ne' (L := 1) est34 rfl (by omega)
  have hA99 := hA99.ne' (L := 1) est34 rfl (by omega)
  have hA100 := hA100.ne' (L := 1) est34 rfl (by omega)
  have hA101 := hA101.ne' (L := 1) est34 rfl (by omega)
  have hA102 := hA102.ne' (L := 1) est34 rfl (by omega)
  have hA103 := hA103.ne' (L := 1) est34 rfl (by omega)
  have hA104 := hA104.ne' (L := 1) est34 rfl (by omega)
  have hA105 := hA105.ne' (L := 1) est34 rfl (by omega)
  have hF := hF.put' est34 (show 91 ≤ 92 from by omega)
  have hA92 : Ob _ _ _ [.inl (kI κ, 293, .inl (upd (upd (upd (upd (upd (upd (fun _ => 0) 0 (nI 80)) 1 (nI 6)) 2 (nI 12)) 3 (nI 1)) 5 (nI 8)) 13 (nI 0)))] := Ob.put' (j := 0) hA92 est34 rfl
  refine ws_aload_n 206 C dX5_init_206 rfl ?_
  refine ws_get 207 C dX5_init_207 fX5_7 hO rfl rfl ?_
  refine ws_bipush 210 C dX5_init_210 (nI 21) (by decide) ?_
  refine ws_iload_n 212 C dX5_init_212 rfl ?_
  refine ws_iadd 213 C dX5_init_213 (nI 21) (by decide) ?_
  refine ws_iload_n 214 C dX5_init_214 rfl ?_
  refine ws_iconst 215 C dX5_init_215 (nI 1) (by decide) ?_
  refine ws_nicmp_eq 216 C 224 dX5_init_216 (by decide) (by decide) (by decide) (fun c => ?_) (fun c => ?_)
  case refine_1 => exact absurd c (by decide)
  refine ws_iload_n 219 C dX5_init_219 rfl ?_
  refine ws_iconst 220 C dX5_init_220 (nI 2) (by decide) ?_
  refine ws_nicmp_ne 221 C 229 dX5_init_221 (by decide) (by decide) (by decide) (fun c => ?_) (fun c => ?_)
  case refine_2 => exact absurd c (by decide)
  refine ws_iload_n 229 C dX5_init_229 rfl ?_
  refine ws_iconst 230 C dX5_init_230 (nI 3) (by decide) ?_
  refine ws_nicmp_eq 231 C 239 dX5_init_231 (by decide) (by decide) (by decide) (fun c => ?_) (fun c => ?_)
  case refine_1 => exact absurd c (by decide)
  refine ws_iload_n 234 C dX5_init_234 rfl ?_
  refine ws_iconst 235 C dX5_init_235 (nI 4) (by decide) ?_
  refine ws_nicmp_ne 236 C 244 dX5_init_236 (by decide) (by decide) (by decide) (fun c => ?_) (fun c => ?_)
  case refine_2 => exact absurd c (by decide)
  refine ws_iload_n 244 C dX5_init_244 rfl ?_
  refine ws_iconst 245 C dX5_init_245 (nI 5) (by decide) ?_
  refine ws_nicmp_ne 246 C 254 dX5_init_246 (by decide) (by decide) (by decide) (fun c => ?_) (fun c => ?_)
  case refine_2 => exact absurd c (by decide)
  refine ws_iload_n 254 C dX5_init_254 rfl ?_
  refine ws_bipush 255 C dX5_init_255 (nI 6) (by decide) ?_
  refine ws_nicmp_ne 257 C 265 dX5_init_257 (by decide) (by decide) (by decide) (fun c => ?_) (fun c => ?_)
  case refine_2 => exact absurd c (by decide)
  refine ws_iconst 265 C dX5_init_265 (nI 0) (by decide) ?_
  refine ws_iast 266 C dX5_init_266 hA92 0 rfl (vp_in_nI (by decide) (by decide)) 21 (nI_clamp (by decide)) (nI 0) rfl (fun st35 est35 => ?_)
  have hO := hO.ne' (L := 1) est35 rfl (by omega)
  have hA93 := hA93.ne' (L := 1) est35 rfl (by omega)
  have hA94 := hA94.ne' (L := 1) est35 rfl (by omega)
  have hA95 := hA95.ne' (L := 1) est35 rfl (by omega)
  have hA96 := hA96.ne' (L := 1) est35 rfl (by omega)
  have hA97 := hA97.ne' (L := 1) est35 rfl (by omega)
  have hA98 := hA98.ne' (L := 1) est35 rfl (by omega)
  have hA99 := hA99.ne' (L := 1) est35 rfl (by omega)
  have hA100 := hA100.ne' (L := 1) est35 rfl (by omega)
  have hA101 := hA101.ne' (L := 1) est35 rfl (by omega)
  have hA102 := hA102.ne' (L := 1) est35 rfl (by omega)
  have hA103 := hA103.ne' (L := 1) est35 rfl (by omega)
  have hA104 := hA104.ne' (L := 1) est35 rfl (by omega)
  have hA105 := hA105.ne' (L := 1) est35 rfl (by omega)
  have hF := hF.put' est35 (show 91 ≤ 92 from by omega)
  have hA92 : Ob _ _ _ [.inl (kI κ, 293, .inl (upd (upd (upd (upd (upd (upd (upd (fun _ => 0) 0 (nI 80)) 1 (nI 6)) 2 (nI 12)) 3 (nI 1)) 5 (nI 8)) 13 (nI 0)) 21 (nI 0)))] := Ob.put' (j := 0) hA92 est35 rfl
  refine ws_iinc 267 C dX5_init_267 rfl (nI 1) (by decide) rfl [some (.ref (ad κ 91)), some (.int (nI 1))] rfl ?_
  refine ws_goto 270 C 152 dX5_init_270 (by decide) ?_
  refine ws_iload_n 152 C dX5_init_152 rfl ?_
  refine ws_bipush 153 C dX5_init_153 (nI 8) (by decide) ?_
  refine ws_nicmp_ge 155 C 273 dX5_init_155 (by decide) (by decide) (by decide) (fun c => ?_) (fun c => ?_)
  case refine_1 => exact absurd c (by decide)
  refine ws_aload_n 158 C dX5_init_158 rfl ?_
  refine ws_get 159 C dX5_init_159 fX5_7 hO rfl rfl ?_
  refine ws_iconst 162 C dX5_init_162 (nI 5) (by decide) ?_
  refine ws_iload_n 163 C dX5_init_163 rfl ?_
  refine ws_iadd 164 C dX5_init_164 (nI 6) (by decide) ?_
  refine ws_iload_n 165 C dX5_init_165 rfl ?_
  refine ws_nif_ne 166 C 174 dX5_init_166 (by decide) (by decide) (fun c => ?_) (fun c => ?_)
  case refine_2 => exact absurd c (by decide)
  refine ws_iload_n 174 C dX5_init_174 rfl ?_
  refine ws_iconst 175 C dX5_init_175 (nI 5) (by decide) ?_
  refine ws_nicmp_ne 176 C 183 dX5_init_176 (by decide) (by decide) (by decide) (fun c => ?_) (fun c => ?_)
  case refine_2 => exact absurd c (by decide)
  refine ws_iconst 183 C dX5_init_183 (nI 3) (by decide) ?_
  refine ws_iast 184 C dX5_init_184 hA92 0 rfl (vp_in_nI (by decide) (by decide)) 6 (nI_clamp (by decide)) (nI 3) rfl (fun st36 est36 => ?_)
  have hO := hO.ne' (L := 1) est36 rfl (by omega)
  have hA93 := hA93.ne' (L := 1) est36 rfl (by omega)
  have hA94 := hA94.ne' (L := 1) est36 rfl (by omega)
  have hA95 := hA95.ne' (L := 1) est36 rfl (by omega)
  have hA96 := hA96.ne' (L := 1) est36 rfl (by omega)
  have hA97 := hA97.ne' (L := 1) est36 rfl (by omega)
  have hA98 := hA98.ne' (L := 1) est36 rfl (by omega)
  have hA99 := hA99.ne' (L := 1) est36 rfl (by omega)
  have hA100 := hA100.ne' (L := 1) est36 rfl (by omega)
  have hA101 := hA101.ne' (L := 1) est36 rfl (by omega)
  have hA102 := hA102.ne' (L := 1) est36 rfl (by omega)
  have hA103 := hA103.ne' (L := 1) est36 rfl (by omega)
  have hA104 := hA104.ne' (L := 1) est36 rfl (by omega)
  have hA105 := hA105.ne' (L := 1) est36 rfl (by omega)
  have hF := hF.put' est36 (show 91 ≤ 92 from by omega)
  have hA92 : Ob _ _ _ [.inl (kI κ, 293, .inl (upd (upd (upd (upd (upd (upd (upd (upd (fun _ => 0) 0 (nI 80)) 1 (nI 6)) 2 (nI 12)) 3 (nI 1)) 5 (nI 8)) 13 (nI 0)) 21 (nI 0)) 6 (nI 3)))] := Ob.put' (j := 0) hA92 est36 rfl
  refine ws_aload_n 185 C dX5_init_185 rfl ?_
  refine ws_get 186 C dX5_init_186 fX5_7 hO rfl rfl ?_
  refine ws_bipush 189 C dX5_init_189 (nI 13) (by decide) ?_
  refine ws_iload_n 191 C dX5_init_191 rfl ?_
  refine ws_iadd 192 C dX5_init_192 (nI 14) (by decide) ?_
  refine ws_iload_n 193 C dX5_init_193 rfl ?_
  refine ws_bipush 194 C dX5_init_194 (nI 6) (by decide) ?_
  refine ws_nicmp_ne 196 C 204 dX5_init_196 (by decide) (by decide) (by decide) (fun c => ?_) (fun c => ?_)
  case refine_2 => exact absurd c (by decide)
  refine ws_iconst 204 C dX5_init_204 (nI 0) (by decide) ?_
  refine ws_iast 205 C dX5_init_205 hA92 0 rfl (vp_in_nI (by decide) (by decide)) 14 (nI_clamp (by decide)) (nI 0) rfl (fun st37 est37 => ?_)
  have hO := hO.ne' (L := 1) est37 rfl (by omega)
  have hA93 := hA93.ne' (L := 1) est37 rfl (by omega)
  have hA94 := hA94.ne' (L := 1) est37 rfl (by omega)
  have hA95 := hA95.ne' (L := 1) est37 rfl (by omega)
  have hA96 := hA96.ne' (L := 1) est37 rfl (by omega)
  have hA97 := hA97.ne' (L := 1) est37 rfl (by omega)
  have hA98 := hA98.ne' (L := 1) est37 rfl (by omega)
  have hA99 := hA99.ne' (L := 1) est37 rfl (by omega)
  have hA100 := hA100.ne' (L := 1) est37 rfl (by omega)
  have hA101 := hA101.ne' (L := 1) est37 rfl (by omega)
  have hA102 := hA102.ne' (L := 1) est37 rfl (by omega)
  have hA103 := hA103.ne' (L := 1) est37 rfl (by omega)
  have hA104 := hA104.ne' (L := 1) est37 rfl (by omega)
  have hA105 := hA105.ne' (L := 1) est37 rfl (by omega)
  have hF := hF.put' est37 (show 91 ≤ 92 from by omega)
  have hA92 : Ob _ _ _ [.inl (kI κ, 293, .inl (upd (upd (upd (upd (upd (upd (upd (upd (upd (fun _ => 0) 0 (nI 80)) 1 (nI 6)) 2 (nI 12)) 3 (nI 1)) 5 (nI 8)) 13 (nI 0)) 21 (nI 0)) 6 (nI 3)) 14 (nI 0)))] := Ob.put' (j := 0) hA92 est37 rfl
  refine ws_aload_n 206 C dX5_init_206 rfl ?_
  refine ws_get 207 C dX5_init_207 fX5_7 hO rfl rfl ?_
  refine ws_bipush 210 C dX5_init_210 (nI 21) (by decide) ?_
  refine ws_iload_n 212 C dX5_init_212 rfl ?_
  refine ws_iadd 213 C dX5_init_213 (nI 22) (by decide) ?_
  refine ws_iload_n 214 C dX5_init_214 rfl ?_
  refine ws_iconst 215 C dX5_init_215 (nI 1) (by decide) ?_
  refine ws_nicmp_eq 216 C 224 dX5_init_216 (by decide) (by decide) (by decide) (fun c => ?_) (fun c => ?_)
  case refine_2 => exact absurd c (by decide)
  refine ws_bipush 224 C dX5_init_224 (nI 100) (by decide) ?_
  refine ws_goto 226 C 266 dX5_init_226 (by decide) ?_
  refine ws_iast 266 C dX5_init_266 hA92 0 rfl (vp_in_nI (by decide) (by decide)) 22 (nI_clamp (by decide)) (nI 100) rfl (fun st38 est38 => ?_)
  have hO := hO.ne' (L := 1) est38 rfl (by omega)
  have hA93 := hA93.ne' (L := 1) est38 rfl (by omega)
  have hA94 := hA94.ne' (L := 1) est38 rfl (by omega)
  have hA95 := hA95.ne' (L := 1) est38 rfl (by omega)
  have hA96 := hA96.ne' (L := 1) est38 rfl (by omega)
  have hA97 := hA97.ne' (L := 1) est38 rfl (by omega)
  have hA98 := hA98.ne' (L := 1) est38 rfl (by omega)
  have hA99 := hA99.ne' (L := 1) est38 rfl (by omega)
  have hA100 := hA100.ne' (L := 1) est38 rfl (by omega)
  have hA101 := hA101.ne' (L := 1) est38 rfl (by omega)
  have hA102 := hA102.ne' (L := 1) est38 rfl (by omega)
  have hA103 := hA103.ne' (L := 1) est38 rfl (by omega)
  have hA104 := hA104.ne' (L := 1) est38 rfl (by omega)
  have hA105 := hA105.ne' (L := 1) est38 rfl (by omega)
  have hF := hF.put' est38 (show 91 ≤ 92 from by omega)
  have hA92 : Ob _ _ _ [.inl (kI κ, 293, .inl (upd (upd (upd (upd (upd (upd (upd (upd (upd (upd (fun _ => 0) 0 (nI 80)) 1 (nI 6)) 2 (nI 12)) 3 (nI 1)) 5 (nI 8)) 13 (nI 0)) 21 (nI 0)) 6 (nI 3)) 14 (nI 0)) 22 (nI 100)))] := Ob.put' (j := 0) hA92 est38 rfl
  refine ws_iinc 267 C dX5_init_267 rfl (nI 2) (by decide) rfl [some (.ref (ad κ 91)), some (.int (nI 2))] rfl ?_
  refine ws_goto 270 C 152 dX5_init_270 (by decide) ?_
  refine ws_iload_n 152 C dX5_init_152 rfl ?_
  refine ws_bipush 153 C dX5_init_153 (nI 8) (by decide) ?_
  refine ws_nicmp_ge 155 C 273 dX5_init_155 (by decide) (by decide) (by decide) (fun c => ?_) (fun c => ?_)
  case refine_1 => exact absurd c (by decide)
  refine ws_aload_n 158 C dX5_init_158 rfl ?_
  refine ws_get 159 C dX5_init_159 fX5_7 hO rfl rfl ?_
  refine ws_iconst 162 C dX5_init_162 (nI 5) (by decide) ?_
  refine ws_iload_n 163 C dX5_init_163 rfl ?_
  refine ws_iadd 164 C dX5_init_164 (nI 7) (by decide) ?_
  refine ws_iload_n 165 C dX5_init_165 rfl ?_
  refine ws_nif_ne 166 C 174 dX5_init_166 (by decide) (by decide) (fun c => ?_) (fun c => ?_)
  case refine_2 => exact absurd c (by decide)
  refine ws_iload_n 174 C dX5_init_174 rfl ?_
  refine ws_iconst 175 C dX5_init_175 (nI 5) (by decide) ?_
  refine ws_nicmp_ne 176 C 183 dX5_init_176 (by decide) (by decide) (by decide) (fun c => ?_) (fun c => ?_)
  case refine_2 => exact absurd c (by decide)
  refine ws_iconst 183 C dX5_init_183 (nI 3) (by decide) ?_
  refine ws_iast 184 C dX5_init_184 hA92 0 rfl (vp_in_nI (by decide) (by decide)) 7 (nI_clamp (by decide)) (nI 3) rfl (fun st39 est39 => ?_)
  have hO := hO.ne' (L := 1) est39 rfl (by omega)
  have hA93 := hA93.ne' (L := 1) est39 rfl (by omega)
  have hA94 := hA94.ne' (L := 1) est39 rfl (by omega)
  have hA95 := hA95.ne' (L := 1) est39 rfl (by omega)
  have hA96 := hA96.ne' (L := 1) est39 rfl (by omega)
  have hA97 := hA97.ne' (L := 1) est39 rfl (by omega)
  have hA98 := hA98.ne' (L := 1) est39 rfl (by omega)
  have hA99 := hA99.ne' (L := 1) est39 rfl (by omega)
  have hA100 := hA100.ne' (L := 1) est39 rfl (by omega)
  have hA101 := hA101.ne' (L := 1) est39 rfl (by omega)
  have hA102 := hA102.ne' (L := 1) est39 rfl (by omega)
  have hA103 := hA103.ne' (L := 1) est39 rfl (by omega)
  have hA104 := hA104.ne' (L := 1) est39 rfl (by omega)
  have hA105 := hA105.ne' (L := 1) est39 rfl (by omega)
  have hF := hF.put' est39 (show 91 ≤ 92 from by omega)
  have hA92 : Ob _ _ _ [.inl (kI κ, 293, .inl (upd (upd (upd (upd (upd (upd (upd (upd (upd (upd (upd (fun _ => 0) 0 (nI 80)) 1 (nI 6)) 2 (nI 12)) 3 (nI 1)) 5 (nI 8)) 13 (nI 0)) 21 (nI 0)) 6 (nI 3)) 14 (nI 0)) 22 (nI 100)) 7 (nI 3)))] := Ob.put' (j := 0) hA92 est39 rfl
  refine ws_aload_n 185 C dX5_init_185 rfl ?_
  refine ws_get 186 C dX5_init_186 fX5_7 hO rfl rfl ?_
  refine ws_bipush 189 C dX5_init_189 (nI 13) (by decide) ?_
  refine ws_iload_n 191 C dX5_init_191 rfl ?_
  refine ws_iadd 192 C dX5_init_192 (nI 15) (by decide) ?_
  refine ws_iload_n 193 C dX5_init_193 rfl ?_
  refine ws_bipush 194 C dX5_init_194 (nI 6) (by decide) ?_
  refine ws_nicmp_ne 196 C 204 dX5_init_196 (by decide) (by decide) (by decide) (fun c => ?_) (fun c => ?_)
  case refine_2 => exact absurd c (by decide)
  refine ws_iconst 204 C dX5_init_204 (nI 0) (by decide) ?_
  refine ws_iast 205 C dX5_init_205 hA92 0 rfl (vp_in_nI (by decide) (by decide)) 15 (nI_clamp (by decide)) (nI 0) rfl (fun st40 est40 => ?_)
  have hO := hO.ne' (L := 1) est40 rfl (by omega)
  have hA93 := hA93.ne' (L := 1) est40 rfl (by omega)
  have hA94 := hA94.ne' (L := 1) est40 rfl (by omega)
  have hA95 := hA95.ne' (L := 1) est40 rfl (by omega)
  have hA96 := hA96.ne' (L := 1) est40 rfl (by omega)
  have hA97 := hA97.ne' (L := 1) est40 rfl (by omega)
  have hA98 := hA98.ne' (L := 1) est40 rfl (by omega)
  have hA99 := hA99.ne' (L := 1) est40 rfl (by omega)
  have hA100 := hA100.ne' (L := 1) est40 rfl (by omega)
  have hA101 := hA101.ne' (L := 1) est40 rfl (by omega)
  have hA102 := hA102.ne' (L := 1) est40 rfl (by omega)
  have hA103 := hA103.ne' (L := 1) est40 rfl (by omega)
  have hA104 := hA104.ne' (L := 1) est40 rfl (by omega)
  have hA105 := hA105.ne' (L := 1) est40 rfl (by omega)
  have hF := hF.put' est40 (show 91 ≤ 92 from by omega)
  have hA92 : Ob _ _ _ [.inl (kI κ, 293, .inl (upd (upd (upd (upd (upd (upd (upd (upd (upd (upd (upd (upd (fun _ => 0) 0 (nI 80)) 1 (nI 6)) 2 (nI 12)) 3 (nI 1)) 5 (nI 8)) 13 (nI 0)) 21 (nI 0)) 6 (nI 3)) 14 (nI 0)) 22 (nI 100)) 7 (nI 3)) 15 (nI 0)))] := Ob.put' (j := 0) hA92 est40 rfl
  refine ws_aload_n 206 C dX5_init_206 rfl ?_
  refine ws_get 207 C dX5_init_207 fX5_7 hO rfl rfl ?_
  refine ws_bipush 210 C dX5_init_210 (nI 21) (by decide) ?_
  refine ws_iload_n 212 C dX5_init_212 rfl ?_
  refine ws_iadd 213 C dX5_init_213 (nI 23) (by decide) ?_
  refine ws_iload_n 214 C dX5_init_214 rfl ?_
  refine ws_iconst 215 C dX5_init_215 (nI 1) (by decide) ?_
  refine ws_nicmp_eq 216 C 224 dX5_init_216 (by decide) (by decide) (by decide) (fun c => ?_) (fun c => ?_)
  case refine_1 => exact absurd c (by decide)
  refine ws_iload_n 219 C dX5_init_219 rfl ?_
  refine ws_iconst 220 C dX5_init_220 (nI 2) (by decide) ?_
  refine ws_nicmp_ne 221 C 229 dX5_init_221 (by decide) (by decide) (by decide) (fun c => ?_) (fun c => ?_)
  case refine_1 => exact absurd c (by decide)
  refine ws_bipush 224 C dX5_init_224 (nI 100) (by decide) ?_
  refine ws_goto 226 C 266 dX5_init_226 (by decide) ?_
  refine ws_iast 266 C dX5_init_266 hA92 0 rfl (vp_in_nI (by decide) (by decide)) 23 (nI_clamp (by decide)) (nI 100) rfl (fun st41 est41 => ?_)
  have hO := hO.ne' (L := 1) est41 rfl (by omega)
  have hA93 := hA93.ne' (L := 1) est41 rfl (by omega)
  have hA94 := hA94.ne' (L := 1) est41 rfl (by omega)
  have hA95 := hA95.ne' (L := 1) est41 rfl (by omega)
  have hA96 := hA96.ne' (L := 1) est41 rfl (by omega)
  have hA97 := hA97.ne' (L := 1) est41 rfl (by omega)
  have hA98 := hA98.ne' (L := 1) est41 rfl (by omega)
  have hA99 := hA99.ne' (L := 1) est41 rfl (by omega)
  have hA100 := hA100.ne' (L := 1) est41 rfl (by omega)
  have hA101 := hA101.ne' (L := 1) est41 rfl (by omega)
  have hA102 := hA102.ne' (L := 1) est41 rfl (by omega)
  have hA103 := hA103.ne' (L := 1) est41 rfl (by omega)
  have hA104 := hA104.ne' (L := 1) est41 rfl (by omega)
  have hA105 := hA105.ne' (L := 1) est41 rfl (by omega)
  have hF := hF.put' est41 (show 91 ≤ 92 from by omega)
  have hA92 : Ob _ _ _ [.inl (kI κ, 293, .inl (upd (upd (upd (upd (upd (upd (upd (upd (upd (upd (upd (upd (upd (fun _ => 0) 0 (nI 80)) 1 (nI 6)) 2 (nI 12)) 3 (nI 1)) 5 (nI 8)) 13 (nI 0)) 21 (nI 0)) 6 (nI 3)) 14 (nI 0)) 22 (nI 100)) 7 (nI 3)) 15 (nI 0)) 23 (nI 100)))] := Ob.put' (j := 0) hA92 est41 rfl
  refine ws_iinc 267 C dX5_init_267 rfl (nI 3) (by decide) rfl [some (.ref (ad κ 91)), some (.int (nI 3))] rfl ?_
  refine ws_goto 270 C 152 dX5_init_270 (by decide) ?_
  refine ws_iload_n 152 C dX5_init_152 rfl ?_
  refine ws_bipush 153 C dX5_init_153 (nI 8) (by decide) ?_
  refine ws_nicmp_ge 155 C 273 dX5_init_155 (by decide) (by decide) (by decide) (fun c => ?_) (fun c => ?_)
  case refine_1 => exact absurd c (by decide)
  refine ws_aload_n 158 C dX5_init_158 rfl ?_
  refine ws_get 159 C dX5_init_159 fX5_7 hO rfl rfl ?_
  refine ws_iconst 162 C dX5_init_162 (nI 5) (by decide) ?_
  refine ws_iload_n 163 C dX5_init_163 rfl ?_
  refine ws_iadd 164 C dX5_init_164 (nI 8) (by decide) ?_
  refine ws_iload_n 165 C dX5_init_165 rfl ?_
  refine ws_nif_ne 166 C 174 dX5_init_166 (by decide) (by decide) (fun c => ?_) (fun c => ?_)
  case refine_2 => exact absurd c (by decide)
  refine ws_iload_n 174 C dX5_init_174 rfl ?_
  refine ws_iconst 175 C dX5_init_175 (nI 5) (by decide) ?_
  refine ws_nicmp_ne 176 C 183 dX5_init_176 (by decide) (by decide) (by decide) (fun c => ?_) (fun c => ?_)
  case refine_2 => exact absurd c (by decide)
  refine ws_iconst 183 C dX5_init_183 (nI 3) (by decide) ?_
  refine ws_iast 184 C dX5_init_184 hA92 0 rfl (vp_in_nI (by decide) (by decide)) 8 (nI_clamp (by decide)) (nI 3) rfl (fun st42 est42 => ?_)
  have hO := hO.ne' (L := 1) est42 rfl (by omega)
  have hA93 := hA93.ne' (L := 1) est42 rfl (by omega)
  have hA94 := hA94.ne' (L := 1) est42 rfl (by omega)
  have hA95 := hA95.ne' (L := 1) est42 rfl (by omega)
  have hA96 := hA96.ne' (L := 1) est42 rfl (by omega)
  have hA97 := hA97.ne' (L := 1) est42 rfl (by omega)
  have hA98 := hA98.ne' (L := 1) est42 rfl (by omega)
  have hA99 := hA99.ne' (L := 1) est42 rfl (by omega)
  have hA100 := hA100.ne' (L := 1) est42 rfl (by omega)
  have hA101 := hA101.ne' (L := 1) est42 rfl (by omega)
  have hA102 := hA102.ne' (L := 1) est42 rfl (by omega)
  have hA103 := hA103.ne' (L := 1) est42 rfl (by omega)
  have hA104 := hA104.ne' (L := 1) est42 rfl (by omega)
  have hA105 := hA105.ne' (L := 1) est42 rfl (by omega)
  have hF := hF.put' est42 (show 91 ≤ 92 from by omega)
  have hA92 : Ob _ _ _ [.inl (kI κ, 293, .inl (upd (upd (upd (upd (upd (upd (upd (upd (upd (upd (upd (upd (upd (upd (fun _ => 0) 0 (nI 80)) 1 (nI 6)) 2 (nI 12)) 3 (nI 1)) 5 (nI 8)) 13 (nI 0)) 21 (nI 0)) 6 (nI 3)) 14 (nI 0)) 22 (nI 100)) 7 (nI 3)) 15 (nI 0)) 23 (nI 100)) 8 (nI 3)))] := Ob.put' (j := 0) hA92 est42 rfl
  refine ws_aload_n 185 C dX5_init_185 rfl ?_
  refine ws_get 186 C dX5_init_186 fX5_7 hO rfl rfl ?_
  refine ws_bipush 189 C dX5_init_189 (nI 13) (by decide) ?_
  refine ws_iload_n 191 C dX5_init_191 rfl ?_
  refine ws_iadd 192 C dX5_init_192 (nI 16) (by decide) ?_
  refine ws_iload_n 193 C dX5_init_193 rfl ?_
  refine ws_bipush 194 C dX5_init_194 (nI 6) (by decide) ?_
  refine ws_nicmp_ne 196 C 204 dX5_init_196 (by decide) (by decide) (by decide) (fun c => ?_) (fun c => ?_)
  case refine_2 => exact absurd c (by decide)
  refine ws_iconst 204 C dX5_init_204 (nI 0) (by decide) ?_
  refine ws_iast 205 C dX5_init_205 hA92 0 rfl (vp_in_nI (by decide) (by decide)) 16 (nI_clamp (by decide)) (nI 0) rfl (fun st43 est43 => ?_)
  have hO := hO.ne' (L := 1) est43 rfl (by omega)
  have hA93 := hA93.ne' (L := 1) est43 rfl (by omega)
  have hA94 := hA94.ne' (L := 1) est43 rfl (by omega)
  have hA95 := hA95.ne' (L := 1) est43 rfl (by omega)
  have hA96 := hA96.ne' (L := 1) est43 rfl (by omega)
  have hA97 := hA97.ne' (L := 1) est43 rfl (by omega)
  have hA98 := hA98.ne' (L := 1) est43 rfl (by omega)
  have hA99 := hA99.ne' (L := 1) est43 rfl (by omega)
  have hA100 := hA100.ne' (L := 1) est43 rfl (by omega)
  have hA101 := hA101.ne' (L := 1) est43 rfl (by omega)
  have hA102 := hA102.ne' (L := 1) est43 rfl (by omega)
  have hA103 := hA103.ne' (L := 1) est43 rfl (by omega)
  have hA104 := hA104.ne' (L := 1) est43 rfl (by omega)
  have hA105 := hA105.ne' (L := 1) est43 rfl (by omega)
  have hF := hF.put' est43 (show 91 ≤ 92 from by omega)
  have hA92 : Ob _ _ _ [.inl (kI κ, 293, .inl (upd (upd (upd (upd (upd (upd (upd (upd (upd (upd (upd (upd (upd (upd (upd (fun _ => 0) 0 (nI 80)) 1 (nI 6)) 2 (nI 12)) 3 (nI 1)) 5 (nI 8)) 13 (nI 0)) 21 (nI 0)) 6 (nI 3)) 14 (nI 0)) 22 (nI 100)) 7 (nI 3)) 15 (nI 0)) 23 (nI 100)) 8 (nI 3)) 16 (nI 0)))] := Ob.put' (j := 0) hA92 est43 rfl
  refine ws_aload_n 206 C dX5_init_206 rfl ?_
  refine ws_get 207 C dX5_init_207 fX5_7 hO rfl rfl ?_
  refine ws_bipush 210 C dX5_init_210 (nI 21) (by decide) ?_
  refine ws_iload_n 212 C dX5_init_212 rfl ?_
  refine ws_iadd 213 C dX5_init_213 (nI 24) (by decide) ?_
  refine ws_iload_n 214 C dX5_init_214 rfl ?_
  refine ws_iconst 215 C dX5_init_215 (nI 1) (by decide) ?_
  refine ws_nicmp_eq 216 C 224 dX5_init_216 (by decide) (by decide) (by decide) (fun c => ?_) (fun c => ?_)
  case refine_1 => exact absurd c (by decide)
  refine ws_iload_n 219 C dX5_init_219 rfl ?_
  refine ws_iconst 220 C dX5_init_220 (nI 2) (by decide) ?_
  refine ws_nicmp_ne 221 C 229 dX5_init_221 (by decide) (by decide) (by decide) (fun c => ?_) (fun c => ?_)
  case refine_2 => exact absurd c (by decide)
  refine ws_iload_n 229 C dX5_init_229 rfl ?_
  refine ws_iconst 230 C dX5_init_230 (nI 3) (by decide) ?_
  refine ws_nicmp_eq 231 C 239 dX5_init_231 (by decide) (by decide) (by decide) (fun c => ?_) (fun c => ?_)
  case refine_2 => exact absurd c (by decide)
  refine ws_bipush 239 C dX5_init_239 (nI 50) (by decide) ?_
  refine ws_goto 241 C 266 dX5_init_241 (by decide) ?_
  refine ws_iast 266 C dX5_init_266 hA92 0 rfl (vp_in_nI (by decide) (by decide)) 24 (nI_clamp (by decide)) (nI 50) rfl (fun st44 est44 => ?_)
  have hO := hO.ne' (L := 1) est44 rfl (by omega)
  have hA93 := hA93.ne' (L := 1) est44 rfl (by omega)
  have hA94 := hA94.ne' (L := 1) est44 rfl (by omega)
  have hA95 := hA95.ne' (L := 1) est44 rfl (by omega)
  have hA96 := hA96.ne' (L := 1) est44 rfl (by omega)
  have hA97 := hA97.ne' (L := 1) est44 rfl (by omega)
  have hA98 := hA98.ne' (L := 1) est44 rfl (by omega)
  have hA99 := hA99.ne' (L := 1) est44 rfl (by omega)
  have hA100 := hA100.ne' (L := 1) est44 rfl (by omega)
  have hA101 := hA101.ne' (L := 1) est44 rfl (by omega)
  have hA102 := hA102.ne' (L := 1) est44 rfl (by omega)
  have hA103 := hA103.ne' (L := 1) est44 rfl (by omega)
  have hA104 := hA104.ne' (L := 1) est44 rfl (by omega)
  have hA105 := hA105.ne' (L := 1) est44 rfl (by omega)
  have hF := hF.put' est44 (show 91 ≤ 92 from by omega)
  have hA92 : Ob _ _ _ [.inl (kI κ, 293, .inl (upd (upd (upd (upd (upd (upd (upd (upd (upd (upd (upd (upd (upd (upd (upd (upd (fun _ => 0) 0 (nI 80)) 1 (nI 6)) 2 (nI 12)) 3 (nI 1)) 5 (nI 8)) 13 (nI 0)) 21 (nI 0)) 6 (nI 3)) 14 (nI 0)) 22 (nI 100)) 7 (nI 3)) 15 (nI 0)) 23 (nI 100)) 8 (nI 3)) 16 (nI 0)) 24 (nI 50)))] := Ob.put' (j := 0) hA92 est44 rfl
  refine ws_iinc 267 C dX5_init_267 rfl (nI 4) (by decide) rfl [some (.ref (ad κ 91)), some (.int (nI 4))] rfl ?_
  refine ws_goto 270 C 152 dX5_init_270 (by decide) ?_
  refine ws_iload_n 152 C dX5_init_152 rfl ?_
  refine ws_bipush 153 C dX5_init_153 (nI 8) (by decide) ?_
  refine ws_nicmp_ge 155 C 273 dX5_init_155 (by decide) (by decide) (by decide) (fun c => ?_) (fun c => ?_)
  case refine_1 => exact absurd c (by decide)
  refine ws_aload_n 158 C dX5_init_158 rfl ?_
  refine ws_get 159 C dX5_init_159 fX5_7 hO rfl rfl ?_
  refine ws_iconst 162 C dX5_init_162 (nI 5) (by decide) ?_
  refine ws_iload_n 163 C dX5_init_163 rfl ?_
  refine ws_iadd 164 C dX5_init_164 (nI 9) (by decide) ?_
  refine ws_iload_n 165 C dX5_init_165 rfl ?_
  refine ws_nif_ne 166 C 174 dX5_init_166 (by decide) (by decide) (fun c => ?_) (fun c => ?_)
  case refine_2 => exact absurd c (by decide)
  refine ws_iload_n 174 C dX5_init_174 rfl ?_
  refine ws_iconst 175 C dX5_init_175 (nI 5) (by decide) ?_
  refine ws_nicmp_ne 176 C 183 dX5_init_176 (by decide) (by decide) (by decide) (fun c => ?_) (fun c => ?_)
  case refine_2 => exact absurd c (by decide)
  refine ws_iconst 183 C dX5_init_183 (nI 3) (by decide) ?_
  refine ws_iast 184 C dX5_init_184 hA92 0 rfl (vp_in_nI (by decide) (by decide)) 9 (nI_clamp (by decide)) (nI 3) rfl (fun st45 est45 => ?_)
  have hO := hO.ne' (L := 1) est45 rfl (by omega)
  have hA93 := hA93.ne' (L := 1) est45 rfl (by omega)
  have hA94 := hA94.ne' (L := 1) est45 rfl (by omega)
  have hA95 := hA95.ne' (L := 1) est45 rfl (by omega)
  have hA96 := hA96.ne' (L := 1) est45 rfl (by omega)
  have hA97 := hA97.ne' (L := 1) est45 rfl (by omega)
  have hA98 := hA98.ne' (L := 1) est45 rfl (by omega)
  have hA99 := hA99.ne' (L := 1) est45 rfl (by omega)
  have hA100 := hA100.ne' (L := 1) est45 rfl (by omega)
  have hA101 := hA101.ne' (L := 1) est45 rfl (by omega)
  have hA102 := hA102.ne' (L := 1) est45 rfl (by omega)
  have hA103 := hA103.ne' (L := 1) est45 rfl (by omega)
  have hA104 := hA104.ne' (L := 1) est45 rfl (by omega)
  have hA105 := hA105.ne' (L := 1) est45 rfl (by omega)
  have hF := hF.put' est45 (show 91 ≤ 92 from by omega)
  have hA92 : Ob _ _ _ [.inl (kI κ, 293, .inl (upd (upd (upd (upd (upd (upd (upd (upd (upd (upd (upd (upd (upd (upd (upd (upd (upd (fun _ => 0) 0 (nI 80)) 1 (nI 6)) 2 (nI 12)) 3 (nI 1)) 5 (nI 8)) 13 (nI 0)) 21 (nI 0)) 6 (nI 3)) 14 (nI 0)) 22 (nI 100)) 7 (nI 3)) 15 (nI 0)) 23 (nI 100)) 8 (nI 3)) 16 (nI 0)) 24 (nI 50)) 9 (nI 3)))] := Ob.put' (j := 0) hA92 est45 rfl
  refine ws_aload_n 185 C dX5_init_185 rfl ?_
  refine ws_get 186 C dX5_init_186 fX5_7 hO rfl rfl ?_
  refine ws_bipush 189 C dX5_init_189 (nI 13) (by decide) ?_
  refine ws_iload_n 191 C dX5_init_191 rfl ?_
  refine ws_iadd 192 C dX5_init_192 (nI 17) (by decide) ?_
  refine ws_iload_n 193 C dX5_init_193 rfl ?_
  refine ws_bipush 194 C dX5_init_194 (nI 6) (by decide) ?_
  refine ws_nicmp_ne 196 C 204 dX5_init_196 (by decide) (by decide) (by decide) (fun c => ?_) (fun c => ?_)
  case refine_2 => exact absurd c (by decide)
  refine ws_iconst 204 C dX5_init_204 (nI 0) (by decide) ?_
  refine ws_iast 205 C dX5_init_205 hA92 0 rfl (vp_in_nI (by decide) (by decide)) 17 (nI_clamp (by decide)) (nI 0) rfl (fun st46 est46 => ?_)
  have hO := hO.ne' (L := 1) est46 rfl (by omega)
  have hA93 := hA93.ne' (L := 1) est46 rfl (by omega)
  have hA94 := hA94.ne' (L := 1) est46 rfl (by omega)
  have hA95 := hA95.ne' (L := 1) est46 rfl (by omega)
  have hA96 := hA96.ne' (L := 1) est46 rfl (by omega)
  have hA97 := hA97.ne' (L := 1) est46 rfl (by omega)
  have hA98 := hA98.ne' (L := 1) est46 rfl (by omega)
  have hA99 := hA99.ne' (L := 1) est46 rfl (by omega)
  have hA100 := hA100.ne' (L := 1) est46 rfl (by omega)
  have hA101 := hA101.ne' (L := 1) est46 rfl (by omega)
  have hA102 := hA102.ne' (L := 1) est46 rfl (by omega)
  have hA103 := hA103.ne' (L := 1) est46 rfl (by omega)
  have hA104 := hA104.ne' (L := 1) est46 rfl (by omega)
  have hA105 := hA105.ne' (L := 1) est46 rfl (by omega)
  have hF := hF.put' est46 (show 91 ≤ 92 from by omega)
  have hA92 : Ob _ _ _ [.inl (kI κ, 293, .inl (upd (upd (upd (upd (upd (upd (upd (upd (upd (upd (upd (upd (upd (upd (upd (upd (upd (upd (fun _ => 0) 0 (nI 80)) 1 (nI 6)) 2 (nI 12)) 3 (nI 1)) 5 (nI 8)) 13 (nI 0)) 21 (nI 0)) 6 (nI 3)) 14 (nI 0)) 22 (nI 100)) 7 (nI 3)) 15 (nI 0)) 23 (nI 100)) 8 (nI 3)) 16 (nI 0)) 24 (nI 50)) 9 (nI 3)) 17 (nI 0)))] := Ob.put' (j := 0) hA92 est46 rfl
  refine ws_aload_n 206 C dX5_init_206 rfl ?_
  refine ws_get 207 C dX5_init_207 fX5_7 hO rfl rfl ?_
  refine ws_bipush 210 C dX5_init_210 (nI 21) (by decide) ?_
  refine ws_iload_n 212 C dX5_init_212 rfl ?_
  refine ws_iadd 213 C dX5_init_213 (nI 25) (by decide) ?_
  refine ws_iload_n 214 C dX5_init_214 rfl ?_
  refine ws_iconst 215 C dX5_init_215 (nI 1) (by decide) ?_
  refine ws_nicmp_eq 216 C 224 dX5_init_216 (by decide) (by decide) (by decide) (fun c => ?_) (fun c => ?_)
  case refine_1 => exact absurd c (by decide)
  refine ws_iload_n 219 C dX5_init_219 rfl ?_
  refine ws_iconst 220 C dX5_init_220 (nI 2) (by decide) ?_
  refine ws_nicmp_ne 221 C 229 dX5_init_221 (by decide) (by decide) (by decide) (fun c => ?_) (fun c => ?_)
  case refine_2 => exact absurd c (by decide)
  refine ws_iload_n 229 C dX5_init_229 rfl ?_
  refine ws_iconst 230 C dX5_init_230 (nI 3) (by decide) ?_
  refine ws_nicmp_eq 231 C 239 dX5_init_231 (by decide) (by decide) (by decide) (fun c => ?_) (fun c => ?_)
  case refine_1 => exact absurd c (by decide)
  refine ws_iload_n 234 C dX5_init_234 rfl ?_
  refine ws_iconst 235 C dX5_init_235 (nI 4) (by decide) ?_
  refine ws_nicmp_ne 236 C 244 dX5_init_236 (by decide) (by decide) (by decide) (fun c => ?_) (fun c => ?_)
  case refine_1 => exact absurd c (by decide)
  refine ws_bipush 239 C dX5_init_239 (nI 50) (by decide) ?_
  refine ws_goto 241 C 266 dX5_init_241 (by decide) ?_
  refine ws_iast 266 C dX5_init_266 hA92 0 rfl (vp_in_nI (by decide) (by decide)) 25 (nI_clamp (by decide)) (nI 50) rfl (fun st47 est47 => ?_)
  have hO := hO.ne' (L := 1) est47 rfl (by omega)
  have hA93 := hA93.ne' (L := 1) est47 rfl (by omega)
  have hA94 := hA94.ne' (L := 1) est47 rfl (by omega)
  have hA95 := hA95.ne' (L := 1) est47 rfl (by omega)
  have hA96 := hA96.ne' (L := 1) est47 rfl (by omega)
  have hA97 := hA97.ne' (L := 1) est47 rfl (by omega)
  have hA98 := hA98.ne' (L := 1) est47 rfl (by omega)
  have hA99 := hA99.ne' (L := 1) est47 rfl (by omega)
  have hA100 := hA100.ne' (L := 1) est47 rfl (by omega)
  have hA101 := hA101.ne' (L := 1) est47 rfl (by omega)
  have hA102 := hA102.ne' (L := 1) est47 rfl (by omega)
  have hA103 := hA103.ne' (L := 1) est47 rfl (by omega)
  have hA104 := hA104.ne' (L := 1) est47 rfl (by omega)
  have hA105 := hA105.ne' (L := 1) est47 rfl (by omega)
  have hF := hF.put' est47 (show 91 ≤ 92 from by omega)
  have hA92 : Ob _ _ _ [.inl (kI κ, 293, .inl (upd (upd (upd (upd (upd (upd (upd (upd (upd (upd (upd (upd (upd (upd (upd (upd (upd (upd (upd (fun _ => 0) 0 (nI 80)) 1 (nI 6)) 2 (nI 12)) 3 (nI 1)) 5 (nI 8)) 13 (nI 0)) 21 (nI 0)) 6 (nI 3)) 14 (nI 0)) 22 (nI 100)) 7 (nI 3)) 15 (nI 0)) 23 (nI 100)) 8 (nI 3)) 16 (nI 0)) 24 (nI 50)) 9 (nI 3)) 17 (nI 0)) 25 (nI 50)))] := Ob.put' (j := 0) hA92 est47 rfl
  refine ws_iinc 267 C dX5_init_267 rfl (nI 5) (by decide) rfl [some (.ref (ad κ 91)), some (.int (nI 5))] rfl ?_
  refine ws_goto 270 C 152 dX5_init_270 (by decide) ?_
  refine ws_iload_n 152 C dX5_init_152 rfl ?_
  refine ws_bipush 153 C dX5_init_153 (nI 8) (by decide) ?_
  refine ws_nicmp_ge 155 C 273 dX5_init_155 (by decide) (by decide) (by decide) (fun c => ?_) (fun c => ?_)
  case refine_1 => exact absurd c (by decide)
  refine ws_aload_n 158 C dX5_init_158 rfl ?_
  refine ws_get 159 C dX5_init_159 fX5_7 hO rfl rfl ?_
  refine ws_iconst 162 C dX5_init_162 (nI 5) (by decide) ?_
  refine ws_iload_n 163 C dX5_init_163 rfl ?_
  refine ws_iadd 164 C dX5_init_164 (nI 10) (by decide) ?_
  refine ws_iload_n 165 C dX5_init_165 rfl ?_
  refine ws_nif_ne 166 C 174 dX5_init_166 (by decide) (by decide) (fun c => ?_) (fun c => ?_)
  case refine_2 => exact absurd c (by decide)
  refine ws_iload_n 174 C dX5_init_174 rfl ?_
  refine ws_iconst 175 C dX5_init_175 (nI 5) (by decide) ?_
  refine ws_nicmp_ne 176 C 183 dX5_init_176 (by decide) (by decide) (by decide) (fun c => ?_) (fun c => ?_)
  case refine_1 => exact absurd c (by decide)
  refine ws_iconst 179 C dX5_init_179 (nI 5) (by decide) ?_
  refine ws_goto 180 C 184 dX5_init_180 (by decide) ?_
  refine ws_iast 184 C dX5_init_184 hA92 0 rfl (vp_in_nI (by decide) (by decide)) 10 (nI_clamp (by decide)) (nI 5) rfl (fun st48 est48 => ?_)
  have hO := hO.ne' (L := 1) est48 rfl (by omega)
  have hA93 := hA93.ne' (L := 1) est48 rfl (by omega)
  have hA94 := hA94.ne' (L := 1) est48 rfl (by omega)
  have hA95 := hA95.ne' (L := 1) est48 rfl (by omega)
  have hA96 := hA96.ne' (L := 1) est48 rfl (by omega)
  have hA97 := hA97.ne' (L := 1) est48 rfl (by omega)
  have hA98 := hA98.ne' (L := 1) est48 rfl (by omega)
  have hA99 := hA99.ne' (L := 1) est48 rfl (by omega)
  have hA100 := hA100.ne' (L := 1) est48 rfl (by omega)
  have hA101 := hA101.ne' (L := 1) est48 rfl (by omega)
  have hA102 := hA102.ne' (L := 1) est48 rfl (by omega)
  have hA103 := hA103.ne' (L := 1) est48 rfl (by omega)
  have hA104 := hA104.ne' (L := 1) est48 rfl (by omega)
  have hA105 := hA105.ne' (L := 1) est48 rfl (by omega)
  have hF := hF.put' est48 (show 91 ≤ 92 from by omega)
  have hA92 : Ob _ _ _ [.inl (kI κ, 293, .inl (upd (upd (upd (upd (upd (upd (upd (upd (upd (upd (upd (upd (upd (upd (upd (upd (upd (upd (upd (upd (fun _ => 0) 0 (nI 80)) 1 (nI 6)) 2 (nI 12)) 3 (nI 1)) 5 (nI 8)) 13 (nI 0)) 21 (nI 0)) 6 (nI 3)) 14 (nI 0)) 22 (nI 100)) 7 (nI 3)) 15 (nI 0)) 23 (nI 100)) 8 (nI 3)) 16 (nI 0)) 24 (nI 50)) 9 (nI 3)) 17 (nI 0)) 25 (nI 50)) 10 (nI 5)))] := Ob.put' (j := 0) hA92 est48 rfl
  refine ws_aload_n 185 C dX5_init_185 rfl ?_
  refine ws_get 186 C dX5_init_186 fX5_7 hO rfl rfl ?_
  refine ws_bipush 189 C dX5_init_189 (nI 13) (by decide) ?_
  refine ws_iload_n 191 C dX5_init_191 rfl ?_
  refine ws_iadd 192 C dX5_init_192 (nI 18) (by decide) ?_
  refine ws_iload_n 193 C dX5_init_193 rfl ?_
  refine ws_bipush 194 C dX5_init_194 (nI 6) (by decide) ?_
  refine ws_nicmp_ne 196 C 204 dX5_init_196 (by decide) (by decide) (by decide) (fun c => ?_) (fun c => ?_)
  case refine_2 => exact absurd c (by decide)
  refine ws_iconst 204 C dX5_init_204 (nI 0) (by decide) ?_
  refine ws_iast 205 C dX5_init_205 hA92 0 rfl (vp_in_nI (by decide) (by decide)) 18 (nI_clamp (by decide)) (nI 0) rfl (fun st49 est49 => ?_)
  have hO := hO.ne' (L := 1) est49 rfl (by omega)
  have hA93 := hA93.ne' (L := 1) est49 rfl (by omega)
  have hA94 := hA94.ne' (L := 1) est49 rfl (by omega)
  have hA95 := hA95.ne' (L := 1) est49 rfl (by omega)
  have hA96 := hA96.ne' (L := 1) est49 rfl (by omega)
  have hA97 := hA97.ne' (L := 1) est49 rfl (by omega)
  have hA98 := hA98.ne' (L := 1) est49 rfl (by omega)
  have hA99 := hA99.ne' (L := 1) est49 rfl (by omega)
  have hA100 := hA100.ne' (L := 1) est49 rfl (by omega)
  have hA101 := hA101.ne' (L := 1) est49 rfl (by omega)
  have hA102 := hA102.ne' (L := 1) est49 rfl (by omega)
  have hA103 := hA103.ne' (L := 1) est49 rfl (by omega)
  have hA104 := hA104.ne' (L := 1) est49 rfl (by omega)
  have hA105 := hA105.ne' (L := 1) est49 rfl (by omega)
  have hF := hF.put' est49 (show 91 ≤ 92 from by omega)
  have hA92 : Ob _ _ _ [.inl (kI κ, 293, .inl (upd (upd (upd (upd (upd (upd (upd (upd (upd (upd (upd (upd (upd (upd (upd (upd (upd (upd (upd (upd (upd (fun _ => 0) 0 (nI 80)) 1 (nI 6)) 2 (nI 12)) 3 (nI 1)) 5 (nI 8)) 13 (nI 0)) 21 (nI 0)) 6 (nI 3)) 14 (nI 0)) 22 (nI 100)) 7 (nI 3)) 15 (nI 0)) 23 (nI 100)) 8 (nI 3)) 16 (nI 0)) 24 (nI 50)) 9 (nI 3)) 17 (nI 0)) 25 (nI 50)) 10 (nI 5)) 18 (nI 0)))] := Ob.put' (j := 0) hA92 est49 rfl
  refine ws_aload_n 206 C dX5_init_206 rfl ?_
  refine ws_get 207 C dX5_init_207 fX5_7 hO rfl rfl ?_
  refine ws_bipush 210 C dX5_init_210 (nI 21) (by decide) ?_
  refine ws_iload_n 212 C dX5_init_212 rfl ?_
  refine ws_iadd 213 C dX5_init_213 (nI 26) (by decide) ?_
  refine ws_iload_n 214 C dX5_init_214 rfl ?_
  refine ws_iconst 215 C dX5_init_215 (nI 1) (by decide) ?_
  refine ws_nicmp_eq 216 C 224 dX5_init_216 (by decide) (by decide) (by decide) (fun c => ?_) (fun c => ?_)
  case refine_1 => exact absurd c (by decide)
  refine ws_iload_n 219 C dX5_init_219 rfl ?_
  refine ws_iconst 220 C dX5_init_220 (nI 2) (by decide) ?_
  refine ws_nicmp_ne 221 C 229 dX5_init_221 (by decide) (by decide) (by decide) (fun c => ?_) (fun c => ?_)
  case refine_2 => exact absurd c (by decide)
  refine ws_iload_n 229 C dX5_init_229 rfl ?_
  refine ws_iconst 230 C dX5_init_230 (nI 3) (by decide) ?_
  refine ws_nicmp_eq 231 C 239 dX5_init_231 (by decide) (by decide) (by decide) (fun c => ?_) (fun c => ?_)
  case refine_1 => exact absurd c (by decide)
  refine ws_iload_n 234 C dX5_init_234 rfl ?_
  refine ws_iconst 235 C dX5_init_235 (nI 4) (by decide) ?_
  refine ws_nicmp_ne 236 C 244 dX5_init_236 (by decide) (by decide) (by decide) (fun c => ?_) (fun c => ?_)
  case refine_2 => exact absurd c (by decide)
  refine ws_iload_n 244 C dX5_init_244 rfl ?_
  refine ws_iconst 245 C dX5_init_245 (nI 5) (by decide) ?_
  refine ws_nicmp_ne 246 C 254 dX5_init_246 (by decide) (by decide) (by decide) (fun c => ?_) (fun c => ?_)
  case refine_1 => exact absurd c (by decide)
  refine ws_bipush 249 C dX5_init_249 (nI 70) (by decide) ?_
  refine ws_goto 251 C 266 dX5_init_251 (by decide) ?_
  refine ws_iast 266 C dX5_init_266 hA92 0 rfl (vp_in_nI (by decide) (by decide)) 26 (nI_clamp (by decide)) (nI 70) rfl (fun st50 est50 => ?_)
  have hO := hO.ne' (L := 1) est50 rfl (by omega)
  have hA93 := hA93.ne' (L := 1) est50 rfl (by omega)
  have hA94 := hA94.ne' (L := 1) est50 rfl (by omega)
  have hA95 := hA95.ne' (L := 1) est50 rfl (by omega)
  have hA96 := hA96.ne' (L := 1) est50 rfl (by omega)
  have hA97 := hA97.ne' (L := 1) est50 rfl (by omega)
  have hA98 := hA98.ne' (L := 1) est50 rfl (by omega)
  have hA99 := hA99.ne' (L := 1) est50 rfl (by omega)
  have hA100 := hA100.ne' (L := 1) est50 rfl (by omega)
  have hA101 := hA101.ne' (L := 1) est50 rfl (by omega)
  have hA102 := hA102.ne' (L := 1) est50 rfl (by omega)
  have hA103 := hA103.ne' (L := 1) est50 rfl (by omega)
  have hA104 := hA104.ne' (L := 1) est50 rfl (by omega)
  have hA105 := hA105.ne' (L := 1) est50 rfl (by omega)
  have hF := hF.put' est50 (show 91 ≤ 92 from by omega)
  have hA92 : Ob _ _ _ [.inl (kI κ, 293, .inl (upd (upd (upd (upd (upd (upd (upd (upd (upd (upd (upd (upd (upd (upd (upd (upd (upd (upd (upd (upd (upd (upd (fun _ => 0) 0 (nI 80)) 1 (nI 6)) 2 (nI 12)) 3 (nI 1)) 5 (nI 8)) 13 (nI 0)) 21 (nI 0)) 6 (nI 3)) 14 (nI 0)) 22 (nI 100)) 7 (nI 3)) 15 (nI 0)) 23 (nI 100)) 8 (nI 3)) 16 (nI 0)) 24 (nI 50)) 9 (nI 3)) 17 (nI 0)) 25 (nI 50)) 10 (nI 5)) 18 (nI 0)) 26 (nI 70)))] := Ob.put' (j := 0) hA92 est50 rfl
  refine ws_iinc 267 C dX5_init_267 rfl (nI 6) (by decide) rfl [some (.ref (ad κ 91)), some (.int (nI 6))] rfl ?_
  refine ws_goto 270 C 152 dX5_init_270 (by decide) ?_
  refine ws_iload_n 152 C dX5_init_152 rfl ?_
  refine ws_bipush 153 C dX5_init_153 (nI 8) (by decide) ?_
  refine ws_nicmp_ge 155 C 273 dX5_init_155 (by decide) (by decide) (by decide) (fun c => ?_) (fun c => ?_)
  case refine_1 => exact absurd c (by decide)
  refine ws_aload_n 158 C dX5_init_158 rfl ?_
  refine ws_get 159 C dX5_init_159 fX5_7 hO rfl rfl ?_
  refine ws_iconst 162 C dX5_init_162 (nI 5) (by decide) ?_
  refine ws_iload_n 163 C dX5_init_163 rfl ?_
  refine ws_iadd 164 C dX5_init_164 (nI 11) (by decide) ?_
  refine ws_iload_n 165 C dX5_init_165 rfl ?_
  refine ws_nif_ne 166 C 174 dX5_init_166 (by decide) (by decide) (fun c => ?_) (fun c => ?_)
  case refine_2 => exact absurd c (by decide)
  refine ws_iload_n 174 C dX5_init_174 rfl ?_
  refine ws_iconst 175 C dX5_init_175 (nI 5) (by decide) ?_
  refine ws_nicmp_ne 176 C 183 dX5_init_176 (by decide) (by decide) (by decide) (fun c => ?_) (fun c => ?_)
  case refine_2 => exact absurd c (by decide)
  refine ws_iconst 183 C dX5_init_183 (nI 3) (by decide) ?_
  refine ws_iast 184 C dX5_init_184 hA92 0 rfl (vp_in_nI (by decide) (by decide)) 11 (nI_clamp (by decide)) (nI 3) rfl (fun st51 est51 => ?_)
  have hO := hO.ne' (L := 1) est51 rfl (by omega)
  have hA93 := hA93.ne' (L := 1) est51 rfl (by omega)
  have hA94 := hA94.ne' (L := 1) est51 rfl (by omega)
  have hA95 := hA95.ne' (L := 1) est51 rfl (by omega)
  have hA96 := hA96.ne' (L := 1) est51 rfl (by omega)
  have hA97 := hA97.ne' (L := 1) est51 rfl (by omega)
  have hA98 := hA98.ne' (L := 1) est51 rfl (by omega)
  have hA99 := hA99.ne' (L := 1) est51 rfl (by omega)
  have hA100 := hA100.ne' (L := 1) est51 rfl (by omega)
  have hA101 := hA101.ne' (L := 1) est51 rfl (by omega)
  have hA102 := hA102.ne' (L := 1) est51 rfl (by omega)
  have hA103 := hA103.ne' (L := 1) est51 rfl (by omega)
  have hA104 := hA104.ne' (L := 1) est51 rfl (by omega)
  have hA105 := hA105.ne' (L := 1) est51 rfl (by omega)
  have hF := hF.put' est51 (show 91 ≤ 92 from by omega)
  have hA92 : Ob _ _ _ [.inl (kI κ, 293, .inl (upd (upd (upd (upd (upd (upd (upd (upd (upd (upd (upd (upd (upd (upd (upd (upd (upd (upd (upd (upd (upd (upd (upd (fun _ => 0) 0 (nI 80)) 1 (nI 6)) 2 (nI 12)) 3 (nI 1)) 5 (nI 8)) 13 (nI 0)) 21 (nI 0)) 6 (nI 3)) 14 (nI 0)) 22 (nI 100)) 7 (nI 3)) 15 (nI 0)) 23 (nI 100)) 8 (nI 3)) 16 (nI 0)) 24 (nI 50)) 9 (nI 3)) 17 (nI 0)) 25 (nI 50)) 10 (nI 5)) 18 (nI 0)) 26 (nI 70)) 11 (nI 3)))] := Ob.put' (j := 0) hA92 est51 rfl
  refine ws_aload_n 185 C dX5_init_185 rfl ?_
  refine ws_get 186 C dX5_init_186 fX5_7 hO rfl rfl ?_
  refine ws_bipush 189 C dX5_init_189 (nI 13) (by decide) ?_
  refine ws_iload_n 191 C dX5_init_191 rfl ?_
  refine ws_iadd 192 C dX5_init_192 (nI 19) (by decide) ?_
  refine ws_iload_n 193 C dX5_init_193 rfl ?_
  refine ws_bipush 194 C dX5_init_194 (nI 6) (by decide) ?_
  refine ws_nicmp_ne 196 C 204 dX5_init_196 (by decide) (by decide) (by decide) (fun c => ?_) (fun c => ?_)
  case refine_1 => exact absurd c (by decide)
  refine ws_bipush 199 C dX5_init_199 (nI 60) (by decide) ?_
  refine ws_goto 201 C 205 dX5_init_201 (by decide) ?_
  refine ws_iast 205 C dX5_init_205 hA92 0 rfl (vp_in_nI (by decide) (by decide)) 19 (nI_clamp (by decide)) (nI 60) rfl (fun st52 est52 => ?_)
  have hO := hO.ne' (L := 1) est52 rfl (by omega)
  have hA93 := hA93.ne' (L := 1) est52 rfl (by omega)
  have hA94 := hA94.ne' (L := 1) est52 rfl (by omega)
  have hA95 := hA95.ne' (L := 1) est52 rfl (by omega)
  have hA96 := hA96.ne' (L := 1) est52 rfl (by omega)
  have hA97 := hA97.ne' (L := 1) est52 rfl (by omega)
  have hA98 := hA98.ne' (L := 1) est52 rfl (by omega)
  have hA99 := hA99.ne' (L := 1) est52 rfl (by omega)
  have hA100 := hA100.ne' (L := 1) est52 rfl (by omega)
  have hA101 := hA101.ne' (L := 1) est52 rfl (by omega)
  have hA102 := hA102.ne' (L := 1) est52 rfl (by omega)
  have hA103 := hA103.ne' (L := 1) est52 rfl (by omega)
  have hA104 := hA104.ne' (L := 1) est52 rfl (by omega)
  have hA105 := hA105.ne' (L := 1) est52 rfl (by omega)
  have hF := hF.put' est52 (show 91 ≤ 92 from by omega)
  have hA92 : Ob _ _ _ [.inl (kI κ, 293, .inl (upd (upd (upd (upd (upd (upd (upd (upd (upd (upd (upd (upd (upd (upd (upd (upd (upd (upd (upd (upd (upd (upd (upd (upd (fun _ => 0) 0 (nI 80)) 1 (nI 6)) 2 (nI 12)) 3 (nI 1)) 5 (nI 8)) 13 (nI 0)) 21 (nI 0)) 6 (nI 3)) 14 (nI 0)) 22 (nI 100)) 7 (nI 3)) 15 (nI 0)) 23 (nI 100)) 8 (nI 3)) 16 (nI 0)) 24 (nI 50)) 9 (nI 3)) 17 (nI 0)) 25 (nI 50)) 10 (nI 5)) 18 (nI 0)) 26 (nI 70)) 11 (nI 3)) 19 (nI 60)))] := Ob.put' (j := 0) hA92 est52 rfl
  refine ws_aload_n 206 C dX5_init_206 rfl ?_
  refine ws_get 207 C dX5_init_207 fX5_7 hO rfl rfl ?_
  refine ws_bipush 210 C dX5_init_210 (nI 21) (by decide) ?_
  refine ws_iload_n 212 C dX5_init_212 rfl ?_
  refine ws_iadd 213 C dX5_init_213 (nI 27) (by decide) ?_
  refine ws_iload_n 214 C dX5_init_214 rfl ?_
  refine ws_iconst 215 C dX5_init_215 (nI 1) (by decide) ?_
  refine ws_nicmp_eq 216 C 224 dX5_init_216 (by decide) (by decide) (by decide) (fun c => ?_) (fun c => ?_)
  case refine_1 => exact absurd c (by decide)
  refine ws_iload_n 219 C dX5_init_219 rfl ?_
  refine ws_iconst 220 C dX5_init_220 (nI 2) (by decide) ?_
  refine ws_nicmp_ne 221 C 229 dX5_init_221 (by decide) (by decide) (by decide) (fun c => ?_) (fun c => ?_)
  case refine_2 => exact absurd c (by decide)
  refine ws_iload_n 229 C dX5_init_229 rfl ?_
  refine ws_iconst 230 C dX5_init_230 (nI 3) (by decide) ?_
  refine ws_nicmp_eq 231 C 239 dX5_init_231 (by decide) (by decide) (by decide) (fun c => ?_) (fun c => ?_)
  case refine_1 => exact absurd c (by decide)
  refine ws_iload_n 234 C dX5_init_234 rfl ?_
  refine ws_iconst 235 C dX5_init_235 (nI 4) (by decide) ?_
  refine ws_nicmp_ne 236 C 244 dX5_init_236 (by decide) (by decide) (by decide) (fun c => ?_) (fun c => ?_)
  case refine_2 => exact absurd c (by decide)
  refine ws_iload_n 244 C dX5_init_244 rfl ?_
  refine ws_iconst 245 C dX5_init_245 (nI 5) (by decide) ?_
  refine ws_nicmp_ne 246 C 254 dX5_init_246 (by decide) (by decide) (by decide) (fun c => ?_) (fun c => ?_)
  case refine_2 => exact absurd c (by decide)
  refine ws_iload_n 254 C dX5_init_254 rfl ?_
  refine ws_bipush 255 C dX5_init_255 (nI 6) (by decide) ?_
  refine ws_nicmp_ne 257 C 265 dX5_init_257 (by decide) (by decide) (by decide) (fun c => ?_) (fun c => ?_)
  case refine_1 => exact absurd c (by decide)
  refine ws_bipush 260 C dX5_init_260 (nI 60) (by decide) ?_
  refine ws_goto 262 C 266 dX5_init_262 (by decide) ?_
  refine ws_iast 266 C dX5_init_266 hA92 0 rfl (vp_in_nI (by decide) (by decide)) 27 (nI_clamp (by decide)) (nI 60) rfl (fun st53 est53 => ?_)
  have hO := hO.ne' (L := 1) est53 rfl (by omega)
  have hA93 := hA93.ne' (L := 1) est53 rfl (by omega)
  have hA94 := hA94.ne' (L := 1) est53 rfl (by omega)
  have hA95 := hA95.ne' (L := 1) est53 rfl (by omega)
  have hA96 := hA96.ne' (L := 1) est53 rfl (by omega)
  have hA97 := hA97.ne' (L := 1) est53 rfl (by omega)
  have hA98 := hA98.ne' (L := 1) est53 rfl (by omega)
  have hA99 := hA99.ne' (L := 1) est53 rfl (by omega)
  have hA100 := hA100.ne' (L := 1) est53 rfl (by omega)
  have hA101 := hA101.ne' (L := 1) est53 rfl (by omega)
  have hA102 := hA102.ne' (L := 1) est53 rfl (by omega)
  have hA103 := hA103.ne' (L := 1) est53 rfl (by omega)
  have hA104 := hA104.ne' (L := 1) est53 rfl (by omega)
  have hA105 := hA105.ne' (L := 1) est53 rfl (by omega)
  have hF := hF.put' est53 (show 91 ≤ 92 from by omega)
  have hA92 : Ob _ _ _ [.inl (kI κ, 293, .inl (upd (upd (upd (upd (upd (upd (upd (upd (upd (upd (upd (upd (upd (upd (upd (upd (upd (upd (upd (upd (upd (upd (upd (upd (upd (fun _ => 0) 0 (nI 80)) 1 (nI 6)) 2 (nI 12)) 3 (nI 1)) 5 (nI 8)) 13 (nI 0)) 21 (nI 0)) 6 (nI 3)) 14 (nI 0)) 22 (nI 100)) 7 (nI 3)) 15 (nI 0)) 23 (nI 100)) 8 (nI 3)) 16 (nI 0)) 24 (nI 50)) 9 (nI 3)) 17 (nI 0)) 25 (nI 50)) 10 (nI 5)) 18 (nI 0)) 26 (nI 70)) 11 (nI 3)) 19 (nI 60)) 27 (nI 60)))] := Ob.put' (j := 0) hA92 est53 rfl
  refine ws_iinc 267 C dX5_init_267 rfl (nI 7) (by decide) rfl [some (.ref (ad κ 91)), some (.int (nI 7))] rfl ?_
  refine ws_goto 270 C 152 dX5_init_270 (by decide) ?_
  refine ws_iload_n 152 C dX5_init_152 rfl ?_
  refine ws_bipush 153 C dX5_init_153 (nI 8) (by decide) ?_
  refine ws_nicmp_ge 155 C 273 dX5_init_155 (by decide) (by decide) (by decide) (fun c => ?_) (fun c => ?_)
  case refine_1 => exact absurd c (by decide)
  refine ws_aload_n 158 C dX5_init_158 rfl ?_
  refine ws_get 159 C dX5_init_159 fX5_7 hO rfl rfl ?_
  refine ws_iconst 162 C dX5_init_162 (nI 5) (by decide) ?_
  refine ws_iload_n 163 C dX5_init_163 rfl ?_
  refine ws_iadd 164 C dX5_init_164 (nI 12) (by decide) ?_
  refine ws_iload_n 165 C dX5_init_165 rfl ?_
  refine ws_nif_ne 166 C 174 dX5_init_166 (by decide) (by decide) (fun c => ?_) (fun c => ?_)
  case refine_2 => exact absurd c (by decide)
  refine ws_iload_n 174 C dX5_init_174 rfl ?_
  refine ws_iconst 175 C dX5_init_175 (nI 5) (by decide) ?_
  refine ws_nicmp_ne 176 C 183 dX5_init_176 (by decide) (by decide) (by decide) (fun c => ?_) (fun c => ?_)
  case refine_2 => exact absurd c (by decide)
  refine ws_iconst 183 C dX5_init_183 (nI 3) (by decide) ?_
  refine ws_iast 184 C dX5_init_184 hA92 0 rfl (vp_in_nI (by decide) (by decide)) 12 (nI_clamp (by decide)) (nI 3) rfl (fun st54 est54 => ?_)
  have hO := hO.ne' (L := 1) est54 rfl (by omega)
  have hA93 := hA93.ne' (L := 1) est54 rfl (by omega)
  have hA94 := hA94.ne' (L := 1) est54 rfl (by omega)
  have hA95 := hA95.ne' (L := 1) est54 rfl (by omega)
  have hA96 := hA96.ne' (L := 1) est54 rfl (by omega)
  have hA97 := hA97.ne' (L := 1) est54 rfl (by omega)
  have hA98 := hA98.ne' (L := 1) est54 rfl (by omega)
  have hA99 := hA99.ne' (L := 1) est54 rfl (by omega)
  have hA100 := hA100.ne' (L := 1) est54 rfl (by omega)
  have hA101 := hA101.ne' (L := 1) est54 rfl (by omega)
  have hA102 := hA102.ne' (L := 1) est54 rfl (by omega)
  have hA103 := hA103.ne' (L := 1) est54 rfl (by omega)
  have hA104 := hA104.ne' (L := 1) est54 rfl (by omega)
  have hA105 := hA105.ne' (L := 1) est54 rfl (by omega)
  have hF := hF.put' est54 (show 91 ≤ 92 from by omega)
  have hA92 : Ob _ _ _ [.inl (kI κ, 293, .inl (upd (upd (upd (upd (upd (upd (upd (upd (upd (upd (upd (upd (upd (upd (upd (upd (upd (upd (upd (upd (upd (upd (upd (upd (upd (upd (fun _ => 0) 0 (nI 80)) 1 (nI 6)) 2 (nI 12)) 3 (nI 1)) 5 (nI 8)) 13 (nI 0)) 21 (nI 0)) 6 (nI 3)) 14 (nI 0)) 22 (nI 100)) 7 (nI 3)) 15 (nI 0)) 23 (nI 100)) 8 (nI 3)) 16 (nI 0)) 24 (nI 50)) 9 (nI 3)) 17 (nI 0)) 25 (nI 50)) 10 (nI 5)) 18 (nI 0)) 26 (nI 70)) 11 (nI 3)) 19 (nI 60)) 27 (nI 60)) 12 (nI 3)))] := Ob.put' (j := 0) hA92 est54 rfl
  refine ws_aload_n 185 C dX5_init_185 rfl ?_
  refine ws_get 186 C dX5_init_186 fX5_7 hO rfl rfl ?_
  refine ws_bipush 189 C dX5_init_189 (nI 13) (by decide) ?_
  refine ws_iload_n 191 C dX5_init_191 rfl ?_
  refine ws_iadd 192 C dX5_init_192 (nI 20) (by decide) ?_
  refine ws_iload_n 193 C dX5_init_193 rfl ?_
  refine ws_bipush 194 C dX5_init_194 (nI 6) (by decide) ?_
  refine ws_nicmp_ne 196 C 204 dX5_init_196 (by decide) (by decide) (by decide) (fun c => ?_) (fun c => ?_)
  case refine_2 => exact absurd c (by decide)
  refine ws_iconst 204 C dX5_init_204 (nI 0) (by decide) ?_
  refine ws_iast 205 C dX5_init_205 hA92 0 rfl (vp_in_nI (by decide) (by decide)) 20 (nI_clamp (by decide)) (nI 0) rfl (fun st55 est55 => ?_)
  have hO := hO.ne' (L := 1) est55 rfl (by omega)
  have hA93 := hA93.ne' (L := 1) est55 rfl (by omega)
  have hA94 := hA94.ne' (L := 1) est55 rfl (by omega)
  have hA95 := hA95.ne' (L := 1) est55 rfl (by omega)
  have hA96 := hA96.ne' (L := 1) est55 rfl (by omega)
  have hA97 := hA97.ne' (L := 1) est55 rfl (by omega)
  have hA98 := hA98.ne' (L := 1) est55 rfl (by omega)
  have hA99 := hA99.ne' (L := 1) est55 rfl (by omega)
  have hA100 := hA100.ne' (L := 1) est55 rfl (by omega)
  have hA101 := hA101.ne' (L := 1) est55 rfl (by omega)
  have hA102 := hA102.ne' (L := 1) est55 rfl (by omega)
  have hA103 := hA103.ne' (L := 1) est55 rfl (by omega)
  have hA104 := hA104.ne' (L := 1) est55 rfl (by omega)
  have hA105 := hA105.ne' (L := 1) est55 rfl (by omega)
  have hF := hF.put' est55 (show 91 ≤ 92 from by omega)
  have hA92 : Ob _ _ _ [.inl (kI κ, 293, .inl (upd (upd (upd (upd (upd (upd (upd (upd (upd (upd (upd (upd (upd (upd (upd (upd (upd (upd (upd (upd (upd (upd (upd (upd (upd (upd (upd (fun _ => 0) 0 (nI 80)) 1 (nI 6)) 2 (nI 12)) 3 (nI 1)) 5 (nI 8)) 13 (nI 0)) 21 (nI 0)) 6 (nI 3)) 14 (nI 0)) 22 (nI 100)) 7 (nI 3)) 15 (nI 0)) 23 (nI 100)) 8 (nI 3)) 16 (nI 0)) 24 (nI 50)) 9 (nI 3)) 17 (nI 0)) 25 (nI 50)) 10 (nI 5)) 18 (nI 0)) 26 (nI 70)) 11 (nI 3)) 19 (nI 60)) 27 (nI 60)) 12 (nI 3)) 20 (nI 0)))] := Ob.put' (j := 0) hA92 est55 rfl
  refine ws_aload_n 206 C dX5_init_206 rfl ?_
  refine ws_get 207 C dX5_init_207 fX5_7 hO rfl rfl ?_
  refine ws_bipush 210 C dX5_init_210 (nI 21) (by decide) ?_
  refine ws_iload_n 212 C dX5_init_212 rfl ?_
  refine ws_iadd 213 C dX5_init_213 (nI 28) (by decide) ?_
  refine ws_iload_n 214 C dX5_init_214 rfl ?_
  refine ws_iconst 215 C dX5_init_215 (nI 1) (by decide) ?_
  refine ws_nicmp_eq 216 C 224 dX5_init_216 (by decide) (by decide) (by decide) (fun c => ?_) (fun c => ?_)
  case refine_1 => exact absurd c (by decide)
  refine ws_iload_n 219 C dX5_init_219 rfl ?_
  refine ws_iconst 220 C dX5_init_220 (nI 2) (by decide) ?_
  refine ws_nicmp_ne 221 C 229 dX5_init_221 (by decide) (by decide) (by decide) (fun c => ?_) (fun c => ?_)
  case refine_2 => exact absurd c (by decide)
  refine ws_iload_n 229 C dX5_init_229 rfl ?_
  refine ws_iconst 230 C dX5_init_230 (nI 3) (by decide) ?_
  refine ws_nicmp_eq 231 C 239 dX5_init_231 (by decide) (by decide) (by decide) (fun c => ?_) (fun c => ?_)
  case refine_1 => exact absurd c (by decide)
  refine ws_iload_n 234 C dX5_init_234 rfl ?_
  refine ws_iconst 235 C dX5_init_235 (nI 4) (by decide) ?_
  refine ws_nicmp_ne 236 C 244 dX5_init_236 (by decide) (by decide) (by decide) (fun c => ?_) (fun c => ?_)
  case refine_2 => exact absurd c (by decide)
  refine ws_iload_n 244 C dX5_init_244 rfl ?_
  refine ws_iconst 245 C dX5_init_245 (nI 5) (by decide) ?_
  refine ws_nicmp_ne 246 C 254 dX5_init_246 (by decide) (by decide) (by decide) (fun c => ?_) (fun c => ?_)
  case refine_2 => exact absurd c (by decide)
  refine ws_iload_n 254 C dX5_init_254 rfl ?_
  refine ws_bipush 255 C dX5_init_255 (nI 6) (by decide) ?_
  refine ws_nicmp_ne 257 C 265 dX5_init_257 (by decide) (by decide) (by decide) (fun c => ?_) (fun c => ?_)
  case refine_2 => exact absurd c (by decide)
  refine ws_iconst 265 C dX5_init_265 (nI 0) (by decide) ?_
  refine ws_iast 266 C dX5_init_266 hA92 0 rfl (vp_in_nI (by decide) (by decide)) 28 (nI_clamp (by decide)) (nI 0) rfl (fun st56 est56 => ?_)
  have hO := hO.ne' (L := 1) est56 rfl (by omega)
  have hA93 := hA93.ne' (L := 1) est56 rfl (by omega)
  have hA94 := hA94.ne' (L := 1) est56 rfl (by omega)
  have hA95 := hA95.ne' (L := 1) est56 rfl (by omega)
  have hA96 := hA96.ne' (L := 1) est56 rfl (by omega)
  have hA97 := hA97.ne' (L := 1) est56 rfl (by omega)
  have hA98 := hA98.ne' (L := 1) est56 rfl (by omega)
  have hA99 := hA99.ne' (L := 1) est56 rfl (by omega)
  have hA100 := hA100.ne' (L := 1) est56 rfl (by omega)
  have hA101 := hA101.ne' (L := 1) est56 rfl (by omega)
  have hA102 := hA102.ne' (L := 1) est56 rfl (by omega)
  have hA103 := hA103.ne' (L := 1) est56 rfl (by omega)
  have hA104 := hA104.ne' (L := 1) est56 rfl (by omega)
  have hA105 := hA105.ne' (L := 1) est56 rfl (by omega)
  have hF := hF.put' est56 (show 91 ≤ 92 from by omega)
  have hA92 : Ob _ _ _ [.inl (kI κ, 293, .inl (upd (upd (upd (upd (upd (upd (upd (upd (upd (upd (upd (upd (upd (upd (upd (upd (upd (upd (upd (upd (upd (upd (upd (upd (upd (upd (upd (upd (fun _ => 0) 0 (nI 80)) 1 (nI 6)) 2 (nI 12)) 3 (nI 1)) 5 (nI 8)) 13 (nI 0)) 21 (nI 0)) 6 (nI 3)) 14 (nI 0)) 22 (nI 100)) 7 (nI 3)) 15 (nI 0)) 23 (nI 100)) 8 (nI 3)) 16 (nI 0)) 24 (nI 50)) 9 (nI 3)) 17 (nI 0)) 25 (nI 50)) 10 (nI 5)) 18 (nI 0)) 26 (nI 70)) 11 (nI 3)) 19 (nI 60)) 27 (nI 60)) 12 (nI 3)) 20 (nI 0)) 28 (nI 0)))] := Ob.put' (j := 0) hA92 est56 rfl
  refine ws_iinc 267 C dX5_init_267 rfl (nI 8) (by decide) rfl [some (.ref (ad κ 91)), some (.int (nI 8))] rfl ?_
  refine ws_goto 270 C 152 dX5_init_270 (by decide) ?_
  refine ws_iload_n 152 C dX5_init_152 rfl ?_
  refine ws_bipush 153 C dX5_init_153 (nI 8) (by decide) ?_
  refine ws_nicmp_ge 155 C 273 dX5_init_155 (by decide) (by decide) (by decide) (fun c => ?_) (fun c => ?_)
  case refine_2 => exact absurd c (by decide)
  exact ws_vret 273 C dX5_init_273 rfl (Nat.le_of_ble_eq_true rfl) (Nat.le_of_ble_eq_true rfl) (by rw [hP]; exact ⟨rfl, ⟨⟨⟨_, _, hO⟩, ⟨_, hA92, mu0_ok, by decide, by decide, by decide, by decide, by decide, fun i hi => absurd hi (Nat.not_lt_zero i), fun i hi => absurd hi (Nat.not_lt_zero i)⟩, ⟨_, hA93⟩, ⟨_, hA94, Nat.zero_le _, fun k hk => absurd hk (Nat.not_lt_zero k)⟩, ⟨_, _, hA95, hA96, (fun i hi => match i, hi with | 0, _ => ⟨rfl, by decide, fun h => absurd h (by decide)⟩ | 1, _ => ⟨rfl, by decide, fun h => absurd h (by decide)⟩ | i + 2, hi => absurd hi (by omega))⟩, ⟨_, _, _, _, _, _, hA97, hA98, hA99, hA100, hA101, hA102, rfl⟩, ⟨_, hA103, Nat.zero_le _, fun k hk => absurd hk (Nat.not_lt_zero k)⟩, ⟨_, hA104⟩, ⟨_, hA105⟩⟩, hF⟩⟩)
end
