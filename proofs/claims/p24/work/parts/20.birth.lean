/-! The births of the objects -/
abbrev dX0 : List Value := [.null, .int (nI 0), .int (nI 0)]
theorem dX0_ok : ∀ j, j < 3 → defaultValue (tyX0 j) = vp_V dX0 j := fun j hj => match j, hj with
  | 0, _ => rfl
  | 1, _ => rfl
  | 2, _ => rfl
  | j + 3, hj => absurd hj (by omega)
abbrev dX1 : List Value := [.null, .null, .null, .int (nI 0), .int (nI 0), .int (nI 0), .int (nI 0), .null, .int (nI 0), .null, .null]
theorem dX1_ok : ∀ j, j < 11 → defaultValue (tyX1 j) = vp_V dX1 j := fun j hj => match j, hj with
  | 0, _ => rfl
  | 1, _ => rfl
  | 2, _ => rfl
  | 3, _ => rfl
  | 4, _ => rfl
  | 5, _ => rfl
  | 6, _ => rfl
  | 7, _ => rfl
  | 8, _ => rfl
  | 9, _ => rfl
  | 10, _ => rfl
  | j + 11, hj => absurd hj (by omega)
abbrev dX2 : List Value := [.null, .int (nI 0)]
theorem dX2_ok : ∀ j, j < 2 → defaultValue (tyX2 j) = vp_V dX2 j := fun j hj => match j, hj with
  | 0, _ => rfl
  | 1, _ => rfl
  | j + 2, hj => absurd hj (by omega)
abbrev dX3 : List Value := [.null, .null, .null, .null, .null, .null, .int (nI 0)]
theorem dX3_ok : ∀ j, j < 7 → defaultValue (tyX3 j) = vp_V dX3 j := fun j hj => match j, hj with
  | 0, _ => rfl
  | 1, _ => rfl
  | 2, _ => rfl
  | 3, _ => rfl
  | 4, _ => rfl
  | 5, _ => rfl
  | 6, _ => rfl
  | j + 7, hj => absurd hj (by omega)
abbrev dX4 : List Value := [.null, .null, .null, .null, .null, .null, .null, .null]
theorem dX4_ok : ∀ j, j < 8 → defaultValue (tyX4 j) = vp_V dX4 j := fun j hj => match j, hj with
  | 0, _ => rfl
  | 1, _ => rfl
  | 2, _ => rfl
  | 3, _ => rfl
  | 4, _ => rfl
  | 5, _ => rfl
  | 6, _ => rfl
  | 7, _ => rfl
  | j + 8, hj => absurd hj (by omega)
theorem wsE {p : Program} {l : Launch} {e : Env} {R : Room} {s : State} {m : MethodId} {args : Array Value} {below : List Frame} {meth : Method} {c : Code} {κ : Kt} {n k sl : Nat} {Q : State → Prop} {st1 : St} {pc : Nat} {lv : List (Option Value)} {stk : List Value} (kk : ∀ st2 : St, st2 = st1 → WS p l e R s m args below meth c κ n k sl Q st2 pc lv stk) : WS p l e R s m args below meth c κ n k sl Q st1 pc lv stk := kk _ rfl
theorem Ob.push' {n b : Nat} {st st2 : St} {es es' : List va_E} {e1 : va_E} (h : Ob n st b es) (hs : st2 = va_up st n e1) (hn : b + es.length = n) (he : es ++ [e1] = es') : Ob (n + 1) st2 b es' := by
  subst hs
  exact h.push hn he
theorem Ob.grow' {n b : Nat} {st st2 : St} {es : List va_E} {e1 : va_E} (h : Ob n st b es) (hs : st2 = va_up st n e1) : Ob (n + 1) st2 b es := by
  subst hs
  exact h.grow
theorem Ob.one' {n : Nat} {st st2 : St} {e1 : va_E} (hs : st2 = va_up st n e1) : Ob (n + 1) st2 n [e1] := by
  subst hs
  exact Ob.one
theorem Ob.up {n n' b : Nat} {st : St} {es : List va_E} (h : Ob n st b es) (hn : n ≤ n') : Ob n' st b es := h.to hn (fun _ _ _ => rfl)
theorem Ob.frup {A : Nat → Prop} {n n' b : Nat} {st st' : St} {es : List va_E} (h : Ob n st b es) (hF : Fr A st st') (hn : n ≤ n') (hA : ∀ q, b ≤ q → q < b + es.length → ¬ A q) : Ob n' st' b es := (hF.ob h hA).up hn
theorem Fr.push {A : Nat → Prop} {n : Nat} {st st' st2 : St} {e1 : va_E} (h : Fr A st st') (hs : st2 = va_up st' n e1) (hA : A n) : Fr A st st2 := h.put' hs hA
theorem ShP.up {κ : Kt} {z z' : Nat} {st : St} {b : Nat} {μ : Mu} (h : ShP κ z st b μ) (hz : z ≤ z') : ShP κ z' st b μ := by
  obtain ⟨f1, f2, f3, f4, f5, f6, h1, h2⟩ := h
  exact ⟨f1, f2, f3, f4, f5, f6, h1.up hz, h2⟩
theorem LyA.up {κ : Kt} {z z' : Nat} {st : St} {b : Nat} (h : LyA κ z st b) (hz : z ≤ z') : LyA κ z' st b := by
  obtain ⟨p, l, r, wn, m, sp, lo, s, ln, lf, nx, h⟩ := h
  exact ⟨p, l, r, wn, m, sp, lo, s, ln, lf, nx, h.up hz⟩
theorem PdA.up {κ : Kt} {z z' : Nat} {st : St} {pt : Nat → Nat} {pn : Nat} (h : PdA κ z st pt pn) (hz : z ≤ z') : PdA κ z' st pt pn := by
  obtain ⟨t, h1, h2⟩ := h
  exact ⟨t, h1.up hz, h2⟩
theorem HsP.up {κ : Kt} {z z' : Nat} {st : St} {hs : Nat → Mu} {n : Nat} (h : HsP κ z st hs n) (hz : z ≤ z') : HsP κ z' st hs n := by
  obtain ⟨g, nx, h1, h2, h3, h4, h5, h6⟩ := h
  exact ⟨g, nx, h1.up hz, h2, h3, h4, fun i hi => (h5 i hi).imp (fun _ x => x.up hz), fun k hk => (h6 k hk).up hz⟩
theorem SlP.up {κ : Kt} {z z' : Nat} {st : St} {sl : Nat → Mu} {fd : Nat → Nat} (h : SlP κ z st sl fd) (hz : z ≤ z') : SlP κ z' st sl fd := by
  obtain ⟨g, f, h1, h2, h3, h4, h5, h6⟩ := h
  exact ⟨g, f, h1.up hz, h2, h3.up hz, h4, fun i hi => (h5 i hi).imp (fun _ x => x.up hz), fun i hi h => (h6 i hi h).up hz⟩
theorem XI.up {κ : Kt} {z z' : Nat} {st : St} {S : Sg} (h : XI κ z st S) (hz : z ≤ z') : XI κ z' st S := by
  obtain ⟨h1, h2, h3, h4, h5, h6, h7, h8⟩ := h
  exact ⟨h1.up hz, h2.up hz, h3.imp (fun _ x => x.up hz), h4.up hz, h5.up hz, h6.up hz, h7.up hz, h8.up hz⟩
/-- the text at the beginning -/
def mu0 : Mu := (fun i k => match i with
  | 0 => (match k with | 0 => nI 80 | 1 => nI 6 | 2 => nI 12 | _ => nI 1)
  | 1 => (match k with | 0 => nI 8 | 5 => nI 5 | _ => nI 3)
  | 2 => (match k with | 6 => nI 60 | _ => nI 0)
  | _ => (match k with | 1 => nI 100 | 2 => nI 100 | 3 => nI 50 | 4 => nI 50 | 5 => nI 70 | 6 => nI 60 | _ => nI 0), 0, fun _ => 0, fun _ _ => nI 0)
theorem mu0_ok : Ok mu0 := ⟨by decide, fun w hw => absurd hw (Nat.not_lt_zero w)⟩
def S0 : Sg := (mu0, (fun _ => mu0, 0), (fun _ => 0, 0), (fun _ => mu0, fun _ => 0))
section
variable {zl : Launch} {κ : Kt} {z : Nat} {st0 : St}
set_option maxRecDepth 100000 in
set_option maxHeartbeats 4000000 in
theorem c_X3_init {b : Nat} (hO : Ob (b + 1) st0 b [.inr (3, dX3)]) : CT zl κ yX3_init cX3_init 1 none { frames := 1, cells := 6, slots := 292, locals := 12 } (b + 1) [.ref (ad κ b)] st0 (PV fun u => ShP κ (b + 7) u b mu0 ∧ Fr (fun q : Nat => b ≤ q) st0 u) := by
  obtain ⟨P, hP⟩ : ∃ P : Option Value → St → Prop, P = (PV fun u => ShP κ (b + 7) u b mu0 ∧ Fr (fun q : Nat => b ≤ q) st0 u) := ⟨_, rfl⟩
  rw [← hP]
  refine CT.of (by decide +kernel) (Nat.le_of_ble_eq_true rfl) (fun zp ze zs zm zar zbe zme zc C hN => ?_)
  have hin := hN rfl
  have C : Cx zp zs zm zar zme zc κ cX3_init 1 RX3 none := C
  refine ws_lv (lv2 := [some (.ref (ad κ b))]) rfl ?_
  have hF : Fr (fun q : Nat => b ≤ q) st0 st0 := Fr.rf
  refine ws_aload_n 0 C dX3_init_0 rfl ?_
  refine ws_objI 1 C dX3_init_1 k26 k19 k20 rfl (Nat.le_of_ble_eq_true rfl) (Nat.le_of_ble_eq_true rfl) ?_
  refine ws_aload_n 4 C dX3_init_4 rfl ?_
  refine ws_iconst 5 C dX3_init_5 (nI 4) (by decide) ?_
  refine ws_newaI 6 C dX3_init_6 4 (by decide) (nI_clamp (by decide)) (by decide) k42 (Nat.le_of_ble_eq_true rfl) (Nat.le_of_ble_eq_true rfl) (wsE (fun st1 est1 => ?_))
  have hF := hF.put' est1 (show b ≤ b + 1 from by omega)
  have hO := Ob.push' (es' := [.inr (3, dX3), .inl (kI κ, 4, .inl (fun _ => 0))]) hO est1 rfl rfl
  refine ws_dup 8 C dX3_init_8 rfl ?_
  refine ws_iconst 9 C dX3_init_9 (nI 0) (by decide) ?_
  refine ws_bipush 10 C dX3_init_10 (nI 80) (by decide) ?_
  refine ws_iast 12 C dX3_init_12 hO 1 rfl (vp_in_nI (by decide) (by decide)) 0 (nI_clamp (by decide)) (nI 80) rfl (fun st2 est2 => ?_)
  have hF := hF.put' est2 (show b ≤ b + 1 from by omega)
  have hO : Ob _ _ _ [.inr (3, dX3), .inl (kI κ, 4, .inl (upd (fun _ => 0) 0 (nI 80)))] := Ob.put' (j := 1) hO est2 rfl
  refine ws_dup 13 C dX3_init_13 rfl ?_
  refine ws_iconst 14 C dX3_init_14 (nI 1) (by decide) ?_
  refine ws_bipush 15 C dX3_init_15 (nI 6) (by decide) ?_
  refine ws_iast 17 C dX3_init_17 hO 1 rfl (vp_in_nI (by decide) (by decide)) 1 (nI_clamp (by decide)) (nI 6) rfl (fun st3 est3 => ?_)
  have hF := hF.put' est3 (show b ≤ b + 1 from by omega)
  have hO : Ob _ _ _ [.inr (3, dX3), .inl (kI κ, 4, .inl (upd (upd (fun _ => 0) 0 (nI 80)) 1 (nI 6)))] := Ob.put' (j := 1) hO est3 rfl
  refine ws_dup 18 C dX3_init_18 rfl ?_
  refine ws_iconst 19 C dX3_init_19 (nI 2) (by decide) ?_
  refine ws_bipush 20 C dX3_init_20 (nI 12) (by decide) ?_
  refine ws_iast 22 C dX3_init_22 hO 1 rfl (vp_in_nI (by decide) (by decide)) 2 (nI_clamp (by decide)) (nI 12) rfl (fun st4 est4 => ?_)
  have hF := hF.put' est4 (show b ≤ b + 1 from by omega)
  have hO : Ob _ _ _ [.inr (3, dX3), .inl (kI κ, 4, .inl (upd (upd (upd (fun _ => 0) 0 (nI 80)) 1 (nI 6)) 2 (nI 12)))] := Ob.put' (j := 1) hO est4 rfl
  refine ws_dup 23 C dX3_init_23 rfl ?_
  refine ws_iconst 24 C dX3_init_24 (nI 3) (by decide) ?_
  refine ws_iconst 25 C dX3_init_25 (nI 1) (by decide) ?_
  refine ws_iast 26 C dX3_init_26 hO 1 rfl (vp_in_nI (by decide) (by decide)) 3 (nI_clamp (by decide)) (nI 1) rfl (fun st5 est5 => ?_)
  have hF := hF.put' est5 (show b ≤ b + 1 from by omega)
  have hO : Ob _ _ _ [.inr (3, dX3), .inl (kI κ, 4, .inl (upd (upd (upd (upd (fun _ => 0) 0 (nI 80)) 1 (nI 6)) 2 (nI 12)) 3 (nI 1)))] := Ob.put' (j := 1) hO est5 rfl
  refine ws_putF 27 C dX3_init_27 fX3_9 q3_0 hin rfl hO rfl (Nat.le_of_ble_eq_true rfl) rfl rfl (fun st6 est6 => ?_)
  have hF := hF.put' est6 (show b ≤ b from by omega)
  have hO : Ob _ _ _ [.inr (3, [.ref (ad κ (b + 1)), .null, .null, .null, .null, .null, .int (nI 0)]), .inl (kI κ, 4, .inl (upd (upd (upd (upd (fun _ => 0) 0 (nI 80)) 1 (nI 6)) 2 (nI 12)) 3 (nI 1)))] := Ob.put' (j := 0) hO est6 rfl
  refine ws_aload_n 30 C dX3_init_30 rfl ?_
  refine ws_bipush 31 C dX3_init_31 (nI 8) (by decide) ?_
  refine ws_newaI 33 C dX3_init_33 8 (by decide) (nI_clamp (by decide)) (by decide) k42 (Nat.le_of_ble_eq_true rfl) (Nat.le_of_ble_eq_true rfl) (wsE (fun st7 est7 => ?_))
  have hF := hF.put' est7 (show b ≤ b + 2 from by omega)
  have hO := Ob.push' (es' := [.inr (3, [.ref (ad κ (b + 1)), .null, .null, .null, .null, .null, .int (nI 0)]), .inl (kI κ, 4, .inl (upd (upd (upd (upd (fun _ => 0) 0 (nI 80)) 1 (nI 6)) 2 (nI 12)) 3 (nI 1))), .inl (kI κ, 8, .inl (fun _ => 0))]) hO est7 rfl rfl
  refine ws_dup 35 C dX3_init_35 rfl ?_
  refine ws_iconst 36 C dX3_init_36 (nI 0) (by decide) ?_
  refine ws_bipush 37 C dX3_init_37 (nI 8) (by decide) ?_
  refine ws_iast 39 C dX3_init_39 hO 2 rfl (vp_in_nI (by decide) (by decide)) 0 (nI_clamp (by decide)) (nI 8) rfl (fun st8 est8 => ?_)
  have hF := hF.put' est8 (show b ≤ b + 2 from by omega)
  have hO : Ob _ _ _ [.inr (3, [.ref (ad κ (b + 1)), .null, .null, .null, .null, .null, .int (nI 0)]), .inl (kI κ, 4, .inl (upd (upd (upd (upd (fun _ => 0) 0 (nI 80)) 1 (nI 6)) 2 (nI 12)) 3 (nI 1))), .inl (kI κ, 8, .inl (upd (fun _ => 0) 0 (nI 8)))] := Ob.put' (j := 2) hO est8 rfl
  refine ws_dup 40 C dX3_init_40 rfl ?_
  refine ws_iconst 41 C dX3_init_41 (nI 1) (by decide) ?_
  refine ws_iconst 42 C dX3_init_42 (nI 3) (by decide) ?_
  refine ws_iast 43 C dX3_init_43 hO 2 rfl (vp_in_nI (by decide) (by decide)) 1 (nI_clamp (by decide)) (nI 3) rfl (fun st9 est9 => ?_)
  have hF := hF.put' est9 (show b ≤ b + 2 from by omega)
  have hO : Ob _ _ _ [.inr (3, [.ref (ad κ (b + 1)), .null, .null, .null, .null, .null, .int (nI 0)]), .inl (kI κ, 4, .inl (upd (upd (upd (upd (fun _ => 0) 0 (nI 80)) 1 (nI 6)) 2 (nI 12)) 3 (nI 1))), .inl (kI κ, 8, .inl (upd (upd (fun _ => 0) 0 (nI 8)) 1 (nI 3)))] := Ob.put' (j := 2) hO est9 rfl
  refine ws_dup 44 C dX3_init_44 rfl ?_
  refine ws_iconst 45 C dX3_init_45 (nI 2) (by decide) ?_
  refine ws_iconst 46 C dX3_init_46 (nI 3) (by decide) ?_
  refine ws_iast 47 C dX3_init_47 hO 2 rfl (vp_in_nI (by decide) (by decide)) 2 (nI_clamp (by decide)) (nI 3) rfl (fun st10 est10 => ?_)
  have hF := hF.put' est10 (show b ≤ b + 2 from by omega)
  have hO : Ob _ _ _ [.inr (3, [.ref (ad κ (b + 1)), .null, .null, .null, .null, .null, .int (nI 0)]), .inl (kI κ, 4, .inl (upd (upd (upd (upd (fun _ => 0) 0 (nI 80)) 1 (nI 6)) 2 (nI 12)) 3 (nI 1))), .inl (kI κ, 8, .inl (upd (upd (upd (fun _ => 0) 0 (nI 8)) 1 (nI 3)) 2 (nI 3)))] := Ob.put' (j := 2) hO est10 rfl
  refine ws_dup 48 C dX3_init_48 rfl ?_
  refine ws_iconst 49 C dX3_init_49 (nI 3) (by decide) ?_
  refine ws_iconst 50 C dX3_init_50 (nI 3) (by decide) ?_
  refine ws_iast 51 C dX3_init_51 hO 2 rfl (vp_in_nI (by decide) (by decide)) 3 (nI_clamp (by decide)) (nI 3) rfl (fun st11 est11 => ?_)
  have hF := hF.put' est11 (show b ≤ b + 2 from by omega)
  have hO : Ob _ _ _ [.inr (3, [.ref (ad κ (b + 1)), .null, .null, .null, .null, .null, .int (nI 0)]), .inl (kI κ, 4, .inl (upd (upd (upd (upd (fun _ => 0) 0 (nI 80)) 1 (nI 6)) 2 (nI 12)) 3 (nI 1))), .inl (kI κ, 8, .inl (upd (upd (upd (upd (fun _ => 0) 0 (nI 8)) 1 (nI 3)) 2 (nI 3)) 3 (nI 3)))] := Ob.put' (j := 2) hO est11 rfl
  refine ws_dup 52 C dX3_init_52 rfl ?_
  refine ws_iconst 53 C dX3_init_53 (nI 4) (by decide) ?_
  refine ws_iconst 54 C dX3_init_54 (nI 3) (by decide) ?_
  refine ws_iast 55 C dX3_init_55 hO 2 rfl (vp_in_nI (by decide) (by decide)) 4 (nI_clamp (by decide)) (nI 3) rfl (fun st12 est12 => ?_)
  have hF := hF.put' est12 (show b ≤ b + 2 from by omega)
  have hO : Ob _ _ _ [.inr (3, [.ref (ad κ (b + 1)), .null, .null, .null, .null, .null, .int (nI 0)]), .inl (kI κ, 4, .inl (upd (upd (upd (upd (fun _ => 0) 0 (nI 80)) 1 (nI 6)) 2 (nI 12)) 3 (nI 1))), .inl (kI κ, 8, .inl (upd (upd (upd (upd (upd (fun _ => 0) 0 (nI 8)) 1 (nI 3)) 2 (nI 3)) 3 (nI 3)) 4 (nI 3)))] := Ob.put' (j := 2) hO est12 rfl
  refine ws_dup 56 C dX3_init_56 rfl ?_
  refine ws_iconst 57 C dX3_init_57 (nI 5) (by decide) ?_
  refine ws_iconst 58 C dX3_init_58 (nI 5) (by decide) ?_
  refine ws_iast 59 C dX3_init_59 hO 2 rfl (vp_in_nI (by decide) (by decide)) 5 (nI_clamp (by decide)) (nI 5) rfl (fun st13 est13 => ?_)
  have hF := hF.put' est13 (show b ≤ b + 2 from by omega)
  have hO : Ob _ _ _ [.inr (3, [.ref (ad κ (b + 1)), .null, .null, .null, .null, .null, .int (nI 0)]), .inl (kI κ, 4, .inl (upd (upd (upd (upd (fun _ => 0) 0 (nI 80)) 1 (nI 6)) 2 (nI 12)) 3 (nI 1))), .inl (kI κ, 8, .inl (upd (upd (upd (upd (upd (upd (fun _ => 0) 0 (nI 8)) 1 (nI 3)) 2 (nI 3)) 3 (nI 3)) 4 (nI 3)) 5 (nI 5)))] := Ob.put' (j := 2) hO est13 rfl
  refine ws_dup 60 C dX3_init_60 rfl ?_
  refine ws_bipush 61 C dX3_init_61 (nI 6) (by decide) ?_
  refine ws_iconst 63 C dX3_init_63 (nI 3) (by decide) ?_
  refine ws_iast 64 C dX3_init_64 hO 2 rfl (vp_in_nI (by decide) (by decide)) 6 (nI_clamp (by decide)) (nI 3) rfl (fun st14 est14 => ?_)
  have hF := hF.put' est14 (show b ≤ b + 2 from by omega)
  have hO : Ob _ _ _ [.inr (3, [.ref (ad κ (b + 1)), .null, .null, .null, .null, .null, .int (nI 0)]), .inl (kI κ, 4, .inl (upd (upd (upd (upd (fun _ => 0) 0 (nI 80)) 1 (nI 6)) 2 (nI 12)) 3 (nI 1))), .inl (kI κ, 8, .inl (upd (upd (upd (upd (upd (upd (upd (fun _ => 0) 0 (nI 8)) 1 (nI 3)) 2 (nI 3)) 3 (nI 3)) 4 (nI 3)) 5 (nI 5)) 6 (nI 3)))] := Ob.put' (j := 2) hO est14 rfl
  refine ws_dup 65 C dX3_init_65 rfl ?_
  refine ws_bipush 66 C dX3_init_66 (nI 7) (by decide) ?_
  refine ws_iconst 68 C dX3_init_68 (nI 3) (by decide) ?_
  refine ws_iast 69 C dX3_init_69 hO 2 rfl (vp_in_nI (by decide) (by decide)) 7 (nI_clamp (by decide)) (nI 3) rfl (fun st15 est15 => ?_)
  have hF := hF.put' est15 (show b ≤ b + 2 from by omega)
  have hO : Ob _ _ _ [.inr (3, [.ref (ad κ (b + 1)), .null, .null, .null, .null, .null, .int (nI 0)]), .inl (kI κ, 4, .inl (upd (upd (upd (upd (fun _ => 0) 0 (nI 80)) 1 (nI 6)) 2 (nI 12)) 3 (nI 1))), .inl (kI κ, 8, .inl (upd (upd (upd (upd (upd (upd (upd (upd (fun _ => 0) 0 (nI 8)) 1 (nI 3)) 2 (nI 3)) 3 (nI 3)) 4 (nI 3)) 5 (nI 5)) 6 (nI 3)) 7 (nI 3)))] := Ob.put' (j := 2) hO est15 rfl
  refine ws_putF 70 C dX3_init_70 fX3_15 q3_1 hin rfl hO rfl (Nat.le_of_ble_eq_true rfl) rfl rfl (fun st16 est16 => ?_)
  have hF := hF.put' est16 (show b ≤ b from by omega)
  have hO : Ob _ _ _ [.inr (3, [.ref (ad κ (b + 1)), .ref (ad κ (b + 2)), .null, .null, .null, .null, .int (nI 0)]), .inl (kI κ, 4, .inl (upd (upd (upd (upd (fun _ => 0) 0 (nI 80)) 1 (nI 6)) 2 (nI 12)) 3 (nI 1))), .inl (kI κ, 8, .inl (upd (upd (upd (upd (upd (upd (upd (upd (fun _ => 0) 0 (nI 8)) 1 (nI 3)) 2 (nI 3)) 3 (nI 3)) 4 (nI 3)) 5 (nI 5)) 6 (nI 3)) 7 (nI 3)))] := Ob.put' (j := 0) hO est16 rfl
  refine ws_aload_n 73 C dX3_init_73 rfl ?_
  refine ws_bipush 74 C dX3_init_74 (nI 8) (by decide) ?_
  refine ws_newaI 76 C dX3_init_76 8 (by decide) (nI_clamp (by decide)) (by decide) k42 (Nat.le_of_ble_eq_true rfl) (Nat.le_of_ble_eq_true rfl) (wsE (fun st17 est17 => ?_))
  have hF := hF.put' est17 (show b ≤ b + 3 from by omega)
  have hO := Ob.push' (es' := [.inr (3, [.ref (ad κ (b + 1)), .ref (ad κ (b + 2)), .null, .null, .null, .null, .int (nI 0)]), .inl (kI κ, 4, .inl (upd (upd (upd (upd (fun _ => 0) 0 (nI 80)) 1 (nI 6)) 2 (nI 12)) 3 (nI 1))), .inl (kI κ, 8, .inl (upd (upd (upd (upd (upd (upd (upd (upd (fun _ => 0) 0 (nI 8)) 1 (nI 3)) 2 (nI 3)) 3 (nI 3)) 4 (nI 3)) 5 (nI 5)) 6 (nI 3)) 7 (nI 3))), .inl (kI κ, 8, .inl (fun _ => 0))]) hO est17 rfl rfl
  refine ws_dup 78 C dX3_init_78 rfl ?_
  refine ws_iconst 79 C dX3_init_79 (nI 0) (by decide) ?_
  refine ws_iconst 80 C dX3_init_80 (nI 0) (by decide) ?_
  refine ws_iast 81 C dX3_init_81 hO 3 rfl (vp_in_nI (by decide) (by decide)) 0 (nI_clamp (by decide)) (nI 0) rfl (fun st18 est18 => ?_)
  have hF := hF.put' est18 (show b ≤ b + 3 from by omega)
  have hO : Ob _ _ _ [.inr (3, [.ref (ad κ (b + 1)), .ref (ad κ (b + 2)), .null, .null, .null, .null, .int (nI 0)]), .inl (kI κ, 4, .inl (upd (upd (upd (upd (fun _ => 0) 0 (nI 80)) 1 (nI 6)) 2 (nI 12)) 3 (nI 1))), .inl (kI κ, 8, .inl (upd (upd (upd (upd (upd (upd (upd (upd (fun _ => 0) 0 (nI 8)) 1 (nI 3)) 2 (nI 3)) 3 (nI 3)) 4 (nI 3)) 5 (nI 5)) 6 (nI 3)) 7 (nI 3))), .inl (kI κ, 8, .inl (upd (fun _ => 0) 0 (nI 0)))] := Ob.put' (j := 3) hO est18 rfl
  refine ws_dup 82 C dX3_init_82 rfl ?_
  refine ws_iconst 83 C dX3_init_83 (nI 1) (by decide) ?_
  refine ws_iconst 84 C dX3_init_84 (nI 0) (by decide) ?_
  refine ws_iast 85 C dX3_init_85 hO 3 rfl (vp_in_nI (by decide) (by decide)) 1 (nI_clamp (by decide)) (nI 0) rfl (fun st19 est19 => ?_)
  have hF := hF.put' est19 (show b ≤ b + 3 from by omega)
  have hO : Ob _ _ _ [.inr (3, [.ref (ad κ (b + 1)), .ref (ad κ (b + 2)), .null, .null, .null, .null, .int (nI 0)]), .inl (kI κ, 4, .inl (upd (upd (upd (upd (fun _ => 0) 0 (nI 80)) 1 (nI 6)) 2 (nI 12)) 3 (nI 1))), .inl (kI κ, 8, .inl (upd (upd (upd (upd (upd (upd (upd (upd (fun _ => 0) 0 (nI 8)) 1 (nI 3)) 2 (nI 3)) 3 (nI 3)) 4 (nI 3)) 5 (nI 5)) 6 (nI 3)) 7 (nI 3))), .inl (kI κ, 8, .inl (upd (upd (fun _ => 0) 0 (nI 0)) 1 (nI 0)))] := Ob.put' (j := 3) hO est19 rfl
  refine ws_dup 86 C dX3_init_86 rfl ?_
  refine ws_iconst 87 C dX3_init_87 (nI 2) (by decide) ?_
  refine ws_iconst 88 C dX3_init_88 (nI 0) (by decide) ?_
  refine ws_iast 89 C dX3_init_89 hO 3 rfl (vp_in_nI (by decide) (by decide)) 2 (nI_clamp (by decide)) (nI 0) rfl (fun st20 est20 => ?_)
  have hF := hF.put' est20 (show b ≤ b + 3 from by omega)
  have hO : Ob _ _ _ [.inr (3, [.ref (ad κ (b + 1)), .ref (ad κ (b + 2)), .null, .null, .null, .null, .int (nI 0)]), .inl (kI κ, 4, .inl (upd (upd (upd (upd (fun _ => 0) 0 (nI 80)) 1 (nI 6)) 2 (nI 12)) 3 (nI 1))), .inl (kI κ, 8, .inl (upd (upd (upd (upd (upd (upd (upd (upd (fun _ => 0) 0 (nI 8)) 1 (nI 3)) 2 (nI 3)) 3 (nI 3)) 4 (nI 3)) 5 (nI 5)) 6 (nI 3)) 7 (nI 3))), .inl (kI κ, 8, .inl (upd (upd (upd (fun _ => 0) 0 (nI 0)) 1 (nI 0)) 2 (nI 0)))] := Ob.put' (j := 3) hO est20 rfl
  refine ws_dup 90 C dX3_init_90 rfl ?_
  refine ws_iconst 91 C dX3_init_91 (nI 3) (by decide) ?_
  refine ws_iconst 92 C dX3_init_92 (nI 0) (by decide) ?_
  refine ws_iast 93 C dX3_init_93 hO 3 rfl (vp_in_nI (by decide) (by decide)) 3 (nI_clamp (by decide)) (nI 0) rfl (fun st21 est21 => ?_)
  have hF := hF.put' est21 (show b ≤ b + 3 from by omega)
  have hO : Ob _ _ _ [.inr (3, [.ref (ad κ (b + 1)), .ref (ad κ (b + 2)), .null, .null, .null, .null, .int (nI 0)]), .inl (kI κ, 4, .inl (upd (upd (upd (upd (fun _ => 0) 0 (nI 80)) 1 (nI 6)) 2 (nI 12)) 3 (nI 1))), .inl (kI κ, 8, .inl (upd (upd (upd (upd (upd (upd (upd (upd (fun _ => 0) 0 (nI 8)) 1 (nI 3)) 2 (nI 3)) 3 (nI 3)) 4 (nI 3)) 5 (nI 5)) 6 (nI 3)) 7 (nI 3))), .inl (kI κ, 8, .inl (upd (upd (upd (upd (fun _ => 0) 0 (nI 0)) 1 (nI 0)) 2 (nI 0)) 3 (nI 0)))] := Ob.put' (j := 3) hO est21 rfl
  refine ws_dup 94 C dX3_init_94 rfl ?_
  refine ws_iconst 95 C dX3_init_95 (nI 4) (by decide) ?_
  refine ws_iconst 96 C dX3_init_96 (nI 0) (by decide) ?_
  refine ws_iast 97 C dX3_init_97 hO 3 rfl (vp_in_nI (by decide) (by decide)) 4 (nI_clamp (by decide)) (nI 0) rfl (fun st22 est22 => ?_)
  have hF := hF.put' est22 (show b ≤ b + 3 from by omega)
  have hO : Ob _ _ _ [.inr (3, [.ref (ad κ (b + 1)), .ref (ad κ (b + 2)), .null, .null, .null, .null, .int (nI 0)]), .inl (kI κ, 4, .inl (upd (upd (upd (upd (fun _ => 0) 0 (nI 80)) 1 (nI 6)) 2 (nI 12)) 3 (nI 1))), .inl (kI κ, 8, .inl (upd (upd (upd (upd (upd (upd (upd (upd (fun _ => 0) 0 (nI 8)) 1 (nI 3)) 2 (nI 3)) 3 (nI 3)) 4 (nI 3)) 5 (nI 5)) 6 (nI 3)) 7 (nI 3))), .inl (kI κ, 8, .inl (upd (upd (upd (upd (upd (fun _ => 0) 0 (nI 0)) 1 (nI 0)) 2 (nI 0)) 3 (nI 0)) 4 (nI 0)))] := Ob.put' (j := 3) hO est22 rfl
  refine ws_dup 98 C dX3_init_98 rfl ?_
  refine ws_iconst 99 C dX3_init_99 (nI 5) (by decide) ?_
  refine ws_iconst 100 C dX3_init_100 (nI 0) (by decide) ?_
  refine ws_iast 101 C dX3_init_101 hO 3 rfl (vp_in_nI (by decide) (by decide)) 5 (nI_clamp (by decide)) (nI 0) rfl (fun st23 est23 => ?_)
  have hF := hF.put' est23 (show b ≤ b + 3 from by omega)
  have hO : Ob _ _ _ [.inr (3, [.ref (ad κ (b + 1)), .ref (ad κ (b + 2)), .null, .null, .null, .null, .int (nI 0)]), .inl (kI κ, 4, .inl (upd (upd (upd (upd (fun _ => 0) 0 (nI 80)) 1 (nI 6)) 2 (nI 12)) 3 (nI 1))), .inl (kI κ, 8, .inl (upd (upd (upd (upd (upd (upd (upd (upd (fun _ => 0) 0 (nI 8)) 1 (nI 3)) 2 (nI 3)) 3 (nI 3)) 4 (nI 3)) 5 (nI 5)) 6 (nI 3)) 7 (nI 3))), .inl (kI κ, 8, .inl (upd (upd (upd (upd (upd (upd (fun _ => 0) 0 (nI 0)) 1 (nI 0)) 2 (nI 0)) 3 (nI 0)) 4 (nI 0)) 5 (nI 0)))] := Ob.put' (j := 3) hO est23 rfl
  refine ws_dup 102 C dX3_init_102 rfl ?_
  refine ws_bipush 103 C dX3_init_103 (nI 6) (by decide) ?_
  refine ws_bipush 105 C dX3_init_105 (nI 60) (by decide) ?_
  refine ws_iast 107 C dX3_init_107 hO 3 rfl (vp_in_nI (by decide) (by decide)) 6 (nI_clamp (by decide)) (nI 60) rfl (fun st24 est24 => ?_)
  have hF := hF.put' est24 (show b ≤ b + 3 from by omega)
  have hO : Ob _ _ _ [.inr (3, [.ref (ad κ (b + 1)), .ref (ad κ (b + 2)), .null, .null, .null, .null, .int (nI 0)]), .inl (kI κ, 4, .inl (upd (upd (upd (upd (fun _ => 0) 0 (nI 80)) 1 (nI 6)) 2 (nI 12)) 3 (nI 1))), .inl (kI κ, 8, .inl (upd (upd (upd (upd (upd (upd (upd (upd (fun _ => 0) 0 (nI 8)) 1 (nI 3)) 2 (nI 3)) 3 (nI 3)) 4 (nI 3)) 5 (nI 5)) 6 (nI 3)) 7 (nI 3))), .inl (kI κ, 8, .inl (upd (upd (upd (upd (upd (upd (upd (fun _ => 0) 0 (nI 0)) 1 (nI 0)) 2 (nI 0)) 3 (nI 0)) 4 (nI 0)) 5 (nI 0)) 6 (nI 60)))] := Ob.put' (j := 3) hO est24 rfl
  refine ws_dup 108 C dX3_init_108 rfl ?_
  refine ws_bipush 109 C dX3_init_109 (nI 7) (by decide) ?_
  refine ws_iconst 111 C dX3_init_111 (nI 0) (by decide) ?_
  refine ws_iast 112 C dX3_init_112 hO 3 rfl (vp_in_nI (by decide) (by decide)) 7 (nI_clamp (by decide)) (nI 0) rfl (fun st25 est25 => ?_)
  have hF := hF.put' est25 (show b ≤ b + 3 from by omega)
  have hO : Ob _ _ _ [.inr (3, [.ref (ad κ (b + 1)), .ref (ad κ (b + 2)), .null, .null, .null, .null, .int (nI 0)]), .inl (kI κ, 4, .inl (upd (upd (upd (upd (fun _ => 0) 0 (nI 80)) 1 (nI 6)) 2 (nI 12)) 3 (nI 1))), .inl (kI κ, 8, .inl (upd (upd (upd (upd (upd (upd (upd (upd (fun _ => 0) 0 (nI 8)) 1 (nI 3)) 2 (nI 3)) 3 (nI 3)) 4 (nI 3)) 5 (nI 5)) 6 (nI 3)) 7 (nI 3))), .inl (kI κ, 8, .inl (upd (upd (upd (upd (upd (upd (upd (upd (fun _ => 0) 0 (nI 0)) 1 (nI 0)) 2 (nI 0)) 3 (nI 0)) 4 (nI 0)) 5 (nI 0)) 6 (nI 60)) 7 (nI 0)))] := Ob.put' (j := 3) hO est25 rfl
  refine ws_putF 113 C dX3_init_113 fX3_18 q3_2 hin rfl hO rfl (Nat.le_of_ble_eq_true rfl) rfl rfl (fun st26 est26 => ?_)
  have hF := hF.put' est26 (show b ≤ b from by omega)
  have hO : Ob _ _ _ [.inr (3, [.ref (ad κ (b + 1)), .ref (ad κ (b + 2)), .ref (ad κ (b + 3)), .null, .null, .null, .int (nI 0)]), .inl (kI κ, 4, .inl (upd (upd (upd (upd (fun _ => 0) 0 (nI 80)) 1 (nI 6)) 2 (nI 12)) 3 (nI 1))), .inl (kI κ, 8, .inl (upd (upd (upd (upd (upd (upd (upd (upd (fun _ => 0) 0 (nI 8)) 1 (nI 3)) 2 (nI 3)) 3 (nI 3)) 4 (nI 3)) 5 (nI 5)) 6 (nI 3)) 7 (nI 3))), .inl (kI κ, 8, .inl (upd (upd (upd (upd (upd (upd (upd (upd (fun _ => 0) 0 (nI 0)) 1 (nI 0)) 2 (nI 0)) 3 (nI 0)) 4 (nI 0)) 5 (nI 0)) 6 (nI 60)) 7 (nI 0)))] := Ob.put' (j := 0) hO est26 rfl
  refine ws_aload_n 116 C dX3_init_116 rfl ?_
  refine ws_bipush 117 C dX3_init_117 (nI 8) (by decide) ?_
  refine ws_newaI 119 C dX3_init_119 8 (by decide) (nI_clamp (by decide)) (by decide) k42 (Nat.le_of_ble_eq_true rfl) (Nat.le_of_ble_eq_true rfl) (wsE (fun st27 est27 => ?_))
  have hF := hF.put' est27 (show b ≤ b + 4 from by omega)
  have hO := Ob.push' (es' := [.inr (3, [.ref (ad κ (b + 1)), .ref (ad κ (b + 2)), .ref (ad κ (b + 3)), .null, .null, .null, .int (nI 0)]), .inl (kI κ, 4, .inl (upd (upd (upd (upd (fun _ => 0) 0 (nI 80)) 1 (nI 6)) 2 (nI 12)) 3 (nI 1))), .inl (kI κ, 8, .inl (upd (upd (upd (upd (upd (upd (upd (upd (fun _ => 0) 0 (nI 8)) 1 (nI 3)) 2 (nI 3)) 3 (nI 3)) 4 (nI 3)) 5 (nI 5)) 6 (nI 3)) 7 (nI 3))), .inl (kI κ, 8, .inl (upd (upd (upd (upd (upd (upd (upd (upd (fun _ => 0) 0 (nI 0)) 1 (nI 0)) 2 (nI 0)) 3 (nI 0)) 4 (nI 0)) 5 (nI 0)) 6 (nI 60)) 7 (nI 0))), .inl (kI κ, 8, .inl (fun _ => 0))]) hO est27 rfl rfl
  refine ws_dup 121 C dX3_init_121 rfl ?_
  refine ws_iconst 122 C dX3_init_122 (nI 0) (by decide) ?_
  refine ws_iconst 123 C dX3_init_123 (nI 0) (by decide) ?_
  refine ws_iast 124 C dX3_init_124 hO 4 rfl (vp_in_nI (by decide) (by decide)) 0 (nI_clamp (by decide)) (nI 0) rfl (fun st28 est28 => ?_)
  have hF := hF.put' est28 (show b ≤ b + 4 from by omega)
  have hO : Ob _ _ _ [.inr (3, [.ref (ad κ (b + 1)), .ref (ad κ (b + 2)), .ref (ad κ (b + 3)), .null, .null, .null, .int (nI 0)]), .inl (kI κ, 4, .inl (upd (upd (upd (upd (fun _ => 0) 0 (nI 80)) 1 (nI 6)) 2 (nI 12)) 3 (nI 1))), .inl (kI κ, 8, .inl (upd (upd (upd (upd (upd (upd (upd (upd (fun _ => 0) 0 (nI 8)) 1 (nI 3)) 2 (nI 3)) 3 (nI 3)) 4 (nI 3)) 5 (nI 5)) 6 (nI 3)) 7 (nI 3))), .inl (kI κ, 8, .inl (upd (upd (upd (upd (upd (upd (upd (upd (fun _ => 0) 0 (nI 0)) 1 (nI 0)) 2 (nI 0)) 3 (nI 0)) 4 (nI 0)) 5 (nI 0)) 6 (nI 60)) 7 (nI 0))), .inl (kI κ, 8, .inl (upd (fun _ => 0) 0 (nI 0)))] := Ob.put' (j := 4) hO est28 rfl
  refine ws_dup 125 C dX3_init_125 rfl ?_
  refine ws_iconst 126 C dX3_init_126 (nI 1) (by decide) ?_
  refine ws_bipush 127 C dX3_init_127 (nI 100) (by decide) ?_
  refine ws_iast 129 C dX3_init_129 hO 4 rfl (vp_in_nI (by decide) (by decide)) 1 (nI_clamp (by decide)) (nI 100) rfl (fun st29 est29 => ?_)
  have hF := hF.put' est29 (show b ≤ b + 4 from by omega)
  have hO : Ob _ _ _ [.inr (3, [.ref (ad κ (b + 1)), .ref (ad κ (b + 2)), .ref (ad κ (b + 3)), .null, .null, .null, .int (nI 0)]), .inl (kI κ, 4, .inl (upd (upd (upd (upd (fun _ => 0) 0 (nI 80)) 1 (nI 6)) 2 (nI 12)) 3 (nI 1))), .inl (kI κ, 8, .inl (upd (upd (upd (upd (upd (upd (upd (upd (fun _ => 0) 0 (nI 8)) 1 (nI 3)) 2 (nI 3)) 3 (nI 3)) 4 (nI 3)) 5 (nI 5)) 6 (nI 3)) 7 (nI 3))), .inl (kI κ, 8, .inl (upd (upd (upd (upd (upd (upd (upd (upd (fun _ => 0) 0 (nI 0)) 1 (nI 0)) 2 (nI 0)) 3 (nI 0)) 4 (nI 0)) 5 (nI 0)) 6 (nI 60)) 7 (nI 0))), .inl (kI κ, 8, .inl (upd (upd (fun _ => 0) 0 (nI 0)) 1 (nI 100)))] := Ob.put' (j := 4) hO est29 rfl
  refine ws_dup 130 C dX3_init_130 rfl ?_
  refine ws_iconst 131 C dX3_init_131 (nI 2) (by decide) ?_
  refine ws_bipush 132 C dX3_init_132 (nI 100) (by decide) ?_
  refine ws_iast 134 C dX3_init_134 hO 4 rfl (vp_in_nI (by decide) (by decide)) 2 (nI_clamp (by decide)) (nI 100) rfl (fun st30 est30 => ?_)
  have hF := hF.put' est30 (show b ≤ b + 4 from by omega)
  have hO : Ob _ _ _ [.inr (3, [.ref (ad κ (b + 1)), .ref (ad κ (b + 2)), .ref (ad κ (b + 3)), .null, .null, .null, .int (nI 0)]), .inl (kI κ, 4, .inl (upd (upd (upd (upd (fun _ => 0) 0 (nI 80)) 1 (nI 6)) 2 (nI 12)) 3 (nI 1))), .inl (kI κ, 8, .inl (upd (upd (upd (upd (upd (upd (upd (upd (fun _ => 0) 0 (nI 8)) 1 (nI 3)) 2 (nI 3)) 3 (nI 3)) 4 (nI 3)) 5 (nI 5)) 6 (nI 3)) 7 (nI 3))), .inl (kI κ, 8, .inl (upd (upd (upd (upd (upd (upd (upd (upd (fun _ => 0) 0 (nI 0)) 1 (nI 0)) 2 (nI 0)) 3 (nI 0)) 4 (nI 0)) 5 (nI 0)) 6 (nI 60)) 7 (nI 0))), .inl (kI κ, 8, .inl (upd (upd (upd (fun _ => 0) 0 (nI 0)) 1 (nI 100)) 2 (nI 100)))] := Ob.put' (j := 4) hO est30 rfl
  refine ws_dup 135 C dX3_init_135 rfl ?_
  refine ws_iconst 136 C dX3_init_136 (nI 3) (by decide) ?_
  refine ws_bipush 137 C dX3_init_137 (nI 50) (by decide) ?_
  refine ws_iast 139 C dX3_init_139 hO 4 rfl (vp_in_nI (by decide) (by decide)) 3 (nI_clamp (by decide)) (nI 50) rfl (fun st31 est31 => ?_)
  have hF := hF.put' est31 (show b ≤ b + 4 from by omega)
  have hO : Ob _ _ _ [.inr (3, [.ref (ad κ (b + 1)), .ref (ad κ (b + 2)), .ref (ad κ (b + 3)), .null, .null, .null, .int (nI 0)]), .inl (kI κ, 4, .inl (upd (upd (upd (upd (fun _ => 0) 0 (nI 80)) 1 (nI 6)) 2 (nI 12)) 3 (nI 1))), .inl (kI κ, 8, .inl (upd (upd (upd (upd (upd (upd (upd (upd (fun _ => 0) 0 (nI 8)) 1 (nI 3)) 2 (nI 3)) 3 (nI 3)) 4 (nI 3)) 5 (nI 5)) 6 (nI 3)) 7 (nI 3))), .inl (kI κ, 8, .inl (upd (upd (upd (upd (upd (upd (upd (upd (fun _ => 0) 0 (nI 0)) 1 (nI 0)) 2 (nI 0)) 3 (nI 0)) 4 (nI 0)) 5 (nI 0)) 6 (nI 60)) 7 (nI 0))), .inl (kI κ, 8, .inl (upd (upd (upd (upd (fun _ => 0) 0 (nI 0)) 1 (nI 100)) 2 (nI 100)) 3 (nI 50)))] := Ob.put' (j := 4) hO est31 rfl
  refine ws_dup 140 C dX3_init_140 rfl ?_
  refine ws_iconst 141 C dX3_init_141 (nI 4) (by decide) ?_
  refine ws_bipush 142 C dX3_init_142 (nI 50) (by decide) ?_
  refine ws_iast 144 C dX3_init_144 hO 4 rfl (vp_in_nI (by decide) (by decide)) 4 (nI_clamp (by decide)) (nI 50) rfl (fun st32 est32 => ?_)
  have hF := hF.put' est32 (show b ≤ b + 4 from by omega)
  have hO : Ob _ _ _ [.inr (3, [.ref (ad κ (b + 1)), .ref (ad κ (b + 2)), .ref (ad κ (b + 3)), .null, .null, .null, .int (nI 0)]), .inl (kI κ, 4, .inl (upd (upd (upd (upd (fun _ => 0) 0 (nI 80)) 1 (nI 6)) 2 (nI 12)) 3 (nI 1))), .inl (kI κ, 8, .inl (upd (upd (upd (upd (upd (upd (upd (upd (fun _ => 0) 0 (nI 8)) 1 (nI 3)) 2 (nI 3)) 3 (nI 3)) 4 (nI 3)) 5 (nI 5)) 6 (nI 3)) 7 (nI 3))), .inl (kI κ, 8, .inl (upd (upd (upd (upd (upd (upd (upd (upd (fun _ => 0) 0 (nI 0)) 1 (nI 0)) 2 (nI 0)) 3 (nI 0)) 4 (nI 0)) 5 (nI 0)) 6 (nI 60)) 7 (nI 0))), .inl (kI κ, 8, .inl (upd (upd (upd (upd (upd (fun _ => 0) 0 (nI 0)) 1 (nI 100)) 2 (nI 100)) 3 (nI 50)) 4 (nI 50)))] := Ob.put' (j := 4) hO est32 rfl
  refine ws_dup 145 C dX3_init_145 rfl ?_
  refine ws_iconst 146 C dX3_init_146 (nI 5) (by decide) ?_
  refine ws_bipush 147 C dX3_init_147 (nI 70) (by decide) ?_
  refine ws_iast 149 C dX3_init_149 hO 4 rfl (vp_in_nI (by decide) (by decide)) 5 (nI_clamp (by decide)) (nI 70) rfl (fun st33 est33 => ?_)
  have hF := hF.put' est33 (show b ≤ b + 4 from by omega)
  have hO : Ob _ _ _ [.inr (3, [.ref (ad κ (b + 1)), .ref (ad κ (b + 2)), .ref (ad κ (b + 3)), .null, .null, .null, .int (nI 0)]), .inl (kI κ, 4, .inl (upd (upd (upd (upd (fun _ => 0) 0 (nI 80)) 1 (nI 6)) 2 (nI 12)) 3 (nI 1))), .inl (kI κ, 8, .inl (upd (upd (upd (upd (upd (upd (upd (upd (fun _ => 0) 0 (nI 8)) 1 (nI 3)) 2 (nI 3)) 3 (nI 3)) 4 (nI 3)) 5 (nI 5)) 6 (nI 3)) 7 (nI 3))), .inl (kI κ, 8, .inl (upd (upd (upd (upd (upd (upd (upd (upd (fun _ => 0) 0 (nI 0)) 1 (nI 0)) 2 (nI 0)) 3 (nI 0)) 4 (nI 0)) 5 (nI 0)) 6 (nI 60)) 7 (nI 0))), .inl (kI κ, 8, .inl (upd (upd (upd (upd (upd (upd (fun _ => 0) 0 (nI 0)) 1 (nI 100)) 2 (nI 100)) 3 (nI 50)) 4 (nI 50)) 5 (nI 70)))] := Ob.put' (j := 4) hO est33 rfl
  refine ws_dup 150 C dX3_init_150 rfl ?_
  refine ws_bipush 151 C dX3_init_151 (nI 6) (by decide) ?_
  refine ws_bipush 153 C dX3_init_153 (nI 60) (by decide) ?_
  refine ws_iast 155 C dX3_init_155 hO 4 rfl (vp_in_nI (by decide) (by decide)) 6 (nI_clamp (by decide)) (nI 60) rfl (fun st34 est34 => ?_)
  have hF := hF.put' est34 (show b ≤ b + 4 from by omega)
  have hO : Ob _ _ _ [.inr (3, [.ref (ad κ (b + 1)), .ref (ad κ (b + 2)), .ref (ad κ (b + 3)), .null, .null, .null, .int (nI 0)]), .inl (kI κ, 4, .inl (upd (upd (upd (upd (fun _ => 0) 0 (nI 80)) 1 (nI 6)) 2 (nI 12)) 3 (nI 1))), .inl (kI κ, 8, .inl (upd (upd (upd (upd (upd (upd (upd (upd (fun _ => 0) 0 (nI 8)) 1 (nI 3)) 2 (nI 3)) 3 (nI 3)) 4 (nI 3)) 5 (nI 5)) 6 (nI 3)) 7 (nI 3))), .inl (kI κ, 8, .inl (upd (upd (upd (upd (upd (upd (upd (upd (fun _ => 0) 0 (nI 0)) 1 (nI 0)) 2 (nI 0)) 3 (nI 0)) 4 (nI 0)) 5 (nI 0)) 6 (nI 60)) 7 (nI 0))), .inl (kI κ, 8, .inl (upd (upd (upd (upd (upd (upd (upd (fun _ => 0) 0 (nI 0)) 1 (nI 100)) 2 (nI 100)) 3 (nI 50)) 4 (nI 50)) 5 (nI 70)) 6 (nI 60)))] := Ob.put' (j := 4) hO est34 rfl
  refine ws_dup 156 C dX3_init_156 rfl ?_
  refine ws_bipush 157 C dX3_init_157 (nI 7) (by decide) ?_
  refine ws_iconst 159 C dX3_init_159 (nI 0) (by decide) ?_
  refine ws_iast 160 C dX3_init_160 hO 4 rfl (vp_in_nI (by decide) (by decide)) 7 (nI_clamp (by decide)) (nI 0) rfl (fun st35 est35 => ?_)
  have hF := hF.put' est35 (show b ≤ b + 4 from by omega)
  have hO : Ob _ _ _ [.inr (3, [.ref (ad κ (b + 1)), .ref (ad κ (b + 2)), .ref (ad κ (b + 3)), .null, .null, .null, .int (nI 0)]), .inl (kI κ, 4, .inl (upd (upd (upd (upd (fun _ => 0) 0 (nI 80)) 1 (nI 6)) 2 (nI 12)) 3 (nI 1))), .inl (kI κ, 8, .inl (upd (upd (upd (upd (upd (upd (upd (upd (fun _ => 0) 0 (nI 8)) 1 (nI 3)) 2 (nI 3)) 3 (nI 3)) 4 (nI 3)) 5 (nI 5)) 6 (nI 3)) 7 (nI 3))), .inl (kI κ, 8, .inl (upd (upd (upd (upd (upd (upd (upd (upd (fun _ => 0) 0 (nI 0)) 1 (nI 0)) 2 (nI 0)) 3 (nI 0)) 4 (nI 0)) 5 (nI 0)) 6 (nI 60)) 7 (nI 0))), .inl (kI κ, 8, .inl (upd (upd (upd (upd (upd (upd (upd (upd (fun _ => 0) 0 (nI 0)) 1 (nI 100)) 2 (nI 100)) 3 (nI 50)) 4 (nI 50)) 5 (nI 70)) 6 (nI 60)) 7 (nI 0)))] := Ob.put' (j := 4) hO est35 rfl
  refine ws_putF 161 C dX3_init_161 fX3_21 q3_3 hin rfl hO rfl (Nat.le_of_ble_eq_true rfl) rfl rfl (fun st36 est36 => ?_)
  have hF := hF.put' est36 (show b ≤ b from by omega)
  have hO : Ob _ _ _ [.inr (3, [.ref (ad κ (b + 1)), .ref (ad κ (b + 2)), .ref (ad κ (b + 3)), .ref (ad κ (b + 4)), .null, .null, .int (nI 0)]), .inl (kI κ, 4, .inl (upd (upd (upd (upd (fun _ => 0) 0 (nI 80)) 1 (nI 6)) 2 (nI 12)) 3 (nI 1))), .inl (kI κ, 8, .inl (upd (upd (upd (upd (upd (upd (upd (upd (fun _ => 0) 0 (nI 8)) 1 (nI 3)) 2 (nI 3)) 3 (nI 3)) 4 (nI 3)) 5 (nI 5)) 6 (nI 3)) 7 (nI 3))), .inl (kI κ, 8, .inl (upd (upd (upd (upd (upd (upd (upd (upd (fun _ => 0) 0 (nI 0)) 1 (nI 0)) 2 (nI 0)) 3 (nI 0)) 4 (nI 0)) 5 (nI 0)) 6 (nI 60)) 7 (nI 0))), .inl (kI κ, 8, .inl (upd (upd (upd (upd (upd (upd (upd (upd (fun _ => 0) 0 (nI 0)) 1 (nI 100)) 2 (nI 100)) 3 (nI 50)) 4 (nI 50)) 5 (nI 70)) 6 (nI 60)) 7 (nI 0)))] := Ob.put' (j := 0) hO est36 rfl
  refine ws_aload_n 164 C dX3_init_164 rfl ?_
  refine ws_sipush 165 C dX3_init_165 (nI 240) (by decide) ?_
  refine ws_newaC 168 C dX3_init_168 240 (by decide) (nI_clamp (by decide)) (by decide) k43 (Nat.le_of_ble_eq_true rfl) (Nat.le_of_ble_eq_true rfl) (wsE (fun st37 est37 => ?_))
  have hF := hF.put' est37 (show b ≤ b + 5 from by omega)
  have hO := Ob.push' (es' := [.inr (3, [.ref (ad κ (b + 1)), .ref (ad κ (b + 2)), .ref (ad κ (b + 3)), .ref (ad κ (b + 4)), .null, .null, .int (nI 0)]), .inl (kI κ, 4, .inl (upd (upd (upd (upd (fun _ => 0) 0 (nI 80)) 1 (nI 6)) 2 (nI 12)) 3 (nI 1))), .inl (kI κ, 8, .inl (upd (upd (upd (upd (upd (upd (upd (upd (fun _ => 0) 0 (nI 8)) 1 (nI 3)) 2 (nI 3)) 3 (nI 3)) 4 (nI 3)) 5 (nI 5)) 6 (nI 3)) 7 (nI 3))), .inl (kI κ, 8, .inl (upd (upd (upd (upd (upd (upd (upd (upd (fun _ => 0) 0 (nI 0)) 1 (nI 0)) 2 (nI 0)) 3 (nI 0)) 4 (nI 0)) 5 (nI 0)) 6 (nI 60)) 7 (nI 0))), .inl (kI κ, 8, .inl (upd (upd (upd (upd (upd (upd (upd (upd (fun _ => 0) 0 (nI 0)) 1 (nI 100)) 2 (nI 100)) 3 (nI 50)) 4 (nI 50)) 5 (nI 70)) 6 (nI 60)) 7 (nI 0))), .inl (kC κ, 240, .inl (fun _ => 0))]) hO est37 rfl rfl
  refine ws_putF 170 C dX3_init_170 fX3_24 q3_4 hin rfl hO rfl (Nat.le_of_ble_eq_true rfl) rfl rfl (fun st38 est38 => ?_)
  have hF := hF.put' est38 (show b ≤ b from by omega)
  have hO : Ob _ _ _ [.inr (3, [.ref (ad κ (b + 1)), .ref (ad κ (b + 2)), .ref (ad κ (b + 3)), .ref (ad κ (b + 4)), .ref (ad κ (b + 5)), .null, .int (nI 0)]), .inl (kI κ, 4, .inl (upd (upd (upd (upd (fun _ => 0) 0 (nI 80)) 1 (nI 6)) 2 (nI 12)) 3 (nI 1))), .inl (kI κ, 8, .inl (upd (upd (upd (upd (upd (upd (upd (upd (fun _ => 0) 0 (nI 8)) 1 (nI 3)) 2 (nI 3)) 3 (nI 3)) 4 (nI 3)) 5 (nI 5)) 6 (nI 3)) 7 (nI 3))), .inl (kI κ, 8, .inl (upd (upd (upd (upd (upd (upd (upd (upd (fun _ => 0) 0 (nI 0)) 1 (nI 0)) 2 (nI 0)) 3 (nI 0)) 4 (nI 0)) 5 (nI 0)) 6 (nI 60)) 7 (nI 0))), .inl (kI κ, 8, .inl (upd (upd (upd (upd (upd (upd (upd (upd (fun _ => 0) 0 (nI 0)) 1 (nI 100)) 2 (nI 100)) 3 (nI 50)) 4 (nI 50)) 5 (nI 70)) 6 (nI 60)) 7 (nI 0))), .inl (kC κ, 240, .inl (fun _ => 0))] := Ob.put' (j := 0) hO est38 rfl
  refine ws_aload_n 173 C dX3_init_173 rfl ?_
  refine ws_bipush 174 C dX3_init_174 (nI 24) (by decide) ?_
  refine ws_newaI 176 C dX3_init_176 24 (by decide) (nI_clamp (by decide)) (by decide) k42 (Nat.le_of_ble_eq_true rfl) (Nat.le_of_ble_eq_true rfl) (wsE (fun st39 est39 => ?_))
  have hF := hF.put' est39 (show b ≤ b + 6 from by omega)
  have hO := Ob.push' (es' := [.inr (3, [.ref (ad κ (b + 1)), .ref (ad κ (b + 2)), .ref (ad κ (b + 3)), .ref (ad κ (b + 4)), .ref (ad κ (b + 5)), .null, .int (nI 0)]), .inl (kI κ, 4, .inl (upd (upd (upd (upd (fun _ => 0) 0 (nI 80)) 1 (nI 6)) 2 (nI 12)) 3 (nI 1))), .inl (kI κ, 8, .inl (upd (upd (upd (upd (upd (upd (upd (upd (fun _ => 0) 0 (nI 8)) 1 (nI 3)) 2 (nI 3)) 3 (nI 3)) 4 (nI 3)) 5 (nI 5)) 6 (nI 3)) 7 (nI 3))), .inl (kI κ, 8, .inl (upd (upd (upd (upd (upd (upd (upd (upd (fun _ => 0) 0 (nI 0)) 1 (nI 0)) 2 (nI 0)) 3 (nI 0)) 4 (nI 0)) 5 (nI 0)) 6 (nI 60)) 7 (nI 0))), .inl (kI κ, 8, .inl (upd (upd (upd (upd (upd (upd (upd (upd (fun _ => 0) 0 (nI 0)) 1 (nI 100)) 2 (nI 100)) 3 (nI 50)) 4 (nI 50)) 5 (nI 70)) 6 (nI 60)) 7 (nI 0))), .inl (kC κ, 240, .inl (fun _ => 0)), .inl (kI κ, 24, .inl (fun _ => 0))]) hO est39 rfl rfl
  refine ws_putF 178 C dX3_init_178 fX3_28 q3_5 hin rfl hO rfl (Nat.le_of_ble_eq_true rfl) rfl rfl (fun st40 est40 => ?_)
  have hF := hF.put' est40 (show b ≤ b from by omega)
  have hO : Ob _ _ _ [.inr (3, [.ref (ad κ (b + 1)), .ref (ad κ (b + 2)), .ref (ad κ (b + 3)), .ref (ad κ (b + 4)), .ref (ad κ (b + 5)), .ref (ad κ (b + 6)), .int (nI 0)]), .inl (kI κ, 4, .inl (upd (upd (upd (upd (fun _ => 0) 0 (nI 80)) 1 (nI 6)) 2 (nI 12)) 3 (nI 1))), .inl (kI κ, 8, .inl (upd (upd (upd (upd (upd (upd (upd (upd (fun _ => 0) 0 (nI 8)) 1 (nI 3)) 2 (nI 3)) 3 (nI 3)) 4 (nI 3)) 5 (nI 5)) 6 (nI 3)) 7 (nI 3))), .inl (kI κ, 8, .inl (upd (upd (upd (upd (upd (upd (upd (upd (fun _ => 0) 0 (nI 0)) 1 (nI 0)) 2 (nI 0)) 3 (nI 0)) 4 (nI 0)) 5 (nI 0)) 6 (nI 60)) 7 (nI 0))), .inl (kI κ, 8, .inl (upd (upd (upd (upd (upd (upd (upd (upd (fun _ => 0) 0 (nI 0)) 1 (nI 100)) 2 (nI 100)) 3 (nI 50)) 4 (nI 50)) 5 (nI 70)) 6 (nI 60)) 7 (nI 0))), .inl (kC κ, 240, .inl (fun _ => 0)), .inl (kI κ, 24, .inl (fun _ => 0))] := Ob.put' (j := 0) hO est40 rfl
  refine ws_aload_n 181 C dX3_init_181 rfl ?_
  refine ws_iconst 182 C dX3_init_182 (nI 0) (by decide) ?_
  refine ws_put 183 C dX3_init_183 fX3_31 q3_6 hO rfl (Nat.le_of_ble_eq_true rfl) rfl rfl (fun st41 est41 => ?_)
  have hF := hF.put' est41 (show b ≤ b from by omega)
  have hO : Ob _ _ _ [.inr (3, [.ref (ad κ (b + 1)), .ref (ad κ (b + 2)), .ref (ad κ (b + 3)), .ref (ad κ (b + 4)), .ref (ad κ (b + 5)), .ref (ad κ (b + 6)), .int (nI 0)]), .inl (kI κ, 4, .inl (upd (upd (upd (upd (fun _ => 0) 0 (nI 80)) 1 (nI 6)) 2 (nI 12)) 3 (nI 1))), .inl (kI κ, 8, .inl (upd (upd (upd (upd (upd (upd (upd (upd (fun _ => 0) 0 (nI 8)) 1 (nI 3)) 2 (nI 3)) 3 (nI 3)) 4 (nI 3)) 5 (nI 5)) 6 (nI 3)) 7 (nI 3))), .inl (kI κ, 8, .inl (upd (upd (upd (upd (upd (upd (upd (upd (fun _ => 0) 0 (nI 0)) 1 (nI 0)) 2 (nI 0)) 3 (nI 0)) 4 (nI 0)) 5 (nI 0)) 6 (nI 60)) 7 (nI 0))), .inl (kI κ, 8, .inl (upd (upd (upd (upd (upd (upd (upd (upd (fun _ => 0) 0 (nI 0)) 1 (nI 100)) 2 (nI 100)) 3 (nI 50)) 4 (nI 50)) 5 (nI 70)) 6 (nI 60)) 7 (nI 0))), .inl (kC κ, 240, .inl (fun _ => 0)), .inl (kI κ, 24, .inl (fun _ => 0))] := Ob.put' (j := 0) hO est41 rfl
  exact ws_vret 186 C dX3_init_186 rfl (Nat.le_of_ble_eq_true rfl) (Nat.le_of_ble_eq_true rfl) (by rw [hP]; exact ⟨rfl, ⟨⟨_, _, _, _, _, _, hO, mu0_ok, trivial, by decide, by decide, by decide, by decide, fun _ => rfl, fun i hi => absurd hi (Nat.not_lt_zero i), fun i hi => absurd hi (Nat.not_lt_zero i)⟩, hF⟩⟩)

set_option maxRecDepth 100000 in
set_option maxHeartbeats 4000000 in
theorem c_X1_init {b : Nat} (hO : Ob (b + 1) st0 b [.inr (1, dX1)]) : CT zl κ yX1_init cX1_init 1 none { frames := 1, cells := 6, slots := 147, locals := 12 } (b + 1) [.ref (ad κ b)] st0 (PV fun u => LyA κ (b + 7) u b ∧ Fr (fun q : Nat => b ≤ q) st0 u) := by
  obtain ⟨P, hP⟩ : ∃ P : Option Value → St → Prop, P = (PV fun u => LyA κ (b + 7) u b ∧ Fr (fun q : Nat => b ≤ q) st0 u) := ⟨_, rfl⟩
  rw [← hP]
  refine CT.of (by decide +kernel) (Nat.le_of_ble_eq_true rfl) (fun zp ze zs zm zar zbe zme zc C hN => ?_)
  have hin := hN rfl
  have C : Cx zp zs zm zar zme zc κ cX1_init 1 RX1 none := C
  refine ws_lv (lv2 := [some (.ref (ad κ b))]) rfl ?_
  have hF : Fr (fun q : Nat => b ≤ q) st0 st0 := Fr.rf
  refine ws_aload_n 0 C dX1_init_0 rfl ?_
  refine ws_objI 1 C dX1_init_1 k49 k19 k20 rfl (Nat.le_of_ble_eq_true rfl) (Nat.le_of_ble_eq_true rfl) ?_
  refine ws_aload_n 4 C dX1_init_4 rfl ?_
  refine ws_bipush 5 C dX1_init_5 (nI 25) (by decide) ?_
  refine ws_newaI 7 C dX1_init_7 25 (by decide) (nI_clamp (by decide)) (by decide) k42 (Nat.le_of_ble_eq_true rfl) (Nat.le_of_ble_eq_true rfl) (wsE (fun st1 est1 => ?_))
  have hF := hF.put' est1 (show b ≤ b + 1 from by omega)
  have hO := Ob.push' (es' := [.inr (1, dX1), .inl (kI κ, 25, .inl (fun _ => 0))]) hO est1 rfl rfl
  refine ws_putF 9 C dX1_init_9 fX1_9 q1_0 hin rfl hO rfl (Nat.le_of_ble_eq_true rfl) rfl rfl (fun st2 est2 => ?_)
  have hF := hF.put' est2 (show b ≤ b from by omega)
  have hO : Ob _ _ _ [.inr (1, [.ref (ad κ (b + 1)), .null, .null, .int (nI 0), .int (nI 0), .int (nI 0), .int (nI 0), .null, .int (nI 0), .null, .null]), .inl (kI κ, 25, .inl (fun _ => 0))] := Ob.put' (j := 0) hO est2 rfl
  refine ws_aload_n 12 C dX1_init_12 rfl ?_
  refine ws_bipush 13 C dX1_init_13 (nI 24) (by decide) ?_
  refine ws_newaI 15 C dX1_init_15 24 (by decide) (nI_clamp (by decide)) (by decide) k42 (Nat.le_of_ble_eq_true rfl) (Nat.le_of_ble_eq_true rfl) (wsE (fun st3 est3 => ?_))
  have hF := hF.put' est3 (show b ≤ b + 2 from by omega)
  have hO := Ob.push' (es' := [.inr (1, [.ref (ad κ (b + 1)), .null, .null, .int (nI 0), .int (nI 0), .int (nI 0), .int (nI 0), .null, .int (nI 0), .null, .null]), .inl (kI κ, 25, .inl (fun _ => 0)), .inl (kI κ, 24, .inl (fun _ => 0))]) hO est3 rfl rfl
  refine ws_putF 17 C dX1_init_17 fX1_15 q1_1 hin rfl hO rfl (Nat.le_of_ble_eq_true rfl) rfl rfl (fun st4 est4 => ?_)
  have hF := hF.put' est4 (show b ≤ b from by omega)
  have hO : Ob _ _ _ [.inr (1, [.ref (ad κ (b + 1)), .ref (ad κ (b + 2)), .null, .int (nI 0), .int (nI 0), .int (nI 0), .int (nI 0), .null, .int (nI 0), .null, .null]), .inl (kI κ, 25, .inl (fun _ => 0)), .inl (kI κ, 24, .inl (fun _ => 0))] := Ob.put' (j := 0) hO est4 rfl
  refine ws_aload_n 20 C dX1_init_20 rfl ?_
  refine ws_bipush 21 C dX1_init_21 (nI 24) (by decide) ?_
  refine ws_newaI 23 C dX1_init_23 24 (by decide) (nI_clamp (by decide)) (by decide) k42 (Nat.le_of_ble_eq_true rfl) (Nat.le_of_ble_eq_true rfl) (wsE (fun st5 est5 => ?_))
  have hF := hF.put' est5 (show b ≤ b + 3 from by omega)
  have hO := Ob.push' (es' := [.inr (1, [.ref (ad κ (b + 1)), .ref (ad κ (b + 2)), .null, .int (nI 0), .int (nI 0), .int (nI 0), .int (nI 0), .null, .int (nI 0), .null, .null]), .inl (kI κ, 25, .inl (fun _ => 0)), .inl (kI κ, 24, .inl (fun _ => 0)), .inl (kI κ, 24, .inl (fun _ => 0))]) hO est5 rfl rfl
  refine ws_putF 25 C dX1_init_25 fX1_18 q1_2 hin rfl hO rfl (Nat.le_of_ble_eq_true rfl) rfl rfl (fun st6 est6 => ?_)
  have hF := hF.put' est6 (show b ≤ b from by omega)
  have hO : Ob _ _ _ [.inr (1, [.ref (ad κ (b + 1)), .ref (ad κ (b + 2)), .ref (ad κ (b + 3)), .int (nI 0), .int (nI 0), .int (nI 0), .int (nI 0), .null, .int (nI 0), .null, .null]), .inl (kI κ, 25, .inl (fun _ => 0)), .inl (kI κ, 24, .inl (fun _ => 0)), .inl (kI κ, 24, .inl (fun _ => 0))] := Ob.put' (j := 0) hO est6 rfl
  refine ws_aload_n 28 C dX1_init_28 rfl ?_
  refine ws_iconst 29 C dX1_init_29 (nI 0) (by decide) ?_
  refine ws_put 30 C dX1_init_30 fX1_21 q1_3 hO rfl (Nat.le_of_ble_eq_true rfl) rfl rfl (fun st7 est7 => ?_)
  have hF := hF.put' est7 (show b ≤ b from by omega)
  have hO : Ob _ _ _ [.inr (1, [.ref (ad κ (b + 1)), .ref (ad κ (b + 2)), .ref (ad κ (b + 3)), .int (nI 0), .int (nI 0), .int (nI 0), .int (nI 0), .null, .int (nI 0), .null, .null]), .inl (kI κ, 25, .inl (fun _ => 0)), .inl (kI κ, 24, .inl (fun _ => 0)), .inl (kI κ, 24, .inl (fun _ => 0))] := Ob.put' (j := 0) hO est7 rfl
  refine ws_aload_n 33 C dX1_init_33 rfl ?_
  refine ws_iconst 34 C dX1_init_34 (nI 0) (by decide) ?_
  refine ws_put 35 C dX1_init_35 fX1_25 q1_4 hO rfl (Nat.le_of_ble_eq_true rfl) rfl rfl (fun st8 est8 => ?_)
  have hF := hF.put' est8 (show b ≤ b from by omega)
  have hO : Ob _ _ _ [.inr (1, [.ref (ad κ (b + 1)), .ref (ad κ (b + 2)), .ref (ad κ (b + 3)), .int (nI 0), .int (nI 0), .int (nI 0), .int (nI 0), .null, .int (nI 0), .null, .null]), .inl (kI κ, 25, .inl (fun _ => 0)), .inl (kI κ, 24, .inl (fun _ => 0)), .inl (kI κ, 24, .inl (fun _ => 0))] := Ob.put' (j := 0) hO est8 rfl
  refine ws_aload_n 38 C dX1_init_38 rfl ?_
  refine ws_iconst 39 C dX1_init_39 (nI 0) (by decide) ?_
  refine ws_put 40 C dX1_init_40 fX1_28 q1_5 hO rfl (Nat.le_of_ble_eq_true rfl) rfl rfl (fun st9 est9 => ?_)
  have hF := hF.put' est9 (show b ≤ b from by omega)
  have hO : Ob _ _ _ [.inr (1, [.ref (ad κ (b + 1)), .ref (ad κ (b + 2)), .ref (ad κ (b + 3)), .int (nI 0), .int (nI 0), .int (nI 0), .int (nI 0), .null, .int (nI 0), .null, .null]), .inl (kI κ, 25, .inl (fun _ => 0)), .inl (kI κ, 24, .inl (fun _ => 0)), .inl (kI κ, 24, .inl (fun _ => 0))] := Ob.put' (j := 0) hO est9 rfl
  refine ws_aload_n 43 C dX1_init_43 rfl ?_
  refine ws_iconst 44 C dX1_init_44 (nI 0) (by decide) ?_
  refine ws_put 45 C dX1_init_45 fX1_31 q1_6 hO rfl (Nat.le_of_ble_eq_true rfl) rfl rfl (fun st10 est10 => ?_)
  have hF := hF.put' est10 (show b ≤ b from by omega)
  have hO : Ob _ _ _ [.inr (1, [.ref (ad κ (b + 1)), .ref (ad κ (b + 2)), .ref (ad κ (b + 3)), .int (nI 0), .int (nI 0), .int (nI 0), .int (nI 0), .null, .int (nI 0), .null, .null]), .inl (kI κ, 25, .inl (fun _ => 0)), .inl (kI κ, 24, .inl (fun _ => 0)), .inl (kI κ, 24, .inl (fun _ => 0))] := Ob.put' (j := 0) hO est10 rfl
  refine ws_aload_n 48 C dX1_init_48 rfl ?_
  refine ws_bipush 49 C dX1_init_49 (nI 25) (by decide) ?_
  refine ws_newaI 51 C dX1_init_51 25 (by decide) (nI_clamp (by decide)) (by decide) k42 (Nat.le_of_ble_eq_true rfl) (Nat.le_of_ble_eq_true rfl) (wsE (fun st11 est11 => ?_))
  have hF := hF.put' est11 (show b ≤ b + 4 from by omega)
  have hO := Ob.push' (es' := [.inr (1, [.ref (ad κ (b + 1)), .ref (ad κ (b + 2)), .ref (ad κ (b + 3)), .int (nI 0), .int (nI 0), .int (nI 0), .int (nI 0), .null, .int (nI 0), .null, .null]), .inl (kI κ, 25, .inl (fun _ => 0)), .inl (kI κ, 24, .inl (fun _ => 0)), .inl (kI κ, 24, .inl (fun _ => 0)), .inl (kI κ, 25, .inl (fun _ => 0))]) hO est11 rfl rfl
  refine ws_putF 53 C dX1_init_53 fX1_34 q1_7 hin rfl hO rfl (Nat.le_of_ble_eq_true rfl) rfl rfl (fun st12 est12 => ?_)
  have hF := hF.put' est12 (show b ≤ b from by omega)
  have hO : Ob _ _ _ [.inr (1, [.ref (ad κ (b + 1)), .ref (ad κ (b + 2)), .ref (ad κ (b + 3)), .int (nI 0), .int (nI 0), .int (nI 0), .int (nI 0), .ref (ad κ (b + 4)), .int (nI 0), .null, .null]), .inl (kI κ, 25, .inl (fun _ => 0)), .inl (kI κ, 24, .inl (fun _ => 0)), .inl (kI κ, 24, .inl (fun _ => 0)), .inl (kI κ, 25, .inl (fun _ => 0))] := Ob.put' (j := 0) hO est12 rfl
  refine ws_aload_n 56 C dX1_init_56 rfl ?_
  refine ws_iconst 57 C dX1_init_57 (nI 0) (by decide) ?_
  refine ws_put 58 C dX1_init_58 fX1_37 q1_8 hO rfl (Nat.le_of_ble_eq_true rfl) rfl rfl (fun st13 est13 => ?_)
  have hF := hF.put' est13 (show b ≤ b from by omega)
  have hO : Ob _ _ _ [.inr (1, [.ref (ad κ (b + 1)), .ref (ad κ (b + 2)), .ref (ad κ (b + 3)), .int (nI 0), .int (nI 0), .int (nI 0), .int (nI 0), .ref (ad κ (b + 4)), .int (nI 0), .null, .null]), .inl (kI κ, 25, .inl (fun _ => 0)), .inl (kI κ, 24, .inl (fun _ => 0)), .inl (kI κ, 24, .inl (fun _ => 0)), .inl (kI κ, 25, .inl (fun _ => 0))] := Ob.put' (j := 0) hO est13 rfl
  refine ws_aload_n 61 C dX1_init_61 rfl ?_
  refine ws_bipush 62 C dX1_init_62 (nI 25) (by decide) ?_
  refine ws_newaI 64 C dX1_init_64 25 (by decide) (nI_clamp (by decide)) (by decide) k42 (Nat.le_of_ble_eq_true rfl) (Nat.le_of_ble_eq_true rfl) (wsE (fun st14 est14 => ?_))
  have hF := hF.put' est14 (show b ≤ b + 5 from by omega)
  have hO := Ob.push' (es' := [.inr (1, [.ref (ad κ (b + 1)), .ref (ad κ (b + 2)), .ref (ad κ (b + 3)), .int (nI 0), .int (nI 0), .int (nI 0), .int (nI 0), .ref (ad κ (b + 4)), .int (nI 0), .null, .null]), .inl (kI κ, 25, .inl (fun _ => 0)), .inl (kI κ, 24, .inl (fun _ => 0)), .inl (kI κ, 24, .inl (fun _ => 0)), .inl (kI κ, 25, .inl (fun _ => 0)), .inl (kI κ, 25, .inl (fun _ => 0))]) hO est14 rfl rfl
  refine ws_putF 66 C dX1_init_66 fX1_40 q1_9 hin rfl hO rfl (Nat.le_of_ble_eq_true rfl) rfl rfl (fun st15 est15 => ?_)
  have hF := hF.put' est15 (show b ≤ b from by omega)
  have hO : Ob _ _ _ [.inr (1, [.ref (ad κ (b + 1)), .ref (ad κ (b + 2)), .ref (ad κ (b + 3)), .int (nI 0), .int (nI 0), .int (nI 0), .int (nI 0), .ref (ad κ (b + 4)), .int (nI 0), .ref (ad κ (b + 5)), .null]), .inl (kI κ, 25, .inl (fun _ => 0)), .inl (kI κ, 24, .inl (fun _ => 0)), .inl (kI κ, 24, .inl (fun _ => 0)), .inl (kI κ, 25, .inl (fun _ => 0)), .inl (kI κ, 25, .inl (fun _ => 0))] := Ob.put' (j := 0) hO est15 rfl
  refine ws_aload_n 69 C dX1_init_69 rfl ?_
  refine ws_bipush 70 C dX1_init_70 (nI 24) (by decide) ?_
  refine ws_newaI 72 C dX1_init_72 24 (by decide) (nI_clamp (by decide)) (by decide) k42 (Nat.le_of_ble_eq_true rfl) (Nat.le_of_ble_eq_true rfl) (wsE (fun st16 est16 => ?_))
  have hF := hF.put' est16 (show b ≤ b + 6 from by omega)
  have hO := Ob.push' (es' := [.inr (1, [.ref (ad κ (b + 1)), .ref (ad κ (b + 2)), .ref (ad κ (b + 3)), .int (nI 0), .int (nI 0), .int (nI 0), .int (nI 0), .ref (ad κ (b + 4)), .int (nI 0), .ref (ad κ (b + 5)), .null]), .inl (kI κ, 25, .inl (fun _ => 0)), .inl (kI κ, 24, .inl (fun _ => 0)), .inl (kI κ, 24, .inl (fun _ => 0)), .inl (kI κ, 25, .inl (fun _ => 0)), .inl (kI κ, 25, .inl (fun _ => 0)), .inl (kI κ, 24, .inl (fun _ => 0))]) hO est16 rfl rfl
  refine ws_putF 74 C dX1_init_74 fX1_43 q1_10 hin rfl hO rfl (Nat.le_of_ble_eq_true rfl) rfl rfl (fun st17 est17 => ?_)
  have hF := hF.put' est17 (show b ≤ b from by omega)
  have hO : Ob _ _ _ [.inr (1, [.ref (ad κ (b + 1)), .ref (ad κ (b + 2)), .ref (ad κ (b + 3)), .int (nI 0), .int (nI 0), .int (nI 0), .int (nI 0), .ref (ad κ (b + 4)), .int (nI 0), .ref (ad κ (b + 5)), .ref (ad κ (b + 6))]), .inl (kI κ, 25, .inl (fun _ => 0)), .inl (kI κ, 24, .inl (fun _ => 0)), .inl (kI κ, 24, .inl (fun _ => 0)), .inl (kI κ, 25, .inl (fun _ => 0)), .inl (kI κ, 25, .inl (fun _ => 0)), .inl (kI κ, 24, .inl (fun _ => 0))] := Ob.put' (j := 0) hO est17 rfl
  exact ws_vret 77 C dX1_init_77 rfl (Nat.le_of_ble_eq_true rfl) (Nat.le_of_ble_eq_true rfl) (by rw [hP]; exact ⟨rfl, ⟨⟨_, _, _, _, _, _, _, _, _, _, _, hO⟩, hF⟩⟩)

set_option maxRecDepth 100000 in
set_option maxHeartbeats 4000000 in
theorem c_X2_init (hO : Ob (30) st0 29 [.inr (2, dX2)]) : CT zl κ yX2_init cX2_init 1 none { frames := 1, cells := 1, slots := 60, locals := 12 } (30) [.ref (ad κ 29)] st0 (PV fun u => PdA κ 31 u (fun _ => 0) 0 ∧ Fr (fun q : Nat => 29 ≤ q) st0 u) := by
  obtain ⟨P, hP⟩ : ∃ P : Option Value → St → Prop, P = (PV fun u => PdA κ 31 u (fun _ => 0) 0 ∧ Fr (fun q : Nat => 29 ≤ q) st0 u) := ⟨_, rfl⟩
  rw [← hP]
  refine CT.of (by decide +kernel) (Nat.le_of_ble_eq_true rfl) (fun zp ze zs zm zar zbe zme zc C hN => ?_)
  have hin := hN rfl
  have C : Cx zp zs zm zar zme zc κ cX2_init 1 RX2 none := C
  refine ws_lv (lv2 := [some (.ref (ad κ 29))]) rfl ?_
  have hF : Fr (fun q : Nat => 29 ≤ q) st0 st0 := Fr.rf
  refine ws_aload_n 0 C dX2_init_0 rfl ?_
  refine ws_objI 1 C dX2_init_1 k68 k19 k20 rfl (Nat.le_of_ble_eq_true rfl) (Nat.le_of_ble_eq_true rfl) ?_
  refine ws_aload_n 4 C dX2_init_4 rfl ?_
  refine ws_bipush 5 C dX2_init_5 (nI 60) (by decide) ?_
  refine ws_newaC 7 C dX2_init_7 60 (by decide) (nI_clamp (by decide)) (by decide) k43 (Nat.le_of_ble_eq_true rfl) (Nat.le_of_ble_eq_true rfl) (wsE (fun st1 est1 => ?_))
  have hF := hF.put' est1 (show 29 ≤ 30 from by omega)
  have hO := Ob.push' (es' := [.inr (2, dX2), .inl (kC κ, 60, .inl (fun _ => 0))]) hO est1 rfl rfl
  refine ws_putF 9 C dX2_init_9 fX2_9 q2_0 hin rfl hO rfl (Nat.le_of_ble_eq_true rfl) rfl rfl (fun st2 est2 => ?_)
  have hF := hF.put' est2 (show 29 ≤ 29 from by omega)
  have hO : Ob _ _ _ [.inr (2, [.ref (ad κ 30), .int (nI 0)]), .inl (kC κ, 60, .inl (fun _ => 0))] := Ob.put' (j := 0) hO est2 rfl
  refine ws_aload_n 12 C dX2_init_12 rfl ?_
  refine ws_iconst 13 C dX2_init_13 (nI 0) (by decide) ?_
  refine ws_put 14 C dX2_init_14 fX2_15 q2_1 hO rfl (Nat.le_of_ble_eq_true rfl) rfl rfl (fun st3 est3 => ?_)
  have hF := hF.put' est3 (show 29 ≤ 29 from by omega)
  have hO : Ob _ _ _ [.inr (2, [.ref (ad κ 30), .int (nI 0)]), .inl (kC κ, 60, .inl (fun _ => 0))] := Ob.put' (j := 0) hO est3 rfl
  exact ws_vret 17 C dX2_init_17 rfl (Nat.le_of_ble_eq_true rfl) (Nat.le_of_ble_eq_true rfl) (by rw [hP]; exact ⟨rfl, ⟨⟨_, hO, Nat.zero_le _, fun _ => rfl, fun k hk => absurd hk (Nat.not_lt_zero k)⟩, hF⟩⟩)

set_option maxRecDepth 100000 in
set_option maxHeartbeats 4000000 in
theorem c_X0_init (hO : Ob (32) st0 31 [.inr (0, dX0)]) : CT zl κ yX0_init cX0_init 2 none { frames := 2, cells := 43, slots := 1800, locals := 32 } (32) [.ref (ad κ 31)] st0 (PV fun u => HsP κ 75 u (fun _ => mu0) 0 ∧ Fr (fun q : Nat => 31 ≤ q) st0 u) := by
  obtain ⟨P, hP⟩ : ∃ P : Option Value → St → Prop, P = (PV fun u => HsP κ 75 u (fun _ => mu0) 0 ∧ Fr (fun q : Nat => 31 ≤ q) st0 u) := ⟨_, rfl⟩
  rw [← hP]
  refine CT.of (by decide +kernel) (Nat.le_of_ble_eq_true rfl) (fun zp ze zs zm zar zbe zme zc C hN => ?_)
  have hin := hN rfl
  have C : Cx zp zs zm zar zme zc κ cX0_init 2 RX0 none := C
  refine ws_lv (lv2 := [some (.ref (ad κ 31)), none]) rfl ?_
  have hF : Fr (fun q : Nat => 31 ≤ q) st0 st0 := Fr.rf
  refine ws_aload_n 0 C dX0_init_0 rfl ?_
  refine ws_objI 1 C dX0_init_1 k77 k19 k20 rfl (Nat.le_of_ble_eq_true rfl) (Nat.le_of_ble_eq_true rfl) ?_
  refine ws_aload_n 4 C dX0_init_4 rfl ?_
  refine ws_bipush 5 C dX0_init_5 (nI 6) (by decide) ?_
  refine ws_newq 7 C dX0_init_7 6 (by decide) (nI_clamp (by decide)) (by decide) k78 (Nat.le_of_ble_eq_true rfl) (Nat.le_of_ble_eq_true rfl) (wsE (fun st1 est1 => ?_))
  have hF := hF.put' est1 (show 31 ≤ 32 from by omega)
  have hO := Ob.push' (es' := [.inr (0, dX0), .inl (kS κ, 6, (.inr (.inr (.inr (.inr (fun _ => none))))))]) hO est1 rfl rfl
  refine ws_putF 10 C dX0_init_10 fX0_11 q0_0 hin rfl hO rfl (Nat.le_of_ble_eq_true rfl) rfl rfl (fun st2 est2 => ?_)
  have hF := hF.put' est2 (show 31 ≤ 31 from by omega)
  have hO : Ob _ _ _ [.inr (0, [.ref (ad κ 32), .int (nI 0), .int (nI 0)]), .inl (kS κ, 6, (.inr (.inr (.inr (.inr (fun _ => none))))))] := Ob.put' (j := 0) hO est2 rfl
  refine ws_aload_n 13 C dX0_init_13 rfl ?_
  refine ws_iconst 14 C dX0_init_14 (nI 0) (by decide) ?_
  refine ws_put 15 C dX0_init_15 fX0_17 q0_1 hO rfl (Nat.le_of_ble_eq_true rfl) rfl rfl (fun st3 est3 => ?_)
  have hF := hF.put' est3 (show 31 ≤ 31 from by omega)
  have hO : Ob _ _ _ [.inr (0, [.ref (ad κ 32), .int (nI 0), .int (nI 0)]), .inl (kS κ, 6, (.inr (.inr (.inr (.inr (fun _ => none))))))] := Ob.put' (j := 0) hO est3 rfl
  refine ws_aload_n 18 C dX0_init_18 rfl ?_
  refine ws_iconst 19 C dX0_init_19 (nI 0) (by decide) ?_
  refine ws_put 20 C dX0_init_20 fX0_21 q0_2 hO rfl (Nat.le_of_ble_eq_true rfl) rfl rfl (fun st4 est4 => ?_)
  have hF := hF.put' est4 (show 31 ≤ 31 from by omega)
  have hO : Ob _ _ _ [.inr (0, [.ref (ad κ 32), .int (nI 0), .int (nI 0)]), .inl (kS κ, 6, (.inr (.inr (.inr (.inr (fun _ => none))))))] := Ob.put' (j := 0) hO est4 rfl
  refine ws_iconst 23 C dX0_init_23 (nI 0) (by decide) ?_
  refine ws_istore_n 24 C dX0_init_24 rfl [some (.ref (ad κ 31)), some (.int (nI 0))] rfl ?_
  refine ws_iload_n 25 C dX0_init_25 rfl ?_
  refine ws_bipush 26 C dX0_init_26 (nI 6) (by decide) ?_
  refine ws_nicmp_ge 28 C 50 dX0_init_28 (by decide) (by decide) (by decide) (fun c => ?_) (fun c => ?_)
  case refine_1 => exact absurd c (by decide)
  refine ws_aload_n 31 C dX0_init_31 rfl ?_
  refine ws_get 32 C dX0_init_32 fX0_11 hO rfl rfl ?_
  refine ws_iload_n 35 C dX0_init_35 rfl ?_
  refine ws_new (ci := 3) (Cn := RX3) (T := TX3) (N := 7) 36 C dX0_init_36 rfl iX3 tyX3 tyX3_ok k78 k22 k7 dX3 dX3_ok (Nat.le_of_ble_eq_true rfl) (Nat.le_of_ble_eq_true rfl) (wsE (fun st5 est5 => ?_))
  have hO := Ob.grow' hO est5
  have hF := hF.put' est5 (show 31 ≤ 33 from by omega)
  have hNew : Ob (34) st5 33 [.inr (3, dX3)] := Ob.one' est5
  refine ws_dup 39 C dX0_init_39 rfl ?_
  refine ws_callIN 40 C (c_X3_init (b := 33) hNew) dX0_init_40 vX0_24 rfl ⟨(Nat.le_of_ble_eq_true rfl), (Nat.le_of_ble_eq_true rfl)⟩ ⟨(Nat.le_of_ble_eq_true rfl), (Nat.le_of_ble_eq_true rfl)⟩ rfl (Nat.le_of_ble_eq_true rfl) rfl (kV (fun u5 hcall => ?_))
  obtain ⟨hnew, hfr⟩ := hcall
  clear hNew
  have hO := hO.frup hfr (show _ ≤ 40 from by omega) (fun q (g1 : 31 ≤ q) (g2 : q < 31 + 2) => (show ¬ (33 ≤ q) from by omega))
  have hF := hF.then hfr (fun q (hq : 33 ≤ q) => (show 31 ≤ q from by omega))
  have h33 : ShP κ (40) u5 33 mu0 := hnew
  obtain ⟨f1, f2, f3, f4, f5, f6, hB3, -⟩ := id h33
  refine ws_aast 43 C dX0_init_43 hO 1 rfl hB3 rfl (vp_in_nI (by decide) (by decide)) 0 (nI_clamp (by decide)) (fun st7 est7 => ?_)
  clear hB3
  have h33 := h33.fr (Fr.one est7) (fun q g1 g2 => (show ¬ (q = 32) from by omega))
  have hF := hF.put' est7 (show 31 ≤ 32 from by omega)
  have hO : Ob _ _ _ [.inr (0, [.ref (ad κ 32), .int (nI 0), .int (nI 0)]), .inl (kS κ, 6, (.inr (.inr (.inr (.inr (va_up (fun _ => none) 0 (some (ad κ 33))))))))] := Ob.put' (j := 1) hO est7 rfl
  refine ws_iinc 44 C dX0_init_44 rfl (nI 1) (by decide) rfl [some (.ref (ad κ 31)), some (.int (nI 1))] rfl ?_
  refine ws_goto 47 C 25 dX0_init_47 (by decide) ?_
  refine ws_iload_n 25 C dX0_init_25 rfl ?_
  refine ws_bipush 26 C dX0_init_26 (nI 6) (by decide) ?_
  refine ws_nicmp_ge 28 C 50 dX0_init_28 (by decide) (by decide) (by decide) (fun c => ?_) (fun c => ?_)
  case refine_1 => exact absurd c (by decide)
  refine ws_aload_n 31 C dX0_init_31 rfl ?_
  refine ws_get 32 C dX0_init_32 fX0_11 hO rfl rfl ?_
  refine ws_iload_n 35 C dX0_init_35 rfl ?_
  refine ws_new (ci := 3) (Cn := RX3) (T := TX3) (N := 7) 36 C dX0_init_36 rfl iX3 tyX3 tyX3_ok k78 k22 k7 dX3 dX3_ok (Nat.le_of_ble_eq_true rfl) (Nat.le_of_ble_eq_true rfl) (wsE (fun st8 est8 => ?_))
  have hO := Ob.grow' hO est8
  have h33 := (h33.fr (Fr.one est8) (fun q g1 g2 => (show ¬ (q = 40) from by omega))).up (Nat.le_succ _)
  have hF := hF.put' est8 (show 31 ≤ 40 from by omega)
  have hNew : Ob (41) st8 40 [.inr (3, dX3)] := Ob.one' est8
  refine ws_dup 39 C dX0_init_39 rfl ?_
  refine ws_callIN 40 C (c_X3_init (b := 40) hNew) dX0_init_40 vX0_24 rfl ⟨(Nat.le_of_ble_eq_true rfl), (Nat.le_of_ble_eq_true rfl)⟩ ⟨(Nat.le_of_ble_eq_true rfl), (Nat.le_of_ble_eq_true rfl)⟩ rfl (Nat.le_of_ble_eq_true rfl) rfl (kV (fun u8 hcall => ?_))
  obtain ⟨hnew, hfr⟩ := hcall
  clear hNew
  have hO := hO.frup hfr (show _ ≤ 47 from by omega) (fun q (g1 : 31 ≤ q) (g2 : q < 31 + 2) => (show ¬ (40 ≤ q) from by omega))
  have h33 := (h33.fr hfr (fun q g1 g2 => (show ¬ (40 ≤ q) from by omega))).up (show _ ≤ 47 from by omega)
  have hF := hF.then hfr (fun q (hq : 40 ≤ q) => (show 31 ≤ q from by omega))
  have h40 : ShP κ (47) u8 40 mu0 := hnew
  obtain ⟨f1, f2, f3, f4, f5, f6, hB3, -⟩ := id h40
  refine ws_aast 43 C dX0_init_43 hO 1 rfl hB3 rfl (vp_in_nI (by decide) (by decide)) 1 (nI_clamp (by decide)) (fun st10 est10 => ?_)
  clear hB3
  have h33 := h33.fr (Fr.one est10) (fun q g1 g2 => (show ¬ (q = 32) from by omega))
  have h40 := h40.fr (Fr.one est10) (fun q g1 g2 => (show ¬ (q = 32) from by omega))
  have hF := hF.put' est10 (show 31 ≤ 32 from by omega)
  have hO : Ob _ _ _ [.inr (0, [.ref (ad κ 32), .int (nI 0), .int (nI 0)]), .inl (kS κ, 6, (.inr (.inr (.inr (.inr (va_up (va_up (fun _ => none) 0 (some (ad κ 33))) 1 (some (ad κ 40))))))))] := Ob.put' (j := 1) hO est10 rfl
  refine ws_iinc 44 C dX0_init_44 rfl (nI 2) (by decide) rfl [some (.ref (ad κ 31)), some (.int (nI 2))] rfl ?_
  refine ws_goto 47 C 25 dX0_init_47 (by decide) ?_
  refine ws_iload_n 25 C dX0_init_25 rfl ?_
  refine ws_bipush 26 C dX0_init_26 (nI 6) (by decide) ?_
  refine ws_nicmp_ge 28 C 50 dX0_init_28 (by decide) (by decide) (by decide) (fun c => ?_) (fun c => ?_)
  case refine_1 => exact absurd c (by decide)
  refine ws_aload_n 31 C dX0_init_31 rfl ?_
  refine ws_get 32 C dX0_init_32 fX0_11 hO rfl rfl ?_
  refine ws_iload_n 35 C dX0_init_35 rfl ?_
  refine ws_new (ci := 3) (Cn := RX3) (T := TX3) (N := 7) 36 C dX0_init_36 rfl iX3 tyX3 tyX3_ok k78 k22 k7 dX3 dX3_ok (Nat.le_of_ble_eq_true rfl) (Nat.le_of_ble_eq_true rfl) (wsE (fun st11 est11 => ?_))
  have hO := Ob.grow' hO est11
  have h33 := (h33.fr (Fr.one est11) (fun q g1 g2 => (show ¬ (q = 47) from by omega))).up (Nat.le_succ _)
  have h40 := (h40.fr (Fr.one est11) (fun q g1 g2 => (show ¬ (q = 47) from by omega))).up (Nat.le_succ _)
  have hF := hF.put' est11 (show 31 ≤ 47 from by omega)
  have hNew : Ob (48) st11 47 [.inr (3, dX3)] := Ob.one' est11
  refine ws_dup 39 C dX0_init_39 rfl ?_
  refine ws_callIN 40 C (c_X3_init (b := 47) hNew) dX0_init_40 vX0_24 rfl ⟨(Nat.le_of_ble_eq_true rfl), (Nat.le_of_ble_eq_true rfl)⟩ ⟨(Nat.le_of_ble_eq_true rfl), (Nat.le_of_ble_eq_true rfl)⟩ rfl (Nat.le_of_ble_eq_true rfl) rfl (kV (fun u11 hcall => ?_))
  obtain ⟨hnew, hfr⟩ := hcall
  clear hNew
  have hO := hO.frup hfr (show _ ≤ 54 from by omega) (fun q (g1 : 31 ≤ q) (g2 : q < 31 + 2) => (show ¬ (47 ≤ q) from by omega))
  have h33 := (h33.fr hfr (fun q g1 g2 => (show ¬ (47 ≤ q) from by omega))).up (show _ ≤ 54 from by omega)
  have h40 := (h40.fr hfr (fun q g1 g2 => (show ¬ (47 ≤ q) from by omega))).up (show _ ≤ 54 from by omega)
  have hF := hF.then hfr (fun q (hq : 47 ≤ q) => (show 31 ≤ q from by omega))
  have h47 : ShP κ (54) u11 47 mu0 := hnew
  obtain ⟨f1, f2, f3, f4, f5, f6, hB3, -⟩ := id h47
  refine ws_aast 43 C dX0_init_43 hO 1 rfl hB3 rfl (vp_in_nI (by decide) (by decide)) 2 (nI_clamp (by decide)) (fun st13 est13 => ?_)
  clear hB3
  have h33 := h33.fr (Fr.one est13) (fun q g1 g2 => (show ¬ (q = 32) from by omega))
  have h40 := h40.fr (Fr.one est13) (fun q g1 g2 => (show ¬ (q = 32) from by omega))
  have h47 := h47.fr (Fr.one est13) (fun q g1 g2 => (show ¬ (q = 32) from by omega))
  have hF := hF.put' est13 (show 31 ≤ 32 from by omega)
  have hO : Ob _ _ _ [.inr (0, [.ref (ad κ 32), .int (nI 0), .int (nI 0)]), .inl (kS κ, 6, (.inr (.inr (.inr (.inr (va_up (va_up (va_up (fun _ => none) 0 (some (ad κ 33))) 1 (some (ad κ 40))) 2 (some (ad κ 47))))))))] := Ob.put' (j := 1) hO est13 rfl
  refine ws_iinc 44 C dX0_init_44 rfl (nI 3) (by decide) rfl [some (.ref (ad κ 31)), some (.int (nI 3))] rfl ?_
  refine ws_goto 47 C 25 dX0_init_47 (by decide) ?_
  refine ws_iload_n 25 C dX0_init_25 rfl ?_
  refine ws_bipush 26 C dX0_init_26 (nI 6) (by decide) ?_
  refine ws_nicmp_ge 28 C 50 dX0_init_28 (by decide) (by decide) (by decide) (fun c => ?_) (fun c => ?_)
  case refine_1 => exact absurd c (by decide)
  refine ws_aload_n 31 C dX0_init_31 rfl ?_
  refine ws_get 32 C dX0_init_32 fX0_11 hO rfl rfl ?_
  refine ws_iload_n 35 C dX0_init_35 rfl ?_
  refine ws_new (ci := 3) (Cn := RX3) (T := TX3) (N := 7) 36 C dX0_init_36 rfl iX3 tyX3 tyX3_ok k78 k22 k7 dX3 dX3_ok (Nat.le_of_ble_eq_true rfl) (Nat.le_of_ble_eq_true rfl) (wsE (fun st14 est14 => ?_))
  have hO := Ob.grow' hO est14
  have h33 := (h33.fr (Fr.one est14) (fun q g1 g2 => (show ¬ (q = 54) from by omega))).up (Nat.le_succ _)
  have h40 := (h40.fr (Fr.one est14) (fun q g1 g2 => (show ¬ (q = 54) from by omega))).up (Nat.le_succ _)
  have h47 := (h47.fr (Fr.one est14) (fun q g1 g2 => (show ¬ (q = 54) from by omega))).up (Nat.le_succ _)
  have hF := hF.put' est14 (show 31 ≤ 54 from by omega)
  have hNew : Ob (55) st14 54 [.inr (3, dX3)] := Ob.one' est14
  refine ws_dup 39 C dX0_init_39 rfl ?_
  refine ws_callIN 40 C (c_X3_init (b := 54) hNew) dX0_init_40 vX0_24 rfl ⟨(Nat.le_of_ble_eq_true rfl), (Nat.le_of_ble_eq_true rfl)⟩ ⟨(Nat.le_of_ble_eq_true rfl), (Nat.le_of_ble_eq_true rfl)⟩ rfl (Nat.le_of_ble_eq_true rfl) rfl (kV (fun u14 hcall => ?_))
  obtain ⟨hnew, hfr⟩ := hcall
  clear hNew
  have hO := hO.frup hfr (show _ ≤ 61 from by omega) (fun q (g1 : 31 ≤ q) (g2 : q < 31 + 2) => (show ¬ (54 ≤ q) from by omega))
  have h33 := (h33.fr hfr (fun q g1 g2 => (show ¬ (54 ≤ q) from by omega))).up (show _ ≤ 61 from by omega)
  have h40 := (h40.fr hfr (fun q g1 g2 => (show ¬ (54 ≤ q) from by omega))).up (show _ ≤ 61 from by omega)
  have h47 := (h47.fr hfr (fun q g1 g2 => (show ¬ (54 ≤ q) from by omega))).up (show _ ≤ 61 from by omega)
  have hF := hF.then hfr (fun q (hq : 54 ≤ q) => (show 31 ≤ q from by omega))
  have h54 : ShP κ (61) u14 54 mu0 := hnew
  obtain ⟨f1, f2, f3, f4, f5, f6, hB3, -⟩ := id h54
  refine ws_aast 43 C dX0_init_43 hO 1 rfl hB3 rfl (vp_in_nI (by decide) (by decide)) 3 (nI_clamp (by decide)) (fun st16 est16 => ?_)
  clear hB3
  have h33 := h33.fr (Fr.one est16) (fun q g1 g2 => (show ¬ (q = 32) from by omega))
  have h40 := h40.fr (Fr.one est16) (fun q g1 g2 => (show ¬ (q = 32) from by omega))
  have h47 := h47.fr (Fr.one est16) (fun q g1 g2 => (show ¬ (q = 32) from by omega))
  have h54 := h54.fr (Fr.one est16) (fun q g1 g2 => (show ¬ (q = 32) from by omega))
  have hF := hF.put' est16 (show 31 ≤ 32 from by omega)
  have hO : Ob _ _ _ [.inr (0, [.ref (ad κ 32), .int (nI 0), .int (nI 0)]), .inl (kS κ, 6, (.inr (.inr (.inr (.inr (va_up (va_up (va_up (va_up (fun _ => none) 0 (some (ad κ 33))) 1 (some (ad κ 40))) 2 (some (ad κ 47))) 3 (some (ad κ 54))))))))] := Ob.put' (j := 1) hO est16 rfl
  refine ws_iinc 44 C dX0_init_44 rfl (nI 4) (by decide) rfl [some (.ref (ad κ 31)), some (.int (nI 4))] rfl ?_
  refine ws_goto 47 C 25 dX0_init_47 (by decide) ?_
  refine ws_iload_n 25 C dX0_init_25 rfl ?_
  refine ws_bipush 26 C dX0_init_26 (nI 6) (by decide) ?_
  refine ws_nicmp_ge 28 C 50 dX0_init_28 (by decide) (by decide) (by decide) (fun c => ?_) (fun c => ?_)
  case refine_1 => exact absurd c (by decide)
  refine ws_aload_n 31 C dX0_init_31 rfl ?_
  refine ws_get 32 C dX0_init_32 fX0_11 hO rfl rfl ?_
  refine ws_iload_n 35 C dX0_init_35 rfl ?_
  refine ws_new (ci := 3) (Cn := RX3) (T := TX3) (N := 7) 36 C dX0_init_36 rfl iX3 tyX3 tyX3_ok k78 k22 k7 dX3 dX3_ok (Nat.le_of_ble_eq_true rfl) (Nat.le_of_ble_eq_true rfl) (wsE (fun st17 est17 => ?_))
  have hO := Ob.grow' hO est17
  have h33 := (h33.fr (Fr.one est17) (fun q g1 g2 => (show ¬ (q = 61) from by omega))).up (Nat.le_succ _)
  have h40 := (h40.fr (Fr.one est17) (fun q g1 g2 => (show ¬ (q = 61) from by omega))).up (Nat.le_succ _)
  have h47 := (h47.fr (Fr.one est17) (fun q g1 g2 => (show ¬ (q = 61) from by omega))).up (Nat.le_succ _)
  have h54 := (h54.fr (Fr.one est17) (fun q g1 g2 => (show ¬ (q = 61) from by omega))).up (Nat.le_succ _)
  have hF := hF.put' est17 (show 31 ≤ 61 from by omega)
  have hNew : Ob (62) st17 61 [.inr (3, dX3)] := Ob.one' est17
  refine ws_dup 39 C dX0_init_39 rfl ?_
  refine ws_callIN 40 C (c_X3_init (b := 61) hNew) dX0_init_40 vX0_24 rfl ⟨(Nat.le_of_ble_eq_true rfl), (Nat.le_of_ble_eq_true rfl)⟩ ⟨(Nat.le_of_ble_eq_true rfl), (Nat.le_of_ble_eq_true rfl)⟩ rfl (Nat.le_of_ble_eq_true rfl) rfl (kV (fun u17 hcall => ?_))
  obtain ⟨hnew, hfr⟩ := hcall
  clear hNew
  have hO := hO.frup hfr (show _ ≤ 68 from by omega) (fun q (g1 : 31 ≤ q) (g2 : q < 31 + 2) => (show ¬ (61 ≤ q) from by omega))
  have h33 := (h33.fr hfr (fun q g1 g2 => (show ¬ (61 ≤ q) from by omega))).up (show _ ≤ 68 from by omega)
  have h40 := (h40.fr hfr (fun q g1 g2 => (show ¬ (61 ≤ q) from by omega))).up (show _ ≤ 68 from by omega)
  have h47 := (h47.fr hfr (fun q g1 g2 => (show ¬ (61 ≤ q) from by omega))).up (show _ ≤ 68 from by omega)
  have h54 := (h54.fr hfr (fun q g1 g2 => (show ¬ (61 ≤ q) from by omega))).up (show _ ≤ 68 from by omega)
  have hF := hF.then hfr (fun q (hq : 61 ≤ q) => (show 31 ≤ q from by omega))
  have h61 : ShP κ (68) u17 61 mu0 := hnew
  obtain ⟨f1, f2, f3, f4, f5, f6, hB3, -⟩ := id h61
  refine ws_aast 43 C dX0_init_43 hO 1 rfl hB3 rfl (vp_in_nI (by decide) (by decide)) 4 (nI_clamp (by decide)) (fun st19 est19 => ?_)
  clear hB3
  have h33 := h33.fr (Fr.one est19) (fun q g1 g2 => (show ¬ (q = 32) from by omega))
  have h40 := h40.fr (Fr.one est19) (fun q g1 g2 => (show ¬ (q = 32) from by omega))
  have h47 := h47.fr (Fr.one est19) (fun q g1 g2 => (show ¬ (q = 32) from by omega))
  have h54 := h54.fr (Fr.one est19) (fun q g1 g2 => (show ¬ (q = 32) from by omega))
  have h61 := h61.fr (Fr.one est19) (fun q g1 g2 => (show ¬ (q = 32) from by omega))
  have hF := hF.put' est19 (show 31 ≤ 32 from by omega)
  have hO : Ob _ _ _ [.inr (0, [.ref (ad κ 32), .int (nI 0), .int (nI 0)]), .inl (kS κ, 6, (.inr (.inr (.inr (.inr (va_up (va_up (va_up (va_up (va_up (fun _ => none) 0 (some (ad κ 33))) 1 (some (ad κ 40))) 2 (some (ad κ 47))) 3 (some (ad κ 54))) 4 (some (ad κ 61))))))))] := Ob.put' (j := 1) hO est19 rfl
  refine ws_iinc 44 C dX0_init_44 rfl (nI 5) (by decide) rfl [some (.ref (ad κ 31)), some (.int (nI 5))] rfl ?_
  refine ws_goto 47 C 25 dX0_init_47 (by decide) ?_
  refine ws_iload_n 25 C dX0_init_25 rfl ?_
  refine ws_bipush 26 C dX0_init_26 (nI 6) (by decide) ?_
  refine ws_nicmp_ge 28 C 50 dX0_init_28 (by decide) (by decide) (by decide) (fun c => ?_) (fun c => ?_)
  case refine_1 => exact absurd c (by decide)
  refine ws_aload_n 31 C dX0_init_31 rfl ?_
  refine ws_get 32 C dX0_init_32 fX0_11 hO rfl rfl ?_
  refine ws_iload_n 35 C dX0_init_35 rfl ?_
  refine ws_new (ci := 3) (Cn := RX3) (T := TX3) (N := 7) 36 C dX0_init_36 rfl iX3 tyX3 tyX3_ok k78 k22 k7 dX3 dX3_ok (Nat.le_of_ble_eq_true rfl) (Nat.le_of_ble_eq_true rfl) (wsE (fun st20 est20 => ?_))
  have hO := Ob.grow' hO est20
  have h33 := (h33.fr (Fr.one est20) (fun q g1 g2 => (show ¬ (q = 68) from by omega))).up (Nat.le_succ _)
  have h40 := (h40.fr (Fr.one est20) (fun q g1 g2 => (show ¬ (q = 68) from by omega))).up (Nat.le_succ _)
  have h47 := (h47.fr (Fr.one est20) (fun q g1 g2 => (show ¬ (q = 68) from by omega))).up (Nat.le_succ _)
  have h54 := (h54.fr (Fr.one est20) (fun q g1 g2 => (show ¬ (q = 68) from by omega))).up (Nat.le_succ _)
  have h61 := (h61.fr (Fr.one est20) (fun q g1 g2 => (show ¬ (q = 68) from by omega))).up (Nat.le_succ _)
  have hF := hF.put' est20 (show 31 ≤ 68 from by omega)
  have hNew : Ob (69) st20 68 [.inr (3, dX3)] := Ob.one' est20
  refine ws_dup 39 C dX0_init_39 rfl ?_
  refine ws_callIN 40 C (c_X3_init (b := 68) hNew) dX0_init_40 vX0_24 rfl ⟨(Nat.le_of_ble_eq_true rfl), (Nat.le_of_ble_eq_true rfl)⟩ ⟨(Nat.le_of_ble_eq_true rfl), (Nat.le_of_ble_eq_true rfl)⟩ rfl (Nat.le_of_ble_eq_true rfl) rfl (kV (fun u20 hcall => ?_))
  obtain ⟨hnew, hfr⟩ := hcall
  clear hNew
  have hO := hO.frup hfr (show _ ≤ 75 from by omega) (fun q (g1 : 31 ≤ q) (g2 : q < 31 + 2) => (show ¬ (68 ≤ q) from by omega))
  have h33 := (h33.fr hfr (fun q g1 g2 => (show ¬ (68 ≤ q) from by omega))).up (show _ ≤ 75 from by omega)
  have h40 := (h40.fr hfr (fun q g1 g2 => (show ¬ (68 ≤ q) from by omega))).up (show _ ≤ 75 from by omega)
  have h47 := (h47.fr hfr (fun q g1 g2 => (show ¬ (68 ≤ q) from by omega))).up (show _ ≤ 75 from by omega)
  have h54 := (h54.fr hfr (fun q g1 g2 => (show ¬ (68 ≤ q) from by omega))).up (show _ ≤ 75 from by omega)
  have h61 := (h61.fr hfr (fun q g1 g2 => (show ¬ (68 ≤ q) from by omega))).up (show _ ≤ 75 from by omega)
  have hF := hF.then hfr (fun q (hq : 68 ≤ q) => (show 31 ≤ q from by omega))
  have h68 : ShP κ (75) u20 68 mu0 := hnew
  obtain ⟨f1, f2, f3, f4, f5, f6, hB3, -⟩ := id h68
  refine ws_aast 43 C dX0_init_43 hO 1 rfl hB3 rfl (vp_in_nI (by decide) (by decide)) 5 (nI_clamp (by decide)) (fun st22 est22 => ?_)
  clear hB3
  have h33 := h33.fr (Fr.one est22) (fun q g1 g2 => (show ¬ (q = 32) from by omega))
  have h40 := h40.fr (Fr.one est22) (fun q g1 g2 => (show ¬ (q = 32) from by omega))
  have h47 := h47.fr (Fr.one est22) (fun q g1 g2 => (show ¬ (q = 32) from by omega))
  have h54 := h54.fr (Fr.one est22) (fun q g1 g2 => (show ¬ (q = 32) from by omega))
  have h61 := h61.fr (Fr.one est22) (fun q g1 g2 => (show ¬ (q = 32) from by omega))
  have h68 := h68.fr (Fr.one est22) (fun q g1 g2 => (show ¬ (q = 32) from by omega))
  have hF := hF.put' est22 (show 31 ≤ 32 from by omega)
  have hO : Ob _ _ _ [.inr (0, [.ref (ad κ 32), .int (nI 0), .int (nI 0)]), .inl (kS κ, 6, (.inr (.inr (.inr (.inr (va_up (va_up (va_up (va_up (va_up (va_up (fun _ => none) 0 (some (ad κ 33))) 1 (some (ad κ 40))) 2 (some (ad κ 47))) 3 (some (ad κ 54))) 4 (some (ad κ 61))) 5 (some (ad κ 68))))))))] := Ob.put' (j := 1) hO est22 rfl
  refine ws_iinc 44 C dX0_init_44 rfl (nI 6) (by decide) rfl [some (.ref (ad κ 31)), some (.int (nI 6))] rfl ?_
  refine ws_goto 47 C 25 dX0_init_47 (by decide) ?_
  refine ws_iload_n 25 C dX0_init_25 rfl ?_
  refine ws_bipush 26 C dX0_init_26 (nI 6) (by decide) ?_
  refine ws_nicmp_ge 28 C 50 dX0_init_28 (by decide) (by decide) (by decide) (fun c => ?_) (fun c => ?_)
  case refine_2 => exact absurd c (by decide)
  exact ws_vret 50 C dX0_init_50 rfl (Nat.le_of_ble_eq_true rfl) (Nat.le_of_ble_eq_true rfl) (by rw [hP]; exact ⟨rfl, ⟨⟨_, 0, hO, (fun i hi => match i, hi with | 0, _ => rfl | 1, _ => rfl | 2, _ => rfl | 3, _ => rfl | 4, _ => rfl | 5, _ => rfl | i + 6, hi => absurd hi (by omega)), by decide, by decide, (fun i hi => match i, hi with | 0, _ => ⟨_, h33⟩ | 1, _ => ⟨_, h40⟩ | 2, _ => ⟨_, h47⟩ | 3, _ => ⟨_, h54⟩ | 4, _ => ⟨_, h61⟩ | 5, _ => ⟨_, h68⟩ | i + 6, hi => absurd hi (by omega)), fun k hk => absurd hk (Nat.not_lt_zero k)⟩, hF⟩⟩)

set_option maxRecDepth 100000 in
set_option maxHeartbeats 4000000 in
theorem c_X4_init (hO : Ob (1) st0 0 [.inr (4, dX4)]) : CT zl κ yX4_init cX4_init 1 none { frames := 3, cells := 90, slots := 3381, locals := 53 } (1) [.ref (ad κ 0)] st0 (PV fun u => XI κ 91 u S0 ∧ Fr (fun q : Nat => 0 ≤ q) st0 u) := by
  obtain ⟨P, hP⟩ : ∃ P : Option Value → St → Prop, P = (PV fun u => XI κ 91 u S0 ∧ Fr (fun q : Nat => 0 ≤ q) st0 u) := ⟨_, rfl⟩
  rw [← hP]
  refine CT.of (by decide +kernel) (Nat.le_of_ble_eq_true rfl) (fun zp ze zs zm zar zbe zme zc C hN => ?_)
  have hin := hN rfl
  have C : Cx zp zs zm zar zme zc κ cX4_init 1 RX4 none := C
  refine ws_lv (lv2 := [some (.ref (ad κ 0))]) rfl ?_
  have hF : Fr (fun q : Nat => 0 ≤ q) st0 st0 := Fr.rf
  refine ws_aload_n 0 C dX4_init_0 rfl ?_
  refine ws_objI 1 C dX4_init_1 k18 k19 k20 rfl (Nat.le_of_ble_eq_true rfl) (Nat.le_of_ble_eq_true rfl) ?_
  refine ws_aload_n 4 C dX4_init_4 rfl ?_
  refine ws_new (ci := 3) (Cn := RX3) (T := TX3) (N := 7) 5 C dX4_init_5 rfl iX3 tyX3 tyX3_ok k21 k22 k7 dX3 dX3_ok (Nat.le_of_ble_eq_true rfl) (Nat.le_of_ble_eq_true rfl) (wsE (fun st1 est1 => ?_))
  have hO := Ob.grow' hO est1
  have hF := hF.put' est1 (show 0 ≤ 1 from by omega)
  have hNew : Ob (2) st1 1 [.inr (3, dX3)] := Ob.one' est1
  refine ws_dup 8 C dX4_init_8 rfl ?_
  refine ws_callIN 9 C (c_X3_init (b := 1) hNew) dX4_init_9 vX4_9 rfl ⟨(Nat.le_of_ble_eq_true rfl), (Nat.le_of_ble_eq_true rfl)⟩ ⟨(Nat.le_of_ble_eq_true rfl), (Nat.le_of_ble_eq_true rfl)⟩ rfl (Nat.le_of_ble_eq_true rfl) rfl (kV (fun u1 hcall => ?_))
  obtain ⟨hnew, hfr⟩ := hcall
  clear hNew
  have hO := hO.frup hfr (show _ ≤ 8 from by omega) (fun q (g1 : 0 ≤ q) (g2 : q < 0 + 1) => (show ¬ (1 ≤ q) from by omega))
  have hF := hF.then hfr (fun q (hq : 1 ≤ q) => (show 0 ≤ q from by omega))
  have h1 : ShP κ (8) u1 1 mu0 := hnew
  refine ws_putF 12 C dX4_init_12 fX4_10 q4_0 hin rfl hO rfl (Nat.le_of_ble_eq_true rfl) rfl rfl (fun st3 est3 => ?_)
  have h1 := h1.fr (Fr.one est3) (fun q g1 g2 => (show ¬ (q = 0) from by omega))
  have hF := hF.put' est3 (show 0 ≤ 0 from by omega)
  have hO : Ob _ _ _ [.inr (4, [.ref (ad κ 1), .null, .null, .null, .null, .null, .null, .null])] := Ob.put' (j := 0) hO est3 rfl
  refine ws_aload_n 15 C dX4_init_15 rfl ?_
  refine ws_new (ci := 3) (Cn := RX3) (T := TX3) (N := 7) 16 C dX4_init_16 rfl iX3 tyX3 tyX3_ok k21 k22 k7 dX3 dX3_ok (Nat.le_of_ble_eq_true rfl) (Nat.le_of_ble_eq_true rfl) (wsE (fun st4 est4 => ?_))
  have hO := Ob.grow' hO est4
  have h1 := (h1.fr (Fr.one est4) (fun q g1 g2 => (show ¬ (q = 8) from by omega))).up (Nat.le_succ _)
  have hF := hF.put' est4 (show 0 ≤ 8 from by omega)
  have hNew : Ob (9) st4 8 [.inr (3, dX3)] := Ob.one' est4
  refine ws_dup 19 C dX4_init_19 rfl ?_
  refine ws_callIN 20 C (c_X3_init (b := 8) hNew) dX4_init_20 vX4_9 rfl ⟨(Nat.le_of_ble_eq_true rfl), (Nat.le_of_ble_eq_true rfl)⟩ ⟨(Nat.le_of_ble_eq_true rfl), (Nat.le_of_ble_eq_true rfl)⟩ rfl (Nat.le_of_ble_eq_true rfl) rfl (kV (fun u4 hcall => ?_))
  obtain ⟨hnew, hfr⟩ := hcall
  clear hNew
  have hO := hO.frup hfr (show _ ≤ 15 from by omega) (fun q (g1 : 0 ≤ q) (g2 : q < 0 + 1) => (show ¬ (8 ≤ q) from by omega))
  have h1 := (h1.fr hfr (fun q g1 g2 => (show ¬ (8 ≤ q) from by omega))).up (show _ ≤ 15 from by omega)
  have hF := hF.then hfr (fun q (hq : 8 ≤ q) => (show 0 ≤ q from by omega))
  have h8 : ShP κ (15) u4 8 mu0 := hnew
  refine ws_putF 23 C dX4_init_23 fX4_16 q4_1 hin rfl hO rfl (Nat.le_of_ble_eq_true rfl) rfl rfl (fun st6 est6 => ?_)
  have h1 := h1.fr (Fr.one est6) (fun q g1 g2 => (show ¬ (q = 0) from by omega))
  have h8 := h8.fr (Fr.one est6) (fun q g1 g2 => (show ¬ (q = 0) from by omega))
  have hF := hF.put' est6 (show 0 ≤ 0 from by omega)
  have hO : Ob _ _ _ [.inr (4, [.ref (ad κ 1), .ref (ad κ 8), .null, .null, .null, .null, .null, .null])] := Ob.put' (j := 0) hO est6 rfl
  refine ws_aload_n 26 C dX4_init_26 rfl ?_
  refine ws_new (ci := 1) (Cn := RX1) (T := TX1) (N := 11) 27 C dX4_init_27 rfl iX1 tyX1 tyX1_ok k44 k45 k8 dX1 dX1_ok (Nat.le_of_ble_eq_true rfl) (Nat.le_of_ble_eq_true rfl) (wsE (fun st7 est7 => ?_))
  have hO := Ob.grow' hO est7
  have h1 := (h1.fr (Fr.one est7) (fun q g1 g2 => (show ¬ (q = 15) from by omega))).up (Nat.le_succ _)
  have h8 := (h8.fr (Fr.one est7) (fun q g1 g2 => (show ¬ (q = 15) from by omega))).up (Nat.le_succ _)
  have hF := hF.put' est7 (show 0 ≤ 15 from by omega)
  have hNew : Ob (16) st7 15 [.inr (1, dX1)] := Ob.one' est7
  refine ws_dup 30 C dX4_init_30 rfl ?_
  refine ws_callIN 31 C (c_X1_init (b := 15) hNew) dX4_init_31 vX4_21 rfl ⟨(Nat.le_of_ble_eq_true rfl), (Nat.le_of_ble_eq_true rfl)⟩ ⟨(Nat.le_of_ble_eq_true rfl), (Nat.le_of_ble_eq_true rfl)⟩ rfl (Nat.le_of_ble_eq_true rfl) rfl (kV (fun u7 hcall => ?_))
  obtain ⟨hnew, hfr⟩ := hcall
  clear hNew
  have hO := hO.frup hfr (show _ ≤ 22 from by omega) (fun q (g1 : 0 ≤ q) (g2 : q < 0 + 1) => (show ¬ (15 ≤ q) from by omega))
  have h1 := (h1.fr hfr (fun q g1 g2 => (show ¬ (15 ≤ q) from by omega))).up (show _ ≤ 22 from by omega)
  have h8 := (h8.fr hfr (fun q g1 g2 => (show ¬ (15 ≤ q) from by omega))).up (show _ ≤ 22 from by omega)
  have hF := hF.then hfr (fun q (hq : 15 ≤ q) => (show 0 ≤ q from by omega))
  have h15 : LyA κ (22) u7 15 := hnew
  refine ws_putF 34 C dX4_init_34 fX4_22 q4_2 hin rfl hO rfl (Nat.le_of_ble_eq_true rfl) rfl rfl (fun st9 est9 => ?_)
  have h1 := h1.fr (Fr.one est9) (fun q g1 g2 => (show ¬ (q = 0) from by omega))
  have h8 := h8.fr (Fr.one est9) (fun q g1 g2 => (show ¬ (q = 0) from by omega))
  have h15 := h15.fr (Fr.one est9) (fun q g1 g2 => (show ¬ (q = 0) from by omega))
  have hF := hF.put' est9 (show 0 ≤ 0 from by omega)
  have hO : Ob _ _ _ [.inr (4, [.ref (ad κ 1), .ref (ad κ 8), .ref (ad κ 15), .null, .null, .null, .null, .null])] := Ob.put' (j := 0) hO est9 rfl
  refine ws_aload_n 37 C dX4_init_37 rfl ?_
  refine ws_new (ci := 1) (Cn := RX1) (T := TX1) (N := 11) 38 C dX4_init_38 rfl iX1 tyX1 tyX1_ok k44 k45 k8 dX1 dX1_ok (Nat.le_of_ble_eq_true rfl) (Nat.le_of_ble_eq_true rfl) (wsE (fun st10 est10 => ?_))
  have hO := Ob.grow' hO est10
  have h1 := (h1.fr (Fr.one est10) (fun q g1 g2 => (show ¬ (q = 22) from by omega))).up (Nat.le_succ _)
  have h8 := (h8.fr (Fr.one est10) (fun q g1 g2 => (show ¬ (q = 22) from by omega))).up (Nat.le_succ _)
  have h15 := (h15.fr (Fr.one est10) (fun q g1 g2 => (show ¬ (q = 22) from by omega))).up (Nat.le_succ _)
  have hF := hF.put' est10 (show 0 ≤ 22 from by omega)
  have hNew : Ob (23) st10 22 [.inr (1, dX1)] := Ob.one' est10
  refine ws_dup 41 C dX4_init_41 rfl ?_
  refine ws_callIN 42 C (c_X1_init (b := 22) hNew) dX4_init_42 vX4_21 rfl ⟨(Nat.le_of_ble_eq_true rfl), (Nat.le_of_ble_eq_true rfl)⟩ ⟨(Nat.le_of_ble_eq_true rfl), (Nat.le_of_ble_eq_true rfl)⟩ rfl (Nat.le_of_ble_eq_true rfl) rfl (kV (fun u10 hcall => ?_))
  obtain ⟨hnew, hfr⟩ := hcall
  clear hNew
  have hO := hO.frup hfr (show _ ≤ 29 from by omega) (fun q (g1 : 0 ≤ q) (g2 : q < 0 + 1) => (show ¬ (22 ≤ q) from by omega))
  have h1 := (h1.fr hfr (fun q g1 g2 => (show ¬ (22 ≤ q) from by omega))).up (show _ ≤ 29 from by omega)
  have h8 := (h8.fr hfr (fun q g1 g2 => (show ¬ (22 ≤ q) from by omega))).up (show _ ≤ 29 from by omega)
  have h15 := (h15.fr hfr (fun q g1 g2 => (show ¬ (22 ≤ q) from by omega))).up (show _ ≤ 29 from by omega)
  have hF := hF.then hfr (fun q (hq : 22 ≤ q) => (show 0 ≤ q from by omega))
  have h22 : LyA κ (29) u10 22 := hnew
  refine ws_putF 45 C dX4_init_45 fX4_26 q4_3 hin rfl hO rfl (Nat.le_of_ble_eq_true rfl) rfl rfl (fun st12 est12 => ?_)
  have h1 := h1.fr (Fr.one est12) (fun q g1 g2 => (show ¬ (q = 0) from by omega))
  have h8 := h8.fr (Fr.one est12) (fun q g1 g2 => (show ¬ (q = 0) from by omega))
  have h15 := h15.fr (Fr.one est12) (fun q g1 g2 => (show ¬ (q = 0) from by omega))
  have h22 := h22.fr (Fr.one est12) (fun q g1 g2 => (show ¬ (q = 0) from by omega))
  have hF := hF.put' est12 (show 0 ≤ 0 from by omega)
  have hO : Ob _ _ _ [.inr (4, [.ref (ad κ 1), .ref (ad κ 8), .ref (ad κ 15), .ref (ad κ 22), .null, .null, .null, .null])] := Ob.put' (j := 0) hO est12 rfl
  refine ws_aload_n 48 C dX4_init_48 rfl ?_
  refine ws_new (ci := 2) (Cn := RX2) (T := TX2) (N := 2) 49 C dX4_init_49 rfl iX2 tyX2 tyX2_ok k63 k64 k9 dX2 dX2_ok (Nat.le_of_ble_eq_true rfl) (Nat.le_of_ble_eq_true rfl) (wsE (fun st13 est13 => ?_))
  have hO := Ob.grow' hO est13
  have h1 := (h1.fr (Fr.one est13) (fun q g1 g2 => (show ¬ (q = 29) from by omega))).up (Nat.le_succ _)
  have h8 := (h8.fr (Fr.one est13) (fun q g1 g2 => (show ¬ (q = 29) from by omega))).up (Nat.le_succ _)
  have h15 := (h15.fr (Fr.one est13) (fun q g1 g2 => (show ¬ (q = 29) from by omega))).up (Nat.le_succ _)
  have h22 := (h22.fr (Fr.one est13) (fun q g1 g2 => (show ¬ (q = 29) from by omega))).up (Nat.le_succ _)
  have hF := hF.put' est13 (show 0 ≤ 29 from by omega)
  have hNew : Ob (30) st13 29 [.inr (2, dX2)] := Ob.one' est13
  refine ws_dup 52 C dX4_init_52 rfl ?_
  refine ws_callIN 53 C (c_X2_init hNew) dX4_init_53 vX4_31 rfl ⟨(Nat.le_of_ble_eq_true rfl), (Nat.le_of_ble_eq_true rfl)⟩ ⟨(Nat.le_of_ble_eq_true rfl), (Nat.le_of_ble_eq_true rfl)⟩ rfl (Nat.le_of_ble_eq_true rfl) rfl (kV (fun u13 hcall => ?_))
  obtain ⟨hnew, hfr⟩ := hcall
  clear hNew
  have hO := hO.frup hfr (show _ ≤ 31 from by omega) (fun q (g1 : 0 ≤ q) (g2 : q < 0 + 1) => (show ¬ (29 ≤ q) from by omega))
  have h1 := (h1.fr hfr (fun q g1 g2 => (show ¬ (29 ≤ q) from by omega))).up (show _ ≤ 31 from by omega)
  have h8 := (h8.fr hfr (fun q g1 g2 => (show ¬ (29 ≤ q) from by omega))).up (show _ ≤ 31 from by omega)
  have h15 := (h15.fr hfr (fun q g1 g2 => (show ¬ (29 ≤ q) from by omega))).up (show _ ≤ 31 from by omega)
  have h22 := (h22.fr hfr (fun q g1 g2 => (show ¬ (29 ≤ q) from by omega))).up (show _ ≤ 31 from by omega)
  have hF := hF.then hfr (fun q (hq : 29 ≤ q) => (show 0 ≤ q from by omega))
  have h29 : PdA κ (31) u13 (fun _ => 0) 0 := hnew
  refine ws_putF 56 C dX4_init_56 fX4_32 q4_4 hin rfl hO rfl (Nat.le_of_ble_eq_true rfl) rfl rfl (fun st15 est15 => ?_)
  have h1 := h1.fr (Fr.one est15) (fun q g1 g2 => (show ¬ (q = 0) from by omega))
  have h8 := h8.fr (Fr.one est15) (fun q g1 g2 => (show ¬ (q = 0) from by omega))
  have h15 := h15.fr (Fr.one est15) (fun q g1 g2 => (show ¬ (q = 0) from by omega))
  have h22 := h22.fr (Fr.one est15) (fun q g1 g2 => (show ¬ (q = 0) from by omega))
  have h29 := h29.fr (Fr.one est15) (fun q g1 g2 => (show ¬ (q = 0) from by omega))
  have hF := hF.put' est15 (show 0 ≤ 0 from by omega)
  have hO : Ob _ _ _ [.inr (4, [.ref (ad κ 1), .ref (ad κ 8), .ref (ad κ 15), .ref (ad κ 22), .ref (ad κ 29), .null, .null, .null])] := Ob.put' (j := 0) hO est15 rfl
  refine ws_aload_n 59 C dX4_init_59 rfl ?_
  refine ws_new (ci := 0) (Cn := RX0) (T := TX0) (N := 3) 60 C dX4_init_60 rfl iX0 tyX0 tyX0_ok k72 k73 k10 dX0 dX0_ok (Nat.le_of_ble_eq_true rfl) (Nat.le_of_ble_eq_true rfl) (wsE (fun st16 est16 => ?_))
  have hO := Ob.grow' hO est16
  have h1 := (h1.fr (Fr.one est16) (fun q g1 g2 => (show ¬ (q = 31) from by omega))).up (Nat.le_succ _)
  have h8 := (h8.fr (Fr.one est16) (fun q g1 g2 => (show ¬ (q = 31) from by omega))).up (Nat.le_succ _)
  have h15 := (h15.fr (Fr.one est16) (fun q g1 g2 => (show ¬ (q = 31) from by omega))).up (Nat.le_succ _)
  have h22 := (h22.fr (Fr.one est16) (fun q g1 g2 => (show ¬ (q = 31) from by omega))).up (Nat.le_succ _)
  have h29 := (h29.fr (Fr.one est16) (fun q g1 g2 => (show ¬ (q = 31) from by omega))).up (Nat.le_succ _)
  have hF := hF.put' est16 (show 0 ≤ 31 from by omega)
  have hNew : Ob (32) st16 31 [.inr (0, dX0)] := Ob.one' est16
  refine ws_dup 63 C dX4_init_63 rfl ?_
  refine ws_callI 64 C (c_X0_init hNew) dX4_init_64 vX4_38 rfl ⟨(Nat.le_of_ble_eq_true rfl), (Nat.le_of_ble_eq_true rfl)⟩ ⟨(Nat.le_of_ble_eq_true rfl), (Nat.le_of_ble_eq_true rfl)⟩ rfl (Nat.le_of_ble_eq_true rfl) rfl (kV (fun u16 hcall => ?_))
  obtain ⟨hnew, hfr⟩ := hcall
  clear hNew
  have hO := hO.frup hfr (show _ ≤ 75 from by omega) (fun q (g1 : 0 ≤ q) (g2 : q < 0 + 1) => (show ¬ (31 ≤ q) from by omega))
  have h1 := (h1.fr hfr (fun q g1 g2 => (show ¬ (31 ≤ q) from by omega))).up (show _ ≤ 75 from by omega)
  have h8 := (h8.fr hfr (fun q g1 g2 => (show ¬ (31 ≤ q) from by omega))).up (show _ ≤ 75 from by omega)
  have h15 := (h15.fr hfr (fun q g1 g2 => (show ¬ (31 ≤ q) from by omega))).up (show _ ≤ 75 from by omega)
  have h22 := (h22.fr hfr (fun q g1 g2 => (show ¬ (31 ≤ q) from by omega))).up (show _ ≤ 75 from by omega)
  have h29 := (h29.fr hfr (fun q g1 g2 => (show ¬ (31 ≤ q) from by omega))).up (show _ ≤ 75 from by omega)
  have hF := hF.then hfr (fun q (hq : 31 ≤ q) => (show 0 ≤ q from by omega))
  have h31 : HsP κ (75) u16 (fun _ => mu0) 0 := hnew
  refine ws_putF 67 C dX4_init_67 fX4_39 q4_5 hin rfl hO rfl (Nat.le_of_ble_eq_true rfl) rfl rfl (fun st18 est18 => ?_)
  have h1 := h1.fr (Fr.one est18) (fun q g1 g2 => (show ¬ (q = 0) from by omega))
  have h8 := h8.fr (Fr.one est18) (fun q g1 g2 => (show ¬ (q = 0) from by omega))
  have h15 := h15.fr (Fr.one est18) (fun q g1 g2 => (show ¬ (q = 0) from by omega))
  have h22 := h22.fr (Fr.one est18) (fun q g1 g2 => (show ¬ (q = 0) from by omega))
  have h29 := h29.fr (Fr.one est18) (fun q g1 g2 => (show ¬ (q = 0) from by omega))
  have h31 := h31.fr (Fr.one est18) (fun q g1 g2 => (show ¬ (q = 0) from by omega))
  have hF := hF.put' est18 (show 0 ≤ 0 from by omega)
  have hO : Ob _ _ _ [.inr (4, [.ref (ad κ 1), .ref (ad κ 8), .ref (ad κ 15), .ref (ad κ 22), .ref (ad κ 29), .ref (ad κ 31), .null, .null])] := Ob.put' (j := 0) hO est18 rfl
  refine ws_aload_n 70 C dX4_init_70 rfl ?_
  refine ws_iconst 71 C dX4_init_71 (nI 2) (by decide) ?_
  refine ws_newq 72 C dX4_init_72 2 (by decide) (nI_clamp (by decide)) (by decide) k21 (Nat.le_of_ble_eq_true rfl) (Nat.le_of_ble_eq_true rfl) (wsE (fun st19 est19 => ?_))
  have hO := Ob.grow' hO est19
  have h1 := (h1.fr (Fr.one est19) (fun q g1 g2 => (show ¬ (q = 75) from by omega))).up (Nat.le_succ _)
  have h8 := (h8.fr (Fr.one est19) (fun q g1 g2 => (show ¬ (q = 75) from by omega))).up (Nat.le_succ _)
  have h15 := (h15.fr (Fr.one est19) (fun q g1 g2 => (show ¬ (q = 75) from by omega))).up (Nat.le_succ _)
  have h22 := (h22.fr (Fr.one est19) (fun q g1 g2 => (show ¬ (q = 75) from by omega))).up (Nat.le_succ _)
  have h29 := (h29.fr (Fr.one est19) (fun q g1 g2 => (show ¬ (q = 75) from by omega))).up (Nat.le_succ _)
  have h31 := (h31.fr (Fr.one est19) (fun q g1 g2 => (show ¬ (q = 75) from by omega))).up (Nat.le_succ _)
  have hF := hF.put' est19 (show 0 ≤ 75 from by omega)
  have hA75 : Ob (76) st19 75 [.inl (kS κ, 2, (.inr (.inr (.inr (.inr (fun _ => none))))))] := Ob.one' est19
  refine ws_dup 75 C dX4_init_75 rfl ?_
  refine ws_iconst 76 C dX4_init_76 (nI 0) (by decide) ?_
  refine ws_new (ci := 3) (Cn := RX3) (T := TX3) (N := 7) 77 C dX4_init_77 rfl iX3 tyX3 tyX3_ok k21 k22 k7 dX3 dX3_ok (Nat.le_of_ble_eq_true rfl) (Nat.le_of_ble_eq_true rfl) (wsE (fun st20 est20 => ?_))
  have hO := Ob.grow' hO est20
  have hA75 := Ob.grow' hA75 est20
  have h1 := (h1.fr (Fr.one est20) (fun q g1 g2 => (show ¬ (q = 76) from by omega))).up (Nat.le_succ _)
  have h8 := (h8.fr (Fr.one est20) (fun q g1 g2 => (show ¬ (q = 76) from by omega))).up (Nat.le_succ _)
  have h15 := (h15.fr (Fr.one est20) (fun q g1 g2 => (show ¬ (q = 76) from by omega))).up (Nat.le_succ _)
  have h22 := (h22.fr (Fr.one est20) (fun q g1 g2 => (show ¬ (q = 76) from by omega))).up (Nat.le_succ _)
  have h29 := (h29.fr (Fr.one est20) (fun q g1 g2 => (show ¬ (q = 76) from by omega))).up (Nat.le_succ _)
  have h31 := (h31.fr (Fr.one est20) (fun q g1 g2 => (show ¬ (q = 76) from by omega))).up (Nat.le_succ _)
  have hF := hF.put' est20 (show 0 ≤ 76 from by omega)
  have hNew : Ob (77) st20 76 [.inr (3, dX3)] := Ob.one' est20
  refine ws_dup 80 C dX4_init_80 rfl ?_
  refine ws_callIN 81 C (c_X3_init (b := 76) hNew) dX4_init_81 vX4_9 rfl ⟨(Nat.le_of_ble_eq_true rfl), (Nat.le_of_ble_eq_true rfl)⟩ ⟨(Nat.le_of_ble_eq_true rfl), (Nat.le_of_ble_eq_true rfl)⟩ rfl (Nat.le_of_ble_eq_true rfl) rfl (kV (fun u20 hcall => ?_))
  obtain ⟨hnew, hfr⟩ := hcall
  clear hNew
  have hO := hO.frup hfr (show _ ≤ 83 from by omega) (fun q (g1 : 0 ≤ q) (g2 : q < 0 + 1) => (show ¬ (76 ≤ q) from by omega))
  have hA75 := hA75.frup hfr (show _ ≤ 83 from by omega) (fun q (g1 : 75 ≤ q) (g2 : q < 75 + 1) => (show ¬ (76 ≤ q) from by omega))
  have h1 := (h1.fr hfr (fun q g1 g2 => (show ¬ (76 ≤ q) from by omega))).up (show _ ≤ 83 from by omega)
  have h8 := (h8.fr hfr (fun q g1 g2 => (show ¬ (76 ≤ q) from by omega))).up (show _ ≤ 83 from by omega)
  have h15 := (h15.fr hfr (fun q g1 g2 => (show ¬ (76 ≤ q) from by omega))).up (show _ ≤ 83 from by omega)
  have h22 := (h22.fr hfr (fun q g1 g2 => (show ¬ (76 ≤ q) from by omega))).up (show _ ≤ 83 from by omega)
  have h29 := (h29.fr hfr (fun q g1 g2 => (show ¬ (76 ≤ q) from by omega))).up (show _ ≤ 83 from by omega)
  have h31 := (h31.fr hfr (fun q g1 g2 => (show ¬ (76 ≤ q) from by omega))).up (show _ ≤ 83 from by omega)
  have hF := hF.then hfr (fun q (hq : 76 ≤ q) => (show 0 ≤ q from by omega))
  have h76 : ShP κ (83) u20 76 mu0 := hnew
  obtain ⟨f1, f2, f3, f4, f5, f6, hB3, -⟩ := id h76
  refine ws_aast 84 C dX4_init_84 hA75 0 rfl hB3 rfl (vp_in_nI (by decide) (by decide)) 0 (nI_clamp (by decide)) (fun st22 est22 => ?_)
  clear hB3
  have hO := hO.ne' (L := 1) est22 rfl (by omega)
  have h1 := h1.fr (Fr.one est22) (fun q g1 g2 => (show ¬ (q = 75) from by omega))
  have h8 := h8.fr (Fr.one est22) (fun q g1 g2 => (show ¬ (q = 75) from by omega))
  have h15 := h15.fr (Fr.one est22) (fun q g1 g2 => (show ¬ (q = 75) from by omega))
  have h22 := h22.fr (Fr.one est22) (fun q g1 g2 => (show ¬ (q = 75) from by omega))
  have h29 := h29.fr (Fr.one est22) (fun q g1 g2 => (show ¬ (q = 75) from by omega))
  have h31 := h31.fr (Fr.one est22) (fun q g1 g2 => (show ¬ (q = 75) from by omega))
  have h76 := h76.fr (Fr.one est22) (fun q g1 g2 => (show ¬ (q = 75) from by omega))
  have hF := hF.put' est22 (show 0 ≤ 75 from by omega)
  have hA75 : Ob _ _ _ [.inl (kS κ, 2, (.inr (.inr (.inr (.inr (va_up (fun _ => none) 0 (some (ad κ 76))))))))] := Ob.put' (j := 0) hA75 est22 rfl
  refine ws_dup 85 C dX4_init_85 rfl ?_
  refine ws_iconst 86 C dX4_init_86 (nI 1) (by decide) ?_
  refine ws_new (ci := 3) (Cn := RX3) (T := TX3) (N := 7) 87 C dX4_init_87 rfl iX3 tyX3 tyX3_ok k21 k22 k7 dX3 dX3_ok (Nat.le_of_ble_eq_true rfl) (Nat.le_of_ble_eq_true rfl) (wsE (fun st23 est23 => ?_))
  have hO := Ob.grow' hO est23
  have hA75 := Ob.grow' hA75 est23
  have h1 := (h1.fr (Fr.one est23) (fun q g1 g2 => (show ¬ (q = 83) from by omega))).up (Nat.le_succ _)
  have h8 := (h8.fr (Fr.one est23) (fun q g1 g2 => (show ¬ (q = 83) from by omega))).up (Nat.le_succ _)
  have h15 := (h15.fr (Fr.one est23) (fun q g1 g2 => (show ¬ (q = 83) from by omega))).up (Nat.le_succ _)
  have h22 := (h22.fr (Fr.one est23) (fun q g1 g2 => (show ¬ (q = 83) from by omega))).up (Nat.le_succ _)
  have h29 := (h29.fr (Fr.one est23) (fun q g1 g2 => (show ¬ (q = 83) from by omega))).up (Nat.le_succ _)
  have h31 := (h31.fr (Fr.one est23) (fun q g1 g2 => (show ¬ (q = 83) from by omega))).up (Nat.le_succ _)
  have h76 := (h76.fr (Fr.one est23) (fun q g1 g2 => (show ¬ (q = 83) from by omega))).up (Nat.le_succ _)
  have hF := hF.put' est23 (show 0 ≤ 83 from by omega)
  have hNew : Ob (84) st23 83 [.inr (3, dX3)] := Ob.one' est23
  refine ws_dup 90 C dX4_init_90 rfl ?_
  refine ws_callIN 91 C (c_X3_init (b := 83) hNew) dX4_init_91 vX4_9 rfl ⟨(Nat.le_of_ble_eq_true rfl), (Nat.le_of_ble_eq_true rfl)⟩ ⟨(Nat.le_of_ble_eq_true rfl), (Nat.le_of_ble_eq_true rfl)⟩ rfl (Nat.le_of_ble_eq_true rfl) rfl (kV (fun u23 hcall => ?_))
  obtain ⟨hnew, hfr⟩ := hcall
  clear hNew
  have hO := hO.frup hfr (show _ ≤ 90 from by omega) (fun q (g1 : 0 ≤ q) (g2 : q < 0 + 1) => (show ¬ (83 ≤ q) from by omega))
  have hA75 := hA75.frup hfr (show _ ≤ 90 from by omega) (fun q (g1 : 75 ≤ q) (g2 : q < 75 + 1) => (show ¬ (83 ≤ q) from by omega))
  have h1 := (h1.fr hfr (fun q g1 g2 => (show ¬ (83 ≤ q) from by omega))).up (show _ ≤ 90 from by omega)
  have h8 := (h8.fr hfr (fun q g1 g2 => (show ¬ (83 ≤ q) from by omega))).up (show _ ≤ 90 from by omega)
  have h15 := (h15.fr hfr (fun q g1 g2 => (show ¬ (83 ≤ q) from by omega))).up (show _ ≤ 90 from by omega)
  have h22 := (h22.fr hfr (fun q g1 g2 => (show ¬ (83 ≤ q) from by omega))).up (show _ ≤ 90 from by omega)
  have h29 := (h29.fr hfr (fun q g1 g2 => (show ¬ (83 ≤ q) from by omega))).up (show _ ≤ 90 from by omega)
  have h31 := (h31.fr hfr (fun q g1 g2 => (show ¬ (83 ≤ q) from by omega))).up (show _ ≤ 90 from by omega)
  have h76 := (h76.fr hfr (fun q g1 g2 => (show ¬ (83 ≤ q) from by omega))).up (show _ ≤ 90 from by omega)
  have hF := hF.then hfr (fun q (hq : 83 ≤ q) => (show 0 ≤ q from by omega))
  have h83 : ShP κ (90) u23 83 mu0 := hnew
  obtain ⟨f1, f2, f3, f4, f5, f6, hB3, -⟩ := id h83
  refine ws_aast 94 C dX4_init_94 hA75 0 rfl hB3 rfl (vp_in_nI (by decide) (by decide)) 1 (nI_clamp (by decide)) (fun st25 est25 => ?_)
  clear hB3
  have hO := hO.ne' (L := 1) est25 rfl (by omega)
  have h1 := h1.fr (Fr.one est25) (fun q g1 g2 => (show ¬ (q = 75) from by omega))
  have h8 := h8.fr (Fr.one est25) (fun q g1 g2 => (show ¬ (q = 75) from by omega))
  have h15 := h15.fr (Fr.one est25) (fun q g1 g2 => (show ¬ (q = 75) from by omega))
  have h22 := h22.fr (Fr.one est25) (fun q g1 g2 => (show ¬ (q = 75) from by omega))
  have h29 := h29.fr (Fr.one est25) (fun q g1 g2 => (show ¬ (q = 75) from by omega))
  have h31 := h31.fr (Fr.one est25) (fun q g1 g2 => (show ¬ (q = 75) from by omega))
  have h76 := h76.fr (Fr.one est25) (fun q g1 g2 => (show ¬ (q = 75) from by omega))
  have h83 := h83.fr (Fr.one est25) (fun q g1 g2 => (show ¬ (q = 75) from by omega))
  have hF := hF.put' est25 (show 0 ≤ 75 from by omega)
  have hA75 : Ob _ _ _ [.inl (kS κ, 2, (.inr (.inr (.inr (.inr (va_up (va_up (fun _ => none) 0 (some (ad κ 76))) 1 (some (ad κ 83))))))))] := Ob.put' (j := 0) hA75 est25 rfl
  refine ws_putF 95 C dX4_init_95 fX4_43 q4_6 hin rfl hO rfl (Nat.le_of_ble_eq_true rfl) rfl rfl (fun st26 est26 => ?_)
  have hA75 := hA75.ne' (L := 1) est26 rfl (by omega)
  have h1 := h1.fr (Fr.one est26) (fun q g1 g2 => (show ¬ (q = 0) from by omega))
  have h8 := h8.fr (Fr.one est26) (fun q g1 g2 => (show ¬ (q = 0) from by omega))
  have h15 := h15.fr (Fr.one est26) (fun q g1 g2 => (show ¬ (q = 0) from by omega))
  have h22 := h22.fr (Fr.one est26) (fun q g1 g2 => (show ¬ (q = 0) from by omega))
  have h29 := h29.fr (Fr.one est26) (fun q g1 g2 => (show ¬ (q = 0) from by omega))
  have h31 := h31.fr (Fr.one est26) (fun q g1 g2 => (show ¬ (q = 0) from by omega))
  have h76 := h76.fr (Fr.one est26) (fun q g1 g2 => (show ¬ (q = 0) from by omega))
  have h83 := h83.fr (Fr.one est26) (fun q g1 g2 => (show ¬ (q = 0) from by omega))
  have hF := hF.put' est26 (show 0 ≤ 0 from by omega)
  have hO : Ob _ _ _ [.inr (4, [.ref (ad κ 1), .ref (ad κ 8), .ref (ad κ 15), .ref (ad κ 22), .ref (ad κ 29), .ref (ad κ 31), .ref (ad κ 75), .null])] := Ob.put' (j := 0) hO est26 rfl
  refine ws_aload_n 98 C dX4_init_98 rfl ?_
  refine ws_iconst 99 C dX4_init_99 (nI 2) (by decide) ?_
  refine ws_newaZ 100 C dX4_init_100 2 (by decide) (nI_clamp (by decide)) (by decide) k93 (Nat.le_of_ble_eq_true rfl) (Nat.le_of_ble_eq_true rfl) (wsE (fun st27 est27 => ?_))
  have hO := Ob.grow' hO est27
  have hA75 := Ob.grow' hA75 est27
  have h1 := (h1.fr (Fr.one est27) (fun q g1 g2 => (show ¬ (q = 90) from by omega))).up (Nat.le_succ _)
  have h8 := (h8.fr (Fr.one est27) (fun q g1 g2 => (show ¬ (q = 90) from by omega))).up (Nat.le_succ _)
  have h15 := (h15.fr (Fr.one est27) (fun q g1 g2 => (show ¬ (q = 90) from by omega))).up (Nat.le_succ _)
  have h22 := (h22.fr (Fr.one est27) (fun q g1 g2 => (show ¬ (q = 90) from by omega))).up (Nat.le_succ _)
  have h29 := (h29.fr (Fr.one est27) (fun q g1 g2 => (show ¬ (q = 90) from by omega))).up (Nat.le_succ _)
  have h31 := (h31.fr (Fr.one est27) (fun q g1 g2 => (show ¬ (q = 90) from by omega))).up (Nat.le_succ _)
  have h76 := (h76.fr (Fr.one est27) (fun q g1 g2 => (show ¬ (q = 90) from by omega))).up (Nat.le_succ _)
  have h83 := (h83.fr (Fr.one est27) (fun q g1 g2 => (show ¬ (q = 90) from by omega))).up (Nat.le_succ _)
  have hF := hF.put' est27 (show 0 ≤ 90 from by omega)
  have hA90 : Ob (91) st27 90 [.inl (kZ κ, 2, .inl (fun _ => 0))] := Ob.one' est27
  refine ws_putF 102 C dX4_init_102 fX4_47 q4_7 hin rfl hO rfl (Nat.le_of_ble_eq_true rfl) rfl rfl (fun st28 est28 => ?_)
  have hA75 := hA75.ne' (L := 1) est28 rfl (by omega)
  have hA90 := hA90.ne' (L := 1) est28 rfl (by omega)
  have h1 := h1.fr (Fr.one est28) (fun q g1 g2 => (show ¬ (q = 0) from by omega))
  have h8 := h8.fr (Fr.one est28) (fun q g1 g2 => (show ¬ (q = 0) from by omega))
  have h15 := h15.fr (Fr.one est28) (fun q g1 g2 => (show ¬ (q = 0) from by omega))
  have h22 := h22.fr (Fr.one est28) (fun q g1 g2 => (show ¬ (q = 0) from by omega))
  have h29 := h29.fr (Fr.one est28) (fun q g1 g2 => (show ¬ (q = 0) from by omega))
  have h31 := h31.fr (Fr.one est28) (fun q g1 g2 => (show ¬ (q = 0) from by omega))
  have h76 := h76.fr (Fr.one est28) (fun q g1 g2 => (show ¬ (q = 0) from by omega))
  have h83 := h83.fr (Fr.one est28) (fun q g1 g2 => (show ¬ (q = 0) from by omega))
  have hF := hF.put' est28 (show 0 ≤ 0 from by omega)
  have hO : Ob _ _ _ [.inr (4, [.ref (ad κ 1), .ref (ad κ 8), .ref (ad κ 15), .ref (ad κ 22), .ref (ad κ 29), .ref (ad κ 31), .ref (ad κ 75), .ref (ad κ 90)])] := Ob.put' (j := 0) hO est28 rfl
  exact ws_vret 105 C dX4_init_105 rfl (Nat.le_of_ble_eq_true rfl) (Nat.le_of_ble_eq_true rfl) (by rw [hP]; exact ⟨rfl, ⟨⟨hO, h1, ⟨_, h8⟩, h15, h22, h29, h31, ⟨_, _, hA75, (fun i hi => match i, hi with | 0, _ => rfl | 1, _ => rfl | i + 2, hi => absurd hi (by omega)), hA90, (fun i hi => match i, hi with | 0, _ => ⟨rfl, by decide⟩ | 1, _ => ⟨rfl, by decide⟩ | i + 2, hi => absurd hi (by omega)), (fun i hi => match i, hi with | 0, _ => ⟨_, h76⟩ | 1, _ => ⟨_, h83⟩ | i + 2, hi => absurd hi (by omega)), (fun i _ h => absurd h (show ¬ (0 : Nat) = 1 from by decide))⟩⟩, hF⟩⟩)
end
